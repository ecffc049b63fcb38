theorem oq_29c6881a {a1 a3 a4 : Int} {n0 n2 : Nat} (h0 : (((n0 : Nat) : Int) + a1) ≤ (((n2 : Nat) : Int) + a3)) (h1 : (((n2 : Nat) : Int) + a4) ≤ (0 + a1)) : (((n0 : Nat) : Int) + a4) ≤ (0 + a3) := by omega
theorem oq_55c02037 {a0 a1 a2 : Int} (h0 : a0 ≤ a1) (h1 : (a2 + 1) ≤ a0) : a2 ≤ a1 := by omega
theorem oq_a9f6b064 {a0 a1 a2 a3 : Int} (h0 : (a0 + 1) ≤ a1) (h1 : (a2 + 1) ≤ a3) (h2 : a3 ≤ a0) : a2 ≤ a1 := by omega
theorem oq_077079e9 {a0 a1 a2 a3 a4 a5 a6 a7 : Int} (h0 : (a0 + 1) ≤ a1) (h1 : a2 ≤ a0) (h2 : (a3 + 1) ≤ a2) (h3 : a4 ≤ a3) (h4 : (a5 + 1) ≤ a4) (h5 : a6 ≤ a5) (h6 : a7 ≤ a6) : a7 ≤ a1 := by omega
theorem oq_2e52a9fc {a0 a1 a2 : Int} (h0 : a0 ≤ a1) (h1 : a2 < a0) : a2 ≤ a1 := by omega
theorem oq_2a237168 {a0 : Int} (h0 : a0 = 10631) : a0 ≠ 0 := by omega
theorem oq_89545388 {a0 a1 a2 a3 : Int} (h0 : a0 ≤ a1) (h1 : a2 ≤ a0) (h2 : a3 < a2) : a3 ≤ a1 := by omega
theorem oq_cb24c47c {a0 a1 a2 a3 : Int} (h0 : (a0 + 1) ≤ a1) (h1 : a2 ≤ a0) (h2 : (a3 + 1) ≤ a2) : a3 ≤ a1 := by omega
theorem oq_2701c8d0 {a0 a1 a2 a3 : Int} (h0 : a0 ≤ a1) (h1 : (a2 + 1) ≤ a0) (h2 : a3 ≤ a2) : a3 ≤ a1 := by omega
theorem oq_cdbb0055 {a0 : Int} (h0 : a0 = 1111) : a0 ≠ 0 := by omega
theorem oq_39cddf6a {a0 a1 a2 : Int} (h0 : a0 ≤ a1) (h1 : a2 < a0) : (a2 + 1) ≤ a1 := by omega
theorem oq_876da925 {n0 : Nat} (h0 : (¬ (n0 = 8))) (h1 : (¬ (n0 = 7))) (h2 : (¬ (n0 = 6))) (h3 : (¬ (n0 = 5))) (h4 : (¬ (n0 = 4))) (h5 : (¬ (n0 = 3))) (h6 : (¬ (n0 = 2))) (h7 : (¬ (n0 = 1))) (h8 : (¬ (n0 = 0))) : 9 ≤ n0 := by omega
theorem oq_888614d4 {a1 : Int} {n0 : Nat}  : (((n0 : Nat) : Int) + a1) ≤ (((n0 : Nat) : Int) + a1) := by omega
theorem oq_577e8028 {a0 : Int} (h0 : a0 = 423) : a0 ≠ 0 := by omega
theorem oq_833a901d {a0 a1 a2 : Int} (h0 : a0 = (-3)) (h1 : a0 = (-1)) : a1 < a2 := by omega
theorem oq_aded3bf6 {a0 a1 a2 : Int} (h0 : a0 = (-3)) (h1 : a0 = (-2)) : a1 = a2 := by omega
theorem oq_d8aec864 {a0 a1 a2 : Int} (h0 : a0 = (-3)) (h1 : a0 = (-2)) : a1 < a2 := by omega
theorem oq_5e29ff44 {a0 a1 : Int} (h0 : a0 ≠ (-3)) (h1 : a0 = (-3)) : a1 = 0 := by omega
theorem oq_766a7f94 {a0 a1 a2 : Int} (h0 : a0 = (-3)) (h1 : 0 ≤ a0) : a1 = a2 := by omega
theorem oq_b53d29f3 {a0 a1 a2 : Int} (h0 : a0 = (-3)) (h1 : 0 ≤ a0) : a1 < a2 := by omega
theorem oq_4b89d68f {a0 a1 a2 : Int} (h0 : a0 = (-1)) (h1 : a0 = (-2)) : a1 ≤ a2 := by omega
theorem oq_94c54584 {a0 a1 a2 : Int} (h0 : a0 = (-1)) (h1 : a0 = (-3)) : a1 ≤ a2 := by omega
theorem oq_a272534b {a0 a1 a2 : Int} (h0 : a0 ≤ a1) (h1 : a1 < a0) : a2 = (-1) := by omega
theorem oq_0fc1928a {a0 a1 a2 : Int} (h0 : a0 = (-1)) (h1 : 0 ≤ a0) : a1 ≤ a2 := by omega
theorem oq_7dccd8f8 {a0 : Int}  : (a0 + ((0 : Nat) : Int)) = a0 := by omega
theorem oq_3355ac01 {a0 : Int} {n1 : Nat}  : ((a0 + 1) + ((n1 : Nat) : Int)) = (a0 + (((n1 + 1) : Nat) : Int)) := by omega
theorem oq_0310acc4 {a0 a1 a2 : Int} {n3 : Nat} (h0 : (((27 * a0) + a1) - 96) = (((27 * a2) + ((n3 : Nat) : Int)) - 96)) (h1 : n3 ≤ 122) (h2 : 97 ≤ n3) (h3 : a1 ≤ 122) (h4 : 97 ≤ a1) : a0 = a2 := by omega
theorem oq_6ba43e52 {a0 a2 a3 : Int} {n1 : Nat} (h0 : a0 = ((n1 : Nat) : Int)) (h1 : a2 = a3) : (((27 * a2) + a0) - 96) = (((27 * a3) + ((n1 : Nat) : Int)) - 96) := by omega
theorem oq_69329974 {a1 : Int} {n0 : Nat} (h0 : 97 ≤ n0) (h1 : 0 ≤ a1) : 0 ≤ (((27 * a1) + ((n0 : Nat) : Int)) - 96) := by omega
theorem oq_d6f684dc {a1 : Int} {n0 : Nat} (h0 : 97 ≤ n0) : (27 * a1) ≤ (((27 * a1) + ((n0 : Nat) : Int)) - 96) := by omega
theorem oq_83b4aecf {a1 : Int} {n0 : Nat} (h0 : n0 ≤ 122) : ((((27 * a1) + ((n0 : Nat) : Int)) - 96) + 1) ≤ (27 * (a1 + 1)) := by omega
theorem oq_019f3820 {n0 : Nat} (h0 : 97 ≤ n0) : 0 ≤ (((27 * 0) + ((n0 : Nat) : Int)) - 96) := by omega
theorem oq_8bb137cc {n0 : Nat} (h0 : 97 ≤ n0) : 1 ≤ (((27 * 0) + ((n0 : Nat) : Int)) - 96) := by omega
theorem oq_6170a856 {a2 a3 : Int} {n0 n1 : Nat} (h0 : n0 < n1) (h1 : n1 = ((a2 - a3) : Int).toNat) : ((n0 : Nat) : Int) < (a2 - a3) := by omega
theorem oq_c2a3e3e7 {n0 : Nat} (h0 : 1 ≤ n0) : ((n0 - 1) + 1) = n0 := by omega
theorem oq_7e909c83 {n0 n1 n2 : Nat} (h0 : (n0 + 1) = n1) (h1 : n2 < n1) : n2 ≤ n0 := by omega
theorem oq_5a0a3210 {n0 n1 : Nat} (h0 : n0 < n1) : n1 = ((n1 - 1) + 1) := by omega
theorem oq_9e9718d4 {a2 a3 : Int} {n0 n1 : Nat} (h0 : n0 < (n1 + 1)) (h1 : (n1 + 1) = ((a2 - a3) : Int).toNat) : ((n0 : Nat) : Int) < (a2 - a3) := by omega
theorem oq_d08540b3 {n0 n1 : Nat} (h0 : n0 < (n1 + 1)) : n0 ≤ n1 := by omega
theorem oq_3b818c84 {a2 a3 : Int} {n0 n1 : Nat} (h0 : n0 = n1) (h1 : n0 = ((a2 - a3) : Int).toNat) (h2 : 1 ≤ n1) : (a2 - a3) = ((n1 : Nat) : Int) := by omega
theorem oq_8b9195ec {a3 a4 : Int} {n0 n1 n2 : Nat} (h0 : n0 < n1) (h1 : n2 = n1) (h2 : n2 = ((a3 - a4) : Int).toNat) (h3 : 1 ≤ n1) : ((n0 : Nat) : Int) < (a3 - a4) := by omega
theorem oq_0b763d6e {a0 a1 : Int} {n2 : Nat} (h0 : (a0 - a1) = ((n2 : Nat) : Int)) (h1 : n2 ≤ 6) : (a0 - a1) ≤ 6 := by omega
theorem oq_1bfa4003 {a0 a1 : Int} {n2 n3 : Nat} (h0 : (a0 - a1) = ((n2 : Nat) : Int)) (h1 : n3 = ((a0 - a1) : Int).toNat) (h2 : 1 ≤ n2) : n3 = n2 := by omega
theorem oq_90b433bc {a2 a3 : Int} {n0 n1 : Nat} (h0 : n0 < n1) (h1 : (a2 - a3) = ((n1 : Nat) : Int)) : ((n0 : Nat) : Int) < (a2 - a3) := by omega
theorem oq_b19b3c62 {a0 a1 a2 : Int} (h0 : a0 ≤ a1) (h1 : a2 = a1) : a0 ≤ a2 := by omega
theorem oq_cd19f1be {a2 a3 a4 a5 : Int} {n0 n1 : Nat} (h0 : (((n0 + n1) : Nat) : Int) = a2) (h1 : (((n1 : Nat) : Int) + a3) ≤ (0 + a4)) (h2 : a5 = a4) : (a2 + a3) ≤ (((n0 : Nat) : Int) + a5) := by omega
theorem oq_987e8792 {a1 a2 a3 a4 : Int} {n0 : Nat} (h0 : ((n0 : Nat) : Int) = a1) (h1 : (a2 + a3) ≤ (((n0 : Nat) : Int) + a4)) : (a2 + a3) ≤ (a1 + a4) := by omega
theorem oq_ab547e64 {n0 : Nat} (h0 : n0 ≤ 6) : n0 < 2147483648 := by omega
theorem oq_0e63082e {a1 : Int} {n0 : Nat} (h0 : n0 ≤ 6) (h1 : a1 < ((n0 : Nat) : Int)) : (a1 : Int).toNat < 2147483648 := by omega
theorem oq_0052fd4b {a2 : Int} {n0 n1 : Nat} (h0 : n0 < n1) (h1 : ((n1 : Nat) : Int) ≤ a2) : ((n0 : Nat) : Int) < a2 := by omega
theorem oq_84096910 {a1 : Int} {n0 : Nat} (h0 : ((n0 : Nat) : Int) = a1) : (a1 : Int).toNat = n0 := by omega
theorem oq_4c11a142 {a0 a1 a2 : Int} (h0 : a0 ≠ (-2)) (h1 : ((48 ≤ a1 ∧ (a1 ≤ 57 ∧ a0 = (-2))) ∨ ((97 ≤ a1 ∧ (a1 ≤ 122 ∧ a0 = (-3))) ∨ ((a1 < 48 ∨ 57 < a1) ∧ ((a1 < 97 ∨ 122 < a1) ∧ a0 = a1))))) (h2 : a1 = a2) : (a2 < 48 ∨ 57 < a2) := by omega
theorem oq_f8c315e7 {a0 a1 a2 : Int} (h0 : a0 = a1) (h1 : 0 ≤ a0) (h2 : a2 = (-2)) (h3 : ((48 ≤ a0 ∧ (a0 ≤ 57 ∧ a2 = (-2))) ∨ ((97 ≤ a0 ∧ (a0 ≤ 122 ∧ a2 = (-3))) ∨ ((a0 < 48 ∨ 57 < a0) ∧ ((a0 < 97 ∨ 122 < a0) ∧ a2 = a0))))) : 48 ≤ a1 := by omega
theorem oq_04c21aed {a0 a1 a2 : Int} (h0 : a0 = a1) (h1 : a2 = (-2)) (h2 : ((48 ≤ a0 ∧ (a0 ≤ 57 ∧ a2 = (-2))) ∨ ((97 ≤ a0 ∧ (a0 ≤ 122 ∧ a2 = (-3))) ∨ ((a0 < 48 ∨ 57 < a0) ∧ ((a0 < 97 ∨ 122 < a0) ∧ a2 = a0))))) : a1 ≤ 57 := by omega
theorem oq_71ebf448 {a0 a1 a2 : Int} (h0 : a0 ≠ (-3)) (h1 : ((48 ≤ a1 ∧ (a1 ≤ 57 ∧ a0 = (-2))) ∨ ((97 ≤ a1 ∧ (a1 ≤ 122 ∧ a0 = (-3))) ∨ ((a1 < 48 ∨ 57 < a1) ∧ ((a1 < 97 ∨ 122 < a1) ∧ a0 = a1))))) (h2 : a1 = a2) : (a2 < 97 ∨ 122 < a2) := by omega
theorem oq_5b217426 {a0 a1 a2 : Int} (h0 : a0 = (-3)) (h1 : ((48 ≤ a1 ∧ (a1 ≤ 57 ∧ a0 = (-2))) ∨ ((97 ≤ a1 ∧ (a1 ≤ 122 ∧ a0 = (-3))) ∨ ((a1 < 48 ∨ 57 < a1) ∧ ((a1 < 97 ∨ 122 < a1) ∧ a0 = a1))))) (h2 : a1 = a2) (h3 : 0 ≤ a1) : 97 ≤ a2 := by omega
theorem oq_91cac45a {a0 a1 a2 : Int} (h0 : a0 = (-3)) (h1 : ((48 ≤ a1 ∧ (a1 ≤ 57 ∧ a0 = (-2))) ∨ ((97 ≤ a1 ∧ (a1 ≤ 122 ∧ a0 = (-3))) ∨ ((a1 < 48 ∨ 57 < a1) ∧ ((a1 < 97 ∨ 122 < a1) ∧ a0 = a1))))) (h2 : a1 = a2) : a2 ≤ 122 := by omega
theorem oq_1c47a2ed {a0 a1 a2 a3 a4 a5 : Int} (h0 : a0 = a1) (h1 : a1 = a2) (h2 : a2 = a3) (h3 : a4 = a3) (h4 : a5 ≤ a4) : a5 ≤ a0 := by omega
theorem oq_91431ca4 {a0 a1 : Int} (h0 : a0 = (-3)) (h1 : a0 = (-1)) : 0 = a1 := by omega
theorem oq_4d605a58 {a0 a1 : Int} (h0 : a0 = (-3)) (h1 : a0 = (-1)) : 97 ≤ a1 := by omega
theorem oq_c1933220 {a0 a1 : Int} (h0 : a0 = (-3)) (h1 : a0 = (-1)) : a1 ≤ 122 := by omega
theorem oq_08dba046 {a0 a1 a2 : Int} (h0 : a0 = a1) (h1 : a1 = a2) (h2 : a2 = 1) : a0 = 1 := by omega
theorem oq_71104170 {a0 a1 a2 a3 : Int} (h0 : a0 ≠ (-2)) (h1 : a0 = a1) (h2 : ((48 ≤ a2 ∧ (a2 ≤ 57 ∧ a1 = (-2))) ∨ ((97 ≤ a2 ∧ (a2 ≤ 122 ∧ a1 = (-3))) ∨ ((a2 < 48 ∨ 57 < a2) ∧ ((a2 < 97 ∨ 122 < a2) ∧ a1 = a2))))) (h3 : a2 = a3) : (a3 < 48 ∨ 57 < a3) := by omega
theorem oq_77a6fad2 {a0 a1 a2 a3 : Int} (h0 : (-3) ≤ a0) (h1 : a0 ≠ (-3)) (h2 : a0 = a1) (h3 : ((48 ≤ a2 ∧ (a2 ≤ 57 ∧ a1 = (-2))) ∨ ((97 ≤ a2 ∧ (a2 ≤ 122 ∧ a1 = (-3))) ∨ ((a2 < 48 ∨ 57 < a2) ∧ ((a2 < 97 ∨ 122 < a2) ∧ a1 = a2))))) (h4 : a2 = a3) : (a3 < 97 ∨ 122 < a3) := by omega
theorem oq_bd4c20f9 {a0 a1 a2 a3 a4 : Int} (h0 : a0 = a1) (h1 : (-3) ≤ a1) (h2 : a1 ≠ (-3)) (h3 : a1 ≠ (-2)) (h4 : a1 = a2) (h5 : ((48 ≤ a3 ∧ (a3 ≤ 57 ∧ a2 = (-2))) ∨ ((97 ≤ a3 ∧ (a3 ≤ 122 ∧ a2 = (-3))) ∨ ((a3 < 48 ∨ 57 < a3) ∧ ((a3 < 97 ∨ 122 < a3) ∧ a2 = a3))))) (h6 : a3 = a4) : a0 = a4 := by omega
theorem oq_0151ace5 {a0 a1 a2 a3 a4 a5 a6 : Int} (h0 : a0 = a1) (h1 : a1 = a2) (h2 : a2 = a3) (h3 : a3 = a4) (h4 : a5 = a4) (h5 : a6 ≤ a5) : a6 ≤ a0 := by omega
theorem oq_2ceea1be {a0 a1 a2 a3 : Int} (h0 : a0 = (-3)) (h1 : a0 = a1) (h2 : ((48 ≤ a2 ∧ (a2 ≤ 57 ∧ a1 = (-2))) ∨ ((97 ≤ a2 ∧ (a2 ≤ 122 ∧ a1 = (-3))) ∨ ((a2 < 48 ∨ 57 < a2) ∧ ((a2 < 97 ∨ 122 < a2) ∧ a1 = a2))))) (h3 : a2 = a3) (h4 : 0 ≤ a2) : 97 ≤ a3 := by omega
theorem oq_ad40dd6a {a0 a1 a2 a3 : Int} (h0 : a0 = (-3)) (h1 : a0 = a1) (h2 : ((48 ≤ a2 ∧ (a2 ≤ 57 ∧ a1 = (-2))) ∨ ((97 ≤ a2 ∧ (a2 ≤ 122 ∧ a1 = (-3))) ∨ ((a2 < 48 ∨ 57 < a2) ∧ ((a2 < 97 ∨ 122 < a2) ∧ a1 = a2))))) (h3 : a2 = a3) : a3 ≤ 122 := by omega
theorem oq_8857860a {a0 a1 a2 a3 : Int} (h0 : a0 = (-2)) (h1 : a0 = a1) (h2 : ((48 ≤ a2 ∧ (a2 ≤ 57 ∧ a1 = (-2))) ∨ ((97 ≤ a2 ∧ (a2 ≤ 122 ∧ a1 = (-3))) ∨ ((a2 < 48 ∨ 57 < a2) ∧ ((a2 < 97 ∨ 122 < a2) ∧ a1 = a2))))) (h3 : a2 = a3) (h4 : 0 ≤ a2) : 48 ≤ a3 := by omega
theorem oq_110bba4a {a0 a1 a2 a3 : Int} (h0 : a0 = (-2)) (h1 : a0 = a1) (h2 : ((48 ≤ a2 ∧ (a2 ≤ 57 ∧ a1 = (-2))) ∨ ((97 ≤ a2 ∧ (a2 ≤ 122 ∧ a1 = (-3))) ∨ ((a2 < 48 ∨ 57 < a2) ∧ ((a2 < 97 ∨ 122 < a2) ∧ a1 = a2))))) (h3 : a2 = a3) : a3 ≤ 57 := by omega
theorem oq_87a00ba2 {a0 a1 a2 a3 a4 : Int} (h0 : a0 = a1) (h1 : a1 = a2) (h2 : a2 = a3) (h3 : a3 = a4) (h4 : a4 = 1) : a0 = 1 := by omega
theorem oq_43acfa2e {n0 : Nat} (h0 : n0 ≤ 6) : ((n0 : Nat) : Int) ≤ 100 := by omega
theorem oq_d309d017 {a1 : Int} {n0 : Nat} (h0 : n0 ≤ 6) (h1 : a1 ≤ ((n0 : Nat) : Int)) : a1 ≤ 2147483647 := by omega
theorem oq_bd876a7e {a0 a1 : Int} {n2 : Nat} (h0 : a0 ≤ a1) (h1 : a0 = ((n2 : Nat) : Int)) : ((n2 : Nat) : Int) ≤ a1 := by omega
theorem oq_9f0f98dc {a0 a1 a3 a4 : Int} {n2 : Nat} (h0 : a0 < a1) (h1 : a1 = ((n2 : Nat) : Int)) (h2 : a3 ≤ 200) (h3 : (a3 - a4) = ((n2 : Nat) : Int)) : (a4 + a0) < 200 := by omega
theorem oq_809444bf {a0 a1 a3 a4 : Int} {n2 : Nat} (h0 : a0 < a1) (h1 : a1 = ((n2 : Nat) : Int)) (h2 : a3 ≤ 200) (h3 : (a3 - a4) = ((n2 : Nat) : Int)) : ((a4 + a0) : Int).toNat < 200 := by omega
theorem oq_be838240 {a0 a1 : Int} {n2 : Nat} (h0 : a0 < a1) (h1 : a1 = ((n2 : Nat) : Int)) : a0 < ((n2 : Nat) : Int) := by omega
theorem oq_561da051 {a0 a1 a2 : Int} (h0 : a0 = a1) : (a1 + a2) = (a0 + a2) := by omega
theorem oq_42f51fb0 {a0 a1 : Int} {n2 : Nat} (h0 : a0 < a1) (h1 : a1 = ((n2 : Nat) : Int)) : (a0 + 1) ≤ ((n2 : Nat) : Int) := by omega
theorem oq_5a4484c6 {a0 a1 : Int} {n2 n3 : Nat} (h0 : a0 < a1) (h1 : a1 = ((n2 : Nat) : Int)) (h2 : ((((n2 : Nat) : Int) - a0) : Int).toNat < (n3 + 1)) : ((((n2 : Nat) : Int) - (a0 + 1)) : Int).toNat < n3 := by omega
theorem oq_79509ac9 {a0 a1 : Int} {n2 n3 : Nat} (h0 : a0 < a1) (h1 : a1 = ((n2 : Nat) : Int)) (h2 : n2 = n3) : a0 < ((n3 : Nat) : Int) := by omega
theorem oq_417c0650 {a1 : Int} {n0 n2 : Nat} (h0 : ((n0 : Nat) : Int) < 0) : a1 = ((n2 : Nat) : Int) := by omega
theorem oq_8312cbba {a0 a1 a2 : Int} {n3 : Nat} (h0 : (a0 - a1) = a2) (h1 : a2 = ((n3 : Nat) : Int)) : (a0 - a1) = ((n3 : Nat) : Int) := by omega
theorem oq_a6176bf3 {a0 a1 : Int} {n2 n3 : Nat} (h0 : (a0 - a1) = ((n2 : Nat) : Int)) (h1 : n2 = n3) : (a0 - a1) = ((n3 : Nat) : Int) := by omega
theorem oq_4f71942c {a1 : Int} {n0 n2 : Nat} (h0 : ((n0 : Nat) : Int) ≤ a1) (h1 : n0 = n2) : ((n2 : Nat) : Int) ≤ a1 := by omega
theorem oq_45900da9 {a0 a1 a2 : Int} {n3 n4 : Nat} (h0 : (a0 - a1) ≠ a2) (h1 : a2 = ((n3 : Nat) : Int)) (h2 : n3 = n4) : (a0 - a1) ≠ ((n4 : Nat) : Int) := by omega
theorem oq_04e65eb9 {a0 : Int} (h0 : 6 ≤ a0) (h1 : a0 ≤ 6) : a0 = 6 := by omega
theorem oq_ad97cb82 {a0 a1 : Int} (h0 : a0 = 0) (h1 : ((a0 = 1 ∧ a1 = 454132) ∨ (a0 = 0 ∧ a1 ≠ 454132))) : a1 ≠ 454132 := by omega
theorem oq_a8c840ef {a0 a1 : Int} (h0 : a0 = 0) (h1 : ((a0 = 1 ∧ a1 = 1960084) ∨ (a0 = 0 ∧ a1 ≠ 1960084))) : a1 ≠ 1960084 := by omega
theorem oq_d26081cf {a0 a1 : Int} (h0 : a0 = 0) (h1 : ((a0 = 1 ∧ a1 = 311436) ∨ (a0 = 0 ∧ a1 ≠ 311436))) : a1 ≠ 311436 := by omega
theorem oq_0184709e {a0 a1 : Int} (h0 : a0 = 0) (h1 : ((a0 = 1 ∧ a1 = 1837433) ∨ (a0 = 0 ∧ a1 ≠ 1837433))) : a1 ≠ 1837433 := by omega
theorem oq_96dc29c9 {a0 a1 : Int} (h0 : a0 = 0) (h1 : ((a0 = 1 ∧ a1 = 1701829) ∨ (a0 = 0 ∧ a1 ≠ 1701829))) : a1 ≠ 1701829 := by omega
theorem oq_b9048318 {a0 a1 : Int} (h0 : a0 = 0) (h1 : ((a0 = 1 ∧ a1 = 9176) ∨ (a0 = 0 ∧ a1 ≠ 9176))) : a1 ≠ 9176 := by omega
theorem oq_8c401242 {a0 a1 : Int} (h0 : a0 = 0) (h1 : ((a0 = 1 ∧ a1 = 234466237) ∨ (a0 = 0 ∧ a1 ≠ 234466237))) : a1 ≠ 234466237 := by omega
theorem oq_fc187291 {a0 a1 : Int} (h0 : a0 ≠ 0) (h1 : ((a0 = 1 ∧ a1 = 234466237) ∨ (a0 = 0 ∧ a1 ≠ 234466237))) : a1 = 234466237 := by omega
theorem oq_5586e968 {a0 a1 : Int} (h0 : a0 ≠ 0) (h1 : ((a0 = 1 ∧ a1 = 9176) ∨ (a0 = 0 ∧ a1 ≠ 9176))) : a1 = 9176 := by omega
theorem oq_2ceb8c71 {a0 a1 : Int} (h0 : a0 ≠ 0) (h1 : ((a0 = 1 ∧ a1 = 1701829) ∨ (a0 = 0 ∧ a1 ≠ 1701829))) : a1 = 1701829 := by omega
theorem oq_d1e4303c {a0 a1 : Int} (h0 : a0 ≠ 0) (h1 : ((a0 = 1 ∧ a1 = 1837433) ∨ (a0 = 0 ∧ a1 ≠ 1837433))) : a1 = 1837433 := by omega
theorem oq_73d0f93c {a0 a1 : Int} (h0 : a0 ≠ 0) (h1 : ((a0 = 1 ∧ a1 = 311436) ∨ (a0 = 0 ∧ a1 ≠ 311436))) : a1 = 311436 := by omega
theorem oq_432de3fa {a0 a1 : Int} (h0 : a0 ≠ 0) (h1 : ((a0 = 1 ∧ a1 = 1960084) ∨ (a0 = 0 ∧ a1 ≠ 1960084))) : a1 = 1960084 := by omega
theorem oq_d072f72b {a0 a1 : Int} (h0 : a0 ≠ 0) (h1 : ((a0 = 1 ∧ a1 = 454132) ∨ (a0 = 0 ∧ a1 ≠ 454132))) : a1 = 454132 := by omega
theorem oq_8d31f6d5 {a0 a1 : Int} (h0 : ((a0 = (-13) ∧ a1 = 6476969) ∨ (a0 = (-14) ∧ a1 = 267347))) : (a1 = 6476969 ∨ a1 = 267347) := by omega
theorem oq_cd169699 {a0 : Int} (h0 : a0 = (-3)) : a0 ≠ (-2) := by omega
theorem oq_773678d9 {a0 : Int} (h0 : (6 - a0) ≤ ((0 : Nat) : Int)) : 6 ≤ a0 := by omega
theorem oq_f447e429 {a0 a1 a2 a3 a4 a5 a6 : Int} (h0 : a0 = 0) (h1 : ((a0 = 0 ∧ (a1 = 6 ∧ a2 = 3)) ∨ (a0 = 1 ∧ (a1 ≤ 5 ∧ (a3 = (a1 + 1) ∧ (a4 = a5 ∧ a6 ≤ a4)))))) : a2 = 3 := by omega
theorem oq_4547f4f6 {a0 a1 a2 a3 : Int} (h0 : a0 = a1) (h1 : a2 ≤ a3) (h2 : a3 ≤ a0) : a2 ≤ a1 := by omega
theorem oq_39ccb767 {a0 a1 a2 a3 a4 a5 a6 a7 : Int} (h0 : a0 = 0) (h1 : ((a0 = 0 ∧ (a1 = 6 ∧ a2 = 3)) ∨ (a0 = 1 ∧ (a1 ≤ 5 ∧ (a3 = (a1 + 1) ∧ (a4 = a5 ∧ a6 ≤ a4)))))) (h2 : a1 = a7) : 6 ≤ a7 := by omega
theorem oq_b6b913de {a0 a1 a2 : Int} (h0 : a0 = 0) (h1 : a0 ≠ 0) : a1 = a2 := by omega
theorem oq_8c6baba9 {a0 a1 a2 a3 a4 a5 a6 a7 : Int} (h0 : a0 ≠ 0) (h1 : ((a0 = 0 ∧ (a1 = 6 ∧ a2 = 3)) ∨ (a0 = 1 ∧ (a1 ≤ 5 ∧ (a3 = (a1 + 1) ∧ (a4 = a5 ∧ a6 ≤ a4)))))) (h2 : a1 = a7) : a7 < 6 := by omega
theorem oq_c513eb87 {a0 a1 : Int} (h0 : a0 = 1) (h1 : a0 = 0) : a1 = 1 := by omega
theorem oq_274988eb {a0 a1 a2 a3 a4 a5 a6 a7 a8 a9 a10 a11 a12 a13 a14 : Int} (h0 : a0 = a1) (h1 : a2 ≠ 0) (h2 : (a2 = 0 ∨ (a2 = 1 ∧ (a1 = a3 ∧ (a4 ≤ a5 ∧ (a5 ≤ a6 ∧ (a7 + a4) ≤ (a8 + a5))))))) (h3 : a9 ≠ 0) (h4 : ((a9 = 0 ∧ (a10 = 6 ∧ a11 = 3)) ∨ (a9 = 1 ∧ (a10 ≤ 5 ∧ (a3 = (a10 + 1) ∧ (a4 = a12 ∧ a13 ≤ a4)))))) (h5 : a10 = a14) : a0 = (a14 + 1) := by omega
theorem oq_41f9e8ef {a0 a1 a2 a3 a4 a5 a6 a7 a8 a9 a10 a11 a12 a13 a14 a15 a16 a17 a18 a19 a20 a21 : Int} (h0 : a0 = a1) (h1 : a2 ≠ 0) (h2 : (a2 = 0 ∨ (a2 = 1 ∧ (a1 = a3 ∧ (a4 ≤ a5 ∧ (a5 ≤ a6 ∧ (a7 + a4) ≤ (a8 + a5))))))) (h3 : a3 = a9) (h4 : a10 ≠ 0) (h5 : (a10 = 0 ∨ (a10 = 1 ∧ (a9 = a11 ∧ (a12 ≤ a13 ∧ (a13 ≤ a6 ∧ (a14 + a12) ≤ (a15 + a13))))))) (h6 : a16 ≠ 0) (h7 : ((a16 = 0 ∧ (a17 = 6 ∧ a18 = 3)) ∨ (a16 = 1 ∧ (a17 ≤ 5 ∧ (a11 = (a17 + 1) ∧ (a12 = a19 ∧ a20 ≤ a12)))))) (h8 : a17 = a21) (h9 : 0 ≤ a21) : 0 ≤ (a0 - 1) := by omega
theorem oq_7cfe1c72 {a0 a1 : Int} (h0 : ((a0 = (-13) ∧ a1 = 6476969) ∨ (a0 = (-14) ∧ a1 = 267347))) : (-2147483648) ≤ a0 := by omega
theorem oq_86c07893 {a0 a1 : Int} (h0 : ((a0 = (-13) ∧ a1 = 6476969) ∨ (a0 = (-14) ∧ a1 = 267347))) : a0 ≤ 2147483647 := by omega
theorem oq_0a90133d {a0 a1 a2 a3 a4 a5 a6 a7 a8 a9 a10 a11 a12 a13 a14 a15 a16 a17 a18 a19 a20 a21 a22 a23 a24 a25 a26 a27 a28 a29 a30 : Int} (h0 : a0 = a1) (h1 : a2 ≠ 0) (h2 : a1 = a3) (h3 : a4 ≤ 200) (h4 : (a2 = 0 ∨ (a2 = 1 ∧ a5 < a4))) (h5 : a6 ≠ 0) (h6 : (a6 = 0 ∨ (a6 = 1 ∧ (a7 = a8 ∧ (a9 ≤ a5 ∧ (a5 ≤ a10 ∧ (a3 + a9) ≤ (a11 + a5))))))) (h7 : a12 ≠ 0) (h8 : a11 = a13) (h9 : (a12 = 0 ∨ (a12 = 1 ∧ a14 < a9))) (h10 : a15 ≠ 0) (h11 : (a15 = 0 ∨ (a15 = 1 ∧ (a16 = a17 ∧ (a18 ≤ a14 ∧ (a14 ≤ a10 ∧ (a13 + a18) ≤ (a19 + a14))))))) (h12 : a20 ≠ 0) (h13 : a19 = a21) (h14 : ((a20 = 0 ∧ (a22 = 6 ∧ a23 = 3)) ∨ (a20 = 1 ∧ (a22 ≤ 5 ∧ (a17 = (a22 + 1) ∧ (a18 = a24 ∧ a25 ≤ a18)))))) (h15 : a25 = (a26 + 1)) (h16 : a27 = a26) (h17 : a21 = a28) (h18 : a29 ≤ a27) (h19 : a28 ≤ a30) (h20 : a30 ≤ a29) : a0 ≤ 199 := by omega
theorem oq_46b3e003 {a0 a1 a2 : Int} (h0 : a0 ≠ 0) (h1 : (a0 = 0 ∨ (a0 = 1 ∧ a1 < a2))) : a0 = 1 := by omega
theorem oq_32334554 {a0 : Int} (h0 : a0 = 267347) : (¬ (a0 = 6476969)) := by omega
theorem oq_9b53b610 {a0 a1 a2 a3 a4 a5 a6 a7 a8 a9 a10 a11 a12 a13 a14 a15 a16 a17 a18 a19 a20 a21 a22 a23 : Int} (h0 : a0 = a1) (h1 : a1 = (a2 - 1)) (h2 : a2 = a3) (h3 : a4 ≠ 0) (h4 : (a4 = 0 ∨ (a4 = 1 ∧ (a3 = a5 ∧ (a6 ≤ a7 ∧ (a7 ≤ a8 ∧ (a9 + a6) ≤ (a10 + a7))))))) (h5 : a5 = a11) (h6 : a12 ≠ 0) (h7 : (a12 = 0 ∨ (a12 = 1 ∧ (a11 = a13 ∧ (a14 ≤ a15 ∧ (a15 ≤ a8 ∧ (a16 + a14) ≤ (a17 + a15))))))) (h8 : a18 ≠ 0) (h9 : ((a18 = 0 ∧ (a19 = 6 ∧ a20 = 3)) ∨ (a18 = 1 ∧ (a19 ≤ 5 ∧ (a13 = (a19 + 1) ∧ (a14 = a21 ∧ a22 ≤ a14)))))) (h10 : a19 = a23) : a0 = a23 := by omega
theorem oq_859751c8 {a0 a1 a2 a3 a4 a5 a6 a7 a8 a9 : Int} (h0 : a0 ≠ 0) (h1 : a1 ≤ 6) (h2 : (a0 = 0 ∨ (a0 = 1 ∧ (a1 = a2 ∧ (a3 ≤ a4 ∧ (a4 ≤ a5 ∧ (a6 + a3) ≤ (a7 + a4))))))) (h3 : a2 = a8) (h4 : a8 = a9) (h5 : (6 - a9) ≤ ((0 : Nat) : Int)) : a1 = a9 := by omega
theorem oq_932a7f8c {a0 a1 : Int} (h0 : a0 ≠ (-20)) (h1 : ((a0 = (-20) ∧ a1 = 0) ∨ ((-7) ≤ a0 ∧ (a0 ≤ (-1) ∧ a1 = a0)))) : a1 ≠ 0 := by omega
theorem oq_53bd2106 {a0 a1 a2 a3 a4 a5 a6 a7 : Int} (h0 : a0 = a1) (h1 : a2 = (-3)) (h2 : a3 = a4) (h3 : a4 = a5) (h4 : a5 = a6) (h5 : a0 ≤ 200) (h6 : (a2 = (-3) → (a0 = a1 ∧ a7 < a1))) (h7 : a6 ≤ a7) : a3 ≤ 199 := by omega
theorem oq_1219f188 {a0 a1 a2 : Int} (h0 : a0 = 0) (h1 : ((a0 = 1 ∧ a1 = 267347) ∨ (a0 = 0 ∧ a1 ≠ 267347))) (h2 : a2 = 0) (h3 : ((a2 = 1 ∧ a1 = 6476969) ∨ (a2 = 0 ∧ a1 ≠ 6476969))) : (¬ ((a1 = 6476969 ∨ a1 = 267347))) := by omega
theorem oq_148ff907 {a0 a1 : Int} (h0 : a0 ≠ (-20)) (h1 : ((a0 = (-20) ∧ a1 = 0) ∨ ((-7) ≤ a0 ∧ (a0 ≤ (-1) ∧ a1 = a0)))) : a0 = a1 := by omega
theorem oq_d3044831 {a0 a1 : Int} (h0 : a0 = (-20)) (h1 : ((a0 = (-20) ∧ a1 = 0) ∨ ((-7) ≤ a0 ∧ (a0 ≤ (-1) ∧ a1 = a0)))) : a1 = 0 := by omega
theorem oq_e81e9899 {a0 a1 a2 a3 a4 a5 a6 a7 a8 a9 a10 : Int} (h0 : a0 ≠ 0) (h1 : a1 ≤ 6) (h2 : (a0 = 0 ∨ (a0 = 1 ∧ (a1 = a2 ∧ (a3 ≤ a4 ∧ (a4 ≤ a5 ∧ (a6 + a3) ≤ (a7 + a4))))))) (h3 : a2 = a8) (h4 : a8 = a9) (h5 : a9 = a10) (h6 : (6 - a10) ≤ ((0 : Nat) : Int)) : a1 = a10 := by omega
theorem oq_2a39d009 {a0 a1 a2 a3 : Int} (h0 : a0 = (a1 + 1)) (h1 : a2 = a3) (h2 : a0 ≤ a2) : a1 ≤ a3 := by omega
theorem oq_61d43e47 {a0 a1 : Int} (h0 : 999 < a0) (h1 : a0 = a1) : 999 < a1 := by omega
theorem oq_753e7540 {a0 a1 a2 a3 a4 a5 a6 a7 a8 a9 : Int} (h0 : a0 ≠ 0) (h1 : (a0 = 0 ∨ (a0 = 1 ∧ (a1 = a2 ∧ (a3 ≤ a4 ∧ (a4 ≤ a5 ∧ (a6 + a3) ≤ (a7 + a4))))))) (h2 : a2 = a8) (h3 : a8 = a9) : a1 = a9 := by omega
theorem oq_b131d121 {a0 a1 a2 a3 a4 a5 a6 a7 a8 a9 a10 : Int} (h0 : a0 ≠ 0) (h1 : (a0 = 0 ∨ (a0 = 1 ∧ (a1 = a2 ∧ (a3 ≤ a4 ∧ (a4 ≤ a5 ∧ (a6 + a3) ≤ (a7 + a4))))))) (h2 : a2 = a8) (h3 : a8 = a9) (h4 : a9 = a10) : a1 = a10 := by omega
theorem oq_8a8a8b53 {a0 a1 a2 a3 a4 a5 a6 : Int} (h0 : a0 = 0) (h1 : ((a0 = 0 ∧ (a1 = 6 ∧ a2 = 3)) ∨ (a0 = 1 ∧ (a1 ≤ 5 ∧ (a3 = (a1 + 1) ∧ (a4 = a5 ∧ a6 ≤ a4)))))) : 6 ≤ a1 := by omega
theorem oq_48b8ce49 {a0 a1 a2 a3 a4 a5 a6 : Int} (h0 : a0 ≠ 0) (h1 : ((a0 = 0 ∧ (a1 = 6 ∧ a2 = 3)) ∨ (a0 = 1 ∧ (a1 ≤ 5 ∧ (a3 = (a1 + 1) ∧ (a4 = a5 ∧ a6 ≤ a4)))))) : a1 < 6 := by omega
theorem oq_1e86b1cf {a0 a1 : Int} (h0 : ((a0 ≠ 42 ∧ a1 = (-12)) ∨ (a0 = 42 ∧ a1 = (-11)))) : (-12) ≤ a1 := by omega
theorem oq_643b08c5 {a0 a1 : Int} (h0 : ((a0 ≠ 42 ∧ a1 = (-12)) ∨ (a0 = 42 ∧ a1 = (-11)))) : a1 ≤ (-11) := by omega
theorem oq_8610766d {a0 a1 a2 a3 a4 a5 a6 a7 a8 a9 a10 a11 a12 a13 a14 : Int} (h0 : a0 = a1) (h1 : a2 = (a3 + 1)) (h2 : a4 ≠ 0) (h3 : (a4 = 0 ∨ (a4 = 1 ∧ (a5 = a6 ∧ (a7 ≤ a1 ∧ (a1 ≤ a8 ∧ (a3 + a7) ≤ (a9 + a1))))))) (h4 : a9 = a10) (h5 : a11 ≤ a7) (h6 : a11 = (a12 + 1)) (h7 : (a10 + a13) ≤ (a14 + a12)) : (a2 + a13) ≤ (a14 + a0) := by omega
theorem oq_1044a270 {a0 : Int} {n1 : Nat} (h0 : a0 < 200) (h1 : ((200 - a0) : Int).toNat < (n1 + 1)) : ((200 - (a0 + 1)) : Int).toNat < n1 := by omega
theorem oq_117cb67b {a0 a1 : Int} (h0 : ((a0 ≠ 43 ∧ a1 = (-10)) ∨ (a0 = 43 ∧ a1 = (-9)))) : (-10) ≤ a1 := by omega
theorem oq_7b84d585 {a0 a1 : Int} (h0 : ((a0 ≠ 43 ∧ a1 = (-10)) ∨ (a0 = 43 ∧ a1 = (-9)))) : a1 ≤ (-9) := by omega
theorem oq_6b35a257 {a0 a1 : Int} (h0 : a0 ≠ 91) (h1 : a0 = a1) : a1 ≠ 91 := by omega
theorem oq_c7109223 {a0 a1 : Int} (h0 : a0 = 0) (h1 : ((a0 = 1 ∧ a1 = 10631) ∨ (a0 = 0 ∧ a1 ≠ 10631))) : a1 ≠ 10631 := by omega
theorem oq_fbaaf04f {a0 a1 a2 a3 a4 a5 a6 a7 a8 a9 a10 a11 a12 a13 a14 a15 a16 a17 : Int} (h0 : a0 ≠ 0) (h1 : a1 ≤ 200) (h2 : (a0 = 0 ∨ (a0 = 1 ∧ (a2 = a3 ∧ (a4 ≤ a1 ∧ (a1 ≤ a5 ∧ (a6 + a4) ≤ (a7 + a1))))))) (h3 : a7 = a8) (h4 : a9 ≤ a4) (h5 : a9 = (a10 + 1)) (h6 : a11 ≠ 0) (h7 : (a11 = 0 ∨ (a11 = 1 ∧ (a12 = a13 ∧ (a14 ≤ a10 ∧ (a10 ≤ a5 ∧ (a8 + a14) ≤ (a15 + a10))))))) (h8 : a15 = a16) (h9 : a14 = a17) (h10 : a16 ≤ a17) : a6 ≤ 199 := by omega
theorem oq_05ce1c1f {a0 a1 a2 a3 a4 a5 a6 a7 : Int} (h0 : a0 ≠ 0) (h1 : (a0 = 0 ∨ (a0 = 1 ∧ (a1 = a2 ∧ (a3 ≤ a4 ∧ (a4 ≤ a5 ∧ (a6 + a3) ≤ (a7 + a4))))))) : a0 = 1 := by omega
theorem oq_1f9a5ade {a0 a1 : Int} (h0 : a0 = 91) (h1 : a0 = a1) : a1 = 91 := by omega
theorem oq_dbf81109 {a0 a1 : Int} (h0 : a0 ≠ 0) (h1 : ((a0 = 1 ∧ a1 = 10631) ∨ (a0 = 0 ∧ a1 ≠ 10631))) : a1 = 10631 := by omega
theorem oq_a22cec24 {a0 a1 a2 : Int} (h0 : a0 = (a1 + 1)) (h1 : a2 = a0) : a2 = (a1 + 1) := by omega
theorem oq_be786901 {a0 a1 a2 a3 a4 a5 a6 a7 a8 a9 a10 a11 a12 a13 a14 a15 a16 a17 a18 a19 : Int} (h0 : a0 = a1) (h1 : a2 ≠ 0) (h2 : a3 ≤ 200) (h3 : (a2 = 0 ∨ (a2 = 1 ∧ (a4 = a5 ∧ (a6 ≤ a3 ∧ (a3 ≤ a7 ∧ (a1 + a6) ≤ (a8 + a3))))))) (h4 : a9 ≠ 0) (h5 : a8 = a10) (h6 : ((a9 = 0 ∧ (a11 = 6 ∧ a12 = 3)) ∨ (a9 = 1 ∧ (a11 ≤ 5 ∧ (a5 = (a11 + 1) ∧ (a6 = a13 ∧ a14 ≤ a6)))))) (h7 : a15 = a16) (h8 : a17 = (-3)) (h9 : a10 = a18) (h10 : a14 = a15) (h11 : (a17 = (-3) → (a15 = a16 ∧ a19 < a16))) (h12 : a18 ≤ a19) : a0 ≤ 199 := by omega
theorem oq_2f90b774 {a0 a1 a2 a3 a4 a5 a6 : Int} (h0 : 200 ≤ a0) (h1 : (a1 ≠ (-3) → a2 = 0)) (h2 : (a1 = (-3) → (a3 = a4 ∧ a5 < a4))) (h3 : (-3) ≤ a1) (h4 : a3 ≤ 200) (h5 : (a0 + a6) ≤ a5) (h6 : 0 ≤ a6) : a2 ≠ 1111 := by omega
theorem oq_93539c94 {a0 a1 : Int} (h0 : a0 ≠ 0) (h1 : ((a0 = 1 ∧ a1 = 1111) ∨ (a0 = 0 ∧ a1 ≠ 1111))) : a1 = 1111 := by omega
theorem oq_b15b1233 {a0 a1 a2 a3 a4 a5 a6 a7 a8 a9 a10 a11 a12 a13 a14 a15 : Int} (h0 : a0 ≠ 0) (h1 : a1 ≤ 200) (h2 : (a0 = 0 ∨ (a0 = 1 ∧ (a2 = a3 ∧ (a4 ≤ a1 ∧ (a1 ≤ a5 ∧ (a6 + a4) ≤ (a7 + a1))))))) (h3 : a7 = a8) (h4 : a9 ≤ a4) (h5 : a10 < a11) (h6 : a12 = a11) (h7 : a8 = a13) (h8 : a9 = a12) (h9 : (a13 + a14) ≤ (a15 + a10)) (h10 : a15 ≤ a14) : a6 ≤ 199 := by omega
theorem oq_f35f2c93 {a0 a1 a2 a3 a4 a5 a6 a7 a8 a9 a10 a11 a12 a13 a14 a15 a16 a17 : Int} (h0 : a0 = a1) (h1 : a2 = (a3 + 1)) (h2 : a4 ≠ 0) (h3 : (a4 = 0 ∨ (a4 = 1 ∧ (a5 = a6 ∧ (a7 ≤ a1 ∧ (a1 ≤ a8 ∧ (a3 + a7) ≤ (a9 + a1))))))) (h4 : a9 = a10) (h5 : a11 ≤ a7) (h6 : a12 < a13) (h7 : a14 = a13) (h8 : a10 = a15) (h9 : a11 = a14) (h10 : (a15 + a16) ≤ (a17 + a12)) : (a2 + a16) ≤ (a17 + a0) := by omega
theorem oq_467da83b {a0 a1 a2 a3 a4 a5 a6 a7 a8 a9 a10 a11 a12 a13 a14 : Int} (h0 : a0 = a1) (h1 : a2 ≠ 0) (h2 : (a2 = 0 ∨ (a2 = 1 ∧ (a3 = a4 ∧ (a5 ≤ a1 ∧ (a1 ≤ a6 ∧ (a7 + a5) ≤ (a8 + a1))))))) (h3 : a9 ≤ a5) (h4 : a10 < a11) (h5 : a12 = a11) (h6 : a9 = a12) (h7 : (a13 + a14) ≤ a10) : ((a13 + 1) + a14) ≤ a0 := by omega
theorem oq_61a10799 {a0 a1 a2 a3 a4 a5 a6 : Int} (h0 : 200 ≤ a0) (h1 : (a1 ≠ (-3) → a2 = 0)) (h2 : (a1 = (-3) → (a3 = a4 ∧ a5 < a4))) (h3 : (-3) ≤ a1) (h4 : a3 ≤ 200) (h5 : (a0 + a6) ≤ a5) (h6 : 0 ≤ a6) : a2 ≠ 423 := by omega
theorem oq_5cf0ac3a {a0 a1 : Int} (h0 : a0 ≠ 0) (h1 : ((a0 = 1 ∧ a1 = 423) ∨ (a0 = 0 ∧ a1 ≠ 423))) : a1 = 423 := by omega

theorem oq_207bd060 {a0 a1 a2 : Int} (h0 : ((a0 = 0 ∧ a1 = a2) ∨ ((a0 ≠ 0 ∧ (a2 < 97 ∧ a1 = a2)) ∨ ((a0 ≠ 0 ∧ (97 ≤ a2 ∧ (122 < a2 ∧ a1 = a2))) ∨ (a0 ≠ 0 ∧ (97 ≤ a2 ∧ (a2 ≤ 122 ∧ a1 = (-3)))))))) (h1 : a2 < 48) : ((48 ≤ a2 ∧ (a2 ≤ 57 ∧ a1 = (-2))) ∨ ((97 ≤ a2 ∧ (a2 ≤ 122 ∧ a1 = (-3))) ∨ ((a2 < 48 ∨ 57 < a2) ∧ ((a2 < 97 ∨ 122 < a2) ∧ a1 = a2)))) := by omega
theorem oq_1b35d216 {a0 a1 a2 : Int} (h0 : ((a0 = 0 ∧ a1 = a2) ∨ ((a0 ≠ 0 ∧ (a2 < 97 ∧ a1 = a2)) ∨ ((a0 ≠ 0 ∧ (97 ≤ a2 ∧ (122 < a2 ∧ a1 = a2))) ∨ (a0 ≠ 0 ∧ (97 ≤ a2 ∧ (a2 ≤ 122 ∧ a1 = (-3)))))))) (h1 : 57 < a2) (h2 : a0 = 1) : ((48 ≤ a2 ∧ (a2 ≤ 57 ∧ a1 = (-2))) ∨ ((97 ≤ a2 ∧ (a2 ≤ 122 ∧ a1 = (-3))) ∨ ((a2 < 48 ∨ 57 < a2) ∧ ((a2 < 97 ∨ 122 < a2) ∧ a1 = a2)))) := by omega
theorem oq_55e138cf {a0 a1 a2 a3 : Int} (h0 : ((a0 = 100000 ∧ 100000 ≤ (((a1 * 10) + a2) - 48)) ∨ (a0 = (((a1 * 10) + a2) - 48) ∧ (((a1 * 10) + a2) - 48) < 100000))) (h1 : 0 ≤ a2) (h2 : 0 ≤ a1) (h3 : a3 = (-2)) (h4 : ((48 ≤ a2 ∧ (a2 ≤ 57 ∧ a3 = (-2))) ∨ ((97 ≤ a2 ∧ (a2 ≤ 122 ∧ a3 = (-3))) ∨ ((a2 < 48 ∨ 57 < a2) ∧ ((a2 < 97 ∨ 122 < a2) ∧ a3 = a2))))) : 0 ≤ a0 := by omega
theorem oq_15d471aa {a0 a1 : Int} (h0 : a0 = a1) (h1 : a1 = (-3)) (h2 : (-3) ≤ a1) : a0 = (-3) := by omega
theorem oq_b09a1c90 {a0 a1 a2 : Int} (h0 : a0 = (-3)) (h1 : a0 = (-1)) : a1 = a2 := by omega
theorem oq_45711fbe {a0 a1 : Int} (h0 : ((48 ≤ a0 ∧ (a0 ≤ 57 ∧ a1 = (-2))) ∨ ((97 ≤ a0 ∧ (a0 ≤ 122 ∧ a1 = (-3))) ∨ ((a0 < 48 ∨ 57 < a0) ∧ ((a0 < 97 ∨ 122 < a0) ∧ a1 = a0))))) (h1 : 0 ≤ a0) : (-3) ≤ a1 := by omega
theorem oq_d9dda619 {a0 a1 : Int} (h0 : ((48 ≤ a0 ∧ (a0 ≤ 57 ∧ a1 = (-2))) ∨ ((97 ≤ a0 ∧ (a0 ≤ 122 ∧ a1 = (-3))) ∨ ((a0 < 48 ∨ 57 < a0) ∧ ((a0 < 97 ∨ 122 < a0) ∧ a1 = a0))))) (h1 : a0 ≤ 255) : a1 ≤ 255 := by omega
theorem oq_76b27918 {a0 a1 a2 a3 a4 : Int} (h0 : a0 = (-1)) (h1 : a0 = a1) (h2 : ((48 ≤ a2 ∧ (a2 ≤ 57 ∧ a1 = (-2))) ∨ ((97 ≤ a2 ∧ (a2 ≤ 122 ∧ a1 = (-3))) ∨ ((a2 < 48 ∨ 57 < a2) ∧ ((a2 < 97 ∨ 122 < a2) ∧ a1 = a2))))) (h3 : 0 ≤ a2) : a3 = a4 := by omega
theorem oq_eaa884a5 {a0 a1 a2 a3 a4 : Int} (h0 : a0 = (-1)) (h1 : a0 = a1) (h2 : ((48 ≤ a2 ∧ (a2 ≤ 57 ∧ a1 = (-2))) ∨ ((97 ≤ a2 ∧ (a2 ≤ 122 ∧ a1 = (-3))) ∨ ((a2 < 48 ∨ 57 < a2) ∧ ((a2 < 97 ∨ 122 < a2) ∧ a1 = a2))))) (h3 : 0 ≤ a2) : a3 ≤ a4 := by omega
theorem oq_c4f7fe85 {a0 : Int} (h0 : a0 = 1) : a0 ≤ 1 := by omega
theorem oq_8406d934 {a0 a1 a2 a3 a4 : Int} (h0 : (a0 - a1) = a2) (h1 : a0 = a3) (h2 : a1 = a4) : (a3 - a4) = a2 := by omega
theorem oq_d8a0e68d {a0 : Int} (h0 : 200 ≤ a0) (h1 : a0 ≤ 199) : a0 = (a0 + 1) := by omega
theorem oq_72a45466 {a0 a1 a2 a3 a4 a5 a6 a7 : Int} {n8 : Nat} (h0 : a0 ≠ 0) (h1 : ((a0 = 0 ∧ (a1 = 6 ∧ a2 = 3)) ∨ (a0 = 1 ∧ (a1 ≤ 5 ∧ (a3 = (a1 + 1) ∧ (a4 = a5 ∧ a6 ≤ a4)))))) (h2 : a1 = a7) (h3 : (6 - a7) ≤ (((n8 + 1) : Nat) : Int)) : (6 - a3) ≤ ((n8 : Nat) : Int) := by omega
theorem oq_8ca3b03a {a0 a1 a2 a3 a4 a5 a6 a7 a8 a9 a10 a11 a12 : Int} (h0 : a0 ≠ 0) (h1 : a1 = a2) (h2 : ((a0 = 0 ∧ (a3 = 6 ∧ a4 = 3)) ∨ (a0 = 1 ∧ (a3 ≤ 5 ∧ (a5 = (a3 + 1) ∧ (a6 = a7 ∧ a8 ≤ a6)))))) (h3 : a2 = a9) (h4 : a10 ≤ a11) (h5 : a11 ≤ a8) (h6 : a9 ≤ a12) (h7 : a12 ≤ a10) : a1 ≤ a6 := by omega
theorem oq_60a36124 {a0 a1 a2 a3 a4 a5 a6 a7 : Int} (h0 : a0 ≠ 0) (h1 : ((a0 = 0 ∧ (a1 = 6 ∧ a2 = 3)) ∨ (a0 = 1 ∧ (a1 ≤ 5 ∧ (a3 = (a1 + 1) ∧ (a4 = a5 ∧ a6 ≤ a4)))))) (h2 : a1 = a7) : a3 = (a7 + 1) := by omega
theorem oq_1f39b54f {a0 a1 a2 a3 a4 a5 a6 a7 a8 a9 a10 a11 a12 a13 a14 a15 : Int} (h0 : a0 ≠ 0) (h1 : (a0 = 0 ∨ (a0 = 1 ∧ (a1 = a2 ∧ (a3 ≤ a4 ∧ (a4 ≤ a5 ∧ (a6 + a3) ≤ (a7 + a4))))))) (h2 : a8 ≠ 0) (h3 : ((a8 = 0 ∧ (a9 = 6 ∧ a10 = 3)) ∨ (a8 = 1 ∧ (a9 ≤ 5 ∧ (a2 = (a9 + 1) ∧ (a3 = a11 ∧ a12 ≤ a3)))))) (h4 : a13 ≤ a14) (h5 : a14 ≤ a12) (h6 : a15 ≤ a13) : a15 ≤ a5 := by omega
theorem oq_b1cec700 {a0 a1 a2 a3 a4 a5 a6 a7 a8 a9 a10 a11 a12 a13 a14 : Int} {n15 : Nat} (h0 : a0 = a1) (h1 : a2 ≠ 0) (h2 : (a2 = 0 ∨ (a2 = 1 ∧ (a1 = a3 ∧ (a4 ≤ a5 ∧ (a5 ≤ a6 ∧ (a7 + a4) ≤ (a8 + a5))))))) (h3 : a9 ≠ 0) (h4 : ((a9 = 0 ∧ (a10 = 6 ∧ a11 = 3)) ∨ (a9 = 1 ∧ (a10 ≤ 5 ∧ (a3 = (a10 + 1) ∧ (a4 = a12 ∧ a13 ≤ a4)))))) (h5 : a10 = a14) (h6 : (6 - a14) ≤ (((n15 + 1) : Nat) : Int)) : (6 - a0) ≤ ((n15 : Nat) : Int) := by omega
theorem oq_6e17e74f {a0 a1 a2 a3 a4 a5 a6 a7 a8 a9 a10 a11 a12 a13 a14 a15 a16 a17 a18 a19 a20 : Int} (h0 : a0 ≠ 0) (h1 : a1 = a2) (h2 : (a0 = 0 ∨ (a0 = 1 ∧ a3 < a4))) (h3 : a5 ≠ 0) (h4 : (a5 = 0 ∨ (a5 = 1 ∧ (a6 = a7 ∧ (a8 ≤ a3 ∧ (a3 ≤ a9 ∧ (a2 + a8) ≤ (a10 + a3))))))) (h5 : a11 ≠ 0) (h6 : a10 = a12) (h7 : ((a11 = 0 ∧ (a13 = 6 ∧ a14 = 3)) ∨ (a11 = 1 ∧ (a13 ≤ 5 ∧ (a7 = (a13 + 1) ∧ (a8 = a15 ∧ a16 ≤ a8)))))) (h8 : a12 = a17) (h9 : a18 ≤ a19) (h10 : a19 ≤ a16) (h11 : a17 ≤ a20) (h12 : a20 ≤ a18) : a1 ≤ a4 := by omega
theorem oq_4532ddbf {a0 a1 a2 a3 a4 a5 a6 a7 a8 a9 a10 a11 a12 a13 a14 a15 a16 a17 a18 a19 a20 a21 a22 a23 : Int} (h0 : a0 ≠ 0) (h1 : (a0 = 0 ∨ (a0 = 1 ∧ (a1 = a2 ∧ (a3 ≤ a4 ∧ (a4 ≤ a5 ∧ (a6 + a3) ≤ (a7 + a4))))))) (h2 : a8 ≠ 0) (h3 : (a8 = 0 ∨ (a8 = 1 ∧ a9 < a3))) (h4 : a10 ≠ 0) (h5 : (a10 = 0 ∨ (a10 = 1 ∧ (a11 = a12 ∧ (a13 ≤ a9 ∧ (a9 ≤ a5 ∧ (a14 + a13) ≤ (a15 + a9))))))) (h6 : a16 ≠ 0) (h7 : ((a16 = 0 ∧ (a17 = 6 ∧ a18 = 3)) ∨ (a16 = 1 ∧ (a17 ≤ 5 ∧ (a12 = (a17 + 1) ∧ (a13 = a19 ∧ a20 ≤ a13)))))) (h8 : a21 ≤ a22) (h9 : a22 ≤ a20) (h10 : a23 ≤ a21) : a23 ≤ a5 := by omega
theorem oq_9dd6f593 {a0 a1 a2 a3 : Int} (h0 : a0 = 0) (h1 : ((a0 = 1 ∧ a1 = 6476969) ∨ (a0 = 0 ∧ a1 ≠ 6476969))) (h2 : a2 ≠ 0) (h3 : ((a2 = 1 ∧ a1 = 6476969) ∨ (a2 = 0 ∧ a1 ≠ 6476969))) : (((-14) = (-13) ∧ a3 = 6476969) ∨ ((-14) = (-14) ∧ a3 = 267347)) := by omega
theorem oq_a0a77773 {a0 a1 a2 a3 a4 a5 a6 a7 : Int} (h0 : (a0 = 0 ∨ (a0 = 1 ∧ (a1 = a2 ∧ (a3 ≤ a4 ∧ (a4 ≤ a5 ∧ (a6 + a3) ≤ (a7 + a4))))))) : (a0 = 0 ∨ a0 = 1) := by omega
theorem oq_82452333 {a0 a1 a2 a3 a4 : Int} (h0 : a0 = 0) (h1 : ((a0 = 1 ∧ a1 = 6476969) ∨ (a0 = 0 ∧ a1 ≠ 6476969))) (h2 : a2 ≠ 0) (h3 : ((a2 = 1 ∧ a1 = 6476969) ∨ (a2 = 0 ∧ a1 ≠ 6476969))) : a3 ≤ a4 := by omega
theorem oq_6c3824d5 {a0 a1 a2 a3 a4 : Int} (h0 : a0 = 0) (h1 : ((a0 = 1 ∧ a1 = 6476969) ∨ (a0 = 0 ∧ a1 ≠ 6476969))) (h2 : a2 ≠ 0) (h3 : ((a2 = 1 ∧ a1 = 6476969) ∨ (a2 = 0 ∧ a1 ≠ 6476969))) : a3 = a4 := by omega
theorem oq_477ae4c3 {a0 a1 a2 : Int} (h0 : a0 = a1) (h1 : a2 ≠ 0) (h2 : ((a2 = 1 ∧ a1 = 6476969) ∨ (a2 = 0 ∧ a1 ≠ 6476969))) : (((-13) = (-13) ∧ a0 = 6476969) ∨ ((-13) = (-14) ∧ a0 = 267347)) := by omega
theorem oq_2da1d2e6 {a0 a1 : Int} (h0 : ((a0 = (-20) ∧ a1 = 0) ∨ ((-7) ≤ a0 ∧ (a0 ≤ (-1) ∧ a1 = a0)))) : (-2147483648) ≤ a0 := by omega
theorem oq_ff24c752 {a0 a1 : Int} (h0 : ((a0 = (-20) ∧ a1 = 0) ∨ ((-7) ≤ a0 ∧ (a0 ≤ (-1) ∧ a1 = a0)))) : a0 ≤ 2147483647 := by omega
theorem oq_d81af618 {a0 a1 a2 : Int} (h0 : a0 = a1) (h1 : a2 ≠ 0) (h2 : ((a2 = 1 ∧ a1 = 267347) ∨ (a2 = 0 ∧ a1 ≠ 267347))) : (((-14) = (-13) ∧ a0 = 6476969) ∨ ((-14) = (-14) ∧ a0 = 267347)) := by omega
theorem oq_48540d0e {a0 a1 a2 a3 : Int} (h0 : a0 ≠ 0) (h1 : ((a0 = 1 ∧ a1 = 6476969) ∨ (a0 = 0 ∧ a1 ≠ 6476969))) (h2 : a2 ≠ 0) (h3 : ((a2 = 1 ∧ a1 = 267347) ∨ (a2 = 0 ∧ a1 ≠ 267347))) : (((-13) = (-13) ∧ a3 = 6476969) ∨ ((-13) = (-14) ∧ a3 = 267347)) := by omega
theorem oq_a2ffbee5 {a0 a1 a2 a3 : Int} (h0 : a0 ≠ 0) (h1 : ((a0 = 1 ∧ a1 = 6476969) ∨ (a0 = 0 ∧ a1 ≠ 6476969))) (h2 : a2 ≠ 0) (h3 : ((a2 = 1 ∧ a1 = 267347) ∨ (a2 = 0 ∧ a1 ≠ 267347))) : (a3 = 0 ∨ a3 = 1) := by omega
theorem oq_e61be49c {a0 a1 a2 a3 a4 : Int} (h0 : a0 ≠ 0) (h1 : ((a0 = 1 ∧ a1 = 6476969) ∨ (a0 = 0 ∧ a1 ≠ 6476969))) (h2 : a2 ≠ 0) (h3 : ((a2 = 1 ∧ a1 = 267347) ∨ (a2 = 0 ∧ a1 ≠ 267347))) : a3 ≤ a4 := by omega
theorem oq_fa1d1fac {a0 a1 a2 a3 a4 : Int} (h0 : a0 ≠ 0) (h1 : ((a0 = 1 ∧ a1 = 6476969) ∨ (a0 = 0 ∧ a1 ≠ 6476969))) (h2 : a2 ≠ 0) (h3 : ((a2 = 1 ∧ a1 = 267347) ∨ (a2 = 0 ∧ a1 ≠ 267347))) : a3 = a4 := by omega
theorem oq_b1d446ca {a0 a1 a2 a3 a4 a5 a6 : Int} {n7 : Nat} (h0 : a0 ≠ 0) (h1 : ((a0 = 0 ∧ (a1 = 6 ∧ a2 = 3)) ∨ (a0 = 1 ∧ (a1 ≤ 5 ∧ (a3 = (a1 + 1) ∧ (a4 = a5 ∧ a6 ≤ a4)))))) (h2 : (6 - a1) ≤ (((n7 + 1) : Nat) : Int)) : (6 - a3) ≤ ((n7 : Nat) : Int) := by omega
theorem oq_ef580355 {a0 a1 a2 a3 a4 a5 a6 a7 a8 a9 : Int} (h0 : a0 ≠ 0) (h1 : a1 = a2) (h2 : ((a0 = 0 ∧ (a3 = 6 ∧ a4 = 3)) ∨ (a0 = 1 ∧ (a3 ≤ 5 ∧ (a5 = (a3 + 1) ∧ (a6 = a7 ∧ a8 ≤ a6)))))) (h3 : a2 ≤ a9) (h4 : a9 ≤ a8) : a1 ≤ a6 := by omega
theorem oq_7736c826 {a0 a1 a2 a3 a4 a5 a6 : Int} (h0 : a0 ≠ 0) (h1 : ((a0 = 0 ∧ (a1 = 6 ∧ a2 = 3)) ∨ (a0 = 1 ∧ (a1 ≤ 5 ∧ (a3 = (a1 + 1) ∧ (a4 = a5 ∧ a6 ≤ a4)))))) : a3 = (a1 + 1) := by omega
theorem oq_11a45c10 {a0 a1 a2 a3 a4 a5 a6 a7 a8 a9 a10 a11 a12 a13 : Int} (h0 : a0 = a1) (h1 : a2 ≠ 0) (h2 : (a2 = 0 ∨ (a2 = 1 ∧ (a1 = a3 ∧ (a4 ≤ a5 ∧ (a5 ≤ a6 ∧ (a7 + a4) ≤ (a8 + a5))))))) (h3 : a9 ≠ 0) (h4 : ((a9 = 0 ∧ (a10 = 6 ∧ a11 = 3)) ∨ (a9 = 1 ∧ (a10 ≤ 5 ∧ (a3 = (a10 + 1) ∧ (a4 = a12 ∧ a13 ≤ a4)))))) (h5 : 0 ≤ a10) : 0 ≤ (a0 - 1) := by omega
theorem oq_a7aeda53 {a0 a1 a2 a3 a4 a5 a6 a7 a8 a9 a10 a11 a12 a13 : Int} (h0 : a0 ≠ 0) (h1 : (a0 = 0 ∨ (a0 = 1 ∧ (a1 = a2 ∧ (a3 ≤ a4 ∧ (a4 ≤ a5 ∧ (a6 + a3) ≤ (a7 + a4))))))) (h2 : a8 ≠ 0) (h3 : ((a8 = 0 ∧ (a9 = 6 ∧ a10 = 3)) ∨ (a8 = 1 ∧ (a9 ≤ 5 ∧ (a2 = (a9 + 1) ∧ (a3 = a11 ∧ a12 ≤ a3)))))) (h4 : a13 ≤ a12) : a13 ≤ a5 := by omega
theorem oq_a734e65a {a0 a1 a2 a3 a4 a5 a6 a7 a8 a9 a10 a11 a12 a13 a14 : Int} (h0 : a0 = (a1 - 1)) (h1 : a1 = a2) (h2 : a3 ≠ 0) (h3 : (a3 = 0 ∨ (a3 = 1 ∧ (a2 = a4 ∧ (a5 ≤ a6 ∧ (a6 ≤ a7 ∧ (a8 + a5) ≤ (a9 + a6))))))) (h4 : a10 ≠ 0) (h5 : ((a10 = 0 ∧ (a11 = 6 ∧ a12 = 3)) ∨ (a10 = 1 ∧ (a11 ≤ 5 ∧ (a4 = (a11 + 1) ∧ (a5 = a13 ∧ a14 ≤ a5)))))) : a0 = a11 := by omega
theorem oq_9b272ea2 {a0 a1 a2 a3 a4 a5 a6 : Int} (h0 : a0 = a1) (h1 : (a1 + a2) ≤ (a3 + a4)) (h2 : a3 ≤ a2) (h3 : a5 ≤ a6) (h4 : a5 = (a4 + 1)) : a0 ≤ a6 := by omega
theorem oq_cbf4270c {a0 a1 a2 a3 a4 a5 a6 a7 a8 a9 a10 a11 a12 : Int} (h0 : a0 ≠ 0) (h1 : a1 ≤ 200) (h2 : (a0 = 0 ∨ (a0 = 1 ∧ (a2 = a3 ∧ (a4 ≤ a1 ∧ (a1 ≤ a5 ∧ (a6 + a4) ≤ (a7 + a1))))))) (h3 : a7 = a8) (h4 : a9 ≤ a4) (h5 : a9 = (a10 + 1)) (h6 : (a8 + a11) ≤ (a12 + a10)) (h7 : a12 ≤ a11) : a6 ≤ 199 := by omega
theorem oq_5901dee4 {a0 a1 a2 a3 a4 a5 a6 a7 a8 a9 a10 : Int} (h0 : a0 = a1) (h1 : a2 ≠ 0) (h2 : (a2 = 0 ∨ (a2 = 1 ∧ (a1 = a3 ∧ (a4 ≤ a5 ∧ (a5 ≤ a6 ∧ (a7 + a4) ≤ (a8 + a5))))))) (h3 : a3 = a9) (h4 : a9 = a10) : a0 = a10 := by omega
theorem oq_c0e77623 {a0 a1 a2 a3 a4 a5 a6 a7 a8 a9 a10 a11 : Int} (h0 : a0 = a1) (h1 : a2 ≠ 0) (h2 : (a2 = 0 ∨ (a2 = 1 ∧ (a3 = a4 ∧ (a5 ≤ a1 ∧ (a1 ≤ a6 ∧ (a7 + a5) ≤ (a8 + a1))))))) (h3 : a9 ≤ a5) (h4 : a9 = (a10 + 1)) (h5 : a11 ≤ a10) : a11 ≤ a0 := by omega
theorem oq_a2786552 {a0 a1 a2 a3 a4 a5 a6 a7 a8 : Int} (h0 : a0 = a1) (h1 : a2 ≠ 0) (h2 : (a2 = 0 ∨ (a2 = 1 ∧ (a3 = a4 ∧ (a5 ≤ a1 ∧ (a1 ≤ a6 ∧ (a7 + a5) ≤ (a8 + a1))))))) : a0 ≤ a6 := by omega
theorem oq_155da3c6 {a0 a1 a2 a3 a4 a5 a6 a7 a8 a9 a10 a11 a12 : Int} (h0 : a0 = a1) (h1 : a2 ≠ 0) (h2 : (a2 = 0 ∨ (a2 = 1 ∧ (a3 = a4 ∧ (a5 ≤ a1 ∧ (a1 ≤ a6 ∧ (a7 + a5) ≤ (a8 + a1))))))) (h3 : a9 ≤ a5) (h4 : a9 = (a10 + 1)) (h5 : (a11 + a12) ≤ a10) : ((a11 + 1) + a12) ≤ a0 := by omega
theorem oq_6259e910 {a0 a1 a2 a3 a4 a5 a6 a7 : Int} (h0 : a0 ≠ 0) (h1 : (a0 = 0 ∨ (a0 = 1 ∧ (a1 = a2 ∧ (a3 ≤ a4 ∧ (a4 ≤ a5 ∧ (a6 + a3) ≤ (a7 + a4))))))) : a1 = a2 := by omega
theorem oq_af044290 {a0 a1 a2 a3 a4 a5 a6 a7 : Int} (h0 : a0 ≠ 0) (h1 : (a0 = 0 ∨ (a0 = 1 ∧ (a1 = a2 ∧ (a3 ≤ a4 ∧ (a4 ≤ a5 ∧ (a6 + a3) ≤ (a7 + a4))))))) : a3 ≤ a4 := by omega
theorem oq_0f66faba {a0 a1 a2 a3 a4 a5 a6 a7 : Int} (h0 : a0 ≠ 0) (h1 : (a0 = 0 ∨ (a0 = 1 ∧ (a1 = a2 ∧ (a3 ≤ a4 ∧ (a4 ≤ a5 ∧ (a6 + a3) ≤ (a7 + a4))))))) : a4 ≤ a5 := by omega
theorem oq_3cd265a3 {a0 a1 a2 a3 a4 a5 a6 a7 : Int} (h0 : a0 ≠ 0) (h1 : (a0 = 0 ∨ (a0 = 1 ∧ (a1 = a2 ∧ (a3 ≤ a4 ∧ (a4 ≤ a5 ∧ (a6 + a3) ≤ (a7 + a4))))))) : (a6 + a3) ≤ (a7 + a4) := by omega
theorem oq_c32860b4 {a0 a1 a2 a3 a4 a5 a6 a7 : Int} (h0 : a0 ≠ 0) (h1 : (a0 = 0 ∨ (a0 = 1 ∧ (a1 = a2 ∧ (a3 ≤ a4 ∧ (a4 ≤ a5 ∧ (a6 + a3) ≤ (a7 + a4))))))) : (0 + a3) ≤ a4 := by omega
theorem oq_e0f7ceb0 {a0 a1 a2 a3 a4 a5 a6 a7 a8 : Int} (h0 : a0 ≠ 0) (h1 : (a0 = 0 ∨ (a0 = 1 ∧ (a1 = a2 ∧ (a3 ≤ a4 ∧ (a4 ≤ a5 ∧ (a6 + a3) ≤ (a7 + a4))))))) (h2 : a3 = a8) : a8 ≤ a5 := by omega
theorem oq_07bbcb7b {a0 a1 a2 a3 a4 a5 a6 a7 a8 a9 : Int} (h0 : a0 = a1) (h1 : a2 ≠ 0) (h2 : a1 ≤ 6) (h3 : (a2 = 0 ∨ (a2 = 1 ∧ (a1 = a3 ∧ (a4 ≤ a5 ∧ (a5 ≤ a6 ∧ (a7 + a4) ≤ (a8 + a5))))))) (h4 : a3 = a9) (h5 : (6 - a9) ≤ ((0 : Nat) : Int)) : a0 = a9 := by omega
theorem oq_0089538a {a0 a1 a2 a3 a4 a5 a6 a7 a8 a9 a10 a11 a12 : Int} (h0 : a0 = a1) (h1 : a2 ≤ a3) (h2 : a4 ≠ 0) (h3 : a5 ≤ a2) (h4 : (a4 = 0 ∨ (a4 = 1 ∧ (a6 = a7 ∧ (a8 ≤ a5 ∧ (a5 ≤ a9 ∧ (a1 + a8) ≤ (a10 + a5))))))) (h5 : a10 = a11) (h6 : a8 = a12) (h7 : a11 ≤ a12) : a0 ≤ a3 := by omega
theorem oq_b6c8ed7c {a0 a1 a2 a3 a4 a5 a6 a7 a8 a9 a10 a11 a12 a13 a14 a15 a16 : Int} (h0 : a0 = a1) (h1 : a2 ≠ 0) (h2 : a1 ≤ 6) (h3 : (a2 = 0 ∨ (a2 = 1 ∧ (a1 = a3 ∧ (a4 ≤ a5 ∧ (a5 ≤ a6 ∧ (a7 + a4) ≤ (a8 + a5))))))) (h4 : a3 = a9) (h5 : a10 ≠ 0) (h6 : (a10 = 0 ∨ (a10 = 1 ∧ (a9 = a11 ∧ (a12 ≤ a13 ∧ (a13 ≤ a6 ∧ (a14 + a12) ≤ (a15 + a13))))))) (h7 : a11 = a16) (h8 : (6 - a16) ≤ ((0 : Nat) : Int)) : a0 = a16 := by omega
theorem oq_773b88bb {a0 a1 a2 a3 a4 a5 a6 a7 a8 a9 : Int} (h0 : a0 = a1) (h1 : a2 ≠ 0) (h2 : (a2 = 0 ∨ (a2 = 1 ∧ (a1 = a3 ∧ (a4 ≤ a5 ∧ (a5 ≤ a6 ∧ (a7 + a4) ≤ (a8 + a5))))))) (h3 : a3 = a9) : a0 = a9 := by omega
theorem oq_42ab5adf {a0 a1 a2 a3 a4 a5 a6 a7 a8 a9 a10 a11 a12 a13 a14 a15 a16 : Int} (h0 : a0 = a1) (h1 : a2 ≠ 0) (h2 : (a2 = 0 ∨ (a2 = 1 ∧ (a1 = a3 ∧ (a4 ≤ a5 ∧ (a5 ≤ a6 ∧ (a7 + a4) ≤ (a8 + a5))))))) (h3 : a3 = a9) (h4 : a10 ≠ 0) (h5 : (a10 = 0 ∨ (a10 = 1 ∧ (a9 = a11 ∧ (a12 ≤ a13 ∧ (a13 ≤ a6 ∧ (a14 + a12) ≤ (a15 + a13))))))) (h6 : a11 = a16) : a0 = a16 := by omega
theorem oq_024764ca {a0 a1 a2 a3 a4 a5 a6 a7 a8 a9 a10 a11 : Int} (h0 : a0 ≠ 0) (h1 : a1 = a2) (h2 : ((a0 = 0 ∧ (a3 = 6 ∧ a4 = 3)) ∨ (a0 = 1 ∧ (a3 ≤ 5 ∧ (a5 = (a3 + 1) ∧ (a6 = a7 ∧ a8 ≤ a6)))))) (h3 : a2 = a9) (h4 : a8 = a10) (h5 : a9 ≤ a11) (h6 : a11 ≤ a10) : a1 ≤ a6 := by omega
theorem oq_a873a8a8 {a0 a1 a2 a3 a4 a5 a6 a7 a8 a9 a10 a11 a12 a13 a14 : Int} (h0 : a0 = a1) (h1 : a2 ≠ 0) (h2 : (a2 = 0 ∨ (a2 = 1 ∧ (a1 = a3 ∧ (a4 ≤ a5 ∧ (a5 ≤ a6 ∧ (a7 + a4) ≤ (a8 + a5))))))) (h3 : a9 ≠ 0) (h4 : ((a9 = 0 ∧ (a10 = 6 ∧ a11 = 3)) ∨ (a9 = 1 ∧ (a10 ≤ 5 ∧ (a3 = (a10 + 1) ∧ (a4 = a12 ∧ a13 ≤ a4)))))) (h5 : a10 = a14) (h6 : 0 ≤ a14) : 0 ≤ (a0 - 1) := by omega
theorem oq_4c63dc53 {a0 a1 a2 a3 a4 a5 a6 a7 a8 a9 a10 a11 a12 a13 a14 : Int} (h0 : a0 ≠ 0) (h1 : (a0 = 0 ∨ (a0 = 1 ∧ (a1 = a2 ∧ (a3 ≤ a4 ∧ (a4 ≤ a5 ∧ (a6 + a3) ≤ (a7 + a4))))))) (h2 : a8 ≠ 0) (h3 : ((a8 = 0 ∧ (a9 = 6 ∧ a10 = 3)) ∨ (a8 = 1 ∧ (a9 ≤ 5 ∧ (a2 = (a9 + 1) ∧ (a3 = a11 ∧ a12 ≤ a3)))))) (h4 : a12 = a13) (h5 : a14 ≤ a13) : a14 ≤ a5 := by omega
theorem oq_10a2b847 {a0 a1 a2 a3 a4 a5 a6 a7 a8 a9 a10 a11 a12 a13 a14 a15 : Int} (h0 : a0 = (a1 - 1)) (h1 : a1 = a2) (h2 : a3 ≠ 0) (h3 : (a3 = 0 ∨ (a3 = 1 ∧ (a2 = a4 ∧ (a5 ≤ a6 ∧ (a6 ≤ a7 ∧ (a8 + a5) ≤ (a9 + a6))))))) (h4 : a10 ≠ 0) (h5 : ((a10 = 0 ∧ (a11 = 6 ∧ a12 = 3)) ∨ (a10 = 1 ∧ (a11 ≤ 5 ∧ (a4 = (a11 + 1) ∧ (a5 = a13 ∧ a14 ≤ a5)))))) (h6 : a11 = a15) : a0 = a15 := by omega
theorem oq_f0761439 {a0 a1 a2 a3 a4 a5 a6 a7 a8 a9 a10 a11 a12 a13 : Int} (h0 : a0 ≠ 0) (h1 : (a0 = 0 ∨ (a0 = 1 ∧ (a1 = a2 ∧ (a3 ≤ a4 ∧ (a4 ≤ a5 ∧ (a6 + a3) ≤ (a7 + a4))))))) (h2 : a8 ≠ 0) (h3 : ((a8 = 0 ∧ (a9 = 6 ∧ a10 = 3)) ∨ (a8 = 1 ∧ (a9 ≤ 5 ∧ (a2 = (a9 + 1) ∧ (a3 = a11 ∧ a12 ≤ a3)))))) (h4 : a9 = a13) (h5 : 0 ≤ a13) : 0 ≤ (a1 - 1) := by omega
theorem oq_0fc8fa0f {a0 a1 a2 a3 a4 a5 a6 a7 a8 a9 a10 a11 a12 a13 a14 a15 : Int} (h0 : a0 = a1) (h1 : a1 = (a2 - 1)) (h2 : a3 ≠ 0) (h3 : (a3 = 0 ∨ (a3 = 1 ∧ (a2 = a4 ∧ (a5 ≤ a6 ∧ (a6 ≤ a7 ∧ (a8 + a5) ≤ (a9 + a6))))))) (h4 : a10 ≠ 0) (h5 : ((a10 = 0 ∧ (a11 = 6 ∧ a12 = 3)) ∨ (a10 = 1 ∧ (a11 ≤ 5 ∧ (a4 = (a11 + 1) ∧ (a5 = a13 ∧ a14 ≤ a5)))))) (h6 : a11 = a15) : a0 = a15 := by omega
theorem oq_f0f6d445 {a0 a1 a2 : Int} (h0 : a0 ≤ a1) (h1 : a2 = a0) : a2 ≤ a1 := by omega
theorem oq_04f87ec0 {a0 a1 a2 a3 a4 a5 : Int} (h0 : a0 = a1) (h1 : a2 = a3) (h2 : (a3 + a4) ≤ (a5 + a1)) : (a2 + a4) ≤ (a5 + a0) := by omega
theorem oq_6f744107 {a0 a1 a2 a3 : Int} (h0 : a0 = a1) (h1 : (a2 + a3) ≤ a1) : (a2 + a3) ≤ a0 := by omega
theorem oq_70de8461 {a0 a1 a2 : Int} (h0 : a0 = 0) (h1 : a1 = a2) (h2 : ((a0 = 1 ∧ a2 = 1111) ∨ (a0 = 0 ∧ a2 ≠ 1111))) : a1 ≠ 1111 := by omega
theorem oq_957188f6 {a0 a1 a2 a3 a4 a5 a6 a7 a8 : Int} (h0 : a0 = a1) (h1 : a2 ≤ a3) (h2 : a1 = a4) (h3 : a2 = a5) (h4 : a6 ≤ a5) (h5 : (a4 + a7) ≤ (a8 + a6)) (h6 : a8 ≤ a7) : a0 ≤ a3 := by omega
theorem oq_98ac5764 {a0 a1 a2 a3 a4 a5 a6 a7 a8 a9 a10 a11 : Int} (h0 : a0 = a1) (h1 : a2 ≠ 0) (h2 : (a2 = 0 ∨ (a2 = 1 ∧ (a1 = a3 ∧ (a4 ≤ a5 ∧ (a5 ≤ a6 ∧ (a7 + a4) ≤ (a8 + a5))))))) (h3 : a3 = a9) (h4 : a9 = a10) (h5 : a10 = a11) : a0 = a11 := by omega
theorem oq_614567b2 {a0 a1 a2 a3 a4 a5 a6 a7 a8 a9 a10 a11 a12 : Int} (h0 : a0 = a1) (h1 : a2 ≠ 0) (h2 : (a2 = 0 ∨ (a2 = 1 ∧ (a3 = a4 ∧ (a5 ≤ a1 ∧ (a1 ≤ a6 ∧ (a7 + a5) ≤ (a8 + a1))))))) (h3 : a9 ≤ a5) (h4 : a9 = a10) (h5 : a11 ≤ a10) (h6 : a12 ≤ a11) : a12 ≤ a0 := by omega
theorem oq_ebe345ee {a0 a1 a2 : Int} (h0 : a0 = 0) (h1 : a1 = a2) (h2 : ((a0 = 1 ∧ a2 = 423) ∨ (a0 = 0 ∧ a2 ≠ 423))) : a1 ≠ 423 := by omega
/-! The class's reading of rules: tokens, codes, what a reading comes to -/
theorem sk_hi {B : Nat → Int} {N : Int} : ∀ (f : Nat) {p : Int}, (N - p).toNat ≤ f → p ≤ N → sk B N p ≤ N
  | 0, p, h, h1 => by rw [sk_stop (Or.inl (by omega))]; exact h1
  | f + 1, p, h, h1 => by
    by_cases q : p < N ∧ B p.toNat = 32
    · rw [sk_blank q.1 q.2]
      exact sk_hi (B := B) (N := N) f (p := p + 1) (by first | exact oq_e452e043 h | omega) (by first | exact oq_afc84a8d q.1 | omega)
    · rw [sk_stop (by
        by_cases z : p < N
        · exact Or.inr (fun w => q ⟨z, w⟩)
        · exact Or.inl (by first | exact oq_c41c5ad9 z | omega))]
      exact h1
theorem sk_N {B : Nat → Int} {N p : Int} (h : p ≤ N) : sk B N p ≤ N := sk_hi _ (Nat.le_refl _) h
theorem nmE_hi {B : Nat → Int} {N : Int} : ∀ (f : Nat) {p v : Int}, (N - p).toNat ≤ f → p ≤ N → nmE B N p v ≤ N
  | 0, p, v, h, h1 => by rw [nmE_stop (Or.inl (by omega))]; exact h1
  | f + 1, p, v, h, h1 => by
    by_cases q : p < N ∧ 48 ≤ B p.toNat ∧ B p.toNat ≤ 57
    · rw [nmE_dig q.1 q.2.1 q.2.2]
      exact nmE_hi (B := B) (N := N) f (by first | exact oq_e452e043 h | omega) (by first | exact oq_afc84a8d q.1 | omega)
    · rw [nmE_stop (by first | exact oq_f821f258 q | omega)]
      exact h1
theorem nmE_N {B : Nat → Int} {N p v : Int} (h : p ≤ N) : nmE B N p v ≤ N := nmE_hi _ (Nat.le_refl _) h
theorem wd_N {B : Nat → Int} {N p : Int} (h : p ≤ N) : wdE B N p ≤ N := by
  rcases (wd_lo (B := B) (N := N) (p := p) _ (Nat.le_refl _)).2 with z | z <;> omega
/-- a reading that ends well, ends behind p, within N, with no more codes than bytes -/
def GDR (N b p : Int) (r : Rd) : Prop := r.1 = 0 → p ≤ r.2.2 ∧ r.2.2 ≤ N ∧ (r.2.1.length : Int) + p ≤ b + r.2.2
theorem gd_no {N b p : Int} {r : Rd} (h : r.1 ≠ 0) : GDR N b p r := fun q => absurd q h
theorem gd_ok {N b p q : Int} {c : List Int} (h1 : p ≤ q) (h2 : q ≤ N) (h3 : (c.length : Int) + p ≤ b + q) : GDR N b p (0, c, q) := fun _ => ⟨h1, h2, h3⟩
theorem gd_if {N b p : Int} {x : Prop} [Decidable x] {r s : Rd} (h1 : x → GDR N b p r) (h2 : ¬ x → GDR N b p s) : GDR N b p (if x then r else s) := by
  by_cases e : x
  · rw [if_pos e]; exact h1 e
  · rw [if_neg e]; exact h2 e
theorem gd_bnd {N b p b1 p1 : Int} {r : Rd} {g : List Int → Int → Rd} (h : GDR N b1 p1 r) (h1 : ∀ c q, p1 ≤ q → q ≤ N → (c.length : Int) + p1 ≤ b1 + q → GDR N b p (g c q)) : GDR N b p (bnd r g) := by
  unfold bnd
  by_cases e : r.1 = 0
  · rw [if_pos e]
    have z := h e
    exact h1 _ _ z.1 z.2.1 z.2.2
  · rw [if_neg e]; exact gd_no e
/-- the codes that a rest begins with -/
def rsB (m : Nat) (a : List Int) : Int := if m = 2 ∨ m = 4 ∨ m = 7 ∨ 9 ≤ m then a.length else 0
theorem len3 {a c : List Int} {x : Int} : ((a ++ c ++ [x]).length : Int) = (a.length : Int) + (c.length : Int) + 1 := by
  rw [List.length_append, List.length_append]
  show ((a.length + c.length + 1 : Nat) : Int) = _
  omega
theorem pg_gd {B : Nat → Int} {N : Int} : ∀ (f m : Nat) (a : List Int) (p o : Int), p ≤ N → GDR N (rsB m a) p (PG B N f m a p o)
  | 0, m, a, p, o, _ => gd_no (by show (9 : Int) ≠ 0; decide)
  | f + 1, m, a, p, o, hp => by
    have ih := pg_gd (B := B) (N := N) f
    have rest : ∀ (w u : Nat) (a c : List Int) (q p1 x o : Int), rsB w (a ++ c ++ [x]) = ((a ++ c ++ [x]).length : Int) → q ≤ N → p + 1 ≤ p1 → (c.length : Int) + p1 ≤ 0 + q → p1 ≤ q → GDR N (a.length : Int) p (PG B N f w (a ++ c ++ [x]) q o) := by
      intro w u a c q p1 x o hw hq h1 h2 h3 z
      have y := ih w (a ++ c ++ [x]) q o hq z
      rw [hw, len3] at y
      exact ⟨by omega, y.2.1, by omega⟩
    have go : ∀ (w : Nat) (c : List Int) (q o : Int), rsB w c = (c.length : Int) → q ≤ N → (c.length : Int) + p ≤ 0 + q → p ≤ q → GDR N 0 p (PG B N f w c q o) := by
      intro w c q o hw hq h2 h3 z
      have y := ih w c q o hq z
      rw [hw] at y
      exact ⟨by first | exact oq_f8a2cf0e y.1 h3 | omega, y.2.1, by first | exact oq_29c6881a y.2.2 h2 | omega⟩
    by_cases m0 : m = 0
    · subst m0
      rw [pg_0]
      show GDR N 0 p _
      refine gd_if (fun h => gd_if (fun _ => gd_no (by show (2 : Int) ≠ 0; decide)) (fun _ => ?_)) (fun _ => gd_if (fun h => gd_if (fun _ => gd_no (by show (3 : Int) ≠ 0; decide)) (fun _ => gd_bnd (ih 3 [] _ _ (sk_N (by have := h.1; omega))) (fun c q h1 h2 h3 => gd_if (fun h4 => ?_) (fun _ => gd_no (by show (1 : Int) ≠ 0; decide))))) (fun _ => gd_if (fun hw => gd_if (fun _ => gd_no (by show (1 : Int) ≠ 0; decide)) (fun h5 => gd_if (fun _ => gd_no (by show (3 : Int) ≠ 0; decide)) (fun _ => ?_))) (fun _ => gd_if (fun _ => gd_no (by show (1 : Int) ≠ 0; decide)) (fun h => ?_))))
      · have e1 := nmE_gt (B := B) (N := N) (p := p) (v := 0) h.1 h.2.1 h.2.2
        have e2 := sk_le (B := B) (N := N) (p := nmE B N p 0)
        exact gd_ok (by first | exact oq_55c02037 e2 e1 | omega) (sk_N (nmE_N hp)) (by show (1 : Int) + p ≤ _; omega)
      · have e1 := sk_le (B := B) (N := N) (p := p + 1)
        have e2 := sk_le (B := B) (N := N) (p := q + 1)
        have e3 : rsB 3 [] = 0 := rfl
        exact gd_ok (by first | exact oq_a9f6b064 e2 e1 h1 | omega) (sk_N (by have := h4.1; omega)) (by omega)
      · have h6 : chT B N (sk B N (wdE B N p)) 40 := Classical.byContradiction h5
        have e0 := wd_le (B := B) (N := N) (p := p)
        have e1 := sk_le (B := B) (N := N) (p := wdE B N p)
        have e2 := sk_le (B := B) (N := N) (p := sk B N (wdE B N p) + 1)
        have e3 : rsB 3 [] = 0 := rfl
        refine gd_bnd (ih 3 [] _ _ (sk_N (by have := h6.1; omega))) (fun c q h1 h2 h3 => gd_if (fun _ => gd_no (by show (1 : Int) ≠ 0; decide)) (fun h7 => ?_))
        have h8 : chT B N q 44 := Classical.byContradiction h7
        have e4 := sk_le (B := B) (N := N) (p := q + 1)
        refine gd_bnd (ih 3 [] _ _ (sk_N (by have := h8.1; omega))) (fun d r k1 k2 k3 => gd_if (fun h9 => ?_) (fun _ => gd_no (by show (1 : Int) ≠ 0; decide)))
        have e5 := sk_le (B := B) (N := N) (p := r + 1)
        exact gd_ok (by first | exact oq_077079e9 e5 k1 e4 h1 e2 e1 e0 | omega) (sk_N (by have := h9.1; omega)) (by rw [len3]; omega)
      · have h1 := wh_let (nm_wh h).1
        have e1 := wd_gt h1.1 h1.2.1 h1.2.2
        have e2 := sk_le (B := B) (N := N) (p := wdE B N p)
        exact gd_ok (by first | exact oq_2e52a9fc e2 e1 | omega) (sk_N (wd_N hp)) (by show (1 : Int) + p ≤ _; omega)
    by_cases m1 : m = 1
    · subst m1
      rw [pg_1]
      exact gd_bnd (ih 0 [] p o hp) (fun c q h1 h2 h3 => go 2 c q o rfl h2 h3 h1)
    by_cases m2 : m = 2
    · subst m2
      rw [pg_2]
      refine gd_if (fun h => ?_) (fun _ => gd_ok (Int.le_refl _) hp (by show (a.length : Int) + p ≤ (a.length : Int) + p; omega))
      have hl : p < N := by rcases h with h | h <;> exact h.1
      have e1 := sk_le (B := B) (N := N) (p := p + 1)
      exact gd_bnd (ih 0 [] _ o (sk_N (by first | exact oq_afc84a8d hl | omega))) (fun c q h1 h2 h3 => rest 2 0 a c q _ _ o rfl h2 e1 h3 h1)
    by_cases m3 : m = 3
    · subst m3
      rw [pg_3]
      exact gd_bnd (ih 1 [] p o hp) (fun c q h1 h2 h3 => go 4 c q o rfl h2 h3 h1)
    by_cases m4 : m = 4
    · subst m4
      rw [pg_4]
      refine gd_if (fun h => ?_) (fun _ => gd_ok (Int.le_refl _) hp (by show (a.length : Int) + p ≤ (a.length : Int) + p; omega))
      have hl : p < N := by rcases h with h | h <;> exact h.1
      have e1 := sk_le (B := B) (N := N) (p := p + 1)
      exact gd_bnd (ih 1 [] _ o (sk_N (by first | exact oq_afc84a8d hl | omega))) (fun c q h1 h2 h3 => rest 4 0 a c q _ _ o rfl h2 e1 h3 h1)
    by_cases m5 : m = 5
    · subst m5
      rw [pg_5]
      show GDR N 0 p _
      refine gd_if (fun h => gd_if (fun _ => gd_no (by show (3 : Int) ≠ 0; decide)) (fun _ => ?_)) (fun _ => gd_if (fun h => gd_if (fun _ => gd_no (by show (3 : Int) ≠ 0; decide)) (fun _ => ?_)) (fun _ => ?_))
      · have z := wh_let (show whV B N p ≠ 0 by first | exact oq_2a237168 h | omega)
        have e1 := wd_gt z.1 z.2.1 z.2.2
        have e2 := sk_le (B := B) (N := N) (p := wdE B N p)
        have e3 : rsB 5 [] = 0 := rfl
        refine gd_bnd (ih 5 [] _ _ (sk_N (wd_N hp))) (fun c q h1 h2 h3 => gd_ok (by first | exact oq_89545388 h1 e2 e1 | omega) h2 ?_)
        rw [List.length_append]
        show ((c.length + 1 : Nat) : Int) + p ≤ _
        omega
      · have e1 := sk_le (B := B) (N := N) (p := p + 1)
        have e3 : rsB 8 [] = 0 := rfl
        refine gd_bnd (ih 8 [] _ _ (sk_N (by have := h.1; omega))) (fun c q h1 h2 h3 => gd_if (fun h4 => ?_) (fun _ => gd_no (by show (1 : Int) ≠ 0; decide)))
        have e2 := sk_le (B := B) (N := N) (p := q + 1)
        exact gd_ok (by first | exact oq_cb24c47c e2 h1 e1 | omega) (sk_N (by have := h4.1; omega)) (by omega)
      · have e3 : rsB 3 [] = 0 := rfl
        refine gd_bnd (ih 3 [] p o hp) (fun c q h1 h2 h3 => gd_if (fun h4 => ?_) (fun _ => gd_no (by show (1 : Int) ≠ 0; decide)))
        have hl : q < N := by rcases h4 with h | h | h <;> exact h.1
        have e2 := sk_le (B := B) (N := N) (p := q + 1)
        refine gd_bnd (ih 3 [] _ o (sk_N (by first | exact oq_afc84a8d hl | omega))) (fun d r k1 k2 k3 => gd_ok (by first | exact oq_2701c8d0 k1 e2 h1 | omega) k2 ?_)
        rw [len3]; omega
    by_cases m6 : m = 6
    · subst m6
      rw [pg_6]
      exact gd_bnd (ih 5 [] p o hp) (fun c q h1 h2 h3 => go 7 c q o rfl h2 h3 h1)
    by_cases m7 : m = 7
    · subst m7
      rw [pg_7]
      refine gd_if (fun h => ?_) (fun _ => gd_ok (Int.le_refl _) hp (by show (a.length : Int) + p ≤ (a.length : Int) + p; omega))
      have z := wh_let (show whV B N p ≠ 0 by first | exact oq_cdbb0055 h | omega)
      have e1 := wd_gt z.1 z.2.1 z.2.2
      have e2 := sk_le (B := B) (N := N) (p := wdE B N p)
      exact gd_bnd (ih 5 [] _ o (sk_N (wd_N hp))) (fun c q h1 h2 h3 => rest 7 0 a c q _ _ o rfl h2 (by first | exact oq_39cddf6a e2 e1 | omega) h3 h1)
    by_cases m8 : m = 8
    · subst m8
      rw [pg_8]
      exact gd_bnd (ih 6 [] p o hp) (fun c q h1 h2 h3 => go 9 c q o rfl h2 h3 h1)
    · have m9 : 9 ≤ m := by first | exact oq_876da925 m8 m7 m6 m5 m4 m3 m2 m1 m0 | omega
      have eb : ∀ c : List Int, rsB m c = (c.length : Int) := fun c => if_pos (Or.inr (Or.inr (Or.inr m9)))
      have ePG : PG B N (f + 1) m a p o = PG B N (f + 1) 9 a p o := by
        show (if m = 0 then _ else if m = 1 then _ else if m = 2 then _ else if m = 3 then _ else if m = 4 then _ else if m = 5 then _ else if m = 6 then _ else if m = 7 then _ else if m = 8 then _ else _) = _
        rw [if_neg m0, if_neg m1, if_neg m2, if_neg m3, if_neg m4, if_neg m5, if_neg m6, if_neg m7, if_neg m8]
        rfl
      rw [ePG, pg_9, eb]
      refine gd_if (fun h => ?_) (fun _ => gd_ok (Int.le_refl _) hp (by first | exact oq_888614d4 | omega))
      have z := wh_let (show whV B N p ≠ 0 by first | exact oq_577e8028 h | omega)
      have e1 := wd_gt z.1 z.2.1 z.2.2
      have e2 := sk_le (B := B) (N := N) (p := wdE B N p)
      exact gd_bnd (ih 6 [] _ o (sk_N (wd_N hp))) (fun c q h1 h2 h3 => rest 9 0 a c q _ _ o rfl h2 (by first | exact oq_39cddf6a e2 e1 | omega) h3 h1)
theorem pgr_gd {B : Nat → Int} {N : Int} {m : Nat} {a : List Int} {p o : Int} {r : Rd} (h : PGR B N m a p o r) (hp : p ≤ N) : GDR N (rsB m a) p r := by
  obtain ⟨-, f, h⟩ := h
  rw [← h]
  exact pg_gd f m a p o hp
/-- the sign of the text that was read last, with words -/
def TKW (B : Nat → Int) (N k st a v : Int) : Prop := (N ≤ st ∧ k = -1) ∨ (dgP B N st ∧ k = -2 ∧ v = nmV B N st 0 ∧ a = nmE B N st 0) ∨ (st < N ∧ 97 ≤ B st.toNat ∧ B st.toNat ≤ 122 ∧ k = -3 ∧ a = wdE B N st) ∨ (st < N ∧ (B st.toNat < 48 ∨ 57 < B st.toNat) ∧ (B st.toNat < 97 ∨ 122 < B st.toNat) ∧ k = B st.toNat ∧ 0 ≤ k ∧ a = st + 1)
theorem tkw_num {B : Nat → Int} {N k st a v x Q : Int} (hx : x = Q) (hs : st = Q) (h : Q < N) (h1 : 48 ≤ B x.toNat) (h2 : B x.toNat ≤ 57) (hk : k = -2) (hv : v = nmV B N Q 0) (ha : a = nmE B N Q 0) : TKW B N k st a v := by
  subst hx hs
  exact Or.inr (Or.inl ⟨⟨h, h1, h2⟩, hk, hv, ha⟩)
theorem tkw_wrd {B : Nat → Int} {N k st a v x Q : Int} (hx : x = Q) (hs : st = Q) (h : Q < N) (h1 : 97 ≤ B x.toNat) (h2 : B x.toNat ≤ 122) (hk : k = -3) (ha : a = wdE B N Q) : TKW B N k st a v := by
  subst hx hs
  exact Or.inr (Or.inr (Or.inl ⟨h, h1, h2, hk, ha⟩))
theorem tkw_sig {B : Nat → Int} {N k st a v x Q : Int} (hx : x = Q) (hs : st = Q) (h : Q < N) (h1 : B x.toNat < 48 ∨ 57 < B x.toNat) (h2 : B x.toNat < 97 ∨ 122 < B x.toNat) (hk : k = B x.toNat) (h0 : 0 ≤ k) (ha : a = Q + 1) : TKW B N k st a v := by
  subst hx hs
  exact Or.inr (Or.inr (Or.inr ⟨h, h1, h2, hk, h0, ha⟩))
/-- a sign that is neither of a number nor of a word -/
theorem tkw_ch {B : Nat → Int} {N k st a v x : Int} (h : TKW B N k st a v) (h0 : 0 ≤ x) (h1 : x < 48 ∨ 57 < x) (h2 : x < 97 ∨ 122 < x) : (k = x → chT B N st x ∧ a = st + 1) ∧ (k ≠ x → ¬ chT B N st x) := by
  rcases h with h | h | h | h
  · exact ⟨fun q => by omega, fun _ q => by omega⟩
  · have := h.1; exact ⟨fun q => by omega, fun _ q => by omega⟩
  · exact ⟨fun q => by omega, fun _ q => by omega⟩
  · exact ⟨fun q => ⟨⟨h.1, by first | exact oq_a0804362 q h.2.2.2.1 | omega⟩, h.2.2.2.2.2⟩, fun q z => by omega⟩
theorem tkw_dg {B : Nat → Int} {N k st a v : Int} (h : TKW B N k st a v) : (k = -2 → dgP B N st ∧ v = nmV B N st 0 ∧ a = nmE B N st 0) ∧ (k ≠ -2 → ¬ dgP B N st) := by
  rcases h with h | h | h | h
  · exact ⟨fun q => by omega, fun _ q => by omega⟩
  · exact ⟨fun _ => ⟨h.1, h.2.2⟩, fun q => absurd h.2.1 q⟩
  · exact ⟨fun q => by omega, fun _ q => by omega⟩
  · exact ⟨fun q => by omega, fun _ q => by omega⟩
theorem tkw_wd {B : Nat → Int} {N k st a v : Int} (h : TKW B N k st a v) : (k = -3 → a = wdE B N st ∧ st < wdE B N st) ∧ (k ≠ -3 → whV B N st = 0) := by
  rcases h with h | h | h | h
  · refine ⟨fun q => by first | exact And.intro (oq_b09a1c90 q h.2) (oq_833a901d q h.2) | omega, fun _ => Classical.byContradiction (fun z => ?_)⟩
    have := wh_let z; omega
  · refine ⟨fun q => by first | exact And.intro (oq_aded3bf6 q h.2.1) (oq_d8aec864 q h.2.1) | omega, fun _ => Classical.byContradiction (fun z => ?_)⟩
    have := wh_let z; have := h.1; omega
  · exact ⟨fun _ => ⟨h.2.2.2.2, wd_gt h.1 h.2.1 h.2.2.1⟩, fun q => by first | exact oq_5e29ff44 q h.2.2.2.1 | omega⟩
  · refine ⟨fun q => by first | exact And.intro (oq_766a7f94 q h.2.2.2.2.1) (oq_b53d29f3 q h.2.2.2.2.1) | omega, fun _ => Classical.byContradiction (fun z => ?_)⟩
    have := wh_let z; omega
theorem tkw_end {B : Nat → Int} {N k st a v : Int} (h : TKW B N k st a v) : k = -1 ↔ N ≤ st := by
  rcases h with h | h | h | h
  · exact ⟨fun _ => h.1, fun _ => h.2⟩
  · have := h.1; exact ⟨fun q => by first | exact oq_4b89d68f q h.2.1 | omega, fun q => by omega⟩
  · exact ⟨fun q => by first | exact oq_94c54584 q h.2.2.2.1 | omega, fun q => by first | exact oq_a272534b q h.1 | omega⟩
  · exact ⟨fun q => by first | exact oq_0fc1928a q h.2.2.2.2.1 | omega, fun q => by first | exact oq_a272534b q h.1 | omega⟩
/-- the number of a word of the program's -/
def whL : List Nat → Int → Int
  | [], v => v
  | c :: r, v => whL r (27 * v + c - 96)
def okL (L : List Nat) : Bool := decide (1 ≤ L.length) && decide (L.length ≤ 6) && L.all (fun c => decide (97 ≤ c) && decide (c ≤ 122))
/-- n letters at p, their number behind v -/
def whQ (B : Nat → Int) (p : Int) : Nat → Int → Int
  | 0, v => v
  | n + 1, v => whQ B (p + 1) n (27 * v + B p.toNat - 96)
theorem whQ_s {B : Nat → Int} : ∀ (n : Nat) (p v : Int), whQ B p (n + 1) v = 27 * whQ B p n v + B (p + n).toNat - 96
  | 0, p, v => by
    show 27 * v + B p.toNat - 96 = 27 * v + B (p + (0 : Nat)).toNat - 96
    rw [show p + ((0 : Nat) : Int) = p by first | exact oq_7dccd8f8 | omega]
  | n + 1, p, v => by
    show whQ B (p + 1) (n + 1) _ = 27 * whQ B (p + 1) n _ + _ - 96
    rw [whQ_s n (p + 1), show p + 1 + ((n : Nat) : Int) = p + ((n + 1 : Nat) : Int) by first | exact oq_3355ac01 | omega]
theorem whP_Q {B : Nat → Int} {p : Int} : ∀ n : Nat, whP B p n = whQ B p n 0
  | 0 => rfl
  | n + 1 => by
    rw [whQ_s]
    show 27 * whP B p n + _ - 96 = _
    rw [whP_Q n]
/-- two words of one length with one number have the same letters -/
theorem whQ_in {B : Nat → Int} : ∀ (L : List Nat) (p v w : Int), (∀ i : Nat, i < L.length → 97 ≤ B (p + i).toNat ∧ B (p + i).toNat ≤ 122) → (∀ c ∈ L, 97 ≤ c ∧ c ≤ 122) → (whQ B p L.length v = whL L w ↔ v = w ∧ ∀ i : Nat, i < L.length → B (p + i).toNat = (L.getD i 0 : Nat))
  | [], p, v, w, _, _ => ⟨fun h => ⟨h, fun i hi => absurd hi (Nat.not_lt_zero _)⟩, fun h => h.1⟩
  | c :: r, p, v, w, hb, hL => by
    have h0 := hb 0 (Nat.succ_pos _)
    rw [show p + ((0 : Nat) : Int) = p by first | exact oq_7dccd8f8 | omega] at h0
    have hc := hL c (List.mem_cons_self ..)
    have ih := whQ_in (B := B) r (p + 1) (27 * v + B p.toNat - 96) (27 * w + c - 96) (fun i hi => by have := hb (i + 1) (Nat.succ_lt_succ hi); rw [show p + 1 + (i : Int) = p + ((i + 1 : Nat) : Int) by first | exact oq_3355ac01 | omega]; exact this) (fun d hd => hL d (List.mem_cons_of_mem _ hd))
    show whQ B (p + 1) r.length _ = whL r _ ↔ _
    rw [ih]
    constructor
    · rintro ⟨h1, h2⟩
      refine ⟨by first | exact oq_0310acc4 h1 hc.2 hc.1 h0.2 h0.1 | omega, fun i hi => ?_⟩
      cases i with
      | zero =>
        rw [show p + ((0 : Nat) : Int) = p by first | exact oq_7dccd8f8 | omega]
        show B p.toNat = (c : Int)
        omega
      | succ i =>
        have := h2 i (Nat.lt_of_succ_lt_succ hi)
        rw [show p + 1 + (i : Int) = p + ((i + 1 : Nat) : Int) by first | exact oq_3355ac01 | omega] at this
        exact this
    · rintro ⟨h1, h2⟩
      have e0 := h2 0 (Nat.succ_pos _)
      rw [show p + ((0 : Nat) : Int) = p by first | exact oq_7dccd8f8 | omega] at e0
      replace e0 : B p.toNat = (c : Int) := e0
      refine ⟨by first | exact oq_6ba43e52 e0 h1 | omega, fun i hi => ?_⟩
      have := h2 (i + 1) (Nat.succ_lt_succ hi)
      rw [show p + 1 + (i : Int) = p + ((i + 1 : Nat) : Int) by first | exact oq_3355ac01 | omega]
      exact this
theorem whL_bd : ∀ (L : List Nat) (v : Int), 0 ≤ v → (∀ c ∈ L, 97 ≤ c ∧ c ≤ 122) → 27 ^ L.length * v ≤ whL L v ∧ whL L v < 27 ^ L.length * (v + 1)
  | [], v, h0, _ => by
    show 27 ^ 0 * v ≤ v ∧ v < 27 ^ 0 * (v + 1)
    rw [Int.pow_zero]; omega
  | c :: r, v, h0, hL => by
    have hc := hL c (List.mem_cons_self ..)
    have ih := whL_bd r (27 * v + c - 96) (by first | exact oq_69329974 hc.1 h0 | omega) (fun d hd => hL d (List.mem_cons_of_mem _ hd))
    have e : (27 : Int) ^ (c :: r).length = 27 ^ r.length * 27 := Int.pow_succ ..
    have hp : (0 : Int) < 27 ^ r.length := Int.pow_pos (by decide)
    rw [e]
    show _ ≤ whL r (27 * v + c - 96) ∧ whL r (27 * v + c - 96) < _
    have a1 : (27 : Int) ^ r.length * 27 * v ≤ 27 ^ r.length * (27 * v + c - 96) := by
      rw [Int.mul_assoc]; exact Int.mul_le_mul_of_nonneg_left (by first | exact oq_d6f684dc hc.1 | omega) (Int.le_of_lt hp)
    have a2 : (27 : Int) ^ r.length * (27 * v + c - 96 + 1) ≤ 27 ^ r.length * 27 * (v + 1) := by
      rw [Int.mul_assoc]; exact Int.mul_le_mul_of_nonneg_left (by first | exact oq_83b4aecf hc.2 | omega) (Int.le_of_lt hp)
    exact ⟨Int.le_trans a1 ih.1, Int.lt_of_lt_of_le ih.2 a2⟩
/-- a word of the program's at p, told by its number -/
theorem wh_is {B : Nat → Int} {N p : Int} {L : List Nat} (hL : okL L = true) : whV B N p = whL L 0 ↔ (wdE B N p - p = (L.length : Int) ∧ ∀ i : Nat, i < L.length → B (p + i).toNat = (L.getD i 0 : Nat)) := by
  unfold okL at hL
  simp only [Bool.and_eq_true, decide_eq_true_eq, List.all_eq_true] at hL
  obtain ⟨⟨h1, h2⟩, h3⟩ := hL
  have h4 := wd_le (B := B) (N := N) (p := p)
  have hl : ∀ i : Nat, (i : Int) < wdE B N p - p → 97 ≤ B (p + i).toNat ∧ B (p + i).toNat ≤ 122 := fun i hi => (wd_in (B := B) (N := N) (p := p) _ (Nat.le_refl _) (q := p + i) (by first | exact oq_fd0b8ed9 | omega) (by first | exact oq_a8fdfb76 hi | omega)).2
  obtain ⟨n, hn⟩ : ∃ n : Nat, n = (wdE B N p - p).toNat := ⟨_, rfl⟩
  have lb := whL_bd L 0 (Int.le_refl _) h3
  have lo : ∀ m : Nat, m + 1 = L.length → (27 : Int) ^ m ≤ whL L 0 := by
    intro m hm
    cases L with
    | nil => cases hm
    | cons c r =>
      have hc := h3 c (List.mem_cons_self ..)
      have b := whL_bd r (27 * 0 + c - 96) (by first | exact oq_019f3820 hc.1 | omega) (fun d hd => h3 d (List.mem_cons_of_mem _ hd))
      have hr : r.length = m := Nat.succ.inj hm.symm
      rw [hr] at b
      have hp : (0 : Int) < 27 ^ m := Int.pow_pos (by decide)
      have a1 : (27 : Int) ^ m * 1 ≤ 27 ^ m * (27 * 0 + c - 96) := Int.mul_le_mul_of_nonneg_left (by first | exact oq_8bb137cc hc.1 | omega) (Int.le_of_lt hp)
      rw [Int.mul_one] at a1
      exact Int.le_trans a1 b.1
  have mono : ∀ i j : Nat, i ≤ j → (27 : Int) ^ i ≤ 27 ^ j := by
    intro i j h
    induction h with
    | refl => exact Int.le_refl _
    | step h ih =>
      rename_i k
      have hp : (0 : Int) < 27 ^ k := Int.pow_pos (by decide)
      rw [show (27 : Int) ^ (k + 1) = 27 ^ k * 27 from Int.pow_succ ..]
      omega
  constructor
  · intro h
    unfold whV at h
    by_cases c : wdE B N p - p ≤ 6
    · rw [if_pos c, ← hn] at h
      have hb := whP_bd (B := B) (p := p) n (fun i hi => hl i (by first | exact oq_6170a856 hi hn | omega))
      have hz : n = L.length := by
        rcases Nat.lt_trichotomy n L.length with q | q | q
        · exfalso
          obtain ⟨m, hm⟩ : ∃ m, m + 1 = L.length := ⟨L.length - 1, by first | exact oq_c2a3e3e7 h1 | omega⟩
          have := lo m hm
          have := mono n m (by first | exact oq_7e909c83 hm q | omega)
          omega
        · exact q
        · exfalso
          obtain ⟨m, rfl⟩ : ∃ m, n = m + 1 := ⟨n - 1, by first | exact oq_5a0a3210 q | omega⟩
          have a := whP_lo (B := B) (p := p) m (fun i hi => (hl i (by first | exact oq_9e9718d4 hi hn | omega)).1)
          have := mono L.length m (by first | exact oq_d08540b3 q | omega)
          rw [Int.zero_add, Int.mul_one] at lb
          omega
      rw [whP_Q, hz] at h
      refine ⟨by first | exact oq_3b818c84 hz hn h1 | omega, ((whQ_in L p 0 0 (fun i hi => hl i (by first | exact oq_8b9195ec hi hz hn h1 | omega)) h3).mp h).2⟩
    · rw [if_neg c] at h
      rw [Int.mul_zero] at lb
      omega
  · rintro ⟨q1, q2⟩
    unfold whV
    rw [if_pos (by first | exact oq_0b763d6e q1 h2 | omega), ← hn, whP_Q, show n = L.length by first | exact oq_1bfa4003 q1 hn h1 | omega]
    exact (whQ_in L p 0 0 (fun i hi => hl i (by first | exact oq_90b433bc hi q1 | omega)) h3).mpr ⟨rfl, q2⟩
/-- the codes that the class has put so far -/
def DL (t : PS) : List Int := (List.range (iI t 16).toNat).map (fun j => iC t 18 j)
theorem DL_fm {L M : List Nat} {s t : PS} (F : Fm L M s t) (h1 : 16 ∉ L) (h2 : 18 ∉ M) : DL t = DL s := by
  unfold DL
  rw [fm_i F h1]
  exact List.map_congr_left (fun j _ => fm_c F h2)
theorem DL_len {t : PS} (h : 0 ≤ iI t 16) : ((DL t).length : Int) = iI t 16 := by
  unfold DL
  rw [List.length_map, List.length_range]
  omega
theorem DL_put {s t : PS} {x : Int} (h : UPD 18 (iI s 16) x s t) (h0 : 0 ≤ iI s 16) (h1 : iI t 16 = iI s 16 + 1) : DL t = DL s ++ [x] := by
  unfold DL
  rw [h1, show (iI s 16 + 1).toNat = (iI s 16).toNat + 1 by first | exact oq_c30340c4 h0 | omega, List.range_succ, List.map_append]
  congr 1
  · exact List.map_congr_left (fun j hj => h.2 j (by have := List.mem_range.mp hj; omega))
  · show [iC t 18 (iI s 16).toNat] = [x]
    rw [h.1]
/-- what a reading of the class's comes to: e its answer, D the codes ahead of it -/
def RDc (B : Nat → Int) (N : Int) (m : Nat) (p o : Int) (D : List Int) (t : PS) (e : Int) : Prop := ∃ r : Rd, PGR B N m [] p o r ∧ ((e = 1 ∧ r.1 = 0 ∧ iI t 4 = r.2.2 ∧ DL t = D ++ r.2.1) ∨ (e = 0 ∧ r.1 ≠ 0 ∧ iI t 7 = r.1))
theorem rd_ok {B : Nat → Int} {N : Int} {m : Nat} {p o q : Int} {D c : List Int} {t : PS} (h : PGR B N m [] p o (0, c, q)) (h1 : iI t 4 = q) (h2 : DL t = D ++ c) : RDc B N m p o D t 1 := ⟨_, h, Or.inl ⟨rfl, rfl, h1, h2⟩⟩
theorem rd_no {B : Nat → Int} {N : Int} {m : Nat} {p o k q : Int} {D c : List Int} {t : PS} (h : PGR B N m [] p o (k, c, q)) (hk : k ≠ 0) (h1 : iI t 7 = k) : RDc B N m p o D t 0 := ⟨_, h, Or.inr ⟨rfl, hk, h1⟩⟩
theorem rd_num {B : Nat → Int} {N : Int} {m : Nat} {p o e : Int} {D : List Int} {t : PS} (h : RDc B N m p o D t e) (he : e ≠ 0) (hp : p ≤ N) (hm : rsB m [] = 0) (h0 : 0 ≤ iI t 16) : e = 1 ∧ p ≤ iI t 4 ∧ iI t 4 ≤ N ∧ iI t 16 + p ≤ (D.length : Int) + iI t 4 := by
  obtain ⟨r, h1, h2 | h2⟩ := h
  · obtain ⟨e1, z, h3, h4⟩ := h2
    have g := pgr_gd h1 hp z
    have l := DL_len h0
    rw [h4, List.length_append] at l
    rw [hm] at g
    refine ⟨e1, by first | exact oq_b19b3c62 g.1 h3 | omega, by first | exact oq_f0f6d445 g.2.1 h3 | omega, by first | exact oq_cd19f1be l g.2.2 h3 | omega⟩
  · exact absurd h2.1 he
/-- a reading that failed, within another one -/
theorem rd_bad {B : Nat → Int} {N : Int} {m m1 : Nat} {p o p1 o1 e : Int} {D D1 : List Int} {t u : PS} (h : RDc B N m1 p1 o1 D1 t e) (he : e = 0) (hu : iI u 7 = iI t 7) (g : ∀ r : Rd, PGR B N m1 [] p1 o1 r → r.1 ≠ 0 → PGR B N m [] p o r) : RDc B N m p o D u 0 := by
  obtain ⟨r, h1, h2 | h2⟩ := h
  · omega
  · exact ⟨r, g r h1 h2.2.1, Or.inr ⟨rfl, h2.2.1, by rw [hu]; exact h2.2.2⟩⟩
/-- the same of the rest: what it comes to, the whole comes to -/
def RSc (B : Nat → Int) (N : Int) (m w : Nat) (p o : Int) (D : List Int) (t : PS) : Prop := ∃ a : List Int, DL t = D ++ a ∧ ∀ r, PGR B N m a (iI t 4) o r → PGR B N w [] p o r
theorem rx_0 {B : Nat → Int} {N : Int} {m m1 w : Nat} {p o e : Int} {D : List Int} {t : PS} (h : RDc B N m1 p o D t e) (he : e ≠ 0) (g : ∀ r r1 : Rd, PGR B N m1 [] p o r1 → r1.1 = 0 → PGR B N m r1.2.1 r1.2.2 o r → PGR B N w [] p o r) : RSc B N m w p o D t := by
  obtain ⟨r, h1, h2 | h2⟩ := h
  · exact ⟨r.2.1, h2.2.2.2, fun s hs => g s r h1 h2.2.1 (by rw [← h2.2.2.1]; exact hs)⟩
  · exact absurd h2.1 he
theorem rx_end {B : Nat → Int} {N : Int} {m w : Nat} {p o : Int} {D : List Int} {t : PS} (h : RSc B N m w p o D t) (g : ∀ a : List Int, PGR B N m a (iI t 4) o (0, a, iI t 4)) : RDc B N w p o D t 1 := by
  obtain ⟨a, h1, h2⟩ := h
  exact rd_ok (h2 _ (g a)) rfl h1
/-- another of a rest: read, its code put -/
theorem rx_up {B : Nat → Int} {N : Int} {m m1 w : Nat} {p o q1 e x : Int} {D D1 : List Int} {t u v : PS} (h : RSc B N m w p o D t) (hD : D1 = DL t) (h1 : RDc B N m1 q1 o D1 u e) (he : e ≠ 0) (hv : DL v = DL u ++ [x]) (hs : iI v 4 = iI u 4) (g : ∀ (a : List Int) (r r1 : Rd), PGR B N m1 [] q1 o r1 → r1.1 = 0 → PGR B N m (a ++ r1.2.1 ++ [x]) r1.2.2 o r → PGR B N m a (iI t 4) o r) : RSc B N m w p o D v := by
  obtain ⟨a, h2, h3⟩ := h
  obtain ⟨r, r1, r2 | r2⟩ := h1
  · obtain ⟨-, z, z1, z2⟩ := r2
    refine ⟨a ++ r.2.1 ++ [x], ?_, fun s hs' => h3 s (g a s r r1 z (by rw [← z1, ← hs]; exact hs'))⟩
    rw [hv, z2, hD, h2]
    simp only [List.append_assoc]
  · exact absurd r2.1 he
theorem rx_bad {B : Nat → Int} {N : Int} {m m1 w : Nat} {p o q1 e : Int} {D D1 : List Int} {t u v : PS} (h : RSc B N m w p o D t) (h1 : RDc B N m1 q1 o D1 u e) (he : e = 0) (hu : iI v 7 = iI u 7) (g : ∀ (a : List Int) (r : Rd), PGR B N m1 [] q1 o r → r.1 ≠ 0 → PGR B N m a (iI t 4) o r) : RDc B N w p o D v 0 := by
  obtain ⟨a, -, h3⟩ := h
  exact rd_bad h1 he hu (fun r hr hz => h3 r (g a r hr hz))
/-- a sign that is passed, or the fault -/
def PSS (B : Nat → Int) (N x : Int) (s t : PS) (e : Int) : Prop := (e = 1 ∧ chT B N (iI s 4) x ∧ iI t 4 = sk B N (iI s 4 + 1)) ∨ (e = 0 ∧ ¬ chT B N (iI s 4) x ∧ iI t 7 = 1)
/-- (sum) -/
theorem rd_par {B : Nat → Int} {N p o e2 e3 : Int} {D D1 : List Int} {t u v : PS} (hc : chT B N p 40) (ho : o < 6) (h1 : RDc B N 3 (sk B N (p + 1)) (o + 1) D1 t e2) (hD : D1 = D) (he : e2 ≠ 0) (h2 : PSS B N 41 t u e3) (hd : DL v = DL t) (hs : iI v 4 = iI u 4) (hf : iI v 7 = iI u 7) : RDc B N 0 p o D v e3 := by
  obtain ⟨r, r1, r2 | r2⟩ := h1
  · obtain ⟨-, z, z1, z2⟩ := r2
    rcases h2 with ⟨e, c, n⟩ | ⟨e, c, n⟩
    · rw [e]; rw [z1] at c n
      exact rd_ok (pu_py hc ho r1 z c) (by rw [hs, n]) (by rw [hd, z2, hD])
    · rw [e]; rw [z1] at c
      exact rd_no (pu_pn hc ho r1 z c) (by decide) (by rw [hf, n])
  · exact absurd r2.1 he
/-- [either] -/
theorem rd_brk {B : Nat → Int} {N p o e2 e3 : Int} {D D1 : List Int} {t u v : PS} (hw : whV B N p ≠ 10631) (hc : chT B N p 91) (ho : o < 6) (h1 : RDc B N 8 (sk B N (p + 1)) (o + 1) D1 t e2) (hD : D1 = D) (he : e2 ≠ 0) (h2 : PSS B N 93 t u e3) (hd : DL v = DL t) (hs : iI v 4 = iI u 4) (hf : iI v 7 = iI u 7) : RDc B N 5 p o D v e3 := by
  obtain ⟨r, r1, r2 | r2⟩ := h1
  · obtain ⟨-, z, z1, z2⟩ := r2
    rcases h2 with ⟨e, c, n⟩ | ⟨e, c, n⟩
    · rw [e]; rw [z1] at c n
      exact rd_ok (pt_by hw hc ho r1 z c) (by rw [hs, n]) (by rw [hd, z2, hD])
    · rw [e]; rw [z1] at c
      exact rd_no (pt_bn hw hc ho r1 z c) (by decide) (by rw [hf, n])
  · exact absurd r2.1 he
theorem rd_not {B : Nat → Int} {N p o e2 : Int} {D D1 : List Int} {t v : PS} (hw : whV B N p = 10631) (ho : o < 6) (h1 : RDc B N 5 (sk B N (wdE B N p)) (o + 1) D1 t e2) (hD : D1 = D) (he : e2 ≠ 0) (hd : DL v = DL t ++ [-8]) (hs : iI v 4 = iI t 4) : RDc B N 5 p o D v 1 := by
  obtain ⟨r, r1, r2 | r2⟩ := h1
  · obtain ⟨-, z, z1, z2⟩ := r2
    exact rd_ok (pt_ny hw ho r1 z) (by rw [hs, z1]) (by rw [hd, z2, hD, List.append_assoc])
  · exact absurd r2.1 he
/-- sum R sum: no R; the second one fails; all is read -/
theorem rd_sn {B : Nat → Int} {N p o e1 : Int} {D D1 : List Int} {t v : PS} (hw : whV B N p ≠ 10631) (hc : ¬ chT B N p 91) (h1 : RDc B N 3 p o D1 t e1) (he : e1 ≠ 0) (hr : ¬ rlT B N (iI t 4)) (hf : iI v 7 = 1) : RDc B N 5 p o D v 0 := by
  obtain ⟨r, r1, r2 | r2⟩ := h1
  · obtain ⟨-, z, z1, z2⟩ := r2
    rw [z1] at hr
    exact rd_no (pt_sn hw hc r1 z hr) (by decide) hf
  · exact absurd r2.1 he
theorem rd_s2 {B : Nat → Int} {N p o e1 e2 x : Int} {D D1 D2 : List Int} {t u v : PS} (hw : whV B N p ≠ 10631) (hc : ¬ chT B N p 91) (h1 : RDc B N 3 p o D1 t e1) (hD : D1 = D) (he : e1 ≠ 0) (hr : rlT B N (iI t 4)) (hx : x = opC B (iI t 4)) (h2 : RDc B N 3 (sk B N (iI t 4 + 1)) o D2 u e2) (hD2 : D2 = DL t) (hs : iI v 4 = iI u 4) (hf : iI v 7 = iI u 7) (hd : e2 ≠ 0 → DL v = DL u ++ [x]) : RDc B N 5 p o D v e2 := by
  obtain ⟨r, r1, r2 | r2⟩ := h1
  · obtain ⟨-, z, z1, z2⟩ := r2
    obtain ⟨q, q1, q2⟩ := h2
    rw [z1] at hr q1 hx
    refine ⟨_, pt_s2 hw hc r1 z hr q1 rfl, ?_⟩
    unfold bnd
    rcases q2 with ⟨y0, y, y1, y2⟩ | ⟨y0, y, y1⟩
    · rw [if_pos y]
      refine Or.inl ⟨y0, rfl, by rw [hs, y1], ?_⟩
      rw [hd (by first | exact oq_200e3d34 y0 | omega), y2, hD2, z2, hD, hx]
      show D ++ r.2.1 ++ q.2.1 ++ [_] = D ++ (r.2.1 ++ q.2.1 ++ [_])
      simp only [List.append_assoc]
    · rw [if_neg y]
      exact Or.inr ⟨y0, y, by rw [hf, y1]⟩
  · exact absurd r2.1 he
/-- the lesser or the greater of two: no comma; the second one fails; the sign that shuts -/
theorem rd_tn {B : Nat → Int} {N p o e1 : Int} {D D1 : List Int} {t v : PS} (hd : ¬ dgP B N p) (hc : ¬ chT B N p 40) (hw : whV B N p = 6476969 ∨ whV B N p = 267347) (h : chT B N (sk B N (wdE B N p)) 40) (ho : o < 6) (h1 : RDc B N 3 (sk B N (sk B N (wdE B N p) + 1)) (o + 1) D1 t e1) (he : e1 ≠ 0) (hk : ¬ chT B N (iI t 4) 44) (hf : iI v 7 = 1) : RDc B N 0 p o D v 0 := by
  obtain ⟨r, r1, r2 | r2⟩ := h1
  · obtain ⟨-, z, z1, z2⟩ := r2
    rw [z1] at hk
    exact rd_no (pu_tn hd hc hw h ho r1 z hk) (by decide) hf
  · exact absurd r2.1 he
theorem rd_t2 {B : Nat → Int} {N p o e1 e2 e3 x : Int} {D D1 D2 : List Int} {t u y v : PS} (hd : ¬ dgP B N p) (hc : ¬ chT B N p 40) (hw : whV B N p = 6476969 ∨ whV B N p = 267347) (h : chT B N (sk B N (wdE B N p)) 40) (ho : o < 6) (h1 : RDc B N 3 (sk B N (sk B N (wdE B N p) + 1)) (o + 1) D1 t e1) (hD : D1 = D) (he : e1 ≠ 0) (hk : chT B N (iI t 4) 44) (h2 : RDc B N 3 (sk B N (iI t 4 + 1)) (o + 1) D2 u e2) (hD2 : D2 = DL t) (h3 : (e2 = 0 ∧ e3 = 0 ∧ iI v 7 = iI u 7) ∨ (e2 ≠ 0 ∧ PSS B N 41 u y e3 ∧ iI v 7 = iI y 7 ∧ iI v 4 = iI y 4 ∧ (e3 ≠ 0 → DL v = DL u ++ [x]))) (hx : x = if whV B N p = 6476969 then -13 else -14) : RDc B N 0 p o D v e3 := by
  obtain ⟨r, r1, r2 | r2⟩ := h1
  · obtain ⟨-, z, z1, z2⟩ := r2
    obtain ⟨q, q1, q2⟩ := h2
    rw [z1] at hk q1
    refine ⟨_, pu_t2 hd hc hw h ho r1 z hk q1 rfl, ?_⟩
    unfold bnd
    rcases q2 with ⟨y0, yy, y1, y2⟩ | ⟨y0, yy, y1⟩
    · rw [if_pos yy]
      rcases h3 with h3 | ⟨-, h3, h4, h5, h6⟩
      · omega
      · rcases h3 with ⟨k0, k1, k2⟩ | ⟨k0, k1, k2⟩
        · rw [y1] at k1 k2
          dsimp only
          rw [if_pos k1]
          refine Or.inl ⟨k0, rfl, by rw [h5, k2], ?_⟩
          rw [h6 (by first | exact oq_200e3d34 k0 | omega), y2, hD2, z2, hD, hx]
          show D ++ r.2.1 ++ q.2.1 ++ [_] = D ++ (r.2.1 ++ q.2.1 ++ [_])
          simp only [List.append_assoc]
        · rw [y1] at k1
          dsimp only
          rw [if_neg k1]
          exact Or.inr ⟨k0, by show (1 : Int) ≠ 0; decide, by rw [h4, k2]⟩
    · rw [if_neg yy]
      rcases h3 with ⟨-, h3, h4⟩ | h3
      · exact Or.inr ⟨h3, yy, by rw [h4, y1]⟩
      · exact absurd y0 h3.1
  · exact absurd r2.1 he
theorem rx_mv {B : Nat → Int} {N : Int} {m w : Nat} {p o : Int} {D : List Int} {t u : PS} (h : RSc B N m w p o D t) (h1 : DL u = DL t) (h2 : iI u 4 = iI t 4) : RSc B N m w p o D u := by
  obtain ⟨a, h3, h4⟩ := h
  exact ⟨a, h1.trans h3, fun r hr => h4 r (by rw [← h2]; exact hr)⟩
theorem pss_gt {B : Nat → Int} {N x e : Int} {s t : PS} (h : PSS B N x s t e) (he : e ≠ 0) : iI s 4 < iI t 4 ∧ iI t 4 ≤ N := by
  rcases h with ⟨h0, h1, h2⟩ | h
  · have z := sk_le (B := B) (N := N) (p := iI s 4 + 1)
    have y := sk_N (B := B) (N := N) (p := iI s 4 + 1) (by have := h1.1; omega)
    omega
  · exact absurd h.1 he
/-- the class's text: bytes B, N of them, with words; its sign -/
def BYW (B : Nat → Int) (N : Int) (s : PS) : Prop := (∀ i : Nat, i < 200 → iC s 0 i = B i) ∧ iI s 1 = N ∧ iI s 3 = 1
theorem BYW_fm {L M : List Nat} {s t : PS} {B : Nat → Int} {N : Int} (F : Fm L M s t) (h : 1 ∉ L ∧ 3 ∉ L ∧ 0 ∉ M) (r : BYW B N s) : BYW B N t := ⟨fun i hi => (fm_c F h.2.2).trans (r.1 i hi), (fm_i F h.1).trans r.2.1, (fm_i F h.2.1).trans r.2.2⟩
def TKS (B : Nat → Int) (N : Int) (t : PS) : Prop := TKW B N (iI t 5) (iI t 4) (iI t 2) (iI t 6)
theorem TKS_fm {L M : List Nat} {s t : PS} {B : Nat → Int} {N : Int} (F : Fm L M s t) (h : 5 ∉ L ∧ 4 ∉ L ∧ 2 ∉ L ∧ 6 ∉ L) (r : TKS B N s) : TKS B N t := by
  unfold TKS
  rw [fm_i F h.1, fm_i F h.2.1, fm_i F h.2.2.1, fm_i F h.2.2.2]
  exact r
/-- a constant text whose letters are L -/
def StrL (s0 : State) (q : Nat) (L : List Nat) : Prop := ∃ v : Nat, va_O "java/lang/String" q (mb_F s0) s0 s0.heap ∧ va_OF "java/lang/String" "coder" "B" (.int (Int32.ofInt 0)) q (mb_F s0) s0 s0.heap ∧ va_OF "java/lang/String" "value" "[B" (.ref v) q (mb_F s0) s0 s0.heap ∧ va_T .byte v L.length (fun j => .int (Int32.ofInt (L.getD j 0 : Nat))) (mb_F s0) s0 s0.heap
theorem okL_all {L : List Nat} (h : okL L = true) : 1 ≤ L.length ∧ L.length ≤ 6 ∧ ∀ j : Nat, (L.getD j 0) ≤ 127 := by
  unfold okL at h
  simp only [Bool.and_eq_true, decide_eq_true_eq, List.all_eq_true] at h
  refine ⟨h.1.1, h.1.2, fun j => ?_⟩
  rcases getD_mem (l := L) (j := j) (d := 0) with q | q
  · rw [q]; decide
  · have := (h.2 _ q).2; omega
theorem strL_A {s0 : State} {q : Nat} {L : List Nat} (h : StrL s0 q L) (hL : okL L = true) : StrA s0 q L.length := by
  obtain ⟨v, h1, h2, h3, h4⟩ := h
  have o := okL_all hL
  exact ⟨v, fun j => (L.getD j 0 : Nat), o.2.1, fun j => (show 0 ≤ ((L.getD j 0 : Nat) : Int) ∧ ((L.getD j 0 : Nat) : Int) ≤ 127 from ⟨by first | exact oq_a3593015 | omega, by have := o.2.2 j; omega⟩), h1, h2, h3, h4⟩
def txW : List (Nat × List Nat) := [(74, [108, 111, 97, 100]), (80, [106, 111, 105, 110]), (101, [111, 114]), (109, [97, 110, 100]), (111, [110, 111, 116]), (125, [108, 101, 97, 115, 116]), (127, [109, 111, 115, 116]), (136, [119, 97, 121, 115]), (138, [99, 114, 111, 115, 115]), (140, [111, 118, 101, 114]), (142, [99, 108, 105, 109, 98]), (144, [99, 101, 108, 108, 115]), (146, [108, 111, 119]), (148, [112, 105, 101, 99, 101, 115])]
def TXw0 (s0 : State) : Prop := ∀ p ∈ txW, ∃ (t : String) (q : Nat), vk_R RX7 p.1 t q s0 ∧ StrL s0 q p.2
theorem rd_post {B : Nat → Int} {N : Int} {m : Nat} {o e : Int} {s t : PS} (h : RDc B N m (iI s 4) o (DL s) t e) (hm : rsB m [] = 0) (hp : iI s 4 ≤ N) (h0 : 0 ≤ iI s 16) (h1 : 0 ≤ iI t 16) (ho : e ≠ 0 → iI t 19 = iI s 19) : e = 0 ∨ (e = 1 ∧ iI t 19 = iI s 19 ∧ iI s 4 ≤ iI t 4 ∧ iI t 4 ≤ N ∧ iI t 16 + iI s 4 ≤ iI s 16 + iI t 4) := by
  by_cases q : e = 0
  · exact Or.inl q
  · have z := rd_num h q hp hm h1
    have l := DL_len h0
    exact Or.inr ⟨z.1, ho q, z.2.1, z.2.2.1, by first | exact oq_987e8792 l z.2.2.2 | omega⟩
theorem whL_pos {L : List Nat} (h : okL L = true) : whL L 0 ≠ 0 := fun q => by
  have o := okL_all h
  have z := (wh_is (B := fun _ => 0) (N := 0) (p := 0) h).mp (by rw [q]; unfold whV; rw [wd_stop (Or.inl (Int.le_refl _)), if_pos (by decide)]; rfl)
  rw [wd_stop (Or.inl (Int.le_refl _))] at z
  omega
section ZK3
variable {k : kx_T} {mn pc : Nat} {dT : Nat → ClassId} {lv : List (Nat × Value)} {st : List Value} {ws : va_W} {ce sl : Nat}
theorem w_tbK3 (X : AX k mn dT) {t N : Nat} {g0 : Nat → Int} {i : Int} (hT : va_T .byte t N (fun j => .int (Int32.ofInt (g0 j))) (mb_F (kS0 k)) (kS0 k) (kS0 k).heap) (hi : 0 ≤ i ∧ i < (N : Int)) (hN : N ≤ 6) (dd : decode (kCc k) pc = .ok (.baload, 1)) (g : WS k (pc + 1) lv (.int (Int32.ofInt (g0 i.toNat)) :: st) ws ce sl) : WS k pc lv (.int (Int32.ofInt i) :: .ref t :: st) ws ce sl := by
  intro H locs ls hP hD hS hlv
  have hin : vp_in (Int32.ofInt i) N := by
    rw [on_of hi.1]
    exact on_in (by first | exact oq_58be8290 hi.2 hi.1 | omega) (by first | exact oq_ab547e64 hN | omega)
  have e : (Int32.ofInt i).toNatClampNeg = i.toNat := by rw [on_of hi.1]; exact on_cl (by first | exact oq_0e63082e hN hi.2 | omega)
  refine va_tb (v := .int (Int32.ofInt (g0 (Int32.ofInt i).toNatClampNeg))) X.1.1 X.1.2.1 (kx_T0 X.1 hT) hS hin rfl dd ?_
  rw [e]
  exact g H locs ls hP hD hS hlv
end ZK3
theorem sy_no {B : Nat → Int} {N k st a v : Int} {L : List Nat} (h : TKW B N k st a v) (hL : okL L = true) (h1 : k ≠ -3 ∨ a - st ≠ (L.length : Int)) : whV B N st ≠ whL L 0 := fun q => by
  by_cases c : k = -3
  · have z := (wh_is hL).mp q
    have y := (tkw_wd h).1 c
    rcases h1 with h1 | h1
    · exact h1 c
    · rw [y.1] at h1; exact h1 z.1
  · rw [(tkw_wd h).2 c] at q
    exact whL_pos hL q.symm
theorem sy_ne {B : Nat → Int} {N st : Int} {L : List Nat} (hL : okL L = true) {c : Int} (h0 : 0 ≤ c) (h1 : c < (L.length : Int)) (h2 : B (st + c).toNat ≠ (L.getD c.toNat 0 : Nat)) : whV B N st ≠ whL L 0 := fun q => h2 (by
  have z := ((wh_is hL).mp q).2 c.toNat (by first | exact oq_58be8290 h1 h0 | omega)
  rw [show ((c.toNat : Nat) : Int) = c by first | exact oq_94c0d625 h0 | omega] at z
  exact z)
theorem sy_yes {B : Nat → Int} {N k st a v : Int} {L : List Nat} (h : TKW B N k st a v) (hL : okL L = true) (hk : k = -3) (h1 : a - st = (L.length : Int)) {c : Int} (hc : (L.length : Int) ≤ c) (h2 : ∀ i : Nat, (i : Int) < c → B (st + i).toNat = (L.getD i 0 : Nat)) : whV B N st = whL L 0 := by
  refine (wh_is hL).mpr ⟨?_, fun i hi => h2 i (by first | exact oq_0052fd4b hi hc | omega)⟩
  rw [← ((tkw_wd h).1 hk).1]; exact h1
theorem sy_up {B : Nat → Int} {st c : Int} {L : List Nat} (h0 : 0 ≤ c) (h : ∀ i : Nat, (i : Int) < c → B (st + i).toNat = (L.getD i 0 : Nat)) (h1 : B (st + c).toNat = (L.getD c.toNat 0 : Nat)) : ∀ i : Nat, (i : Int) < c + 1 → B (st + i).toNat = (L.getD i 0 : Nat) := fun i hi => by
  by_cases q : (i : Int) = c
  · rw [q, h1, show c.toNat = i by first | exact oq_84096910 q | omega]
  · exact h i (by first | exact oq_0bb9eb65 q hi | omega)
section M87h
variable {l : Launch} {s0 : State} {D : va_G} {tys : List (ClassId × FieldType)} {a0 : Array Value} {A : Nat → Nat} {dT : Nat → ClassId} {s : PS}
set_option maxRecDepth 4000 in
theorem c10_kindOf3 (G : GX l s0 D tys a0 dT) (I : Bd s) {x : Int} (p0 : 0 ≤ x ∧ x ≤ 255) (p1 : iI s 3 = 1) : CT l s0 D A dT 130 (rmN 130) [.ref (A 1), .int (Int32.ofInt x)] s (fun o t => s = t ∧ ∃ e, o = .inl (some (.int (Int32.ofInt e))) ∧ rng e ∧ ((48 ≤ x ∧ x ≤ 57 ∧ e = -2) ∨ (97 ≤ x ∧ x ≤ 122 ∧ e = -3) ∨ ((x < 48 ∨ 57 < x) ∧ (x < 97 ∨ 122 < x) ∧ e = x))) := by
  refine ct_ofX G (by decide) (Nat.le_of_ble_eq_true rfl) (fun k X E ET hRt hXt q => ?_)
  show WS k 0 [(0, .ref (A 1)), (1, .int (Int32.ofInt x))] [] _ 0 0
  have F : Fm [] [] s s := fm_rf _ _ s
  refine z_load_n X (x := x) rfl (List.Mem.tail _ (List.Mem.head _)) (z_bipush X rfl (z_icmp_lt X (t := 15) rfl rfl ⟨by first | exact oq_fa4e5087 p0.1 | omega, by first | exact oq_4567a937 p0.2 | omega⟩ (by decide) (fun g1 => ?_) (fun g1 => ?_)))
  ·
    refine z_aload_n X (x := A 1) rfl (List.Mem.head _) (z_getI X 1 rfl (c518_ok rfl) rfl rfl ?_)
    have b2 := bi_3 I
    have N3 : ∀ e4 : Int, ((((iI s 3) = 0) ∧ e4 = x) ∨ (((iI s 3) ≠ 0) ∧ (x < 97) ∧ e4 = x) ∨ (((iI s 3) ≠ 0) ∧ (97 ≤ x) ∧ (122 < x) ∧ e4 = x) ∨ (((iI s 3) ≠ 0) ∧ (97 ≤ x) ∧ (x ≤ 122) ∧ e4 = (-3))) → WS k 40 [(0, .ref (A 1)), (1, .int (Int32.ofInt x))] [.int (Int32.ofInt e4)] (Wd A dT s) 0 0 := by
      intro e4 he4
      exact w_iret X.1 q hRt rfl (ax_d X (show cdA 130 40 = some (.ireturn, 1, 0, 0, 0) from rfl)) (Nat.zero_le _) (Nat.zero_le _) ⟨_, rfl, rfl, e4, rfl, ⟨by first | exact oq_1ca04d49 he4 p0.1 | omega, by first | exact oq_6ba7703b he4 g1 | omega⟩, by first | exact oq_207bd060 he4 g1 | omega⟩
    refine z_if_eq X (t := 39) rfl rfl (rng_to _) (fun g5 => ?_) (fun g5 => ?_)
    ·
      exact z_load_n X (x := x) rfl (List.Mem.tail _ (List.Mem.head _)) (N3 _ (Or.inl ⟨g5, rfl⟩))
    ·
      refine z_load_n X (x := x) rfl (List.Mem.tail _ (List.Mem.head _)) (z_bipush X rfl (z_icmp_lt X (t := 39) rfl rfl ⟨by first | exact oq_fa4e5087 p0.1 | omega, by first | exact oq_a6687a98 g1 | omega⟩ (by decide) (fun g6 => ?_) (fun g6 => ?_)))
      ·
        exact z_load_n X (x := x) rfl (List.Mem.tail _ (List.Mem.head _)) (N3 _ (Or.inr (Or.inl ⟨g5, g6, rfl⟩)))
      ·
        refine z_load_n X (x := x) rfl (List.Mem.tail _ (List.Mem.head _)) (z_bipush X rfl (z_icmp_gt X (t := 39) rfl rfl ⟨by first | exact oq_9ccaf4ac g6 | omega, by first | exact oq_a6687a98 g1 | omega⟩ (by decide) (fun g7 => ?_) (fun g7 => ?_)))
        ·
          exact z_load_n X (x := x) rfl (List.Mem.tail _ (List.Mem.head _)) (N3 _ (Or.inr (Or.inr (Or.inl ⟨g5, g6, g7, rfl⟩))))
        ·
          exact z_bipush X rfl (z_goto X (t := 40) rfl rfl (N3 _ (Or.inr (Or.inr (Or.inr (⟨g5, g6, g7, rfl⟩))))))
  ·
    refine z_load_n X (x := x) rfl (List.Mem.tail _ (List.Mem.head _)) (z_bipush X rfl (z_icmp_gt X (t := 15) rfl rfl ⟨by first | exact oq_7e4cb212 g1 | omega, by first | exact oq_4567a937 p0.2 | omega⟩ (by decide) (fun g8 => ?_) (fun g8 => ?_)))
    ·
      refine z_aload_n X (x := A 1) rfl (List.Mem.head _) (z_getI X 1 rfl (c518_ok rfl) rfl rfl ?_)
      have b9 := bi_3 I
      have N10 : ∀ e11 : Int, ((((iI s 3) = 0) ∧ e11 = x) ∨ (((iI s 3) ≠ 0) ∧ (x < 97) ∧ e11 = x) ∨ (((iI s 3) ≠ 0) ∧ (97 ≤ x) ∧ (122 < x) ∧ e11 = x) ∨ (((iI s 3) ≠ 0) ∧ (97 ≤ x) ∧ (x ≤ 122) ∧ e11 = (-3))) → WS k 40 [(0, .ref (A 1)), (1, .int (Int32.ofInt x))] [.int (Int32.ofInt e11)] (Wd A dT s) 0 0 := by
        intro e11 he11
        exact w_iret X.1 q hRt rfl (ax_d X (show cdA 130 40 = some (.ireturn, 1, 0, 0, 0) from rfl)) (Nat.zero_le _) (Nat.zero_le _) ⟨_, rfl, rfl, e11, rfl, ⟨by first | exact oq_3fba5eee he11 g8 | omega, by first | exact oq_fc94949b he11 p0.2 | omega⟩, by first | exact oq_1b35d216 he11 g8 p1 | omega⟩
      refine z_if_eq X (t := 39) rfl rfl (rng_to _) (fun g12 => ?_) (fun g12 => ?_)
      ·
        exact z_load_n X (x := x) rfl (List.Mem.tail _ (List.Mem.head _)) (N10 _ (Or.inl ⟨g12, rfl⟩))
      ·
        refine z_load_n X (x := x) rfl (List.Mem.tail _ (List.Mem.head _)) (z_bipush X rfl (z_icmp_lt X (t := 39) rfl rfl ⟨by first | exact oq_eac89bd5 g8 | omega, by first | exact oq_4567a937 p0.2 | omega⟩ (by decide) (fun g13 => ?_) (fun g13 => ?_)))
        ·
          exact z_load_n X (x := x) rfl (List.Mem.tail _ (List.Mem.head _)) (N10 _ (Or.inr (Or.inl ⟨g12, g13, rfl⟩)))
        ·
          refine z_load_n X (x := x) rfl (List.Mem.tail _ (List.Mem.head _)) (z_bipush X rfl (z_icmp_gt X (t := 39) rfl rfl ⟨by first | exact oq_9ccaf4ac g13 | omega, by first | exact oq_4567a937 p0.2 | omega⟩ (by decide) (fun g14 => ?_) (fun g14 => ?_)))
          ·
            exact z_load_n X (x := x) rfl (List.Mem.tail _ (List.Mem.head _)) (N10 _ (Or.inr (Or.inr (Or.inl ⟨g12, g13, g14, rfl⟩))))
          ·
            exact z_bipush X rfl (z_goto X (t := 40) rfl rfl (N10 _ (Or.inr (Or.inr (Or.inr (⟨g12, g13, g14, rfl⟩))))))
    ·
      refine z_bipush X rfl ?_
      exact w_iret X.1 q hRt rfl (ax_d X (show cdA 130 14 = some (.ireturn, 1, 0, 0, 0) from rfl)) (Nat.zero_le _) (Nat.zero_le _) ⟨_, rfl, rfl, (-2), rfl, (by decide), by first | exact Or.inl (And.intro (g1) (And.intro (g8) (by decide))) | omega⟩
set_option maxRecDepth 4000 in
theorem c10_step3 (G : GX l s0 D tys a0 dT) {B : Nat → Int} {N : Int} (I : Bd s) (jBYW : BYW B N s) (p0 : iI s 2 ≤ iI s 1) : CT l s0 D A dT 129 (rmN 129) [.ref (A 1)] s (fun o t => Bd t ∧ Fm [2, 4, 6, 5] [] s t ∧ BYW B N t ∧ TKS B N t ∧ o = .inl none ∧ (iI t 2 ≤ iI t 1 ∧ iI t 4 ≤ iI t 2 ∧ iI t 4 = sk B N (iI s 2) ∧ iI s 2 ≤ iI t 4)) := by
  refine ct_ofX G (by decide) (Nat.le_of_ble_eq_true rfl) (fun k X E ET hRt hXt q => ?_)
  show WS k 0 [(0, .ref (A 1))] [] _ 0 0
  have F : Fm [2, 4, 6, 5] [] s s := fm_rf _ _ s
  have hN := jBYW.2.1
  have hW := jBYW.2.2
  have hskl := sk_le (B := B) (N := N) (p := iI s 2)
  have b1 := bi_2 I
  have b2 := bi_1 I
  have b3 := bi_4 I
  have b4 := bi_5 I
  have b5 := bi_6 I
  have b6 := bi_3 I
  have L0 : ∀ (n : Nat) (t : PS), Bd t → Fm [2, 4, 6, 5] [] s t → BYW B N t → (sk B N (iI t 2) = sk B N (iI s 2)) → (iI t 2 ≤ iI t 1) → (iI t 1 - iI t 2 : Int).toNat < n → (∀ (t' : PS), Bd t' → Fm [2, 4, 6, 5] [] s t' → BYW B N t' → (sk B N (iI s 2) = iI t' 2) → (iI t' 2 ≤ iI t' 1) → WS k 38 [(0, .ref (A 1))] [] (Wd A dT t') 0 0) → WS k 0 [(0, .ref (A 1))] [] (Wd A dT t) 0 0 := by
    intro n
    induction n with
    | zero =>
      intro t  I F jjBYW hq hi hm kx
      exact absurd hm (Nat.not_lt_zero _)
    | succ n ih =>
      intro t  I F jjBYW hq hi hm kx
      have b1001 := bi_2 I
      have b1002 := bi_1 I
      have b1003 := bi_4 I
      have b1004 := bi_5 I
      have b1005 := bi_6 I
      have b1006 := bi_3 I
      have hN := jjBYW.2.1
      have hW := jjBYW.2.2
      refine z_aload_n X (x := A 1) rfl (List.Mem.head _) (z_getI X 1 rfl (c518_ok rfl) rfl rfl ?_)
      have b1007 := bi_2 I
      refine z_aload_n X (x := A 1) rfl (List.Mem.head _) (z_getI X 1 rfl (c518_ok rfl) rfl rfl ?_)
      have b1008 := bi_1 I
      refine z_icmp_ge X (t := 38) rfl rfl (rng_to _) (rng_to _) (fun g1009 => ?_) (fun g1009 => ?_)
      ·
        refine WS_pq [0] (lv' := [(0, .ref (A 1))]) rfl ?_
        exact kx _  I F jjBYW (hq.symm.trans (sk_stop (by first | exact Or.inl (oq_acf76229 g1009 hN) | omega))) (by first | exact hi | omega)
      ·
        refine z_aload_n X (x := A 1) rfl (List.Mem.head _) (s_getR X 1 rfl (c518_ok rfl) rfl rfl (z_aload_n X (x := A 1) rfl (List.Mem.head _) (z_getI X 1 rfl (c518_ok rfl) rfl rfl ?_)))
        have b1010 := bi_2 I
        refine z_ald X 2 rfl (c518_ok rfl) rfl (by first | exact b1010.1 | omega) (show (iI t 2) < 200 by first | exact oq_6fca3d72 g1009 b1008.2 | omega) (cbig_ok rfl) ?_
        have b1011 := bc_0 I (show ((iI t 2)).toNat < 200 by first | exact oq_b70289d5 g1009 b1008.2 | omega)
        have fb1012 : iC t 0 ((iI t 2)).toNat = B ((iI t 2)).toNat := jjBYW.1 _ (by first | exact oq_b70289d5 g1009 b1008.2 | omega)
        refine z_bipush X rfl (z_icmp_ne X (t := 38) rfl rfl (rng_to _) (by decide) (fun g1013 => ?_) (fun g1013 => ?_))
        ·
          refine WS_pq [0] (lv' := [(0, .ref (A 1))]) rfl ?_
          exact kx _  I F jjBYW (hq.symm.trans (sk_stop (by first | exact Or.inr (oq_d2accaf2 g1013 fb1012) | (clear g1013; omega) | omega))) (by first | exact hi | omega)
        ·
          refine z_aload_n X (x := A 1) rfl (List.Mem.head _) (w_dup X.1 (ax_d X (show cdA 129 26 = some (.dup, 1, 0, 0, 0) from rfl)) rfl (z_getI X 1 rfl (c518_ok rfl) rfl rfl ?_))
          have b1014 := bi_2 I
          refine z_const X rfl (z_add X rfl (s_putI X 1 rfl (c518_ok rfl) rfl rfl (by decide) rfl rfl rfl (wd_gen (fun s1015 hs1015 => ?_))))
          have Is1015 : Bd s1015 := eqB hs1015 (bd_I I (show (0 : Int) ≤ ((iI t 2) + 1) ∧ ((iI t 2) + 1) ≤ 200 by first | exact ⟨oq_54f49eb5 b1014.1, oq_228270fa g1009 b1008.2⟩ | omega) ⟨by first | exact oq_74de1e16 b1014.1 | omega, by first | exact oq_bb8d498d b1014.2 | omega⟩)
          have Fs1015 := eqF hs1015 (fm_I F (inl_ok (a := 2) rfl))
          have vs1015 : iI s1015 2 = ((iI t 2) + 1) := eqI hs1015 (iI_u ⟨by first | exact oq_74de1e16 b1014.1 | omega, by first | exact oq_bb8d498d b1014.2 | omega⟩)
          have ws1015_1 : iI s1015 1 = iI t 1 := eqI hs1015 rfl
          have ws1015_4 : iI s1015 4 = iI t 4 := eqI hs1015 rfl
          have ws1015_5 : iI s1015 5 = iI t 5 := eqI hs1015 rfl
          have ws1015_6 : iI s1015 6 = iI t 6 := eqI hs1015 rfl
          have ws1015_3 : iI s1015 3 = iI t 3 := eqI hs1015 rfl
          have fs1015 : Fm [2] [] t s1015 := by rw [hs1015]; exact fm_I (fm_rf _ _ _) (show 2 ∈ _ by decide)
          have JBYW_s1015 : BYW B N s1015 := BYW_fm fs1015 (by decide) jjBYW
          refine z_goto X (t := 0) rfl rfl (WS_pq [0] (lv' := [(0, .ref (A 1))]) rfl ?_)
          exact ih _  Is1015 Fs1015 JBYW_s1015 (by rw [vs1015, ← sk_blank (by first | exact oq_9d1a6c71 g1009 hN | omega) (by first | exact oq_15e1498e g1013 fb1012 | omega)]; exact hq) (by first | exact oq_61bfd4fa ws1015_1 vs1015 g1009 | omega) (by first | exact qk_me hm (oq_bf2569a2 ws1015_1 vs1015) (oq_901836cd g1009) | omega) kx
  have L92 : ∀ (n : Nat) (t : PS), Bd t → Fm [2, 4, 6, 5] [] s t → BYW B N t → (nmV B N (iI t 2) (iI t 6) = nmV B N (sk B N (iI s 2)) 0 ∧ nmE B N (iI t 2) (iI t 6) = nmE B N (sk B N (iI s 2)) 0) → (iI t 2 ≤ iI t 1 ∧ iI t 4 ≤ iI t 2 ∧ iI t 4 = sk B N (iI s 2) ∧ iI t 5 = -2) → (iI t 1 - iI t 2 : Int).toNat < n → (∀ (t' : PS), Bd t' → Fm [2, 4, 6, 5] [] s t' → BYW B N t' → (iI t' 6 = nmV B N (sk B N (iI s 2)) 0 ∧ iI t' 2 = nmE B N (sk B N (iI s 2)) 0) → (iI t' 2 ≤ iI t' 1 ∧ iI t' 4 ≤ iI t' 2 ∧ iI t' 4 = sk B N (iI s 2) ∧ iI t' 5 = -2) → WS k 232 [(0, .ref (A 1))] [] (Wd A dT t') 0 0) → WS k 92 [(0, .ref (A 1))] [] (Wd A dT t) 0 0 := by
    intro n
    induction n with
    | zero =>
      intro t  I F jjBYW hq hi hm kx
      exact absurd hm (Nat.not_lt_zero _)
    | succ n ih =>
      intro t  I F jjBYW hq hi hm kx
      have b2001 := bi_2 I
      have b2002 := bi_1 I
      have b2003 := bi_4 I
      have b2004 := bi_5 I
      have b2005 := bi_6 I
      have b2006 := bi_3 I
      have hN := jjBYW.2.1
      have hW := jjBYW.2.2
      refine z_aload_n X (x := A 1) rfl (List.Mem.head _) (z_getI X 1 rfl (c518_ok rfl) rfl rfl ?_)
      have b2007 := bi_2 I
      refine z_aload_n X (x := A 1) rfl (List.Mem.head _) (z_getI X 1 rfl (c518_ok rfl) rfl rfl ?_)
      have b2008 := bi_1 I
      refine z_icmp_ge X (t := 232) rfl rfl (rng_to _) (rng_to _) (fun g2009 => ?_) (fun g2009 => ?_)
      ·
        refine WS_pq [0] (lv' := [(0, .ref (A 1))]) rfl ?_
        exact kx _  I F jjBYW ⟨(nmV_stop (by first | exact Or.inl (oq_acf76229 g2009 hN) | omega)).symm.trans hq.1, (nmE_stop (by first | exact Or.inl (oq_acf76229 g2009 hN) | omega)).symm.trans hq.2⟩ (by first | exact ⟨hi.1, hi.2.1, hi.2.2.1, hi.2.2.2⟩ | omega)
      ·
        refine z_aload_n X (x := A 1) rfl (List.Mem.head _) (z_aload_n X (x := A 1) rfl (List.Mem.head _) (s_getR X 1 rfl (c518_ok rfl) rfl rfl (z_aload_n X (x := A 1) rfl (List.Mem.head _) (z_getI X 1 rfl (c518_ok rfl) rfl rfl ?_))))
        have b2010 := bi_2 I
        refine z_ald X 2 rfl (c518_ok rfl) rfl (by first | exact b2010.1 | omega) (show (iI t 2) < 200 by first | exact oq_6fca3d72 g2009 b2008.2 | omega) (cbig_ok rfl) ?_
        have b2011 := bc_0 I (show ((iI t 2)).toNat < 200 by first | exact oq_b70289d5 g2009 b2008.2 | omega)
        have fb2012 : iC t 0 ((iI t 2)).toNat = B ((iI t 2)).toNat := jjBYW.1 _ (by first | exact oq_b70289d5 g2009 b2008.2 | omega)
        refine z_callV X 1 (rm := rmN 130) (As := [.int (Int32.ofInt (iC t 0 ((iI t 2)).toNat))]) (st := []) rfl rfl (by decide) rfl (by rw [E.1, E.2.1, E.2.2.1]; exact c10_kindOf3 G I (by first | exact ⟨b2011.1, b2011.2⟩ | omega) (by first | exact hW | omega)) ⟨by rw [E.2.2.2]; exact (show (rmN 130).frames + 1 ≤ (rmN 129).frames by decide), by rw [E.2.2.2]; exact (show 8 + (mNL (miB 130) + 11) + (rmN 130).locals ≤ (rmN 129).locals by decide), by rw [E.2.2.2]; exact (show 0 + (rmN 130).cells ≤ (rmN 129).cells by decide), by rw [E.2.2.2]; exact (show 0 + (rmN 130).slots ≤ (rmN 129).slots by decide)⟩ (Nat.le_of_ble_eq_true rfl) (fun vv s2013 hq => ?_) (fun ee s2013 hq => ?_)
        rotate_left
        · obtain ⟨rfl, e2014, hv, hrs2013, hps2013⟩ := hq; cases hv
        obtain ⟨rfl, e2014, hv, hrs2013, hps2013⟩ := hq
        cases hv
        show WS k 116 [(0, .ref (A 1))] [.int (Int32.ofInt e2014)] (Wd A dT t) 0 0
        refine z_bipush X rfl (z_icmp_ne X (t := 232) rfl rfl hrs2013 (by decide) (fun g2015 => ?_) (fun g2015 => ?_))
        ·
          refine WS_pq [0] (lv' := [(0, .ref (A 1))]) rfl ?_
          exact kx _  I F jjBYW ⟨(nmV_stop (by first | exact Or.inr (oq_4c11a142 g2015 hps2013 fb2012) | (clear g2015 hps2013; omega) | (clear hps2013; omega) | omega)).symm.trans hq.1, (nmE_stop (by first | exact Or.inr (oq_4c11a142 g2015 hps2013 fb2012) | (clear g2015 hps2013; omega) | (clear hps2013; omega) | omega)).symm.trans hq.2⟩ (by first | exact ⟨hi.1, hi.2.1, hi.2.2.1, hi.2.2.2⟩ | omega)
        ·
          refine z_aload_n X (x := A 1) rfl (List.Mem.head _) (z_ldc X rfl (z_aload_n X (x := A 1) rfl (List.Mem.head _) (z_getI X 1 rfl (c518_ok rfl) rfl rfl ?_)))
          have b2016 := bi_6 I
          refine z_bipush X rfl (z_mul X rfl (z_aload_n X (x := A 1) rfl (List.Mem.head _) (s_getR X 1 rfl (c518_ok rfl) rfl rfl (z_aload_n X (x := A 1) rfl (List.Mem.head _) (z_getI X 1 rfl (c518_ok rfl) rfl rfl ?_)))))
          have b2017 := bi_2 I
          refine z_ald X 2 rfl (c518_ok rfl) rfl (by first | exact b2017.1 | omega) (show (iI t 2) < 200 by first | exact oq_6fca3d72 g2009 b2008.2 | omega) (cbig_ok rfl) ?_
          have b2018 := bc_0 I (show ((iI t 2)).toNat < 200 by first | exact oq_b70289d5 g2009 b2008.2 | omega)
          have fb2019 : iC t 0 ((iI t 2)).toNat = B ((iI t 2)).toNat := jjBYW.1 _ (by first | exact oq_b70289d5 g2009 b2008.2 | (clear hps2013; omega) | omega)
          refine z_add X rfl (z_bipush X rfl (z_sub X rfl (z_min X rfl (by decide) ⟨by first | exact oq_74ddc356 b2016.1 b2018.1 | omega, by first | exact oq_507881e8 b2016.2 b2018.2 | omega⟩ (by rw [E.2.2.2]; decide) (by rw [E.2.2.2]; exact Nat.le_of_ble_eq_true rfl) (Nat.zero_le _) (Nat.zero_le _) (fun e2020 he2020 => ?_))))
          refine s_putI X 1 rfl (c518_ok rfl) rfl rfl (by decide) rfl rfl rfl (wd_gen (fun s2021 hs2021 => ?_))
          have Is2021 : Bd s2021 := eqB hs2021 (bd_I I (show (0 : Int) ≤ e2020 ∧ e2020 ≤ 100000 by first | exact ⟨oq_55e138cf he2020 b2018.1 b2016.1 g2015 hps2013, oq_111e13c5 he2020⟩ | omega) ⟨by first | exact oq_d5d8953a he2020 b2018.1 b2016.1 | omega, by first | exact oq_aae81add he2020 | omega⟩)
          have Fs2021 := eqF hs2021 (fm_I F (inl_ok (a := 6) rfl))
          have vs2021 : iI s2021 6 = e2020 := eqI hs2021 (iI_u ⟨by first | exact oq_d5d8953a he2020 b2018.1 b2016.1 | omega, by first | exact oq_aae81add he2020 | omega⟩)
          have ws2021_2 : iI s2021 2 = iI t 2 := eqI hs2021 rfl
          have ws2021_1 : iI s2021 1 = iI t 1 := eqI hs2021 rfl
          have ws2021_4 : iI s2021 4 = iI t 4 := eqI hs2021 rfl
          have ws2021_5 : iI s2021 5 = iI t 5 := eqI hs2021 rfl
          have ws2021_3 : iI s2021 3 = iI t 3 := eqI hs2021 rfl
          have fs2021 : Fm [6] [] t s2021 := by rw [hs2021]; exact fm_I (fm_rf _ _ _) (show 6 ∈ _ by decide)
          have JBYW_s2021 : BYW B N s2021 := BYW_fm fs2021 (by decide) jjBYW
          refine z_aload_n X (x := A 1) rfl (List.Mem.head _) (w_dup X.1 (ax_d X (show cdA 129 151 = some (.dup, 1, 0, 0, 0) from rfl)) rfl (z_getI X 1 rfl (c518_ok rfl) rfl rfl ?_))
          have b2022 := bi_2 Is2021
          refine z_const X rfl (z_add X rfl (s_putI X 1 rfl (c518_ok rfl) rfl rfl (by decide) rfl rfl rfl (wd_gen (fun s2023 hs2023 => ?_))))
          have Is2023 : Bd s2023 := eqB hs2023 (bd_I Is2021 (show (0 : Int) ≤ ((iI s2021 2) + 1) ∧ ((iI s2021 2) + 1) ≤ 200 by first | exact ⟨oq_54f49eb5 b2022.1, oq_ff985df0 ws2021_2 g2009 b2008.2⟩ | omega) ⟨by first | exact oq_74de1e16 b2022.1 | omega, by first | exact oq_bb8d498d b2022.2 | omega⟩)
          have Fs2023 := eqF hs2023 (fm_I Fs2021 (inl_ok (a := 2) rfl))
          have vs2023 : iI s2023 2 = ((iI s2021 2) + 1) := eqI hs2023 (iI_u ⟨by first | exact oq_74de1e16 b2022.1 | omega, by first | exact oq_bb8d498d b2022.2 | omega⟩)
          have ws2023_1 : iI s2023 1 = iI s2021 1 := eqI hs2023 rfl
          have ws2023_4 : iI s2023 4 = iI s2021 4 := eqI hs2023 rfl
          have ws2023_5 : iI s2023 5 = iI s2021 5 := eqI hs2023 rfl
          have ws2023_6 : iI s2023 6 = iI s2021 6 := eqI hs2023 rfl
          have ws2023_3 : iI s2023 3 = iI s2021 3 := eqI hs2023 rfl
          have fs2023 : Fm [2] [] s2021 s2023 := by rw [hs2023]; exact fm_I (fm_rf _ _ _) (show 2 ∈ _ by decide)
          have JBYW_s2023 : BYW B N s2023 := BYW_fm fs2023 (by decide) JBYW_s2021
          refine z_goto X (t := 92) rfl rfl (WS_pq [0] (lv' := [(0, .ref (A 1))]) rfl ?_)
          exact ih _  Is2023 Fs2023 JBYW_s2023 (by rw [show iI s2023 2 = iI t 2 + 1 by first | exact oq_665cd23d vs2023 ws2021_2 | (clear hps2013; omega) | omega, show iI s2023 6 = cap (10 * iI t 6 + B (iI t 2).toNat - 48) by unfold cap; split <;> omega, ← nmV_dig (by first | exact oq_9d1a6c71 g2009 hN | (clear hps2013; omega) | omega) (by first | exact oq_f8c315e7 fb2019 b2018.1 g2015 hps2013 | (clear hps2013; omega) | omega) (by first | exact oq_04c21aed fb2019 g2015 hps2013 | (clear hps2013; omega) | omega), ← nmE_dig (by first | exact oq_9d1a6c71 g2009 hN | (clear hps2013; omega) | omega) (by first | exact oq_f8c315e7 fb2019 b2018.1 g2015 hps2013 | (clear hps2013; omega) | omega) (by first | exact oq_04c21aed fb2019 g2015 hps2013 | (clear hps2013; omega) | omega)]; exact hq) (by first | exact ⟨oq_499a7076 ws2023_1 vs2023 ws2021_1 ws2021_2 g2009, oq_552af53c vs2023 ws2023_4 ws2021_4 ws2021_2 hi.2.1, oq_2e8e3af2 hi.2.2.1 ws2023_4 ws2021_4, oq_fd530c01 ws2023_5 ws2021_5 hi.2.2.2⟩ | omega) (by first | exact qk_me hm (oq_956b687f ws2023_1 vs2023 ws2021_1 ws2021_2) (oq_901836cd g2009) | omega) kx
  have L172 : ∀ (n : Nat) (t : PS), Bd t → Fm [2, 4, 6, 5] [] s t → BYW B N t → (wdE B N (iI t 2) = wdE B N (sk B N (iI s 2))) → (iI t 2 ≤ iI t 1 ∧ iI t 4 ≤ iI t 2 ∧ iI t 4 = sk B N (iI s 2) ∧ iI t 5 = -3) → (iI t 1 - iI t 2 : Int).toNat < n → (∀ (t' : PS), Bd t' → Fm [2, 4, 6, 5] [] s t' → BYW B N t' → (iI t' 2 = wdE B N (sk B N (iI s 2))) → (iI t' 2 ≤ iI t' 1 ∧ iI t' 4 ≤ iI t' 2 ∧ iI t' 4 = sk B N (iI s 2) ∧ iI t' 5 = -3) → WS k 232 [(0, .ref (A 1))] [] (Wd A dT t') 0 0) → WS k 172 [(0, .ref (A 1))] [] (Wd A dT t) 0 0 := by
    intro n
    induction n with
    | zero =>
      intro t  I F jjBYW hq hi hm kx
      exact absurd hm (Nat.not_lt_zero _)
    | succ n ih =>
      intro t  I F jjBYW hq hi hm kx
      have b3001 := bi_2 I
      have b3002 := bi_1 I
      have b3003 := bi_4 I
      have b3004 := bi_5 I
      have b3005 := bi_6 I
      have b3006 := bi_3 I
      have hN := jjBYW.2.1
      have hW := jjBYW.2.2
      refine z_aload_n X (x := A 1) rfl (List.Mem.head _) (z_getI X 1 rfl (c518_ok rfl) rfl rfl ?_)
      have b3007 := bi_2 I
      refine z_aload_n X (x := A 1) rfl (List.Mem.head _) (z_getI X 1 rfl (c518_ok rfl) rfl rfl ?_)
      have b3008 := bi_1 I
      refine z_icmp_ge X (t := 232) rfl rfl (rng_to _) (rng_to _) (fun g3009 => ?_) (fun g3009 => ?_)
      ·
        refine WS_pq [0] (lv' := [(0, .ref (A 1))]) rfl ?_
        exact kx _  I F jjBYW ((wd_stop (by first | exact Or.inl (oq_acf76229 g3009 hN) | omega)).symm.trans hq) (by first | exact ⟨hi.1, hi.2.1, hi.2.2.1, hi.2.2.2⟩ | omega)
      ·
        refine z_aload_n X (x := A 1) rfl (List.Mem.head _) (z_aload_n X (x := A 1) rfl (List.Mem.head _) (s_getR X 1 rfl (c518_ok rfl) rfl rfl (z_aload_n X (x := A 1) rfl (List.Mem.head _) (z_getI X 1 rfl (c518_ok rfl) rfl rfl ?_))))
        have b3010 := bi_2 I
        refine z_ald X 2 rfl (c518_ok rfl) rfl (by first | exact b3010.1 | omega) (show (iI t 2) < 200 by first | exact oq_6fca3d72 g3009 b3008.2 | omega) (cbig_ok rfl) ?_
        have b3011 := bc_0 I (show ((iI t 2)).toNat < 200 by first | exact oq_b70289d5 g3009 b3008.2 | omega)
        have fb3012 : iC t 0 ((iI t 2)).toNat = B ((iI t 2)).toNat := jjBYW.1 _ (by first | exact oq_b70289d5 g3009 b3008.2 | omega)
        refine z_callV X 1 (rm := rmN 130) (As := [.int (Int32.ofInt (iC t 0 ((iI t 2)).toNat))]) (st := []) rfl rfl (by decide) rfl (by rw [E.1, E.2.1, E.2.2.1]; exact c10_kindOf3 G I (by first | exact ⟨b3011.1, b3011.2⟩ | omega) (by first | exact hW | omega)) ⟨by rw [E.2.2.2]; exact (show (rmN 130).frames + 1 ≤ (rmN 129).frames by decide), by rw [E.2.2.2]; exact (show 8 + (mNL (miB 130) + 11) + (rmN 130).locals ≤ (rmN 129).locals by decide), by rw [E.2.2.2]; exact (show 0 + (rmN 130).cells ≤ (rmN 129).cells by decide), by rw [E.2.2.2]; exact (show 0 + (rmN 130).slots ≤ (rmN 129).slots by decide)⟩ (Nat.le_of_ble_eq_true rfl) (fun vv s3013 hq => ?_) (fun ee s3013 hq => ?_)
        rotate_left
        · obtain ⟨rfl, e3014, hv, hrs3013, hps3013⟩ := hq; cases hv
        obtain ⟨rfl, e3014, hv, hrs3013, hps3013⟩ := hq
        cases hv
        show WS k 196 [(0, .ref (A 1))] [.int (Int32.ofInt e3014)] (Wd A dT t) 0 0
        refine z_bipush X rfl (z_icmp_ne X (t := 232) rfl rfl hrs3013 (by decide) (fun g3015 => ?_) (fun g3015 => ?_))
        ·
          refine WS_pq [0] (lv' := [(0, .ref (A 1))]) rfl ?_
          exact kx _  I F jjBYW ((wd_stop (by first | exact Or.inr (oq_71ebf448 g3015 hps3013 fb3012) | (clear g3015 hps3013; omega) | (clear hps3013; omega) | omega)).symm.trans hq) (by first | exact ⟨hi.1, hi.2.1, hi.2.2.1, hi.2.2.2⟩ | omega)
        ·
          refine z_aload_n X (x := A 1) rfl (List.Mem.head _) (w_dup X.1 (ax_d X (show cdA 129 202 = some (.dup, 1, 0, 0, 0) from rfl)) rfl (z_getI X 1 rfl (c518_ok rfl) rfl rfl ?_))
          have b3016 := bi_2 I
          refine z_const X rfl (z_add X rfl (s_putI X 1 rfl (c518_ok rfl) rfl rfl (by decide) rfl rfl rfl (wd_gen (fun s3017 hs3017 => ?_))))
          have Is3017 : Bd s3017 := eqB hs3017 (bd_I I (show (0 : Int) ≤ ((iI t 2) + 1) ∧ ((iI t 2) + 1) ≤ 200 by first | exact ⟨oq_54f49eb5 b3016.1, oq_228270fa g3009 b3008.2⟩ | omega) ⟨by first | exact oq_74de1e16 b3016.1 | omega, by first | exact oq_bb8d498d b3016.2 | omega⟩)
          have Fs3017 := eqF hs3017 (fm_I F (inl_ok (a := 2) rfl))
          have vs3017 : iI s3017 2 = ((iI t 2) + 1) := eqI hs3017 (iI_u ⟨by first | exact oq_74de1e16 b3016.1 | omega, by first | exact oq_bb8d498d b3016.2 | omega⟩)
          have ws3017_1 : iI s3017 1 = iI t 1 := eqI hs3017 rfl
          have ws3017_4 : iI s3017 4 = iI t 4 := eqI hs3017 rfl
          have ws3017_5 : iI s3017 5 = iI t 5 := eqI hs3017 rfl
          have ws3017_6 : iI s3017 6 = iI t 6 := eqI hs3017 rfl
          have ws3017_3 : iI s3017 3 = iI t 3 := eqI hs3017 rfl
          have fs3017 : Fm [2] [] t s3017 := by rw [hs3017]; exact fm_I (fm_rf _ _ _) (show 2 ∈ _ by decide)
          have JBYW_s3017 : BYW B N s3017 := BYW_fm fs3017 (by decide) jjBYW
          refine z_goto X (t := 172) rfl rfl (WS_pq [0] (lv' := [(0, .ref (A 1))]) rfl ?_)
          exact ih _  Is3017 Fs3017 JBYW_s3017 (by rw [vs3017, ← wd_let (by first | exact oq_9d1a6c71 g3009 hN | (clear hps3013; omega) | omega) (by first | exact oq_5b217426 g3015 hps3013 fb3012 b3011.1 | (clear hps3013; omega) | omega) (by first | exact oq_91cac45a g3015 hps3013 fb3012 | (clear hps3013; omega) | omega)]; exact hq) (by first | exact ⟨oq_61bfd4fa ws3017_1 vs3017 g3009, oq_13269827 vs3017 ws3017_4 hi.2.1, oq_27118732 hi.2.2.1 ws3017_4, oq_15d471aa ws3017_5 hi.2.2.2 b3004.1⟩ | omega) (by first | exact qk_me hm (oq_bf2569a2 ws3017_1 vs3017) (oq_901836cd g3009) | omega) kx
  refine WS_pq [0] (lv' := [(0, .ref (A 1))]) rfl (L0 ((iI s 1 - iI s 2 : Int).toNat + 1) s  I F jBYW rfl (by first | exact p0 | omega) (Nat.lt_succ_self _) ?_)
  intro s7  Is7 Fs7 JBYW_s7 Qs7 hs7
  have b8 := bi_2 Is7
  have b9 := bi_1 Is7
  have b10 := bi_4 Is7
  have b11 := bi_5 Is7
  have b12 := bi_6 Is7
  have b13 := bi_3 Is7
  have hNs7 := JBYW_s7.2.1
  have hWs7 := JBYW_s7.2.2
  refine z_aload_n X (x := A 1) rfl (List.Mem.head _) (z_aload_n X (x := A 1) rfl (List.Mem.head _) (z_getI X 1 rfl (c518_ok rfl) rfl rfl ?_))
  have b14 := bi_2 Is7
  refine s_putI X 1 rfl (c518_ok rfl) rfl rfl (by decide) rfl rfl rfl (wd_gen (fun s15 hs15 => ?_))
  have Is15 : Bd s15 := eqB hs15 (bd_I Is7 (show (0 : Int) ≤ (iI s7 2) ∧ (iI s7 2) ≤ 200 by first | exact ⟨b14.1, b14.2⟩ | omega) (rng_to _))
  have Fs15 := eqF hs15 (fm_I Fs7 (inl_ok (a := 4) rfl))
  have vs15 : iI s15 4 = (iI s7 2) := eqI hs15 (iI_u (rng_to _))
  have ws15_2 : iI s15 2 = iI s7 2 := eqI hs15 rfl
  have ws15_1 : iI s15 1 = iI s7 1 := eqI hs15 rfl
  have ws15_5 : iI s15 5 = iI s7 5 := eqI hs15 rfl
  have ws15_6 : iI s15 6 = iI s7 6 := eqI hs15 rfl
  have ws15_3 : iI s15 3 = iI s7 3 := eqI hs15 rfl
  have fs15 : Fm [4] [] s7 s15 := by rw [hs15]; exact fm_I (fm_rf _ _ _) (show 4 ∈ _ by decide)
  have JBYW_s15 : BYW B N s15 := BYW_fm fs15 (by decide) JBYW_s7
  refine z_aload_n X (x := A 1) rfl (List.Mem.head _) (z_const X rfl (s_putI X 1 rfl (c518_ok rfl) rfl rfl (by decide) rfl rfl rfl (wd_gen (fun s16 hs16 => ?_))))
  have Is16 : Bd s16 := eqB hs16 (bd_I Is15 (show (0 : Int) ≤ 0 ∧ 0 ≤ 100000 by first | exact ⟨by decide, by decide⟩ | omega) (by decide))
  have Fs16 := eqF hs16 (fm_I Fs15 (inl_ok (a := 6) rfl))
  have vs16 : iI s16 6 = 0 := eqI hs16 (iI_u (by decide))
  have ws16_2 : iI s16 2 = iI s15 2 := eqI hs16 rfl
  have ws16_1 : iI s16 1 = iI s15 1 := eqI hs16 rfl
  have ws16_4 : iI s16 4 = iI s15 4 := eqI hs16 rfl
  have ws16_5 : iI s16 5 = iI s15 5 := eqI hs16 rfl
  have ws16_3 : iI s16 3 = iI s15 3 := eqI hs16 rfl
  have fs16 : Fm [6] [] s15 s16 := by rw [hs16]; exact fm_I (fm_rf _ _ _) (show 6 ∈ _ by decide)
  have JBYW_s16 : BYW B N s16 := BYW_fm fs16 (by decide) JBYW_s15
  refine z_aload_n X (x := A 1) rfl (List.Mem.head _) (z_aload_n X (x := A 1) rfl (List.Mem.head _) (z_getI X 1 rfl (c518_ok rfl) rfl rfl ?_))
  have b17 := bi_2 Is16
  refine z_aload_n X (x := A 1) rfl (List.Mem.head _) (z_getI X 1 rfl (c518_ok rfl) rfl rfl ?_)
  have b18 := bi_1 Is16
  refine z_icmp_ge X (t := 79) rfl rfl (rng_to _) (rng_to _) (fun g19 => ?_) (fun g19 => ?_)
  ·
    refine z_const X rfl (s_putI X 1 rfl (c518_ok rfl) rfl rfl (by decide) rfl rfl rfl (wd_gen (fun s20 hs20 => ?_)))
    have Is20 : Bd s20 := eqB hs20 (bd_I Is16 (show ((-3) : Int) ≤ (-1) ∧ (-1) ≤ 255 by first | exact ⟨by decide, by decide⟩ | omega) (by decide))
    have Fs20 := eqF hs20 (fm_I Fs16 (inl_ok (a := 5) rfl))
    have vs20 : iI s20 5 = (-1) := eqI hs20 (iI_u (by decide))
    have ws20_2 : iI s20 2 = iI s16 2 := eqI hs20 rfl
    have ws20_1 : iI s20 1 = iI s16 1 := eqI hs20 rfl
    have ws20_4 : iI s20 4 = iI s16 4 := eqI hs20 rfl
    have ws20_6 : iI s20 6 = iI s16 6 := eqI hs20 rfl
    have ws20_3 : iI s20 3 = iI s16 3 := eqI hs20 rfl
    have fs20 : Fm [5] [] s16 s20 := by rw [hs20]; exact fm_I (fm_rf _ _ _) (show 5 ∈ _ by decide)
    have JBYW_s20 : BYW B N s20 := BYW_fm fs20 (by decide) JBYW_s16
    refine z_aload_n X (x := A 1) rfl (List.Mem.head _) (z_getI X 1 rfl (c518_ok rfl) rfl rfl ?_)
    have b21 := bi_5 Is20
    refine z_bipush X rfl (z_icmp_ne X (t := 163) rfl rfl (rng_to _) (by decide) (fun g22 => ?_) (fun g22 => ?_))
    ·
      refine z_aload_n X (x := A 1) rfl (List.Mem.head _) (z_getI X 1 rfl (c518_ok rfl) rfl rfl ?_)
      have b23 := bi_5 Is20
      refine z_bipush X rfl (z_icmp_ne X (t := 214) rfl rfl (rng_to _) (by decide) (fun g24 => ?_) (fun g24 => ?_))
      ·
        refine z_aload_n X (x := A 1) rfl (List.Mem.head _) (z_getI X 1 rfl (c518_ok rfl) rfl rfl ?_)
        have b25 := bi_5 Is20
        refine z_const X rfl (z_icmp_eq X (t := 232) rfl rfl (rng_to _) (by decide) (fun g26 => ?_) (fun g26 => ?_))
        ·
          have JTs20 : TKS B N s20 := by first | exact Or.inl ⟨by first | exact oq_f0def832 ws20_4 g19 ws16_4 ws16_1 ws16_2 ws15_1 ws15_2 vs15 hNs7 | (clear g24 g22; omega) | (clear g22; omega) | omega, by first | exact g26 | (clear g24 g22; omega) | (clear g22; omega) | omega⟩ | exact tkw_sig (x := 0) (Q := sk B N (iI s 2)) (by first | (clear g24 g22; omega) | (clear g22; omega) | omega) (by first | (clear g24 g22; omega) | (clear g22; omega) | omega) (by first | (clear g24 g22; omega) | (clear g22; omega) | omega) (by first | (clear g24 g22; omega) | (clear g22; omega) | omega) (by first | (clear g24 g22; omega) | (clear g22; omega) | omega) (by first | (clear g24 g22; omega) | (clear g22; omega) | omega) (by first | (clear g24 g22; omega) | (clear g22; omega) | omega) (by first | (clear g24 g22; omega) | (clear g22; omega) | omega)
          exact w_vret X.1 q hRt (ax_d X (show cdA 129 232 = some (.return_, 1, 0, 0, 0) from rfl)) (Nat.zero_le _) (Nat.zero_le _) ⟨_, rfl, Is20, Fs20, JBYW_s20, JTs20, rfl, by first | exact ⟨oq_72ebe5a4 ws20_1 ws20_2 ws16_1 ws16_2 ws15_1 ws15_2 hs7, oq_75f1f811 ws20_4 ws20_2 ws16_4 ws16_2 ws15_2 vs15, by first | exact oq_2fb32834 ws20_4 ws16_4 vs15 Qs7 | (clear g24 g22; omega) | (clear g22; omega) | omega, by first | exact oq_1c47a2ed ws20_4 ws16_4 vs15 Qs7 hskl | (clear g24 g22; omega) | (clear g22; omega) | omega⟩ | omega⟩
        ·
          refine z_aload_n X (x := A 1) rfl (List.Mem.head _) (w_dup X.1 (ax_d X (show cdA 129 223 = some (.dup, 1, 0, 0, 0) from rfl)) rfl (z_getI X 1 rfl (c518_ok rfl) rfl rfl ?_))
          have b27 := bi_2 Is20
          refine z_const X rfl (z_add X rfl (s_putI X 1 rfl (c518_ok rfl) rfl rfl (by decide) rfl rfl rfl (wd_gen (fun s28 hs28 => ?_))))
          have Is28 : Bd s28 := eqB hs28 (bd_I Is20 (show (0 : Int) ≤ ((iI s20 2) + 1) ∧ ((iI s20 2) + 1) ≤ 200 by first | exact ⟨oq_54f49eb5 b27.1, oq_3239b5cf g26 vs20⟩ | omega) ⟨by first | exact oq_74de1e16 b27.1 | omega, by first | exact oq_bb8d498d b27.2 | omega⟩)
          have Fs28 := eqF hs28 (fm_I Fs20 (inl_ok (a := 2) rfl))
          have vs28 : iI s28 2 = ((iI s20 2) + 1) := eqI hs28 (iI_u ⟨by first | exact oq_74de1e16 b27.1 | omega, by first | exact oq_bb8d498d b27.2 | omega⟩)
          have ws28_1 : iI s28 1 = iI s20 1 := eqI hs28 rfl
          have ws28_4 : iI s28 4 = iI s20 4 := eqI hs28 rfl
          have ws28_5 : iI s28 5 = iI s20 5 := eqI hs28 rfl
          have ws28_6 : iI s28 6 = iI s20 6 := eqI hs28 rfl
          have ws28_3 : iI s28 3 = iI s20 3 := eqI hs28 rfl
          have fs28 : Fm [2] [] s20 s28 := by rw [hs28]; exact fm_I (fm_rf _ _ _) (show 2 ∈ _ by decide)
          have JBYW_s28 : BYW B N s28 := BYW_fm fs28 (by decide) JBYW_s20
          have JTs28 : TKS B N s28 := by first | exact Or.inl ⟨by first | exact oq_a6252360 ws28_4 ws20_4 g19 ws16_4 ws16_1 ws16_2 ws15_1 ws15_2 vs15 hNs7 | (clear g26 g24 g22; omega) | (clear g24 g22; omega) | omega, by first | exact oq_627b51e0 ws28_5 vs20 | (clear g26 g24 g22; omega) | (clear g24 g22; omega) | omega⟩ | exact tkw_sig (x := 0) (Q := sk B N (iI s 2)) (by first | (clear g26 g24 g22; omega) | (clear g24 g22; omega) | omega) (by first | (clear g26 g24 g22; omega) | (clear g24 g22; omega) | omega) (by first | (clear g26 g24 g22; omega) | (clear g24 g22; omega) | omega) (by first | (clear g26 g24 g22; omega) | (clear g24 g22; omega) | omega) (by first | (clear g26 g24 g22; omega) | (clear g24 g22; omega) | omega) (by first | (clear g26 g24 g22; omega) | (clear g24 g22; omega) | omega) (by first | (clear g26 g24 g22; omega) | (clear g24 g22; omega) | omega) (by first | (clear g26 g24 g22; omega) | (clear g24 g22; omega) | omega)
          exact w_vret X.1 q hRt (ax_d X (show cdA 129 232 = some (.return_, 1, 0, 0, 0) from rfl)) (Nat.zero_le _) (Nat.zero_le _) ⟨_, rfl, Is28, Fs28, JBYW_s28, JTs28, rfl, by first | exact ⟨oq_92cb535d g26 vs20, oq_92f9996c ws28_4 vs28 ws20_4 ws20_2 ws16_4 ws16_2 ws15_2 vs15, oq_0f6bfda4 g26 vs20, oq_92cb535d g26 vs20⟩ | omega⟩
      ·
        refine WS_pq [0] (lv' := [(0, .ref (A 1))]) rfl (L172 ((iI s20 1 - iI s20 2 : Int).toNat + 1) s20  Is20 Fs20 JBYW_s20 (by rw [show iI s20 2 = sk B N (iI s 2) by first | exact oq_2fb32834 ws20_2 ws16_2 ws15_2 Qs7 | (clear g22; omega) | omega]) (by first | exact ⟨oq_6e4ffff9 g24 vs20, oq_6e4ffff9 g24 vs20, oq_b09a1c90 g24 vs20, g24⟩ | omega) (Nat.lt_succ_self _) ?_)
        intro s29  Is29 Fs29 JBYW_s29 Qs29 hs29
        have b30 := bi_2 Is29
        have b31 := bi_1 Is29
        have b32 := bi_4 Is29
        have b33 := bi_5 Is29
        have b34 := bi_6 Is29
        have b35 := bi_3 Is29
        have hNs29 := JBYW_s29.2.1
        have hWs29 := JBYW_s29.2.2
        have JTs29 : TKS B N s29 := tkw_wrd (x := 0) (Q := sk B N (iI s 2)) (by first | exact oq_91431ca4 g24 vs20 | (clear g22; omega) | omega) (by first | exact hs29.2.2.1 | (clear g22; omega) | omega) (by first | exact oq_833a901d g24 vs20 | (clear g22; omega) | omega) (by first | exact oq_4d605a58 g24 vs20 | (clear g22; omega) | omega) (by first | exact oq_c1933220 g24 vs20 | (clear g22; omega) | omega) (by first | exact hs29.2.2.2 | (clear g22; omega) | omega) (by first | exact Qs29 | (clear g22; omega) | omega)
        exact w_vret X.1 q hRt (ax_d X (show cdA 129 232 = some (.return_, 1, 0, 0, 0) from rfl)) (Nat.zero_le _) (Nat.zero_le _) ⟨_, rfl, Is29, Fs29, JBYW_s29, JTs29, rfl, by first | exact ⟨hs29.1, hs29.2.1, hs29.2.2.1, oq_6e4ffff9 g24 vs20⟩ | omega⟩
    ·
      refine WS_pq [0] (lv' := [(0, .ref (A 1))]) rfl (L92 ((iI s20 1 - iI s20 2 : Int).toNat + 1) s20  Is20 Fs20 JBYW_s20 (by rw [show iI s20 2 = sk B N (iI s 2) by first | exact oq_2fb32834 ws20_2 ws16_2 ws15_2 Qs7 | omega, show iI s20 6 = 0 by first | exact oq_e5e5d3d6 ws20_6 vs16 | omega]; exact ⟨rfl, rfl⟩) (by first | exact ⟨oq_d948e2ba g22 vs20, oq_d948e2ba g22 vs20, oq_a80f34c2 g22 vs20, g22⟩ | omega) (Nat.lt_succ_self _) ?_)
      intro s36  Is36 Fs36 JBYW_s36 Qs36 hs36
      have b37 := bi_2 Is36
      have b38 := bi_1 Is36
      have b39 := bi_4 Is36
      have b40 := bi_5 Is36
      have b41 := bi_6 Is36
      have b42 := bi_3 Is36
      have hNs36 := JBYW_s36.2.1
      have hWs36 := JBYW_s36.2.2
      have JTs36 : TKS B N s36 := tkw_num (x := 0) (Q := sk B N (iI s 2)) (by first | exact oq_e56a23d9 g22 vs20 | omega) (by first | exact hs36.2.2.1 | omega) (by first | exact oq_f744383f g22 vs20 | omega) (by first | exact oq_e8fa4957 g22 vs20 | omega) (by first | exact oq_30f860ad g22 vs20 | omega) (by first | exact hs36.2.2.2 | omega) (by first | exact Qs36.1 | omega) (by first | exact Qs36.2 | omega)
      exact w_vret X.1 q hRt (ax_d X (show cdA 129 232 = some (.return_, 1, 0, 0, 0) from rfl)) (Nat.zero_le _) (Nat.zero_le _) ⟨_, rfl, Is36, Fs36, JBYW_s36, JTs36, rfl, by first | exact ⟨hs36.1, hs36.2.1, hs36.2.2.1, oq_d948e2ba g22 vs20⟩ | omega⟩
  ·
    refine z_aload_n X (x := A 1) rfl (List.Mem.head _) (z_aload_n X (x := A 1) rfl (List.Mem.head _) (s_getR X 1 rfl (c518_ok rfl) rfl rfl (z_aload_n X (x := A 1) rfl (List.Mem.head _) (z_getI X 1 rfl (c518_ok rfl) rfl rfl ?_))))
    have b43 := bi_2 Is16
    refine z_ald X 2 rfl (c518_ok rfl) rfl (by first | exact b43.1 | omega) (show (iI s16 2) < 200 by first | exact oq_6fca3d72 g19 b18.2 | omega) (cbig_ok rfl) ?_
    have b44 := bc_0 Is16 (show ((iI s16 2)).toNat < 200 by first | exact oq_b70289d5 g19 b18.2 | omega)
    have fb45 : iC s16 0 ((iI s16 2)).toNat = B ((iI s16 2)).toNat := JBYW_s16.1 _ (by first | exact oq_b70289d5 g19 b18.2 | omega)
    refine z_callV X 1 (rm := rmN 130) (As := [.int (Int32.ofInt (iC s16 0 ((iI s16 2)).toNat))]) (st := [.ref (A 1)]) rfl rfl (by decide) rfl (by rw [E.1, E.2.1, E.2.2.1]; exact c10_kindOf3 G Is16 (by first | exact ⟨b44.1, b44.2⟩ | omega) (by first | exact oq_08dba046 ws16_3 ws15_3 hWs7 | omega)) ⟨by rw [E.2.2.2]; exact (show (rmN 130).frames + 1 ≤ (rmN 129).frames by decide), by rw [E.2.2.2]; exact (show 8 + (mNL (miB 130) + 11) + (rmN 130).locals ≤ (rmN 129).locals by decide), by rw [E.2.2.2]; exact (show 0 + (rmN 130).cells ≤ (rmN 129).cells by decide), by rw [E.2.2.2]; exact (show 0 + (rmN 130).slots ≤ (rmN 129).slots by decide)⟩ (Nat.le_of_ble_eq_true rfl) (fun vv s46 hq => ?_) (fun ee s46 hq => ?_)
    rotate_left
    · obtain ⟨rfl, e47, hv, hrs46, hps46⟩ := hq; cases hv
    obtain ⟨rfl, e47, hv, hrs46, hps46⟩ := hq
    cases hv
    show WS k 76 [(0, .ref (A 1))] [.int (Int32.ofInt e47), .ref (A 1)] (Wd A dT s16) 0 0
    refine z_goto X (t := 80) rfl rfl (s_putI X 1 rfl (c518_ok rfl) rfl rfl (by decide) rfl rfl rfl (wd_gen (fun s48 hs48 => ?_)))
    have Is48 : Bd s48 := eqB hs48 (bd_I Is16 (show ((-3) : Int) ≤ e47 ∧ e47 ≤ 255 by first | exact ⟨oq_45711fbe hps46 b44.1, oq_d9dda619 hps46 b44.2⟩ | omega) hrs46)
    have Fs48 := eqF hs48 (fm_I Fs16 (inl_ok (a := 5) rfl))
    have vs48 : iI s48 5 = e47 := eqI hs48 (iI_u hrs46)
    have ws48_2 : iI s48 2 = iI s16 2 := eqI hs48 rfl
    have ws48_1 : iI s48 1 = iI s16 1 := eqI hs48 rfl
    have ws48_4 : iI s48 4 = iI s16 4 := eqI hs48 rfl
    have ws48_6 : iI s48 6 = iI s16 6 := eqI hs48 rfl
    have ws48_3 : iI s48 3 = iI s16 3 := eqI hs48 rfl
    have fs48 : Fm [5] [] s16 s48 := by rw [hs48]; exact fm_I (fm_rf _ _ _) (show 5 ∈ _ by decide)
    have JBYW_s48 : BYW B N s48 := BYW_fm fs48 (by decide) JBYW_s16
    refine z_aload_n X (x := A 1) rfl (List.Mem.head _) (z_getI X 1 rfl (c518_ok rfl) rfl rfl ?_)
    have b49 := bi_5 Is48
    refine z_bipush X rfl (z_icmp_ne X (t := 163) rfl rfl (rng_to _) (by decide) (fun g50 => ?_) (fun g50 => ?_))
    ·
      refine z_aload_n X (x := A 1) rfl (List.Mem.head _) (z_getI X 1 rfl (c518_ok rfl) rfl rfl ?_)
      have b51 := bi_5 Is48
      refine z_bipush X rfl (z_icmp_ne X (t := 214) rfl rfl (rng_to _) (by decide) (fun g52 => ?_) (fun g52 => ?_))
      ·
        refine z_aload_n X (x := A 1) rfl (List.Mem.head _) (z_getI X 1 rfl (c518_ok rfl) rfl rfl ?_)
        have b53 := bi_5 Is48
        refine z_const X rfl (z_icmp_eq X (t := 232) rfl rfl (rng_to _) (by decide) (fun g54 => ?_) (fun g54 => ?_))
        ·
          have JTs48 : TKS B N s48 := by first | exact Or.inl ⟨by first | exact oq_eaa884a5 g54 vs48 hps46 b44.1 | (clear g52 g50 hps46; omega) | (clear g50 hps46; omega) | omega, by first | exact g54 | (clear g52 g50 hps46; omega) | (clear g50 hps46; omega) | omega⟩ | exact tkw_sig (x := ((iI s16 2))) (Q := sk B N (iI s 2)) (by first | (clear g52 g50 hps46; omega) | (clear g50 hps46; omega) | omega) (by first | (clear g52 g50 hps46; omega) | (clear g50 hps46; omega) | omega) (by first | (clear g52 g50 hps46; omega) | (clear g50 hps46; omega) | omega) (by first | (clear g52 g50 hps46; omega) | (clear g50 hps46; omega) | omega) (by first | (clear g52 g50 hps46; omega) | (clear g50 hps46; omega) | omega) (by first | (clear g52 g50 hps46; omega) | (clear g50 hps46; omega) | omega) (by first | (clear g52 g50 hps46; omega) | (clear g50 hps46; omega) | omega) (by first | (clear g52 g50 hps46; omega) | (clear g50 hps46; omega) | omega)
          exact w_vret X.1 q hRt (ax_d X (show cdA 129 232 = some (.return_, 1, 0, 0, 0) from rfl)) (Nat.zero_le _) (Nat.zero_le _) ⟨_, rfl, Is48, Fs48, JBYW_s48, JTs48, rfl, by first | exact ⟨oq_51a58521 ws48_1 ws48_2 g19, oq_75f1f811 ws48_4 ws48_2 ws16_4 ws16_2 ws15_2 vs15, oq_76b27918 g54 vs48 hps46 b44.1, oq_eaa884a5 g54 vs48 hps46 b44.1⟩ | omega⟩
        ·
          refine z_aload_n X (x := A 1) rfl (List.Mem.head _) (w_dup X.1 (ax_d X (show cdA 129 223 = some (.dup, 1, 0, 0, 0) from rfl)) rfl (z_getI X 1 rfl (c518_ok rfl) rfl rfl ?_))
          have b55 := bi_2 Is48
          refine z_const X rfl (z_add X rfl (s_putI X 1 rfl (c518_ok rfl) rfl rfl (by decide) rfl rfl rfl (wd_gen (fun s56 hs56 => ?_))))
          have Is56 : Bd s56 := eqB hs56 (bd_I Is48 (show (0 : Int) ≤ ((iI s48 2) + 1) ∧ ((iI s48 2) + 1) ≤ 200 by first | exact ⟨oq_54f49eb5 b55.1, oq_ff985df0 ws48_2 g19 b18.2⟩ | omega) ⟨by first | exact oq_74de1e16 b55.1 | omega, by first | exact oq_bb8d498d b55.2 | omega⟩)
          have Fs56 := eqF hs56 (fm_I Fs48 (inl_ok (a := 2) rfl))
          have vs56 : iI s56 2 = ((iI s48 2) + 1) := eqI hs56 (iI_u ⟨by first | exact oq_74de1e16 b55.1 | omega, by first | exact oq_bb8d498d b55.2 | omega⟩)
          have ws56_1 : iI s56 1 = iI s48 1 := eqI hs56 rfl
          have ws56_4 : iI s56 4 = iI s48 4 := eqI hs56 rfl
          have ws56_5 : iI s56 5 = iI s48 5 := eqI hs56 rfl
          have ws56_6 : iI s56 6 = iI s48 6 := eqI hs56 rfl
          have ws56_3 : iI s56 3 = iI s48 3 := eqI hs56 rfl
          have fs56 : Fm [2] [] s48 s56 := by rw [hs56]; exact fm_I (fm_rf _ _ _) (show 2 ∈ _ by decide)
          have JBYW_s56 : BYW B N s56 := BYW_fm fs56 (by decide) JBYW_s48
          have JTs56 : TKS B N s56 := by first | exact Or.inl ⟨by first | (clear g54 g52 g50 hps46; omega) | (clear g52 g50 hps46; omega) | omega, by first | (clear g54 g52 g50 hps46; omega) | (clear g52 g50 hps46; omega) | omega⟩ | exact tkw_sig (x := ((iI s16 2))) (Q := sk B N (iI s 2)) (by first | exact oq_d76b7e18 ws16_2 ws15_2 Qs7 | (clear g54 g52 g50 hps46; omega) | (clear g52 g50 hps46; omega) | omega) (by first | exact oq_005dc849 ws56_4 ws48_4 ws16_4 vs15 Qs7 | (clear g54 g52 g50 hps46; omega) | (clear g52 g50 hps46; omega) | omega) (by first | exact oq_8a14cc43 g19 ws16_1 ws16_2 ws15_1 ws15_2 hNs7 Qs7 | (clear g54 g52 g50 hps46; omega) | (clear g52 g50 hps46; omega) | omega) (by first | exact oq_71104170 g50 vs48 hps46 fb45 | (clear g54 g52 g50 hps46; omega) | (clear g52 g50 hps46; omega) | omega) (by first | exact oq_77a6fad2 b53.1 g52 vs48 hps46 fb45 | (clear g54 g52 g50 hps46; omega) | (clear g52 g50 hps46; omega) | omega) (by first | exact oq_bd4c20f9 ws56_5 b53.1 g52 g50 vs48 hps46 fb45 | (clear g54 g52 g50 hps46; omega) | (clear g52 g50 hps46; omega) | omega) (by first | exact oq_399209a9 ws56_5 g54 b53.1 g52 g50 | (clear g54 g52 g50 hps46; omega) | (clear g52 g50 hps46; omega) | omega) (by first | exact oq_7faf7b9b vs56 ws48_2 ws16_2 ws15_2 Qs7 | (clear g54 g52 g50 hps46; omega) | (clear g52 g50 hps46; omega) | omega)
          exact w_vret X.1 q hRt (ax_d X (show cdA 129 232 = some (.return_, 1, 0, 0, 0) from rfl)) (Nat.zero_le _) (Nat.zero_le _) ⟨_, rfl, Is56, Fs56, JBYW_s56, JTs56, rfl, by first | exact ⟨oq_499a7076 ws56_1 vs56 ws48_1 ws48_2 g19, oq_92f9996c ws56_4 vs56 ws48_4 ws48_2 ws16_4 ws16_2 ws15_2 vs15, by first | exact oq_005dc849 ws56_4 ws48_4 ws16_4 vs15 Qs7 | (clear g54 g52 g50 hps46; omega) | (clear g52 g50 hps46; omega) | omega, by first | exact oq_0151ace5 ws56_4 ws48_4 ws16_4 vs15 Qs7 hskl | (clear g54 g52 g50 hps46; omega) | (clear g52 g50 hps46; omega) | omega⟩ | omega⟩
      ·
        refine WS_pq [0] (lv' := [(0, .ref (A 1))]) rfl (L172 ((iI s48 1 - iI s48 2 : Int).toNat + 1) s48  Is48 Fs48 JBYW_s48 (by rw [show iI s48 2 = sk B N (iI s 2) by first | exact oq_2fb32834 ws48_2 ws16_2 ws15_2 Qs7 | (clear g50 hps46; omega) | (clear hps46; omega) | omega]) (by first | exact ⟨oq_51a58521 ws48_1 ws48_2 g19, oq_75f1f811 ws48_4 ws48_2 ws16_4 ws16_2 ws15_2 vs15, by first | exact oq_2fb32834 ws48_4 ws16_4 vs15 Qs7 | (clear g50 hps46; omega) | (clear hps46; omega) | omega, g52⟩ | omega) (Nat.lt_succ_self _) ?_)
        intro s57  Is57 Fs57 JBYW_s57 Qs57 hs57
        have b58 := bi_2 Is57
        have b59 := bi_1 Is57
        have b60 := bi_4 Is57
        have b61 := bi_5 Is57
        have b62 := bi_6 Is57
        have b63 := bi_3 Is57
        have hNs57 := JBYW_s57.2.1
        have hWs57 := JBYW_s57.2.2
        have JTs57 : TKS B N s57 := tkw_wrd (x := ((iI s16 2))) (Q := sk B N (iI s 2)) (by first | exact oq_d76b7e18 ws16_2 ws15_2 Qs7 | (clear g50 hps46; omega) | (clear hps46; omega) | omega) (by first | exact hs57.2.2.1 | (clear g50 hps46; omega) | (clear hps46; omega) | omega) (by first | exact oq_8a14cc43 g19 ws16_1 ws16_2 ws15_1 ws15_2 hNs7 Qs7 | (clear g50 hps46; omega) | (clear hps46; omega) | omega) (by first | exact oq_2ceea1be g52 vs48 hps46 fb45 b44.1 | (clear g50 hps46; omega) | (clear hps46; omega) | omega) (by first | exact oq_ad40dd6a g52 vs48 hps46 fb45 | (clear g50 hps46; omega) | (clear hps46; omega) | omega) (by first | exact hs57.2.2.2 | (clear g50 hps46; omega) | (clear hps46; omega) | omega) (by first | exact Qs57 | (clear g50 hps46; omega) | (clear hps46; omega) | omega)
        exact w_vret X.1 q hRt (ax_d X (show cdA 129 232 = some (.return_, 1, 0, 0, 0) from rfl)) (Nat.zero_le _) (Nat.zero_le _) ⟨_, rfl, Is57, Fs57, JBYW_s57, JTs57, rfl, by first | exact ⟨hs57.1, hs57.2.1, hs57.2.2.1, by first | exact oq_9272904e hs57.2.2.1 hskl | (clear g50 hps46; omega) | (clear hps46; omega) | omega⟩ | omega⟩
    ·
      refine WS_pq [0] (lv' := [(0, .ref (A 1))]) rfl (L92 ((iI s48 1 - iI s48 2 : Int).toNat + 1) s48  Is48 Fs48 JBYW_s48 (by rw [show iI s48 2 = sk B N (iI s 2) by first | exact oq_2fb32834 ws48_2 ws16_2 ws15_2 Qs7 | (clear hps46; omega) | omega, show iI s48 6 = 0 by first | exact oq_e5e5d3d6 ws48_6 vs16 | (clear hps46; omega) | omega]; exact ⟨rfl, rfl⟩) (by first | exact ⟨oq_51a58521 ws48_1 ws48_2 g19, oq_75f1f811 ws48_4 ws48_2 ws16_4 ws16_2 ws15_2 vs15, by first | exact oq_2fb32834 ws48_4 ws16_4 vs15 Qs7 | (clear hps46; omega) | omega, g50⟩ | omega) (Nat.lt_succ_self _) ?_)
      intro s64  Is64 Fs64 JBYW_s64 Qs64 hs64
      have b65 := bi_2 Is64
      have b66 := bi_1 Is64
      have b67 := bi_4 Is64
      have b68 := bi_5 Is64
      have b69 := bi_6 Is64
      have b70 := bi_3 Is64
      have hNs64 := JBYW_s64.2.1
      have hWs64 := JBYW_s64.2.2
      have JTs64 : TKS B N s64 := tkw_num (x := ((iI s16 2))) (Q := sk B N (iI s 2)) (by first | exact oq_d76b7e18 ws16_2 ws15_2 Qs7 | (clear hps46; omega) | omega) (by first | exact hs64.2.2.1 | (clear hps46; omega) | omega) (by first | exact oq_8a14cc43 g19 ws16_1 ws16_2 ws15_1 ws15_2 hNs7 Qs7 | (clear hps46; omega) | omega) (by first | exact oq_8857860a g50 vs48 hps46 fb45 b44.1 | (clear hps46; omega) | omega) (by first | exact oq_110bba4a g50 vs48 hps46 fb45 | (clear hps46; omega) | omega) (by first | exact hs64.2.2.2 | (clear hps46; omega) | omega) (by first | exact Qs64.1 | (clear hps46; omega) | omega) (by first | exact Qs64.2 | (clear hps46; omega) | omega)
      exact w_vret X.1 q hRt (ax_d X (show cdA 129 232 = some (.return_, 1, 0, 0, 0) from rfl)) (Nat.zero_le _) (Nat.zero_le _) ⟨_, rfl, Is64, Fs64, JBYW_s64, JTs64, rfl, by first | exact ⟨hs64.1, hs64.2.1, hs64.2.2.1, by first | exact oq_9272904e hs64.2.2.1 hskl | (clear hps46; omega) | omega⟩ | omega⟩
set_option maxRecDepth 4000 in
theorem c10_open3 (G : GX l s0 D tys a0 dT) {B : Nat → Int} (I : Bd s) (jBYA : BYA B s) {x y : Int} (p0 : 0 ≤ x ∧ x ≤ 200) (p1 : y = 1) : CT l s0 D A dT 128 (rmN 128) [.ref (A 1), .int (Int32.ofInt x), .int (Int32.ofInt y)] s (fun o t => Bd t ∧ Fm [2, 4, 6, 5, 1, 3, 0, 7, 8] [] s t ∧ BYW B x t ∧ TKS B x t ∧ o = .inl none ∧ (iI t 0 = 0 ∧ iI t 2 ≤ iI t 1 ∧ iI t 4 ≤ iI t 2 ∧ iI t 4 = sk B x 0 ∧ iI t 7 = 0)) := by
  refine ct_ofX G (by decide) (Nat.le_of_ble_eq_true rfl) (fun k X E ET hRt hXt q => ?_)
  show WS k 0 [(0, .ref (A 1)), (1, .int (Int32.ofInt x)), (2, .int (Int32.ofInt y))] [] _ 0 0
  have F : Fm [2, 4, 6, 5, 1, 3, 0, 7, 8] [] s s := fm_rf _ _ s
  have b1 := bi_0 I
  have b2 := bi_2 I
  have b3 := bi_1 I
  have b4 := bi_4 I
  have b5 := bi_3 I
  have b6 := bi_7 I
  refine z_aload_n X (x := A 1) rfl (List.Mem.head _) (z_load_n X (x := x) rfl (List.Mem.tail _ (List.Mem.head _)) (s_putI X 1 rfl (c518_ok rfl) rfl rfl (by decide) rfl rfl rfl (wd_gen (fun s7 hs7 => ?_))))
  have Is7 : Bd s7 := eqB hs7 (bd_I I (show (0 : Int) ≤ x ∧ x ≤ 200 by first | exact ⟨p0.1, p0.2⟩ | omega) ⟨by first | exact oq_fa4e5087 p0.1 | omega, by first | exact oq_52af2b96 p0.2 | omega⟩)
  have Fs7 := eqF hs7 (fm_I F (inl_ok (a := 1) rfl))
  have vs7 : iI s7 1 = x := eqI hs7 (iI_u ⟨by first | exact oq_fa4e5087 p0.1 | omega, by first | exact oq_52af2b96 p0.2 | omega⟩)
  have ws7_0 : iI s7 0 = iI s 0 := eqI hs7 rfl
  have ws7_2 : iI s7 2 = iI s 2 := eqI hs7 rfl
  have ws7_4 : iI s7 4 = iI s 4 := eqI hs7 rfl
  have ws7_3 : iI s7 3 = iI s 3 := eqI hs7 rfl
  have ws7_7 : iI s7 7 = iI s 7 := eqI hs7 rfl
  have fs7 : Fm [1] [] s s7 := by rw [hs7]; exact fm_I (fm_rf _ _ _) (show 1 ∈ _ by decide)
  have JBYA_s7 : BYA B s7 := BYA_fm fs7 (by decide) jBYA
  refine z_aload_n X (x := A 1) rfl (List.Mem.head _) (z_const X rfl (s_putI X 1 rfl (c518_ok rfl) rfl rfl (by decide) rfl rfl rfl (wd_gen (fun s8 hs8 => ?_))))
  have Is8 : Bd s8 := eqB hs8 (bd_I Is7 (show (0 : Int) ≤ 0 ∧ 0 ≤ 200 by first | exact ⟨by decide, by decide⟩ | omega) (by decide))
  have Fs8 := eqF hs8 (fm_I Fs7 (inl_ok (a := 2) rfl))
  have vs8 : iI s8 2 = 0 := eqI hs8 (iI_u (by decide))
  have ws8_0 : iI s8 0 = iI s7 0 := eqI hs8 rfl
  have ws8_1 : iI s8 1 = iI s7 1 := eqI hs8 rfl
  have ws8_4 : iI s8 4 = iI s7 4 := eqI hs8 rfl
  have ws8_3 : iI s8 3 = iI s7 3 := eqI hs8 rfl
  have ws8_7 : iI s8 7 = iI s7 7 := eqI hs8 rfl
  have fs8 : Fm [2] [] s7 s8 := by rw [hs8]; exact fm_I (fm_rf _ _ _) (show 2 ∈ _ by decide)
  have JBYA_s8 : BYA B s8 := BYA_fm fs8 (by decide) JBYA_s7
  refine z_aload_n X (x := A 1) rfl (List.Mem.head _) (z_load_n X (x := y) rfl (List.Mem.tail _ (List.Mem.tail _ (List.Mem.head _))) (s_putI X 1 rfl (c518_ok rfl) rfl rfl (by decide) (nar_ret (by first | exact Or.inr (p1) | omega)) (fit_z (by first | exact Or.inr (p1) | omega)) rfl (wd_gen (fun s9 hs9 => ?_))))
  have Is9 : Bd s9 := eqB hs9 (bd_I Is8 (show (0 : Int) ≤ y ∧ y ≤ 1 by first | exact ⟨oq_a1cdbcd8 p1, oq_c4f7fe85 p1⟩ | omega) ⟨by first | exact oq_c4d5fd5b p1 | omega, by first | exact oq_9b80f9a5 p1 | omega⟩)
  have Fs9 := eqF hs9 (fm_I Fs8 (inl_ok (a := 3) rfl))
  have vs9 : iI s9 3 = y := eqI hs9 (iI_u ⟨by first | exact oq_c4d5fd5b p1 | omega, by first | exact oq_9b80f9a5 p1 | omega⟩)
  have ws9_0 : iI s9 0 = iI s8 0 := eqI hs9 rfl
  have ws9_2 : iI s9 2 = iI s8 2 := eqI hs9 rfl
  have ws9_1 : iI s9 1 = iI s8 1 := eqI hs9 rfl
  have ws9_4 : iI s9 4 = iI s8 4 := eqI hs9 rfl
  have ws9_7 : iI s9 7 = iI s8 7 := eqI hs9 rfl
  have fs9 : Fm [3] [] s8 s9 := by rw [hs9]; exact fm_I (fm_rf _ _ _) (show 3 ∈ _ by decide)
  have JBYA_s9 : BYA B s9 := BYA_fm fs9 (by decide) JBYA_s8
  refine z_aload_n X (x := A 1) rfl (List.Mem.head _) (z_const X rfl (s_putI X 1 rfl (c518_ok rfl) rfl rfl (by decide) rfl rfl rfl (wd_gen (fun s10 hs10 => ?_))))
  have Is10 : Bd s10 := eqB hs10 (bd_I Is9 (show (0 : Int) ≤ 0 ∧ 0 ≤ 200 by first | exact ⟨by decide, by decide⟩ | omega) (by decide))
  have Fs10 := eqF hs10 (fm_I Fs9 (inl_ok (a := 0) rfl))
  have vs10 : iI s10 0 = 0 := eqI hs10 (iI_u (by decide))
  have ws10_2 : iI s10 2 = iI s9 2 := eqI hs10 rfl
  have ws10_1 : iI s10 1 = iI s9 1 := eqI hs10 rfl
  have ws10_4 : iI s10 4 = iI s9 4 := eqI hs10 rfl
  have ws10_3 : iI s10 3 = iI s9 3 := eqI hs10 rfl
  have ws10_7 : iI s10 7 = iI s9 7 := eqI hs10 rfl
  have fs10 : Fm [0] [] s9 s10 := by rw [hs10]; exact fm_I (fm_rf _ _ _) (show 0 ∈ _ by decide)
  have JBYA_s10 : BYA B s10 := BYA_fm fs10 (by decide) JBYA_s9
  refine z_aload_n X (x := A 1) rfl (List.Mem.head _) (z_const X rfl (s_putI X 1 rfl (c518_ok rfl) rfl rfl (by decide) rfl rfl rfl (wd_gen (fun s11 hs11 => ?_))))
  have Is11 : Bd s11 := eqB hs11 (bd_I Is10 (show (0 : Int) ≤ 0 ∧ 0 ≤ 9 by first | exact ⟨by decide, by decide⟩ | omega) (by decide))
  have Fs11 := eqF hs11 (fm_I Fs10 (inl_ok (a := 7) rfl))
  have vs11 : iI s11 7 = 0 := eqI hs11 (iI_u (by decide))
  have ws11_0 : iI s11 0 = iI s10 0 := eqI hs11 rfl
  have ws11_2 : iI s11 2 = iI s10 2 := eqI hs11 rfl
  have ws11_1 : iI s11 1 = iI s10 1 := eqI hs11 rfl
  have ws11_4 : iI s11 4 = iI s10 4 := eqI hs11 rfl
  have ws11_3 : iI s11 3 = iI s10 3 := eqI hs11 rfl
  have fs11 : Fm [7] [] s10 s11 := by rw [hs11]; exact fm_I (fm_rf _ _ _) (show 7 ∈ _ by decide)
  have JBYA_s11 : BYA B s11 := BYA_fm fs11 (by decide) JBYA_s10
  refine z_aload_n X (x := A 1) rfl (List.Mem.head _) (z_const X rfl (s_putI X 1 rfl (c518_ok rfl) rfl rfl (by decide) rfl rfl rfl (wd_gen (fun s12 hs12 => ?_))))
  have Is12 : Bd s12 := eqB hs12 (bd_I Is11 (show ((-1) : Int) ≤ (-1) ∧ (-1) ≤ 200 by first | exact ⟨by decide, by decide⟩ | omega) (by decide))
  have Fs12 := eqF hs12 (fm_I Fs11 (inl_ok (a := 8) rfl))
  have vs12 : iI s12 8 = (-1) := eqI hs12 (iI_u (by decide))
  have ws12_0 : iI s12 0 = iI s11 0 := eqI hs12 rfl
  have ws12_2 : iI s12 2 = iI s11 2 := eqI hs12 rfl
  have ws12_1 : iI s12 1 = iI s11 1 := eqI hs12 rfl
  have ws12_4 : iI s12 4 = iI s11 4 := eqI hs12 rfl
  have ws12_3 : iI s12 3 = iI s11 3 := eqI hs12 rfl
  have ws12_7 : iI s12 7 = iI s11 7 := eqI hs12 rfl
  have fs12 : Fm [8] [] s11 s12 := by rw [hs12]; exact fm_I (fm_rf _ _ _) (show 8 ∈ _ by decide)
  have JBYA_s12 : BYA B s12 := BYA_fm fs12 (by decide) JBYA_s11
  refine z_aload_n X (x := A 1) rfl (List.Mem.head _) ?_
  have JBs12 : BYW B x s12 := ⟨JBYA_s12, by first | exact oq_4df13a51 ws12_1 ws11_1 ws10_1 ws9_1 ws8_1 vs7 | omega, by first | exact oq_87a00ba2 ws12_3 ws11_3 ws10_3 vs9 p1 | omega⟩
  refine zcV_v2 X E 1 (As := []) (st := []) rfl rfl rfl rfl (c10_step3 G Is12 JBs12 (by first | exact oq_c5d7b2c9 ws12_1 ws12_2 ws11_1 ws11_2 ws10_1 ws10_2 ws9_1 ws9_2 ws8_1 vs8 vs7 p0.1 | omega)) rfl (Nat.le_of_ble_eq_true rfl) (fun s13 Is13 Fs13 JBYW_s13 JTKS_s13 hps13 => ?_)
  have Gs13 := fm_tq Fs12 Fs13 rfl rfl
  have JBYW_s13 : BYW B x s13 := BYW_fm Fs13 (by decide) JBs12
  have ws13_0 : iI s13 0 = iI s12 0 := fm_iq Fs13 rfl
  have b15 := bi_2 Is13
  have ws13_1 : iI s13 1 = iI s12 1 := fm_iq Fs13 rfl
  have b16 := bi_4 Is13
  have ws13_3 : iI s13 3 = iI s12 3 := fm_iq Fs13 rfl
  have ws13_7 : iI s13 7 = iI s12 7 := fm_iq Fs13 rfl
  exact w_vret X.1 q hRt (ax_d X (show cdA 128 34 = some (.return_, 1, 0, 0, 0) from rfl)) (Nat.zero_le _) (Nat.zero_le _) ⟨_, rfl, Is13, Gs13, JBYW_s13, JTKS_s13, rfl, ⟨by first | exact oq_264718cb ws13_0 ws12_0 ws11_0 vs10 | omega, by first | exact hps13.1 | omega, by first | exact hps13.2.1 | omega, by rw [hps13.2.2.1, show iI s12 2 = 0 by first | exact oq_ff4f6170 ws12_2 ws11_2 ws10_2 ws9_2 vs8 | omega], by first | exact oq_cd9cbf39 ws13_7 ws12_7 vs11 | omega⟩⟩
set_option maxRecDepth 4000 in
theorem c10_refuseAt3 (G : GX l s0 D tys a0 dT) (I : Bd s) {x y : Int} (p0 : 1 ≤ x ∧ x ≤ 4) (p1 : 0 ≤ y ∧ y ≤ 200) : CT l s0 D A dT 133 (rmN 133) [.ref (A 1), .int (Int32.ofInt x), .int (Int32.ofInt y)] s (fun o t => Bd t ∧ Fm [7, 8] [] s t ∧ ∃ e, o = .inl (some (.int (Int32.ofInt e))) ∧ rng e ∧ (e = 0 ∧ iI t 7 = x)) := by
  refine ct_ofX G (by decide) (Nat.le_of_ble_eq_true rfl) (fun k X E ET hRt hXt q => ?_)
  show WS k 0 [(0, .ref (A 1)), (1, .int (Int32.ofInt x)), (2, .int (Int32.ofInt y))] [] _ 0 0
  have F : Fm [7, 8] [] s s := fm_rf _ _ s
  have b1 := bi_7 I
  refine z_aload_n X (x := A 1) rfl (List.Mem.head _) (z_load_n X (x := x) rfl (List.Mem.tail _ (List.Mem.head _)) (s_putI X 1 rfl (c518_ok rfl) rfl rfl (by decide) rfl rfl rfl (wd_gen (fun s2 hs2 => ?_))))
  have Is2 : Bd s2 := eqB hs2 (bd_I I (show (0 : Int) ≤ x ∧ x ≤ 9 by first | exact ⟨oq_2a6e3b50 p0.1, oq_aac78eb5 p0.2⟩ | omega) ⟨by first | exact oq_9462313e p0.1 | omega, by first | exact oq_4a4414da p0.2 | omega⟩)
  have Fs2 := eqF hs2 (fm_I F (inl_ok (a := 7) rfl))
  have vs2 : iI s2 7 = x := eqI hs2 (iI_u ⟨by first | exact oq_9462313e p0.1 | omega, by first | exact oq_4a4414da p0.2 | omega⟩)
  refine z_aload_n X (x := A 1) rfl (List.Mem.head _) (z_load_n X (x := y) rfl (List.Mem.tail _ (List.Mem.tail _ (List.Mem.head _))) (s_putI X 1 rfl (c518_ok rfl) rfl rfl (by decide) rfl rfl rfl (wd_gen (fun s3 hs3 => ?_))))
  have Is3 : Bd s3 := eqB hs3 (bd_I Is2 (show ((-1) : Int) ≤ y ∧ y ≤ 200 by first | exact ⟨oq_ca54ea22 p1.1, p1.2⟩ | omega) ⟨by first | exact oq_fa4e5087 p1.1 | omega, by first | exact oq_52af2b96 p1.2 | omega⟩)
  have Fs3 := eqF hs3 (fm_I Fs2 (inl_ok (a := 8) rfl))
  have vs3 : iI s3 8 = y := eqI hs3 (iI_u ⟨by first | exact oq_fa4e5087 p1.1 | omega, by first | exact oq_52af2b96 p1.2 | omega⟩)
  have ws3_7 : iI s3 7 = iI s2 7 := eqI hs3 rfl
  refine z_const X rfl ?_
  exact w_iret X.1 q hRt (nar_ret (by first | exact Or.inl (by decide) | omega)) (ax_d X (show cdA 133 11 = some (.ireturn, 1, 0, 0, 0) from rfl)) (Nat.zero_le _) (Nat.zero_le _) ⟨_, rfl, Is3, Fs3, 0, rfl, (by decide), by first | exact ⟨by decide, oq_1aa5be9e ws3_7 vs2⟩ | omega⟩
set_option maxRecDepth 4000 in
theorem c10_refuse3 (G : GX l s0 D tys a0 dT) (I : Bd s) {x : Int} (p0 : 1 ≤ x ∧ x ≤ 4) : CT l s0 D A dT 132 (rmN 132) [.ref (A 1), .int (Int32.ofInt x)] s (fun o t => Bd t ∧ Fm [7, 8] [] s t ∧ ∃ e, o = .inl (some (.int (Int32.ofInt e))) ∧ rng e ∧ (e = 0 ∧ iI t 7 = x)) := by
  refine ct_ofX G (by decide) (Nat.le_of_ble_eq_true rfl) (fun k X E ET hRt hXt q => ?_)
  show WS k 0 [(0, .ref (A 1)), (1, .int (Int32.ofInt x))] [] _ 0 0
  have F : Fm [7, 8] [] s s := fm_rf _ _ s
  have b1 := bi_7 I
  refine z_aload_n X (x := A 1) rfl (List.Mem.head _) (z_load_n X (x := x) rfl (List.Mem.tail _ (List.Mem.head _)) (z_aload_n X (x := A 1) rfl (List.Mem.head _) (z_getI X 1 rfl (c518_ok rfl) rfl rfl ?_)))
  have b2 := bi_4 I
  refine zcV_i0 X E 1 (As := [.int (Int32.ofInt x), .int (Int32.ofInt (iI s 4))]) (st := []) rfl rfl rfl rfl (c10_refuseAt3 G I (by first | exact ⟨p0.1, p0.2⟩ | omega) (by first | exact ⟨b2.1, b2.2⟩ | omega)) rfl (Nat.le_of_ble_eq_true rfl) (fun s3 e4 Is3 Fs3 hrs3 hps3 => ?_)
  have Gs3 := fm_tq F Fs3 rfl rfl
  have b5 := bi_7 Is3
  exact w_iret X.1 q hRt (nar_ret (by first | exact Or.inl (hps3.1) | omega)) (ax_d X (show cdA 132 9 = some (.ireturn, 1, 0, 0, 0) from rfl)) (Nat.zero_le _) (Nat.zero_le _) ⟨_, rfl, Is3, Gs3, e4, rfl, hrs3, by first | exact ⟨hps3.1, hps3.2⟩ | omega⟩
set_option maxRecDepth 4000 in
theorem j_latc3 (G : GX l s0 D tys a0 dT) (SF : SF0 s0) {q1 n1 : Nat} {g1 : Nat → Int} (hn1 : n1 ≤ 6) (hg1 : gOK g1) (hT1 : va_T .byte q1 n1 (fun j => .int (Int32.ofInt (g1 j))) (mb_F s0) s0 s0.heap) (I : Bd s) {x : Int} (p0 : 0 ≤ x ∧ x < (n1 : Int)) : CTR l s0 D A dT 307 (some .char) (rmN 307) [.ref q1, .int (Int32.ofInt x)] s (fun o t => Bd t ∧ Fm [] [] s t ∧ ∃ e, o = .inl (some (.int (Int32.ofInt e))) ∧ rng e ∧ (0 ≤ e ∧ e ≤ 127 ∧ e = g1 x.toNat)) := by
  refine ct_ofR G (by decide) (Nat.le_of_ble_eq_true rfl) (fun k X E ET hRt hXt q => ?_)
  show WS k 0 [(0, .ref q1), (1, .int (Int32.ofInt x))] [] _ 0 0
  have F : Fm [] [] s s := fm_rf _ _ s
  have hT1k := hT1
  rw [← E.2.1] at hT1k
  refine w_iload_n X.1 (x := Int32.ofInt x) (show decode (kCc k) 0 = .ok (.iload_n 1, 1) by rw [X.2.1.1]; decide +kernel) (List.Mem.tail _ (List.Mem.head _)) (w_aload_n X.1 (x := q1) (show decode (kCc k) 1 = .ok (.aload_n 0, 1) by rw [X.2.1.1]; decide +kernel) (List.Mem.head _) (y_tlen X (show decode (kCc k) 2 = .ok (.arraylength, 1) by rw [X.2.1.1]; decide +kernel) hT1k (n := (n1 : Int)) (len_of hn1) (z_callSK X (rm := rmN 306) (As := [.int (Int32.ofInt x), .int (Int32.ofInt (n1 : Int))]) (st := []) (show decode (kCc k) 3 = .ok (.invokestatic 9, 3) by rw [X.2.1.1]; decide +kernel) cw_chk (by rw [E.1, E.2.1, E.2.2.1]; exact j_chk G SF I (by first | exact And.intro (p0.1) (p0.2) | omega) (by first | exact oq_43acfa2e hn1 | omega)) ⟨by rw [E.2.2.2]; exact (show (rmN 306).frames + 1 ≤ (rmN 307).frames by decide), by rw [E.2.2.2]; exact (show 8 + (mNL (miB 306) + 11) + (rmN 306).locals ≤ (rmN 307).locals by decide), by rw [E.2.2.2]; exact (show 0 + (rmN 306).cells ≤ (rmN 307).cells by decide), by rw [E.2.2.2]; exact (show 0 + (rmN 306).slots ≤ (rmN 307).slots by decide)⟩ (Nat.le_of_ble_eq_true rfl) (fun vv s1 hq => ?_) (fun ee s1 hq => ?_))))
  rotate_left
  · obtain ⟨Is1, Fs1, hv, hps1⟩ := hq; cases hv
  obtain ⟨Is1, Fs1, hv, hps1⟩ := hq
  cases hv
  have Gs1 := fm_tq F Fs1 rfl rfl
  show WS k 6 [(0, .ref q1), (1, .int (Int32.ofInt x))] [] (Wd A dT s1) 0 0
  refine w_aload_n X.1 (x := q1) (show decode (kCc k) 6 = .ok (.aload_n 0, 1) by rw [X.2.1.1]; decide +kernel) (List.Mem.head _) (w_iload_n X.1 (x := Int32.ofInt x) (show decode (kCc k) 7 = .ok (.iload_n 1, 1) by rw [X.2.1.1]; decide +kernel) (List.Mem.tail _ (List.Mem.head _)) (w_tbK3 X hT1k (show 0 ≤ x ∧ x < (n1 : Int) by first | exact And.intro (p0.1) (p0.2) | omega) hn1 (show decode (kCc k) 8 = .ok (.baload, 1) by rw [X.2.1.1]; decide +kernel) ?_))
  obtain ⟨e3, he3⟩ : ∃ e : Int, e = g1 (x).toNat := ⟨_, rfl⟩
  rw [← he3]
  have ie3 := hg1 (x).toNat
  rw [← he3] at ie3
  refine w_255 X (show 0 ≤ e3 ∧ e3 ≤ 127 by first | exact And.intro (ie3.1) (ie3.2) | omega) (show decode (kCc k) 9 = .ok (.sipush 255, 3) by rw [X.2.1.1]; decide +kernel) (show decode (kCc k) 12 = .ok (.iand, 1) by rw [X.2.1.1]; decide +kernel) (show decode (kCc k) 13 = .ok (.i2c, 1) by rw [X.2.1.1]; decide +kernel) ?_
  exact w_iret X.1 q hRt (nar_ch (by first | exact And.intro (ie3.1) (ie3.2) | omega)) (show decode (kCc k) 14 = .ok (.ireturn, 1) by rw [X.2.1.1]; decide +kernel) (Nat.zero_le _) (Nat.zero_le _) ⟨_, rfl, Is1, Gs1, e3, rfl, ⟨by first | exact oq_fa4e5087 ie3.1 | omega, by first | exact oq_07d346ce ie3.2 | omega⟩, by first | exact And.intro (ie3.1) (And.intro (ie3.2) (he3)) | omega⟩
set_option maxRecDepth 4000 in
theorem j_char3 (G : GX l s0 D tys a0 dT) (SF : SF0 s0) {q1 n1 : Nat} {g1 : Nat → Int} (hs1 : StrA s0 q1 n1) (hn1 : n1 ≤ 6) (hg1 : gOK g1) {q2 : Nat} (hO1 : va_O "java/lang/String" q1 (mb_F s0) s0 s0.heap) (hc1 : va_OF "java/lang/String" "coder" "B" (.int (Int32.ofInt 0)) q1 (mb_F s0) s0 s0.heap) (hv1 : va_OF "java/lang/String" "value" "[B" (.ref q2) q1 (mb_F s0) s0 s0.heap) (hT1 : va_T .byte q2 n1 (fun j => .int (Int32.ofInt (g1 j))) (mb_F s0) s0 s0.heap) (I : Bd s) {x : Int} (p0 : 0 ≤ x ∧ x < (n1 : Int)) : CTR l s0 D A dT 303 (some .char) (rmN 303) [.ref q1, .int (Int32.ofInt x)] s (fun o t => Bd t ∧ Fm [] [] s t ∧ ∃ e, o = .inl (some (.int (Int32.ofInt e))) ∧ rng e ∧ (0 ≤ e ∧ e ≤ 127 ∧ e = g1 x.toNat)) := by
  refine ct_ofR G (by decide) (Nat.le_of_ble_eq_true rfl) (fun k X E ET hRt hXt q => ?_)
  show WS k 0 [(0, .ref q1), (1, .int (Int32.ofInt x))] [] _ 0 0
  have F : Fm [] [] s s := fm_rf _ _ s
  have hO1k := hO1
  have hc1k := hc1
  have hv1k := hv1
  have hT1k := hT1
  have hZ1k := SF.1
  rw [← E.2.1] at hO1k hc1k hv1k hT1k hZ1k
  refine w_aload_n X.1 (x := q1) (show decode (kCc k) 0 = .ok (.aload_n 0, 1) by rw [X.2.1.1]; decide +kernel) (List.Mem.head _) (z_callK X (rm := rmN 305) (As := []) (st := []) (show decode (kCc k) 1 = .ok (.invokevirtual 492, 3) by rw [X.2.1.1]; decide +kernel) cw_lat hO1k (by rw [E.1, E.2.1, E.2.2.1]; exact j_lat1 G SF hs1 I) ⟨by rw [E.2.2.2]; exact (show (rmN 305).frames + 1 ≤ (rmN 303).frames by decide), by rw [E.2.2.2]; exact (show 8 + (mNL (miB 305) + 11) + (rmN 305).locals ≤ (rmN 303).locals by decide), by rw [E.2.2.2]; exact (show 0 + (rmN 305).cells ≤ (rmN 303).cells by decide), by rw [E.2.2.2]; exact (show 0 + (rmN 305).slots ≤ (rmN 303).slots by decide)⟩ (Nat.le_of_ble_eq_true rfl) (fun vv s1 hq => ?_) (fun ee s1 hq => ?_))
  rotate_left
  · obtain ⟨rfl, e2, hv, hrs1, hps1⟩ := hq; cases hv
  obtain ⟨rfl, e2, hv, hrs1, hps1⟩ := hq
  cases hv
  show WS k 4 [(0, .ref q1), (1, .int (Int32.ofInt x))] [.int (Int32.ofInt e2)] (Wd A dT s) 0 0
  refine y_if_eq X.1 (t := 16) (show decode (kCc k) 4 = .ok (.ifCond .eq 12, 3) by rw [X.2.1.1]; decide +kernel) (by decide) ⟨by first | exact hrs1.1 | omega, by first | exact hrs1.2 | omega⟩ (fun g3 => ?_) (fun g3 => ?_)
  ·
    exfalso
    omega
  ·
    refine w_aload_n X.1 (x := q1) (show decode (kCc k) 7 = .ok (.aload_n 0, 1) by rw [X.2.1.1]; decide +kernel) (List.Mem.head _) (w_getfK X hv1k (by rw [X.2.1.2.1]; exact chkW_ok (p := (11, 6)) (by decide +kernel)) (show decode (kCc k) 8 = .ok (.getfield 9, 3) by rw [X.2.1.1]; decide +kernel) (w_iload_n X.1 (x := Int32.ofInt x) (show decode (kCc k) 11 = .ok (.iload_n 1, 1) by rw [X.2.1.1]; decide +kernel) (List.Mem.tail _ (List.Mem.head _)) (z_callSK X (rm := rmN 307) (As := [.ref q2, .int (Int32.ofInt x)]) (st := []) (show decode (kCc k) 12 = .ok (.invokestatic 495, 3) by rw [X.2.1.1]; decide +kernel) cw_lch (by rw [E.1, E.2.1, E.2.2.1]; exact j_latc3 G SF hn1 hg1 hT1 I (by first | exact ⟨p0.1, p0.2⟩ | omega)) ⟨by rw [E.2.2.2]; exact (show (rmN 307).frames + 1 ≤ (rmN 303).frames by decide), by rw [E.2.2.2]; exact (show 8 + (mNL (miB 307) + 11) + (rmN 307).locals ≤ (rmN 303).locals by decide), by rw [E.2.2.2]; exact (show 0 + (rmN 307).cells ≤ (rmN 303).cells by decide), by rw [E.2.2.2]; exact (show 0 + (rmN 307).slots ≤ (rmN 303).slots by decide)⟩ (Nat.le_of_ble_eq_true rfl) (fun vv s4 hq => ?_) (fun ee s4 hq => ?_))))
    rotate_left
    · obtain ⟨Is4, Fs4, e5, hv, hrs4, hps4⟩ := hq; cases hv
    obtain ⟨Is4, Fs4, e5, hv, hrs4, hps4⟩ := hq
    cases hv
    have Gs4 := fm_tq F Fs4 rfl rfl
    show WS k 15 [(0, .ref q1), (1, .int (Int32.ofInt x))] [.int (Int32.ofInt e5)] (Wd A dT s4) 0 0
    exact w_iret X.1 q hRt (nar_ch (by first | exact And.intro (hps4.1) (hps4.2.1) | omega)) (show decode (kCc k) 15 = .ok (.ireturn, 1) by rw [X.2.1.1]; decide +kernel) (Nat.zero_le _) (Nat.zero_le _) ⟨_, rfl, Is4, Gs4, e5, rfl, ⟨by first | exact hrs4.1 | omega, by first | exact hrs4.2 | omega⟩, by first | exact And.intro (hps4.1) (And.intro (hps4.2.1) (hps4.2.2)) | omega⟩
set_option maxRecDepth 4000 in
theorem c10_says3 (G : GX l s0 D tys a0 dT) {B : Nat → Int} {N : Int} (SF : SF0 s0) {q1 : Nat} {L1 : List Nat} (hs3 : StrL s0 q1 L1) (hl1 : okL L1 = true) (I : Bd s) (jBYW : BYW B N s) (jTKS : TKS B N s) (p0 : iI s 4 ≤ iI s 2) : CT l s0 D A dT 131 (rmN 131) [.ref (A 1), .ref q1] s (fun o t => Bd t ∧ Fm [] [] s t ∧ BYW B N t ∧ TKS B N t ∧ ∃ e, o = .inl (some (.int (Int32.ofInt e))) ∧ rng e ∧ ((e = 1 ∧ whV B N (iI s 4) = whL L1 0) ∨ (e = 0 ∧ whV B N (iI s 4) ≠ whL L1 0))) := by
  refine ct_ofX G (by decide) (Nat.le_of_ble_eq_true rfl) (fun k X E ET hRt hXt q => ?_)
  show WS k 0 [(0, .ref (A 1)), (1, .ref q1)] [] _ 0 0
  have F : Fm [] [] s s := fm_rf _ _ s
  have hs1 := strL_A hs3 hl1
  have ho1 := okL_all hl1
  obtain ⟨q2, hO1, hc1, hv1, hT1⟩ := id hs3
  have hn1 := ho1.2.1
  have hg1 : gOK (fun j => (L1.getD j 0 : Nat)) := fun j => (show 0 ≤ ((L1.getD j 0 : Nat) : Int) ∧ ((L1.getD j 0 : Nat) : Int) ≤ 127 from ⟨by first | exact oq_a3593015 | omega, by have := ho1.2.2 j; omega⟩)
  have hO1k := hO1
  have hc1k := hc1
  have hv1k := hv1
  have hT1k := hT1
  have hZ1k := SF.1
  rw [← E.2.1] at hO1k hc1k hv1k hT1k hZ1k
  have hN := jBYW.2.1
  have hW := jBYW.2.2
  obtain ⟨n1, hn9⟩ : ∃ n : Nat, n = L1.length := ⟨_, rfl⟩
  rw [← hn9] at hs1 hn1 hT1 hT1k
  have b1 := bi_2 I
  have b2 := bi_4 I
  have b3 := bi_5 I
  have b4 := bi_1 I
  have L29 : ∀ (n : Nat) (t : PS) (c : Int), Bd t → Fm [] [] s t → BYW B N t → TKS B N t → (∀ i : Nat, (i : Int) < c → B (iI s 4 + i).toNat = (L1.getD i 0 : Nat)) → (0 ≤ c ∧ c ≤ (n1 : Int) ∧ iI t 2 - iI t 4 = (n1 : Int) ∧ n1 ≤ 6 ∧ iI t 4 = iI s 4 ∧ iI t 2 = iI s 2 ∧ iI s 5 = -3) → ((n1 : Int) - c : Int).toNat < n → (∀ (t' : PS) (c' : Int), Bd t' → Fm [] [] s t' → BYW B N t' → TKS B N t' → (∀ i : Nat, (i : Int) < c' → B (iI s 4 + i).toNat = (L1.getD i 0 : Nat)) → ((n1 : Int) ≤ c' ∧ iI s 2 - iI s 4 = (n1 : Int) ∧ iI s 5 = -3) → WS k 64 [(0, .ref (A 1)), (1, .ref q1), (2, .int (Int32.ofInt c'))] [] (Wd A dT t') 0 0) → WS k 29 [(0, .ref (A 1)), (1, .ref q1), (2, .int (Int32.ofInt c))] [] (Wd A dT t) 0 0 := by
    intro n
    induction n with
    | zero =>
      intro t c I F jjBYW jjTKS hq hi hm kx
      exact absurd hm (Nat.not_lt_zero _)
    | succ n ih =>
      intro t c I F jjBYW jjTKS hq hi hm kx
      have b1001 := bi_2 I
      have b1002 := bi_4 I
      have b1003 := bi_5 I
      have b1004 := bi_1 I
      have hN := jjBYW.2.1
      have hW := jjBYW.2.2
      refine z_load_n X (x := c) rfl (List.Mem.tail _ (List.Mem.tail _ (List.Mem.head _))) (z_aload_n X (x := q1) rfl (List.Mem.tail _ (List.Mem.head _)) (z_callK X (rm := rmN 302) (As := []) (st := [.int (Int32.ofInt c)]) (show decode (kCc k) 31 = .ok (.invokevirtual 62, 3) by rw [X.2.1.1]; decide +kernel) cw_len hO1k (by rw [E.1, E.2.1, E.2.2.1]; exact j_len G SF hs1 I) ⟨by rw [E.2.2.2]; exact (show (rmN 302).frames + 1 ≤ (rmN 131).frames by decide), by rw [E.2.2.2]; exact (show 8 + (mNL (miB 302) + 11) + (rmN 302).locals ≤ (rmN 131).locals by decide), by rw [E.2.2.2]; exact (show 0 + (rmN 302).cells ≤ (rmN 131).cells by decide), by rw [E.2.2.2]; exact (show 0 + (rmN 302).slots ≤ (rmN 131).slots by decide)⟩ (Nat.le_of_ble_eq_true rfl) (fun vv s1005 hq => ?_) (fun ee s1005 hq => ?_)))
      rotate_left
      · obtain ⟨rfl, e1006, hv, hrs1005, hps1005⟩ := hq; cases hv
      obtain ⟨rfl, e1006, hv, hrs1005, hps1005⟩ := hq
      cases hv
      show WS k 34 [(0, .ref (A 1)), (1, .ref q1), (2, .int (Int32.ofInt c))] [.int (Int32.ofInt e1006), .int (Int32.ofInt c)] (Wd A dT t) 0 0
      refine z_icmp_ge X (t := 64) rfl rfl ⟨by first | exact oq_fa4e5087 hi.1 | omega, by first | exact oq_a893734d hi.2.1 hi.2.2.2.1 | exact oq_d309d017 hi.2.2.2.1 hi.2.1 | omega⟩ ⟨by first | exact hrs1005.1 | omega, by first | exact hrs1005.2 | omega⟩ (fun g1007 => ?_) (fun g1007 => ?_)
      ·
        refine WS_pq [0, 1, 2] (lv' := [(0, .ref (A 1)), (1, .ref q1), (2, .int (Int32.ofInt c))]) rfl ?_
        exact kx _ c I F jjBYW jjTKS hq (by first | exact ⟨by first | exact oq_bd876a7e g1007 hps1005 | omega, oq_8406d934 hi.2.2.1 hi.2.2.2.2.2.1 hi.2.2.2.2.1, hi.2.2.2.2.2.2⟩ | omega)
      ·
        refine z_aload_n X (x := A 1) rfl (List.Mem.head _) (s_getR X 1 rfl (c518_ok rfl) rfl rfl (z_aload_n X (x := A 1) rfl (List.Mem.head _) (z_getI X 1 rfl (c518_ok rfl) rfl rfl ?_)))
        have b1008 := bi_4 I
        refine z_load_n X (x := c) rfl (List.Mem.tail _ (List.Mem.tail _ (List.Mem.head _))) (z_add X rfl (z_ald X 2 rfl (c518_ok rfl) rfl (by first | exact oq_d8d6a599 hi.1 b1008.1 | omega) (show ((iI t 4) + c) < 200 by first | exact oq_9f0f98dc g1007 hps1005 b1001.2 hi.2.2.1 | omega) (cbig_ok rfl) ?_))
        have b1009 := bc_0 I (show (((iI t 4) + c)).toNat < 200 by first | exact oq_809444bf g1007 hps1005 b1001.2 hi.2.2.1 | omega)
        have fb1010 : iC t 0 (((iI t 4) + c)).toNat = B (((iI t 4) + c)).toNat := jjBYW.1 _ (by first | exact oq_809444bf g1007 hps1005 b1001.2 hi.2.2.1 | omega)
        refine z_aload_n X (x := q1) rfl (List.Mem.tail _ (List.Mem.head _)) (z_load_n X (x := c) rfl (List.Mem.tail _ (List.Mem.tail _ (List.Mem.head _))) (z_callK X (rm := rmN 303) (As := [.int (Int32.ofInt c)]) (st := [.int (Int32.ofInt (iC t 0 (((iI t 4) + c)).toNat))]) (show decode (kCc k) 50 = .ok (.invokevirtual 68, 3) by rw [X.2.1.1]; decide +kernel) cw_cha hO1k (by rw [E.1, E.2.1, E.2.2.1]; exact j_char3 G SF hs1 hn1 hg1 hO1 hc1 hv1 hT1 I (by first | exact And.intro (hi.1) (oq_be838240 g1007 hps1005) | omega)) ⟨by rw [E.2.2.2]; exact (show (rmN 303).frames + 1 ≤ (rmN 131).frames by decide), by rw [E.2.2.2]; exact (show 8 + (mNL (miB 303) + 11) + (rmN 303).locals ≤ (rmN 131).locals by decide), by rw [E.2.2.2]; exact (show 0 + (rmN 303).cells ≤ (rmN 131).cells by decide), by rw [E.2.2.2]; exact (show 0 + (rmN 303).slots ≤ (rmN 131).slots by decide)⟩ (Nat.le_of_ble_eq_true rfl) (fun vv s1011 hq => ?_) (fun ee s1011 hq => ?_)))
        rotate_left
        · obtain ⟨Is1011, Fs1011, e1012, hv, hrs1011, hps1011⟩ := hq; cases hv
        obtain ⟨Is1011, Fs1011, e1012, hv, hrs1011, hps1011⟩ := hq
        cases hv
        have Gs1011 := fm_tq F Fs1011 rfl rfl
        have ws1011_2 : iI s1011 2 = iI t 2 := fm_iq Fs1011 rfl
        have ws1011_4 : iI s1011 4 = iI t 4 := fm_iq Fs1011 rfl
        have ws1011_5 : iI s1011 5 = iI t 5 := fm_iq Fs1011 rfl
        have ws1011_1 : iI s1011 1 = iI t 1 := fm_iq Fs1011 rfl
        have JBYW_s1011 : BYW B N s1011 := BYW_fm Fs1011 (by decide) jjBYW
        have JTKS_s1011 : TKS B N s1011 := TKS_fm Fs1011 (by decide) jjTKS
        show WS k 53 [(0, .ref (A 1)), (1, .ref q1), (2, .int (Int32.ofInt c))] [.int (Int32.ofInt e1012), .int (Int32.ofInt (iC t 0 (((iI t 4) + c)).toNat))] (Wd A dT s1011) 0 0
        have hch : e1012 = (L1.getD (c).toNat 0 : Nat) := hps1011.2.2
        refine z_icmp_eq X (t := 58) rfl rfl (rng_to _) ⟨by first | exact hrs1011.1 | omega, by first | exact hrs1011.2 | omega⟩ (fun g1013 => ?_) (fun g1013 => ?_)
        ·
          refine z_inc X (x := c) (lv' := [(2, .int (Int32.ofInt (c + 1))), (0, .ref (A 1)), (1, .ref q1)]) rfl (by decide) (List.Mem.tail _ (List.Mem.tail _ (List.Mem.head _))) (fun _ h => h) (z_goto X (t := 29) rfl rfl (WS_pq [1, 2, 0] (lv' := [(0, .ref (A 1)), (1, .ref q1), (2, .int (Int32.ofInt (c + 1)))]) rfl ?_))
          exact ih _ (c + 1) Is1011 Gs1011 JBYW_s1011 JTKS_s1011 (sy_up (by first | exact hi.1 | omega) hq (by rw [← hch, show iI s 4 + c = iI t 4 + c by first | exact oq_561da051 hi.2.2.2.2.1 | omega]; omega)) (by first | exact ⟨oq_54f49eb5 hi.1, by first | exact oq_42f51fb0 g1007 hps1005 | omega, oq_3c8fd887 ws1011_2 ws1011_4 hi.2.2.1, hi.2.2.2.1, oq_1aa5be9e ws1011_4 hi.2.2.2.2.1, oq_1aa5be9e ws1011_2 hi.2.2.2.2.2.1, hi.2.2.2.2.2.2⟩ | omega) (by first | exact oq_5a4484c6 g1007 hps1005 hm | omega) kx
        ·
          refine z_const X rfl ?_
          exact w_iret X.1 q hRt (nar_ret (by first | exact Or.inl (by decide) | omega)) (ax_d X (show cdA 131 57 = some (.ireturn, 1, 0, 0, 0) from rfl)) (Nat.zero_le _) (Nat.zero_le _) ⟨_, rfl, Is1011, Gs1011, JBYW_s1011, JTKS_s1011, 0, rfl, (by decide), Or.inr ⟨rfl, sy_ne hl1 (c := c) (by first | exact hi.1 | (clear g1013; omega) | omega) (by first | exact oq_79509ac9 g1007 hps1005 hn9 | (clear g1013; omega) | omega) (by rw [show iI s 4 + c = iI t 4 + c by first | exact oq_561da051 hi.2.2.2.2.1 | (clear g1013; omega) | omega]; omega)⟩⟩
  refine z_aload_n X (x := A 1) rfl (List.Mem.head _) (z_getI X 1 rfl (c518_ok rfl) rfl rfl ?_)
  have b5 := bi_5 I
  refine z_bipush X rfl (z_icmp_ne X (t := 25) rfl rfl (rng_to _) (by decide) (fun g6 => ?_) (fun g6 => ?_))
  ·
    refine z_const X rfl ?_
    exact w_iret X.1 q hRt (nar_ret (by first | exact Or.inl (by decide) | omega)) (ax_d X (show cdA 131 26 = some (.ireturn, 1, 0, 0, 0) from rfl)) (Nat.zero_le _) (Nat.zero_le _) ⟨_, rfl, I, F, jBYW, jTKS, 0, rfl, (by decide), Or.inr ⟨rfl, sy_no jTKS hl1 (by first | exact Or.inl (g6) | (clear g6; omega) | omega)⟩⟩
  ·
    refine z_aload_n X (x := A 1) rfl (List.Mem.head _) (z_getI X 1 rfl (c518_ok rfl) rfl rfl ?_)
    have b7 := bi_2 I
    refine z_aload_n X (x := A 1) rfl (List.Mem.head _) (z_getI X 1 rfl (c518_ok rfl) rfl rfl ?_)
    have b8 := bi_4 I
    refine z_sub X rfl (z_aload_n X (x := q1) rfl (List.Mem.tail _ (List.Mem.head _)) (z_callK X (rm := rmN 302) (As := []) (st := [.int (Int32.ofInt ((iI s 2) - (iI s 4)))]) (show decode (kCc k) 19 = .ok (.invokevirtual 62, 3) by rw [X.2.1.1]; decide +kernel) cw_len hO1k (by rw [E.1, E.2.1, E.2.2.1]; exact j_len G SF hs1 I) ⟨by rw [E.2.2.2]; exact (show (rmN 302).frames + 1 ≤ (rmN 131).frames by decide), by rw [E.2.2.2]; exact (show 8 + (mNL (miB 302) + 11) + (rmN 302).locals ≤ (rmN 131).locals by decide), by rw [E.2.2.2]; exact (show 0 + (rmN 302).cells ≤ (rmN 131).cells by decide), by rw [E.2.2.2]; exact (show 0 + (rmN 302).slots ≤ (rmN 131).slots by decide)⟩ (Nat.le_of_ble_eq_true rfl) (fun vv s9 hq => ?_) (fun ee s9 hq => ?_)))
    rotate_left
    · obtain ⟨rfl, e10, hv, hrs9, hps9⟩ := hq; cases hv
    obtain ⟨rfl, e10, hv, hrs9, hps9⟩ := hq
    cases hv
    show WS k 22 [(0, .ref (A 1)), (1, .ref q1)] [.int (Int32.ofInt e10), .int (Int32.ofInt ((iI s 2) - (iI s 4)))] (Wd A dT s) 0 0
    refine z_icmp_eq X (t := 27) rfl rfl ⟨by first | exact oq_b5f6b5ca p0 | omega, by first | exact oq_57a55da2 b7.2 b8.1 | omega⟩ ⟨by first | exact hrs9.1 | omega, by first | exact hrs9.2 | omega⟩ (fun g11 => ?_) (fun g11 => ?_)
    ·
      refine z_const X rfl (z_store_n X (lv' := [(2, .int (Int32.ofInt 0)), (0, .ref (A 1)), (1, .ref q1)]) rfl (by decide) (fun _ h => h) (WS_pq [1, 2, 0] (lv' := [(0, .ref (A 1)), (1, .ref q1), (2, .int (Int32.ofInt 0))]) rfl (L29 (((n1 : Int) - 0 : Int).toNat + 1) s 0 I F jBYW jTKS (fun i hi => by first | exact oq_417c0650 hi | omega) (by first | exact And.intro (oq_0fe6b7e2) (And.intro (oq_a3593015) (And.intro (oq_8312cbba g11 hps9) (And.intro (hn1) (And.intro (rfl) (And.intro (rfl) (g6)))))) | omega) (Nat.lt_succ_self _) ?_)))
      intro s12 x13 Is12 Fs12 JBYW_s12 JTKS_s12 Qs12 hs12
      have b14 := bi_2 Is12
      have b15 := bi_4 Is12
      have b16 := bi_5 Is12
      have b17 := bi_1 Is12
      refine z_const X rfl ?_
      exact w_iret X.1 q hRt (nar_ret (by first | exact Or.inr (by decide) | omega)) (ax_d X (show cdA 131 65 = some (.ireturn, 1, 0, 0, 0) from rfl)) (Nat.zero_le _) (Nat.zero_le _) ⟨_, rfl, Is12, Fs12, JBYW_s12, JTKS_s12, 1, rfl, (by decide), Or.inl ⟨rfl, sy_yes jTKS hl1 (by first | exact hs12.2.2 | omega) (by first | exact oq_a6176bf3 hs12.2.1 hn9 | omega) (c := x13) (by first | exact oq_4f71942c hs12.1 hn9 | omega) Qs12⟩⟩
    ·
      refine z_const X rfl ?_
      exact w_iret X.1 q hRt (nar_ret (by first | exact Or.inl (by decide) | omega)) (ax_d X (show cdA 131 26 = some (.ireturn, 1, 0, 0, 0) from rfl)) (Nat.zero_le _) (Nat.zero_le _) ⟨_, rfl, I, F, jBYW, jTKS, 0, rfl, (by decide), Or.inr ⟨rfl, sy_no jTKS hl1 (by first | exact Or.inr (oq_45900da9 g11 hps9 hn9) | (clear g11; omega) | omega)⟩⟩
set_option maxRecDepth 4000 in
theorem c7_put3 (G : GX l s0 D tys a0 dT) (I : Bd s) {x : Int} (p0 : rng x) (p1 : iI s 16 ≤ 199) : CT l s0 D A dT 82 (rmN 82) [.ref (A 19), .int (Int32.ofInt x)] s (fun o t => Bd t ∧ Fm [16] [18] s t ∧ o = .inl none ∧ (iI t 16 = iI s 16 + 1 ∧ DL t = DL s ++ [x])) := by
  refine ct_ofX G (by decide) (Nat.le_of_ble_eq_true rfl) (fun k X E ET hRt hXt q => ?_)
  show WS k 0 [(0, .ref (A 19)), (1, .int (Int32.ofInt x))] [] _ 0 0
  have F : Fm [16] [18] s s := fm_rf _ _ s
  have aw0_18 : SAM 18 s s := sam_rf
  have b1 := bi_16 I
  refine z_aload_n X (x := A 19) rfl (List.Mem.head _) (z_getI X 19 rfl (c518_ok rfl) rfl rfl ?_)
  have b2 := bi_16 I
  refine z_sipush X rfl (z_icmp_ge X (t := 30) rfl rfl (rng_to _) (by decide) (fun g3 => ?_) (fun g3 => ?_))
  ·
    exact w_vret X.1 q hRt (ax_d X (show cdA 82 30 = some (.return_, 1, 0, 0, 0) from rfl)) (Nat.zero_le _) (Nat.zero_le _) ⟨_, rfl, I, F, rfl, ⟨by first | exact oq_d8a0e68d g3 p1 | omega, by exfalso; omega⟩⟩
  ·
    refine z_aload_n X (x := A 19) rfl (List.Mem.head _) (s_getR X 19 rfl (c518_ok rfl) rfl rfl (z_aload_n X (x := A 19) rfl (List.Mem.head _) (z_getI X 19 rfl (c518_ok rfl) rfl rfl ?_)))
    have b4 := bi_16 I
    refine z_load_n X (x := x) rfl (List.Mem.tail _ (List.Mem.head _)) (z_ast X 22 rfl (c518_ok rfl) rfl (by first | exact b4.1 | omega) (show (iI s 16) < 200 by first | exact g3 | omega) (cbig_ok rfl) (wd_gen (fun s5 hs5 => ?_)))
    have Is5 : Bd s5 := eqB hs5 (bd_C I (show ((-2147483648) : Int) ≤ x ∧ x ≤ 2147483647 by first | exact ⟨p0.1, p0.2⟩ | omega) ⟨by first | exact p0.1 | omega, by first | exact p0.2 | omega⟩)
    have Fs5 := eqF hs5 (fm_C F (inl_ok (a := 18) rfl))
    have ws5_16 : iI s5 16 = iI s 16 := eqI hs5 rfl
    have aws5_18 : UPD 18 ((iI s 16)) x s s5 := by rw [hs5]; exact upd_put aw0_18 ⟨by first | exact p0.1 | omega, by first | exact p0.2 | omega⟩
    refine z_aload_n X (x := A 19) rfl (List.Mem.head _) (w_dup X.1 (ax_d X (show cdA 82 21 = some (.dup, 1, 0, 0, 0) from rfl)) rfl (z_getI X 19 rfl (c518_ok rfl) rfl rfl ?_))
    have b6 := bi_16 Is5
    refine z_const X rfl (z_add X rfl (s_putI X 19 rfl (c518_ok rfl) rfl rfl (by decide) rfl rfl rfl (wd_gen (fun s7 hs7 => ?_))))
    have Is7 : Bd s7 := eqB hs7 (bd_I Is5 (show (0 : Int) ≤ ((iI s5 16) + 1) ∧ ((iI s5 16) + 1) ≤ 200 by first | exact ⟨oq_54f49eb5 b6.1, oq_c35a0598 ws5_16 g3⟩ | omega) ⟨by first | exact oq_74de1e16 b6.1 | omega, by first | exact oq_bb8d498d b6.2 | omega⟩)
    have Fs7 := eqF hs7 (fm_I Fs5 (inl_ok (a := 16) rfl))
    have vs7 : iI s7 16 = ((iI s5 16) + 1) := eqI hs7 (iI_u ⟨by first | exact oq_74de1e16 b6.1 | omega, by first | exact oq_bb8d498d b6.2 | omega⟩)
    have aws7_18 : UPD 18 ((iI s 16)) x s s7 := by rw [hs7]; exact aws5_18
    exact w_vret X.1 q hRt (ax_d X (show cdA 82 30 = some (.return_, 1, 0, 0, 0) from rfl)) (Nat.zero_le _) (Nat.zero_le _) ⟨_, rfl, Is7, Fs7, rfl, ⟨by first | exact oq_665cd23d vs7 ws5_16 | omega, DL_put aws7_18 (by first | exact b4.1 | omega) (by first | exact oq_665cd23d vs7 ws5_16 | omega)⟩⟩
set_option maxRecDepth 4000 in
theorem c7_enter3 (G : GX l s0 D tys a0 dT) {B : Nat → Int} {N : Int} (I : Bd s) (jBYW : BYW B N s) (jTKS : TKS B N s) (p0 : iI s 2 ≤ iI s 1) (p1 : iI s 4 ≤ iI s 2) : CT l s0 D A dT 80 (rmN 80) [.ref (A 19)] s (fun o t => Bd t ∧ Fm [2, 4, 6, 5, 7, 8, 19] [] s t ∧ BYW B N t ∧ TKS B N t ∧ ∃ e, o = .inl (some (.int (Int32.ofInt e))) ∧ rng e ∧ (((e = 0 ∧ iI s 19 = 6 ∧ iI t 7 = 3) ∨ (e = 1 ∧ iI s 19 ≤ 5 ∧ iI t 19 = iI s 19 + 1 ∧ iI t 4 = sk B N (iI s 2) ∧ iI s 2 ≤ iI t 4)) ∧ iI t 2 ≤ iI t 1 ∧ iI t 4 ≤ iI t 2)) := by
  refine ct_ofX G (by decide) (Nat.le_of_ble_eq_true rfl) (fun k X E ET hRt hXt q => ?_)
  show WS k 0 [(0, .ref (A 19))] [] _ 0 0
  have F : Fm [2, 4, 6, 5, 7, 8, 19] [] s s := fm_rf _ _ s
  have hN := jBYW.2.1
  have hW := jBYW.2.2
  have b1 := bi_2 I
  have b2 := bi_1 I
  have b3 := bi_4 I
  have b4 := bi_5 I
  have b5 := bi_6 I
  have b6 := bi_19 I
  have b7 := bi_7 I
  refine z_aload_n X (x := A 19) rfl (List.Mem.head _) (z_getI X 19 rfl (c518_ok rfl) rfl rfl ?_)
  have b8 := bi_19 I
  refine z_bipush X rfl (z_icmp_lt X (t := 18) rfl rfl (rng_to _) (by decide) (fun g9 => ?_) (fun g9 => ?_))
  ·
    refine z_aload_n X (x := A 19) rfl (List.Mem.head _) (w_dup X.1 (ax_d X (show cdA 80 19 = some (.dup, 1, 0, 0, 0) from rfl)) rfl (z_getI X 19 rfl (c518_ok rfl) rfl rfl ?_))
    have b10 := bi_19 I
    refine z_const X rfl (z_add X rfl (s_putI X 19 rfl (c518_ok rfl) rfl rfl (by decide) rfl rfl rfl (wd_gen (fun s11 hs11 => ?_))))
    have Is11 : Bd s11 := eqB hs11 (bd_I I (show (0 : Int) ≤ ((iI s 19) + 1) ∧ ((iI s 19) + 1) ≤ 6 by first | exact ⟨oq_54f49eb5 b10.1, oq_5bf54478 g9⟩ | omega) ⟨by first | exact oq_74de1e16 b10.1 | omega, by first | exact oq_5fe14c36 b10.2 | omega⟩)
    have Fs11 := eqF hs11 (fm_I F (inl_ok (a := 19) rfl))
    have vs11 : iI s11 19 = ((iI s 19) + 1) := eqI hs11 (iI_u ⟨by first | exact oq_74de1e16 b10.1 | omega, by first | exact oq_5fe14c36 b10.2 | omega⟩)
    have ws11_2 : iI s11 2 = iI s 2 := eqI hs11 rfl
    have ws11_1 : iI s11 1 = iI s 1 := eqI hs11 rfl
    have ws11_4 : iI s11 4 = iI s 4 := eqI hs11 rfl
    have ws11_5 : iI s11 5 = iI s 5 := eqI hs11 rfl
    have ws11_6 : iI s11 6 = iI s 6 := eqI hs11 rfl
    have ws11_7 : iI s11 7 = iI s 7 := eqI hs11 rfl
    have fs11 : Fm [19] [] s s11 := by rw [hs11]; exact fm_I (fm_rf _ _ _) (show 19 ∈ _ by decide)
    have JBYW_s11 : BYW B N s11 := BYW_fm fs11 (by decide) jBYW
    refine z_aload_n X (x := A 19) rfl (List.Mem.head _) (s_getR X 19 rfl (c518_ok rfl) rfl rfl (zcV_v2 X E 1 (As := []) (st := []) rfl rfl rfl rfl (c10_step3 G Is11 JBYW_s11 (by first | exact oq_e7b9ecab ws11_1 ws11_2 p0 | omega)) rfl (Nat.le_of_ble_eq_true rfl) (fun s12 Is12 Fs12 JBYW_s12 JTKS_s12 hps12 => ?_)))
    have Gs12 := fm_tq Fs11 Fs12 rfl rfl
    have JBYW_s12 : BYW B N s12 := BYW_fm Fs12 (by decide) JBYW_s11
    have b14 := bi_2 Is12
    have ws12_1 : iI s12 1 = iI s11 1 := fm_iq Fs12 rfl
    have b15 := bi_4 Is12
    have b16 := bi_5 Is12
    have b17 := bi_6 Is12
    have ws12_19 : iI s12 19 = iI s11 19 := fm_iq Fs12 rfl
    have ws12_7 : iI s12 7 = iI s11 7 := fm_iq Fs12 rfl
    refine z_const X rfl ?_
    exact w_iret X.1 q hRt (nar_ret (by first | exact Or.inr (by decide) | omega)) (ax_d X (show cdA 80 36 = some (.ireturn, 1, 0, 0, 0) from rfl)) (Nat.zero_le _) (Nat.zero_le _) ⟨_, rfl, Is12, Gs12, JBYW_s12, JTKS_s12, 1, rfl, (by decide), ⟨by first | exact Or.inl ⟨by omega, by omega, by omega⟩ | exact Or.inr ⟨by first | exact rfl | omega, by first | exact oq_a4cef127 g9 | omega, by first | exact oq_4b8d46b3 ws12_19 vs11 | omega, by rw [hps12.2.2.1, show iI s11 2 = iI s 2 by first | exact ws11_2 | omega], by first | exact oq_acf76229 hps12.2.2.2 ws11_2 | omega⟩, by first | exact hps12.1 | omega, by first | exact hps12.2.1 | omega⟩⟩
  ·
    refine z_aload_n X (x := A 19) rfl (List.Mem.head _) (s_getR X 19 rfl (c518_ok rfl) rfl rfl (z_const X rfl (zcV_i0 X E 1 (As := [.int (Int32.ofInt 3)]) (st := []) rfl rfl rfl rfl (c10_refuse3 G I (by first | exact ⟨by decide, by decide⟩ | omega)) rfl (Nat.le_of_ble_eq_true rfl) (fun s18 e19 Is18 Fs18 hrs18 hps18 => ?_))))
    have Gs18 := fm_tq F Fs18 rfl rfl
    have JBYW_s18 : BYW B N s18 := BYW_fm Fs18 (by decide) jBYW
    have JTKS_s18 : TKS B N s18 := TKS_fm Fs18 (by decide) jTKS
    have ws18_2 : iI s18 2 = iI s 2 := fm_iq Fs18 rfl
    have ws18_1 : iI s18 1 = iI s 1 := fm_iq Fs18 rfl
    have ws18_4 : iI s18 4 = iI s 4 := fm_iq Fs18 rfl
    have ws18_5 : iI s18 5 = iI s 5 := fm_iq Fs18 rfl
    have ws18_6 : iI s18 6 = iI s 6 := fm_iq Fs18 rfl
    have ws18_19 : iI s18 19 = iI s 19 := fm_iq Fs18 rfl
    have b20 := bi_7 Is18
    exact w_iret X.1 q hRt (nar_ret (by first | exact Or.inl (hps18.1) | omega)) (ax_d X (show cdA 80 17 = some (.ireturn, 1, 0, 0, 0) from rfl)) (Nat.zero_le _) (Nat.zero_le _) ⟨_, rfl, Is18, Gs18, JBYW_s18, JTKS_s18, e19, rfl, hrs18, ⟨by first | exact Or.inl ⟨by first | exact hps18.1 | omega, by first | exact oq_04e65eb9 g9 b8.2 | omega, by first | exact hps18.2 | omega⟩ | exact Or.inr ⟨by omega, by omega, by omega, by rw [hps18.2.2.1, show iI s 2 = iI s 2 by omega], by omega⟩, by first | exact oq_e7b9ecab ws18_1 ws18_2 p0 | omega, by first | exact oq_e7b9ecab ws18_2 ws18_4 p1 | omega⟩⟩
set_option maxRecDepth 4000 in
theorem c7_pass3 (G : GX l s0 D tys a0 dT) {B : Nat → Int} {N : Int} (I : Bd s) (jBYW : BYW B N s) (jTKS : TKS B N s) {x : Int} (p0 : 0 ≤ x ∧ x ≤ 255) (p1 : x < 48 ∨ 57 < x) (p2 : x < 97 ∨ 122 < x) (p3 : iI s 2 ≤ iI s 1) (p4 : iI s 4 ≤ iI s 2) : CT l s0 D A dT 81 (rmN 81) [.ref (A 19), .int (Int32.ofInt x)] s (fun o t => Bd t ∧ Fm [2, 4, 6, 5, 7, 8] [] s t ∧ BYW B N t ∧ TKS B N t ∧ ∃ e, o = .inl (some (.int (Int32.ofInt e))) ∧ rng e ∧ ((e = 0 ∨ (e = 1 ∧ iI s 4 < iI t 4)) ∧ iI t 2 ≤ iI t 1 ∧ iI t 4 ≤ iI t 2 ∧ PSS B N x s t e)) := by
  refine ct_ofX G (by decide) (Nat.le_of_ble_eq_true rfl) (fun k X E ET hRt hXt q => ?_)
  show WS k 0 [(0, .ref (A 19)), (1, .int (Int32.ofInt x))] [] _ 0 0
  have F : Fm [2, 4, 6, 5, 7, 8] [] s s := fm_rf _ _ s
  have hN := jBYW.2.1
  have hW := jBYW.2.2
  have hch := tkw_ch (x := x) jTKS p0.1 p1 p2
  have b1 := bi_2 I
  have b2 := bi_1 I
  have b3 := bi_4 I
  have b4 := bi_5 I
  have b5 := bi_6 I
  have b6 := bi_7 I
  refine z_aload_n X (x := A 19) rfl (List.Mem.head _) (s_getR X 19 rfl (c518_ok rfl) rfl rfl (z_getI X 1 rfl (c518_ok rfl) rfl rfl ?_))
  have b7 := bi_5 I
  refine z_load_n X (x := x) rfl (List.Mem.tail _ (List.Mem.head _)) (z_icmp_eq X (t := 20) rfl rfl (rng_to _) ⟨by first | exact oq_fa4e5087 p0.1 | omega, by first | exact oq_4567a937 p0.2 | omega⟩ (fun g8 => ?_) (fun g8 => ?_))
  ·
    refine z_aload_n X (x := A 19) rfl (List.Mem.head _) (s_getR X 19 rfl (c518_ok rfl) rfl rfl (zcV_v2 X E 1 (As := []) (st := []) rfl rfl rfl rfl (c10_step3 G I jBYW (by first | exact p3 | omega)) rfl (Nat.le_of_ble_eq_true rfl) (fun s9 Is9 Fs9 JBYW_s9 JTKS_s9 hps9 => ?_)))
    have Gs9 := fm_tq F Fs9 rfl rfl
    have JBYW_s9 : BYW B N s9 := BYW_fm Fs9 (by decide) jBYW
    have b11 := bi_2 Is9
    have ws9_1 : iI s9 1 = iI s 1 := fm_iq Fs9 rfl
    have b12 := bi_4 Is9
    have b13 := bi_5 Is9
    have b14 := bi_6 Is9
    have ws9_7 : iI s9 7 = iI s 7 := fm_iq Fs9 rfl
    refine z_const X rfl ?_
    exact w_iret X.1 q hRt (nar_ret (by first | exact Or.inr (by decide) | omega)) (ax_d X (show cdA 81 28 = some (.ireturn, 1, 0, 0, 0) from rfl)) (Nat.zero_le _) (Nat.zero_le _) ⟨_, rfl, Is9, Gs9, JBYW_s9, JTKS_s9, 1, rfl, (by decide), ⟨by have := (hch.1 (by first | exact g8 | (clear p2 p1; omega) | (clear p1; omega) | omega)).2; omega, by first | exact hps9.1 | omega, by first | exact hps9.2.1 | omega, Or.inl ⟨rfl, (hch.1 (by first | exact g8 | (clear p2 p1; omega) | (clear p1; omega) | omega)).1, by rw [hps9.2.2.1, show iI s 2 = iI s 4 + 1 by have := (hch.1 (by first | exact g8 | (clear p2 p1; omega) | (clear p1; omega) | omega)).2; omega]⟩⟩⟩
  ·
    refine z_aload_n X (x := A 19) rfl (List.Mem.head _) (s_getR X 19 rfl (c518_ok rfl) rfl rfl (z_const X rfl (zcV_i0 X E 1 (As := [.int (Int32.ofInt 1)]) (st := []) rfl rfl rfl rfl (c10_refuse3 G I (by first | exact ⟨by decide, by decide⟩ | omega)) rfl (Nat.le_of_ble_eq_true rfl) (fun s15 e16 Is15 Fs15 hrs15 hps15 => ?_))))
    have Gs15 := fm_tq F Fs15 rfl rfl
    have JBYW_s15 : BYW B N s15 := BYW_fm Fs15 (by decide) jBYW
    have JTKS_s15 : TKS B N s15 := TKS_fm Fs15 (by decide) jTKS
    have ws15_2 : iI s15 2 = iI s 2 := fm_iq Fs15 rfl
    have ws15_1 : iI s15 1 = iI s 1 := fm_iq Fs15 rfl
    have ws15_4 : iI s15 4 = iI s 4 := fm_iq Fs15 rfl
    have ws15_5 : iI s15 5 = iI s 5 := fm_iq Fs15 rfl
    have ws15_6 : iI s15 6 = iI s 6 := fm_iq Fs15 rfl
    have b17 := bi_7 Is15
    exact w_iret X.1 q hRt (nar_ret (by first | exact Or.inl (hps15.1) | omega)) (ax_d X (show cdA 81 19 = some (.ireturn, 1, 0, 0, 0) from rfl)) (Nat.zero_le _) (Nat.zero_le _) ⟨_, rfl, Is15, Gs15, JBYW_s15, JTKS_s15, e16, rfl, hrs15, ⟨by first | exact Or.inl (hps15.1) | omega, by first | exact oq_e7b9ecab ws15_1 ws15_2 p3 | omega, by first | exact oq_e7b9ecab ws15_2 ws15_4 p4 | omega, Or.inr ⟨by first | exact hps15.1 | (clear g8 p2 p1; omega) | (clear p2 p1; omega) | omega, hch.2 (by first | exact g8 | (clear g8 p2 p1; omega) | (clear p2 p1; omega) | omega), by first | exact hps15.2 | (clear g8 p2 p1; omega) | (clear p2 p1; omega) | omega⟩⟩⟩
set_option maxRecDepth 4000 in
theorem c7_codeOfName3 (G : GX l s0 D tys a0 dT) {B : Nat → Int} {N : Int} (SF : SF0 s0) (GT : TXw0 s0) (I : Bd s) (jBYW : BYW B N s) (jTKS : TKS B N s) (p0 : iI s 2 ≤ iI s 1) (p1 : iI s 4 ≤ iI s 2) : CT l s0 D A dT 79 (rmN 79) [.ref (A 19)] s (fun o t => Bd t ∧ Fm [] [] s t ∧ BYW B N t ∧ TKS B N t ∧ ∃ e, o = .inl (some (.int (Int32.ofInt e))) ∧ rng e ∧ ((e = -20 ∧ nmC B N (iI s 4) = 0) ∨ (-7 ≤ e ∧ e ≤ -1 ∧ nmC B N (iI s 4) = e))) := by
  refine ct_ofX G (by decide) (Nat.le_of_ble_eq_true rfl) (fun k X E ET hRt hXt q => ?_)
  show WS k 0 [(0, .ref (A 19))] [] _ 0 0
  have F : Fm [] [] s s := fm_rf _ _ s
  have b1 := bi_2 I
  have b2 := bi_1 I
  have b3 := bi_4 I
  have b4 := bi_5 I
  have b5 := bi_6 I
  refine z_aload_n X (x := A 19) rfl (List.Mem.head _) (s_getR X 19 rfl (c518_ok rfl) rfl rfl ?_)
  obtain ⟨tx136, q136, hR136, hS136⟩ := GT (136, [119, 97, 121, 115]) (by decide)
  refine w_ldcK X (show vk_R (kOwn k) 136 tx136 q136 (kS0 k) by rw [E.2.1, X.2.1.2.1]; exact hR136) (show decode (kCc k) 4 = .ok (.ldc 136, 2) by rw [X.2.1.1]; decide +kernel) (zcV_i2 X E 1 (As := [.ref q136]) (st := []) rfl rfl rfl rfl (c10_says3 G SF hS136 (by decide) I jBYW jTKS (by first | exact p1 | omega)) rfl (Nat.le_of_ble_eq_true rfl) (fun s6 e7 Is6 Fs6 JBYW_s6 JTKS_s6 hrs6 hps6 => ?_))
  have Gs6 := fm_tq F Fs6 rfl rfl
  have JBYW_s6 : BYW B N s6 := BYW_fm Fs6 (by decide) jBYW
  have JTKS_s6 : TKS B N s6 := TKS_fm Fs6 (by decide) jTKS
  have ws6_2 : iI s6 2 = iI s 2 := fm_iq Fs6 rfl
  have ws6_1 : iI s6 1 = iI s 1 := fm_iq Fs6 rfl
  have ws6_4 : iI s6 4 = iI s 4 := fm_iq Fs6 rfl
  have ws6_5 : iI s6 5 = iI s 5 := fm_iq Fs6 rfl
  have ws6_6 : iI s6 6 = iI s 6 := fm_iq Fs6 rfl
  have hws6 : (e7 = 1 ∧ whV B N (iI s 4) = 454132) ∨ (e7 = 0 ∧ whV B N (iI s 4) ≠ 454132) := by have h := hps6; rw [show iI s 4 = iI s 4 by first | exact rfl | (clear hps6; omega) | omega, show whL [119, 97, 121, 115] 0 = 454132 by decide] at h; exact h
  refine z_if_eq X (t := 16) rfl rfl hrs6 (fun g8 => ?_) (fun g8 => ?_)
  ·
    refine z_aload_n X (x := A 19) rfl (List.Mem.head _) (s_getR X 19 rfl (c518_ok rfl) rfl rfl ?_)
    obtain ⟨tx138, q138, hR138, hS138⟩ := GT (138, [99, 114, 111, 115, 115]) (by decide)
    refine w_ldcK X (show vk_R (kOwn k) 138 tx138 q138 (kS0 k) by rw [E.2.1, X.2.1.2.1]; exact hR138) (show decode (kCc k) 20 = .ok (.ldc 138, 2) by rw [X.2.1.1]; decide +kernel) (zcV_i2 X E 1 (As := [.ref q138]) (st := []) rfl rfl rfl rfl (c10_says3 G SF hS138 (by decide) Is6 JBYW_s6 JTKS_s6 (by first | exact oq_e7b9ecab ws6_2 ws6_4 p1 | omega)) rfl (Nat.le_of_ble_eq_true rfl) (fun s9 e10 Is9 Fs9 JBYW_s9 JTKS_s9 hrs9 hps9 => ?_))
    have Gs9 := fm_tq Gs6 Fs9 rfl rfl
    have JBYW_s9 : BYW B N s9 := BYW_fm Fs9 (by decide) JBYW_s6
    have JTKS_s9 : TKS B N s9 := TKS_fm Fs9 (by decide) JTKS_s6
    have ws9_2 : iI s9 2 = iI s6 2 := fm_iq Fs9 rfl
    have ws9_1 : iI s9 1 = iI s6 1 := fm_iq Fs9 rfl
    have ws9_4 : iI s9 4 = iI s6 4 := fm_iq Fs9 rfl
    have ws9_5 : iI s9 5 = iI s6 5 := fm_iq Fs9 rfl
    have ws9_6 : iI s9 6 = iI s6 6 := fm_iq Fs9 rfl
    have hws9 : (e10 = 1 ∧ whV B N (iI s 4) = 1960084) ∨ (e10 = 0 ∧ whV B N (iI s 4) ≠ 1960084) := by have h := hps9; rw [show iI s6 4 = iI s 4 by first | exact ws6_4 | (clear hps9 hps6; omega) | (clear hps6; omega) | omega, show whL [99, 114, 111, 115, 115] 0 = 1960084 by decide] at h; exact h
    refine z_if_eq X (t := 33) rfl rfl hrs9 (fun g11 => ?_) (fun g11 => ?_)
    ·
      refine z_aload_n X (x := A 19) rfl (List.Mem.head _) (s_getR X 19 rfl (c518_ok rfl) rfl rfl ?_)
      obtain ⟨tx140, q140, hR140, hS140⟩ := GT (140, [111, 118, 101, 114]) (by decide)
      refine w_ldcK X (show vk_R (kOwn k) 140 tx140 q140 (kS0 k) by rw [E.2.1, X.2.1.2.1]; exact hR140) (show decode (kCc k) 37 = .ok (.ldc 140, 2) by rw [X.2.1.1]; decide +kernel) (zcV_i2 X E 1 (As := [.ref q140]) (st := []) rfl rfl rfl rfl (c10_says3 G SF hS140 (by decide) Is9 JBYW_s9 JTKS_s9 (by first | exact oq_4407eb3c ws9_2 ws9_4 ws6_2 ws6_4 p1 | omega)) rfl (Nat.le_of_ble_eq_true rfl) (fun s12 e13 Is12 Fs12 JBYW_s12 JTKS_s12 hrs12 hps12 => ?_))
      have Gs12 := fm_tq Gs9 Fs12 rfl rfl
      have JBYW_s12 : BYW B N s12 := BYW_fm Fs12 (by decide) JBYW_s9
      have JTKS_s12 : TKS B N s12 := TKS_fm Fs12 (by decide) JTKS_s9
      have ws12_2 : iI s12 2 = iI s9 2 := fm_iq Fs12 rfl
      have ws12_1 : iI s12 1 = iI s9 1 := fm_iq Fs12 rfl
      have ws12_4 : iI s12 4 = iI s9 4 := fm_iq Fs12 rfl
      have ws12_5 : iI s12 5 = iI s9 5 := fm_iq Fs12 rfl
      have ws12_6 : iI s12 6 = iI s9 6 := fm_iq Fs12 rfl
      have hws12 : (e13 = 1 ∧ whV B N (iI s 4) = 311436) ∨ (e13 = 0 ∧ whV B N (iI s 4) ≠ 311436) := by have h := hps12; rw [show iI s9 4 = iI s 4 by first | exact oq_1aa5be9e ws9_4 ws6_4 | (clear hps12 hps9 hps6; omega) | (clear hps9 hps6; omega) | omega, show whL [111, 118, 101, 114] 0 = 311436 by decide] at h; exact h
      refine z_if_eq X (t := 50) rfl rfl hrs12 (fun g14 => ?_) (fun g14 => ?_)
      ·
        refine z_aload_n X (x := A 19) rfl (List.Mem.head _) (s_getR X 19 rfl (c518_ok rfl) rfl rfl ?_)
        obtain ⟨tx142, q142, hR142, hS142⟩ := GT (142, [99, 108, 105, 109, 98]) (by decide)
        refine w_ldcK X (show vk_R (kOwn k) 142 tx142 q142 (kS0 k) by rw [E.2.1, X.2.1.2.1]; exact hR142) (show decode (kCc k) 54 = .ok (.ldc 142, 2) by rw [X.2.1.1]; decide +kernel) (zcV_i2 X E 1 (As := [.ref q142]) (st := []) rfl rfl rfl rfl (c10_says3 G SF hS142 (by decide) Is12 JBYW_s12 JTKS_s12 (by first | exact oq_7f1a346e ws12_4 ws12_2 ws9_4 ws9_2 ws6_4 ws6_2 p1 | omega)) rfl (Nat.le_of_ble_eq_true rfl) (fun s15 e16 Is15 Fs15 JBYW_s15 JTKS_s15 hrs15 hps15 => ?_))
        have Gs15 := fm_tq Gs12 Fs15 rfl rfl
        have JBYW_s15 : BYW B N s15 := BYW_fm Fs15 (by decide) JBYW_s12
        have JTKS_s15 : TKS B N s15 := TKS_fm Fs15 (by decide) JTKS_s12
        have ws15_2 : iI s15 2 = iI s12 2 := fm_iq Fs15 rfl
        have ws15_1 : iI s15 1 = iI s12 1 := fm_iq Fs15 rfl
        have ws15_4 : iI s15 4 = iI s12 4 := fm_iq Fs15 rfl
        have ws15_5 : iI s15 5 = iI s12 5 := fm_iq Fs15 rfl
        have ws15_6 : iI s15 6 = iI s12 6 := fm_iq Fs15 rfl
        have hws15 : (e16 = 1 ∧ whV B N (iI s 4) = 1837433) ∨ (e16 = 0 ∧ whV B N (iI s 4) ≠ 1837433) := by have h := hps15; rw [show iI s12 4 = iI s 4 by first | exact oq_878618b1 ws12_4 ws9_4 ws6_4 | (clear hps15 hps12 hps9 hps6; omega) | (clear hps12 hps9 hps6; omega) | omega, show whL [99, 108, 105, 109, 98] 0 = 1837433 by decide] at h; exact h
        refine z_if_eq X (t := 67) rfl rfl hrs15 (fun g17 => ?_) (fun g17 => ?_)
        ·
          refine z_aload_n X (x := A 19) rfl (List.Mem.head _) (s_getR X 19 rfl (c518_ok rfl) rfl rfl ?_)
          obtain ⟨tx144, q144, hR144, hS144⟩ := GT (144, [99, 101, 108, 108, 115]) (by decide)
          refine w_ldcK X (show vk_R (kOwn k) 144 tx144 q144 (kS0 k) by rw [E.2.1, X.2.1.2.1]; exact hR144) (show decode (kCc k) 71 = .ok (.ldc 144, 2) by rw [X.2.1.1]; decide +kernel) (zcV_i2 X E 1 (As := [.ref q144]) (st := []) rfl rfl rfl rfl (c10_says3 G SF hS144 (by decide) Is15 JBYW_s15 JTKS_s15 (by first | exact oq_969cff60 ws15_4 ws15_2 ws12_4 ws12_2 ws9_4 ws9_2 ws6_4 ws6_2 p1 | omega)) rfl (Nat.le_of_ble_eq_true rfl) (fun s18 e19 Is18 Fs18 JBYW_s18 JTKS_s18 hrs18 hps18 => ?_))
          have Gs18 := fm_tq Gs15 Fs18 rfl rfl
          have JBYW_s18 : BYW B N s18 := BYW_fm Fs18 (by decide) JBYW_s15
          have JTKS_s18 : TKS B N s18 := TKS_fm Fs18 (by decide) JTKS_s15
          have ws18_2 : iI s18 2 = iI s15 2 := fm_iq Fs18 rfl
          have ws18_1 : iI s18 1 = iI s15 1 := fm_iq Fs18 rfl
          have ws18_4 : iI s18 4 = iI s15 4 := fm_iq Fs18 rfl
          have ws18_5 : iI s18 5 = iI s15 5 := fm_iq Fs18 rfl
          have ws18_6 : iI s18 6 = iI s15 6 := fm_iq Fs18 rfl
          have hws18 : (e19 = 1 ∧ whV B N (iI s 4) = 1701829) ∨ (e19 = 0 ∧ whV B N (iI s 4) ≠ 1701829) := by have h := hps18; rw [show iI s15 4 = iI s 4 by first | exact oq_ac0e91e1 ws15_4 ws12_4 ws9_4 ws6_4 | (clear hps18 hps15 hps12 hps9 hps6; omega) | (clear hps15 hps12 hps9 hps6; omega) | omega, show whL [99, 101, 108, 108, 115] 0 = 1701829 by decide] at h; exact h
          refine z_if_eq X (t := 84) rfl rfl hrs18 (fun g20 => ?_) (fun g20 => ?_)
          ·
            refine z_aload_n X (x := A 19) rfl (List.Mem.head _) (s_getR X 19 rfl (c518_ok rfl) rfl rfl ?_)
            obtain ⟨tx146, q146, hR146, hS146⟩ := GT (146, [108, 111, 119]) (by decide)
            refine w_ldcK X (show vk_R (kOwn k) 146 tx146 q146 (kS0 k) by rw [E.2.1, X.2.1.2.1]; exact hR146) (show decode (kCc k) 88 = .ok (.ldc 146, 2) by rw [X.2.1.1]; decide +kernel) (zcV_i2 X E 1 (As := [.ref q146]) (st := []) rfl rfl rfl rfl (c10_says3 G SF hS146 (by decide) Is18 JBYW_s18 JTKS_s18 (by first | exact oq_31bdcab7 ws18_4 ws18_2 ws15_4 ws15_2 ws12_4 ws12_2 ws9_4 ws9_2 ws6_4 ws6_2 p1 | omega)) rfl (Nat.le_of_ble_eq_true rfl) (fun s21 e22 Is21 Fs21 JBYW_s21 JTKS_s21 hrs21 hps21 => ?_))
            have Gs21 := fm_tq Gs18 Fs21 rfl rfl
            have JBYW_s21 : BYW B N s21 := BYW_fm Fs21 (by decide) JBYW_s18
            have JTKS_s21 : TKS B N s21 := TKS_fm Fs21 (by decide) JTKS_s18
            have ws21_2 : iI s21 2 = iI s18 2 := fm_iq Fs21 rfl
            have ws21_1 : iI s21 1 = iI s18 1 := fm_iq Fs21 rfl
            have ws21_4 : iI s21 4 = iI s18 4 := fm_iq Fs21 rfl
            have ws21_5 : iI s21 5 = iI s18 5 := fm_iq Fs21 rfl
            have ws21_6 : iI s21 6 = iI s18 6 := fm_iq Fs21 rfl
            have hws21 : (e22 = 1 ∧ whV B N (iI s 4) = 9176) ∨ (e22 = 0 ∧ whV B N (iI s 4) ≠ 9176) := by have h := hps21; rw [show iI s18 4 = iI s 4 by first | exact oq_469c7eaf ws18_4 ws15_4 ws12_4 ws9_4 ws6_4 | (clear hps21 hps18 hps15 hps12 hps9 hps6; omega) | (clear hps18 hps15 hps12 hps9 hps6; omega) | omega, show whL [108, 111, 119] 0 = 9176 by decide] at h; exact h
            refine z_if_eq X (t := 101) rfl rfl hrs21 (fun g23 => ?_) (fun g23 => ?_)
            ·
              refine z_aload_n X (x := A 19) rfl (List.Mem.head _) (s_getR X 19 rfl (c518_ok rfl) rfl rfl ?_)
              obtain ⟨tx148, q148, hR148, hS148⟩ := GT (148, [112, 105, 101, 99, 101, 115]) (by decide)
              refine w_ldcK X (show vk_R (kOwn k) 148 tx148 q148 (kS0 k) by rw [E.2.1, X.2.1.2.1]; exact hR148) (show decode (kCc k) 105 = .ok (.ldc 148, 2) by rw [X.2.1.1]; decide +kernel) (zcV_i2 X E 1 (As := [.ref q148]) (st := []) rfl rfl rfl rfl (c10_says3 G SF hS148 (by decide) Is21 JBYW_s21 JTKS_s21 (by first | exact oq_671a0eb2 ws21_4 ws21_2 ws18_4 ws18_2 ws15_4 ws15_2 ws12_4 ws12_2 ws9_4 ws9_2 ws6_4 ws6_2 p1 | omega)) rfl (Nat.le_of_ble_eq_true rfl) (fun s24 e25 Is24 Fs24 JBYW_s24 JTKS_s24 hrs24 hps24 => ?_))
              have Gs24 := fm_tq Gs21 Fs24 rfl rfl
              have JBYW_s24 : BYW B N s24 := BYW_fm Fs24 (by decide) JBYW_s21
              have JTKS_s24 : TKS B N s24 := TKS_fm Fs24 (by decide) JTKS_s21
              have ws24_2 : iI s24 2 = iI s21 2 := fm_iq Fs24 rfl
              have ws24_1 : iI s24 1 = iI s21 1 := fm_iq Fs24 rfl
              have ws24_4 : iI s24 4 = iI s21 4 := fm_iq Fs24 rfl
              have ws24_5 : iI s24 5 = iI s21 5 := fm_iq Fs24 rfl
              have ws24_6 : iI s24 6 = iI s21 6 := fm_iq Fs24 rfl
              have hws24 : (e25 = 1 ∧ whV B N (iI s 4) = 234466237) ∨ (e25 = 0 ∧ whV B N (iI s 4) ≠ 234466237) := by have h := hps24; rw [show iI s21 4 = iI s 4 by first | exact oq_4df13a51 ws21_4 ws18_4 ws15_4 ws12_4 ws9_4 ws6_4 | (clear hps24 hps21 hps18 hps15 hps12 hps9 hps6; omega) | (clear hps21 hps18 hps15 hps12 hps9 hps6; omega) | omega, show whL [112, 105, 101, 99, 101, 115] 0 = 234466237 by decide] at h; exact h
              refine z_if_eq X (t := 118) rfl rfl hrs24 (fun g26 => ?_) (fun g26 => ?_)
              ·
                refine z_bipush X rfl ?_
                exact w_iret X.1 q hRt rfl (ax_d X (show cdA 79 120 = some (.ireturn, 1, 0, 0, 0) from rfl)) (Nat.zero_le _) (Nat.zero_le _) ⟨_, rfl, Is24, Gs24, JBYW_s24, JTKS_s24, (-20), rfl, (by decide), Or.inl ⟨rfl, nmc_n (by first | exact oq_ad97cb82 g8 hws6 | (clear hps24 hps21 hps18 hps15 hps12 hps9 hps6; omega) | (clear hps21 hps18 hps15 hps12 hps9 hps6; omega) | omega) (by first | exact oq_a8c840ef g11 hws9 | (clear hps24 hps21 hps18 hps15 hps12 hps9 hps6; omega) | (clear hps21 hps18 hps15 hps12 hps9 hps6; omega) | omega) (by first | exact oq_d26081cf g14 hws12 | (clear hps24 hps21 hps18 hps15 hps12 hps9 hps6; omega) | (clear hps21 hps18 hps15 hps12 hps9 hps6; omega) | omega) (by first | exact oq_0184709e g17 hws15 | (clear hps24 hps21 hps18 hps15 hps12 hps9 hps6; omega) | (clear hps21 hps18 hps15 hps12 hps9 hps6; omega) | omega) (by first | exact oq_96dc29c9 g20 hws18 | (clear hps24 hps21 hps18 hps15 hps12 hps9 hps6; omega) | (clear hps21 hps18 hps15 hps12 hps9 hps6; omega) | omega) (by first | exact oq_b9048318 g23 hws21 | (clear hps24 hps21 hps18 hps15 hps12 hps9 hps6; omega) | (clear hps21 hps18 hps15 hps12 hps9 hps6; omega) | omega) (by first | exact oq_8c401242 g26 hws24 | (clear hps24 hps21 hps18 hps15 hps12 hps9 hps6; omega) | (clear hps21 hps18 hps15 hps12 hps9 hps6; omega) | omega)⟩⟩
              ·
                refine z_bipush X rfl (z_goto X (t := 120) rfl rfl ?_)
                exact w_iret X.1 q hRt rfl (ax_d X (show cdA 79 120 = some (.ireturn, 1, 0, 0, 0) from rfl)) (Nat.zero_le _) (Nat.zero_le _) ⟨_, rfl, Is24, Gs24, JBYW_s24, JTKS_s24, (-7), rfl, (by decide), Or.inr ⟨by decide, by decide, nmc_6 (by first | exact oq_fc187291 g26 hws24 | (clear g26 hps24 hps21 hps18 hps15 hps12 hps9 hps6; omega) | (clear hps24 hps21 hps18 hps15 hps12 hps9 hps6; omega) | omega)⟩⟩
            ·
              refine z_bipush X rfl (z_goto X (t := 120) rfl rfl ?_)
              exact w_iret X.1 q hRt rfl (ax_d X (show cdA 79 120 = some (.ireturn, 1, 0, 0, 0) from rfl)) (Nat.zero_le _) (Nat.zero_le _) ⟨_, rfl, Is21, Gs21, JBYW_s21, JTKS_s21, (-6), rfl, (by decide), Or.inr ⟨by decide, by decide, nmc_5 (by first | exact oq_5586e968 g23 hws21 | (clear g23 hps21 hps18 hps15 hps12 hps9 hps6; omega) | (clear hps21 hps18 hps15 hps12 hps9 hps6; omega) | omega)⟩⟩
          ·
            refine z_bipush X rfl (z_goto X (t := 120) rfl rfl ?_)
            exact w_iret X.1 q hRt rfl (ax_d X (show cdA 79 120 = some (.ireturn, 1, 0, 0, 0) from rfl)) (Nat.zero_le _) (Nat.zero_le _) ⟨_, rfl, Is18, Gs18, JBYW_s18, JTKS_s18, (-5), rfl, (by decide), Or.inr ⟨by decide, by decide, nmc_4 (by first | exact oq_2ceb8c71 g20 hws18 | (clear g20 hps18 hps15 hps12 hps9 hps6; omega) | (clear hps18 hps15 hps12 hps9 hps6; omega) | omega)⟩⟩
        ·
          refine z_bipush X rfl (z_goto X (t := 120) rfl rfl ?_)
          exact w_iret X.1 q hRt rfl (ax_d X (show cdA 79 120 = some (.ireturn, 1, 0, 0, 0) from rfl)) (Nat.zero_le _) (Nat.zero_le _) ⟨_, rfl, Is15, Gs15, JBYW_s15, JTKS_s15, (-4), rfl, (by decide), Or.inr ⟨by decide, by decide, nmc_3 (by first | exact oq_d1e4303c g17 hws15 | (clear g17 hps15 hps12 hps9 hps6; omega) | (clear hps15 hps12 hps9 hps6; omega) | omega)⟩⟩
      ·
        refine z_bipush X rfl (z_goto X (t := 120) rfl rfl ?_)
        exact w_iret X.1 q hRt rfl (ax_d X (show cdA 79 120 = some (.ireturn, 1, 0, 0, 0) from rfl)) (Nat.zero_le _) (Nat.zero_le _) ⟨_, rfl, Is12, Gs12, JBYW_s12, JTKS_s12, (-3), rfl, (by decide), Or.inr ⟨by decide, by decide, nmc_2 (by first | exact oq_73d0f93c g14 hws12 | (clear g14 hps12 hps9 hps6; omega) | (clear hps12 hps9 hps6; omega) | omega)⟩⟩
    ·
      refine z_bipush X rfl (z_goto X (t := 120) rfl rfl ?_)
      exact w_iret X.1 q hRt rfl (ax_d X (show cdA 79 120 = some (.ireturn, 1, 0, 0, 0) from rfl)) (Nat.zero_le _) (Nat.zero_le _) ⟨_, rfl, Is9, Gs9, JBYW_s9, JTKS_s9, (-2), rfl, (by decide), Or.inr ⟨by decide, by decide, nmc_1 (by first | exact oq_432de3fa g11 hws9 | (clear g11 hps9 hps6; omega) | (clear hps9 hps6; omega) | omega)⟩⟩
  ·
    refine z_const X rfl (z_goto X (t := 120) rfl rfl ?_)
    exact w_iret X.1 q hRt rfl (ax_d X (show cdA 79 120 = some (.ireturn, 1, 0, 0, 0) from rfl)) (Nat.zero_le _) (Nat.zero_le _) ⟨_, rfl, Is6, Gs6, JBYW_s6, JTKS_s6, (-1), rfl, (by decide), Or.inr ⟨by decide, by decide, nmc_0 (by first | exact oq_d072f72b g8 hws6 | (clear g8 hps6; omega) | (clear hps6; omega) | omega)⟩⟩
set_option maxRecDepth 4000 in
theorem c7_two03 (G : GX l s0 D tys a0 dT) {B : Nat → Int} {N : Int} (SF : SF0 s0) (GT : TXw0 s0) (I : Bd s) (jBYW : BYW B N s) (jTKS : TKS B N s) {x : Int} (p0 : (x = -13 ∧ whV B N (iI s 4) = 6476969) ∨ (x = -14 ∧ whV B N (iI s 4) = 267347)) (p1 : iI s 2 ≤ iI s 1) (p2 : iI s 4 ≤ iI s 2) (p3 : 6 - iI s 19 ≤ ((0 : Nat) : Int)) (p4 : iI s 16 ≤ iI s 4) : CT l s0 D A dT 78 (rkR (4 * (0))) [.ref (A 19), .int (Int32.ofInt x)] s (fun o t => Bd t ∧ Fm [2, 4, 6, 5, 7, 8, 19, 16] [18] s t ∧ BYW B N t ∧ TKS B N t ∧ ∃ e, o = .inl (some (.int (Int32.ofInt e))) ∧ rng e ∧ ((e = 0 ∨ (e = 1 ∧ iI t 19 = iI s 19 ∧ iI s 4 ≤ iI t 4 ∧ iI t 4 ≤ N ∧ iI t 16 + iI s 4 ≤ iI s 16 + iI t 4)) ∧ iI t 2 ≤ iI t 1 ∧ iI t 4 ≤ iI t 2 ∧ RDc B N 0 (iI s 4) (iI s 19) (DL s) t e)) := by
  refine ct_ofX G (by decide) (Nat.le_of_ble_eq_true rfl) (fun k X E ET hRt hXt q => ?_)
  show WS k 0 [(0, .ref (A 19)), (1, .int (Int32.ofInt x))] [] _ 0 0
  have F : Fm [2, 4, 6, 5, 7, 8, 19, 16] [18] s s := fm_rf _ _ s
  have hN := jBYW.2.1
  have hW := jBYW.2.2
  have hdg := tkw_dg jTKS
  have hwd := tkw_wd jTKS
  have hwl : whV B N (iI s 4) = 6476969 ∨ whV B N (iI s 4) = 267347 := by first | exact oq_8d31f6d5 p0 | (clear p0; omega) | omega
  have hnc := wh_no hwl
  have hk3 : iI s 5 = -3 := Classical.byContradiction (fun q => by have := hwd.2 q; omega)
  have hnd := hdg.2 (by first | exact oq_cd169699 hk3 | (clear p0; omega) | omega)
  have b1 := bi_2 I
  have b2 := bi_1 I
  have b3 := bi_4 I
  have b4 := bi_5 I
  have b5 := bi_6 I
  have b6 := bi_19 I
  have b7 := bi_16 I
  have b8 := bi_7 I
  refine z_aload_n X (x := A 19) rfl (List.Mem.head _) (s_getR X 19 rfl (c518_ok rfl) rfl rfl (z_callV X 1 (rm := rmN 129) (As := []) (st := []) rfl rfl (by decide) rfl (by rw [E.1, E.2.1, E.2.2.1]; exact c10_step3 G I jBYW (by first | exact p1 | omega)) ⟨by rw [E.2.2.2]; exact (show 7 + 1 ≤ (12 + (4 * (0))) from oq_e494e03c), by rw [E.2.2.2]; exact (show 8 + (1 + 11) + 121 ≤ (500 + 45 * (4 * (0))) from oq_635cae36), by rw [E.2.2.2]; exact Nat.le_refl 0, by rw [E.2.2.2]; exact Nat.le_refl 0⟩ (Nat.le_of_ble_eq_true rfl) (fun vv s9 hq => ?_) (fun ee s9 hq => ?_)))
  rotate_left
  · obtain ⟨Is9, Fs9, JBYW_s9, JTKS_s9, hv, hps9⟩ := hq; cases hv
  obtain ⟨Is9, Fs9, JBYW_s9, JTKS_s9, hv, hps9⟩ := hq
  cases hv
  have Gs9 := fm_tq F Fs9 rfl rfl
  have JBYW_s9 : BYW B N s9 := BYW_fm Fs9 (by decide) jBYW
  have b11 := bi_2 Is9
  have ws9_1 : iI s9 1 = iI s 1 := fm_iq Fs9 rfl
  have b12 := bi_4 Is9
  have b13 := bi_5 Is9
  have b14 := bi_6 Is9
  have ws9_19 : iI s9 19 = iI s 19 := fm_iq Fs9 rfl
  have ws9_16 : iI s9 16 = iI s 16 := fm_iq Fs9 rfl
  have ws9_7 : iI s9 7 = iI s 7 := fm_iq Fs9 rfl
  have dls9 : DL s9 = DL s := (DL_fm Fs9 (by decide) (by decide)).trans rfl
  show WS k 7 [(0, .ref (A 19)), (1, .int (Int32.ofInt x))] [] (Wd A dT s9) 0 0
  have hs1 : iI s9 4 = sk B N (wdE B N (iI s 4)) := by rw [hps9.2.2.1, show iI s 2 = wdE B N (iI s 4) by have := (hwd.1 (by first | exact hk3 | (clear p0; omega) | omega)).1; omega]
  have hc1 := tkw_ch (x := 40) JTKS_s9 (by decide) (by decide) (by decide)
  rw [hs1] at hc1
  refine z_aload_n X (x := A 19) rfl (List.Mem.head _) (s_getR X 19 rfl (c518_ok rfl) rfl rfl (z_getI X 1 rfl (c518_ok rfl) rfl rfl ?_))
  have b15 := bi_5 Is9
  refine z_bipush X rfl (z_icmp_eq X (t := 28) rfl rfl (rng_to _) (by decide) (fun g16 => ?_) (fun g16 => ?_))
  ·
    have hC := (hc1.1 (by first | exact g16 | (clear p0; omega) | omega)).1
    have ha1 := (hc1.1 (by first | exact g16 | (clear p0; omega) | omega)).2
    refine z_aload_n X (x := A 19) rfl (List.Mem.head _) (z_callV X 19 (rm := rmN 80) (As := []) (st := []) rfl rfl (by decide) rfl (by rw [E.1, E.2.1, E.2.2.1]; exact c7_enter3 G Is9 JBYW_s9 JTKS_s9 (by first | exact hps9.1 | omega) (by first | exact hps9.2.1 | omega)) ⟨by rw [E.2.2.2]; exact (show 8 + 1 ≤ (12 + (4 * (0))) from oq_f7912654), by rw [E.2.2.2]; exact (show 8 + (1 + 11) + 143 ≤ (500 + 45 * (4 * (0))) from oq_8994f6bd), by rw [E.2.2.2]; exact Nat.le_refl 0, by rw [E.2.2.2]; exact Nat.le_refl 0⟩ (Nat.le_of_ble_eq_true rfl) (fun vv s17 hq => ?_) (fun ee s17 hq => ?_))
    rotate_left
    · obtain ⟨Is17, Fs17, JBYW_s17, JTKS_s17, e18, hv, hrs17, hps17⟩ := hq; cases hv
    obtain ⟨Is17, Fs17, JBYW_s17, JTKS_s17, e18, hv, hrs17, hps17⟩ := hq
    have hps17p := And.intro hps17.2.1 (hps17.2.2)
    cases hv
    have Gs17 := fm_tq Gs9 Fs17 rfl rfl
    have JBYW_s17 : BYW B N s17 := BYW_fm Fs17 (by decide) JBYW_s9
    have b19 := bi_2 Is17
    have ws17_1 : iI s17 1 = iI s9 1 := fm_iq Fs17 rfl
    have b20 := bi_4 Is17
    have b21 := bi_5 Is17
    have b22 := bi_6 Is17
    have b23 := bi_19 Is17
    have ws17_16 : iI s17 16 = iI s9 16 := fm_iq Fs17 rfl
    have b24 := bi_7 Is17
    have dls17 : DL s17 = DL s := (DL_fm Fs17 (by decide) (by decide)).trans dls9
    show WS k 32 [(0, .ref (A 19)), (1, .int (Int32.ofInt x))] [.int (Int32.ofInt e18)] (Wd A dT s17) 0 0
    refine z_if_eq X (t := 67) rfl rfl hrs17 (fun g25 => ?_) (fun g25 => ?_)
    ·
      refine z_const X rfl ?_
      have hRD : RDc B N 0 (iI s 4) (iI s 19) (DL s) s17 0 := rd_no (pu_t3 hnd hnc hwl hC (by first | exact oq_773678d9 p3 | (clear hps17 p0; omega) | (clear p0; omega) | omega)) (by decide) (by first | exact oq_f447e429 g25 hps17.1 | (clear hps17 p0; omega) | (clear p0; omega) | omega)
      exact w_iret X.1 q hRt (nar_ret (by first | exact Or.inl (by decide) | omega)) (ax_d X (show cdA 78 68 = some (.ireturn, 1, 0, 0, 0) from rfl)) (Nat.zero_le _) (Nat.zero_le _) ⟨_, rfl, Is17, Gs17, JBYW_s17, JTKS_s17, 0, rfl, (by decide), ⟨rd_post hRD rfl (by first | exact oq_4547f4f6 hN p2 p1 | (clear hps17 p0; omega) | (clear p0; omega) | omega) (by first | exact b7.1 | omega) (by first | exact oq_0f93fca7 ws17_16 ws9_16 b7.1 | omega) (fun h9 => absurd rfl h9), by first | exact hps17.2.1 | omega, by first | exact hps17.2.2 | omega, hRD⟩⟩
    ·
      exfalso
      omega
  ·
    refine z_aload_n X (x := A 19) rfl (List.Mem.head _) (s_getR X 19 rfl (c518_ok rfl) rfl rfl (z_const X rfl (z_callV X 1 (rm := rmN 132) (As := [.int (Int32.ofInt 1)]) (st := []) rfl rfl (by decide) rfl (by rw [E.1, E.2.1, E.2.2.1]; exact c10_refuse3 G Is9 (by first | exact ⟨by decide, by decide⟩ | omega)) ⟨by rw [E.2.2.2]; exact (show 7 + 1 ≤ (12 + (4 * (0))) from oq_e494e03c), by rw [E.2.2.2]; exact (show 8 + (2 + 11) + 122 ≤ (500 + 45 * (4 * (0))) from oq_812388c8), by rw [E.2.2.2]; exact Nat.le_refl 0, by rw [E.2.2.2]; exact Nat.le_refl 0⟩ (Nat.le_of_ble_eq_true rfl) (fun vv s26 hq => ?_) (fun ee s26 hq => ?_))))
    rotate_left
    · obtain ⟨Is26, Fs26, e27, hv, hrs26, hps26⟩ := hq; cases hv
    obtain ⟨Is26, Fs26, e27, hv, hrs26, hps26⟩ := hq
    cases hv
    have Gs26 := fm_tq Gs9 Fs26 rfl rfl
    have JBYW_s26 : BYW B N s26 := BYW_fm Fs26 (by decide) JBYW_s9
    have JTKS_s26 : TKS B N s26 := TKS_fm Fs26 (by decide) JTKS_s9
    have ws26_2 : iI s26 2 = iI s9 2 := fm_iq Fs26 rfl
    have ws26_1 : iI s26 1 = iI s9 1 := fm_iq Fs26 rfl
    have ws26_4 : iI s26 4 = iI s9 4 := fm_iq Fs26 rfl
    have ws26_5 : iI s26 5 = iI s9 5 := fm_iq Fs26 rfl
    have ws26_6 : iI s26 6 = iI s9 6 := fm_iq Fs26 rfl
    have ws26_19 : iI s26 19 = iI s9 19 := fm_iq Fs26 rfl
    have ws26_16 : iI s26 16 = iI s9 16 := fm_iq Fs26 rfl
    have b28 := bi_7 Is26
    have dls26 : DL s26 = DL s := (DL_fm Fs26 (by decide) (by decide)).trans dls9
    show WS k 27 [(0, .ref (A 19)), (1, .int (Int32.ofInt x))] [.int (Int32.ofInt e27)] (Wd A dT s26) 0 0
    have hRD : RDc B N 0 (iI s 4) (iI s 19) (DL s) s26 e27 := by rw [show e27 = 0 by first | exact hps26.1 | (clear g16 p0; omega) | (clear p0; omega) | omega]; exact rd_no (pu_t1 hnd hnc hwl (hc1.2 (by first | exact g16 | (clear g16 p0; omega) | (clear p0; omega) | omega))) (by decide) (by first | exact hps26.2 | (clear g16 p0; omega) | (clear p0; omega) | omega)
    exact w_iret X.1 q hRt (nar_ret (by first | exact Or.inl (hps26.1) | omega)) (ax_d X (show cdA 78 27 = some (.ireturn, 1, 0, 0, 0) from rfl)) (Nat.zero_le _) (Nat.zero_le _) ⟨_, rfl, Is26, Gs26, JBYW_s26, JTKS_s26, e27, rfl, hrs26, ⟨rd_post hRD rfl (by first | exact oq_4547f4f6 hN p2 p1 | (clear g16 p0; omega) | (clear p0; omega) | omega) (by first | exact b7.1 | omega) (by first | exact oq_0f93fca7 ws26_16 ws9_16 b7.1 | omega) (fun h9 => by first | exact oq_1aa5be9e ws26_19 ws9_19 | omega), by first | exact oq_e7b9ecab ws26_1 ws26_2 hps9.1 | omega, by first | exact oq_e7b9ecab ws26_2 ws26_4 hps9.2.1 | omega, hRD⟩⟩
set_option maxRecDepth 4000 in
theorem c7_twoS3 (G : GX l s0 D tys a0 dT) {B : Nat → Int} {N : Int} (SF : SF0 s0) (GT : TXw0 s0) {r : Nat} (hS : ∀ {s : PS} , Bd s → BYW B N s → TKS B N s → (iI s 2 ≤ iI s 1) → (iI s 4 ≤ iI s 2) → (6 - iI s 19 ≤ ((r : Nat) : Int)) → (iI s 16 ≤ iI s 4) → CT l s0 D A dT 75 (rkR (4 * (r) + 3)) [.ref (A 19)] s (fun o t => Bd t ∧ Fm [2, 4, 6, 5, 7, 8, 19, 16] [18] s t ∧ BYW B N t ∧ TKS B N t ∧ ∃ e, o = .inl (some (.int (Int32.ofInt e))) ∧ rng e ∧ ((e = 0 ∨ (e = 1 ∧ iI t 19 = iI s 19 ∧ iI s 4 ≤ iI t 4 ∧ iI t 4 ≤ N ∧ iI t 16 + iI s 4 ≤ iI s 16 + iI t 4)) ∧ iI t 2 ≤ iI t 1 ∧ iI t 4 ≤ iI t 2 ∧ RDc B N 3 (iI s 4) (iI s 19) (DL s) t e))) (I : Bd s) (jBYW : BYW B N s) (jTKS : TKS B N s) {x : Int} (p0 : (x = -13 ∧ whV B N (iI s 4) = 6476969) ∨ (x = -14 ∧ whV B N (iI s 4) = 267347)) (p1 : iI s 2 ≤ iI s 1) (p2 : iI s 4 ≤ iI s 2) (p3 : 6 - iI s 19 ≤ ((r + 1 : Nat) : Int)) (p4 : iI s 16 ≤ iI s 4) : CT l s0 D A dT 78 (rkR (4 * (r + 1))) [.ref (A 19), .int (Int32.ofInt x)] s (fun o t => Bd t ∧ Fm [2, 4, 6, 5, 7, 8, 19, 16] [18] s t ∧ BYW B N t ∧ TKS B N t ∧ ∃ e, o = .inl (some (.int (Int32.ofInt e))) ∧ rng e ∧ ((e = 0 ∨ (e = 1 ∧ iI t 19 = iI s 19 ∧ iI s 4 ≤ iI t 4 ∧ iI t 4 ≤ N ∧ iI t 16 + iI s 4 ≤ iI s 16 + iI t 4)) ∧ iI t 2 ≤ iI t 1 ∧ iI t 4 ≤ iI t 2 ∧ RDc B N 0 (iI s 4) (iI s 19) (DL s) t e)) := by
  refine ct_ofX G (by decide) (Nat.le_of_ble_eq_true rfl) (fun k X E ET hRt hXt q => ?_)
  show WS k 0 [(0, .ref (A 19)), (1, .int (Int32.ofInt x))] [] _ 0 0
  have F : Fm [2, 4, 6, 5, 7, 8, 19, 16] [18] s s := fm_rf _ _ s
  have hN := jBYW.2.1
  have hW := jBYW.2.2
  have hdg := tkw_dg jTKS
  have hwd := tkw_wd jTKS
  have hwl : whV B N (iI s 4) = 6476969 ∨ whV B N (iI s 4) = 267347 := by first | exact oq_8d31f6d5 p0 | (clear p0; omega) | omega
  have hnc := wh_no hwl
  have hk3 : iI s 5 = -3 := Classical.byContradiction (fun q => by have := hwd.2 q; omega)
  have hnd := hdg.2 (by first | exact oq_cd169699 hk3 | (clear p0; omega) | omega)
  have b1 := bi_2 I
  have b2 := bi_1 I
  have b3 := bi_4 I
  have b4 := bi_5 I
  have b5 := bi_6 I
  have b6 := bi_19 I
  have b7 := bi_16 I
  have b8 := bi_7 I
  refine z_aload_n X (x := A 19) rfl (List.Mem.head _) (s_getR X 19 rfl (c518_ok rfl) rfl rfl (z_callV X 1 (rm := rmN 129) (As := []) (st := []) rfl rfl (by decide) rfl (by rw [E.1, E.2.1, E.2.2.1]; exact c10_step3 G I jBYW (by first | exact p1 | omega)) ⟨by rw [E.2.2.2]; exact (show 7 + 1 ≤ (12 + (4 * (r + 1))) from oq_e86a2d6a r), by rw [E.2.2.2]; exact (show 8 + (1 + 11) + 121 ≤ (500 + 45 * (4 * (r + 1))) from oq_9756868e r), by rw [E.2.2.2]; exact Nat.le_refl 0, by rw [E.2.2.2]; exact Nat.le_refl 0⟩ (Nat.le_of_ble_eq_true rfl) (fun vv s9 hq => ?_) (fun ee s9 hq => ?_)))
  rotate_left
  · obtain ⟨Is9, Fs9, JBYW_s9, JTKS_s9, hv, hps9⟩ := hq; cases hv
  obtain ⟨Is9, Fs9, JBYW_s9, JTKS_s9, hv, hps9⟩ := hq
  cases hv
  have Gs9 := fm_tq F Fs9 rfl rfl
  have JBYW_s9 : BYW B N s9 := BYW_fm Fs9 (by decide) jBYW
  have b11 := bi_2 Is9
  have ws9_1 : iI s9 1 = iI s 1 := fm_iq Fs9 rfl
  have b12 := bi_4 Is9
  have b13 := bi_5 Is9
  have b14 := bi_6 Is9
  have ws9_19 : iI s9 19 = iI s 19 := fm_iq Fs9 rfl
  have ws9_16 : iI s9 16 = iI s 16 := fm_iq Fs9 rfl
  have ws9_7 : iI s9 7 = iI s 7 := fm_iq Fs9 rfl
  have dls9 : DL s9 = DL s := (DL_fm Fs9 (by decide) (by decide)).trans rfl
  show WS k 7 [(0, .ref (A 19)), (1, .int (Int32.ofInt x))] [] (Wd A dT s9) 0 0
  have hs1 : iI s9 4 = sk B N (wdE B N (iI s 4)) := by rw [hps9.2.2.1, show iI s 2 = wdE B N (iI s 4) by have := (hwd.1 (by first | exact hk3 | (clear p0; omega) | omega)).1; omega]
  have hc1 := tkw_ch (x := 40) JTKS_s9 (by decide) (by decide) (by decide)
  rw [hs1] at hc1
  refine z_aload_n X (x := A 19) rfl (List.Mem.head _) (s_getR X 19 rfl (c518_ok rfl) rfl rfl (z_getI X 1 rfl (c518_ok rfl) rfl rfl ?_))
  have b15 := bi_5 Is9
  refine z_bipush X rfl (z_icmp_eq X (t := 28) rfl rfl (rng_to _) (by decide) (fun g16 => ?_) (fun g16 => ?_))
  ·
    have hC := (hc1.1 (by first | exact g16 | (clear p0; omega) | omega)).1
    have ha1 := (hc1.1 (by first | exact g16 | (clear p0; omega) | omega)).2
    refine z_aload_n X (x := A 19) rfl (List.Mem.head _) (z_callV X 19 (rm := rmN 80) (As := []) (st := []) rfl rfl (by decide) rfl (by rw [E.1, E.2.1, E.2.2.1]; exact c7_enter3 G Is9 JBYW_s9 JTKS_s9 (by first | exact hps9.1 | omega) (by first | exact hps9.2.1 | omega)) ⟨by rw [E.2.2.2]; exact (show 8 + 1 ≤ (12 + (4 * (r + 1))) from oq_b3b61940 r), by rw [E.2.2.2]; exact (show 8 + (1 + 11) + 143 ≤ (500 + 45 * (4 * (r + 1))) from oq_5e0a067b r), by rw [E.2.2.2]; exact Nat.le_refl 0, by rw [E.2.2.2]; exact Nat.le_refl 0⟩ (Nat.le_of_ble_eq_true rfl) (fun vv s17 hq => ?_) (fun ee s17 hq => ?_))
    rotate_left
    · obtain ⟨Is17, Fs17, JBYW_s17, JTKS_s17, e18, hv, hrs17, hps17⟩ := hq; cases hv
    obtain ⟨Is17, Fs17, JBYW_s17, JTKS_s17, e18, hv, hrs17, hps17⟩ := hq
    have hps17p := And.intro hps17.2.1 (hps17.2.2)
    cases hv
    have Gs17 := fm_tq Gs9 Fs17 rfl rfl
    have JBYW_s17 : BYW B N s17 := BYW_fm Fs17 (by decide) JBYW_s9
    have b19 := bi_2 Is17
    have ws17_1 : iI s17 1 = iI s9 1 := fm_iq Fs17 rfl
    have b20 := bi_4 Is17
    have b21 := bi_5 Is17
    have b22 := bi_6 Is17
    have b23 := bi_19 Is17
    have ws17_16 : iI s17 16 = iI s9 16 := fm_iq Fs17 rfl
    have b24 := bi_7 Is17
    have dls17 : DL s17 = DL s := (DL_fm Fs17 (by decide) (by decide)).trans dls9
    show WS k 32 [(0, .ref (A 19)), (1, .int (Int32.ofInt x))] [.int (Int32.ofInt e18)] (Wd A dT s17) 0 0
    refine z_if_eq X (t := 67) rfl rfl hrs17 (fun g25 => ?_) (fun g25 => ?_)
    ·
      refine z_const X rfl ?_
      have hRD : RDc B N 0 (iI s 4) (iI s 19) (DL s) s17 0 := rd_no (pu_t3 hnd hnc hwl hC (by first | exact oq_39ccb767 g25 hps17.1 ws9_19 | (clear hps17 p0; omega) | (clear p0; omega) | omega)) (by decide) (by first | exact oq_f447e429 g25 hps17.1 | (clear hps17 p0; omega) | (clear p0; omega) | omega)
      exact w_iret X.1 q hRt (nar_ret (by first | exact Or.inl (by decide) | omega)) (ax_d X (show cdA 78 68 = some (.ireturn, 1, 0, 0, 0) from rfl)) (Nat.zero_le _) (Nat.zero_le _) ⟨_, rfl, Is17, Gs17, JBYW_s17, JTKS_s17, 0, rfl, (by decide), ⟨rd_post hRD rfl (by first | exact oq_4547f4f6 hN p2 p1 | (clear hps17 p0; omega) | (clear p0; omega) | omega) (by first | exact b7.1 | omega) (by first | exact oq_0f93fca7 ws17_16 ws9_16 b7.1 | omega) (fun h9 => absurd rfl h9), by first | exact hps17.2.1 | omega, by first | exact hps17.2.2 | omega, hRD⟩⟩
    ·
      have hs2 : iI s17 4 = sk B N (sk B N (wdE B N (iI s 4)) + 1) := by exact Or.elim hps17.1 (fun q => by first | exact oq_b6b913de q.1 g25 | (clear g25 hps17 p0; omega) | (clear hps17 p0; omega) | omega) (fun q => by rw [q.2.2.2.1, show iI s9 2 = sk B N (wdE B N (iI s 4)) + 1 by first | exact ha1 | (clear g25 hps17 p0; omega) | (clear hps17 p0; omega) | omega])
      refine z_aload_n X (x := A 19) rfl (List.Mem.head _) (z_callV X 19 (rm := (rkR (4 * (r) + 3))) (As := []) (st := []) rfl rfl (by decide) rfl (by rw [E.1, E.2.1, E.2.2.1]; exact hS Is17 JBYW_s17 JTKS_s17 (by first | exact hps17.2.1 | omega) (by first | exact hps17.2.2 | omega) (by first | exact oq_72a45466 g25 hps17.1 ws9_19 p3 | omega) (by first | exact oq_8ca3b03a g25 ws17_16 hps17.1 ws9_16 hps9.2.2.2 hps9.2.1 p4 p2 | omega)) ⟨by rw [E.2.2.2]; exact (show (12 + (4 * (r) + 3)) + 1 ≤ (12 + (4 * (r + 1))) from oq_cba25b15 r), by rw [E.2.2.2]; exact (show 8 + (3 + 11) + (500 + 45 * (4 * (r) + 3)) ≤ (500 + 45 * (4 * (r + 1))) from oq_42f07b36 r), by rw [E.2.2.2]; exact Nat.le_refl 0, by rw [E.2.2.2]; exact Nat.le_refl 0⟩ (Nat.le_of_ble_eq_true rfl) (fun vv s26 hq => ?_) (fun ee s26 hq => ?_))
      rotate_left
      · obtain ⟨Is26, Fs26, JBYW_s26, JTKS_s26, e27, hv, hrs26, hps26⟩ := hq; cases hv
      obtain ⟨Is26, Fs26, JBYW_s26, JTKS_s26, e27, hv, hrs26, hps26⟩ := hq
      have hps26p := And.intro hps26.2.1 (And.intro hps26.2.2.1 (hps26.2.2.2))
      cases hv
      have Gs26 := fm_tq Gs17 Fs26 rfl rfl
      have JBYW_s26 : BYW B N s26 := BYW_fm Fs26 (by decide) JBYW_s17
      have b28 := bi_2 Is26
      have ws26_1 : iI s26 1 = iI s17 1 := fm_iq Fs26 rfl
      have b29 := bi_4 Is26
      have b30 := bi_5 Is26
      have b31 := bi_6 Is26
      have b32 := bi_19 Is26
      have b33 := bi_16 Is26
      have b34 := bi_7 Is26
      show WS k 39 [(0, .ref (A 19)), (1, .int (Int32.ofInt x))] [.int (Int32.ofInt e27)] (Wd A dT s26) 0 0
      refine z_if_eq X (t := 67) rfl rfl hrs26 (fun g35 => ?_) (fun g35 => ?_)
      ·
        refine z_const X rfl ?_
        have hRD : RDc B N 0 (iI s 4) (iI s 19) (DL s) s26 0 := rd_bad (by have h := hps26.2.2.2; rw [show iI s17 4 = sk B N ((sk B N (wdE B N (iI s 4))) + 1) by first | exact hs2 | omega, show iI s17 19 = iI s 19 + 1 by first | exact oq_60a36124 g25 hps17.1 ws9_19 | omega] at h; exact h) (by first | exact g35 | (clear hps26 g25 hps17 p0; omega) | (clear g25 hps17 p0; omega) | omega) (by first | exact rfl | (clear hps26 g25 hps17 p0; omega) | (clear g25 hps17 p0; omega) | omega) (fun r h z => pu_tb hnd hnc hwl hC (by first | exact oq_8c6baba9 g25 hps17.1 ws9_19 | (clear hps26 g25 hps17 p0; omega) | (clear g25 hps17 p0; omega) | omega) h z)
        exact w_iret X.1 q hRt (nar_ret (by first | exact Or.inl (by decide) | omega)) (ax_d X (show cdA 78 68 = some (.ireturn, 1, 0, 0, 0) from rfl)) (Nat.zero_le _) (Nat.zero_le _) ⟨_, rfl, Is26, Gs26, JBYW_s26, JTKS_s26, 0, rfl, (by decide), ⟨rd_post hRD rfl (by first | exact oq_4547f4f6 hN p2 p1 | (clear hps26 g25 hps17 p0; omega) | (clear g25 hps17 p0; omega) | omega) (by first | exact b7.1 | omega) (by first | exact b33.1 | omega) (fun h9 => absurd rfl h9), by first | exact hps26.2.1 | omega, by first | exact hps26.2.2.1 | omega, hRD⟩⟩
      ·
        refine z_aload_n X (x := A 19) rfl (List.Mem.head _) (z_bipush X rfl (z_callV X 19 (rm := rmN 81) (As := [.int (Int32.ofInt 44)]) (st := []) rfl rfl (by decide) rfl (by rw [E.1, E.2.1, E.2.2.1]; exact c7_pass3 G Is26 JBYW_s26 JTKS_s26 (by first | exact ⟨by decide, by decide⟩ | omega) (by first | exact Or.inl (by decide) | omega) (by first | exact Or.inl (by decide) | omega) (by first | exact hps26.2.1 | omega) (by first | exact hps26.2.2.1 | omega)) ⟨by rw [E.2.2.2]; exact (show 8 + 1 ≤ (12 + (4 * (r + 1))) from oq_b3b61940 r), by rw [E.2.2.2]; exact (show 8 + (2 + 11) + 143 ≤ (500 + 45 * (4 * (r + 1))) from oq_035df8d4 r), by rw [E.2.2.2]; exact Nat.le_refl 0, by rw [E.2.2.2]; exact Nat.le_refl 0⟩ (Nat.le_of_ble_eq_true rfl) (fun vv s36 hq => ?_) (fun ee s36 hq => ?_)))
        rotate_left
        · obtain ⟨Is36, Fs36, JBYW_s36, JTKS_s36, e37, hv, hrs36, hps36⟩ := hq; cases hv
        obtain ⟨Is36, Fs36, JBYW_s36, JTKS_s36, e37, hv, hrs36, hps36⟩ := hq
        have hps36p := And.intro hps36.2.1 (And.intro hps36.2.2.1 (hps36.2.2.2))
        cases hv
        have Gs36 := fm_tq Gs26 Fs36 rfl rfl
        have JBYW_s36 : BYW B N s36 := BYW_fm Fs36 (by decide) JBYW_s26
        have b38 := bi_2 Is36
        have ws36_1 : iI s36 1 = iI s26 1 := fm_iq Fs36 rfl
        have b39 := bi_4 Is36
        have b40 := bi_5 Is36
        have b41 := bi_6 Is36
        have ws36_19 : iI s36 19 = iI s26 19 := fm_iq Fs36 rfl
        have ws36_16 : iI s36 16 = iI s26 16 := fm_iq Fs36 rfl
        have b42 := bi_7 Is36
        have dls36 : DL s36 = DL s26 := (DL_fm Fs36 (by decide) (by decide)).trans rfl
        show WS k 48 [(0, .ref (A 19)), (1, .int (Int32.ofInt x))] [.int (Int32.ofInt e37)] (Wd A dT s36) 0 0
        refine z_if_eq X (t := 67) rfl rfl hrs36 (fun g43 => ?_) (fun g43 => ?_)
        ·
          refine z_const X rfl ?_
          have hRD : RDc B N 0 (iI s 4) (iI s 19) (DL s) s36 0 := rd_tn hnd hnc hwl hC (by first | exact oq_8c6baba9 g25 hps17.1 ws9_19 | (clear hps36 g35 hps26 g25 hps17 p0; omega) | (clear g35 hps26 g25 hps17 p0; omega) | omega) (by have h := hps26.2.2.2; rw [show iI s17 4 = sk B N ((sk B N (wdE B N (iI s 4))) + 1) by first | exact hs2 | omega, show iI s17 19 = iI s 19 + 1 by first | exact oq_60a36124 g25 hps17.1 ws9_19 | omega] at h; exact h) (by first | exact g35 | (clear hps36 g35 hps26 g25 hps17 p0; omega) | (clear g35 hps26 g25 hps17 p0; omega) | omega) (by exact Or.elim hps36.2.2.2 (fun q => by first | (clear hps36 g35 hps26 g25 hps17 p0; omega) | (clear g35 hps26 g25 hps17 p0; omega) | omega) (fun q => by exact q.2.1)) (by exact Or.elim hps36.2.2.2 (fun q => by first | exact oq_c513eb87 q.1 g43 | (clear hps36 g35 hps26 g25 hps17 p0; omega) | (clear g35 hps26 g25 hps17 p0; omega) | omega) (fun q => by rw [show iI s36 7 = iI s36 7 by first | exact rfl | (clear hps36 g35 hps26 g25 hps17 p0; omega) | (clear g35 hps26 g25 hps17 p0; omega) | omega]; exact q.2.2))
          exact w_iret X.1 q hRt (nar_ret (by first | exact Or.inl (by decide) | omega)) (ax_d X (show cdA 78 68 = some (.ireturn, 1, 0, 0, 0) from rfl)) (Nat.zero_le _) (Nat.zero_le _) ⟨_, rfl, Is36, Gs36, JBYW_s36, JTKS_s36, 0, rfl, (by decide), ⟨rd_post hRD rfl (by first | exact oq_1f39b54f g35 hps26.1 g25 hps17.1 hps9.2.2.2 hps9.2.1 p2 | omega) (by first | exact b7.1 | omega) (by first | exact oq_e4757433 ws36_16 b33.1 | omega) (fun h9 => absurd rfl h9), by first | exact hps36.2.1 | omega, by first | exact hps36.2.2.1 | omega, hRD⟩⟩
        ·
          refine z_aload_n X (x := A 19) rfl (List.Mem.head _) (z_callV X 19 (rm := (rkR (4 * (r) + 3))) (As := []) (st := []) rfl rfl (by decide) rfl (by rw [E.1, E.2.1, E.2.2.1]; exact hS Is36 JBYW_s36 JTKS_s36 (by first | exact hps36.2.1 | omega) (by first | exact hps36.2.2.1 | omega) (by first | exact oq_b1cec700 ws36_19 g35 hps26.1 g25 hps17.1 ws9_19 p3 | omega) (by first | exact oq_6e17e74f g43 ws36_16 hps36.1 g35 hps26.1 g25 ws17_16 hps17.1 ws9_16 hps9.2.2.2 hps9.2.1 p4 p2 | omega)) ⟨by rw [E.2.2.2]; exact (show (12 + (4 * (r) + 3)) + 1 ≤ (12 + (4 * (r + 1))) from oq_cba25b15 r), by rw [E.2.2.2]; exact (show 8 + (3 + 11) + (500 + 45 * (4 * (r) + 3)) ≤ (500 + 45 * (4 * (r + 1))) from oq_42f07b36 r), by rw [E.2.2.2]; exact Nat.le_refl 0, by rw [E.2.2.2]; exact Nat.le_refl 0⟩ (Nat.le_of_ble_eq_true rfl) (fun vv s44 hq => ?_) (fun ee s44 hq => ?_))
          rotate_left
          · obtain ⟨Is44, Fs44, JBYW_s44, JTKS_s44, e45, hv, hrs44, hps44⟩ := hq; cases hv
          obtain ⟨Is44, Fs44, JBYW_s44, JTKS_s44, e45, hv, hrs44, hps44⟩ := hq
          have hps44p := And.intro hps44.2.1 (And.intro hps44.2.2.1 (hps44.2.2.2))
          cases hv
          have Gs44 := fm_tq Gs36 Fs44 rfl rfl
          have JBYW_s44 : BYW B N s44 := BYW_fm Fs44 (by decide) JBYW_s36
          have b46 := bi_2 Is44
          have ws44_1 : iI s44 1 = iI s36 1 := fm_iq Fs44 rfl
          have b47 := bi_4 Is44
          have b48 := bi_5 Is44
          have b49 := bi_6 Is44
          have b50 := bi_19 Is44
          have b51 := bi_16 Is44
          have b52 := bi_7 Is44
          show WS k 55 [(0, .ref (A 19)), (1, .int (Int32.ofInt x))] [.int (Int32.ofInt e45)] (Wd A dT s44) 0 0
          refine z_if_eq X (t := 67) rfl rfl hrs44 (fun g53 => ?_) (fun g53 => ?_)
          ·
            refine z_const X rfl ?_
            have hRD : RDc B N 0 (iI s 4) (iI s 19) (DL s) s44 0 := rd_t2 (x := (if whV B N (iI s 4) = 6476969 then -13 else -14)) (y := s44) hnd hnc hwl hC (by first | exact oq_8c6baba9 g25 hps17.1 ws9_19 | (clear hps44 g43 hps36 g35 hps26 g25 hps17 p0; omega) | (clear g43 hps36 g35 hps26 g25 hps17 p0; omega) | omega) (by have h := hps26.2.2.2; rw [show iI s17 4 = sk B N ((sk B N (wdE B N (iI s 4))) + 1) by first | exact hs2 | omega, show iI s17 19 = iI s 19 + 1 by first | exact oq_60a36124 g25 hps17.1 ws9_19 | omega] at h; exact h) (dls17) (by first | exact g35 | (clear hps44 g43 hps36 g35 hps26 g25 hps17 p0; omega) | (clear g43 hps36 g35 hps26 g25 hps17 p0; omega) | omega) (by exact Or.elim hps36.2.2.2 (fun q => by exact q.2.1) (fun q => by first | (clear hps44 g43 hps36 g35 hps26 g25 hps17 p0; omega) | (clear g43 hps36 g35 hps26 g25 hps17 p0; omega) | omega)) (by have h := hps44.2.2.2; rw [show iI s36 4 = sk B N (iI s26 4 + 1) by exact Or.elim hps36.2.2.2 (fun q => by rw [show iI s36 4 = iI s36 4 by first | exact rfl | (clear hps44 g43 hps36 g35 hps26 g25 hps17 p0; omega) | (clear g43 hps36 g35 hps26 g25 hps17 p0; omega) | omega]; exact q.2.2) (fun q => by first | exact oq_b6b913de q.1 g43 | (clear hps44 g43 hps36 g35 hps26 g25 hps17 p0; omega) | (clear g43 hps36 g35 hps26 g25 hps17 p0; omega) | omega), show iI s36 19 = iI s 19 + 1 by first | exact oq_274988eb ws36_19 g35 hps26.1 g25 hps17.1 ws9_19 | (clear hps44 g43 hps36 g35 hps26 g25 hps17 p0; omega) | (clear g43 hps36 g35 hps26 g25 hps17 p0; omega) | omega] at h; exact h) (dls36) (Or.inl ⟨by first | exact g53 | (clear hps44 g43 hps36 g35 hps26 g25 hps17 p0; omega) | (clear g43 hps36 g35 hps26 g25 hps17 p0; omega) | omega, rfl, by first | exact rfl | (clear hps44 g43 hps36 g35 hps26 g25 hps17 p0; omega) | (clear g43 hps36 g35 hps26 g25 hps17 p0; omega) | omega⟩) rfl
            exact w_iret X.1 q hRt (nar_ret (by first | exact Or.inl (by decide) | omega)) (ax_d X (show cdA 78 68 = some (.ireturn, 1, 0, 0, 0) from rfl)) (Nat.zero_le _) (Nat.zero_le _) ⟨_, rfl, Is44, Gs44, JBYW_s44, JTKS_s44, 0, rfl, (by decide), ⟨rd_post hRD rfl (by first | exact oq_1f39b54f g35 hps26.1 g25 hps17.1 hps9.2.2.2 hps9.2.1 p2 | omega) (by first | exact b7.1 | omega) (by first | exact b51.1 | omega) (fun h9 => absurd rfl h9), by first | exact hps44.2.1 | omega, by first | exact hps44.2.2.1 | omega, hRD⟩⟩
          ·
            refine z_aload_n X (x := A 19) rfl (List.Mem.head _) (z_bipush X rfl (z_callV X 19 (rm := rmN 81) (As := [.int (Int32.ofInt 41)]) (st := []) rfl rfl (by decide) rfl (by rw [E.1, E.2.1, E.2.2.1]; exact c7_pass3 G Is44 JBYW_s44 JTKS_s44 (by first | exact ⟨by decide, by decide⟩ | omega) (by first | exact Or.inl (by decide) | omega) (by first | exact Or.inl (by decide) | omega) (by first | exact hps44.2.1 | omega) (by first | exact hps44.2.2.1 | omega)) ⟨by rw [E.2.2.2]; exact (show 8 + 1 ≤ (12 + (4 * (r + 1))) from oq_b3b61940 r), by rw [E.2.2.2]; exact (show 8 + (2 + 11) + 143 ≤ (500 + 45 * (4 * (r + 1))) from oq_035df8d4 r), by rw [E.2.2.2]; exact Nat.le_refl 0, by rw [E.2.2.2]; exact Nat.le_refl 0⟩ (Nat.le_of_ble_eq_true rfl) (fun vv s54 hq => ?_) (fun ee s54 hq => ?_)))
            rotate_left
            · obtain ⟨Is54, Fs54, JBYW_s54, JTKS_s54, e55, hv, hrs54, hps54⟩ := hq; cases hv
            obtain ⟨Is54, Fs54, JBYW_s54, JTKS_s54, e55, hv, hrs54, hps54⟩ := hq
            have hps54p := And.intro hps54.2.1 (And.intro hps54.2.2.1 (hps54.2.2.2))
            cases hv
            have Gs54 := fm_tq Gs44 Fs54 rfl rfl
            have JBYW_s54 : BYW B N s54 := BYW_fm Fs54 (by decide) JBYW_s44
            have b56 := bi_2 Is54
            have ws54_1 : iI s54 1 = iI s44 1 := fm_iq Fs54 rfl
            have b57 := bi_4 Is54
            have b58 := bi_5 Is54
            have b59 := bi_6 Is54
            have ws54_19 : iI s54 19 = iI s44 19 := fm_iq Fs54 rfl
            have ws54_16 : iI s54 16 = iI s44 16 := fm_iq Fs54 rfl
            have b60 := bi_7 Is54
            have dls54 : DL s54 = DL s44 := (DL_fm Fs54 (by decide) (by decide)).trans rfl
            show WS k 64 [(0, .ref (A 19)), (1, .int (Int32.ofInt x))] [.int (Int32.ofInt e55)] (Wd A dT s54) 0 0
            refine z_if_ne X (t := 69) rfl rfl hrs54 (fun g61 => ?_) (fun g61 => ?_)
            ·
              refine z_aload_n X (x := A 19) rfl (List.Mem.head _) (w_dup X.1 (ax_d X (show cdA 78 70 = some (.dup, 1, 0, 0, 0) from rfl)) rfl (z_getI X 19 rfl (c518_ok rfl) rfl rfl ?_))
              have b62 := bi_19 Is54
              refine z_const X rfl (z_sub X rfl (s_putI X 19 rfl (c518_ok rfl) rfl rfl (by decide) rfl rfl rfl (wd_gen (fun s63 hs63 => ?_))))
              have Is63 : Bd s63 := eqB hs63 (bd_I Is54 (show (0 : Int) ≤ ((iI s54 19) - 1) ∧ ((iI s54 19) - 1) ≤ 6 by first | exact ⟨by first | exact oq_41f9e8ef ws54_19 g53 hps44.1 ws36_19 g35 hps26.1 g25 hps17.1 ws9_19 b6.1 | (clear g61 hps54 g53 hps44 g43 hps36 g35 hps26 g25 hps17 p0; omega) | (clear hps54 g53 hps44 g43 hps36 g35 hps26 g25 hps17 p0; omega) | omega, oq_a9606c0d b62.2⟩ | omega) ⟨by first | exact oq_c1e961c7 b62.1 | omega, by first | exact oq_b383b26c b62.2 | omega⟩)
              have Fs63 := eqF hs63 (fm_I Gs54 (inl_ok (a := 19) rfl))
              have vs63 : iI s63 19 = ((iI s54 19) - 1) := eqI hs63 (iI_u ⟨by first | exact oq_c1e961c7 b62.1 | omega, by first | exact oq_b383b26c b62.2 | omega⟩)
              have ws63_2 : iI s63 2 = iI s54 2 := eqI hs63 rfl
              have ws63_1 : iI s63 1 = iI s54 1 := eqI hs63 rfl
              have ws63_4 : iI s63 4 = iI s54 4 := eqI hs63 rfl
              have ws63_5 : iI s63 5 = iI s54 5 := eqI hs63 rfl
              have ws63_6 : iI s63 6 = iI s54 6 := eqI hs63 rfl
              have ws63_16 : iI s63 16 = iI s54 16 := eqI hs63 rfl
              have ws63_7 : iI s63 7 = iI s54 7 := eqI hs63 rfl
              have dls63 : DL s63 = DL s44 := by rw [hs63]; exact dls54
              have fs63 : Fm [19] [] s54 s63 := by rw [hs63]; exact fm_I (fm_rf _ _ _) (show 19 ∈ _ by decide)
              have JBYW_s63 : BYW B N s63 := BYW_fm fs63 (by decide) JBYW_s54
              have JTKS_s63 : TKS B N s63 := TKS_fm fs63 (by decide) JTKS_s54
              refine z_aload_n X (x := A 19) rfl (List.Mem.head _) (z_load_n X (x := x) rfl (List.Mem.tail _ (List.Mem.head _)) (z_callV X 19 (rm := rmN 82) (As := [.int (Int32.ofInt x)]) (st := []) rfl rfl (by decide) rfl (by rw [E.1, E.2.1, E.2.2.1]; exact c7_put3 G Is63 (by first | exact And.intro (oq_7cfe1c72 p0) (oq_86c07893 p0) | (clear g61 hps54 g53 hps44 g43 hps36 g35 hps26 g25 hps17 p0; omega) | (clear hps54 g53 hps44 g43 hps36 g35 hps26 g25 hps17 p0; omega) | omega) (by first | exact oq_0a90133d ws63_16 g61 ws54_16 b57.2 hps54.1 g53 hps44.1 g43 ws36_16 hps36.1 g35 hps26.1 g25 ws17_16 hps17.1 ha1 hs1 ws9_16 hps9.2.2.2 p4 p2 | (clear g61 hps54 g53 hps44 g43 hps36 g35 hps26 g25 hps17 p0; omega) | (clear hps54 g53 hps44 g43 hps36 g35 hps26 g25 hps17 p0; omega) | omega)) ⟨by rw [E.2.2.2]; exact (show 6 + 1 ≤ (12 + (4 * (r + 1))) from oq_c97dc902 r), by rw [E.2.2.2]; exact (show 8 + (2 + 11) + 100 ≤ (500 + 45 * (4 * (r + 1))) from oq_b200f69d r), by rw [E.2.2.2]; exact Nat.le_refl 0, by rw [E.2.2.2]; exact Nat.le_refl 0⟩ (Nat.le_of_ble_eq_true rfl) (fun vv s64 hq => ?_) (fun ee s64 hq => ?_)))
              rotate_left
              · obtain ⟨Is64, Fs64, hv, hps64⟩ := hq; cases hv
              obtain ⟨Is64, Fs64, hv, hps64⟩ := hq
              cases hv
              have Gs64 := fm_tq Fs63 Fs64 rfl rfl
              have JBYW_s64 : BYW B N s64 := BYW_fm Fs64 (by decide) JBYW_s63
              have JTKS_s64 : TKS B N s64 := TKS_fm Fs64 (by decide) JTKS_s63
              have ws64_2 : iI s64 2 = iI s63 2 := fm_iq Fs64 rfl
              have ws64_1 : iI s64 1 = iI s63 1 := fm_iq Fs64 rfl
              have ws64_4 : iI s64 4 = iI s63 4 := fm_iq Fs64 rfl
              have ws64_5 : iI s64 5 = iI s63 5 := fm_iq Fs64 rfl
              have ws64_6 : iI s64 6 = iI s63 6 := fm_iq Fs64 rfl
              have ws64_19 : iI s64 19 = iI s63 19 := fm_iq Fs64 rfl
              have b66 := bi_16 Is64
              have ws64_7 : iI s64 7 = iI s63 7 := fm_iq Fs64 rfl
              have dls64 : DL s64 = DL s44 ++ [x] := by rw [hps64.2, dls63]
              show WS k 84 [(0, .ref (A 19)), (1, .int (Int32.ofInt x))] [] (Wd A dT s64) 0 0
              refine z_const X rfl ?_
              have hRD : RDc B N 0 (iI s 4) (iI s 19) (DL s) s64 1 := rd_t2 (x := x) (y := s54) hnd hnc hwl hC (by first | exact oq_8c6baba9 g25 hps17.1 ws9_19 | (clear g61 hps54 g53 hps44 g43 hps36 g35 hps26 g25 hps17 p0; omega) | (clear hps54 g53 hps44 g43 hps36 g35 hps26 g25 hps17 p0; omega) | omega) (by have h := hps26.2.2.2; rw [show iI s17 4 = sk B N ((sk B N (wdE B N (iI s 4))) + 1) by first | exact hs2 | omega, show iI s17 19 = iI s 19 + 1 by first | exact oq_60a36124 g25 hps17.1 ws9_19 | (clear g61 hps54 g53 hps44 g43 hps36 g35 hps26 g25 hps17 p0; omega) | (clear hps54 g53 hps44 g43 hps36 g35 hps26 g25 hps17 p0; omega) | omega] at h; exact h) (dls17) (by first | exact g35 | (clear g61 hps54 g53 hps44 g43 hps36 g35 hps26 g25 hps17 p0; omega) | (clear hps54 g53 hps44 g43 hps36 g35 hps26 g25 hps17 p0; omega) | omega) (by exact Or.elim hps36.2.2.2 (fun q => by exact q.2.1) (fun q => by first | (clear g61 hps54 g53 hps44 g43 hps36 g35 hps26 g25 hps17 p0; omega) | (clear hps54 g53 hps44 g43 hps36 g35 hps26 g25 hps17 p0; omega) | omega)) (by have h := hps44.2.2.2; rw [show iI s36 4 = sk B N (iI s26 4 + 1) by exact Or.elim hps36.2.2.2 (fun q => by rw [show iI s36 4 = iI s36 4 by first | exact rfl | (clear g61 hps54 g53 hps44 g43 hps36 g35 hps26 g25 hps17 p0; omega) | (clear hps54 g53 hps44 g43 hps36 g35 hps26 g25 hps17 p0; omega) | omega]; exact q.2.2) (fun q => by first | exact oq_b6b913de q.1 g43 | (clear g61 hps54 g53 hps44 g43 hps36 g35 hps26 g25 hps17 p0; omega) | (clear hps54 g53 hps44 g43 hps36 g35 hps26 g25 hps17 p0; omega) | omega), show iI s36 19 = iI s 19 + 1 by first | exact oq_274988eb ws36_19 g35 hps26.1 g25 hps17.1 ws9_19 | (clear g61 hps54 g53 hps44 g43 hps36 g35 hps26 g25 hps17 p0; omega) | (clear hps54 g53 hps44 g43 hps36 g35 hps26 g25 hps17 p0; omega) | omega] at h; exact h) (dls36) (Or.inr ⟨by first | exact g53 | (clear g61 hps54 g53 hps44 g43 hps36 g35 hps26 g25 hps17 p0; omega) | (clear hps54 g53 hps44 g43 hps36 g35 hps26 g25 hps17 p0; omega) | omega, (by have h := hps54.2.2.2; rw [show e55 = 1 by first | exact oq_46b3e003 g61 hps54.1 | (clear g61 hps54 g53 hps44 g43 hps36 g35 hps26 g25 hps17 p0; omega) | (clear hps54 g53 hps44 g43 hps36 g35 hps26 g25 hps17 p0; omega) | omega] at h; exact h), by first | exact oq_1aa5be9e ws64_7 ws63_7 | (clear g61 hps54 g53 hps44 g43 hps36 g35 hps26 g25 hps17 p0; omega) | (clear hps54 g53 hps44 g43 hps36 g35 hps26 g25 hps17 p0; omega) | omega, by first | exact oq_1aa5be9e ws64_4 ws63_4 | (clear g61 hps54 g53 hps44 g43 hps36 g35 hps26 g25 hps17 p0; omega) | (clear hps54 g53 hps44 g43 hps36 g35 hps26 g25 hps17 p0; omega) | omega, fun _ => dls64⟩) (by exact Or.elim p0 (fun q => by rw [if_pos q.2]; exact q.1) (fun q => by rw [if_neg (by first | exact oq_32334554 q.2 | (clear g61 hps54 g53 hps44 g43 hps36 g35 hps26 g25 hps17 p0; omega) | (clear hps54 g53 hps44 g43 hps36 g35 hps26 g25 hps17 p0; omega) | omega)]; exact q.1))
              exact w_iret X.1 q hRt (nar_ret (by first | exact Or.inr (by decide) | omega)) (ax_d X (show cdA 78 85 = some (.ireturn, 1, 0, 0, 0) from rfl)) (Nat.zero_le _) (Nat.zero_le _) ⟨_, rfl, Is64, Gs64, JBYW_s64, JTKS_s64, 1, rfl, (by decide), ⟨rd_post hRD rfl (by first | exact oq_4547f4f6 hN p2 p1 | (clear g61 hps54 g53 hps44 g43 hps36 g35 hps26 g25 hps17 p0; omega) | (clear hps54 g53 hps44 g43 hps36 g35 hps26 g25 hps17 p0; omega) | omega) (by first | exact b7.1 | omega) (by first | exact b66.1 | omega) (fun h9 => by first | exact oq_9b53b610 ws64_19 vs63 ws54_19 g53 hps44.1 ws36_19 g35 hps26.1 g25 hps17.1 ws9_19 | (clear g61 hps54 g53 hps44 g43 hps36 g35 hps26 g25 hps17 p0; omega) | (clear hps54 g53 hps44 g43 hps36 g35 hps26 g25 hps17 p0; omega) | omega), by first | exact oq_4407eb3c ws64_1 ws64_2 ws63_1 ws63_2 hps54.2.1 | omega, by first | exact oq_4407eb3c ws64_2 ws64_4 ws63_2 ws63_4 hps54.2.2.1 | omega, hRD⟩⟩
            ·
              refine z_const X rfl ?_
              have hRD : RDc B N 0 (iI s 4) (iI s 19) (DL s) s54 0 := rd_t2 (x := x) (y := s54) hnd hnc hwl hC (by first | exact oq_8c6baba9 g25 hps17.1 ws9_19 | (clear hps54 g53 hps44 g43 hps36 g35 hps26 g25 hps17 p0; omega) | (clear g53 hps44 g43 hps36 g35 hps26 g25 hps17 p0; omega) | omega) (by have h := hps26.2.2.2; rw [show iI s17 4 = sk B N ((sk B N (wdE B N (iI s 4))) + 1) by first | exact hs2 | omega, show iI s17 19 = iI s 19 + 1 by first | exact oq_60a36124 g25 hps17.1 ws9_19 | (clear hps54 g53 hps44 g43 hps36 g35 hps26 g25 hps17 p0; omega) | (clear g53 hps44 g43 hps36 g35 hps26 g25 hps17 p0; omega) | omega] at h; exact h) (dls17) (by first | exact g35 | (clear hps54 g53 hps44 g43 hps36 g35 hps26 g25 hps17 p0; omega) | (clear g53 hps44 g43 hps36 g35 hps26 g25 hps17 p0; omega) | omega) (by exact Or.elim hps36.2.2.2 (fun q => by exact q.2.1) (fun q => by first | (clear hps54 g53 hps44 g43 hps36 g35 hps26 g25 hps17 p0; omega) | (clear g53 hps44 g43 hps36 g35 hps26 g25 hps17 p0; omega) | omega)) (by have h := hps44.2.2.2; rw [show iI s36 4 = sk B N (iI s26 4 + 1) by exact Or.elim hps36.2.2.2 (fun q => by rw [show iI s36 4 = iI s36 4 by first | exact rfl | (clear hps54 g53 hps44 g43 hps36 g35 hps26 g25 hps17 p0; omega) | (clear g53 hps44 g43 hps36 g35 hps26 g25 hps17 p0; omega) | omega]; exact q.2.2) (fun q => by first | exact oq_b6b913de q.1 g43 | (clear hps54 g53 hps44 g43 hps36 g35 hps26 g25 hps17 p0; omega) | (clear g53 hps44 g43 hps36 g35 hps26 g25 hps17 p0; omega) | omega), show iI s36 19 = iI s 19 + 1 by first | exact oq_274988eb ws36_19 g35 hps26.1 g25 hps17.1 ws9_19 | (clear hps54 g53 hps44 g43 hps36 g35 hps26 g25 hps17 p0; omega) | (clear g53 hps44 g43 hps36 g35 hps26 g25 hps17 p0; omega) | omega] at h; exact h) (dls36) (Or.inr ⟨by first | exact g53 | (clear hps54 g53 hps44 g43 hps36 g35 hps26 g25 hps17 p0; omega) | (clear g53 hps44 g43 hps36 g35 hps26 g25 hps17 p0; omega) | omega, (by have h := hps54.2.2.2; rw [show e55 = 0 by first | exact g61 | (clear hps54 g53 hps44 g43 hps36 g35 hps26 g25 hps17 p0; omega) | (clear g53 hps44 g43 hps36 g35 hps26 g25 hps17 p0; omega) | omega] at h; exact h), by first | exact rfl | (clear hps54 g53 hps44 g43 hps36 g35 hps26 g25 hps17 p0; omega) | (clear g53 hps44 g43 hps36 g35 hps26 g25 hps17 p0; omega) | omega, by first | exact rfl | (clear hps54 g53 hps44 g43 hps36 g35 hps26 g25 hps17 p0; omega) | (clear g53 hps44 g43 hps36 g35 hps26 g25 hps17 p0; omega) | omega, fun h => absurd rfl h⟩) (by exact Or.elim p0 (fun q => by rw [if_pos q.2]; exact q.1) (fun q => by rw [if_neg (by first | exact oq_32334554 q.2 | (clear hps54 g53 hps44 g43 hps36 g35 hps26 g25 hps17 p0; omega) | (clear g53 hps44 g43 hps36 g35 hps26 g25 hps17 p0; omega) | omega)]; exact q.1))
              exact w_iret X.1 q hRt (nar_ret (by first | exact Or.inl (by decide) | omega)) (ax_d X (show cdA 78 68 = some (.ireturn, 1, 0, 0, 0) from rfl)) (Nat.zero_le _) (Nat.zero_le _) ⟨_, rfl, Is54, Gs54, JBYW_s54, JTKS_s54, 0, rfl, (by decide), ⟨rd_post hRD rfl (by first | exact oq_4532ddbf g53 hps44.1 g43 hps36.1 g35 hps26.1 g25 hps17.1 hps9.2.2.2 hps9.2.1 p2 | omega) (by first | exact b7.1 | omega) (by first | exact oq_e4757433 ws54_16 b51.1 | omega) (fun h9 => absurd rfl h9), by first | exact hps54.2.1 | omega, by first | exact hps54.2.2.1 | omega, hRD⟩⟩
  ·
    refine z_aload_n X (x := A 19) rfl (List.Mem.head _) (s_getR X 19 rfl (c518_ok rfl) rfl rfl (z_const X rfl (z_callV X 1 (rm := rmN 132) (As := [.int (Int32.ofInt 1)]) (st := []) rfl rfl (by decide) rfl (by rw [E.1, E.2.1, E.2.2.1]; exact c10_refuse3 G Is9 (by first | exact ⟨by decide, by decide⟩ | omega)) ⟨by rw [E.2.2.2]; exact (show 7 + 1 ≤ (12 + (4 * (r + 1))) from oq_e86a2d6a r), by rw [E.2.2.2]; exact (show 8 + (2 + 11) + 122 ≤ (500 + 45 * (4 * (r + 1))) from oq_8aa95fcd r), by rw [E.2.2.2]; exact Nat.le_refl 0, by rw [E.2.2.2]; exact Nat.le_refl 0⟩ (Nat.le_of_ble_eq_true rfl) (fun vv s67 hq => ?_) (fun ee s67 hq => ?_))))
    rotate_left
    · obtain ⟨Is67, Fs67, e68, hv, hrs67, hps67⟩ := hq; cases hv
    obtain ⟨Is67, Fs67, e68, hv, hrs67, hps67⟩ := hq
    cases hv
    have Gs67 := fm_tq Gs9 Fs67 rfl rfl
    have JBYW_s67 : BYW B N s67 := BYW_fm Fs67 (by decide) JBYW_s9
    have JTKS_s67 : TKS B N s67 := TKS_fm Fs67 (by decide) JTKS_s9
    have ws67_2 : iI s67 2 = iI s9 2 := fm_iq Fs67 rfl
    have ws67_1 : iI s67 1 = iI s9 1 := fm_iq Fs67 rfl
    have ws67_4 : iI s67 4 = iI s9 4 := fm_iq Fs67 rfl
    have ws67_5 : iI s67 5 = iI s9 5 := fm_iq Fs67 rfl
    have ws67_6 : iI s67 6 = iI s9 6 := fm_iq Fs67 rfl
    have ws67_19 : iI s67 19 = iI s9 19 := fm_iq Fs67 rfl
    have ws67_16 : iI s67 16 = iI s9 16 := fm_iq Fs67 rfl
    have b69 := bi_7 Is67
    have dls67 : DL s67 = DL s := (DL_fm Fs67 (by decide) (by decide)).trans dls9
    show WS k 27 [(0, .ref (A 19)), (1, .int (Int32.ofInt x))] [.int (Int32.ofInt e68)] (Wd A dT s67) 0 0
    have hRD : RDc B N 0 (iI s 4) (iI s 19) (DL s) s67 e68 := by rw [show e68 = 0 by first | exact hps67.1 | (clear g16 p0; omega) | (clear p0; omega) | omega]; exact rd_no (pu_t1 hnd hnc hwl (hc1.2 (by first | exact g16 | (clear g16 p0; omega) | (clear p0; omega) | omega))) (by decide) (by first | exact hps67.2 | (clear g16 p0; omega) | (clear p0; omega) | omega)
    exact w_iret X.1 q hRt (nar_ret (by first | exact Or.inl (hps67.1) | omega)) (ax_d X (show cdA 78 27 = some (.ireturn, 1, 0, 0, 0) from rfl)) (Nat.zero_le _) (Nat.zero_le _) ⟨_, rfl, Is67, Gs67, JBYW_s67, JTKS_s67, e68, rfl, hrs67, ⟨rd_post hRD rfl (by first | exact oq_4547f4f6 hN p2 p1 | (clear g16 p0; omega) | (clear p0; omega) | omega) (by first | exact b7.1 | omega) (by first | exact oq_0f93fca7 ws67_16 ws9_16 b7.1 | omega) (fun h9 => by first | exact oq_1aa5be9e ws67_19 ws9_19 | omega), by first | exact oq_e7b9ecab ws67_1 ws67_2 hps9.1 | omega, by first | exact oq_e7b9ecab ws67_2 ws67_4 hps9.2.1 | omega, hRD⟩⟩
set_option maxRecDepth 4000 in
theorem c7_unit03 (G : GX l s0 D tys a0 dT) {B : Nat → Int} {N : Int} (SF : SF0 s0) (GT : TXw0 s0) (hT : ∀ {s : PS} {x : Int}, Bd s → BYW B N s → TKS B N s → ((x = -13 ∧ whV B N (iI s 4) = 6476969) ∨ (x = -14 ∧ whV B N (iI s 4) = 267347)) → (iI s 2 ≤ iI s 1) → (iI s 4 ≤ iI s 2) → (6 - iI s 19 ≤ ((0 : Nat) : Int)) → (iI s 16 ≤ iI s 4) → CT l s0 D A dT 78 (rkR (4 * (0))) [.ref (A 19), .int (Int32.ofInt x)] s (fun o t => Bd t ∧ Fm [2, 4, 6, 5, 7, 8, 19, 16] [18] s t ∧ BYW B N t ∧ TKS B N t ∧ ∃ e, o = .inl (some (.int (Int32.ofInt e))) ∧ rng e ∧ ((e = 0 ∨ (e = 1 ∧ iI t 19 = iI s 19 ∧ iI s 4 ≤ iI t 4 ∧ iI t 4 ≤ N ∧ iI t 16 + iI s 4 ≤ iI s 16 + iI t 4)) ∧ iI t 2 ≤ iI t 1 ∧ iI t 4 ≤ iI t 2 ∧ RDc B N 0 (iI s 4) (iI s 19) (DL s) t e))) (I : Bd s) (jBYW : BYW B N s) (jTKS : TKS B N s) (p0 : iI s 2 ≤ iI s 1) (p1 : iI s 4 ≤ iI s 2) (p2 : 6 - iI s 19 ≤ ((0 : Nat) : Int)) (p3 : iI s 16 ≤ iI s 4) : CT l s0 D A dT 77 (rkR (4 * (0) + 1)) [.ref (A 19)] s (fun o t => Bd t ∧ Fm [2, 4, 6, 5, 7, 8, 19, 16] [18] s t ∧ BYW B N t ∧ TKS B N t ∧ ∃ e, o = .inl (some (.int (Int32.ofInt e))) ∧ rng e ∧ ((e = 0 ∨ (e = 1 ∧ iI t 19 = iI s 19 ∧ iI s 4 ≤ iI t 4 ∧ iI t 4 ≤ N ∧ iI t 16 + iI s 4 ≤ iI s 16 + iI t 4)) ∧ iI t 2 ≤ iI t 1 ∧ iI t 4 ≤ iI t 2 ∧ RDc B N 0 (iI s 4) (iI s 19) (DL s) t e)) := by
  refine ct_ofX G (by decide) (Nat.le_of_ble_eq_true rfl) (fun k X E ET hRt hXt q => ?_)
  show WS k 0 [(0, .ref (A 19))] [] _ 0 0
  have F : Fm [2, 4, 6, 5, 7, 8, 19, 16] [18] s s := fm_rf _ _ s
  have hN := jBYW.2.1
  have hW := jBYW.2.2
  have hdg := tkw_dg jTKS
  have hwd := tkw_wd jTKS
  have hc0 := tkw_ch (x := 40) jTKS (by decide) (by decide) (by decide)
  have b1 := bi_2 I
  have b2 := bi_1 I
  have b3 := bi_4 I
  have b4 := bi_5 I
  have b5 := bi_6 I
  have b6 := bi_19 I
  have b7 := bi_16 I
  have b8 := bi_7 I
  refine z_aload_n X (x := A 19) rfl (List.Mem.head _) (s_getR X 19 rfl (c518_ok rfl) rfl rfl (z_getI X 1 rfl (c518_ok rfl) rfl rfl ?_))
  have b9 := bi_5 I
  refine z_bipush X rfl (z_icmp_ne X (t := 54) rfl rfl (rng_to _) (by decide) (fun g10 => ?_) (fun g10 => ?_))
  ·
    refine z_aload_n X (x := A 19) rfl (List.Mem.head _) (s_getR X 19 rfl (c518_ok rfl) rfl rfl (z_getI X 1 rfl (c518_ok rfl) rfl rfl ?_))
    have b11 := bi_5 I
    refine z_bipush X rfl (z_icmp_ne X (t := 103) rfl rfl (rng_to _) (by decide) (fun g12 => ?_) (fun g12 => ?_))
    ·
      refine z_aload_n X (x := A 19) rfl (List.Mem.head _) (s_getR X 19 rfl (c518_ok rfl) rfl rfl ?_)
      obtain ⟨tx125, q125, hR125, hS125⟩ := GT (125, [108, 101, 97, 115, 116]) (by decide)
      refine w_ldcK X (show vk_R (kOwn k) 125 tx125 q125 (kS0 k) by rw [E.2.1, X.2.1.2.1]; exact hR125) (show decode (kCc k) 107 = .ok (.ldc 125, 2) by rw [X.2.1.1]; decide +kernel) (z_callV X 1 (rm := rmN 131) (As := [.ref q125]) (st := []) rfl rfl (by decide) rfl (by rw [E.1, E.2.1, E.2.2.1]; exact c10_says3 G SF hS125 (by decide) I jBYW jTKS (by first | exact p1 | omega)) ⟨by rw [E.2.2.2]; exact (show 11 + 1 ≤ (12 + (4 * (0) + 1)) from oq_598d2d56), by rw [E.2.2.2]; exact (show 8 + (3 + 11) + 206 ≤ (500 + 45 * (4 * (0) + 1)) from oq_8d6a3487), by rw [E.2.2.2]; exact Nat.le_refl 0, by rw [E.2.2.2]; exact Nat.le_refl 0⟩ (Nat.le_of_ble_eq_true rfl) (fun vv s13 hq => ?_) (fun ee s13 hq => ?_))
      rotate_left
      · obtain ⟨Is13, Fs13, JBYW_s13, JTKS_s13, e14, hv, hrs13, hps13⟩ := hq; cases hv
      obtain ⟨Is13, Fs13, JBYW_s13, JTKS_s13, e14, hv, hrs13, hps13⟩ := hq
      cases hv
      have Gs13 := fm_tq F Fs13 rfl rfl
      have JBYW_s13 : BYW B N s13 := BYW_fm Fs13 (by decide) jBYW
      have JTKS_s13 : TKS B N s13 := TKS_fm Fs13 (by decide) jTKS
      have ws13_2 : iI s13 2 = iI s 2 := fm_iq Fs13 rfl
      have ws13_1 : iI s13 1 = iI s 1 := fm_iq Fs13 rfl
      have ws13_4 : iI s13 4 = iI s 4 := fm_iq Fs13 rfl
      have ws13_5 : iI s13 5 = iI s 5 := fm_iq Fs13 rfl
      have ws13_6 : iI s13 6 = iI s 6 := fm_iq Fs13 rfl
      have ws13_19 : iI s13 19 = iI s 19 := fm_iq Fs13 rfl
      have ws13_16 : iI s13 16 = iI s 16 := fm_iq Fs13 rfl
      have ws13_7 : iI s13 7 = iI s 7 := fm_iq Fs13 rfl
      have dls13 : DL s13 = DL s := (DL_fm Fs13 (by decide) (by decide)).trans rfl
      have hws13 : (e14 = 1 ∧ whV B N (iI s 4) = 6476969) ∨ (e14 = 0 ∧ whV B N (iI s 4) ≠ 6476969) := by have h := hps13; rw [show iI s 4 = iI s 4 by first | exact rfl | (clear hps13 g12 g10; omega) | (clear g12 g10; omega) | omega, show whL [108, 101, 97, 115, 116] 0 = 6476969 by decide] at h; exact h
      show WS k 112 [(0, .ref (A 19))] [.int (Int32.ofInt e14)] (Wd A dT s13) 0 0
      refine z_if_ne X (t := 127) rfl rfl hrs13 (fun g15 => ?_) (fun g15 => ?_)
      ·
        refine z_aload_n X (x := A 19) rfl (List.Mem.head _) (z_aload_n X (x := A 19) rfl (List.Mem.head _) (s_getR X 19 rfl (c518_ok rfl) rfl rfl ?_))
        obtain ⟨tx125, q125, hR125, hS125⟩ := GT (125, [108, 101, 97, 115, 116]) (by decide)
        refine w_ldcK X (show vk_R (kOwn k) 125 tx125 q125 (kS0 k) by rw [E.2.1, X.2.1.2.1]; exact hR125) (show decode (kCc k) 132 = .ok (.ldc 125, 2) by rw [X.2.1.1]; decide +kernel) (z_callV X 1 (rm := rmN 131) (As := [.ref q125]) (st := [.ref (A 19)]) rfl rfl (by decide) rfl (by rw [E.1, E.2.1, E.2.2.1]; exact c10_says3 G SF hS125 (by decide) Is13 JBYW_s13 JTKS_s13 (by first | exact oq_e7b9ecab ws13_2 ws13_4 p1 | omega)) ⟨by rw [E.2.2.2]; exact (show 11 + 1 ≤ (12 + (4 * (0) + 1)) from oq_598d2d56), by rw [E.2.2.2]; exact (show 8 + (3 + 11) + 206 ≤ (500 + 45 * (4 * (0) + 1)) from oq_8d6a3487), by rw [E.2.2.2]; exact Nat.le_refl 0, by rw [E.2.2.2]; exact Nat.le_refl 0⟩ (Nat.le_of_ble_eq_true rfl) (fun vv s16 hq => ?_) (fun ee s16 hq => ?_))
        rotate_left
        · obtain ⟨Is16, Fs16, JBYW_s16, JTKS_s16, e17, hv, hrs16, hps16⟩ := hq; cases hv
        obtain ⟨Is16, Fs16, JBYW_s16, JTKS_s16, e17, hv, hrs16, hps16⟩ := hq
        cases hv
        have Gs16 := fm_tq Gs13 Fs16 rfl rfl
        have JBYW_s16 : BYW B N s16 := BYW_fm Fs16 (by decide) JBYW_s13
        have JTKS_s16 : TKS B N s16 := TKS_fm Fs16 (by decide) JTKS_s13
        have ws16_2 : iI s16 2 = iI s13 2 := fm_iq Fs16 rfl
        have ws16_1 : iI s16 1 = iI s13 1 := fm_iq Fs16 rfl
        have ws16_4 : iI s16 4 = iI s13 4 := fm_iq Fs16 rfl
        have ws16_5 : iI s16 5 = iI s13 5 := fm_iq Fs16 rfl
        have ws16_6 : iI s16 6 = iI s13 6 := fm_iq Fs16 rfl
        have ws16_19 : iI s16 19 = iI s13 19 := fm_iq Fs16 rfl
        have ws16_16 : iI s16 16 = iI s13 16 := fm_iq Fs16 rfl
        have ws16_7 : iI s16 7 = iI s13 7 := fm_iq Fs16 rfl
        have dls16 : DL s16 = DL s := (DL_fm Fs16 (by decide) (by decide)).trans dls13
        have hws16 : (e17 = 1 ∧ whV B N (iI s 4) = 6476969) ∨ (e17 = 0 ∧ whV B N (iI s 4) ≠ 6476969) := by have h := hps16; rw [show iI s13 4 = iI s 4 by first | exact ws13_4 | (clear hps16 g15 hps13 g12 g10; omega) | (clear g15 hps13 g12 g10; omega) | omega, show whL [108, 101, 97, 115, 116] 0 = 6476969 by decide] at h; exact h
        show WS k 137 [(0, .ref (A 19))] [.int (Int32.ofInt e17), .ref (A 19)] (Wd A dT s16) 0 0
        refine z_if_eq X (t := 145) rfl rfl hrs16 (fun g18 => ?_) (fun g18 => ?_)
        ·
          refine z_bipush X rfl ?_
          have hx9 : whV B N (iI s16 4) = whV B N (iI s 4) := by rw [show iI s16 4 = iI s 4 by first | exact oq_1aa5be9e ws16_4 ws13_4 | (clear hps16 g15 hps13 g12 g10; omega) | (clear g15 hps13 g12 g10; omega) | omega]
          refine z_callV X 19 (rm := (rkR (4 * (0)))) (As := [.int (Int32.ofInt (-14))]) (st := []) rfl rfl (by decide) rfl (by rw [E.1, E.2.1, E.2.2.1]; exact hT Is16 JBYW_s16 JTKS_s16 (by first | exact oq_9dd6f593 g18 hws16 g15 hws13 | omega) (by first | exact oq_4407eb3c ws16_1 ws16_2 ws13_1 ws13_2 p0 | omega) (by first | exact oq_4407eb3c ws16_2 ws16_4 ws13_2 ws13_4 p1 | omega) (by first | exact oq_064f000d ws16_19 ws13_19 p2 | omega) (by first | exact oq_4407eb3c ws16_4 ws16_16 ws13_4 ws13_16 p3 | omega)) ⟨by rw [E.2.2.2]; exact (show (12 + (4 * (0))) + 1 ≤ (12 + (4 * (0) + 1)) from oq_46bc030d), by rw [E.2.2.2]; exact (show 8 + (2 + 11) + (500 + 45 * (4 * (0))) ≤ (500 + 45 * (4 * (0) + 1)) from oq_1283f125), by rw [E.2.2.2]; exact Nat.le_refl 0, by rw [E.2.2.2]; exact Nat.le_refl 0⟩ (Nat.le_of_ble_eq_true rfl) (fun vv s19 hq => ?_) (fun ee s19 hq => ?_)
          rotate_left
          · obtain ⟨Is19, Fs19, JBYW_s19, JTKS_s19, e20, hv, hrs19, hps19⟩ := hq; cases hv
          obtain ⟨Is19, Fs19, JBYW_s19, JTKS_s19, e20, hv, hrs19, hps19⟩ := hq
          have hps19p := And.intro hps19.2.1 (And.intro hps19.2.2.1 (hps19.2.2.2))
          cases hv
          have Gs19 := fm_tq Gs16 Fs19 rfl rfl
          have JBYW_s19 : BYW B N s19 := BYW_fm Fs19 (by decide) JBYW_s16
          have b21 := bi_2 Is19
          have ws19_1 : iI s19 1 = iI s16 1 := fm_iq Fs19 rfl
          have b22 := bi_4 Is19
          have b23 := bi_5 Is19
          have b24 := bi_6 Is19
          have b25 := bi_19 Is19
          have b26 := bi_16 Is19
          have b27 := bi_7 Is19
          show WS k 150 [(0, .ref (A 19))] [.int (Int32.ofInt e20)] (Wd A dT s19) 0 0
          have hRD : RDc B N 0 (iI s 4) (iI s 19) (DL s) s19 e20 := by have h := hps19.2.2.2; rw [show iI s16 4 = iI s 4 by first | exact oq_1aa5be9e ws16_4 ws13_4 | (clear hps19 hps16 g15 hps13 g12 g10; omega) | (clear hps16 g15 hps13 g12 g10; omega) | omega, show iI s16 19 = iI s 19 by first | exact oq_1aa5be9e ws16_19 ws13_19 | (clear hps19 hps16 g15 hps13 g12 g10; omega) | (clear hps16 g15 hps13 g12 g10; omega) | omega, dls16] at h; exact h
          exact w_iret X.1 q hRt (nar_ret (by first | exact oq_a0a77773 hps19.1 | omega)) (ax_d X (show cdA 77 150 = some (.ireturn, 1, 0, 0, 0) from rfl)) (Nat.zero_le _) (Nat.zero_le _) ⟨_, rfl, Is19, Gs19, JBYW_s19, JTKS_s19, e20, rfl, hrs19, ⟨rd_post hRD rfl (by first | exact oq_82452333 g18 hws16 g15 hws13 | omega) (by first | exact b7.1 | omega) (by first | exact b26.1 | omega) (fun h9 => by first | exact oq_6c3824d5 g18 hws16 g15 hws13 | omega), by first | exact hps19.2.1 | omega, by first | exact hps19.2.2.1 | omega, hRD⟩⟩
        ·
          refine z_bipush X rfl (z_goto X (t := 147) rfl rfl ?_)
          have hx9 : whV B N (iI s16 4) = whV B N (iI s 4) := by rw [show iI s16 4 = iI s 4 by first | exact oq_1aa5be9e ws16_4 ws13_4 | (clear g18 hps16 g15 hps13 g12 g10; omega) | (clear hps16 g15 hps13 g12 g10; omega) | omega]
          refine z_callV X 19 (rm := (rkR (4 * (0)))) (As := [.int (Int32.ofInt (-13))]) (st := []) rfl rfl (by decide) rfl (by rw [E.1, E.2.1, E.2.2.1]; exact hT Is16 JBYW_s16 JTKS_s16 (by first | exact oq_477ae4c3 hx9 g18 hws16 | omega) (by first | exact oq_4407eb3c ws16_1 ws16_2 ws13_1 ws13_2 p0 | omega) (by first | exact oq_4407eb3c ws16_2 ws16_4 ws13_2 ws13_4 p1 | omega) (by first | exact oq_064f000d ws16_19 ws13_19 p2 | omega) (by first | exact oq_4407eb3c ws16_4 ws16_16 ws13_4 ws13_16 p3 | omega)) ⟨by rw [E.2.2.2]; exact (show (12 + (4 * (0))) + 1 ≤ (12 + (4 * (0) + 1)) from oq_46bc030d), by rw [E.2.2.2]; exact (show 8 + (2 + 11) + (500 + 45 * (4 * (0))) ≤ (500 + 45 * (4 * (0) + 1)) from oq_1283f125), by rw [E.2.2.2]; exact Nat.le_refl 0, by rw [E.2.2.2]; exact Nat.le_refl 0⟩ (Nat.le_of_ble_eq_true rfl) (fun vv s28 hq => ?_) (fun ee s28 hq => ?_)
          rotate_left
          · obtain ⟨Is28, Fs28, JBYW_s28, JTKS_s28, e29, hv, hrs28, hps28⟩ := hq; cases hv
          obtain ⟨Is28, Fs28, JBYW_s28, JTKS_s28, e29, hv, hrs28, hps28⟩ := hq
          have hps28p := And.intro hps28.2.1 (And.intro hps28.2.2.1 (hps28.2.2.2))
          cases hv
          have Gs28 := fm_tq Gs16 Fs28 rfl rfl
          have JBYW_s28 : BYW B N s28 := BYW_fm Fs28 (by decide) JBYW_s16
          have b30 := bi_2 Is28
          have ws28_1 : iI s28 1 = iI s16 1 := fm_iq Fs28 rfl
          have b31 := bi_4 Is28
          have b32 := bi_5 Is28
          have b33 := bi_6 Is28
          have b34 := bi_19 Is28
          have b35 := bi_16 Is28
          have b36 := bi_7 Is28
          show WS k 150 [(0, .ref (A 19))] [.int (Int32.ofInt e29)] (Wd A dT s28) 0 0
          have hRD : RDc B N 0 (iI s 4) (iI s 19) (DL s) s28 e29 := by have h := hps28.2.2.2; rw [show iI s16 4 = iI s 4 by first | exact oq_1aa5be9e ws16_4 ws13_4 | (clear hps28 g18 hps16 g15 hps13 g12 g10; omega) | (clear g18 hps16 g15 hps13 g12 g10; omega) | omega, show iI s16 19 = iI s 19 by first | exact oq_1aa5be9e ws16_19 ws13_19 | (clear hps28 g18 hps16 g15 hps13 g12 g10; omega) | (clear g18 hps16 g15 hps13 g12 g10; omega) | omega, dls16] at h; exact h
          exact w_iret X.1 q hRt (nar_ret (by first | exact oq_a0a77773 hps28.1 | omega)) (ax_d X (show cdA 77 150 = some (.ireturn, 1, 0, 0, 0) from rfl)) (Nat.zero_le _) (Nat.zero_le _) ⟨_, rfl, Is28, Gs28, JBYW_s28, JTKS_s28, e29, rfl, hrs28, ⟨rd_post hRD rfl (by first | exact oq_4547f4f6 hN p1 p0 | (clear hps28 g18 hps16 g15 hps13 g12 g10; omega) | (clear g18 hps16 g15 hps13 g12 g10; omega) | omega) (by first | exact b7.1 | omega) (by first | exact b35.1 | omega) (fun h9 => by first | exact oq_859751c8 h9 b34.2 hps28.1 ws16_19 ws13_19 p2 | (clear hps28 g18 hps16 g15 hps13 g12 g10; omega) | (clear g18 hps16 g15 hps13 g12 g10; omega) | omega), by first | exact hps28.2.1 | omega, by first | exact hps28.2.2.1 | omega, hRD⟩⟩
      ·
        refine z_aload_n X (x := A 19) rfl (List.Mem.head _) (s_getR X 19 rfl (c518_ok rfl) rfl rfl ?_)
        obtain ⟨tx127, q127, hR127, hS127⟩ := GT (127, [109, 111, 115, 116]) (by decide)
        refine w_ldcK X (show vk_R (kOwn k) 127 tx127 q127 (kS0 k) by rw [E.2.1, X.2.1.2.1]; exact hR127) (show decode (kCc k) 119 = .ok (.ldc 127, 2) by rw [X.2.1.1]; decide +kernel) (z_callV X 1 (rm := rmN 131) (As := [.ref q127]) (st := []) rfl rfl (by decide) rfl (by rw [E.1, E.2.1, E.2.2.1]; exact c10_says3 G SF hS127 (by decide) Is13 JBYW_s13 JTKS_s13 (by first | exact oq_e7b9ecab ws13_2 ws13_4 p1 | omega)) ⟨by rw [E.2.2.2]; exact (show 11 + 1 ≤ (12 + (4 * (0) + 1)) from oq_598d2d56), by rw [E.2.2.2]; exact (show 8 + (3 + 11) + 206 ≤ (500 + 45 * (4 * (0) + 1)) from oq_8d6a3487), by rw [E.2.2.2]; exact Nat.le_refl 0, by rw [E.2.2.2]; exact Nat.le_refl 0⟩ (Nat.le_of_ble_eq_true rfl) (fun vv s37 hq => ?_) (fun ee s37 hq => ?_))
        rotate_left
        · obtain ⟨Is37, Fs37, JBYW_s37, JTKS_s37, e38, hv, hrs37, hps37⟩ := hq; cases hv
        obtain ⟨Is37, Fs37, JBYW_s37, JTKS_s37, e38, hv, hrs37, hps37⟩ := hq
        cases hv
        have Gs37 := fm_tq Gs13 Fs37 rfl rfl
        have JBYW_s37 : BYW B N s37 := BYW_fm Fs37 (by decide) JBYW_s13
        have JTKS_s37 : TKS B N s37 := TKS_fm Fs37 (by decide) JTKS_s13
        have ws37_2 : iI s37 2 = iI s13 2 := fm_iq Fs37 rfl
        have ws37_1 : iI s37 1 = iI s13 1 := fm_iq Fs37 rfl
        have ws37_4 : iI s37 4 = iI s13 4 := fm_iq Fs37 rfl
        have ws37_5 : iI s37 5 = iI s13 5 := fm_iq Fs37 rfl
        have ws37_6 : iI s37 6 = iI s13 6 := fm_iq Fs37 rfl
        have ws37_19 : iI s37 19 = iI s13 19 := fm_iq Fs37 rfl
        have ws37_16 : iI s37 16 = iI s13 16 := fm_iq Fs37 rfl
        have ws37_7 : iI s37 7 = iI s13 7 := fm_iq Fs37 rfl
        have dls37 : DL s37 = DL s := (DL_fm Fs37 (by decide) (by decide)).trans dls13
        have hws37 : (e38 = 1 ∧ whV B N (iI s 4) = 267347) ∨ (e38 = 0 ∧ whV B N (iI s 4) ≠ 267347) := by have h := hps37; rw [show iI s13 4 = iI s 4 by first | exact ws13_4 | (clear hps37 hps13 g12 g10; omega) | (clear hps13 g12 g10; omega) | omega, show whL [109, 111, 115, 116] 0 = 267347 by decide] at h; exact h
        show WS k 124 [(0, .ref (A 19))] [.int (Int32.ofInt e38)] (Wd A dT s37) 0 0
        refine z_if_eq X (t := 151) rfl rfl hrs37 (fun g39 => ?_) (fun g39 => ?_)
        ·
          refine z_aload_n X (x := A 19) rfl (List.Mem.head _) (z_callV X 19 (rm := rmN 79) (As := []) (st := []) rfl rfl (by decide) rfl (by rw [E.1, E.2.1, E.2.2.1]; exact c7_codeOfName3 G SF GT Is37 JBYW_s37 JTKS_s37 (by first | exact oq_4407eb3c ws37_1 ws37_2 ws13_1 ws13_2 p0 | omega) (by first | exact oq_4407eb3c ws37_2 ws37_4 ws13_2 ws13_4 p1 | omega)) ⟨by rw [E.2.2.2]; exact (show 12 + 1 ≤ (12 + (4 * (0) + 1)) from oq_0306f201), by rw [E.2.2.2]; exact (show 8 + (1 + 11) + 228 ≤ (500 + 45 * (4 * (0) + 1)) from oq_d926b11d), by rw [E.2.2.2]; exact Nat.le_refl 0, by rw [E.2.2.2]; exact Nat.le_refl 0⟩ (Nat.le_of_ble_eq_true rfl) (fun vv s40 hq => ?_) (fun ee s40 hq => ?_))
          rotate_left
          · obtain ⟨Is40, Fs40, JBYW_s40, JTKS_s40, e41, hv, hrs40, hps40⟩ := hq; cases hv
          obtain ⟨Is40, Fs40, JBYW_s40, JTKS_s40, e41, hv, hrs40, hps40⟩ := hq
          cases hv
          have Gs40 := fm_tq Gs37 Fs40 rfl rfl
          have JBYW_s40 : BYW B N s40 := BYW_fm Fs40 (by decide) JBYW_s37
          have JTKS_s40 : TKS B N s40 := TKS_fm Fs40 (by decide) JTKS_s37
          have ws40_2 : iI s40 2 = iI s37 2 := fm_iq Fs40 rfl
          have ws40_1 : iI s40 1 = iI s37 1 := fm_iq Fs40 rfl
          have ws40_4 : iI s40 4 = iI s37 4 := fm_iq Fs40 rfl
          have ws40_5 : iI s40 5 = iI s37 5 := fm_iq Fs40 rfl
          have ws40_6 : iI s40 6 = iI s37 6 := fm_iq Fs40 rfl
          have ws40_19 : iI s40 19 = iI s37 19 := fm_iq Fs40 rfl
          have ws40_16 : iI s40 16 = iI s37 16 := fm_iq Fs40 rfl
          have ws40_7 : iI s40 7 = iI s37 7 := fm_iq Fs40 rfl
          have dls40 : DL s40 = DL s := (DL_fm Fs40 (by decide) (by decide)).trans dls37
          show WS k 155 [(0, .ref (A 19))] [.int (Int32.ofInt e41)] (Wd A dT s40) 0 0
          have hcn : (e41 = -20 ∧ nmC B N (iI s 4) = 0) ∨ (-7 ≤ e41 ∧ e41 ≤ -1 ∧ nmC B N (iI s 4) = e41) := by have h := hps40; rw [show iI s37 4 = (iI s 4) by first | exact oq_1aa5be9e ws37_4 ws13_4 | (clear hps40 hps37 hps13 g12 g10; omega) | (clear hps37 hps13 g12 g10; omega) | omega] at h; exact h
          refine z_store_n X (lv' := [(1, .int (Int32.ofInt e41)), (0, .ref (A 19))]) rfl (by decide) (fun _ h => h) (z_load_n X (x := e41) rfl (List.Mem.head _) (z_bipush X rfl (z_icmp_ne X (t := 171) rfl rfl hrs40 (by decide) (fun g42 => ?_) (fun g42 => ?_))))
          ·
            refine z_aload_n X (x := A 19) rfl (List.Mem.tail _ (List.Mem.head _)) (z_load_n X (x := e41) rfl (List.Mem.head _) ?_)
            have hwn := wh_let (nm_wh (show nmC B N (iI s 4) ≠ 0 by first | exact oq_932a7f8c g42 hcn | (clear g42 hps40 hps37 hps13 g12 g10; omega) | (clear hps40 hps37 hps13 g12 g10; omega) | omega)).1
            have hk3 : iI s 5 = -3 := Classical.byContradiction (fun q => (nm_wh (show nmC B N (iI s 4) ≠ 0 by first | exact oq_932a7f8c g42 hcn | (clear g42 hps40 hps37 hps13 g12 g10; omega) | (clear hps40 hps37 hps13 g12 g10; omega) | omega)).1 (hwd.2 q))
            have ha3 := (hwd.1 hk3).1
            refine z_callV X 19 (rm := rmN 82) (As := [.int (Int32.ofInt e41)]) (st := []) rfl rfl (by decide) rfl (by rw [E.1, E.2.1, E.2.2.1]; exact c7_put3 G Is40 (by first | exact ⟨oq_2da1d2e6 hcn, oq_ff24c752 hcn⟩ | omega) (by first | exact oq_53bd2106 ha3 hk3 ws40_16 ws37_16 ws13_16 b1.2 hwd.1 p3 | (clear g42 hps40 hps37 hps13 g12 g10; omega) | (clear hps40 hps37 hps13 g12 g10; omega) | omega)) ⟨by rw [E.2.2.2]; exact (show 6 + 1 ≤ (12 + (4 * (0) + 1)) from oq_57ddffaa), by rw [E.2.2.2]; exact (show 8 + (2 + 11) + 100 ≤ (500 + 45 * (4 * (0) + 1)) from oq_9971bdcd), by rw [E.2.2.2]; exact Nat.le_refl 0, by rw [E.2.2.2]; exact Nat.le_refl 0⟩ (Nat.le_of_ble_eq_true rfl) (fun vv s43 hq => ?_) (fun ee s43 hq => ?_)
            rotate_left
            · obtain ⟨Is43, Fs43, hv, hps43⟩ := hq; cases hv
            obtain ⟨Is43, Fs43, hv, hps43⟩ := hq
            cases hv
            have Gs43 := fm_tq Gs40 Fs43 rfl rfl
            have JBYW_s43 : BYW B N s43 := BYW_fm Fs43 (by decide) JBYW_s40
            have ws43_2 : iI s43 2 = iI s40 2 := fm_iq Fs43 rfl
            have ws43_1 : iI s43 1 = iI s40 1 := fm_iq Fs43 rfl
            have ws43_4 : iI s43 4 = iI s40 4 := fm_iq Fs43 rfl
            have ws43_5 : iI s43 5 = iI s40 5 := fm_iq Fs43 rfl
            have ws43_6 : iI s43 6 = iI s40 6 := fm_iq Fs43 rfl
            have ws43_19 : iI s43 19 = iI s40 19 := fm_iq Fs43 rfl
            have b45 := bi_16 Is43
            have ws43_7 : iI s43 7 = iI s40 7 := fm_iq Fs43 rfl
            have dls43 : DL s43 = DL s ++ [e41] := by rw [hps43.2, dls40]
            show WS k 176 [(1, .int (Int32.ofInt e41)), (0, .ref (A 19))] [] (Wd A dT s43) 0 0
            refine z_aload_n X (x := A 19) rfl (List.Mem.tail _ (List.Mem.head _)) (s_getR X 19 rfl (c518_ok rfl) rfl rfl (z_callV X 1 (rm := rmN 129) (As := []) (st := []) rfl rfl (by decide) rfl (by rw [E.1, E.2.1, E.2.2.1]; exact c10_step3 G Is43 JBYW_s43 (by first | exact oq_25674cec ws43_1 ws43_2 ws40_1 ws40_2 ws37_1 ws37_2 ws13_1 ws13_2 p0 | omega)) ⟨by rw [E.2.2.2]; exact (show 7 + 1 ≤ (12 + (4 * (0) + 1)) from oq_547cef8b), by rw [E.2.2.2]; exact (show 8 + (1 + 11) + 121 ≤ (500 + 45 * (4 * (0) + 1)) from oq_0392e5c6), by rw [E.2.2.2]; exact Nat.le_refl 0, by rw [E.2.2.2]; exact Nat.le_refl 0⟩ (Nat.le_of_ble_eq_true rfl) (fun vv s46 hq => ?_) (fun ee s46 hq => ?_)))
            rotate_left
            · obtain ⟨Is46, Fs46, JBYW_s46, JTKS_s46, hv, hps46⟩ := hq; cases hv
            obtain ⟨Is46, Fs46, JBYW_s46, JTKS_s46, hv, hps46⟩ := hq
            cases hv
            have Gs46 := fm_tq Gs43 Fs46 rfl rfl
            have JBYW_s46 : BYW B N s46 := BYW_fm Fs46 (by decide) JBYW_s43
            have b48 := bi_2 Is46
            have ws46_1 : iI s46 1 = iI s43 1 := fm_iq Fs46 rfl
            have b49 := bi_4 Is46
            have b50 := bi_5 Is46
            have b51 := bi_6 Is46
            have ws46_19 : iI s46 19 = iI s43 19 := fm_iq Fs46 rfl
            have ws46_16 : iI s46 16 = iI s43 16 := fm_iq Fs46 rfl
            have ws46_7 : iI s46 7 = iI s43 7 := fm_iq Fs46 rfl
            have dls46 : DL s46 = DL s ++ [e41] := (DL_fm Fs46 (by decide) (by decide)).trans dls43
            show WS k 183 [(1, .int (Int32.ofInt e41)), (0, .ref (A 19))] [] (Wd A dT s46) 0 0
            refine z_const X rfl ?_
            have hRD : RDc B N 0 (iI s 4) (iI s 19) (DL s) s46 1 := rd_ok (pu_nam (hdg.2 (by first | exact g10 | (clear g42 hps40 hps37 hps13 g12 g10; omega) | (clear hps40 hps37 hps13 g12 g10; omega) | omega)) (hc0.2 (by first | exact g12 | (clear g42 hps40 hps37 hps13 g12 g10; omega) | (clear hps40 hps37 hps13 g12 g10; omega) | omega)) (by first | exact oq_1219f188 g39 hws37 g15 hws13 | (clear g42 hps40 hps37 hps13 g12 g10; omega) | (clear hps40 hps37 hps13 g12 g10; omega) | omega) (by first | exact oq_932a7f8c g42 hcn | (clear g42 hps40 hps37 hps13 g12 g10; omega) | (clear hps40 hps37 hps13 g12 g10; omega) | omega)) (by rw [hps46.2.2.1, show iI s43 2 = wdE B N (iI s 4) by first | exact oq_b4d295d9 ws43_2 ha3 ws40_2 ws37_2 ws13_2 | (clear g42 hps40 hps37 hps13 g12 g10; omega) | (clear hps40 hps37 hps13 g12 g10; omega) | omega]) (by rw [dls46, show e41 = nmC B N (iI s 4) by first | exact oq_148ff907 g42 hcn | (clear g42 hps40 hps37 hps13 g12 g10; omega) | (clear hps40 hps37 hps13 g12 g10; omega) | omega])
            exact w_iret X.1 q hRt (nar_ret (by first | exact Or.inr (by decide) | omega)) (ax_d X (show cdA 77 184 = some (.ireturn, 1, 0, 0, 0) from rfl)) (Nat.zero_le _) (Nat.zero_le _) ⟨_, rfl, Is46, Gs46, JBYW_s46, JTKS_s46, 1, rfl, (by decide), ⟨rd_post hRD rfl (by first | exact oq_161a6600 hwn.1 | (clear g42 hps40 hps37 hps13 g12 g10; omega) | (clear hps40 hps37 hps13 g12 g10; omega) | omega) (by first | exact b7.1 | omega) (by first | exact oq_e4757433 ws46_16 b45.1 | omega) (fun h9 => by first | exact oq_469c7eaf ws46_19 ws43_19 ws40_19 ws37_19 ws13_19 | omega), by first | exact hps46.1 | omega, by first | exact hps46.2.1 | omega, hRD⟩⟩
          ·
            refine z_aload_n X (x := A 19) rfl (List.Mem.tail _ (List.Mem.head _)) (s_getR X 19 rfl (c518_ok rfl) rfl rfl (z_const X rfl (z_callV X 1 (rm := rmN 132) (As := [.int (Int32.ofInt 1)]) (st := []) rfl rfl (by decide) rfl (by rw [E.1, E.2.1, E.2.2.1]; exact c10_refuse3 G Is40 (by first | exact ⟨by decide, by decide⟩ | omega)) ⟨by rw [E.2.2.2]; exact (show 7 + 1 ≤ (12 + (4 * (0) + 1)) from oq_547cef8b), by rw [E.2.2.2]; exact (show 8 + (2 + 11) + 122 ≤ (500 + 45 * (4 * (0) + 1)) from oq_06c7c12d), by rw [E.2.2.2]; exact Nat.le_refl 0, by rw [E.2.2.2]; exact Nat.le_refl 0⟩ (Nat.le_of_ble_eq_true rfl) (fun vv s52 hq => ?_) (fun ee s52 hq => ?_))))
            rotate_left
            · obtain ⟨Is52, Fs52, e53, hv, hrs52, hps52⟩ := hq; cases hv
            obtain ⟨Is52, Fs52, e53, hv, hrs52, hps52⟩ := hq
            cases hv
            have Gs52 := fm_tq Gs40 Fs52 rfl rfl
            have JBYW_s52 : BYW B N s52 := BYW_fm Fs52 (by decide) JBYW_s40
            have JTKS_s52 : TKS B N s52 := TKS_fm Fs52 (by decide) JTKS_s40
            have ws52_2 : iI s52 2 = iI s40 2 := fm_iq Fs52 rfl
            have ws52_1 : iI s52 1 = iI s40 1 := fm_iq Fs52 rfl
            have ws52_4 : iI s52 4 = iI s40 4 := fm_iq Fs52 rfl
            have ws52_5 : iI s52 5 = iI s40 5 := fm_iq Fs52 rfl
            have ws52_6 : iI s52 6 = iI s40 6 := fm_iq Fs52 rfl
            have ws52_19 : iI s52 19 = iI s40 19 := fm_iq Fs52 rfl
            have ws52_16 : iI s52 16 = iI s40 16 := fm_iq Fs52 rfl
            have b54 := bi_7 Is52
            have dls52 : DL s52 = DL s := (DL_fm Fs52 (by decide) (by decide)).trans dls40
            show WS k 170 [(1, .int (Int32.ofInt e41)), (0, .ref (A 19))] [.int (Int32.ofInt e53)] (Wd A dT s52) 0 0
            have hRD : RDc B N 0 (iI s 4) (iI s 19) (DL s) s52 e53 := by rw [show e53 = 0 by first | exact hps52.1 | (clear hps40 hps37 hps13 g12 g10; omega) | (clear hps37 hps13 g12 g10; omega) | omega]; exact rd_no (pu_no (hdg.2 (by first | exact g10 | (clear hps40 hps37 hps13 g12 g10; omega) | (clear hps37 hps13 g12 g10; omega) | omega)) (hc0.2 (by first | exact g12 | (clear hps40 hps37 hps13 g12 g10; omega) | (clear hps37 hps13 g12 g10; omega) | omega)) (by first | exact oq_1219f188 g39 hws37 g15 hws13 | (clear hps40 hps37 hps13 g12 g10; omega) | (clear hps37 hps13 g12 g10; omega) | omega) (by first | exact oq_d3044831 g42 hcn | (clear hps40 hps37 hps13 g12 g10; omega) | (clear hps37 hps13 g12 g10; omega) | omega)) (by decide) (by first | exact hps52.2 | (clear hps40 hps37 hps13 g12 g10; omega) | (clear hps37 hps13 g12 g10; omega) | omega)
            exact w_iret X.1 q hRt (nar_ret (by first | exact Or.inl (hps52.1) | omega)) (ax_d X (show cdA 77 170 = some (.ireturn, 1, 0, 0, 0) from rfl)) (Nat.zero_le _) (Nat.zero_le _) ⟨_, rfl, Is52, Gs52, JBYW_s52, JTKS_s52, e53, rfl, hrs52, ⟨rd_post hRD rfl (by first | exact oq_4547f4f6 hN p1 p0 | (clear hps40 hps37 hps13 g12 g10; omega) | (clear hps37 hps13 g12 g10; omega) | omega) (by first | exact b7.1 | omega) (by first | exact oq_ea8cf281 ws52_16 ws40_16 ws37_16 ws13_16 b7.1 | omega) (fun h9 => by first | exact oq_ac0e91e1 ws52_19 ws40_19 ws37_19 ws13_19 | omega), by first | exact oq_25674cec ws52_1 ws52_2 ws40_1 ws40_2 ws37_1 ws37_2 ws13_1 ws13_2 p0 | omega, by first | exact oq_969cff60 ws52_4 ws52_2 ws40_4 ws40_2 ws37_4 ws37_2 ws13_4 ws13_2 p1 | omega, hRD⟩⟩
        ·
          refine z_aload_n X (x := A 19) rfl (List.Mem.head _) (z_aload_n X (x := A 19) rfl (List.Mem.head _) (s_getR X 19 rfl (c518_ok rfl) rfl rfl ?_))
          obtain ⟨tx125, q125, hR125, hS125⟩ := GT (125, [108, 101, 97, 115, 116]) (by decide)
          refine w_ldcK X (show vk_R (kOwn k) 125 tx125 q125 (kS0 k) by rw [E.2.1, X.2.1.2.1]; exact hR125) (show decode (kCc k) 132 = .ok (.ldc 125, 2) by rw [X.2.1.1]; decide +kernel) (z_callV X 1 (rm := rmN 131) (As := [.ref q125]) (st := [.ref (A 19)]) rfl rfl (by decide) rfl (by rw [E.1, E.2.1, E.2.2.1]; exact c10_says3 G SF hS125 (by decide) Is37 JBYW_s37 JTKS_s37 (by first | exact oq_4407eb3c ws37_2 ws37_4 ws13_2 ws13_4 p1 | omega)) ⟨by rw [E.2.2.2]; exact (show 11 + 1 ≤ (12 + (4 * (0) + 1)) from oq_598d2d56), by rw [E.2.2.2]; exact (show 8 + (3 + 11) + 206 ≤ (500 + 45 * (4 * (0) + 1)) from oq_8d6a3487), by rw [E.2.2.2]; exact Nat.le_refl 0, by rw [E.2.2.2]; exact Nat.le_refl 0⟩ (Nat.le_of_ble_eq_true rfl) (fun vv s55 hq => ?_) (fun ee s55 hq => ?_))
          rotate_left
          · obtain ⟨Is55, Fs55, JBYW_s55, JTKS_s55, e56, hv, hrs55, hps55⟩ := hq; cases hv
          obtain ⟨Is55, Fs55, JBYW_s55, JTKS_s55, e56, hv, hrs55, hps55⟩ := hq
          cases hv
          have Gs55 := fm_tq Gs37 Fs55 rfl rfl
          have JBYW_s55 : BYW B N s55 := BYW_fm Fs55 (by decide) JBYW_s37
          have JTKS_s55 : TKS B N s55 := TKS_fm Fs55 (by decide) JTKS_s37
          have ws55_2 : iI s55 2 = iI s37 2 := fm_iq Fs55 rfl
          have ws55_1 : iI s55 1 = iI s37 1 := fm_iq Fs55 rfl
          have ws55_4 : iI s55 4 = iI s37 4 := fm_iq Fs55 rfl
          have ws55_5 : iI s55 5 = iI s37 5 := fm_iq Fs55 rfl
          have ws55_6 : iI s55 6 = iI s37 6 := fm_iq Fs55 rfl
          have ws55_19 : iI s55 19 = iI s37 19 := fm_iq Fs55 rfl
          have ws55_16 : iI s55 16 = iI s37 16 := fm_iq Fs55 rfl
          have ws55_7 : iI s55 7 = iI s37 7 := fm_iq Fs55 rfl
          have dls55 : DL s55 = DL s := (DL_fm Fs55 (by decide) (by decide)).trans dls37
          have hws55 : (e56 = 1 ∧ whV B N (iI s 4) = 6476969) ∨ (e56 = 0 ∧ whV B N (iI s 4) ≠ 6476969) := by have h := hps55; rw [show iI s37 4 = iI s 4 by first | exact oq_1aa5be9e ws37_4 ws13_4 | (clear hps55 g39 hps37 hps13 g12 g10; omega) | (clear g39 hps37 hps13 g12 g10; omega) | omega, show whL [108, 101, 97, 115, 116] 0 = 6476969 by decide] at h; exact h
          show WS k 137 [(0, .ref (A 19))] [.int (Int32.ofInt e56), .ref (A 19)] (Wd A dT s55) 0 0
          refine z_if_eq X (t := 145) rfl rfl hrs55 (fun g57 => ?_) (fun g57 => ?_)
          ·
            refine z_bipush X rfl ?_
            have hx9 : whV B N (iI s55 4) = whV B N (iI s 4) := by rw [show iI s55 4 = iI s 4 by first | exact oq_878618b1 ws55_4 ws37_4 ws13_4 | (clear hps55 g39 hps37 hps13 g12 g10; omega) | (clear g39 hps37 hps13 g12 g10; omega) | omega]
            refine z_callV X 19 (rm := (rkR (4 * (0)))) (As := [.int (Int32.ofInt (-14))]) (st := []) rfl rfl (by decide) rfl (by rw [E.1, E.2.1, E.2.2.1]; exact hT Is55 JBYW_s55 JTKS_s55 (by first | exact oq_d81af618 hx9 g39 hws37 | omega) (by first | exact oq_72ebe5a4 ws55_1 ws55_2 ws37_1 ws37_2 ws13_1 ws13_2 p0 | omega) (by first | exact oq_7f1a346e ws55_4 ws55_2 ws37_4 ws37_2 ws13_4 ws13_2 p1 | omega) (by first | exact oq_21fef13e ws55_19 ws37_19 ws13_19 p2 | omega) (by first | exact oq_7f1a346e ws55_16 ws55_4 ws37_16 ws37_4 ws13_16 ws13_4 p3 | omega)) ⟨by rw [E.2.2.2]; exact (show (12 + (4 * (0))) + 1 ≤ (12 + (4 * (0) + 1)) from oq_46bc030d), by rw [E.2.2.2]; exact (show 8 + (2 + 11) + (500 + 45 * (4 * (0))) ≤ (500 + 45 * (4 * (0) + 1)) from oq_1283f125), by rw [E.2.2.2]; exact Nat.le_refl 0, by rw [E.2.2.2]; exact Nat.le_refl 0⟩ (Nat.le_of_ble_eq_true rfl) (fun vv s58 hq => ?_) (fun ee s58 hq => ?_)
            rotate_left
            · obtain ⟨Is58, Fs58, JBYW_s58, JTKS_s58, e59, hv, hrs58, hps58⟩ := hq; cases hv
            obtain ⟨Is58, Fs58, JBYW_s58, JTKS_s58, e59, hv, hrs58, hps58⟩ := hq
            have hps58p := And.intro hps58.2.1 (And.intro hps58.2.2.1 (hps58.2.2.2))
            cases hv
            have Gs58 := fm_tq Gs55 Fs58 rfl rfl
            have JBYW_s58 : BYW B N s58 := BYW_fm Fs58 (by decide) JBYW_s55
            have b60 := bi_2 Is58
            have ws58_1 : iI s58 1 = iI s55 1 := fm_iq Fs58 rfl
            have b61 := bi_4 Is58
            have b62 := bi_5 Is58
            have b63 := bi_6 Is58
            have b64 := bi_19 Is58
            have b65 := bi_16 Is58
            have b66 := bi_7 Is58
            show WS k 150 [(0, .ref (A 19))] [.int (Int32.ofInt e59)] (Wd A dT s58) 0 0
            have hRD : RDc B N 0 (iI s 4) (iI s 19) (DL s) s58 e59 := by have h := hps58.2.2.2; rw [show iI s55 4 = iI s 4 by first | exact oq_878618b1 ws55_4 ws37_4 ws13_4 | (clear hps58 hps55 g39 hps37 hps13 g12 g10; omega) | (clear hps55 g39 hps37 hps13 g12 g10; omega) | omega, show iI s55 19 = iI s 19 by first | exact oq_878618b1 ws55_19 ws37_19 ws13_19 | (clear hps58 hps55 g39 hps37 hps13 g12 g10; omega) | (clear hps55 g39 hps37 hps13 g12 g10; omega) | omega, dls55] at h; exact h
            exact w_iret X.1 q hRt (nar_ret (by first | exact oq_a0a77773 hps58.1 | omega)) (ax_d X (show cdA 77 150 = some (.ireturn, 1, 0, 0, 0) from rfl)) (Nat.zero_le _) (Nat.zero_le _) ⟨_, rfl, Is58, Gs58, JBYW_s58, JTKS_s58, e59, rfl, hrs58, ⟨rd_post hRD rfl (by first | exact oq_4547f4f6 hN p1 p0 | (clear hps58 hps55 g39 hps37 hps13 g12 g10; omega) | (clear hps55 g39 hps37 hps13 g12 g10; omega) | omega) (by first | exact b7.1 | omega) (by first | exact b65.1 | omega) (fun h9 => by first | exact oq_e81e9899 h9 b64.2 hps58.1 ws55_19 ws37_19 ws13_19 p2 | (clear hps58 hps55 g39 hps37 hps13 g12 g10; omega) | (clear hps55 g39 hps37 hps13 g12 g10; omega) | omega), by first | exact hps58.2.1 | omega, by first | exact hps58.2.2.1 | omega, hRD⟩⟩
          ·
            refine z_bipush X rfl (z_goto X (t := 147) rfl rfl ?_)
            have hx9 : whV B N (iI s55 4) = whV B N (iI s 4) := by rw [show iI s55 4 = iI s 4 by first | exact oq_878618b1 ws55_4 ws37_4 ws13_4 | (clear g57 hps55 g39 hps37 hps13 g12 g10; omega) | (clear hps55 g39 hps37 hps13 g12 g10; omega) | omega]
            refine z_callV X 19 (rm := (rkR (4 * (0)))) (As := [.int (Int32.ofInt (-13))]) (st := []) rfl rfl (by decide) rfl (by rw [E.1, E.2.1, E.2.2.1]; exact hT Is55 JBYW_s55 JTKS_s55 (by first | exact oq_48540d0e g57 hws55 g39 hws37 | omega) (by first | exact oq_72ebe5a4 ws55_1 ws55_2 ws37_1 ws37_2 ws13_1 ws13_2 p0 | omega) (by first | exact oq_7f1a346e ws55_4 ws55_2 ws37_4 ws37_2 ws13_4 ws13_2 p1 | omega) (by first | exact oq_21fef13e ws55_19 ws37_19 ws13_19 p2 | omega) (by first | exact oq_7f1a346e ws55_16 ws55_4 ws37_16 ws37_4 ws13_16 ws13_4 p3 | omega)) ⟨by rw [E.2.2.2]; exact (show (12 + (4 * (0))) + 1 ≤ (12 + (4 * (0) + 1)) from oq_46bc030d), by rw [E.2.2.2]; exact (show 8 + (2 + 11) + (500 + 45 * (4 * (0))) ≤ (500 + 45 * (4 * (0) + 1)) from oq_1283f125), by rw [E.2.2.2]; exact Nat.le_refl 0, by rw [E.2.2.2]; exact Nat.le_refl 0⟩ (Nat.le_of_ble_eq_true rfl) (fun vv s67 hq => ?_) (fun ee s67 hq => ?_)
            rotate_left
            · obtain ⟨Is67, Fs67, JBYW_s67, JTKS_s67, e68, hv, hrs67, hps67⟩ := hq; cases hv
            obtain ⟨Is67, Fs67, JBYW_s67, JTKS_s67, e68, hv, hrs67, hps67⟩ := hq
            have hps67p := And.intro hps67.2.1 (And.intro hps67.2.2.1 (hps67.2.2.2))
            cases hv
            have Gs67 := fm_tq Gs55 Fs67 rfl rfl
            have JBYW_s67 : BYW B N s67 := BYW_fm Fs67 (by decide) JBYW_s55
            have b69 := bi_2 Is67
            have ws67_1 : iI s67 1 = iI s55 1 := fm_iq Fs67 rfl
            have b70 := bi_4 Is67
            have b71 := bi_5 Is67
            have b72 := bi_6 Is67
            have b73 := bi_19 Is67
            have b74 := bi_16 Is67
            have b75 := bi_7 Is67
            show WS k 150 [(0, .ref (A 19))] [.int (Int32.ofInt e68)] (Wd A dT s67) 0 0
            have hRD : RDc B N 0 (iI s 4) (iI s 19) (DL s) s67 e68 := by have h := hps67.2.2.2; rw [show iI s55 4 = iI s 4 by first | exact oq_878618b1 ws55_4 ws37_4 ws13_4 | (clear hps67 g57 hps55 g39 hps37 hps13 g12 g10; omega) | (clear g57 hps55 g39 hps37 hps13 g12 g10; omega) | omega, show iI s55 19 = iI s 19 by first | exact oq_878618b1 ws55_19 ws37_19 ws13_19 | (clear hps67 g57 hps55 g39 hps37 hps13 g12 g10; omega) | (clear g57 hps55 g39 hps37 hps13 g12 g10; omega) | omega, dls55] at h; exact h
            exact w_iret X.1 q hRt (nar_ret (by first | exact oq_a2ffbee5 g57 hws55 g39 hws37 | omega)) (ax_d X (show cdA 77 150 = some (.ireturn, 1, 0, 0, 0) from rfl)) (Nat.zero_le _) (Nat.zero_le _) ⟨_, rfl, Is67, Gs67, JBYW_s67, JTKS_s67, e68, rfl, hrs67, ⟨rd_post hRD rfl (by first | exact oq_e61be49c g57 hws55 g39 hws37 | omega) (by first | exact b7.1 | omega) (by first | exact b74.1 | omega) (fun h9 => by first | exact oq_fa1d1fac g57 hws55 g39 hws37 | omega), by first | exact hps67.2.1 | omega, by first | exact hps67.2.2.1 | omega, hRD⟩⟩
    ·
      have hC := (hc0.1 (by first | exact g12 | (clear g10; omega) | omega)).1
      have hA := (hc0.1 (by first | exact g12 | (clear g10; omega) | omega)).2
      refine z_aload_n X (x := A 19) rfl (List.Mem.head _) (z_callV X 19 (rm := rmN 80) (As := []) (st := []) rfl rfl (by decide) rfl (by rw [E.1, E.2.1, E.2.2.1]; exact c7_enter3 G I jBYW jTKS (by first | exact p0 | omega) (by first | exact p1 | omega)) ⟨by rw [E.2.2.2]; exact (show 8 + 1 ≤ (12 + (4 * (0) + 1)) from oq_a933ac9a), by rw [E.2.2.2]; exact (show 8 + (1 + 11) + 143 ≤ (500 + 45 * (4 * (0) + 1)) from oq_36a13c53), by rw [E.2.2.2]; exact Nat.le_refl 0, by rw [E.2.2.2]; exact Nat.le_refl 0⟩ (Nat.le_of_ble_eq_true rfl) (fun vv s76 hq => ?_) (fun ee s76 hq => ?_))
      rotate_left
      · obtain ⟨Is76, Fs76, JBYW_s76, JTKS_s76, e77, hv, hrs76, hps76⟩ := hq; cases hv
      obtain ⟨Is76, Fs76, JBYW_s76, JTKS_s76, e77, hv, hrs76, hps76⟩ := hq
      have hps76p := And.intro hps76.2.1 (hps76.2.2)
      cases hv
      have Gs76 := fm_tq F Fs76 rfl rfl
      have JBYW_s76 : BYW B N s76 := BYW_fm Fs76 (by decide) jBYW
      have b78 := bi_2 Is76
      have ws76_1 : iI s76 1 = iI s 1 := fm_iq Fs76 rfl
      have b79 := bi_4 Is76
      have b80 := bi_5 Is76
      have b81 := bi_6 Is76
      have b82 := bi_19 Is76
      have ws76_16 : iI s76 16 = iI s 16 := fm_iq Fs76 rfl
      have b83 := bi_7 Is76
      have dls76 : DL s76 = DL s := (DL_fm Fs76 (by decide) (by decide)).trans rfl
      show WS k 70 [(0, .ref (A 19))] [.int (Int32.ofInt e77)] (Wd A dT s76) 0 0
      refine z_if_eq X (t := 89) rfl rfl hrs76 (fun g84 => ?_) (fun g84 => ?_)
      ·
        refine z_const X rfl ?_
        have hRD : RDc B N 0 (iI s 4) (iI s 19) (DL s) s76 0 := rd_no (pu_p3 hC (by first | exact oq_773678d9 p2 | (clear hps76 g10; omega) | (clear g10; omega) | omega)) (by decide) (by first | exact oq_f447e429 g84 hps76.1 | (clear hps76 g10; omega) | (clear g10; omega) | omega)
        exact w_iret X.1 q hRt (nar_ret (by first | exact Or.inl (by decide) | omega)) (ax_d X (show cdA 77 90 = some (.ireturn, 1, 0, 0, 0) from rfl)) (Nat.zero_le _) (Nat.zero_le _) ⟨_, rfl, Is76, Gs76, JBYW_s76, JTKS_s76, 0, rfl, (by decide), ⟨rd_post hRD rfl (by first | exact oq_2a39d009 hA hN p0 | (clear hps76 g10; omega) | (clear g10; omega) | omega) (by first | exact b7.1 | omega) (by first | exact oq_e4757433 ws76_16 b7.1 | omega) (fun h9 => absurd rfl h9), by first | exact hps76.2.1 | omega, by first | exact hps76.2.2 | omega, hRD⟩⟩
      ·
        exfalso
        omega
  ·
    have hz := hdg.1 (by first | exact g10 | omega)
    refine z_aload_n X (x := A 19) rfl (List.Mem.head _) (s_getR X 19 rfl (c518_ok rfl) rfl rfl (z_getI X 1 rfl (c518_ok rfl) rfl rfl ?_))
    have b85 := bi_6 I
    refine z_sipush X rfl (z_icmp_le X (t := 34) rfl rfl (rng_to _) (by decide) (fun g86 => ?_) (fun g86 => ?_))
    ·
      refine z_aload_n X (x := A 19) rfl (List.Mem.head _) (z_aload_n X (x := A 19) rfl (List.Mem.head _) (s_getR X 19 rfl (c518_ok rfl) rfl rfl (z_getI X 1 rfl (c518_ok rfl) rfl rfl ?_)))
      have b87 := bi_6 I
      refine z_callV X 19 (rm := rmN 82) (As := [.int (Int32.ofInt (iI s 6))]) (st := []) rfl rfl (by decide) rfl (by rw [E.1, E.2.1, E.2.2.1]; exact c7_put3 G I (by first | exact ⟨oq_fa4e5087 b87.1, oq_25953902 b87.2⟩ | omega) (by omega)) ⟨by rw [E.2.2.2]; exact (show 6 + 1 ≤ (12 + (4 * (0) + 1)) from oq_57ddffaa), by rw [E.2.2.2]; exact (show 8 + (2 + 11) + 100 ≤ (500 + 45 * (4 * (0) + 1)) from oq_9971bdcd), by rw [E.2.2.2]; exact Nat.le_refl 0, by rw [E.2.2.2]; exact Nat.le_refl 0⟩ (Nat.le_of_ble_eq_true rfl) (fun vv s88 hq => ?_) (fun ee s88 hq => ?_)
      rotate_left
      · obtain ⟨Is88, Fs88, hv, hps88⟩ := hq; cases hv
      obtain ⟨Is88, Fs88, hv, hps88⟩ := hq
      cases hv
      have Gs88 := fm_tq F Fs88 rfl rfl
      have JBYW_s88 : BYW B N s88 := BYW_fm Fs88 (by decide) jBYW
      have ws88_2 : iI s88 2 = iI s 2 := fm_iq Fs88 rfl
      have ws88_1 : iI s88 1 = iI s 1 := fm_iq Fs88 rfl
      have ws88_4 : iI s88 4 = iI s 4 := fm_iq Fs88 rfl
      have ws88_5 : iI s88 5 = iI s 5 := fm_iq Fs88 rfl
      have ws88_6 : iI s88 6 = iI s 6 := fm_iq Fs88 rfl
      have ws88_19 : iI s88 19 = iI s 19 := fm_iq Fs88 rfl
      have b90 := bi_16 Is88
      have ws88_7 : iI s88 7 = iI s 7 := fm_iq Fs88 rfl
      have dls88 : DL s88 = DL s ++ [(iI s 6)] := by rw [hps88.2]
      show WS k 45 [(0, .ref (A 19))] [] (Wd A dT s88) 0 0
      refine z_aload_n X (x := A 19) rfl (List.Mem.head _) (s_getR X 19 rfl (c518_ok rfl) rfl rfl (z_callV X 1 (rm := rmN 129) (As := []) (st := []) rfl rfl (by decide) rfl (by rw [E.1, E.2.1, E.2.2.1]; exact c10_step3 G Is88 JBYW_s88 (by first | exact oq_e7b9ecab ws88_1 ws88_2 p0 | omega)) ⟨by rw [E.2.2.2]; exact (show 7 + 1 ≤ (12 + (4 * (0) + 1)) from oq_547cef8b), by rw [E.2.2.2]; exact (show 8 + (1 + 11) + 121 ≤ (500 + 45 * (4 * (0) + 1)) from oq_0392e5c6), by rw [E.2.2.2]; exact Nat.le_refl 0, by rw [E.2.2.2]; exact Nat.le_refl 0⟩ (Nat.le_of_ble_eq_true rfl) (fun vv s91 hq => ?_) (fun ee s91 hq => ?_)))
      rotate_left
      · obtain ⟨Is91, Fs91, JBYW_s91, JTKS_s91, hv, hps91⟩ := hq; cases hv
      obtain ⟨Is91, Fs91, JBYW_s91, JTKS_s91, hv, hps91⟩ := hq
      cases hv
      have Gs91 := fm_tq Gs88 Fs91 rfl rfl
      have JBYW_s91 : BYW B N s91 := BYW_fm Fs91 (by decide) JBYW_s88
      have b93 := bi_2 Is91
      have ws91_1 : iI s91 1 = iI s88 1 := fm_iq Fs91 rfl
      have b94 := bi_4 Is91
      have b95 := bi_5 Is91
      have b96 := bi_6 Is91
      have ws91_19 : iI s91 19 = iI s88 19 := fm_iq Fs91 rfl
      have ws91_16 : iI s91 16 = iI s88 16 := fm_iq Fs91 rfl
      have ws91_7 : iI s91 7 = iI s88 7 := fm_iq Fs91 rfl
      have dls91 : DL s91 = DL s ++ [(iI s 6)] := (DL_fm Fs91 (by decide) (by decide)).trans dls88
      show WS k 52 [(0, .ref (A 19))] [] (Wd A dT s91) 0 0
      refine z_const X rfl ?_
      have hRD : RDc B N 0 (iI s 4) (iI s 19) (DL s) s91 1 := rd_ok (pu_num hz.1 (by first | exact oq_5d54bdf4 g86 hz.2.1 | omega)) (by rw [hps91.2.2.1, show iI s88 2 = nmE B N (iI s 4) 0 by first | exact oq_1aa5be9e ws88_2 hz.2.2 | omega]) (by rw [dls91, show (iI s 6) = nmV B N (iI s 4) 0 by first | exact hz.2.1 | omega])
      exact w_iret X.1 q hRt (nar_ret (by first | exact Or.inr (by decide) | omega)) (ax_d X (show cdA 77 53 = some (.ireturn, 1, 0, 0, 0) from rfl)) (Nat.zero_le _) (Nat.zero_le _) ⟨_, rfl, Is91, Gs91, JBYW_s91, JTKS_s91, 1, rfl, (by decide), ⟨rd_post hRD rfl (by first | exact oq_4547f4f6 hN p1 p0 | omega) (by first | exact b7.1 | omega) (by first | exact oq_e4757433 ws91_16 b90.1 | omega) (fun h9 => by first | exact oq_1aa5be9e ws91_19 ws88_19 | omega), by first | exact hps91.1 | omega, by first | exact hps91.2.1 | omega, hRD⟩⟩
    ·
      refine z_aload_n X (x := A 19) rfl (List.Mem.head _) (s_getR X 19 rfl (c518_ok rfl) rfl rfl (z_const X rfl (z_callV X 1 (rm := rmN 132) (As := [.int (Int32.ofInt 2)]) (st := []) rfl rfl (by decide) rfl (by rw [E.1, E.2.1, E.2.2.1]; exact c10_refuse3 G I (by first | exact ⟨by decide, by decide⟩ | omega)) ⟨by rw [E.2.2.2]; exact (show 7 + 1 ≤ (12 + (4 * (0) + 1)) from oq_547cef8b), by rw [E.2.2.2]; exact (show 8 + (2 + 11) + 122 ≤ (500 + 45 * (4 * (0) + 1)) from oq_06c7c12d), by rw [E.2.2.2]; exact Nat.le_refl 0, by rw [E.2.2.2]; exact Nat.le_refl 0⟩ (Nat.le_of_ble_eq_true rfl) (fun vv s97 hq => ?_) (fun ee s97 hq => ?_))))
      rotate_left
      · obtain ⟨Is97, Fs97, e98, hv, hrs97, hps97⟩ := hq; cases hv
      obtain ⟨Is97, Fs97, e98, hv, hrs97, hps97⟩ := hq
      cases hv
      have Gs97 := fm_tq F Fs97 rfl rfl
      have JBYW_s97 : BYW B N s97 := BYW_fm Fs97 (by decide) jBYW
      have JTKS_s97 : TKS B N s97 := TKS_fm Fs97 (by decide) jTKS
      have ws97_2 : iI s97 2 = iI s 2 := fm_iq Fs97 rfl
      have ws97_1 : iI s97 1 = iI s 1 := fm_iq Fs97 rfl
      have ws97_4 : iI s97 4 = iI s 4 := fm_iq Fs97 rfl
      have ws97_5 : iI s97 5 = iI s 5 := fm_iq Fs97 rfl
      have ws97_6 : iI s97 6 = iI s 6 := fm_iq Fs97 rfl
      have ws97_19 : iI s97 19 = iI s 19 := fm_iq Fs97 rfl
      have ws97_16 : iI s97 16 = iI s 16 := fm_iq Fs97 rfl
      have b99 := bi_7 Is97
      have dls97 : DL s97 = DL s := (DL_fm Fs97 (by decide) (by decide)).trans rfl
      show WS k 33 [(0, .ref (A 19))] [.int (Int32.ofInt e98)] (Wd A dT s97) 0 0
      have hRD : RDc B N 0 (iI s 4) (iI s 19) (DL s) s97 e98 := by rw [show e98 = 0 by first | exact hps97.1 | omega]; exact rd_no (pu_big hz.1 (by first | exact oq_61d43e47 g86 hz.2.1 | omega)) (by decide) (by first | exact hps97.2 | omega)
      exact w_iret X.1 q hRt (nar_ret (by first | exact Or.inl (hps97.1) | omega)) (ax_d X (show cdA 77 33 = some (.ireturn, 1, 0, 0, 0) from rfl)) (Nat.zero_le _) (Nat.zero_le _) ⟨_, rfl, Is97, Gs97, JBYW_s97, JTKS_s97, e98, rfl, hrs97, ⟨rd_post hRD rfl (by first | exact oq_4547f4f6 hN p1 p0 | omega) (by first | exact b7.1 | omega) (by first | exact oq_e4757433 ws97_16 b7.1 | omega) (fun h9 => by first | exact ws97_19 | omega), by first | exact oq_e7b9ecab ws97_1 ws97_2 p0 | omega, by first | exact oq_e7b9ecab ws97_2 ws97_4 p1 | omega, hRD⟩⟩
set_option maxRecDepth 4000 in
theorem c7_unitS3 (G : GX l s0 D tys a0 dT) {B : Nat → Int} {N : Int} (SF : SF0 s0) (GT : TXw0 s0) {r : Nat} (hT : ∀ {s : PS} {x : Int}, Bd s → BYW B N s → TKS B N s → ((x = -13 ∧ whV B N (iI s 4) = 6476969) ∨ (x = -14 ∧ whV B N (iI s 4) = 267347)) → (iI s 2 ≤ iI s 1) → (iI s 4 ≤ iI s 2) → (6 - iI s 19 ≤ ((r + 1 : Nat) : Int)) → (iI s 16 ≤ iI s 4) → CT l s0 D A dT 78 (rkR (4 * (r + 1))) [.ref (A 19), .int (Int32.ofInt x)] s (fun o t => Bd t ∧ Fm [2, 4, 6, 5, 7, 8, 19, 16] [18] s t ∧ BYW B N t ∧ TKS B N t ∧ ∃ e, o = .inl (some (.int (Int32.ofInt e))) ∧ rng e ∧ ((e = 0 ∨ (e = 1 ∧ iI t 19 = iI s 19 ∧ iI s 4 ≤ iI t 4 ∧ iI t 4 ≤ N ∧ iI t 16 + iI s 4 ≤ iI s 16 + iI t 4)) ∧ iI t 2 ≤ iI t 1 ∧ iI t 4 ≤ iI t 2 ∧ RDc B N 0 (iI s 4) (iI s 19) (DL s) t e))) (hS : ∀ {s : PS} , Bd s → BYW B N s → TKS B N s → (iI s 2 ≤ iI s 1) → (iI s 4 ≤ iI s 2) → (6 - iI s 19 ≤ ((r : Nat) : Int)) → (iI s 16 ≤ iI s 4) → CT l s0 D A dT 75 (rkR (4 * (r) + 3)) [.ref (A 19)] s (fun o t => Bd t ∧ Fm [2, 4, 6, 5, 7, 8, 19, 16] [18] s t ∧ BYW B N t ∧ TKS B N t ∧ ∃ e, o = .inl (some (.int (Int32.ofInt e))) ∧ rng e ∧ ((e = 0 ∨ (e = 1 ∧ iI t 19 = iI s 19 ∧ iI s 4 ≤ iI t 4 ∧ iI t 4 ≤ N ∧ iI t 16 + iI s 4 ≤ iI s 16 + iI t 4)) ∧ iI t 2 ≤ iI t 1 ∧ iI t 4 ≤ iI t 2 ∧ RDc B N 3 (iI s 4) (iI s 19) (DL s) t e))) (I : Bd s) (jBYW : BYW B N s) (jTKS : TKS B N s) (p0 : iI s 2 ≤ iI s 1) (p1 : iI s 4 ≤ iI s 2) (p2 : 6 - iI s 19 ≤ ((r + 1 : Nat) : Int)) (p3 : iI s 16 ≤ iI s 4) : CT l s0 D A dT 77 (rkR (4 * (r + 1) + 1)) [.ref (A 19)] s (fun o t => Bd t ∧ Fm [2, 4, 6, 5, 7, 8, 19, 16] [18] s t ∧ BYW B N t ∧ TKS B N t ∧ ∃ e, o = .inl (some (.int (Int32.ofInt e))) ∧ rng e ∧ ((e = 0 ∨ (e = 1 ∧ iI t 19 = iI s 19 ∧ iI s 4 ≤ iI t 4 ∧ iI t 4 ≤ N ∧ iI t 16 + iI s 4 ≤ iI s 16 + iI t 4)) ∧ iI t 2 ≤ iI t 1 ∧ iI t 4 ≤ iI t 2 ∧ RDc B N 0 (iI s 4) (iI s 19) (DL s) t e)) := by
  refine ct_ofX G (by decide) (Nat.le_of_ble_eq_true rfl) (fun k X E ET hRt hXt q => ?_)
  show WS k 0 [(0, .ref (A 19))] [] _ 0 0
  have F : Fm [2, 4, 6, 5, 7, 8, 19, 16] [18] s s := fm_rf _ _ s
  have hN := jBYW.2.1
  have hW := jBYW.2.2
  have hdg := tkw_dg jTKS
  have hwd := tkw_wd jTKS
  have hc0 := tkw_ch (x := 40) jTKS (by decide) (by decide) (by decide)
  have b1 := bi_2 I
  have b2 := bi_1 I
  have b3 := bi_4 I
  have b4 := bi_5 I
  have b5 := bi_6 I
  have b6 := bi_19 I
  have b7 := bi_16 I
  have b8 := bi_7 I
  refine z_aload_n X (x := A 19) rfl (List.Mem.head _) (s_getR X 19 rfl (c518_ok rfl) rfl rfl (z_getI X 1 rfl (c518_ok rfl) rfl rfl ?_))
  have b9 := bi_5 I
  refine z_bipush X rfl (z_icmp_ne X (t := 54) rfl rfl (rng_to _) (by decide) (fun g10 => ?_) (fun g10 => ?_))
  ·
    refine z_aload_n X (x := A 19) rfl (List.Mem.head _) (s_getR X 19 rfl (c518_ok rfl) rfl rfl (z_getI X 1 rfl (c518_ok rfl) rfl rfl ?_))
    have b11 := bi_5 I
    refine z_bipush X rfl (z_icmp_ne X (t := 103) rfl rfl (rng_to _) (by decide) (fun g12 => ?_) (fun g12 => ?_))
    ·
      refine z_aload_n X (x := A 19) rfl (List.Mem.head _) (s_getR X 19 rfl (c518_ok rfl) rfl rfl ?_)
      obtain ⟨tx125, q125, hR125, hS125⟩ := GT (125, [108, 101, 97, 115, 116]) (by decide)
      refine w_ldcK X (show vk_R (kOwn k) 125 tx125 q125 (kS0 k) by rw [E.2.1, X.2.1.2.1]; exact hR125) (show decode (kCc k) 107 = .ok (.ldc 125, 2) by rw [X.2.1.1]; decide +kernel) (z_callV X 1 (rm := rmN 131) (As := [.ref q125]) (st := []) rfl rfl (by decide) rfl (by rw [E.1, E.2.1, E.2.2.1]; exact c10_says3 G SF hS125 (by decide) I jBYW jTKS (by first | exact p1 | omega)) ⟨by rw [E.2.2.2]; exact (show 11 + 1 ≤ (12 + (4 * (r + 1) + 1)) from oq_21805ac9 r), by rw [E.2.2.2]; exact (show 8 + (3 + 11) + 206 ≤ (500 + 45 * (4 * (r + 1) + 1)) from oq_1a54e9c9 r), by rw [E.2.2.2]; exact Nat.le_refl 0, by rw [E.2.2.2]; exact Nat.le_refl 0⟩ (Nat.le_of_ble_eq_true rfl) (fun vv s13 hq => ?_) (fun ee s13 hq => ?_))
      rotate_left
      · obtain ⟨Is13, Fs13, JBYW_s13, JTKS_s13, e14, hv, hrs13, hps13⟩ := hq; cases hv
      obtain ⟨Is13, Fs13, JBYW_s13, JTKS_s13, e14, hv, hrs13, hps13⟩ := hq
      cases hv
      have Gs13 := fm_tq F Fs13 rfl rfl
      have JBYW_s13 : BYW B N s13 := BYW_fm Fs13 (by decide) jBYW
      have JTKS_s13 : TKS B N s13 := TKS_fm Fs13 (by decide) jTKS
      have ws13_2 : iI s13 2 = iI s 2 := fm_iq Fs13 rfl
      have ws13_1 : iI s13 1 = iI s 1 := fm_iq Fs13 rfl
      have ws13_4 : iI s13 4 = iI s 4 := fm_iq Fs13 rfl
      have ws13_5 : iI s13 5 = iI s 5 := fm_iq Fs13 rfl
      have ws13_6 : iI s13 6 = iI s 6 := fm_iq Fs13 rfl
      have ws13_19 : iI s13 19 = iI s 19 := fm_iq Fs13 rfl
      have ws13_16 : iI s13 16 = iI s 16 := fm_iq Fs13 rfl
      have ws13_7 : iI s13 7 = iI s 7 := fm_iq Fs13 rfl
      have dls13 : DL s13 = DL s := (DL_fm Fs13 (by decide) (by decide)).trans rfl
      have hws13 : (e14 = 1 ∧ whV B N (iI s 4) = 6476969) ∨ (e14 = 0 ∧ whV B N (iI s 4) ≠ 6476969) := by have h := hps13; rw [show iI s 4 = iI s 4 by first | exact rfl | (clear hps13 g12 g10; omega) | (clear g12 g10; omega) | omega, show whL [108, 101, 97, 115, 116] 0 = 6476969 by decide] at h; exact h
      show WS k 112 [(0, .ref (A 19))] [.int (Int32.ofInt e14)] (Wd A dT s13) 0 0
      refine z_if_ne X (t := 127) rfl rfl hrs13 (fun g15 => ?_) (fun g15 => ?_)
      ·
        refine z_aload_n X (x := A 19) rfl (List.Mem.head _) (z_aload_n X (x := A 19) rfl (List.Mem.head _) (s_getR X 19 rfl (c518_ok rfl) rfl rfl ?_))
        obtain ⟨tx125, q125, hR125, hS125⟩ := GT (125, [108, 101, 97, 115, 116]) (by decide)
        refine w_ldcK X (show vk_R (kOwn k) 125 tx125 q125 (kS0 k) by rw [E.2.1, X.2.1.2.1]; exact hR125) (show decode (kCc k) 132 = .ok (.ldc 125, 2) by rw [X.2.1.1]; decide +kernel) (z_callV X 1 (rm := rmN 131) (As := [.ref q125]) (st := [.ref (A 19)]) rfl rfl (by decide) rfl (by rw [E.1, E.2.1, E.2.2.1]; exact c10_says3 G SF hS125 (by decide) Is13 JBYW_s13 JTKS_s13 (by first | exact oq_e7b9ecab ws13_2 ws13_4 p1 | omega)) ⟨by rw [E.2.2.2]; exact (show 11 + 1 ≤ (12 + (4 * (r + 1) + 1)) from oq_21805ac9 r), by rw [E.2.2.2]; exact (show 8 + (3 + 11) + 206 ≤ (500 + 45 * (4 * (r + 1) + 1)) from oq_1a54e9c9 r), by rw [E.2.2.2]; exact Nat.le_refl 0, by rw [E.2.2.2]; exact Nat.le_refl 0⟩ (Nat.le_of_ble_eq_true rfl) (fun vv s16 hq => ?_) (fun ee s16 hq => ?_))
        rotate_left
        · obtain ⟨Is16, Fs16, JBYW_s16, JTKS_s16, e17, hv, hrs16, hps16⟩ := hq; cases hv
        obtain ⟨Is16, Fs16, JBYW_s16, JTKS_s16, e17, hv, hrs16, hps16⟩ := hq
        cases hv
        have Gs16 := fm_tq Gs13 Fs16 rfl rfl
        have JBYW_s16 : BYW B N s16 := BYW_fm Fs16 (by decide) JBYW_s13
        have JTKS_s16 : TKS B N s16 := TKS_fm Fs16 (by decide) JTKS_s13
        have ws16_2 : iI s16 2 = iI s13 2 := fm_iq Fs16 rfl
        have ws16_1 : iI s16 1 = iI s13 1 := fm_iq Fs16 rfl
        have ws16_4 : iI s16 4 = iI s13 4 := fm_iq Fs16 rfl
        have ws16_5 : iI s16 5 = iI s13 5 := fm_iq Fs16 rfl
        have ws16_6 : iI s16 6 = iI s13 6 := fm_iq Fs16 rfl
        have ws16_19 : iI s16 19 = iI s13 19 := fm_iq Fs16 rfl
        have ws16_16 : iI s16 16 = iI s13 16 := fm_iq Fs16 rfl
        have ws16_7 : iI s16 7 = iI s13 7 := fm_iq Fs16 rfl
        have dls16 : DL s16 = DL s := (DL_fm Fs16 (by decide) (by decide)).trans dls13
        have hws16 : (e17 = 1 ∧ whV B N (iI s 4) = 6476969) ∨ (e17 = 0 ∧ whV B N (iI s 4) ≠ 6476969) := by have h := hps16; rw [show iI s13 4 = iI s 4 by first | exact ws13_4 | (clear hps16 g15 hps13 g12 g10; omega) | (clear g15 hps13 g12 g10; omega) | omega, show whL [108, 101, 97, 115, 116] 0 = 6476969 by decide] at h; exact h
        show WS k 137 [(0, .ref (A 19))] [.int (Int32.ofInt e17), .ref (A 19)] (Wd A dT s16) 0 0
        refine z_if_eq X (t := 145) rfl rfl hrs16 (fun g18 => ?_) (fun g18 => ?_)
        ·
          refine z_bipush X rfl ?_
          have hx9 : whV B N (iI s16 4) = whV B N (iI s 4) := by rw [show iI s16 4 = iI s 4 by first | exact oq_1aa5be9e ws16_4 ws13_4 | (clear hps16 g15 hps13 g12 g10; omega) | (clear g15 hps13 g12 g10; omega) | omega]
          refine z_callV X 19 (rm := (rkR (4 * (r + 1)))) (As := [.int (Int32.ofInt (-14))]) (st := []) rfl rfl (by decide) rfl (by rw [E.1, E.2.1, E.2.2.1]; exact hT Is16 JBYW_s16 JTKS_s16 (by first | exact oq_9dd6f593 g18 hws16 g15 hws13 | omega) (by first | exact oq_4407eb3c ws16_1 ws16_2 ws13_1 ws13_2 p0 | omega) (by first | exact oq_4407eb3c ws16_2 ws16_4 ws13_2 ws13_4 p1 | omega) (by first | exact oq_94b38e3b p2 ws16_19 ws13_19 | omega) (by first | exact oq_4407eb3c ws16_4 ws16_16 ws13_4 ws13_16 p3 | omega)) ⟨by rw [E.2.2.2]; exact (show (12 + (4 * (r + 1))) + 1 ≤ (12 + (4 * (r + 1) + 1)) from oq_183d1057 r), by rw [E.2.2.2]; exact (show 8 + (2 + 11) + (500 + 45 * (4 * (r + 1))) ≤ (500 + 45 * (4 * (r + 1) + 1)) from oq_ce6206a2 r), by rw [E.2.2.2]; exact Nat.le_refl 0, by rw [E.2.2.2]; exact Nat.le_refl 0⟩ (Nat.le_of_ble_eq_true rfl) (fun vv s19 hq => ?_) (fun ee s19 hq => ?_)
          rotate_left
          · obtain ⟨Is19, Fs19, JBYW_s19, JTKS_s19, e20, hv, hrs19, hps19⟩ := hq; cases hv
          obtain ⟨Is19, Fs19, JBYW_s19, JTKS_s19, e20, hv, hrs19, hps19⟩ := hq
          have hps19p := And.intro hps19.2.1 (And.intro hps19.2.2.1 (hps19.2.2.2))
          cases hv
          have Gs19 := fm_tq Gs16 Fs19 rfl rfl
          have JBYW_s19 : BYW B N s19 := BYW_fm Fs19 (by decide) JBYW_s16
          have b21 := bi_2 Is19
          have ws19_1 : iI s19 1 = iI s16 1 := fm_iq Fs19 rfl
          have b22 := bi_4 Is19
          have b23 := bi_5 Is19
          have b24 := bi_6 Is19
          have b25 := bi_19 Is19
          have b26 := bi_16 Is19
          have b27 := bi_7 Is19
          show WS k 150 [(0, .ref (A 19))] [.int (Int32.ofInt e20)] (Wd A dT s19) 0 0
          have hRD : RDc B N 0 (iI s 4) (iI s 19) (DL s) s19 e20 := by have h := hps19.2.2.2; rw [show iI s16 4 = iI s 4 by first | exact oq_1aa5be9e ws16_4 ws13_4 | (clear hps19 hps16 g15 hps13 g12 g10; omega) | (clear hps16 g15 hps13 g12 g10; omega) | omega, show iI s16 19 = iI s 19 by first | exact oq_1aa5be9e ws16_19 ws13_19 | (clear hps19 hps16 g15 hps13 g12 g10; omega) | (clear hps16 g15 hps13 g12 g10; omega) | omega, dls16] at h; exact h
          exact w_iret X.1 q hRt (nar_ret (by first | exact oq_a0a77773 hps19.1 | omega)) (ax_d X (show cdA 77 150 = some (.ireturn, 1, 0, 0, 0) from rfl)) (Nat.zero_le _) (Nat.zero_le _) ⟨_, rfl, Is19, Gs19, JBYW_s19, JTKS_s19, e20, rfl, hrs19, ⟨rd_post hRD rfl (by first | exact oq_82452333 g18 hws16 g15 hws13 | omega) (by first | exact b7.1 | omega) (by first | exact b26.1 | omega) (fun h9 => by first | exact oq_6c3824d5 g18 hws16 g15 hws13 | omega), by first | exact hps19.2.1 | omega, by first | exact hps19.2.2.1 | omega, hRD⟩⟩
        ·
          refine z_bipush X rfl (z_goto X (t := 147) rfl rfl ?_)
          have hx9 : whV B N (iI s16 4) = whV B N (iI s 4) := by rw [show iI s16 4 = iI s 4 by first | exact oq_1aa5be9e ws16_4 ws13_4 | (clear g18 hps16 g15 hps13 g12 g10; omega) | (clear hps16 g15 hps13 g12 g10; omega) | omega]
          refine z_callV X 19 (rm := (rkR (4 * (r + 1)))) (As := [.int (Int32.ofInt (-13))]) (st := []) rfl rfl (by decide) rfl (by rw [E.1, E.2.1, E.2.2.1]; exact hT Is16 JBYW_s16 JTKS_s16 (by first | exact oq_477ae4c3 hx9 g18 hws16 | omega) (by first | exact oq_4407eb3c ws16_1 ws16_2 ws13_1 ws13_2 p0 | omega) (by first | exact oq_4407eb3c ws16_2 ws16_4 ws13_2 ws13_4 p1 | omega) (by first | exact oq_94b38e3b p2 ws16_19 ws13_19 | omega) (by first | exact oq_4407eb3c ws16_4 ws16_16 ws13_4 ws13_16 p3 | omega)) ⟨by rw [E.2.2.2]; exact (show (12 + (4 * (r + 1))) + 1 ≤ (12 + (4 * (r + 1) + 1)) from oq_183d1057 r), by rw [E.2.2.2]; exact (show 8 + (2 + 11) + (500 + 45 * (4 * (r + 1))) ≤ (500 + 45 * (4 * (r + 1) + 1)) from oq_ce6206a2 r), by rw [E.2.2.2]; exact Nat.le_refl 0, by rw [E.2.2.2]; exact Nat.le_refl 0⟩ (Nat.le_of_ble_eq_true rfl) (fun vv s28 hq => ?_) (fun ee s28 hq => ?_)
          rotate_left
          · obtain ⟨Is28, Fs28, JBYW_s28, JTKS_s28, e29, hv, hrs28, hps28⟩ := hq; cases hv
          obtain ⟨Is28, Fs28, JBYW_s28, JTKS_s28, e29, hv, hrs28, hps28⟩ := hq
          have hps28p := And.intro hps28.2.1 (And.intro hps28.2.2.1 (hps28.2.2.2))
          cases hv
          have Gs28 := fm_tq Gs16 Fs28 rfl rfl
          have JBYW_s28 : BYW B N s28 := BYW_fm Fs28 (by decide) JBYW_s16
          have b30 := bi_2 Is28
          have ws28_1 : iI s28 1 = iI s16 1 := fm_iq Fs28 rfl
          have b31 := bi_4 Is28
          have b32 := bi_5 Is28
          have b33 := bi_6 Is28
          have b34 := bi_19 Is28
          have b35 := bi_16 Is28
          have b36 := bi_7 Is28
          show WS k 150 [(0, .ref (A 19))] [.int (Int32.ofInt e29)] (Wd A dT s28) 0 0
          have hRD : RDc B N 0 (iI s 4) (iI s 19) (DL s) s28 e29 := by have h := hps28.2.2.2; rw [show iI s16 4 = iI s 4 by first | exact oq_1aa5be9e ws16_4 ws13_4 | (clear hps28 g18 hps16 g15 hps13 g12 g10; omega) | (clear g18 hps16 g15 hps13 g12 g10; omega) | omega, show iI s16 19 = iI s 19 by first | exact oq_1aa5be9e ws16_19 ws13_19 | (clear hps28 g18 hps16 g15 hps13 g12 g10; omega) | (clear g18 hps16 g15 hps13 g12 g10; omega) | omega, dls16] at h; exact h
          exact w_iret X.1 q hRt (nar_ret (by first | exact oq_a0a77773 hps28.1 | omega)) (ax_d X (show cdA 77 150 = some (.ireturn, 1, 0, 0, 0) from rfl)) (Nat.zero_le _) (Nat.zero_le _) ⟨_, rfl, Is28, Gs28, JBYW_s28, JTKS_s28, e29, rfl, hrs28, ⟨rd_post hRD rfl (by first | exact oq_4547f4f6 hN p1 p0 | (clear hps28 g18 hps16 g15 hps13 g12 g10; omega) | (clear g18 hps16 g15 hps13 g12 g10; omega) | omega) (by first | exact b7.1 | omega) (by first | exact b35.1 | omega) (fun h9 => by first | exact oq_753e7540 h9 hps28.1 ws16_19 ws13_19 | (clear hps28 g18 hps16 g15 hps13 g12 g10; omega) | (clear g18 hps16 g15 hps13 g12 g10; omega) | omega), by first | exact hps28.2.1 | omega, by first | exact hps28.2.2.1 | omega, hRD⟩⟩
      ·
        refine z_aload_n X (x := A 19) rfl (List.Mem.head _) (s_getR X 19 rfl (c518_ok rfl) rfl rfl ?_)
        obtain ⟨tx127, q127, hR127, hS127⟩ := GT (127, [109, 111, 115, 116]) (by decide)
        refine w_ldcK X (show vk_R (kOwn k) 127 tx127 q127 (kS0 k) by rw [E.2.1, X.2.1.2.1]; exact hR127) (show decode (kCc k) 119 = .ok (.ldc 127, 2) by rw [X.2.1.1]; decide +kernel) (z_callV X 1 (rm := rmN 131) (As := [.ref q127]) (st := []) rfl rfl (by decide) rfl (by rw [E.1, E.2.1, E.2.2.1]; exact c10_says3 G SF hS127 (by decide) Is13 JBYW_s13 JTKS_s13 (by first | exact oq_e7b9ecab ws13_2 ws13_4 p1 | omega)) ⟨by rw [E.2.2.2]; exact (show 11 + 1 ≤ (12 + (4 * (r + 1) + 1)) from oq_21805ac9 r), by rw [E.2.2.2]; exact (show 8 + (3 + 11) + 206 ≤ (500 + 45 * (4 * (r + 1) + 1)) from oq_1a54e9c9 r), by rw [E.2.2.2]; exact Nat.le_refl 0, by rw [E.2.2.2]; exact Nat.le_refl 0⟩ (Nat.le_of_ble_eq_true rfl) (fun vv s37 hq => ?_) (fun ee s37 hq => ?_))
        rotate_left
        · obtain ⟨Is37, Fs37, JBYW_s37, JTKS_s37, e38, hv, hrs37, hps37⟩ := hq; cases hv
        obtain ⟨Is37, Fs37, JBYW_s37, JTKS_s37, e38, hv, hrs37, hps37⟩ := hq
        cases hv
        have Gs37 := fm_tq Gs13 Fs37 rfl rfl
        have JBYW_s37 : BYW B N s37 := BYW_fm Fs37 (by decide) JBYW_s13
        have JTKS_s37 : TKS B N s37 := TKS_fm Fs37 (by decide) JTKS_s13
        have ws37_2 : iI s37 2 = iI s13 2 := fm_iq Fs37 rfl
        have ws37_1 : iI s37 1 = iI s13 1 := fm_iq Fs37 rfl
        have ws37_4 : iI s37 4 = iI s13 4 := fm_iq Fs37 rfl
        have ws37_5 : iI s37 5 = iI s13 5 := fm_iq Fs37 rfl
        have ws37_6 : iI s37 6 = iI s13 6 := fm_iq Fs37 rfl
        have ws37_19 : iI s37 19 = iI s13 19 := fm_iq Fs37 rfl
        have ws37_16 : iI s37 16 = iI s13 16 := fm_iq Fs37 rfl
        have ws37_7 : iI s37 7 = iI s13 7 := fm_iq Fs37 rfl
        have dls37 : DL s37 = DL s := (DL_fm Fs37 (by decide) (by decide)).trans dls13
        have hws37 : (e38 = 1 ∧ whV B N (iI s 4) = 267347) ∨ (e38 = 0 ∧ whV B N (iI s 4) ≠ 267347) := by have h := hps37; rw [show iI s13 4 = iI s 4 by first | exact ws13_4 | (clear hps37 hps13 g12 g10; omega) | (clear hps13 g12 g10; omega) | omega, show whL [109, 111, 115, 116] 0 = 267347 by decide] at h; exact h
        show WS k 124 [(0, .ref (A 19))] [.int (Int32.ofInt e38)] (Wd A dT s37) 0 0
        refine z_if_eq X (t := 151) rfl rfl hrs37 (fun g39 => ?_) (fun g39 => ?_)
        ·
          refine z_aload_n X (x := A 19) rfl (List.Mem.head _) (z_callV X 19 (rm := rmN 79) (As := []) (st := []) rfl rfl (by decide) rfl (by rw [E.1, E.2.1, E.2.2.1]; exact c7_codeOfName3 G SF GT Is37 JBYW_s37 JTKS_s37 (by first | exact oq_4407eb3c ws37_1 ws37_2 ws13_1 ws13_2 p0 | omega) (by first | exact oq_4407eb3c ws37_2 ws37_4 ws13_2 ws13_4 p1 | omega)) ⟨by rw [E.2.2.2]; exact (show 12 + 1 ≤ (12 + (4 * (r + 1) + 1)) from oq_e4de711e r), by rw [E.2.2.2]; exact (show 8 + (1 + 11) + 228 ≤ (500 + 45 * (4 * (r + 1) + 1)) from oq_afe52482 r), by rw [E.2.2.2]; exact Nat.le_refl 0, by rw [E.2.2.2]; exact Nat.le_refl 0⟩ (Nat.le_of_ble_eq_true rfl) (fun vv s40 hq => ?_) (fun ee s40 hq => ?_))
          rotate_left
          · obtain ⟨Is40, Fs40, JBYW_s40, JTKS_s40, e41, hv, hrs40, hps40⟩ := hq; cases hv
          obtain ⟨Is40, Fs40, JBYW_s40, JTKS_s40, e41, hv, hrs40, hps40⟩ := hq
          cases hv
          have Gs40 := fm_tq Gs37 Fs40 rfl rfl
          have JBYW_s40 : BYW B N s40 := BYW_fm Fs40 (by decide) JBYW_s37
          have JTKS_s40 : TKS B N s40 := TKS_fm Fs40 (by decide) JTKS_s37
          have ws40_2 : iI s40 2 = iI s37 2 := fm_iq Fs40 rfl
          have ws40_1 : iI s40 1 = iI s37 1 := fm_iq Fs40 rfl
          have ws40_4 : iI s40 4 = iI s37 4 := fm_iq Fs40 rfl
          have ws40_5 : iI s40 5 = iI s37 5 := fm_iq Fs40 rfl
          have ws40_6 : iI s40 6 = iI s37 6 := fm_iq Fs40 rfl
          have ws40_19 : iI s40 19 = iI s37 19 := fm_iq Fs40 rfl
          have ws40_16 : iI s40 16 = iI s37 16 := fm_iq Fs40 rfl
          have ws40_7 : iI s40 7 = iI s37 7 := fm_iq Fs40 rfl
          have dls40 : DL s40 = DL s := (DL_fm Fs40 (by decide) (by decide)).trans dls37
          show WS k 155 [(0, .ref (A 19))] [.int (Int32.ofInt e41)] (Wd A dT s40) 0 0
          have hcn : (e41 = -20 ∧ nmC B N (iI s 4) = 0) ∨ (-7 ≤ e41 ∧ e41 ≤ -1 ∧ nmC B N (iI s 4) = e41) := by have h := hps40; rw [show iI s37 4 = (iI s 4) by first | exact oq_1aa5be9e ws37_4 ws13_4 | (clear hps40 hps37 hps13 g12 g10; omega) | (clear hps37 hps13 g12 g10; omega) | omega] at h; exact h
          refine z_store_n X (lv' := [(1, .int (Int32.ofInt e41)), (0, .ref (A 19))]) rfl (by decide) (fun _ h => h) (z_load_n X (x := e41) rfl (List.Mem.head _) (z_bipush X rfl (z_icmp_ne X (t := 171) rfl rfl hrs40 (by decide) (fun g42 => ?_) (fun g42 => ?_))))
          ·
            refine z_aload_n X (x := A 19) rfl (List.Mem.tail _ (List.Mem.head _)) (z_load_n X (x := e41) rfl (List.Mem.head _) ?_)
            have hwn := wh_let (nm_wh (show nmC B N (iI s 4) ≠ 0 by first | exact oq_932a7f8c g42 hcn | (clear g42 hps40 hps37 hps13 g12 g10; omega) | (clear hps40 hps37 hps13 g12 g10; omega) | omega)).1
            have hk3 : iI s 5 = -3 := Classical.byContradiction (fun q => (nm_wh (show nmC B N (iI s 4) ≠ 0 by first | exact oq_932a7f8c g42 hcn | (clear g42 hps40 hps37 hps13 g12 g10; omega) | (clear hps40 hps37 hps13 g12 g10; omega) | omega)).1 (hwd.2 q))
            have ha3 := (hwd.1 hk3).1
            refine z_callV X 19 (rm := rmN 82) (As := [.int (Int32.ofInt e41)]) (st := []) rfl rfl (by decide) rfl (by rw [E.1, E.2.1, E.2.2.1]; exact c7_put3 G Is40 (by first | exact ⟨oq_2da1d2e6 hcn, oq_ff24c752 hcn⟩ | omega) (by first | exact oq_53bd2106 ha3 hk3 ws40_16 ws37_16 ws13_16 b1.2 hwd.1 p3 | (clear g42 hps40 hps37 hps13 g12 g10; omega) | (clear hps40 hps37 hps13 g12 g10; omega) | omega)) ⟨by rw [E.2.2.2]; exact (show 6 + 1 ≤ (12 + (4 * (r + 1) + 1)) from oq_76ff689a r), by rw [E.2.2.2]; exact (show 8 + (2 + 11) + 100 ≤ (500 + 45 * (4 * (r + 1) + 1)) from oq_0822d50d r), by rw [E.2.2.2]; exact Nat.le_refl 0, by rw [E.2.2.2]; exact Nat.le_refl 0⟩ (Nat.le_of_ble_eq_true rfl) (fun vv s43 hq => ?_) (fun ee s43 hq => ?_)
            rotate_left
            · obtain ⟨Is43, Fs43, hv, hps43⟩ := hq; cases hv
            obtain ⟨Is43, Fs43, hv, hps43⟩ := hq
            cases hv
            have Gs43 := fm_tq Gs40 Fs43 rfl rfl
            have JBYW_s43 : BYW B N s43 := BYW_fm Fs43 (by decide) JBYW_s40
            have ws43_2 : iI s43 2 = iI s40 2 := fm_iq Fs43 rfl
            have ws43_1 : iI s43 1 = iI s40 1 := fm_iq Fs43 rfl
            have ws43_4 : iI s43 4 = iI s40 4 := fm_iq Fs43 rfl
            have ws43_5 : iI s43 5 = iI s40 5 := fm_iq Fs43 rfl
            have ws43_6 : iI s43 6 = iI s40 6 := fm_iq Fs43 rfl
            have ws43_19 : iI s43 19 = iI s40 19 := fm_iq Fs43 rfl
            have b45 := bi_16 Is43
            have ws43_7 : iI s43 7 = iI s40 7 := fm_iq Fs43 rfl
            have dls43 : DL s43 = DL s ++ [e41] := by rw [hps43.2, dls40]
            show WS k 176 [(1, .int (Int32.ofInt e41)), (0, .ref (A 19))] [] (Wd A dT s43) 0 0
            refine z_aload_n X (x := A 19) rfl (List.Mem.tail _ (List.Mem.head _)) (s_getR X 19 rfl (c518_ok rfl) rfl rfl (z_callV X 1 (rm := rmN 129) (As := []) (st := []) rfl rfl (by decide) rfl (by rw [E.1, E.2.1, E.2.2.1]; exact c10_step3 G Is43 JBYW_s43 (by first | exact oq_25674cec ws43_1 ws43_2 ws40_1 ws40_2 ws37_1 ws37_2 ws13_1 ws13_2 p0 | omega)) ⟨by rw [E.2.2.2]; exact (show 7 + 1 ≤ (12 + (4 * (r + 1) + 1)) from oq_9b435bb4 r), by rw [E.2.2.2]; exact (show 8 + (1 + 11) + 121 ≤ (500 + 45 * (4 * (r + 1) + 1)) from oq_f85a7cd7 r), by rw [E.2.2.2]; exact Nat.le_refl 0, by rw [E.2.2.2]; exact Nat.le_refl 0⟩ (Nat.le_of_ble_eq_true rfl) (fun vv s46 hq => ?_) (fun ee s46 hq => ?_)))
            rotate_left
            · obtain ⟨Is46, Fs46, JBYW_s46, JTKS_s46, hv, hps46⟩ := hq; cases hv
            obtain ⟨Is46, Fs46, JBYW_s46, JTKS_s46, hv, hps46⟩ := hq
            cases hv
            have Gs46 := fm_tq Gs43 Fs46 rfl rfl
            have JBYW_s46 : BYW B N s46 := BYW_fm Fs46 (by decide) JBYW_s43
            have b48 := bi_2 Is46
            have ws46_1 : iI s46 1 = iI s43 1 := fm_iq Fs46 rfl
            have b49 := bi_4 Is46
            have b50 := bi_5 Is46
            have b51 := bi_6 Is46
            have ws46_19 : iI s46 19 = iI s43 19 := fm_iq Fs46 rfl
            have ws46_16 : iI s46 16 = iI s43 16 := fm_iq Fs46 rfl
            have ws46_7 : iI s46 7 = iI s43 7 := fm_iq Fs46 rfl
            have dls46 : DL s46 = DL s ++ [e41] := (DL_fm Fs46 (by decide) (by decide)).trans dls43
            show WS k 183 [(1, .int (Int32.ofInt e41)), (0, .ref (A 19))] [] (Wd A dT s46) 0 0
            refine z_const X rfl ?_
            have hRD : RDc B N 0 (iI s 4) (iI s 19) (DL s) s46 1 := rd_ok (pu_nam (hdg.2 (by first | exact g10 | (clear g42 hps40 hps37 hps13 g12 g10; omega) | (clear hps40 hps37 hps13 g12 g10; omega) | omega)) (hc0.2 (by first | exact g12 | (clear g42 hps40 hps37 hps13 g12 g10; omega) | (clear hps40 hps37 hps13 g12 g10; omega) | omega)) (by first | exact oq_1219f188 g39 hws37 g15 hws13 | (clear g42 hps40 hps37 hps13 g12 g10; omega) | (clear hps40 hps37 hps13 g12 g10; omega) | omega) (by first | exact oq_932a7f8c g42 hcn | (clear g42 hps40 hps37 hps13 g12 g10; omega) | (clear hps40 hps37 hps13 g12 g10; omega) | omega)) (by rw [hps46.2.2.1, show iI s43 2 = wdE B N (iI s 4) by first | exact oq_b4d295d9 ws43_2 ha3 ws40_2 ws37_2 ws13_2 | (clear g42 hps40 hps37 hps13 g12 g10; omega) | (clear hps40 hps37 hps13 g12 g10; omega) | omega]) (by rw [dls46, show e41 = nmC B N (iI s 4) by first | exact oq_148ff907 g42 hcn | (clear g42 hps40 hps37 hps13 g12 g10; omega) | (clear hps40 hps37 hps13 g12 g10; omega) | omega])
            exact w_iret X.1 q hRt (nar_ret (by first | exact Or.inr (by decide) | omega)) (ax_d X (show cdA 77 184 = some (.ireturn, 1, 0, 0, 0) from rfl)) (Nat.zero_le _) (Nat.zero_le _) ⟨_, rfl, Is46, Gs46, JBYW_s46, JTKS_s46, 1, rfl, (by decide), ⟨rd_post hRD rfl (by first | exact oq_161a6600 hwn.1 | (clear g42 hps40 hps37 hps13 g12 g10; omega) | (clear hps40 hps37 hps13 g12 g10; omega) | omega) (by first | exact b7.1 | omega) (by first | exact oq_e4757433 ws46_16 b45.1 | omega) (fun h9 => by first | exact oq_469c7eaf ws46_19 ws43_19 ws40_19 ws37_19 ws13_19 | omega), by first | exact hps46.1 | omega, by first | exact hps46.2.1 | omega, hRD⟩⟩
          ·
            refine z_aload_n X (x := A 19) rfl (List.Mem.tail _ (List.Mem.head _)) (s_getR X 19 rfl (c518_ok rfl) rfl rfl (z_const X rfl (z_callV X 1 (rm := rmN 132) (As := [.int (Int32.ofInt 1)]) (st := []) rfl rfl (by decide) rfl (by rw [E.1, E.2.1, E.2.2.1]; exact c10_refuse3 G Is40 (by first | exact ⟨by decide, by decide⟩ | omega)) ⟨by rw [E.2.2.2]; exact (show 7 + 1 ≤ (12 + (4 * (r + 1) + 1)) from oq_9b435bb4 r), by rw [E.2.2.2]; exact (show 8 + (2 + 11) + 122 ≤ (500 + 45 * (4 * (r + 1) + 1)) from oq_1c2c1baf r), by rw [E.2.2.2]; exact Nat.le_refl 0, by rw [E.2.2.2]; exact Nat.le_refl 0⟩ (Nat.le_of_ble_eq_true rfl) (fun vv s52 hq => ?_) (fun ee s52 hq => ?_))))
            rotate_left
            · obtain ⟨Is52, Fs52, e53, hv, hrs52, hps52⟩ := hq; cases hv
            obtain ⟨Is52, Fs52, e53, hv, hrs52, hps52⟩ := hq
            cases hv
            have Gs52 := fm_tq Gs40 Fs52 rfl rfl
            have JBYW_s52 : BYW B N s52 := BYW_fm Fs52 (by decide) JBYW_s40
            have JTKS_s52 : TKS B N s52 := TKS_fm Fs52 (by decide) JTKS_s40
            have ws52_2 : iI s52 2 = iI s40 2 := fm_iq Fs52 rfl
            have ws52_1 : iI s52 1 = iI s40 1 := fm_iq Fs52 rfl
            have ws52_4 : iI s52 4 = iI s40 4 := fm_iq Fs52 rfl
            have ws52_5 : iI s52 5 = iI s40 5 := fm_iq Fs52 rfl
            have ws52_6 : iI s52 6 = iI s40 6 := fm_iq Fs52 rfl
            have ws52_19 : iI s52 19 = iI s40 19 := fm_iq Fs52 rfl
            have ws52_16 : iI s52 16 = iI s40 16 := fm_iq Fs52 rfl
            have b54 := bi_7 Is52
            have dls52 : DL s52 = DL s := (DL_fm Fs52 (by decide) (by decide)).trans dls40
            show WS k 170 [(1, .int (Int32.ofInt e41)), (0, .ref (A 19))] [.int (Int32.ofInt e53)] (Wd A dT s52) 0 0
            have hRD : RDc B N 0 (iI s 4) (iI s 19) (DL s) s52 e53 := by rw [show e53 = 0 by first | exact hps52.1 | (clear hps40 hps37 hps13 g12 g10; omega) | (clear hps37 hps13 g12 g10; omega) | omega]; exact rd_no (pu_no (hdg.2 (by first | exact g10 | (clear hps40 hps37 hps13 g12 g10; omega) | (clear hps37 hps13 g12 g10; omega) | omega)) (hc0.2 (by first | exact g12 | (clear hps40 hps37 hps13 g12 g10; omega) | (clear hps37 hps13 g12 g10; omega) | omega)) (by first | exact oq_1219f188 g39 hws37 g15 hws13 | (clear hps40 hps37 hps13 g12 g10; omega) | (clear hps37 hps13 g12 g10; omega) | omega) (by first | exact oq_d3044831 g42 hcn | (clear hps40 hps37 hps13 g12 g10; omega) | (clear hps37 hps13 g12 g10; omega) | omega)) (by decide) (by first | exact hps52.2 | (clear hps40 hps37 hps13 g12 g10; omega) | (clear hps37 hps13 g12 g10; omega) | omega)
            exact w_iret X.1 q hRt (nar_ret (by first | exact Or.inl (hps52.1) | omega)) (ax_d X (show cdA 77 170 = some (.ireturn, 1, 0, 0, 0) from rfl)) (Nat.zero_le _) (Nat.zero_le _) ⟨_, rfl, Is52, Gs52, JBYW_s52, JTKS_s52, e53, rfl, hrs52, ⟨rd_post hRD rfl (by first | exact oq_4547f4f6 hN p1 p0 | (clear hps40 hps37 hps13 g12 g10; omega) | (clear hps37 hps13 g12 g10; omega) | omega) (by first | exact b7.1 | omega) (by first | exact oq_ea8cf281 ws52_16 ws40_16 ws37_16 ws13_16 b7.1 | omega) (fun h9 => by first | exact oq_ac0e91e1 ws52_19 ws40_19 ws37_19 ws13_19 | omega), by first | exact oq_25674cec ws52_1 ws52_2 ws40_1 ws40_2 ws37_1 ws37_2 ws13_1 ws13_2 p0 | omega, by first | exact oq_969cff60 ws52_4 ws52_2 ws40_4 ws40_2 ws37_4 ws37_2 ws13_4 ws13_2 p1 | omega, hRD⟩⟩
        ·
          refine z_aload_n X (x := A 19) rfl (List.Mem.head _) (z_aload_n X (x := A 19) rfl (List.Mem.head _) (s_getR X 19 rfl (c518_ok rfl) rfl rfl ?_))
          obtain ⟨tx125, q125, hR125, hS125⟩ := GT (125, [108, 101, 97, 115, 116]) (by decide)
          refine w_ldcK X (show vk_R (kOwn k) 125 tx125 q125 (kS0 k) by rw [E.2.1, X.2.1.2.1]; exact hR125) (show decode (kCc k) 132 = .ok (.ldc 125, 2) by rw [X.2.1.1]; decide +kernel) (z_callV X 1 (rm := rmN 131) (As := [.ref q125]) (st := [.ref (A 19)]) rfl rfl (by decide) rfl (by rw [E.1, E.2.1, E.2.2.1]; exact c10_says3 G SF hS125 (by decide) Is37 JBYW_s37 JTKS_s37 (by first | exact oq_4407eb3c ws37_2 ws37_4 ws13_2 ws13_4 p1 | omega)) ⟨by rw [E.2.2.2]; exact (show 11 + 1 ≤ (12 + (4 * (r + 1) + 1)) from oq_21805ac9 r), by rw [E.2.2.2]; exact (show 8 + (3 + 11) + 206 ≤ (500 + 45 * (4 * (r + 1) + 1)) from oq_1a54e9c9 r), by rw [E.2.2.2]; exact Nat.le_refl 0, by rw [E.2.2.2]; exact Nat.le_refl 0⟩ (Nat.le_of_ble_eq_true rfl) (fun vv s55 hq => ?_) (fun ee s55 hq => ?_))
          rotate_left
          · obtain ⟨Is55, Fs55, JBYW_s55, JTKS_s55, e56, hv, hrs55, hps55⟩ := hq; cases hv
          obtain ⟨Is55, Fs55, JBYW_s55, JTKS_s55, e56, hv, hrs55, hps55⟩ := hq
          cases hv
          have Gs55 := fm_tq Gs37 Fs55 rfl rfl
          have JBYW_s55 : BYW B N s55 := BYW_fm Fs55 (by decide) JBYW_s37
          have JTKS_s55 : TKS B N s55 := TKS_fm Fs55 (by decide) JTKS_s37
          have ws55_2 : iI s55 2 = iI s37 2 := fm_iq Fs55 rfl
          have ws55_1 : iI s55 1 = iI s37 1 := fm_iq Fs55 rfl
          have ws55_4 : iI s55 4 = iI s37 4 := fm_iq Fs55 rfl
          have ws55_5 : iI s55 5 = iI s37 5 := fm_iq Fs55 rfl
          have ws55_6 : iI s55 6 = iI s37 6 := fm_iq Fs55 rfl
          have ws55_19 : iI s55 19 = iI s37 19 := fm_iq Fs55 rfl
          have ws55_16 : iI s55 16 = iI s37 16 := fm_iq Fs55 rfl
          have ws55_7 : iI s55 7 = iI s37 7 := fm_iq Fs55 rfl
          have dls55 : DL s55 = DL s := (DL_fm Fs55 (by decide) (by decide)).trans dls37
          have hws55 : (e56 = 1 ∧ whV B N (iI s 4) = 6476969) ∨ (e56 = 0 ∧ whV B N (iI s 4) ≠ 6476969) := by have h := hps55; rw [show iI s37 4 = iI s 4 by first | exact oq_1aa5be9e ws37_4 ws13_4 | (clear hps55 g39 hps37 hps13 g12 g10; omega) | (clear g39 hps37 hps13 g12 g10; omega) | omega, show whL [108, 101, 97, 115, 116] 0 = 6476969 by decide] at h; exact h
          show WS k 137 [(0, .ref (A 19))] [.int (Int32.ofInt e56), .ref (A 19)] (Wd A dT s55) 0 0
          refine z_if_eq X (t := 145) rfl rfl hrs55 (fun g57 => ?_) (fun g57 => ?_)
          ·
            refine z_bipush X rfl ?_
            have hx9 : whV B N (iI s55 4) = whV B N (iI s 4) := by rw [show iI s55 4 = iI s 4 by first | exact oq_878618b1 ws55_4 ws37_4 ws13_4 | (clear hps55 g39 hps37 hps13 g12 g10; omega) | (clear g39 hps37 hps13 g12 g10; omega) | omega]
            refine z_callV X 19 (rm := (rkR (4 * (r + 1)))) (As := [.int (Int32.ofInt (-14))]) (st := []) rfl rfl (by decide) rfl (by rw [E.1, E.2.1, E.2.2.1]; exact hT Is55 JBYW_s55 JTKS_s55 (by first | exact oq_d81af618 hx9 g39 hws37 | omega) (by first | exact oq_72ebe5a4 ws55_1 ws55_2 ws37_1 ws37_2 ws13_1 ws13_2 p0 | omega) (by first | exact oq_7f1a346e ws55_4 ws55_2 ws37_4 ws37_2 ws13_4 ws13_2 p1 | omega) (by first | exact oq_3ee132da p2 ws55_19 ws13_19 ws37_19 | omega) (by first | exact oq_7f1a346e ws55_16 ws55_4 ws37_16 ws37_4 ws13_16 ws13_4 p3 | omega)) ⟨by rw [E.2.2.2]; exact (show (12 + (4 * (r + 1))) + 1 ≤ (12 + (4 * (r + 1) + 1)) from oq_183d1057 r), by rw [E.2.2.2]; exact (show 8 + (2 + 11) + (500 + 45 * (4 * (r + 1))) ≤ (500 + 45 * (4 * (r + 1) + 1)) from oq_ce6206a2 r), by rw [E.2.2.2]; exact Nat.le_refl 0, by rw [E.2.2.2]; exact Nat.le_refl 0⟩ (Nat.le_of_ble_eq_true rfl) (fun vv s58 hq => ?_) (fun ee s58 hq => ?_)
            rotate_left
            · obtain ⟨Is58, Fs58, JBYW_s58, JTKS_s58, e59, hv, hrs58, hps58⟩ := hq; cases hv
            obtain ⟨Is58, Fs58, JBYW_s58, JTKS_s58, e59, hv, hrs58, hps58⟩ := hq
            have hps58p := And.intro hps58.2.1 (And.intro hps58.2.2.1 (hps58.2.2.2))
            cases hv
            have Gs58 := fm_tq Gs55 Fs58 rfl rfl
            have JBYW_s58 : BYW B N s58 := BYW_fm Fs58 (by decide) JBYW_s55
            have b60 := bi_2 Is58
            have ws58_1 : iI s58 1 = iI s55 1 := fm_iq Fs58 rfl
            have b61 := bi_4 Is58
            have b62 := bi_5 Is58
            have b63 := bi_6 Is58
            have b64 := bi_19 Is58
            have b65 := bi_16 Is58
            have b66 := bi_7 Is58
            show WS k 150 [(0, .ref (A 19))] [.int (Int32.ofInt e59)] (Wd A dT s58) 0 0
            have hRD : RDc B N 0 (iI s 4) (iI s 19) (DL s) s58 e59 := by have h := hps58.2.2.2; rw [show iI s55 4 = iI s 4 by first | exact oq_878618b1 ws55_4 ws37_4 ws13_4 | (clear hps58 hps55 g39 hps37 hps13 g12 g10; omega) | (clear hps55 g39 hps37 hps13 g12 g10; omega) | omega, show iI s55 19 = iI s 19 by first | exact oq_878618b1 ws55_19 ws37_19 ws13_19 | (clear hps58 hps55 g39 hps37 hps13 g12 g10; omega) | (clear hps55 g39 hps37 hps13 g12 g10; omega) | omega, dls55] at h; exact h
            exact w_iret X.1 q hRt (nar_ret (by first | exact oq_a0a77773 hps58.1 | omega)) (ax_d X (show cdA 77 150 = some (.ireturn, 1, 0, 0, 0) from rfl)) (Nat.zero_le _) (Nat.zero_le _) ⟨_, rfl, Is58, Gs58, JBYW_s58, JTKS_s58, e59, rfl, hrs58, ⟨rd_post hRD rfl (by first | exact oq_4547f4f6 hN p1 p0 | (clear hps58 hps55 g39 hps37 hps13 g12 g10; omega) | (clear hps55 g39 hps37 hps13 g12 g10; omega) | omega) (by first | exact b7.1 | omega) (by first | exact b65.1 | omega) (fun h9 => by first | exact oq_b131d121 h9 hps58.1 ws55_19 ws37_19 ws13_19 | (clear hps58 hps55 g39 hps37 hps13 g12 g10; omega) | (clear hps55 g39 hps37 hps13 g12 g10; omega) | omega), by first | exact hps58.2.1 | omega, by first | exact hps58.2.2.1 | omega, hRD⟩⟩
          ·
            refine z_bipush X rfl (z_goto X (t := 147) rfl rfl ?_)
            have hx9 : whV B N (iI s55 4) = whV B N (iI s 4) := by rw [show iI s55 4 = iI s 4 by first | exact oq_878618b1 ws55_4 ws37_4 ws13_4 | (clear g57 hps55 g39 hps37 hps13 g12 g10; omega) | (clear hps55 g39 hps37 hps13 g12 g10; omega) | omega]
            refine z_callV X 19 (rm := (rkR (4 * (r + 1)))) (As := [.int (Int32.ofInt (-13))]) (st := []) rfl rfl (by decide) rfl (by rw [E.1, E.2.1, E.2.2.1]; exact hT Is55 JBYW_s55 JTKS_s55 (by first | exact oq_48540d0e g57 hws55 g39 hws37 | omega) (by first | exact oq_72ebe5a4 ws55_1 ws55_2 ws37_1 ws37_2 ws13_1 ws13_2 p0 | omega) (by first | exact oq_7f1a346e ws55_4 ws55_2 ws37_4 ws37_2 ws13_4 ws13_2 p1 | omega) (by first | exact oq_3ee132da p2 ws55_19 ws13_19 ws37_19 | omega) (by first | exact oq_7f1a346e ws55_16 ws55_4 ws37_16 ws37_4 ws13_16 ws13_4 p3 | omega)) ⟨by rw [E.2.2.2]; exact (show (12 + (4 * (r + 1))) + 1 ≤ (12 + (4 * (r + 1) + 1)) from oq_183d1057 r), by rw [E.2.2.2]; exact (show 8 + (2 + 11) + (500 + 45 * (4 * (r + 1))) ≤ (500 + 45 * (4 * (r + 1) + 1)) from oq_ce6206a2 r), by rw [E.2.2.2]; exact Nat.le_refl 0, by rw [E.2.2.2]; exact Nat.le_refl 0⟩ (Nat.le_of_ble_eq_true rfl) (fun vv s67 hq => ?_) (fun ee s67 hq => ?_)
            rotate_left
            · obtain ⟨Is67, Fs67, JBYW_s67, JTKS_s67, e68, hv, hrs67, hps67⟩ := hq; cases hv
            obtain ⟨Is67, Fs67, JBYW_s67, JTKS_s67, e68, hv, hrs67, hps67⟩ := hq
            have hps67p := And.intro hps67.2.1 (And.intro hps67.2.2.1 (hps67.2.2.2))
            cases hv
            have Gs67 := fm_tq Gs55 Fs67 rfl rfl
            have JBYW_s67 : BYW B N s67 := BYW_fm Fs67 (by decide) JBYW_s55
            have b69 := bi_2 Is67
            have ws67_1 : iI s67 1 = iI s55 1 := fm_iq Fs67 rfl
            have b70 := bi_4 Is67
            have b71 := bi_5 Is67
            have b72 := bi_6 Is67
            have b73 := bi_19 Is67
            have b74 := bi_16 Is67
            have b75 := bi_7 Is67
            show WS k 150 [(0, .ref (A 19))] [.int (Int32.ofInt e68)] (Wd A dT s67) 0 0
            have hRD : RDc B N 0 (iI s 4) (iI s 19) (DL s) s67 e68 := by have h := hps67.2.2.2; rw [show iI s55 4 = iI s 4 by first | exact oq_878618b1 ws55_4 ws37_4 ws13_4 | (clear hps67 g57 hps55 g39 hps37 hps13 g12 g10; omega) | (clear g57 hps55 g39 hps37 hps13 g12 g10; omega) | omega, show iI s55 19 = iI s 19 by first | exact oq_878618b1 ws55_19 ws37_19 ws13_19 | (clear hps67 g57 hps55 g39 hps37 hps13 g12 g10; omega) | (clear g57 hps55 g39 hps37 hps13 g12 g10; omega) | omega, dls55] at h; exact h
            exact w_iret X.1 q hRt (nar_ret (by first | exact oq_a2ffbee5 g57 hws55 g39 hws37 | omega)) (ax_d X (show cdA 77 150 = some (.ireturn, 1, 0, 0, 0) from rfl)) (Nat.zero_le _) (Nat.zero_le _) ⟨_, rfl, Is67, Gs67, JBYW_s67, JTKS_s67, e68, rfl, hrs67, ⟨rd_post hRD rfl (by first | exact oq_e61be49c g57 hws55 g39 hws37 | omega) (by first | exact b7.1 | omega) (by first | exact b74.1 | omega) (fun h9 => by first | exact oq_fa1d1fac g57 hws55 g39 hws37 | omega), by first | exact hps67.2.1 | omega, by first | exact hps67.2.2.1 | omega, hRD⟩⟩
    ·
      have hC := (hc0.1 (by first | exact g12 | (clear g10; omega) | omega)).1
      have hA := (hc0.1 (by first | exact g12 | (clear g10; omega) | omega)).2
      refine z_aload_n X (x := A 19) rfl (List.Mem.head _) (z_callV X 19 (rm := rmN 80) (As := []) (st := []) rfl rfl (by decide) rfl (by rw [E.1, E.2.1, E.2.2.1]; exact c7_enter3 G I jBYW jTKS (by first | exact p0 | omega) (by first | exact p1 | omega)) ⟨by rw [E.2.2.2]; exact (show 8 + 1 ≤ (12 + (4 * (r + 1) + 1)) from oq_8e0cc864 r), by rw [E.2.2.2]; exact (show 8 + (1 + 11) + 143 ≤ (500 + 45 * (4 * (r + 1) + 1)) from oq_333da77b r), by rw [E.2.2.2]; exact Nat.le_refl 0, by rw [E.2.2.2]; exact Nat.le_refl 0⟩ (Nat.le_of_ble_eq_true rfl) (fun vv s76 hq => ?_) (fun ee s76 hq => ?_))
      rotate_left
      · obtain ⟨Is76, Fs76, JBYW_s76, JTKS_s76, e77, hv, hrs76, hps76⟩ := hq; cases hv
      obtain ⟨Is76, Fs76, JBYW_s76, JTKS_s76, e77, hv, hrs76, hps76⟩ := hq
      have hps76p := And.intro hps76.2.1 (hps76.2.2)
      cases hv
      have Gs76 := fm_tq F Fs76 rfl rfl
      have JBYW_s76 : BYW B N s76 := BYW_fm Fs76 (by decide) jBYW
      have b78 := bi_2 Is76
      have ws76_1 : iI s76 1 = iI s 1 := fm_iq Fs76 rfl
      have b79 := bi_4 Is76
      have b80 := bi_5 Is76
      have b81 := bi_6 Is76
      have b82 := bi_19 Is76
      have ws76_16 : iI s76 16 = iI s 16 := fm_iq Fs76 rfl
      have b83 := bi_7 Is76
      have dls76 : DL s76 = DL s := (DL_fm Fs76 (by decide) (by decide)).trans rfl
      show WS k 70 [(0, .ref (A 19))] [.int (Int32.ofInt e77)] (Wd A dT s76) 0 0
      refine z_if_eq X (t := 89) rfl rfl hrs76 (fun g84 => ?_) (fun g84 => ?_)
      ·
        refine z_const X rfl ?_
        have hRD : RDc B N 0 (iI s 4) (iI s 19) (DL s) s76 0 := rd_no (pu_p3 hC (by first | exact oq_8a8a8b53 g84 hps76.1 | (clear hps76 g10; omega) | (clear g10; omega) | omega)) (by decide) (by first | exact oq_f447e429 g84 hps76.1 | (clear hps76 g10; omega) | (clear g10; omega) | omega)
        exact w_iret X.1 q hRt (nar_ret (by first | exact Or.inl (by decide) | omega)) (ax_d X (show cdA 77 90 = some (.ireturn, 1, 0, 0, 0) from rfl)) (Nat.zero_le _) (Nat.zero_le _) ⟨_, rfl, Is76, Gs76, JBYW_s76, JTKS_s76, 0, rfl, (by decide), ⟨rd_post hRD rfl (by first | exact oq_2a39d009 hA hN p0 | (clear hps76 g10; omega) | (clear g10; omega) | omega) (by first | exact b7.1 | omega) (by first | exact oq_e4757433 ws76_16 b7.1 | omega) (fun h9 => absurd rfl h9), by first | exact hps76.2.1 | omega, by first | exact hps76.2.2 | omega, hRD⟩⟩
      ·
        have hs2 : iI s76 4 = sk B N ((iI s 4) + 1) := by exact Or.elim hps76.1 (fun q => by first | exact oq_b6b913de q.1 g84 | (clear g84 hps76 g10; omega) | (clear hps76 g10; omega) | omega) (fun q => by rw [q.2.2.2.1, show iI s 2 = (iI s 4) + 1 by first | exact hA | (clear g84 hps76 g10; omega) | (clear hps76 g10; omega) | omega])
        refine z_aload_n X (x := A 19) rfl (List.Mem.head _) (z_callV X 19 (rm := (rkR (4 * (r) + 3))) (As := []) (st := []) rfl rfl (by decide) rfl (by rw [E.1, E.2.1, E.2.2.1]; exact hS Is76 JBYW_s76 JTKS_s76 (by first | exact hps76.2.1 | omega) (by first | exact hps76.2.2 | omega) (by first | exact oq_b1d446ca g84 hps76.1 p2 | omega) (by first | exact oq_ef580355 g84 ws76_16 hps76.1 p3 p1 | omega)) ⟨by rw [E.2.2.2]; exact (show (12 + (4 * (r) + 3)) + 1 ≤ (12 + (4 * (r + 1) + 1)) from oq_40927492 r), by rw [E.2.2.2]; exact (show 8 + (3 + 11) + (500 + 45 * (4 * (r) + 3)) ≤ (500 + 45 * (4 * (r + 1) + 1)) from oq_c8d9c730 r), by rw [E.2.2.2]; exact Nat.le_refl 0, by rw [E.2.2.2]; exact Nat.le_refl 0⟩ (Nat.le_of_ble_eq_true rfl) (fun vv s85 hq => ?_) (fun ee s85 hq => ?_))
        rotate_left
        · obtain ⟨Is85, Fs85, JBYW_s85, JTKS_s85, e86, hv, hrs85, hps85⟩ := hq; cases hv
        obtain ⟨Is85, Fs85, JBYW_s85, JTKS_s85, e86, hv, hrs85, hps85⟩ := hq
        have hps85p := And.intro hps85.2.1 (And.intro hps85.2.2.1 (hps85.2.2.2))
        cases hv
        have Gs85 := fm_tq Gs76 Fs85 rfl rfl
        have JBYW_s85 : BYW B N s85 := BYW_fm Fs85 (by decide) JBYW_s76
        have b87 := bi_2 Is85
        have ws85_1 : iI s85 1 = iI s76 1 := fm_iq Fs85 rfl
        have b88 := bi_4 Is85
        have b89 := bi_5 Is85
        have b90 := bi_6 Is85
        have b91 := bi_19 Is85
        have b92 := bi_16 Is85
        have b93 := bi_7 Is85
        show WS k 77 [(0, .ref (A 19))] [.int (Int32.ofInt e86)] (Wd A dT s85) 0 0
        refine z_if_eq X (t := 89) rfl rfl hrs85 (fun g94 => ?_) (fun g94 => ?_)
        ·
          refine z_const X rfl ?_
          have hRD : RDc B N 0 (iI s 4) (iI s 19) (DL s) s85 0 := rd_bad (by have h := hps85.2.2.2; rw [show iI s76 4 = sk B N ((iI s 4) + 1) by first | exact hs2 | omega, show iI s76 19 = iI s 19 + 1 by first | exact oq_7736c826 g84 hps76.1 | omega] at h; exact h) (by first | exact g94 | (clear hps85 g84 hps76 g10; omega) | (clear g84 hps76 g10; omega) | omega) (by first | exact rfl | (clear hps85 g84 hps76 g10; omega) | (clear g84 hps76 g10; omega) | omega) (fun r h z => pu_pb hC (by first | exact oq_48b8ce49 g84 hps76.1 | (clear hps85 g84 hps76 g10; omega) | (clear g84 hps76 g10; omega) | omega) h z)
          exact w_iret X.1 q hRt (nar_ret (by first | exact Or.inl (by decide) | omega)) (ax_d X (show cdA 77 90 = some (.ireturn, 1, 0, 0, 0) from rfl)) (Nat.zero_le _) (Nat.zero_le _) ⟨_, rfl, Is85, Gs85, JBYW_s85, JTKS_s85, 0, rfl, (by decide), ⟨rd_post hRD rfl (by first | exact oq_2a39d009 hA hN p0 | (clear hps85 g84 hps76 g10; omega) | (clear g84 hps76 g10; omega) | omega) (by first | exact b7.1 | omega) (by first | exact b92.1 | omega) (fun h9 => absurd rfl h9), by first | exact hps85.2.1 | omega, by first | exact hps85.2.2.1 | omega, hRD⟩⟩
        ·
          refine z_aload_n X (x := A 19) rfl (List.Mem.head _) (z_bipush X rfl (z_callV X 19 (rm := rmN 81) (As := [.int (Int32.ofInt 41)]) (st := []) rfl rfl (by decide) rfl (by rw [E.1, E.2.1, E.2.2.1]; exact c7_pass3 G Is85 JBYW_s85 JTKS_s85 (by first | exact ⟨by decide, by decide⟩ | omega) (by first | exact Or.inl (by decide) | omega) (by first | exact Or.inl (by decide) | omega) (by first | exact hps85.2.1 | omega) (by first | exact hps85.2.2.1 | omega)) ⟨by rw [E.2.2.2]; exact (show 8 + 1 ≤ (12 + (4 * (r + 1) + 1)) from oq_8e0cc864 r), by rw [E.2.2.2]; exact (show 8 + (2 + 11) + 143 ≤ (500 + 45 * (4 * (r + 1) + 1)) from oq_46451eae r), by rw [E.2.2.2]; exact Nat.le_refl 0, by rw [E.2.2.2]; exact Nat.le_refl 0⟩ (Nat.le_of_ble_eq_true rfl) (fun vv s95 hq => ?_) (fun ee s95 hq => ?_)))
          rotate_left
          · obtain ⟨Is95, Fs95, JBYW_s95, JTKS_s95, e96, hv, hrs95, hps95⟩ := hq; cases hv
          obtain ⟨Is95, Fs95, JBYW_s95, JTKS_s95, e96, hv, hrs95, hps95⟩ := hq
          have hps95p := And.intro hps95.2.1 (And.intro hps95.2.2.1 (hps95.2.2.2))
          cases hv
          have Gs95 := fm_tq Gs85 Fs95 rfl rfl
          have JBYW_s95 : BYW B N s95 := BYW_fm Fs95 (by decide) JBYW_s85
          have b97 := bi_2 Is95
          have ws95_1 : iI s95 1 = iI s85 1 := fm_iq Fs95 rfl
          have b98 := bi_4 Is95
          have b99 := bi_5 Is95
          have b100 := bi_6 Is95
          have ws95_19 : iI s95 19 = iI s85 19 := fm_iq Fs95 rfl
          have ws95_16 : iI s95 16 = iI s85 16 := fm_iq Fs95 rfl
          have b101 := bi_7 Is95
          have dls95 : DL s95 = DL s85 := (DL_fm Fs95 (by decide) (by decide)).trans rfl
          show WS k 86 [(0, .ref (A 19))] [.int (Int32.ofInt e96)] (Wd A dT s95) 0 0
          refine z_if_ne X (t := 91) rfl rfl hrs95 (fun g102 => ?_) (fun g102 => ?_)
          ·
            refine z_aload_n X (x := A 19) rfl (List.Mem.head _) (w_dup X.1 (ax_d X (show cdA 77 92 = some (.dup, 1, 0, 0, 0) from rfl)) rfl (z_getI X 19 rfl (c518_ok rfl) rfl rfl ?_))
            have b103 := bi_19 Is95
            refine z_const X rfl (z_sub X rfl (s_putI X 19 rfl (c518_ok rfl) rfl rfl (by decide) rfl rfl rfl (wd_gen (fun s104 hs104 => ?_))))
            have Is104 : Bd s104 := eqB hs104 (bd_I Is95 (show (0 : Int) ≤ ((iI s95 19) - 1) ∧ ((iI s95 19) - 1) ≤ 6 by first | exact ⟨oq_11a45c10 ws95_19 g94 hps85.1 g84 hps76.1 b6.1, oq_a9606c0d b103.2⟩ | omega) ⟨by first | exact oq_c1e961c7 b103.1 | omega, by first | exact oq_b383b26c b103.2 | omega⟩)
            have Fs104 := eqF hs104 (fm_I Gs95 (inl_ok (a := 19) rfl))
            have vs104 : iI s104 19 = ((iI s95 19) - 1) := eqI hs104 (iI_u ⟨by first | exact oq_c1e961c7 b103.1 | omega, by first | exact oq_b383b26c b103.2 | omega⟩)
            have ws104_2 : iI s104 2 = iI s95 2 := eqI hs104 rfl
            have ws104_1 : iI s104 1 = iI s95 1 := eqI hs104 rfl
            have ws104_4 : iI s104 4 = iI s95 4 := eqI hs104 rfl
            have ws104_5 : iI s104 5 = iI s95 5 := eqI hs104 rfl
            have ws104_6 : iI s104 6 = iI s95 6 := eqI hs104 rfl
            have ws104_16 : iI s104 16 = iI s95 16 := eqI hs104 rfl
            have ws104_7 : iI s104 7 = iI s95 7 := eqI hs104 rfl
            have dls104 : DL s104 = DL s85 := by rw [hs104]; exact dls95
            have fs104 : Fm [19] [] s95 s104 := by rw [hs104]; exact fm_I (fm_rf _ _ _) (show 19 ∈ _ by decide)
            have JBYW_s104 : BYW B N s104 := BYW_fm fs104 (by decide) JBYW_s95
            have JTKS_s104 : TKS B N s104 := TKS_fm fs104 (by decide) JTKS_s95
            refine z_const X rfl ?_
            have hRD : RDc B N 0 (iI s 4) (iI s 19) (DL s) s104 1 := by have h := rd_par (o := iI s 19) (v := s104) hC (by first | exact oq_48b8ce49 g84 hps76.1 | (clear g102 hps95 g94 hps85 g84 hps76 g10; omega) | (clear hps95 g94 hps85 g84 hps76 g10; omega) | omega) (by have h := hps85.2.2.2; rw [show iI s76 4 = sk B N ((iI s 4) + 1) by first | exact hs2 | omega, show iI s76 19 = iI s 19 + 1 by first | exact oq_7736c826 g84 hps76.1 | omega] at h; exact h) (dls76) (by first | exact g94 | (clear g102 hps95 g94 hps85 g84 hps76 g10; omega) | (clear hps95 g94 hps85 g84 hps76 g10; omega) | omega) hps95.2.2.2 (by rw [dls104]) (by first | exact ws104_4 | (clear g102 hps95 g94 hps85 g84 hps76 g10; omega) | (clear hps95 g94 hps85 g84 hps76 g10; omega) | omega) (by first | exact ws104_7 | (clear g102 hps95 g94 hps85 g84 hps76 g10; omega) | (clear hps95 g94 hps85 g84 hps76 g10; omega) | omega); rw [show e96 = 1 by first | exact oq_46b3e003 g102 hps95.1 | (clear g102 hps95 g94 hps85 g84 hps76 g10; omega) | (clear hps95 g94 hps85 g84 hps76 g10; omega) | omega] at h; exact h
            exact w_iret X.1 q hRt (nar_ret (by first | exact Or.inr (by decide) | omega)) (ax_d X (show cdA 77 102 = some (.ireturn, 1, 0, 0, 0) from rfl)) (Nat.zero_le _) (Nat.zero_le _) ⟨_, rfl, Is104, Fs104, JBYW_s104, JTKS_s104, 1, rfl, (by decide), ⟨rd_post hRD rfl (by first | exact oq_a7aeda53 g94 hps85.1 g84 hps76.1 p1 | omega) (by first | exact b7.1 | omega) (by first | exact oq_0f93fca7 ws104_16 ws95_16 b92.1 | omega) (fun h9 => by first | exact oq_a734e65a vs104 ws95_19 g94 hps85.1 g84 hps76.1 | omega), by first | exact oq_e7b9ecab ws104_1 ws104_2 hps95.2.1 | omega, by first | exact oq_e7b9ecab ws104_2 ws104_4 hps95.2.2.1 | omega, hRD⟩⟩
          ·
            refine z_const X rfl ?_
            have hRD : RDc B N 0 (iI s 4) (iI s 19) (DL s) s95 0 := by have h := rd_par (o := iI s 19) (v := s95) hC (by first | exact oq_48b8ce49 g84 hps76.1 | (clear hps95 g94 hps85 g84 hps76 g10; omega) | (clear g94 hps85 g84 hps76 g10; omega) | omega) (by have h := hps85.2.2.2; rw [show iI s76 4 = sk B N ((iI s 4) + 1) by first | exact hs2 | omega, show iI s76 19 = iI s 19 + 1 by first | exact oq_7736c826 g84 hps76.1 | omega] at h; exact h) (dls76) (by first | exact g94 | (clear hps95 g94 hps85 g84 hps76 g10; omega) | (clear g94 hps85 g84 hps76 g10; omega) | omega) hps95.2.2.2 (by rw [dls95]) (by first | exact rfl | (clear hps95 g94 hps85 g84 hps76 g10; omega) | (clear g94 hps85 g84 hps76 g10; omega) | omega) (by first | exact rfl | (clear hps95 g94 hps85 g84 hps76 g10; omega) | (clear g94 hps85 g84 hps76 g10; omega) | omega); rw [show e96 = 0 by first | exact g102 | (clear hps95 g94 hps85 g84 hps76 g10; omega) | (clear g94 hps85 g84 hps76 g10; omega) | omega] at h; exact h
            exact w_iret X.1 q hRt (nar_ret (by first | exact Or.inl (by decide) | omega)) (ax_d X (show cdA 77 90 = some (.ireturn, 1, 0, 0, 0) from rfl)) (Nat.zero_le _) (Nat.zero_le _) ⟨_, rfl, Is95, Gs95, JBYW_s95, JTKS_s95, 0, rfl, (by decide), ⟨rd_post hRD rfl (by first | exact oq_a7aeda53 g94 hps85.1 g84 hps76.1 p1 | omega) (by first | exact b7.1 | omega) (by first | exact oq_e4757433 ws95_16 b92.1 | omega) (fun h9 => absurd rfl h9), by first | exact hps95.2.1 | omega, by first | exact hps95.2.2.1 | omega, hRD⟩⟩
  ·
    have hz := hdg.1 (by first | exact g10 | omega)
    refine z_aload_n X (x := A 19) rfl (List.Mem.head _) (s_getR X 19 rfl (c518_ok rfl) rfl rfl (z_getI X 1 rfl (c518_ok rfl) rfl rfl ?_))
    have b105 := bi_6 I
    refine z_sipush X rfl (z_icmp_le X (t := 34) rfl rfl (rng_to _) (by decide) (fun g106 => ?_) (fun g106 => ?_))
    ·
      refine z_aload_n X (x := A 19) rfl (List.Mem.head _) (z_aload_n X (x := A 19) rfl (List.Mem.head _) (s_getR X 19 rfl (c518_ok rfl) rfl rfl (z_getI X 1 rfl (c518_ok rfl) rfl rfl ?_)))
      have b107 := bi_6 I
      refine z_callV X 19 (rm := rmN 82) (As := [.int (Int32.ofInt (iI s 6))]) (st := []) rfl rfl (by decide) rfl (by rw [E.1, E.2.1, E.2.2.1]; exact c7_put3 G I (by first | exact ⟨oq_fa4e5087 b107.1, oq_25953902 b107.2⟩ | omega) (by omega)) ⟨by rw [E.2.2.2]; exact (show 6 + 1 ≤ (12 + (4 * (r + 1) + 1)) from oq_76ff689a r), by rw [E.2.2.2]; exact (show 8 + (2 + 11) + 100 ≤ (500 + 45 * (4 * (r + 1) + 1)) from oq_0822d50d r), by rw [E.2.2.2]; exact Nat.le_refl 0, by rw [E.2.2.2]; exact Nat.le_refl 0⟩ (Nat.le_of_ble_eq_true rfl) (fun vv s108 hq => ?_) (fun ee s108 hq => ?_)
      rotate_left
      · obtain ⟨Is108, Fs108, hv, hps108⟩ := hq; cases hv
      obtain ⟨Is108, Fs108, hv, hps108⟩ := hq
      cases hv
      have Gs108 := fm_tq F Fs108 rfl rfl
      have JBYW_s108 : BYW B N s108 := BYW_fm Fs108 (by decide) jBYW
      have ws108_2 : iI s108 2 = iI s 2 := fm_iq Fs108 rfl
      have ws108_1 : iI s108 1 = iI s 1 := fm_iq Fs108 rfl
      have ws108_4 : iI s108 4 = iI s 4 := fm_iq Fs108 rfl
      have ws108_5 : iI s108 5 = iI s 5 := fm_iq Fs108 rfl
      have ws108_6 : iI s108 6 = iI s 6 := fm_iq Fs108 rfl
      have ws108_19 : iI s108 19 = iI s 19 := fm_iq Fs108 rfl
      have b110 := bi_16 Is108
      have ws108_7 : iI s108 7 = iI s 7 := fm_iq Fs108 rfl
      have dls108 : DL s108 = DL s ++ [(iI s 6)] := by rw [hps108.2]
      show WS k 45 [(0, .ref (A 19))] [] (Wd A dT s108) 0 0
      refine z_aload_n X (x := A 19) rfl (List.Mem.head _) (s_getR X 19 rfl (c518_ok rfl) rfl rfl (z_callV X 1 (rm := rmN 129) (As := []) (st := []) rfl rfl (by decide) rfl (by rw [E.1, E.2.1, E.2.2.1]; exact c10_step3 G Is108 JBYW_s108 (by first | exact oq_e7b9ecab ws108_1 ws108_2 p0 | omega)) ⟨by rw [E.2.2.2]; exact (show 7 + 1 ≤ (12 + (4 * (r + 1) + 1)) from oq_9b435bb4 r), by rw [E.2.2.2]; exact (show 8 + (1 + 11) + 121 ≤ (500 + 45 * (4 * (r + 1) + 1)) from oq_f85a7cd7 r), by rw [E.2.2.2]; exact Nat.le_refl 0, by rw [E.2.2.2]; exact Nat.le_refl 0⟩ (Nat.le_of_ble_eq_true rfl) (fun vv s111 hq => ?_) (fun ee s111 hq => ?_)))
      rotate_left
      · obtain ⟨Is111, Fs111, JBYW_s111, JTKS_s111, hv, hps111⟩ := hq; cases hv
      obtain ⟨Is111, Fs111, JBYW_s111, JTKS_s111, hv, hps111⟩ := hq
      cases hv
      have Gs111 := fm_tq Gs108 Fs111 rfl rfl
      have JBYW_s111 : BYW B N s111 := BYW_fm Fs111 (by decide) JBYW_s108
      have b113 := bi_2 Is111
      have ws111_1 : iI s111 1 = iI s108 1 := fm_iq Fs111 rfl
      have b114 := bi_4 Is111
      have b115 := bi_5 Is111
      have b116 := bi_6 Is111
      have ws111_19 : iI s111 19 = iI s108 19 := fm_iq Fs111 rfl
      have ws111_16 : iI s111 16 = iI s108 16 := fm_iq Fs111 rfl
      have ws111_7 : iI s111 7 = iI s108 7 := fm_iq Fs111 rfl
      have dls111 : DL s111 = DL s ++ [(iI s 6)] := (DL_fm Fs111 (by decide) (by decide)).trans dls108
      show WS k 52 [(0, .ref (A 19))] [] (Wd A dT s111) 0 0
      refine z_const X rfl ?_
      have hRD : RDc B N 0 (iI s 4) (iI s 19) (DL s) s111 1 := rd_ok (pu_num hz.1 (by first | exact oq_5d54bdf4 g106 hz.2.1 | omega)) (by rw [hps111.2.2.1, show iI s108 2 = nmE B N (iI s 4) 0 by first | exact oq_1aa5be9e ws108_2 hz.2.2 | omega]) (by rw [dls111, show (iI s 6) = nmV B N (iI s 4) 0 by first | exact hz.2.1 | omega])
      exact w_iret X.1 q hRt (nar_ret (by first | exact Or.inr (by decide) | omega)) (ax_d X (show cdA 77 53 = some (.ireturn, 1, 0, 0, 0) from rfl)) (Nat.zero_le _) (Nat.zero_le _) ⟨_, rfl, Is111, Gs111, JBYW_s111, JTKS_s111, 1, rfl, (by decide), ⟨rd_post hRD rfl (by first | exact oq_4547f4f6 hN p1 p0 | omega) (by first | exact b7.1 | omega) (by first | exact oq_e4757433 ws111_16 b110.1 | omega) (fun h9 => by first | exact oq_1aa5be9e ws111_19 ws108_19 | omega), by first | exact hps111.1 | omega, by first | exact hps111.2.1 | omega, hRD⟩⟩
    ·
      refine z_aload_n X (x := A 19) rfl (List.Mem.head _) (s_getR X 19 rfl (c518_ok rfl) rfl rfl (z_const X rfl (z_callV X 1 (rm := rmN 132) (As := [.int (Int32.ofInt 2)]) (st := []) rfl rfl (by decide) rfl (by rw [E.1, E.2.1, E.2.2.1]; exact c10_refuse3 G I (by first | exact ⟨by decide, by decide⟩ | omega)) ⟨by rw [E.2.2.2]; exact (show 7 + 1 ≤ (12 + (4 * (r + 1) + 1)) from oq_9b435bb4 r), by rw [E.2.2.2]; exact (show 8 + (2 + 11) + 122 ≤ (500 + 45 * (4 * (r + 1) + 1)) from oq_1c2c1baf r), by rw [E.2.2.2]; exact Nat.le_refl 0, by rw [E.2.2.2]; exact Nat.le_refl 0⟩ (Nat.le_of_ble_eq_true rfl) (fun vv s117 hq => ?_) (fun ee s117 hq => ?_))))
      rotate_left
      · obtain ⟨Is117, Fs117, e118, hv, hrs117, hps117⟩ := hq; cases hv
      obtain ⟨Is117, Fs117, e118, hv, hrs117, hps117⟩ := hq
      cases hv
      have Gs117 := fm_tq F Fs117 rfl rfl
      have JBYW_s117 : BYW B N s117 := BYW_fm Fs117 (by decide) jBYW
      have JTKS_s117 : TKS B N s117 := TKS_fm Fs117 (by decide) jTKS
      have ws117_2 : iI s117 2 = iI s 2 := fm_iq Fs117 rfl
      have ws117_1 : iI s117 1 = iI s 1 := fm_iq Fs117 rfl
      have ws117_4 : iI s117 4 = iI s 4 := fm_iq Fs117 rfl
      have ws117_5 : iI s117 5 = iI s 5 := fm_iq Fs117 rfl
      have ws117_6 : iI s117 6 = iI s 6 := fm_iq Fs117 rfl
      have ws117_19 : iI s117 19 = iI s 19 := fm_iq Fs117 rfl
      have ws117_16 : iI s117 16 = iI s 16 := fm_iq Fs117 rfl
      have b119 := bi_7 Is117
      have dls117 : DL s117 = DL s := (DL_fm Fs117 (by decide) (by decide)).trans rfl
      show WS k 33 [(0, .ref (A 19))] [.int (Int32.ofInt e118)] (Wd A dT s117) 0 0
      have hRD : RDc B N 0 (iI s 4) (iI s 19) (DL s) s117 e118 := by rw [show e118 = 0 by first | exact hps117.1 | omega]; exact rd_no (pu_big hz.1 (by first | exact oq_61d43e47 g106 hz.2.1 | omega)) (by decide) (by first | exact hps117.2 | omega)
      exact w_iret X.1 q hRt (nar_ret (by first | exact Or.inl (hps117.1) | omega)) (ax_d X (show cdA 77 33 = some (.ireturn, 1, 0, 0, 0) from rfl)) (Nat.zero_le _) (Nat.zero_le _) ⟨_, rfl, Is117, Gs117, JBYW_s117, JTKS_s117, e118, rfl, hrs117, ⟨rd_post hRD rfl (by first | exact oq_4547f4f6 hN p1 p0 | omega) (by first | exact b7.1 | omega) (by first | exact oq_e4757433 ws117_16 b7.1 | omega) (fun h9 => by first | exact ws117_19 | omega), by first | exact oq_e7b9ecab ws117_1 ws117_2 p0 | omega, by first | exact oq_e7b9ecab ws117_2 ws117_4 p1 | omega, hRD⟩⟩
set_option maxRecDepth 4000 in
theorem c7_prodS3 (G : GX l s0 D tys a0 dT) {B : Nat → Int} {N : Int} (SF : SF0 s0) (GT : TXw0 s0) {r : Nat} (hU : ∀ {s : PS} , Bd s → BYW B N s → TKS B N s → (iI s 2 ≤ iI s 1) → (iI s 4 ≤ iI s 2) → (6 - iI s 19 ≤ ((r : Nat) : Int)) → (iI s 16 ≤ iI s 4) → CT l s0 D A dT 77 (rkR (4 * (r) + 1)) [.ref (A 19)] s (fun o t => Bd t ∧ Fm [2, 4, 6, 5, 7, 8, 19, 16] [18] s t ∧ BYW B N t ∧ TKS B N t ∧ ∃ e, o = .inl (some (.int (Int32.ofInt e))) ∧ rng e ∧ ((e = 0 ∨ (e = 1 ∧ iI t 19 = iI s 19 ∧ iI s 4 ≤ iI t 4 ∧ iI t 4 ≤ N ∧ iI t 16 + iI s 4 ≤ iI s 16 + iI t 4)) ∧ iI t 2 ≤ iI t 1 ∧ iI t 4 ≤ iI t 2 ∧ RDc B N 0 (iI s 4) (iI s 19) (DL s) t e))) (I : Bd s) (jBYW : BYW B N s) (jTKS : TKS B N s) (p0 : iI s 2 ≤ iI s 1) (p1 : iI s 4 ≤ iI s 2) (p2 : 6 - iI s 19 ≤ ((r : Nat) : Int)) (p3 : iI s 16 ≤ iI s 4) : CT l s0 D A dT 76 (rkR (4 * (r) + 2)) [.ref (A 19)] s (fun o t => Bd t ∧ Fm [2, 4, 6, 5, 7, 8, 19, 16] [18] s t ∧ BYW B N t ∧ TKS B N t ∧ ∃ e, o = .inl (some (.int (Int32.ofInt e))) ∧ rng e ∧ ((e = 0 ∨ (e = 1 ∧ iI t 19 = iI s 19 ∧ iI s 4 ≤ iI t 4 ∧ iI t 4 ≤ N ∧ iI t 16 + iI s 4 ≤ iI s 16 + iI t 4)) ∧ iI t 2 ≤ iI t 1 ∧ iI t 4 ≤ iI t 2 ∧ RDc B N 1 (iI s 4) (iI s 19) (DL s) t e)) := by
  refine ct_ofX G (by decide) (Nat.le_of_ble_eq_true rfl) (fun k X E ET hRt hXt q => ?_)
  show WS k 0 [(0, .ref (A 19))] [] _ 0 0
  have F : Fm [2, 4, 6, 5, 7, 8, 19, 16] [18] s s := fm_rf _ _ s
  have hN := jBYW.2.1
  have hW := jBYW.2.2
  have hdg := tkw_dg jTKS
  have hwd := tkw_wd jTKS
  have b1 := bi_2 I
  have b2 := bi_1 I
  have b3 := bi_4 I
  have b4 := bi_5 I
  have b5 := bi_6 I
  have b6 := bi_19 I
  have b7 := bi_16 I
  have b8 := bi_7 I
  have L11 : ∀ (n : Nat) (t : PS) (c : Int), Bd t → Fm [2, 4, 6, 5, 7, 8, 19, 16] [18] s t → BYW B N t → TKS B N t → (RSc B N 2 1 (iI s 4) (iI s 19) (DL s) t) → (0 ≤ c ∧ c ≤ 200 ∧ iI t 19 = iI s 19 ∧ iI s 4 ≤ iI t 4 ∧ iI t 4 ≤ N ∧ iI t 16 + iI s 4 ≤ iI s 16 + iI t 4 ∧ c + iI s 4 ≤ iI t 4 ∧ iI t 2 ≤ iI t 1 ∧ iI t 4 ≤ iI t 2) → (200 - c : Int).toNat < n → (∀ (t' : PS) (c' : Int), Bd t' → Fm [2, 4, 6, 5, 7, 8, 19, 16] [18] s t' → BYW B N t' → TKS B N t' → (RSc B N 2 1 (iI s 4) (iI s 19) (DL s) t') → (0 ≤ c' ∧ c' ≤ 200 ∧ iI t' 19 = iI s 19 ∧ iI s 4 ≤ iI t' 4 ∧ iI t' 4 ≤ N ∧ iI t' 16 + iI s 4 ≤ iI s 16 + iI t' 4 ∧ c' + iI s 4 ≤ iI t' 4 ∧ iI t' 2 ≤ iI t' 1 ∧ iI t' 4 ≤ iI t' 2 ∧ iI t' 5 ≠ 42 ∧ iI t' 5 ≠ 47) → WS k 89 [(0, .ref (A 19)), (1, .int (Int32.ofInt c'))] [] (Wd A dT t') 0 0) → WS k 11 [(0, .ref (A 19)), (1, .int (Int32.ofInt c))] [] (Wd A dT t) 0 0 := by
    intro n
    induction n with
    | zero =>
      intro t c I F jjBYW jjTKS hq hi hm kx
      exact absurd hm (Nat.not_lt_zero _)
    | succ n ih =>
      intro t c I F jjBYW jjTKS hq hi hm kx
      have b1001 := bi_2 I
      have b1002 := bi_1 I
      have b1003 := bi_4 I
      have b1004 := bi_5 I
      have b1005 := bi_6 I
      have b1006 := bi_19 I
      have b1007 := bi_16 I
      have b1008 := bi_7 I
      have hN := jjBYW.2.1
      have hW := jjBYW.2.2
      have hwt := tkw_wd jjTKS
      have hlt := tkw_end jjTKS
      have hc42 := tkw_ch (x := 42) jjTKS (by decide) (by decide) (by decide)
      have hc47 := tkw_ch (x := 47) jjTKS (by decide) (by decide) (by decide)
      refine z_load_n X (x := c) rfl (List.Mem.tail _ (List.Mem.head _)) (z_sipush X rfl (z_icmp_ge X (t := 89) rfl rfl ⟨by first | exact oq_fa4e5087 hi.1 | omega, by first | exact oq_52af2b96 hi.2.1 | omega⟩ (by decide) (fun g1009 => ?_) (fun g1009 => ?_)))
      ·
        refine WS_pq [0, 1] (lv' := [(0, .ref (A 19)), (1, .int (Int32.ofInt c))]) rfl ?_
        exact kx _ c I F jjBYW jjTKS (rx_mv hq rfl (by first | exact rfl | omega)) (by first | exact ⟨hi.1, hi.2.1, hi.2.2.1, hi.2.2.2.1, hi.2.2.2.2.1, hi.2.2.2.2.2.1, hi.2.2.2.2.2.2.1, hi.2.2.2.2.2.2.2.1, hi.2.2.2.2.2.2.2.2, by omega, by omega⟩ | omega)
      ·
        refine z_aload_n X (x := A 19) rfl (List.Mem.head _) (s_getR X 19 rfl (c518_ok rfl) rfl rfl (z_getI X 1 rfl (c518_ok rfl) rfl rfl ?_))
        have b1010 := bi_5 I
        refine z_bipush X rfl (z_icmp_eq X (t := 42) rfl rfl (rng_to _) (by decide) (fun g1011 => ?_) (fun g1011 => ?_))
        ·
          refine z_aload_n X (x := A 19) rfl (List.Mem.head _) (s_getR X 19 rfl (c518_ok rfl) rfl rfl (z_getI X 1 rfl (c518_ok rfl) rfl rfl ?_))
          have b1012 := bi_5 I
          refine z_bipush X rfl ?_
          have N1013 : ∀ e1014 : Int, ((((iI t 5) ≠ 42) ∧ e1014 = (-12)) ∨ (((iI t 5) = 42) ∧ e1014 = (-11))) → WS k 61 [(0, .ref (A 19)), (1, .int (Int32.ofInt c))] [.int (Int32.ofInt e1014)] (Wd A dT t) 0 0 := by
            intro e1014 he1014
            have re1014 : (-12) ≤ e1014 ∧ e1014 ≤ (-11) := by first | exact And.intro (oq_1e86b1cf he1014) (oq_643b08c5 he1014) | (clear he1014; omega) | omega
            refine z_store_n X (lv' := [(2, .int (Int32.ofInt e1014)), (0, .ref (A 19)), (1, .int (Int32.ofInt c))]) rfl (by decide) (fun _ h => h) (z_aload_n X (x := A 19) rfl (List.Mem.tail _ (List.Mem.head _)) (s_getR X 19 rfl (c518_ok rfl) rfl rfl ?_))
            have hcd : chT B N (iI t 4) 42 ∨ chT B N (iI t 4) 47 := (by first | exact Or.inl (hc42.1 (by first | exact g1011 | (clear he1014; omega) | omega)).1 | exact Or.inr (hc47.1 (by first | (clear he1014; omega) | omega)).1)
            have ha1 : iI t 2 = iI t 4 + 1 := by first | exact (hc42.1 (by first | exact g1011 | (clear he1014; omega) | omega)).2 | exact (hc47.1 (by first | (clear he1014; omega) | omega)).2
            have hop : e1014 = opC B (iI t 4) := by have hc := hcd; unfold opC; rcases hc with q | q <;> rw [q.2] <;> omega
            refine z_callV X 1 (rm := rmN 129) (As := []) (st := []) rfl rfl (by decide) rfl (by rw [E.1, E.2.1, E.2.2.1]; exact c10_step3 G I jjBYW (by first | exact hi.2.2.2.2.2.2.2.1 | omega)) ⟨by rw [E.2.2.2]; exact (show 7 + 1 ≤ (12 + (4 * (r) + 2)) from oq_4941a422 r), by rw [E.2.2.2]; exact (show 8 + (1 + 11) + 121 ≤ (500 + 45 * (4 * (r) + 2)) from oq_a823803b r), by rw [E.2.2.2]; exact Nat.le_refl 0, by rw [E.2.2.2]; exact Nat.le_refl 0⟩ (Nat.le_of_ble_eq_true rfl) (fun vv s1015 hq => ?_) (fun ee s1015 hq => ?_)
            rotate_left
            · obtain ⟨Is1015, Fs1015, JBYW_s1015, JTKS_s1015, hv, hps1015⟩ := hq; cases hv
            obtain ⟨Is1015, Fs1015, JBYW_s1015, JTKS_s1015, hv, hps1015⟩ := hq
            cases hv
            have Gs1015 := fm_tq F Fs1015 rfl rfl
            have JBYW_s1015 : BYW B N s1015 := BYW_fm Fs1015 (by decide) jjBYW
            have b1017 := bi_2 Is1015
            have ws1015_1 : iI s1015 1 = iI t 1 := fm_iq Fs1015 rfl
            have b1018 := bi_4 Is1015
            have b1019 := bi_5 Is1015
            have b1020 := bi_6 Is1015
            have ws1015_19 : iI s1015 19 = iI t 19 := fm_iq Fs1015 rfl
            have ws1015_16 : iI s1015 16 = iI t 16 := fm_iq Fs1015 rfl
            have ws1015_7 : iI s1015 7 = iI t 7 := fm_iq Fs1015 rfl
            have dls1015 : DL s1015 = DL t := (DL_fm Fs1015 (by decide) (by decide)).trans rfl
            show WS k 69 [(2, .int (Int32.ofInt e1014)), (0, .ref (A 19)), (1, .int (Int32.ofInt c))] [] (Wd A dT s1015) 0 0
            have hs9 : iI s1015 4 = sk B N (iI t 4 + 1) := by rw [hps1015.2.2.1, show iI t 2 = iI t 4 + 1 by first | exact ha1 | (clear he1014; omega) | omega]
            refine z_aload_n X (x := A 19) rfl (List.Mem.tail _ (List.Mem.head _)) (z_callV X 19 (rm := (rkR (4 * (r) + 1))) (As := []) (st := []) rfl rfl (by decide) rfl (by rw [E.1, E.2.1, E.2.2.1]; exact hU Is1015 JBYW_s1015 JTKS_s1015 (by first | exact hps1015.1 | omega) (by first | exact hps1015.2.1 | omega) (by first | exact oq_abe4e353 p2 ws1015_19 hi.2.2.1 | omega) (by first | exact oq_9b272ea2 ws1015_16 hi.2.2.2.2.2.1 p3 hps1015.2.2.2 ha1 | omega)) ⟨by rw [E.2.2.2]; exact (show (12 + (4 * (r) + 1)) + 1 ≤ (12 + (4 * (r) + 2)) from oq_dbb6b233 r), by rw [E.2.2.2]; exact (show 8 + (2 + 11) + (500 + 45 * (4 * (r) + 1)) ≤ (500 + 45 * (4 * (r) + 2)) from oq_0cecdb5e r), by rw [E.2.2.2]; exact Nat.le_refl 0, by rw [E.2.2.2]; exact Nat.le_refl 0⟩ (Nat.le_of_ble_eq_true rfl) (fun vv s1021 hq => ?_) (fun ee s1021 hq => ?_))
            rotate_left
            · obtain ⟨Is1021, Fs1021, JBYW_s1021, JTKS_s1021, e1022, hv, hrs1021, hps1021⟩ := hq; cases hv
            obtain ⟨Is1021, Fs1021, JBYW_s1021, JTKS_s1021, e1022, hv, hrs1021, hps1021⟩ := hq
            have hps1021p := And.intro hps1021.2.1 (And.intro hps1021.2.2.1 (hps1021.2.2.2))
            cases hv
            have Gs1021 := fm_tq Gs1015 Fs1021 rfl rfl
            have JBYW_s1021 : BYW B N s1021 := BYW_fm Fs1021 (by decide) JBYW_s1015
            have b1023 := bi_2 Is1021
            have ws1021_1 : iI s1021 1 = iI s1015 1 := fm_iq Fs1021 rfl
            have b1024 := bi_4 Is1021
            have b1025 := bi_5 Is1021
            have b1026 := bi_6 Is1021
            have b1027 := bi_19 Is1021
            have b1028 := bi_16 Is1021
            have b1029 := bi_7 Is1021
            show WS k 73 [(2, .int (Int32.ofInt e1014)), (0, .ref (A 19)), (1, .int (Int32.ofInt c))] [.int (Int32.ofInt e1022)] (Wd A dT s1021) 0 0
            refine z_if_ne X (t := 78) rfl rfl hrs1021 (fun g1030 => ?_) (fun g1030 => ?_)
            ·
              refine z_aload_n X (x := A 19) rfl (List.Mem.tail _ (List.Mem.head _)) (z_load_n X (x := e1014) rfl (List.Mem.head _) (z_callV X 19 (rm := rmN 82) (As := [.int (Int32.ofInt e1014)]) (st := []) rfl rfl (by decide) rfl (by rw [E.1, E.2.1, E.2.2.1]; exact c7_put3 G Is1021 (by first | exact ⟨oq_b4ff86be re1014.1, oq_8c06164c re1014.2⟩ | omega) (by first | exact oq_cbf4270c g1030 b1024.2 hps1021.1 ws1015_16 hps1015.2.2.2 ha1 hi.2.2.2.2.2.1 p3 | omega)) ⟨by rw [E.2.2.2]; exact (show 6 + 1 ≤ (12 + (4 * (r) + 2)) from oq_d8760254 r), by rw [E.2.2.2]; exact (show 8 + (2 + 11) + 100 ≤ (500 + 45 * (4 * (r) + 2)) from oq_29829ae4 r), by rw [E.2.2.2]; exact Nat.le_refl 0, by rw [E.2.2.2]; exact Nat.le_refl 0⟩ (Nat.le_of_ble_eq_true rfl) (fun vv s1031 hq => ?_) (fun ee s1031 hq => ?_)))
              rotate_left
              · obtain ⟨Is1031, Fs1031, hv, hps1031⟩ := hq; cases hv
              obtain ⟨Is1031, Fs1031, hv, hps1031⟩ := hq
              cases hv
              have Gs1031 := fm_tq Gs1021 Fs1031 rfl rfl
              have JBYW_s1031 : BYW B N s1031 := BYW_fm Fs1031 (by decide) JBYW_s1021
              have JTKS_s1031 : TKS B N s1031 := TKS_fm Fs1031 (by decide) JTKS_s1021
              have ws1031_2 : iI s1031 2 = iI s1021 2 := fm_iq Fs1031 rfl
              have ws1031_1 : iI s1031 1 = iI s1021 1 := fm_iq Fs1031 rfl
              have ws1031_4 : iI s1031 4 = iI s1021 4 := fm_iq Fs1031 rfl
              have ws1031_5 : iI s1031 5 = iI s1021 5 := fm_iq Fs1031 rfl
              have ws1031_6 : iI s1031 6 = iI s1021 6 := fm_iq Fs1031 rfl
              have ws1031_19 : iI s1031 19 = iI s1021 19 := fm_iq Fs1031 rfl
              have b1033 := bi_16 Is1031
              have ws1031_7 : iI s1031 7 = iI s1021 7 := fm_iq Fs1031 rfl
              have dls1031 : DL s1031 = DL s1021 ++ [e1014] := by rw [hps1031.2]
              show WS k 83 [(2, .int (Int32.ofInt e1014)), (0, .ref (A 19)), (1, .int (Int32.ofInt c))] [] (Wd A dT s1031) 0 0
              refine z_inc X (x := c) (lv' := [(1, .int (Int32.ofInt (c + 1))), (2, .int (Int32.ofInt e1014)), (0, .ref (A 19))]) rfl (by decide) (List.Mem.tail _ (List.Mem.tail _ (List.Mem.head _))) (fun _ h => h) (z_goto X (t := 11) rfl rfl (WS_pq [2, 0] (lv' := [(0, .ref (A 19)), (1, .int (Int32.ofInt (c + 1)))]) rfl ?_))
              exact ih _ (c + 1) Is1031 Gs1031 JBYW_s1031 JTKS_s1031 (rx_up (q1 := sk B N (iI t 4 + 1)) hq (dls1015) (by have h := hps1021.2.2.2; rw [show iI s1015 4 = sk B N (iI t 4 + 1) by first | exact hs9 | (clear g1030 hps1021 he1014; omega) | (clear hps1021 he1014; omega) | omega, show iI s1015 19 = iI s 19 by first | exact oq_1aa5be9e ws1015_19 hi.2.2.1 | (clear g1030 hps1021 he1014; omega) | (clear hps1021 he1014; omega) | omega] at h; exact h) (by first | exact g1030 | (clear g1030 hps1021 he1014; omega) | (clear hps1021 he1014; omega) | omega) dls1031 (by first | exact ws1031_4 | (clear g1030 hps1021 he1014; omega) | (clear hps1021 he1014; omega) | omega) (fun a r r1 h z h2 => rp_go hcd h z (by rw [← hop]; exact h2))) (by first | exact ⟨oq_54f49eb5 hi.1, oq_0cb6ab8a g1009, oq_5901dee4 ws1031_19 g1030 hps1021.1 ws1015_19 hi.2.2.1, oq_c0e77623 ws1031_4 g1030 hps1021.1 hps1015.2.2.2 ha1 hi.2.2.2.1, oq_a2786552 ws1031_4 g1030 hps1021.1, by first | exact oq_8610766d ws1031_4 hps1031.1 g1030 hps1021.1 ws1015_16 hps1015.2.2.2 ha1 hi.2.2.2.2.2.1 | (clear g1030 hps1021 he1014; omega) | (clear hps1021 he1014; omega) | omega, oq_155da3c6 ws1031_4 g1030 hps1021.1 hps1015.2.2.2 ha1 hi.2.2.2.2.2.2.1, oq_e7b9ecab ws1031_1 ws1031_2 hps1021.2.1, oq_e7b9ecab ws1031_2 ws1031_4 hps1021.2.2.1⟩ | omega) (by first | exact qk_me hm (by decide) (oq_1ab01402 g1009) | exact oq_1044a270 g1009 hm | omega) kx
            ·
              refine z_const X rfl ?_
              have hRD : RDc B N 1 (iI s 4) (iI s 19) (DL s) s1021 0 := rx_bad hq (by have h := hps1021.2.2.2; rw [show iI s1015 4 = sk B N (iI t 4 + 1) by first | exact hs9 | (clear hps1021 he1014; omega) | (clear he1014; omega) | omega, show iI s1015 19 = iI s 19 by first | exact oq_1aa5be9e ws1015_19 hi.2.2.1 | (clear hps1021 he1014; omega) | (clear he1014; omega) | omega] at h; exact h) (by first | exact g1030 | (clear hps1021 he1014; omega) | (clear he1014; omega) | omega) (by first | exact rfl | (clear hps1021 he1014; omega) | (clear he1014; omega) | omega) (fun a r h z => rp_bad hcd h z)
              exact w_iret X.1 q hRt (nar_ret (by first | exact Or.inl (by decide) | omega)) (ax_d X (show cdA 76 77 = some (.ireturn, 1, 0, 0, 0) from rfl)) (Nat.zero_le _) (Nat.zero_le _) ⟨_, rfl, Is1021, Gs1021, JBYW_s1021, JTKS_s1021, 0, rfl, (by decide), ⟨rd_post hRD rfl (by first | exact oq_f8a2cf0e hi.2.2.2.2.1 hi.2.2.2.1 | omega) (by first | exact b7.1 | omega) (by first | exact b1028.1 | omega) (fun h9 => absurd rfl h9), by first | exact hps1021.2.1 | omega, by first | exact hps1021.2.2.1 | omega, hRD⟩⟩
          refine z_icmp_ne X (t := 59) rfl rfl (rng_to _) (by decide) (fun g1034 => ?_) (fun g1034 => ?_)
          ·
            exact z_bipush X rfl (N1013 _ (Or.inl ⟨g1034, rfl⟩))
          ·
            exact z_bipush X rfl (z_goto X (t := 61) rfl rfl (N1013 _ (Or.inr (⟨g1034, rfl⟩))))
        ·
          refine z_aload_n X (x := A 19) rfl (List.Mem.head _) (s_getR X 19 rfl (c518_ok rfl) rfl rfl (z_getI X 1 rfl (c518_ok rfl) rfl rfl ?_))
          have b1035 := bi_5 I
          refine z_bipush X rfl (z_icmp_ne X (t := 89) rfl rfl (rng_to _) (by decide) (fun g1036 => ?_) (fun g1036 => ?_))
          ·
            refine WS_pq [0, 1] (lv' := [(0, .ref (A 19)), (1, .int (Int32.ofInt c))]) rfl ?_
            exact kx _ c I F jjBYW jjTKS (rx_mv hq rfl (by first | exact rfl | (clear g1036 g1011; omega) | (clear g1011; omega) | omega)) (by first | exact ⟨hi.1, hi.2.1, hi.2.2.1, hi.2.2.2.1, hi.2.2.2.2.1, hi.2.2.2.2.2.1, hi.2.2.2.2.2.2.1, hi.2.2.2.2.2.2.2.1, hi.2.2.2.2.2.2.2.2, g1011, g1036⟩ | omega)
          ·
            refine z_aload_n X (x := A 19) rfl (List.Mem.head _) (s_getR X 19 rfl (c518_ok rfl) rfl rfl (z_getI X 1 rfl (c518_ok rfl) rfl rfl ?_))
            have b1037 := bi_5 I
            refine z_bipush X rfl ?_
            have N1038 : ∀ e1039 : Int, ((((iI t 5) ≠ 42) ∧ e1039 = (-12)) ∨ (((iI t 5) = 42) ∧ e1039 = (-11))) → WS k 61 [(0, .ref (A 19)), (1, .int (Int32.ofInt c))] [.int (Int32.ofInt e1039)] (Wd A dT t) 0 0 := by
              intro e1039 he1039
              have re1039 : (-12) ≤ e1039 ∧ e1039 ≤ (-11) := by first | exact And.intro (oq_1e86b1cf he1039) (oq_643b08c5 he1039) | (clear he1039 g1011; omega) | (clear g1011; omega) | omega
              refine z_store_n X (lv' := [(2, .int (Int32.ofInt e1039)), (0, .ref (A 19)), (1, .int (Int32.ofInt c))]) rfl (by decide) (fun _ h => h) (z_aload_n X (x := A 19) rfl (List.Mem.tail _ (List.Mem.head _)) (s_getR X 19 rfl (c518_ok rfl) rfl rfl ?_))
              have hcd : chT B N (iI t 4) 42 ∨ chT B N (iI t 4) 47 := (by first | exact Or.inl (hc42.1 (by first | (clear he1039 g1011; omega) | (clear g1011; omega) | omega)).1 | exact Or.inr (hc47.1 (by first | exact g1036 | (clear he1039 g1011; omega) | (clear g1011; omega) | omega)).1)
              have ha1 : iI t 2 = iI t 4 + 1 := by first | exact (hc42.1 (by first | (clear he1039 g1011; omega) | (clear g1011; omega) | omega)).2 | exact (hc47.1 (by first | exact g1036 | (clear he1039 g1011; omega) | (clear g1011; omega) | omega)).2
              have hop : e1039 = opC B (iI t 4) := by have hc := hcd; unfold opC; rcases hc with q | q <;> rw [q.2] <;> omega
              refine z_callV X 1 (rm := rmN 129) (As := []) (st := []) rfl rfl (by decide) rfl (by rw [E.1, E.2.1, E.2.2.1]; exact c10_step3 G I jjBYW (by first | exact hi.2.2.2.2.2.2.2.1 | omega)) ⟨by rw [E.2.2.2]; exact (show 7 + 1 ≤ (12 + (4 * (r) + 2)) from oq_4941a422 r), by rw [E.2.2.2]; exact (show 8 + (1 + 11) + 121 ≤ (500 + 45 * (4 * (r) + 2)) from oq_a823803b r), by rw [E.2.2.2]; exact Nat.le_refl 0, by rw [E.2.2.2]; exact Nat.le_refl 0⟩ (Nat.le_of_ble_eq_true rfl) (fun vv s1040 hq => ?_) (fun ee s1040 hq => ?_)
              rotate_left
              · obtain ⟨Is1040, Fs1040, JBYW_s1040, JTKS_s1040, hv, hps1040⟩ := hq; cases hv
              obtain ⟨Is1040, Fs1040, JBYW_s1040, JTKS_s1040, hv, hps1040⟩ := hq
              cases hv
              have Gs1040 := fm_tq F Fs1040 rfl rfl
              have JBYW_s1040 : BYW B N s1040 := BYW_fm Fs1040 (by decide) jjBYW
              have b1042 := bi_2 Is1040
              have ws1040_1 : iI s1040 1 = iI t 1 := fm_iq Fs1040 rfl
              have b1043 := bi_4 Is1040
              have b1044 := bi_5 Is1040
              have b1045 := bi_6 Is1040
              have ws1040_19 : iI s1040 19 = iI t 19 := fm_iq Fs1040 rfl
              have ws1040_16 : iI s1040 16 = iI t 16 := fm_iq Fs1040 rfl
              have ws1040_7 : iI s1040 7 = iI t 7 := fm_iq Fs1040 rfl
              have dls1040 : DL s1040 = DL t := (DL_fm Fs1040 (by decide) (by decide)).trans rfl
              show WS k 69 [(2, .int (Int32.ofInt e1039)), (0, .ref (A 19)), (1, .int (Int32.ofInt c))] [] (Wd A dT s1040) 0 0
              have hs9 : iI s1040 4 = sk B N (iI t 4 + 1) := by rw [hps1040.2.2.1, show iI t 2 = iI t 4 + 1 by first | exact ha1 | (clear he1039 g1011; omega) | (clear g1011; omega) | omega]
              refine z_aload_n X (x := A 19) rfl (List.Mem.tail _ (List.Mem.head _)) (z_callV X 19 (rm := (rkR (4 * (r) + 1))) (As := []) (st := []) rfl rfl (by decide) rfl (by rw [E.1, E.2.1, E.2.2.1]; exact hU Is1040 JBYW_s1040 JTKS_s1040 (by first | exact hps1040.1 | omega) (by first | exact hps1040.2.1 | omega) (by first | exact oq_abe4e353 p2 ws1040_19 hi.2.2.1 | omega) (by first | exact oq_9b272ea2 ws1040_16 hi.2.2.2.2.2.1 p3 hps1040.2.2.2 ha1 | omega)) ⟨by rw [E.2.2.2]; exact (show (12 + (4 * (r) + 1)) + 1 ≤ (12 + (4 * (r) + 2)) from oq_dbb6b233 r), by rw [E.2.2.2]; exact (show 8 + (2 + 11) + (500 + 45 * (4 * (r) + 1)) ≤ (500 + 45 * (4 * (r) + 2)) from oq_0cecdb5e r), by rw [E.2.2.2]; exact Nat.le_refl 0, by rw [E.2.2.2]; exact Nat.le_refl 0⟩ (Nat.le_of_ble_eq_true rfl) (fun vv s1046 hq => ?_) (fun ee s1046 hq => ?_))
              rotate_left
              · obtain ⟨Is1046, Fs1046, JBYW_s1046, JTKS_s1046, e1047, hv, hrs1046, hps1046⟩ := hq; cases hv
              obtain ⟨Is1046, Fs1046, JBYW_s1046, JTKS_s1046, e1047, hv, hrs1046, hps1046⟩ := hq
              have hps1046p := And.intro hps1046.2.1 (And.intro hps1046.2.2.1 (hps1046.2.2.2))
              cases hv
              have Gs1046 := fm_tq Gs1040 Fs1046 rfl rfl
              have JBYW_s1046 : BYW B N s1046 := BYW_fm Fs1046 (by decide) JBYW_s1040
              have b1048 := bi_2 Is1046
              have ws1046_1 : iI s1046 1 = iI s1040 1 := fm_iq Fs1046 rfl
              have b1049 := bi_4 Is1046
              have b1050 := bi_5 Is1046
              have b1051 := bi_6 Is1046
              have b1052 := bi_19 Is1046
              have b1053 := bi_16 Is1046
              have b1054 := bi_7 Is1046
              show WS k 73 [(2, .int (Int32.ofInt e1039)), (0, .ref (A 19)), (1, .int (Int32.ofInt c))] [.int (Int32.ofInt e1047)] (Wd A dT s1046) 0 0
              refine z_if_ne X (t := 78) rfl rfl hrs1046 (fun g1055 => ?_) (fun g1055 => ?_)
              ·
                refine z_aload_n X (x := A 19) rfl (List.Mem.tail _ (List.Mem.head _)) (z_load_n X (x := e1039) rfl (List.Mem.head _) (z_callV X 19 (rm := rmN 82) (As := [.int (Int32.ofInt e1039)]) (st := []) rfl rfl (by decide) rfl (by rw [E.1, E.2.1, E.2.2.1]; exact c7_put3 G Is1046 (by first | exact ⟨oq_b4ff86be re1039.1, oq_8c06164c re1039.2⟩ | omega) (by first | exact oq_cbf4270c g1055 b1049.2 hps1046.1 ws1040_16 hps1040.2.2.2 ha1 hi.2.2.2.2.2.1 p3 | omega)) ⟨by rw [E.2.2.2]; exact (show 6 + 1 ≤ (12 + (4 * (r) + 2)) from oq_d8760254 r), by rw [E.2.2.2]; exact (show 8 + (2 + 11) + 100 ≤ (500 + 45 * (4 * (r) + 2)) from oq_29829ae4 r), by rw [E.2.2.2]; exact Nat.le_refl 0, by rw [E.2.2.2]; exact Nat.le_refl 0⟩ (Nat.le_of_ble_eq_true rfl) (fun vv s1056 hq => ?_) (fun ee s1056 hq => ?_)))
                rotate_left
                · obtain ⟨Is1056, Fs1056, hv, hps1056⟩ := hq; cases hv
                obtain ⟨Is1056, Fs1056, hv, hps1056⟩ := hq
                cases hv
                have Gs1056 := fm_tq Gs1046 Fs1056 rfl rfl
                have JBYW_s1056 : BYW B N s1056 := BYW_fm Fs1056 (by decide) JBYW_s1046
                have JTKS_s1056 : TKS B N s1056 := TKS_fm Fs1056 (by decide) JTKS_s1046
                have ws1056_2 : iI s1056 2 = iI s1046 2 := fm_iq Fs1056 rfl
                have ws1056_1 : iI s1056 1 = iI s1046 1 := fm_iq Fs1056 rfl
                have ws1056_4 : iI s1056 4 = iI s1046 4 := fm_iq Fs1056 rfl
                have ws1056_5 : iI s1056 5 = iI s1046 5 := fm_iq Fs1056 rfl
                have ws1056_6 : iI s1056 6 = iI s1046 6 := fm_iq Fs1056 rfl
                have ws1056_19 : iI s1056 19 = iI s1046 19 := fm_iq Fs1056 rfl
                have b1058 := bi_16 Is1056
                have ws1056_7 : iI s1056 7 = iI s1046 7 := fm_iq Fs1056 rfl
                have dls1056 : DL s1056 = DL s1046 ++ [e1039] := by rw [hps1056.2]
                show WS k 83 [(2, .int (Int32.ofInt e1039)), (0, .ref (A 19)), (1, .int (Int32.ofInt c))] [] (Wd A dT s1056) 0 0
                refine z_inc X (x := c) (lv' := [(1, .int (Int32.ofInt (c + 1))), (2, .int (Int32.ofInt e1039)), (0, .ref (A 19))]) rfl (by decide) (List.Mem.tail _ (List.Mem.tail _ (List.Mem.head _))) (fun _ h => h) (z_goto X (t := 11) rfl rfl (WS_pq [2, 0] (lv' := [(0, .ref (A 19)), (1, .int (Int32.ofInt (c + 1)))]) rfl ?_))
                exact ih _ (c + 1) Is1056 Gs1056 JBYW_s1056 JTKS_s1056 (rx_up (q1 := sk B N (iI t 4 + 1)) hq (dls1040) (by have h := hps1046.2.2.2; rw [show iI s1040 4 = sk B N (iI t 4 + 1) by first | exact hs9 | (clear g1055 hps1046 he1039 g1011; omega) | (clear hps1046 he1039 g1011; omega) | omega, show iI s1040 19 = iI s 19 by first | exact oq_1aa5be9e ws1040_19 hi.2.2.1 | (clear g1055 hps1046 he1039 g1011; omega) | (clear hps1046 he1039 g1011; omega) | omega] at h; exact h) (by first | exact g1055 | (clear g1055 hps1046 he1039 g1011; omega) | (clear hps1046 he1039 g1011; omega) | omega) dls1056 (by first | exact ws1056_4 | (clear g1055 hps1046 he1039 g1011; omega) | (clear hps1046 he1039 g1011; omega) | omega) (fun a r r1 h z h2 => rp_go hcd h z (by rw [← hop]; exact h2))) (by first | exact ⟨oq_54f49eb5 hi.1, oq_0cb6ab8a g1009, oq_5901dee4 ws1056_19 g1055 hps1046.1 ws1040_19 hi.2.2.1, oq_c0e77623 ws1056_4 g1055 hps1046.1 hps1040.2.2.2 ha1 hi.2.2.2.1, oq_a2786552 ws1056_4 g1055 hps1046.1, by first | exact oq_8610766d ws1056_4 hps1056.1 g1055 hps1046.1 ws1040_16 hps1040.2.2.2 ha1 hi.2.2.2.2.2.1 | (clear g1055 hps1046 he1039 g1011; omega) | (clear hps1046 he1039 g1011; omega) | omega, oq_155da3c6 ws1056_4 g1055 hps1046.1 hps1040.2.2.2 ha1 hi.2.2.2.2.2.2.1, oq_e7b9ecab ws1056_1 ws1056_2 hps1046.2.1, oq_e7b9ecab ws1056_2 ws1056_4 hps1046.2.2.1⟩ | omega) (by first | exact qk_me hm (by decide) (oq_1ab01402 g1009) | exact oq_1044a270 g1009 hm | omega) kx
              ·
                refine z_const X rfl ?_
                have hRD : RDc B N 1 (iI s 4) (iI s 19) (DL s) s1046 0 := rx_bad hq (by have h := hps1046.2.2.2; rw [show iI s1040 4 = sk B N (iI t 4 + 1) by first | exact hs9 | (clear hps1046 he1039 g1011; omega) | (clear he1039 g1011; omega) | omega, show iI s1040 19 = iI s 19 by first | exact oq_1aa5be9e ws1040_19 hi.2.2.1 | (clear hps1046 he1039 g1011; omega) | (clear he1039 g1011; omega) | omega] at h; exact h) (by first | exact g1055 | (clear hps1046 he1039 g1011; omega) | (clear he1039 g1011; omega) | omega) (by first | exact rfl | (clear hps1046 he1039 g1011; omega) | (clear he1039 g1011; omega) | omega) (fun a r h z => rp_bad hcd h z)
                exact w_iret X.1 q hRt (nar_ret (by first | exact Or.inl (by decide) | omega)) (ax_d X (show cdA 76 77 = some (.ireturn, 1, 0, 0, 0) from rfl)) (Nat.zero_le _) (Nat.zero_le _) ⟨_, rfl, Is1046, Gs1046, JBYW_s1046, JTKS_s1046, 0, rfl, (by decide), ⟨rd_post hRD rfl (by first | exact oq_f8a2cf0e hi.2.2.2.2.1 hi.2.2.2.1 | omega) (by first | exact b7.1 | omega) (by first | exact b1053.1 | omega) (fun h9 => absurd rfl h9), by first | exact hps1046.2.1 | omega, by first | exact hps1046.2.2.1 | omega, hRD⟩⟩
            refine z_icmp_ne X (t := 59) rfl rfl (rng_to _) (by decide) (fun g1059 => ?_) (fun g1059 => ?_)
            ·
              exact z_bipush X rfl (N1038 _ (Or.inl ⟨g1059, rfl⟩))
            ·
              exact z_bipush X rfl (z_goto X (t := 61) rfl rfl (N1038 _ (Or.inr (⟨g1059, rfl⟩))))
  refine z_aload_n X (x := A 19) rfl (List.Mem.head _) (z_callV X 19 (rm := (rkR (4 * (r) + 1))) (As := []) (st := []) rfl rfl (by decide) rfl (by rw [E.1, E.2.1, E.2.2.1]; exact hU I jBYW jTKS (by first | exact p0 | omega) (by first | exact p1 | omega) (by first | exact p2 | omega) (by first | exact p3 | omega)) ⟨by rw [E.2.2.2]; exact (show (12 + (4 * (r) + 1)) + 1 ≤ (12 + (4 * (r) + 2)) from oq_dbb6b233 r), by rw [E.2.2.2]; exact (show 8 + (2 + 11) + (500 + 45 * (4 * (r) + 1)) ≤ (500 + 45 * (4 * (r) + 2)) from oq_0cecdb5e r), by rw [E.2.2.2]; exact Nat.le_refl 0, by rw [E.2.2.2]; exact Nat.le_refl 0⟩ (Nat.le_of_ble_eq_true rfl) (fun vv s9 hq => ?_) (fun ee s9 hq => ?_))
  rotate_left
  · obtain ⟨Is9, Fs9, JBYW_s9, JTKS_s9, e10, hv, hrs9, hps9⟩ := hq; cases hv
  obtain ⟨Is9, Fs9, JBYW_s9, JTKS_s9, e10, hv, hrs9, hps9⟩ := hq
  have hps9p := And.intro hps9.2.1 (And.intro hps9.2.2.1 (hps9.2.2.2))
  cases hv
  have Gs9 := fm_tq F Fs9 rfl rfl
  have JBYW_s9 : BYW B N s9 := BYW_fm Fs9 (by decide) jBYW
  have b11 := bi_2 Is9
  have ws9_1 : iI s9 1 = iI s 1 := fm_iq Fs9 rfl
  have b12 := bi_4 Is9
  have b13 := bi_5 Is9
  have b14 := bi_6 Is9
  have b15 := bi_19 Is9
  have b16 := bi_16 Is9
  have b17 := bi_7 Is9
  show WS k 4 [(0, .ref (A 19))] [.int (Int32.ofInt e10)] (Wd A dT s9) 0 0
  refine z_if_ne X (t := 9) rfl rfl hrs9 (fun g18 => ?_) (fun g18 => ?_)
  ·
    refine z_const X rfl (z_store_n X (lv' := [(1, .int (Int32.ofInt 0)), (0, .ref (A 19))]) rfl (by decide) (fun _ h => h) (WS_pq [1, 0] (lv' := [(0, .ref (A 19)), (1, .int (Int32.ofInt 0))]) rfl (L11 ((200 - 0 : Int).toNat + 1) s9 0 Is9 Gs9 JBYW_s9 JTKS_s9 (rx_0 hps9.2.2.2 (by first | exact g18 | (clear g18 hps9; omega) | (clear hps9; omega) | omega) (fun r r1 h z h2 => wp_go h z h2)) (by first | exact ⟨by decide, by decide, oq_6259e910 g18 hps9.1, oq_af044290 g18 hps9.1, oq_0f66faba g18 hps9.1, oq_3cd265a3 g18 hps9.1, oq_c32860b4 g18 hps9.1, hps9.2.1, hps9.2.2.1⟩ | omega) (Nat.lt_succ_self _) ?_)))
    intro s19 x20 Is19 Fs19 JBYW_s19 JTKS_s19 Qs19 hs19
    have b21 := bi_2 Is19
    have b22 := bi_1 Is19
    have b23 := bi_4 Is19
    have b24 := bi_5 Is19
    have b25 := bi_6 Is19
    have b26 := bi_19 Is19
    have b27 := bi_16 Is19
    have b28 := bi_7 Is19
    have hNs19 := JBYW_s19.2.1
    have hWs19 := JBYW_s19.2.2
    refine z_const X rfl ?_
    have hRD : RDc B N 1 (iI s 4) (iI s 19) (DL s) s19 1 := rx_end Qs19 (fun a => rp_end (fun q => by exact Or.elim q (fun q => by exact (tkw_ch (x := 42) JTKS_s19 (by decide) (by decide) (by decide)).2 (by first | exact hs19.2.2.2.2.2.2.2.2.2.1 | (clear g18 hps9; omega) | (clear hps9; omega) | omega) q) (fun q => by exact (tkw_ch (x := 47) JTKS_s19 (by decide) (by decide) (by decide)).2 (by first | exact hs19.2.2.2.2.2.2.2.2.2.2 | (clear g18 hps9; omega) | (clear hps9; omega) | omega) q)))
    exact w_iret X.1 q hRt (nar_ret (by first | exact Or.inr (by decide) | omega)) (ax_d X (show cdA 76 90 = some (.ireturn, 1, 0, 0, 0) from rfl)) (Nat.zero_le _) (Nat.zero_le _) ⟨_, rfl, Is19, Fs19, JBYW_s19, JTKS_s19, 1, rfl, (by decide), ⟨rd_post hRD rfl (by first | exact oq_f8a2cf0e hs19.2.2.2.2.1 hs19.2.2.2.1 | omega) (by first | exact b7.1 | omega) (by first | exact b27.1 | omega) (fun h9 => by first | exact hs19.2.2.1 | omega), by first | exact hs19.2.2.2.2.2.2.2.1 | omega, by first | exact hs19.2.2.2.2.2.2.2.2.1 | omega, hRD⟩⟩
  ·
    refine z_const X rfl ?_
    have hRD : RDc B N 1 (iI s 4) (iI s 19) (DL s) s9 0 := rd_bad hps9.2.2.2 (by first | exact g18 | (clear hps9; omega) | omega) (by first | exact rfl | (clear hps9; omega) | omega) (fun r h z => wp_bad h z)
    exact w_iret X.1 q hRt (nar_ret (by first | exact Or.inl (by decide) | omega)) (ax_d X (show cdA 76 8 = some (.ireturn, 1, 0, 0, 0) from rfl)) (Nat.zero_le _) (Nat.zero_le _) ⟨_, rfl, Is9, Gs9, JBYW_s9, JTKS_s9, 0, rfl, (by decide), ⟨rd_post hRD rfl (by first | exact oq_4547f4f6 hN p1 p0 | (clear hps9; omega) | omega) (by first | exact b7.1 | omega) (by first | exact b16.1 | omega) (fun h9 => absurd rfl h9), by first | exact hps9.2.1 | omega, by first | exact hps9.2.2.1 | omega, hRD⟩⟩
set_option maxRecDepth 4000 in
theorem c7_sumS3 (G : GX l s0 D tys a0 dT) {B : Nat → Int} {N : Int} (SF : SF0 s0) (GT : TXw0 s0) {r : Nat} (hP : ∀ {s : PS} , Bd s → BYW B N s → TKS B N s → (iI s 2 ≤ iI s 1) → (iI s 4 ≤ iI s 2) → (6 - iI s 19 ≤ ((r : Nat) : Int)) → (iI s 16 ≤ iI s 4) → CT l s0 D A dT 76 (rkR (4 * (r) + 2)) [.ref (A 19)] s (fun o t => Bd t ∧ Fm [2, 4, 6, 5, 7, 8, 19, 16] [18] s t ∧ BYW B N t ∧ TKS B N t ∧ ∃ e, o = .inl (some (.int (Int32.ofInt e))) ∧ rng e ∧ ((e = 0 ∨ (e = 1 ∧ iI t 19 = iI s 19 ∧ iI s 4 ≤ iI t 4 ∧ iI t 4 ≤ N ∧ iI t 16 + iI s 4 ≤ iI s 16 + iI t 4)) ∧ iI t 2 ≤ iI t 1 ∧ iI t 4 ≤ iI t 2 ∧ RDc B N 1 (iI s 4) (iI s 19) (DL s) t e))) (I : Bd s) (jBYW : BYW B N s) (jTKS : TKS B N s) (p0 : iI s 2 ≤ iI s 1) (p1 : iI s 4 ≤ iI s 2) (p2 : 6 - iI s 19 ≤ ((r : Nat) : Int)) (p3 : iI s 16 ≤ iI s 4) : CT l s0 D A dT 75 (rkR (4 * (r) + 3)) [.ref (A 19)] s (fun o t => Bd t ∧ Fm [2, 4, 6, 5, 7, 8, 19, 16] [18] s t ∧ BYW B N t ∧ TKS B N t ∧ ∃ e, o = .inl (some (.int (Int32.ofInt e))) ∧ rng e ∧ ((e = 0 ∨ (e = 1 ∧ iI t 19 = iI s 19 ∧ iI s 4 ≤ iI t 4 ∧ iI t 4 ≤ N ∧ iI t 16 + iI s 4 ≤ iI s 16 + iI t 4)) ∧ iI t 2 ≤ iI t 1 ∧ iI t 4 ≤ iI t 2 ∧ RDc B N 3 (iI s 4) (iI s 19) (DL s) t e)) := by
  refine ct_ofX G (by decide) (Nat.le_of_ble_eq_true rfl) (fun k X E ET hRt hXt q => ?_)
  show WS k 0 [(0, .ref (A 19))] [] _ 0 0
  have F : Fm [2, 4, 6, 5, 7, 8, 19, 16] [18] s s := fm_rf _ _ s
  have hN := jBYW.2.1
  have hW := jBYW.2.2
  have hdg := tkw_dg jTKS
  have hwd := tkw_wd jTKS
  have b1 := bi_2 I
  have b2 := bi_1 I
  have b3 := bi_4 I
  have b4 := bi_5 I
  have b5 := bi_6 I
  have b6 := bi_19 I
  have b7 := bi_16 I
  have b8 := bi_7 I
  have L11 : ∀ (n : Nat) (t : PS) (c : Int), Bd t → Fm [2, 4, 6, 5, 7, 8, 19, 16] [18] s t → BYW B N t → TKS B N t → (RSc B N 4 3 (iI s 4) (iI s 19) (DL s) t) → (0 ≤ c ∧ c ≤ 200 ∧ iI t 19 = iI s 19 ∧ iI s 4 ≤ iI t 4 ∧ iI t 4 ≤ N ∧ iI t 16 + iI s 4 ≤ iI s 16 + iI t 4 ∧ c + iI s 4 ≤ iI t 4 ∧ iI t 2 ≤ iI t 1 ∧ iI t 4 ≤ iI t 2) → (200 - c : Int).toNat < n → (∀ (t' : PS) (c' : Int), Bd t' → Fm [2, 4, 6, 5, 7, 8, 19, 16] [18] s t' → BYW B N t' → TKS B N t' → (RSc B N 4 3 (iI s 4) (iI s 19) (DL s) t') → (0 ≤ c' ∧ c' ≤ 200 ∧ iI t' 19 = iI s 19 ∧ iI s 4 ≤ iI t' 4 ∧ iI t' 4 ≤ N ∧ iI t' 16 + iI s 4 ≤ iI s 16 + iI t' 4 ∧ c' + iI s 4 ≤ iI t' 4 ∧ iI t' 2 ≤ iI t' 1 ∧ iI t' 4 ≤ iI t' 2 ∧ iI t' 5 ≠ 43 ∧ iI t' 5 ≠ 45) → WS k 89 [(0, .ref (A 19)), (1, .int (Int32.ofInt c'))] [] (Wd A dT t') 0 0) → WS k 11 [(0, .ref (A 19)), (1, .int (Int32.ofInt c))] [] (Wd A dT t) 0 0 := by
    intro n
    induction n with
    | zero =>
      intro t c I F jjBYW jjTKS hq hi hm kx
      exact absurd hm (Nat.not_lt_zero _)
    | succ n ih =>
      intro t c I F jjBYW jjTKS hq hi hm kx
      have b1001 := bi_2 I
      have b1002 := bi_1 I
      have b1003 := bi_4 I
      have b1004 := bi_5 I
      have b1005 := bi_6 I
      have b1006 := bi_19 I
      have b1007 := bi_16 I
      have b1008 := bi_7 I
      have hN := jjBYW.2.1
      have hW := jjBYW.2.2
      have hwt := tkw_wd jjTKS
      have hlt := tkw_end jjTKS
      have hc43 := tkw_ch (x := 43) jjTKS (by decide) (by decide) (by decide)
      have hc45 := tkw_ch (x := 45) jjTKS (by decide) (by decide) (by decide)
      refine z_load_n X (x := c) rfl (List.Mem.tail _ (List.Mem.head _)) (z_sipush X rfl (z_icmp_ge X (t := 89) rfl rfl ⟨by first | exact oq_fa4e5087 hi.1 | omega, by first | exact oq_52af2b96 hi.2.1 | omega⟩ (by decide) (fun g1009 => ?_) (fun g1009 => ?_)))
      ·
        refine WS_pq [0, 1] (lv' := [(0, .ref (A 19)), (1, .int (Int32.ofInt c))]) rfl ?_
        exact kx _ c I F jjBYW jjTKS (rx_mv hq rfl (by first | exact rfl | omega)) (by first | exact ⟨hi.1, hi.2.1, hi.2.2.1, hi.2.2.2.1, hi.2.2.2.2.1, hi.2.2.2.2.2.1, hi.2.2.2.2.2.2.1, hi.2.2.2.2.2.2.2.1, hi.2.2.2.2.2.2.2.2, by omega, by omega⟩ | omega)
      ·
        refine z_aload_n X (x := A 19) rfl (List.Mem.head _) (s_getR X 19 rfl (c518_ok rfl) rfl rfl (z_getI X 1 rfl (c518_ok rfl) rfl rfl ?_))
        have b1010 := bi_5 I
        refine z_bipush X rfl (z_icmp_eq X (t := 42) rfl rfl (rng_to _) (by decide) (fun g1011 => ?_) (fun g1011 => ?_))
        ·
          refine z_aload_n X (x := A 19) rfl (List.Mem.head _) (s_getR X 19 rfl (c518_ok rfl) rfl rfl (z_getI X 1 rfl (c518_ok rfl) rfl rfl ?_))
          have b1012 := bi_5 I
          refine z_bipush X rfl ?_
          have N1013 : ∀ e1014 : Int, ((((iI t 5) ≠ 43) ∧ e1014 = (-10)) ∨ (((iI t 5) = 43) ∧ e1014 = (-9))) → WS k 61 [(0, .ref (A 19)), (1, .int (Int32.ofInt c))] [.int (Int32.ofInt e1014)] (Wd A dT t) 0 0 := by
            intro e1014 he1014
            have re1014 : (-10) ≤ e1014 ∧ e1014 ≤ (-9) := by first | exact And.intro (oq_117cb67b he1014) (oq_7b84d585 he1014) | (clear he1014; omega) | omega
            refine z_store_n X (lv' := [(2, .int (Int32.ofInt e1014)), (0, .ref (A 19)), (1, .int (Int32.ofInt c))]) rfl (by decide) (fun _ h => h) (z_aload_n X (x := A 19) rfl (List.Mem.tail _ (List.Mem.head _)) (s_getR X 19 rfl (c518_ok rfl) rfl rfl ?_))
            have hcd : chT B N (iI t 4) 43 ∨ chT B N (iI t 4) 45 := (by first | exact Or.inl (hc43.1 (by first | exact g1011 | (clear he1014; omega) | omega)).1 | exact Or.inr (hc45.1 (by first | (clear he1014; omega) | omega)).1)
            have ha1 : iI t 2 = iI t 4 + 1 := by first | exact (hc43.1 (by first | exact g1011 | (clear he1014; omega) | omega)).2 | exact (hc45.1 (by first | (clear he1014; omega) | omega)).2
            have hop : e1014 = opC B (iI t 4) := by have hc := hcd; unfold opC; rcases hc with q | q <;> rw [q.2] <;> omega
            refine z_callV X 1 (rm := rmN 129) (As := []) (st := []) rfl rfl (by decide) rfl (by rw [E.1, E.2.1, E.2.2.1]; exact c10_step3 G I jjBYW (by first | exact hi.2.2.2.2.2.2.2.1 | omega)) ⟨by rw [E.2.2.2]; exact (show 7 + 1 ≤ (12 + (4 * (r) + 3)) from oq_c7636a98 r), by rw [E.2.2.2]; exact (show 8 + (1 + 11) + 121 ≤ (500 + 45 * (4 * (r) + 3)) from oq_aba64d1b r), by rw [E.2.2.2]; exact Nat.le_refl 0, by rw [E.2.2.2]; exact Nat.le_refl 0⟩ (Nat.le_of_ble_eq_true rfl) (fun vv s1015 hq => ?_) (fun ee s1015 hq => ?_)
            rotate_left
            · obtain ⟨Is1015, Fs1015, JBYW_s1015, JTKS_s1015, hv, hps1015⟩ := hq; cases hv
            obtain ⟨Is1015, Fs1015, JBYW_s1015, JTKS_s1015, hv, hps1015⟩ := hq
            cases hv
            have Gs1015 := fm_tq F Fs1015 rfl rfl
            have JBYW_s1015 : BYW B N s1015 := BYW_fm Fs1015 (by decide) jjBYW
            have b1017 := bi_2 Is1015
            have ws1015_1 : iI s1015 1 = iI t 1 := fm_iq Fs1015 rfl
            have b1018 := bi_4 Is1015
            have b1019 := bi_5 Is1015
            have b1020 := bi_6 Is1015
            have ws1015_19 : iI s1015 19 = iI t 19 := fm_iq Fs1015 rfl
            have ws1015_16 : iI s1015 16 = iI t 16 := fm_iq Fs1015 rfl
            have ws1015_7 : iI s1015 7 = iI t 7 := fm_iq Fs1015 rfl
            have dls1015 : DL s1015 = DL t := (DL_fm Fs1015 (by decide) (by decide)).trans rfl
            show WS k 69 [(2, .int (Int32.ofInt e1014)), (0, .ref (A 19)), (1, .int (Int32.ofInt c))] [] (Wd A dT s1015) 0 0
            have hs9 : iI s1015 4 = sk B N (iI t 4 + 1) := by rw [hps1015.2.2.1, show iI t 2 = iI t 4 + 1 by first | exact ha1 | (clear he1014; omega) | omega]
            refine z_aload_n X (x := A 19) rfl (List.Mem.tail _ (List.Mem.head _)) (z_callV X 19 (rm := (rkR (4 * (r) + 2))) (As := []) (st := []) rfl rfl (by decide) rfl (by rw [E.1, E.2.1, E.2.2.1]; exact hP Is1015 JBYW_s1015 JTKS_s1015 (by first | exact hps1015.1 | omega) (by first | exact hps1015.2.1 | omega) (by first | exact oq_abe4e353 p2 ws1015_19 hi.2.2.1 | omega) (by first | exact oq_9b272ea2 ws1015_16 hi.2.2.2.2.2.1 p3 hps1015.2.2.2 ha1 | omega)) ⟨by rw [E.2.2.2]; exact (show (12 + (4 * (r) + 2)) + 1 ≤ (12 + (4 * (r) + 3)) from oq_2e478062 r), by rw [E.2.2.2]; exact (show 8 + (3 + 11) + (500 + 45 * (4 * (r) + 2)) ≤ (500 + 45 * (4 * (r) + 3)) from oq_cdd7b804 r), by rw [E.2.2.2]; exact Nat.le_refl 0, by rw [E.2.2.2]; exact Nat.le_refl 0⟩ (Nat.le_of_ble_eq_true rfl) (fun vv s1021 hq => ?_) (fun ee s1021 hq => ?_))
            rotate_left
            · obtain ⟨Is1021, Fs1021, JBYW_s1021, JTKS_s1021, e1022, hv, hrs1021, hps1021⟩ := hq; cases hv
            obtain ⟨Is1021, Fs1021, JBYW_s1021, JTKS_s1021, e1022, hv, hrs1021, hps1021⟩ := hq
            have hps1021p := And.intro hps1021.2.1 (And.intro hps1021.2.2.1 (hps1021.2.2.2))
            cases hv
            have Gs1021 := fm_tq Gs1015 Fs1021 rfl rfl
            have JBYW_s1021 : BYW B N s1021 := BYW_fm Fs1021 (by decide) JBYW_s1015
            have b1023 := bi_2 Is1021
            have ws1021_1 : iI s1021 1 = iI s1015 1 := fm_iq Fs1021 rfl
            have b1024 := bi_4 Is1021
            have b1025 := bi_5 Is1021
            have b1026 := bi_6 Is1021
            have b1027 := bi_19 Is1021
            have b1028 := bi_16 Is1021
            have b1029 := bi_7 Is1021
            show WS k 73 [(2, .int (Int32.ofInt e1014)), (0, .ref (A 19)), (1, .int (Int32.ofInt c))] [.int (Int32.ofInt e1022)] (Wd A dT s1021) 0 0
            refine z_if_ne X (t := 78) rfl rfl hrs1021 (fun g1030 => ?_) (fun g1030 => ?_)
            ·
              refine z_aload_n X (x := A 19) rfl (List.Mem.tail _ (List.Mem.head _)) (z_load_n X (x := e1014) rfl (List.Mem.head _) (z_callV X 19 (rm := rmN 82) (As := [.int (Int32.ofInt e1014)]) (st := []) rfl rfl (by decide) rfl (by rw [E.1, E.2.1, E.2.2.1]; exact c7_put3 G Is1021 (by first | exact ⟨oq_3d7a4679 re1014.1, oq_8ddf7954 re1014.2⟩ | omega) (by first | exact oq_cbf4270c g1030 b1024.2 hps1021.1 ws1015_16 hps1015.2.2.2 ha1 hi.2.2.2.2.2.1 p3 | omega)) ⟨by rw [E.2.2.2]; exact (show 6 + 1 ≤ (12 + (4 * (r) + 3)) from oq_1fdce876 r), by rw [E.2.2.2]; exact (show 8 + (2 + 11) + 100 ≤ (500 + 45 * (4 * (r) + 3)) from oq_55a309dd r), by rw [E.2.2.2]; exact Nat.le_refl 0, by rw [E.2.2.2]; exact Nat.le_refl 0⟩ (Nat.le_of_ble_eq_true rfl) (fun vv s1031 hq => ?_) (fun ee s1031 hq => ?_)))
              rotate_left
              · obtain ⟨Is1031, Fs1031, hv, hps1031⟩ := hq; cases hv
              obtain ⟨Is1031, Fs1031, hv, hps1031⟩ := hq
              cases hv
              have Gs1031 := fm_tq Gs1021 Fs1031 rfl rfl
              have JBYW_s1031 : BYW B N s1031 := BYW_fm Fs1031 (by decide) JBYW_s1021
              have JTKS_s1031 : TKS B N s1031 := TKS_fm Fs1031 (by decide) JTKS_s1021
              have ws1031_2 : iI s1031 2 = iI s1021 2 := fm_iq Fs1031 rfl
              have ws1031_1 : iI s1031 1 = iI s1021 1 := fm_iq Fs1031 rfl
              have ws1031_4 : iI s1031 4 = iI s1021 4 := fm_iq Fs1031 rfl
              have ws1031_5 : iI s1031 5 = iI s1021 5 := fm_iq Fs1031 rfl
              have ws1031_6 : iI s1031 6 = iI s1021 6 := fm_iq Fs1031 rfl
              have ws1031_19 : iI s1031 19 = iI s1021 19 := fm_iq Fs1031 rfl
              have b1033 := bi_16 Is1031
              have ws1031_7 : iI s1031 7 = iI s1021 7 := fm_iq Fs1031 rfl
              have dls1031 : DL s1031 = DL s1021 ++ [e1014] := by rw [hps1031.2]
              show WS k 83 [(2, .int (Int32.ofInt e1014)), (0, .ref (A 19)), (1, .int (Int32.ofInt c))] [] (Wd A dT s1031) 0 0
              refine z_inc X (x := c) (lv' := [(1, .int (Int32.ofInt (c + 1))), (2, .int (Int32.ofInt e1014)), (0, .ref (A 19))]) rfl (by decide) (List.Mem.tail _ (List.Mem.tail _ (List.Mem.head _))) (fun _ h => h) (z_goto X (t := 11) rfl rfl (WS_pq [2, 0] (lv' := [(0, .ref (A 19)), (1, .int (Int32.ofInt (c + 1)))]) rfl ?_))
              exact ih _ (c + 1) Is1031 Gs1031 JBYW_s1031 JTKS_s1031 (rx_up (q1 := sk B N (iI t 4 + 1)) hq (dls1015) (by have h := hps1021.2.2.2; rw [show iI s1015 4 = sk B N (iI t 4 + 1) by first | exact hs9 | (clear g1030 hps1021 he1014; omega) | (clear hps1021 he1014; omega) | omega, show iI s1015 19 = iI s 19 by first | exact oq_1aa5be9e ws1015_19 hi.2.2.1 | (clear g1030 hps1021 he1014; omega) | (clear hps1021 he1014; omega) | omega] at h; exact h) (by first | exact g1030 | (clear g1030 hps1021 he1014; omega) | (clear hps1021 he1014; omega) | omega) dls1031 (by first | exact ws1031_4 | (clear g1030 hps1021 he1014; omega) | (clear hps1021 he1014; omega) | omega) (fun a r r1 h z h2 => rs_go hcd h z (by rw [← hop]; exact h2))) (by first | exact ⟨oq_54f49eb5 hi.1, oq_0cb6ab8a g1009, oq_5901dee4 ws1031_19 g1030 hps1021.1 ws1015_19 hi.2.2.1, oq_c0e77623 ws1031_4 g1030 hps1021.1 hps1015.2.2.2 ha1 hi.2.2.2.1, oq_a2786552 ws1031_4 g1030 hps1021.1, by first | exact oq_8610766d ws1031_4 hps1031.1 g1030 hps1021.1 ws1015_16 hps1015.2.2.2 ha1 hi.2.2.2.2.2.1 | (clear g1030 hps1021 he1014; omega) | (clear hps1021 he1014; omega) | omega, oq_155da3c6 ws1031_4 g1030 hps1021.1 hps1015.2.2.2 ha1 hi.2.2.2.2.2.2.1, oq_e7b9ecab ws1031_1 ws1031_2 hps1021.2.1, oq_e7b9ecab ws1031_2 ws1031_4 hps1021.2.2.1⟩ | omega) (by first | exact qk_me hm (by decide) (oq_1ab01402 g1009) | exact oq_1044a270 g1009 hm | omega) kx
            ·
              refine z_const X rfl ?_
              have hRD : RDc B N 3 (iI s 4) (iI s 19) (DL s) s1021 0 := rx_bad hq (by have h := hps1021.2.2.2; rw [show iI s1015 4 = sk B N (iI t 4 + 1) by first | exact hs9 | (clear hps1021 he1014; omega) | (clear he1014; omega) | omega, show iI s1015 19 = iI s 19 by first | exact oq_1aa5be9e ws1015_19 hi.2.2.1 | (clear hps1021 he1014; omega) | (clear he1014; omega) | omega] at h; exact h) (by first | exact g1030 | (clear hps1021 he1014; omega) | (clear he1014; omega) | omega) (by first | exact rfl | (clear hps1021 he1014; omega) | (clear he1014; omega) | omega) (fun a r h z => rs_bad hcd h z)
              exact w_iret X.1 q hRt (nar_ret (by first | exact Or.inl (by decide) | omega)) (ax_d X (show cdA 75 77 = some (.ireturn, 1, 0, 0, 0) from rfl)) (Nat.zero_le _) (Nat.zero_le _) ⟨_, rfl, Is1021, Gs1021, JBYW_s1021, JTKS_s1021, 0, rfl, (by decide), ⟨rd_post hRD rfl (by first | exact oq_f8a2cf0e hi.2.2.2.2.1 hi.2.2.2.1 | omega) (by first | exact b7.1 | omega) (by first | exact b1028.1 | omega) (fun h9 => absurd rfl h9), by first | exact hps1021.2.1 | omega, by first | exact hps1021.2.2.1 | omega, hRD⟩⟩
          refine z_icmp_ne X (t := 59) rfl rfl (rng_to _) (by decide) (fun g1034 => ?_) (fun g1034 => ?_)
          ·
            exact z_bipush X rfl (N1013 _ (Or.inl ⟨g1034, rfl⟩))
          ·
            exact z_bipush X rfl (z_goto X (t := 61) rfl rfl (N1013 _ (Or.inr (⟨g1034, rfl⟩))))
        ·
          refine z_aload_n X (x := A 19) rfl (List.Mem.head _) (s_getR X 19 rfl (c518_ok rfl) rfl rfl (z_getI X 1 rfl (c518_ok rfl) rfl rfl ?_))
          have b1035 := bi_5 I
          refine z_bipush X rfl (z_icmp_ne X (t := 89) rfl rfl (rng_to _) (by decide) (fun g1036 => ?_) (fun g1036 => ?_))
          ·
            refine WS_pq [0, 1] (lv' := [(0, .ref (A 19)), (1, .int (Int32.ofInt c))]) rfl ?_
            exact kx _ c I F jjBYW jjTKS (rx_mv hq rfl (by first | exact rfl | (clear g1036 g1011; omega) | (clear g1011; omega) | omega)) (by first | exact ⟨hi.1, hi.2.1, hi.2.2.1, hi.2.2.2.1, hi.2.2.2.2.1, hi.2.2.2.2.2.1, hi.2.2.2.2.2.2.1, hi.2.2.2.2.2.2.2.1, hi.2.2.2.2.2.2.2.2, g1011, g1036⟩ | omega)
          ·
            refine z_aload_n X (x := A 19) rfl (List.Mem.head _) (s_getR X 19 rfl (c518_ok rfl) rfl rfl (z_getI X 1 rfl (c518_ok rfl) rfl rfl ?_))
            have b1037 := bi_5 I
            refine z_bipush X rfl ?_
            have N1038 : ∀ e1039 : Int, ((((iI t 5) ≠ 43) ∧ e1039 = (-10)) ∨ (((iI t 5) = 43) ∧ e1039 = (-9))) → WS k 61 [(0, .ref (A 19)), (1, .int (Int32.ofInt c))] [.int (Int32.ofInt e1039)] (Wd A dT t) 0 0 := by
              intro e1039 he1039
              have re1039 : (-10) ≤ e1039 ∧ e1039 ≤ (-9) := by first | exact And.intro (oq_117cb67b he1039) (oq_7b84d585 he1039) | (clear he1039 g1011; omega) | (clear g1011; omega) | omega
              refine z_store_n X (lv' := [(2, .int (Int32.ofInt e1039)), (0, .ref (A 19)), (1, .int (Int32.ofInt c))]) rfl (by decide) (fun _ h => h) (z_aload_n X (x := A 19) rfl (List.Mem.tail _ (List.Mem.head _)) (s_getR X 19 rfl (c518_ok rfl) rfl rfl ?_))
              have hcd : chT B N (iI t 4) 43 ∨ chT B N (iI t 4) 45 := (by first | exact Or.inl (hc43.1 (by first | (clear he1039 g1011; omega) | (clear g1011; omega) | omega)).1 | exact Or.inr (hc45.1 (by first | exact g1036 | (clear he1039 g1011; omega) | (clear g1011; omega) | omega)).1)
              have ha1 : iI t 2 = iI t 4 + 1 := by first | exact (hc43.1 (by first | (clear he1039 g1011; omega) | (clear g1011; omega) | omega)).2 | exact (hc45.1 (by first | exact g1036 | (clear he1039 g1011; omega) | (clear g1011; omega) | omega)).2
              have hop : e1039 = opC B (iI t 4) := by have hc := hcd; unfold opC; rcases hc with q | q <;> rw [q.2] <;> omega
              refine z_callV X 1 (rm := rmN 129) (As := []) (st := []) rfl rfl (by decide) rfl (by rw [E.1, E.2.1, E.2.2.1]; exact c10_step3 G I jjBYW (by first | exact hi.2.2.2.2.2.2.2.1 | omega)) ⟨by rw [E.2.2.2]; exact (show 7 + 1 ≤ (12 + (4 * (r) + 3)) from oq_c7636a98 r), by rw [E.2.2.2]; exact (show 8 + (1 + 11) + 121 ≤ (500 + 45 * (4 * (r) + 3)) from oq_aba64d1b r), by rw [E.2.2.2]; exact Nat.le_refl 0, by rw [E.2.2.2]; exact Nat.le_refl 0⟩ (Nat.le_of_ble_eq_true rfl) (fun vv s1040 hq => ?_) (fun ee s1040 hq => ?_)
              rotate_left
              · obtain ⟨Is1040, Fs1040, JBYW_s1040, JTKS_s1040, hv, hps1040⟩ := hq; cases hv
              obtain ⟨Is1040, Fs1040, JBYW_s1040, JTKS_s1040, hv, hps1040⟩ := hq
              cases hv
              have Gs1040 := fm_tq F Fs1040 rfl rfl
              have JBYW_s1040 : BYW B N s1040 := BYW_fm Fs1040 (by decide) jjBYW
              have b1042 := bi_2 Is1040
              have ws1040_1 : iI s1040 1 = iI t 1 := fm_iq Fs1040 rfl
              have b1043 := bi_4 Is1040
              have b1044 := bi_5 Is1040
              have b1045 := bi_6 Is1040
              have ws1040_19 : iI s1040 19 = iI t 19 := fm_iq Fs1040 rfl
              have ws1040_16 : iI s1040 16 = iI t 16 := fm_iq Fs1040 rfl
              have ws1040_7 : iI s1040 7 = iI t 7 := fm_iq Fs1040 rfl
              have dls1040 : DL s1040 = DL t := (DL_fm Fs1040 (by decide) (by decide)).trans rfl
              show WS k 69 [(2, .int (Int32.ofInt e1039)), (0, .ref (A 19)), (1, .int (Int32.ofInt c))] [] (Wd A dT s1040) 0 0
              have hs9 : iI s1040 4 = sk B N (iI t 4 + 1) := by rw [hps1040.2.2.1, show iI t 2 = iI t 4 + 1 by first | exact ha1 | (clear he1039 g1011; omega) | (clear g1011; omega) | omega]
              refine z_aload_n X (x := A 19) rfl (List.Mem.tail _ (List.Mem.head _)) (z_callV X 19 (rm := (rkR (4 * (r) + 2))) (As := []) (st := []) rfl rfl (by decide) rfl (by rw [E.1, E.2.1, E.2.2.1]; exact hP Is1040 JBYW_s1040 JTKS_s1040 (by first | exact hps1040.1 | omega) (by first | exact hps1040.2.1 | omega) (by first | exact oq_abe4e353 p2 ws1040_19 hi.2.2.1 | omega) (by first | exact oq_9b272ea2 ws1040_16 hi.2.2.2.2.2.1 p3 hps1040.2.2.2 ha1 | omega)) ⟨by rw [E.2.2.2]; exact (show (12 + (4 * (r) + 2)) + 1 ≤ (12 + (4 * (r) + 3)) from oq_2e478062 r), by rw [E.2.2.2]; exact (show 8 + (3 + 11) + (500 + 45 * (4 * (r) + 2)) ≤ (500 + 45 * (4 * (r) + 3)) from oq_cdd7b804 r), by rw [E.2.2.2]; exact Nat.le_refl 0, by rw [E.2.2.2]; exact Nat.le_refl 0⟩ (Nat.le_of_ble_eq_true rfl) (fun vv s1046 hq => ?_) (fun ee s1046 hq => ?_))
              rotate_left
              · obtain ⟨Is1046, Fs1046, JBYW_s1046, JTKS_s1046, e1047, hv, hrs1046, hps1046⟩ := hq; cases hv
              obtain ⟨Is1046, Fs1046, JBYW_s1046, JTKS_s1046, e1047, hv, hrs1046, hps1046⟩ := hq
              have hps1046p := And.intro hps1046.2.1 (And.intro hps1046.2.2.1 (hps1046.2.2.2))
              cases hv
              have Gs1046 := fm_tq Gs1040 Fs1046 rfl rfl
              have JBYW_s1046 : BYW B N s1046 := BYW_fm Fs1046 (by decide) JBYW_s1040
              have b1048 := bi_2 Is1046
              have ws1046_1 : iI s1046 1 = iI s1040 1 := fm_iq Fs1046 rfl
              have b1049 := bi_4 Is1046
              have b1050 := bi_5 Is1046
              have b1051 := bi_6 Is1046
              have b1052 := bi_19 Is1046
              have b1053 := bi_16 Is1046
              have b1054 := bi_7 Is1046
              show WS k 73 [(2, .int (Int32.ofInt e1039)), (0, .ref (A 19)), (1, .int (Int32.ofInt c))] [.int (Int32.ofInt e1047)] (Wd A dT s1046) 0 0
              refine z_if_ne X (t := 78) rfl rfl hrs1046 (fun g1055 => ?_) (fun g1055 => ?_)
              ·
                refine z_aload_n X (x := A 19) rfl (List.Mem.tail _ (List.Mem.head _)) (z_load_n X (x := e1039) rfl (List.Mem.head _) (z_callV X 19 (rm := rmN 82) (As := [.int (Int32.ofInt e1039)]) (st := []) rfl rfl (by decide) rfl (by rw [E.1, E.2.1, E.2.2.1]; exact c7_put3 G Is1046 (by first | exact ⟨oq_3d7a4679 re1039.1, oq_8ddf7954 re1039.2⟩ | omega) (by first | exact oq_cbf4270c g1055 b1049.2 hps1046.1 ws1040_16 hps1040.2.2.2 ha1 hi.2.2.2.2.2.1 p3 | omega)) ⟨by rw [E.2.2.2]; exact (show 6 + 1 ≤ (12 + (4 * (r) + 3)) from oq_1fdce876 r), by rw [E.2.2.2]; exact (show 8 + (2 + 11) + 100 ≤ (500 + 45 * (4 * (r) + 3)) from oq_55a309dd r), by rw [E.2.2.2]; exact Nat.le_refl 0, by rw [E.2.2.2]; exact Nat.le_refl 0⟩ (Nat.le_of_ble_eq_true rfl) (fun vv s1056 hq => ?_) (fun ee s1056 hq => ?_)))
                rotate_left
                · obtain ⟨Is1056, Fs1056, hv, hps1056⟩ := hq; cases hv
                obtain ⟨Is1056, Fs1056, hv, hps1056⟩ := hq
                cases hv
                have Gs1056 := fm_tq Gs1046 Fs1056 rfl rfl
                have JBYW_s1056 : BYW B N s1056 := BYW_fm Fs1056 (by decide) JBYW_s1046
                have JTKS_s1056 : TKS B N s1056 := TKS_fm Fs1056 (by decide) JTKS_s1046
                have ws1056_2 : iI s1056 2 = iI s1046 2 := fm_iq Fs1056 rfl
                have ws1056_1 : iI s1056 1 = iI s1046 1 := fm_iq Fs1056 rfl
                have ws1056_4 : iI s1056 4 = iI s1046 4 := fm_iq Fs1056 rfl
                have ws1056_5 : iI s1056 5 = iI s1046 5 := fm_iq Fs1056 rfl
                have ws1056_6 : iI s1056 6 = iI s1046 6 := fm_iq Fs1056 rfl
                have ws1056_19 : iI s1056 19 = iI s1046 19 := fm_iq Fs1056 rfl
                have b1058 := bi_16 Is1056
                have ws1056_7 : iI s1056 7 = iI s1046 7 := fm_iq Fs1056 rfl
                have dls1056 : DL s1056 = DL s1046 ++ [e1039] := by rw [hps1056.2]
                show WS k 83 [(2, .int (Int32.ofInt e1039)), (0, .ref (A 19)), (1, .int (Int32.ofInt c))] [] (Wd A dT s1056) 0 0
                refine z_inc X (x := c) (lv' := [(1, .int (Int32.ofInt (c + 1))), (2, .int (Int32.ofInt e1039)), (0, .ref (A 19))]) rfl (by decide) (List.Mem.tail _ (List.Mem.tail _ (List.Mem.head _))) (fun _ h => h) (z_goto X (t := 11) rfl rfl (WS_pq [2, 0] (lv' := [(0, .ref (A 19)), (1, .int (Int32.ofInt (c + 1)))]) rfl ?_))
                exact ih _ (c + 1) Is1056 Gs1056 JBYW_s1056 JTKS_s1056 (rx_up (q1 := sk B N (iI t 4 + 1)) hq (dls1040) (by have h := hps1046.2.2.2; rw [show iI s1040 4 = sk B N (iI t 4 + 1) by first | exact hs9 | (clear g1055 hps1046 he1039 g1011; omega) | (clear hps1046 he1039 g1011; omega) | omega, show iI s1040 19 = iI s 19 by first | exact oq_1aa5be9e ws1040_19 hi.2.2.1 | (clear g1055 hps1046 he1039 g1011; omega) | (clear hps1046 he1039 g1011; omega) | omega] at h; exact h) (by first | exact g1055 | (clear g1055 hps1046 he1039 g1011; omega) | (clear hps1046 he1039 g1011; omega) | omega) dls1056 (by first | exact ws1056_4 | (clear g1055 hps1046 he1039 g1011; omega) | (clear hps1046 he1039 g1011; omega) | omega) (fun a r r1 h z h2 => rs_go hcd h z (by rw [← hop]; exact h2))) (by first | exact ⟨oq_54f49eb5 hi.1, oq_0cb6ab8a g1009, oq_5901dee4 ws1056_19 g1055 hps1046.1 ws1040_19 hi.2.2.1, oq_c0e77623 ws1056_4 g1055 hps1046.1 hps1040.2.2.2 ha1 hi.2.2.2.1, oq_a2786552 ws1056_4 g1055 hps1046.1, by first | exact oq_8610766d ws1056_4 hps1056.1 g1055 hps1046.1 ws1040_16 hps1040.2.2.2 ha1 hi.2.2.2.2.2.1 | (clear g1055 hps1046 he1039 g1011; omega) | (clear hps1046 he1039 g1011; omega) | omega, oq_155da3c6 ws1056_4 g1055 hps1046.1 hps1040.2.2.2 ha1 hi.2.2.2.2.2.2.1, oq_e7b9ecab ws1056_1 ws1056_2 hps1046.2.1, oq_e7b9ecab ws1056_2 ws1056_4 hps1046.2.2.1⟩ | omega) (by first | exact qk_me hm (by decide) (oq_1ab01402 g1009) | exact oq_1044a270 g1009 hm | omega) kx
              ·
                refine z_const X rfl ?_
                have hRD : RDc B N 3 (iI s 4) (iI s 19) (DL s) s1046 0 := rx_bad hq (by have h := hps1046.2.2.2; rw [show iI s1040 4 = sk B N (iI t 4 + 1) by first | exact hs9 | (clear hps1046 he1039 g1011; omega) | (clear he1039 g1011; omega) | omega, show iI s1040 19 = iI s 19 by first | exact oq_1aa5be9e ws1040_19 hi.2.2.1 | (clear hps1046 he1039 g1011; omega) | (clear he1039 g1011; omega) | omega] at h; exact h) (by first | exact g1055 | (clear hps1046 he1039 g1011; omega) | (clear he1039 g1011; omega) | omega) (by first | exact rfl | (clear hps1046 he1039 g1011; omega) | (clear he1039 g1011; omega) | omega) (fun a r h z => rs_bad hcd h z)
                exact w_iret X.1 q hRt (nar_ret (by first | exact Or.inl (by decide) | omega)) (ax_d X (show cdA 75 77 = some (.ireturn, 1, 0, 0, 0) from rfl)) (Nat.zero_le _) (Nat.zero_le _) ⟨_, rfl, Is1046, Gs1046, JBYW_s1046, JTKS_s1046, 0, rfl, (by decide), ⟨rd_post hRD rfl (by first | exact oq_f8a2cf0e hi.2.2.2.2.1 hi.2.2.2.1 | omega) (by first | exact b7.1 | omega) (by first | exact b1053.1 | omega) (fun h9 => absurd rfl h9), by first | exact hps1046.2.1 | omega, by first | exact hps1046.2.2.1 | omega, hRD⟩⟩
            refine z_icmp_ne X (t := 59) rfl rfl (rng_to _) (by decide) (fun g1059 => ?_) (fun g1059 => ?_)
            ·
              exact z_bipush X rfl (N1038 _ (Or.inl ⟨g1059, rfl⟩))
            ·
              exact z_bipush X rfl (z_goto X (t := 61) rfl rfl (N1038 _ (Or.inr (⟨g1059, rfl⟩))))
  refine z_aload_n X (x := A 19) rfl (List.Mem.head _) (z_callV X 19 (rm := (rkR (4 * (r) + 2))) (As := []) (st := []) rfl rfl (by decide) rfl (by rw [E.1, E.2.1, E.2.2.1]; exact hP I jBYW jTKS (by first | exact p0 | omega) (by first | exact p1 | omega) (by first | exact p2 | omega) (by first | exact p3 | omega)) ⟨by rw [E.2.2.2]; exact (show (12 + (4 * (r) + 2)) + 1 ≤ (12 + (4 * (r) + 3)) from oq_2e478062 r), by rw [E.2.2.2]; exact (show 8 + (3 + 11) + (500 + 45 * (4 * (r) + 2)) ≤ (500 + 45 * (4 * (r) + 3)) from oq_cdd7b804 r), by rw [E.2.2.2]; exact Nat.le_refl 0, by rw [E.2.2.2]; exact Nat.le_refl 0⟩ (Nat.le_of_ble_eq_true rfl) (fun vv s9 hq => ?_) (fun ee s9 hq => ?_))
  rotate_left
  · obtain ⟨Is9, Fs9, JBYW_s9, JTKS_s9, e10, hv, hrs9, hps9⟩ := hq; cases hv
  obtain ⟨Is9, Fs9, JBYW_s9, JTKS_s9, e10, hv, hrs9, hps9⟩ := hq
  have hps9p := And.intro hps9.2.1 (And.intro hps9.2.2.1 (hps9.2.2.2))
  cases hv
  have Gs9 := fm_tq F Fs9 rfl rfl
  have JBYW_s9 : BYW B N s9 := BYW_fm Fs9 (by decide) jBYW
  have b11 := bi_2 Is9
  have ws9_1 : iI s9 1 = iI s 1 := fm_iq Fs9 rfl
  have b12 := bi_4 Is9
  have b13 := bi_5 Is9
  have b14 := bi_6 Is9
  have b15 := bi_19 Is9
  have b16 := bi_16 Is9
  have b17 := bi_7 Is9
  show WS k 4 [(0, .ref (A 19))] [.int (Int32.ofInt e10)] (Wd A dT s9) 0 0
  refine z_if_ne X (t := 9) rfl rfl hrs9 (fun g18 => ?_) (fun g18 => ?_)
  ·
    refine z_const X rfl (z_store_n X (lv' := [(1, .int (Int32.ofInt 0)), (0, .ref (A 19))]) rfl (by decide) (fun _ h => h) (WS_pq [1, 0] (lv' := [(0, .ref (A 19)), (1, .int (Int32.ofInt 0))]) rfl (L11 ((200 - 0 : Int).toNat + 1) s9 0 Is9 Gs9 JBYW_s9 JTKS_s9 (rx_0 hps9.2.2.2 (by first | exact g18 | (clear g18 hps9; omega) | (clear hps9; omega) | omega) (fun r r1 h z h2 => ws_go h z h2)) (by first | exact ⟨by decide, by decide, oq_6259e910 g18 hps9.1, oq_af044290 g18 hps9.1, oq_0f66faba g18 hps9.1, oq_3cd265a3 g18 hps9.1, oq_c32860b4 g18 hps9.1, hps9.2.1, hps9.2.2.1⟩ | omega) (Nat.lt_succ_self _) ?_)))
    intro s19 x20 Is19 Fs19 JBYW_s19 JTKS_s19 Qs19 hs19
    have b21 := bi_2 Is19
    have b22 := bi_1 Is19
    have b23 := bi_4 Is19
    have b24 := bi_5 Is19
    have b25 := bi_6 Is19
    have b26 := bi_19 Is19
    have b27 := bi_16 Is19
    have b28 := bi_7 Is19
    have hNs19 := JBYW_s19.2.1
    have hWs19 := JBYW_s19.2.2
    refine z_const X rfl ?_
    have hRD : RDc B N 3 (iI s 4) (iI s 19) (DL s) s19 1 := rx_end Qs19 (fun a => rs_end (fun q => by exact Or.elim q (fun q => by exact (tkw_ch (x := 43) JTKS_s19 (by decide) (by decide) (by decide)).2 (by first | exact hs19.2.2.2.2.2.2.2.2.2.1 | (clear g18 hps9; omega) | (clear hps9; omega) | omega) q) (fun q => by exact (tkw_ch (x := 45) JTKS_s19 (by decide) (by decide) (by decide)).2 (by first | exact hs19.2.2.2.2.2.2.2.2.2.2 | (clear g18 hps9; omega) | (clear hps9; omega) | omega) q)))
    exact w_iret X.1 q hRt (nar_ret (by first | exact Or.inr (by decide) | omega)) (ax_d X (show cdA 75 90 = some (.ireturn, 1, 0, 0, 0) from rfl)) (Nat.zero_le _) (Nat.zero_le _) ⟨_, rfl, Is19, Fs19, JBYW_s19, JTKS_s19, 1, rfl, (by decide), ⟨rd_post hRD rfl (by first | exact oq_f8a2cf0e hs19.2.2.2.2.1 hs19.2.2.2.1 | omega) (by first | exact b7.1 | omega) (by first | exact b27.1 | omega) (fun h9 => by first | exact hs19.2.2.1 | omega), by first | exact hs19.2.2.2.2.2.2.2.1 | omega, by first | exact hs19.2.2.2.2.2.2.2.2.1 | omega, hRD⟩⟩
  ·
    refine z_const X rfl ?_
    have hRD : RDc B N 3 (iI s 4) (iI s 19) (DL s) s9 0 := rd_bad hps9.2.2.2 (by first | exact g18 | (clear hps9; omega) | omega) (by first | exact rfl | (clear hps9; omega) | omega) (fun r h z => ws_bad h z)
    exact w_iret X.1 q hRt (nar_ret (by first | exact Or.inl (by decide) | omega)) (ax_d X (show cdA 75 8 = some (.ireturn, 1, 0, 0, 0) from rfl)) (Nat.zero_le _) (Nat.zero_le _) ⟨_, rfl, Is9, Gs9, JBYW_s9, JTKS_s9, 0, rfl, (by decide), ⟨rd_post hRD rfl (by first | exact oq_4547f4f6 hN p1 p0 | (clear hps9; omega) | omega) (by first | exact b7.1 | omega) (by first | exact b16.1 | omega) (fun h9 => absurd rfl h9), by first | exact hps9.2.1 | omega, by first | exact hps9.2.2.1 | omega, hRD⟩⟩
theorem c7_sumr3 (G : GX l s0 D tys a0 dT) {B : Nat → Int} {N : Int} (SF : SF0 s0) (GT : TXw0 s0) (r : Nat) : (∀ {s : PS} {x : Int}, Bd s → BYW B N s → TKS B N s → ((x = -13 ∧ whV B N (iI s 4) = 6476969) ∨ (x = -14 ∧ whV B N (iI s 4) = 267347)) → (iI s 2 ≤ iI s 1) → (iI s 4 ≤ iI s 2) → (6 - iI s 19 ≤ ((r : Nat) : Int)) → (iI s 16 ≤ iI s 4) → CT l s0 D A dT 78 (rkR (4 * (r))) [.ref (A 19), .int (Int32.ofInt x)] s (fun o t => Bd t ∧ Fm [2, 4, 6, 5, 7, 8, 19, 16] [18] s t ∧ BYW B N t ∧ TKS B N t ∧ ∃ e, o = .inl (some (.int (Int32.ofInt e))) ∧ rng e ∧ ((e = 0 ∨ (e = 1 ∧ iI t 19 = iI s 19 ∧ iI s 4 ≤ iI t 4 ∧ iI t 4 ≤ N ∧ iI t 16 + iI s 4 ≤ iI s 16 + iI t 4)) ∧ iI t 2 ≤ iI t 1 ∧ iI t 4 ≤ iI t 2 ∧ RDc B N 0 (iI s 4) (iI s 19) (DL s) t e))) ∧ (∀ {s : PS} , Bd s → BYW B N s → TKS B N s → (iI s 2 ≤ iI s 1) → (iI s 4 ≤ iI s 2) → (6 - iI s 19 ≤ ((r : Nat) : Int)) → (iI s 16 ≤ iI s 4) → CT l s0 D A dT 77 (rkR (4 * (r) + 1)) [.ref (A 19)] s (fun o t => Bd t ∧ Fm [2, 4, 6, 5, 7, 8, 19, 16] [18] s t ∧ BYW B N t ∧ TKS B N t ∧ ∃ e, o = .inl (some (.int (Int32.ofInt e))) ∧ rng e ∧ ((e = 0 ∨ (e = 1 ∧ iI t 19 = iI s 19 ∧ iI s 4 ≤ iI t 4 ∧ iI t 4 ≤ N ∧ iI t 16 + iI s 4 ≤ iI s 16 + iI t 4)) ∧ iI t 2 ≤ iI t 1 ∧ iI t 4 ≤ iI t 2 ∧ RDc B N 0 (iI s 4) (iI s 19) (DL s) t e))) ∧ (∀ {s : PS} , Bd s → BYW B N s → TKS B N s → (iI s 2 ≤ iI s 1) → (iI s 4 ≤ iI s 2) → (6 - iI s 19 ≤ ((r : Nat) : Int)) → (iI s 16 ≤ iI s 4) → CT l s0 D A dT 76 (rkR (4 * (r) + 2)) [.ref (A 19)] s (fun o t => Bd t ∧ Fm [2, 4, 6, 5, 7, 8, 19, 16] [18] s t ∧ BYW B N t ∧ TKS B N t ∧ ∃ e, o = .inl (some (.int (Int32.ofInt e))) ∧ rng e ∧ ((e = 0 ∨ (e = 1 ∧ iI t 19 = iI s 19 ∧ iI s 4 ≤ iI t 4 ∧ iI t 4 ≤ N ∧ iI t 16 + iI s 4 ≤ iI s 16 + iI t 4)) ∧ iI t 2 ≤ iI t 1 ∧ iI t 4 ≤ iI t 2 ∧ RDc B N 1 (iI s 4) (iI s 19) (DL s) t e))) ∧ (∀ {s : PS} , Bd s → BYW B N s → TKS B N s → (iI s 2 ≤ iI s 1) → (iI s 4 ≤ iI s 2) → (6 - iI s 19 ≤ ((r : Nat) : Int)) → (iI s 16 ≤ iI s 4) → CT l s0 D A dT 75 (rkR (4 * (r) + 3)) [.ref (A 19)] s (fun o t => Bd t ∧ Fm [2, 4, 6, 5, 7, 8, 19, 16] [18] s t ∧ BYW B N t ∧ TKS B N t ∧ ∃ e, o = .inl (some (.int (Int32.ofInt e))) ∧ rng e ∧ ((e = 0 ∨ (e = 1 ∧ iI t 19 = iI s 19 ∧ iI s 4 ≤ iI t 4 ∧ iI t 4 ≤ N ∧ iI t 16 + iI s 4 ≤ iI s 16 + iI t 4)) ∧ iI t 2 ≤ iI t 1 ∧ iI t 4 ≤ iI t 2 ∧ RDc B N 3 (iI s 4) (iI s 19) (DL s) t e))) := by
  induction r with
  | zero =>
    have hT : ∀ {s : PS} {x : Int}, Bd s → BYW B N s → TKS B N s → ((x = -13 ∧ whV B N (iI s 4) = 6476969) ∨ (x = -14 ∧ whV B N (iI s 4) = 267347)) → (iI s 2 ≤ iI s 1) → (iI s 4 ≤ iI s 2) → (6 - iI s 19 ≤ ((0 : Nat) : Int)) → (iI s 16 ≤ iI s 4) → CT l s0 D A dT 78 (rkR (4 * (0))) [.ref (A 19), .int (Int32.ofInt x)] s (fun o t => Bd t ∧ Fm [2, 4, 6, 5, 7, 8, 19, 16] [18] s t ∧ BYW B N t ∧ TKS B N t ∧ ∃ e, o = .inl (some (.int (Int32.ofInt e))) ∧ rng e ∧ ((e = 0 ∨ (e = 1 ∧ iI t 19 = iI s 19 ∧ iI s 4 ≤ iI t 4 ∧ iI t 4 ≤ N ∧ iI t 16 + iI s 4 ≤ iI s 16 + iI t 4)) ∧ iI t 2 ≤ iI t 1 ∧ iI t 4 ≤ iI t 2 ∧ RDc B N 0 (iI s 4) (iI s 19) (DL s) t e)) := fun {_ _} I j1 j2 p0 p1 p2 p3 p4 => c7_two03 G SF GT I j1 j2 p0 p1 p2 p3 p4
    have hU : ∀ {s : PS} , Bd s → BYW B N s → TKS B N s → (iI s 2 ≤ iI s 1) → (iI s 4 ≤ iI s 2) → (6 - iI s 19 ≤ ((0 : Nat) : Int)) → (iI s 16 ≤ iI s 4) → CT l s0 D A dT 77 (rkR (4 * (0) + 1)) [.ref (A 19)] s (fun o t => Bd t ∧ Fm [2, 4, 6, 5, 7, 8, 19, 16] [18] s t ∧ BYW B N t ∧ TKS B N t ∧ ∃ e, o = .inl (some (.int (Int32.ofInt e))) ∧ rng e ∧ ((e = 0 ∨ (e = 1 ∧ iI t 19 = iI s 19 ∧ iI s 4 ≤ iI t 4 ∧ iI t 4 ≤ N ∧ iI t 16 + iI s 4 ≤ iI s 16 + iI t 4)) ∧ iI t 2 ≤ iI t 1 ∧ iI t 4 ≤ iI t 2 ∧ RDc B N 0 (iI s 4) (iI s 19) (DL s) t e)) := fun {_} I j1 j2 p0 p1 p2 p3 => c7_unit03 G SF GT hT I j1 j2 p0 p1 p2 p3
    have hP : ∀ {s : PS} , Bd s → BYW B N s → TKS B N s → (iI s 2 ≤ iI s 1) → (iI s 4 ≤ iI s 2) → (6 - iI s 19 ≤ ((0 : Nat) : Int)) → (iI s 16 ≤ iI s 4) → CT l s0 D A dT 76 (rkR (4 * (0) + 2)) [.ref (A 19)] s (fun o t => Bd t ∧ Fm [2, 4, 6, 5, 7, 8, 19, 16] [18] s t ∧ BYW B N t ∧ TKS B N t ∧ ∃ e, o = .inl (some (.int (Int32.ofInt e))) ∧ rng e ∧ ((e = 0 ∨ (e = 1 ∧ iI t 19 = iI s 19 ∧ iI s 4 ≤ iI t 4 ∧ iI t 4 ≤ N ∧ iI t 16 + iI s 4 ≤ iI s 16 + iI t 4)) ∧ iI t 2 ≤ iI t 1 ∧ iI t 4 ≤ iI t 2 ∧ RDc B N 1 (iI s 4) (iI s 19) (DL s) t e)) := fun {_} I j1 j2 p0 p1 p2 p3 => c7_prodS3 (r := 0) G SF GT hU I j1 j2 p0 p1 p2 p3
    exact ⟨hT, hU, hP, fun {_} I j1 j2 p0 p1 p2 p3 => c7_sumS3 (r := 0) G SF GT hP I j1 j2 p0 p1 p2 p3⟩
  | succ r ih =>
    have hT : ∀ {s : PS} {x : Int}, Bd s → BYW B N s → TKS B N s → ((x = -13 ∧ whV B N (iI s 4) = 6476969) ∨ (x = -14 ∧ whV B N (iI s 4) = 267347)) → (iI s 2 ≤ iI s 1) → (iI s 4 ≤ iI s 2) → (6 - iI s 19 ≤ ((r + 1 : Nat) : Int)) → (iI s 16 ≤ iI s 4) → CT l s0 D A dT 78 (rkR (4 * (r + 1))) [.ref (A 19), .int (Int32.ofInt x)] s (fun o t => Bd t ∧ Fm [2, 4, 6, 5, 7, 8, 19, 16] [18] s t ∧ BYW B N t ∧ TKS B N t ∧ ∃ e, o = .inl (some (.int (Int32.ofInt e))) ∧ rng e ∧ ((e = 0 ∨ (e = 1 ∧ iI t 19 = iI s 19 ∧ iI s 4 ≤ iI t 4 ∧ iI t 4 ≤ N ∧ iI t 16 + iI s 4 ≤ iI s 16 + iI t 4)) ∧ iI t 2 ≤ iI t 1 ∧ iI t 4 ≤ iI t 2 ∧ RDc B N 0 (iI s 4) (iI s 19) (DL s) t e)) := fun {_ _} I j1 j2 p0 p1 p2 p3 p4 => c7_twoS3 (r := r) G SF GT ih.2.2.2 I j1 j2 p0 p1 p2 p3 p4
    have hU : ∀ {s : PS} , Bd s → BYW B N s → TKS B N s → (iI s 2 ≤ iI s 1) → (iI s 4 ≤ iI s 2) → (6 - iI s 19 ≤ ((r + 1 : Nat) : Int)) → (iI s 16 ≤ iI s 4) → CT l s0 D A dT 77 (rkR (4 * (r + 1) + 1)) [.ref (A 19)] s (fun o t => Bd t ∧ Fm [2, 4, 6, 5, 7, 8, 19, 16] [18] s t ∧ BYW B N t ∧ TKS B N t ∧ ∃ e, o = .inl (some (.int (Int32.ofInt e))) ∧ rng e ∧ ((e = 0 ∨ (e = 1 ∧ iI t 19 = iI s 19 ∧ iI s 4 ≤ iI t 4 ∧ iI t 4 ≤ N ∧ iI t 16 + iI s 4 ≤ iI s 16 + iI t 4)) ∧ iI t 2 ≤ iI t 1 ∧ iI t 4 ≤ iI t 2 ∧ RDc B N 0 (iI s 4) (iI s 19) (DL s) t e)) := fun {_} I j1 j2 p0 p1 p2 p3 => c7_unitS3 (r := r) G SF GT hT ih.2.2.2 I j1 j2 p0 p1 p2 p3
    have hP : ∀ {s : PS} , Bd s → BYW B N s → TKS B N s → (iI s 2 ≤ iI s 1) → (iI s 4 ≤ iI s 2) → (6 - iI s 19 ≤ ((r + 1 : Nat) : Int)) → (iI s 16 ≤ iI s 4) → CT l s0 D A dT 76 (rkR (4 * (r + 1) + 2)) [.ref (A 19)] s (fun o t => Bd t ∧ Fm [2, 4, 6, 5, 7, 8, 19, 16] [18] s t ∧ BYW B N t ∧ TKS B N t ∧ ∃ e, o = .inl (some (.int (Int32.ofInt e))) ∧ rng e ∧ ((e = 0 ∨ (e = 1 ∧ iI t 19 = iI s 19 ∧ iI s 4 ≤ iI t 4 ∧ iI t 4 ≤ N ∧ iI t 16 + iI s 4 ≤ iI s 16 + iI t 4)) ∧ iI t 2 ≤ iI t 1 ∧ iI t 4 ≤ iI t 2 ∧ RDc B N 1 (iI s 4) (iI s 19) (DL s) t e)) := fun {_} I j1 j2 p0 p1 p2 p3 => c7_prodS3 (r := r + 1) G SF GT hU I j1 j2 p0 p1 p2 p3
    exact ⟨hT, hU, hP, fun {_} I j1 j2 p0 p1 p2 p3 => c7_sumS3 (r := r + 1) G SF GT hP I j1 j2 p0 p1 p2 p3⟩
set_option maxRecDepth 4000 in
theorem c7_test03 (G : GX l s0 D tys a0 dT) {B : Nat → Int} {N : Int} (SF : SF0 s0) (GT : TXw0 s0) (I : Bd s) (jBYW : BYW B N s) (jTKS : TKS B N s) (p0 : iI s 2 ≤ iI s 1) (p1 : iI s 4 ≤ iI s 2) (p2 : 6 - iI s 19 ≤ ((0 : Nat) : Int)) (p3 : iI s 16 ≤ iI s 4) : CT l s0 D A dT 74 (rkR (32 + 3 * (0))) [.ref (A 19)] s (fun o t => Bd t ∧ Fm [2, 4, 6, 5, 7, 8, 19, 16] [18] s t ∧ BYW B N t ∧ TKS B N t ∧ ∃ e, o = .inl (some (.int (Int32.ofInt e))) ∧ rng e ∧ ((e = 0 ∨ (e = 1 ∧ iI t 19 = iI s 19 ∧ iI s 4 ≤ iI t 4 ∧ iI t 4 ≤ N ∧ iI t 16 + iI s 4 ≤ iI s 16 + iI t 4)) ∧ iI t 2 ≤ iI t 1 ∧ iI t 4 ≤ iI t 2 ∧ RDc B N 5 (iI s 4) (iI s 19) (DL s) t e)) := by
  refine ct_ofX G (by decide) (Nat.le_of_ble_eq_true rfl) (fun k X E ET hRt hXt q => ?_)
  show WS k 0 [(0, .ref (A 19))] [] _ 0 0
  have F : Fm [2, 4, 6, 5, 7, 8, 19, 16] [18] s s := fm_rf _ _ s
  have hN := jBYW.2.1
  have hW := jBYW.2.2
  have hdg := tkw_dg jTKS
  have hwd := tkw_wd jTKS
  have hc91 := tkw_ch (x := 91) jTKS (by decide) (by decide) (by decide)
  have b1 := bi_2 I
  have b2 := bi_1 I
  have b3 := bi_4 I
  have b4 := bi_5 I
  have b5 := bi_6 I
  have b6 := bi_19 I
  have b7 := bi_16 I
  have b8 := bi_7 I
  refine z_aload_n X (x := A 19) rfl (List.Mem.head _) (s_getR X 19 rfl (c518_ok rfl) rfl rfl ?_)
  obtain ⟨tx111, q111, hR111, hS111⟩ := GT (111, [110, 111, 116]) (by decide)
  refine w_ldcK X (show vk_R (kOwn k) 111 tx111 q111 (kS0 k) by rw [E.2.1, X.2.1.2.1]; exact hR111) (show decode (kCc k) 4 = .ok (.ldc 111, 2) by rw [X.2.1.1]; decide +kernel) (z_callV X 1 (rm := rmN 131) (As := [.ref q111]) (st := []) rfl rfl (by decide) rfl (by rw [E.1, E.2.1, E.2.2.1]; exact c10_says3 G SF hS111 (by decide) I jBYW jTKS (by first | exact p1 | omega)) ⟨by rw [E.2.2.2]; exact (show 11 + 1 ≤ (12 + (32 + 3 * (0))) from oq_f95a2bb1), by rw [E.2.2.2]; exact (show 8 + (3 + 11) + 206 ≤ (500 + 45 * (32 + 3 * (0))) from oq_70624d19), by rw [E.2.2.2]; exact Nat.le_refl 0, by rw [E.2.2.2]; exact Nat.le_refl 0⟩ (Nat.le_of_ble_eq_true rfl) (fun vv s9 hq => ?_) (fun ee s9 hq => ?_))
  rotate_left
  · obtain ⟨Is9, Fs9, JBYW_s9, JTKS_s9, e10, hv, hrs9, hps9⟩ := hq; cases hv
  obtain ⟨Is9, Fs9, JBYW_s9, JTKS_s9, e10, hv, hrs9, hps9⟩ := hq
  cases hv
  have Gs9 := fm_tq F Fs9 rfl rfl
  have JBYW_s9 : BYW B N s9 := BYW_fm Fs9 (by decide) jBYW
  have JTKS_s9 : TKS B N s9 := TKS_fm Fs9 (by decide) jTKS
  have ws9_2 : iI s9 2 = iI s 2 := fm_iq Fs9 rfl
  have ws9_1 : iI s9 1 = iI s 1 := fm_iq Fs9 rfl
  have ws9_4 : iI s9 4 = iI s 4 := fm_iq Fs9 rfl
  have ws9_5 : iI s9 5 = iI s 5 := fm_iq Fs9 rfl
  have ws9_6 : iI s9 6 = iI s 6 := fm_iq Fs9 rfl
  have ws9_19 : iI s9 19 = iI s 19 := fm_iq Fs9 rfl
  have ws9_16 : iI s9 16 = iI s 16 := fm_iq Fs9 rfl
  have ws9_7 : iI s9 7 = iI s 7 := fm_iq Fs9 rfl
  have dls9 : DL s9 = DL s := (DL_fm Fs9 (by decide) (by decide)).trans rfl
  have hws9 : (e10 = 1 ∧ whV B N (iI s 4) = 10631) ∨ (e10 = 0 ∧ whV B N (iI s 4) ≠ 10631) := by have h := hps9; rw [show iI s 4 = iI s 4 by first | exact rfl | (clear hps9; omega) | omega, show whL [110, 111, 116] 0 = 10631 by decide] at h; exact h
  show WS k 9 [(0, .ref (A 19))] [.int (Int32.ofInt e10)] (Wd A dT s9) 0 0
  refine z_if_eq X (t := 46) rfl rfl hrs9 (fun g11 => ?_) (fun g11 => ?_)
  ·
    refine z_aload_n X (x := A 19) rfl (List.Mem.head _) (s_getR X 19 rfl (c518_ok rfl) rfl rfl (z_getI X 1 rfl (c518_ok rfl) rfl rfl ?_))
    have b12 := bi_5 Is9
    refine z_bipush X rfl (z_icmp_ne X (t := 95) rfl rfl (rng_to _) (by decide) (fun g13 => ?_) (fun g13 => ?_))
    ·
      have hnC := hc91.2 (by first | exact oq_6b35a257 g13 ws9_5 | (clear g13 hps9; omega) | (clear hps9; omega) | omega)
      refine z_aload_n X (x := A 19) rfl (List.Mem.head _) (z_callV X 19 (rm := (rkR (4 * (7) + 3))) (As := []) (st := []) rfl rfl (by decide) rfl (by rw [E.1, E.2.1, E.2.2.1]; exact (c7_sumr3 G (B := B) (N := N) SF GT 7).2.2.2 Is9 JBYW_s9 JTKS_s9 (by first | exact oq_e7b9ecab ws9_1 ws9_2 p0 | omega) (by first | exact oq_e7b9ecab ws9_2 ws9_4 p1 | omega) (by first | exact oq_ba167e5f ws9_19 b6.1 | omega) (by first | exact oq_e7b9ecab ws9_4 ws9_16 p3 | omega)) ⟨by rw [E.2.2.2]; exact (show (12 + (4 * (7) + 3)) + 1 ≤ (12 + (32 + 3 * (0))) from oq_8943d30a), by rw [E.2.2.2]; exact (show 8 + (3 + 11) + (500 + 45 * (4 * (7) + 3)) ≤ (500 + 45 * (32 + 3 * (0))) from oq_a0b1cf65), by rw [E.2.2.2]; exact Nat.le_refl 0, by rw [E.2.2.2]; exact Nat.le_refl 0⟩ (Nat.le_of_ble_eq_true rfl) (fun vv s14 hq => ?_) (fun ee s14 hq => ?_))
      rotate_left
      · obtain ⟨Is14, Fs14, JBYW_s14, JTKS_s14, e15, hv, hrs14, hps14⟩ := hq; cases hv
      obtain ⟨Is14, Fs14, JBYW_s14, JTKS_s14, e15, hv, hrs14, hps14⟩ := hq
      cases hv
      have Gs14 := fm_tq Gs9 Fs14 rfl rfl
      have JBYW_s14 : BYW B N s14 := BYW_fm Fs14 (by decide) JBYW_s9
      have b16 := bi_2 Is14
      have ws14_1 : iI s14 1 = iI s9 1 := fm_iq Fs14 rfl
      have b17 := bi_4 Is14
      have b18 := bi_5 Is14
      have b19 := bi_6 Is14
      have b20 := bi_19 Is14
      have b21 := bi_16 Is14
      have b22 := bi_7 Is14
      show WS k 99 [(0, .ref (A 19))] [.int (Int32.ofInt e15)] (Wd A dT s14) 0 0
      refine z_if_ne X (t := 104) rfl rfl hrs14 (fun g23 => ?_) (fun g23 => ?_)
      ·
        have hc60 := tkw_ch (x := 60) JTKS_s14 (by decide) (by decide) (by decide)
        have hc62 := tkw_ch (x := 62) JTKS_s14 (by decide) (by decide) (by decide)
        have hc61 := tkw_ch (x := 61) JTKS_s14 (by decide) (by decide) (by decide)
        refine z_aload_n X (x := A 19) rfl (List.Mem.head _) (s_getR X 19 rfl (c518_ok rfl) rfl rfl (z_getI X 1 rfl (c518_ok rfl) rfl rfl ?_))
        have b24 := bi_5 Is14
        refine z_bipush X rfl (z_icmp_ne X (t := 121) rfl rfl (rng_to _) (by decide) (fun g25 => ?_) (fun g25 => ?_))
        ·
          refine z_aload_n X (x := A 19) rfl (List.Mem.head _) (s_getR X 19 rfl (c518_ok rfl) rfl rfl (z_getI X 1 rfl (c518_ok rfl) rfl rfl ?_))
          have b26 := bi_5 Is14
          refine z_bipush X rfl (z_icmp_ne X (t := 138) rfl rfl (rng_to _) (by decide) (fun g27 => ?_) (fun g27 => ?_))
          ·
            refine z_aload_n X (x := A 19) rfl (List.Mem.head _) (s_getR X 19 rfl (c518_ok rfl) rfl rfl (z_getI X 1 rfl (c518_ok rfl) rfl rfl ?_))
            have b28 := bi_5 Is14
            refine z_bipush X rfl (z_icmp_ne X (t := 155) rfl rfl (rng_to _) (by decide) (fun g29 => ?_) (fun g29 => ?_))
            ·
              refine z_bipush X rfl (z_store_n X (lv' := [(1, .int (Int32.ofInt (-20))), (0, .ref (A 19))]) rfl (by decide) (fun _ h => h) (z_load_n X (x := (-20)) rfl (List.Mem.head _) (z_bipush X rfl (z_icmp_ne X (t := 173) rfl rfl (by decide) (by decide) (fun g30 => ?_) (fun g30 => ?_)))))
              ·
                exfalso
                omega
              ·
                refine z_aload_n X (x := A 19) rfl (List.Mem.tail _ (List.Mem.head _)) (s_getR X 19 rfl (c518_ok rfl) rfl rfl (z_const X rfl (z_callV X 1 (rm := rmN 132) (As := [.int (Int32.ofInt 1)]) (st := []) rfl rfl (by decide) rfl (by rw [E.1, E.2.1, E.2.2.1]; exact c10_refuse3 G Is14 (by first | exact ⟨by decide, by decide⟩ | omega)) ⟨by rw [E.2.2.2]; exact (show 7 + 1 ≤ (12 + (32 + 3 * (0))) from oq_98d05d0f), by rw [E.2.2.2]; exact (show 8 + (2 + 11) + 122 ≤ (500 + 45 * (32 + 3 * (0))) from oq_7c329781), by rw [E.2.2.2]; exact Nat.le_refl 0, by rw [E.2.2.2]; exact Nat.le_refl 0⟩ (Nat.le_of_ble_eq_true rfl) (fun vv s31 hq => ?_) (fun ee s31 hq => ?_))))
                rotate_left
                · obtain ⟨Is31, Fs31, e32, hv, hrs31, hps31⟩ := hq; cases hv
                obtain ⟨Is31, Fs31, e32, hv, hrs31, hps31⟩ := hq
                cases hv
                have Gs31 := fm_tq Gs14 Fs31 rfl rfl
                have JBYW_s31 : BYW B N s31 := BYW_fm Fs31 (by decide) JBYW_s14
                have JTKS_s31 : TKS B N s31 := TKS_fm Fs31 (by decide) JTKS_s14
                have ws31_2 : iI s31 2 = iI s14 2 := fm_iq Fs31 rfl
                have ws31_1 : iI s31 1 = iI s14 1 := fm_iq Fs31 rfl
                have ws31_4 : iI s31 4 = iI s14 4 := fm_iq Fs31 rfl
                have ws31_5 : iI s31 5 = iI s14 5 := fm_iq Fs31 rfl
                have ws31_6 : iI s31 6 = iI s14 6 := fm_iq Fs31 rfl
                have ws31_19 : iI s31 19 = iI s14 19 := fm_iq Fs31 rfl
                have ws31_16 : iI s31 16 = iI s14 16 := fm_iq Fs31 rfl
                have b33 := bi_7 Is31
                have dls31 : DL s31 = DL s14 := (DL_fm Fs31 (by decide) (by decide)).trans rfl
                show WS k 172 [(1, .int (Int32.ofInt (-20))), (0, .ref (A 19))] [.int (Int32.ofInt e32)] (Wd A dT s31) 0 0
                have hRD : RDc B N 5 (iI s 4) (iI s 19) (DL s) s31 e32 := by rw [show e32 = 0 by first | exact hps31.1 | (clear g29 g27 g25 g23 hps14 g13 hps9; omega) | (clear g27 g25 g23 hps14 g13 hps9; omega) | omega]; exact rd_sn (by first | exact oq_c7109223 g11 hws9 | (clear g29 g27 g25 g23 hps14 g13 hps9; omega) | (clear g27 g25 g23 hps14 g13 hps9; omega) | omega) hnC (by have h := hps14.2.2.2; rw [show iI s9 4 = (iI s 4) by first | exact ws9_4 | omega, show iI s9 19 = iI s 19 by first | exact ws9_19 | omega] at h; exact h) (by first | exact g23 | (clear g29 g27 g25 g23 hps14 g13 hps9; omega) | (clear g27 g25 g23 hps14 g13 hps9; omega) | omega) (fun q => by exact Or.elim q (fun q => by exact hc60.2 (by first | exact g25 | (clear g29 g27 g25 g23 hps14 g13 hps9; omega) | (clear g27 g25 g23 hps14 g13 hps9; omega) | omega) q) (fun q => Or.elim q (fun q => by exact hc62.2 (by first | exact g27 | (clear g29 g27 g25 g23 hps14 g13 hps9; omega) | (clear g27 g25 g23 hps14 g13 hps9; omega) | omega) q) (fun q => by exact hc61.2 (by first | exact g29 | (clear g29 g27 g25 g23 hps14 g13 hps9; omega) | (clear g27 g25 g23 hps14 g13 hps9; omega) | omega) q))) (by first | exact hps31.2 | (clear g29 g27 g25 g23 hps14 g13 hps9; omega) | (clear g27 g25 g23 hps14 g13 hps9; omega) | omega)
                exact w_iret X.1 q hRt (nar_ret (by first | exact Or.inl (hps31.1) | omega)) (ax_d X (show cdA 74 172 = some (.ireturn, 1, 0, 0, 0) from rfl)) (Nat.zero_le _) (Nat.zero_le _) ⟨_, rfl, Is31, Gs31, JBYW_s31, JTKS_s31, e32, rfl, hrs31, ⟨rd_post hRD rfl (by first | exact oq_e0f7ceb0 g23 hps14.1 ws9_4 | omega) (by first | exact b7.1 | omega) (by first | exact oq_e4757433 ws31_16 b21.1 | omega) (fun h9 => by first | exact oq_07bbcb7b ws31_19 g23 b20.2 hps14.1 ws9_19 p2 | omega), by first | exact oq_e7b9ecab ws31_1 ws31_2 hps14.2.1 | omega, by first | exact oq_e7b9ecab ws31_2 ws31_4 hps14.2.2.1 | omega, hRD⟩⟩
            ·
              refine z_bipush X rfl (z_goto X (t := 157) rfl rfl (z_store_n X (lv' := [(1, .int (Int32.ofInt (-17))), (0, .ref (A 19))]) rfl (by decide) (fun _ h => h) (z_load_n X (x := (-17)) rfl (List.Mem.head _) (z_bipush X rfl (z_icmp_ne X (t := 173) rfl rfl (by decide) (by decide) (fun g34 => ?_) (fun g34 => ?_))))))
              ·
                refine z_aload_n X (x := A 19) rfl (List.Mem.tail _ (List.Mem.head _)) (s_getR X 19 rfl (c518_ok rfl) rfl rfl ?_)
                have hz9 := hc61.1 (by first | exact g29 | (clear g34 g27 g25 g23 hps14 g13 hps9; omega) | (clear g27 g25 g23 hps14 g13 hps9; omega) | omega)
                have hrl : rlT B N (iI s14 4) := Or.inr (Or.inr hz9.1)
                have hop : ((-17) : Int) = opC B (iI s14 4) := by unfold opC; rw [hz9.1.2]; decide
                refine z_callV X 1 (rm := rmN 129) (As := []) (st := []) rfl rfl (by decide) rfl (by rw [E.1, E.2.1, E.2.2.1]; exact c10_step3 G Is14 JBYW_s14 (by first | exact hps14.2.1 | omega)) ⟨by rw [E.2.2.2]; exact (show 7 + 1 ≤ (12 + (32 + 3 * (0))) from oq_98d05d0f), by rw [E.2.2.2]; exact (show 8 + (1 + 11) + 121 ≤ (500 + 45 * (32 + 3 * (0))) from oq_2a8149c4), by rw [E.2.2.2]; exact Nat.le_refl 0, by rw [E.2.2.2]; exact Nat.le_refl 0⟩ (Nat.le_of_ble_eq_true rfl) (fun vv s35 hq => ?_) (fun ee s35 hq => ?_)
                rotate_left
                · obtain ⟨Is35, Fs35, JBYW_s35, JTKS_s35, hv, hps35⟩ := hq; cases hv
                obtain ⟨Is35, Fs35, JBYW_s35, JTKS_s35, hv, hps35⟩ := hq
                cases hv
                have Gs35 := fm_tq Gs14 Fs35 rfl rfl
                have JBYW_s35 : BYW B N s35 := BYW_fm Fs35 (by decide) JBYW_s14
                have b37 := bi_2 Is35
                have ws35_1 : iI s35 1 = iI s14 1 := fm_iq Fs35 rfl
                have b38 := bi_4 Is35
                have b39 := bi_5 Is35
                have b40 := bi_6 Is35
                have ws35_19 : iI s35 19 = iI s14 19 := fm_iq Fs35 rfl
                have ws35_16 : iI s35 16 = iI s14 16 := fm_iq Fs35 rfl
                have ws35_7 : iI s35 7 = iI s14 7 := fm_iq Fs35 rfl
                have dls35 : DL s35 = DL s14 := (DL_fm Fs35 (by decide) (by decide)).trans rfl
                show WS k 180 [(1, .int (Int32.ofInt (-17))), (0, .ref (A 19))] [] (Wd A dT s35) 0 0
                have hs9 : iI s35 4 = sk B N (iI s14 4 + 1) := by rw [hps35.2.2.1, show iI s14 2 = iI s14 4 + 1 by first | exact hz9.2 | (clear g34 g27 g25 g23 hps14 g13 hps9; omega) | (clear g27 g25 g23 hps14 g13 hps9; omega) | omega]
                refine z_aload_n X (x := A 19) rfl (List.Mem.tail _ (List.Mem.head _)) (z_callV X 19 (rm := (rkR (4 * (7) + 3))) (As := []) (st := []) rfl rfl (by decide) rfl (by rw [E.1, E.2.1, E.2.2.1]; exact (c7_sumr3 G (B := B) (N := N) SF GT 7).2.2.2 Is35 JBYW_s35 JTKS_s35 (by first | exact hps35.1 | omega) (by first | exact hps35.2.1 | omega) (by first | exact oq_ba167e5f ws35_19 b20.1 | omega) (by first | exact oq_0089538a ws35_16 hps35.2.2.2 g23 hps14.2.2.1 hps14.1 ws9_16 ws9_4 p3 | omega)) ⟨by rw [E.2.2.2]; exact (show (12 + (4 * (7) + 3)) + 1 ≤ (12 + (32 + 3 * (0))) from oq_8943d30a), by rw [E.2.2.2]; exact (show 8 + (3 + 11) + (500 + 45 * (4 * (7) + 3)) ≤ (500 + 45 * (32 + 3 * (0))) from oq_a0b1cf65), by rw [E.2.2.2]; exact Nat.le_refl 0, by rw [E.2.2.2]; exact Nat.le_refl 0⟩ (Nat.le_of_ble_eq_true rfl) (fun vv s41 hq => ?_) (fun ee s41 hq => ?_))
                rotate_left
                · obtain ⟨Is41, Fs41, JBYW_s41, JTKS_s41, e42, hv, hrs41, hps41⟩ := hq; cases hv
                obtain ⟨Is41, Fs41, JBYW_s41, JTKS_s41, e42, hv, hrs41, hps41⟩ := hq
                cases hv
                have Gs41 := fm_tq Gs35 Fs41 rfl rfl
                have JBYW_s41 : BYW B N s41 := BYW_fm Fs41 (by decide) JBYW_s35
                have b43 := bi_2 Is41
                have ws41_1 : iI s41 1 = iI s35 1 := fm_iq Fs41 rfl
                have b44 := bi_4 Is41
                have b45 := bi_5 Is41
                have b46 := bi_6 Is41
                have b47 := bi_19 Is41
                have b48 := bi_16 Is41
                have b49 := bi_7 Is41
                show WS k 184 [(1, .int (Int32.ofInt (-17))), (0, .ref (A 19))] [.int (Int32.ofInt e42)] (Wd A dT s41) 0 0
                refine z_if_ne X (t := 189) rfl rfl hrs41 (fun g50 => ?_) (fun g50 => ?_)
                ·
                  refine z_aload_n X (x := A 19) rfl (List.Mem.tail _ (List.Mem.head _)) (z_load_n X (x := (-17)) rfl (List.Mem.head _) (z_callV X 19 (rm := rmN 82) (As := [.int (Int32.ofInt (-17))]) (st := []) rfl rfl (by decide) rfl (by rw [E.1, E.2.1, E.2.2.1]; exact c7_put3 G Is41 (by first | exact ⟨by decide, by decide⟩ | omega) (by first | exact oq_fbaaf04f g50 b44.2 hps41.1 ws35_16 hps35.2.2.2 hz9.2 g23 hps14.1 ws9_16 ws9_4 p3 | (clear g50 hps41 g34 g27 g25 g23 hps14 g13 hps9; omega) | (clear hps41 g34 g27 g25 g23 hps14 g13 hps9; omega) | omega)) ⟨by rw [E.2.2.2]; exact (show 6 + 1 ≤ (12 + (32 + 3 * (0))) from oq_af2bf85e), by rw [E.2.2.2]; exact (show 8 + (2 + 11) + 100 ≤ (500 + 45 * (32 + 3 * (0))) from oq_72040bf2), by rw [E.2.2.2]; exact Nat.le_refl 0, by rw [E.2.2.2]; exact Nat.le_refl 0⟩ (Nat.le_of_ble_eq_true rfl) (fun vv s51 hq => ?_) (fun ee s51 hq => ?_)))
                  rotate_left
                  · obtain ⟨Is51, Fs51, hv, hps51⟩ := hq; cases hv
                  obtain ⟨Is51, Fs51, hv, hps51⟩ := hq
                  cases hv
                  have Gs51 := fm_tq Gs41 Fs51 rfl rfl
                  have JBYW_s51 : BYW B N s51 := BYW_fm Fs51 (by decide) JBYW_s41
                  have JTKS_s51 : TKS B N s51 := TKS_fm Fs51 (by decide) JTKS_s41
                  have ws51_2 : iI s51 2 = iI s41 2 := fm_iq Fs51 rfl
                  have ws51_1 : iI s51 1 = iI s41 1 := fm_iq Fs51 rfl
                  have ws51_4 : iI s51 4 = iI s41 4 := fm_iq Fs51 rfl
                  have ws51_5 : iI s51 5 = iI s41 5 := fm_iq Fs51 rfl
                  have ws51_6 : iI s51 6 = iI s41 6 := fm_iq Fs51 rfl
                  have ws51_19 : iI s51 19 = iI s41 19 := fm_iq Fs51 rfl
                  have b53 := bi_16 Is51
                  have ws51_7 : iI s51 7 = iI s41 7 := fm_iq Fs51 rfl
                  have dls51 : DL s51 = DL s41 ++ [(-17)] := by rw [hps51.2]
                  show WS k 194 [(1, .int (Int32.ofInt (-17))), (0, .ref (A 19))] [] (Wd A dT s51) 0 0
                  refine z_const X rfl ?_
                  have hRD : RDc B N 5 (iI s 4) (iI s 19) (DL s) s51 1 := by have h := rd_s2 (o := iI s 19) (v := s51) (x := (-17)) (by first | exact oq_c7109223 g11 hws9 | (clear g50 hps41 g34 g27 g25 g23 hps14 g13 hps9; omega) | (clear hps41 g34 g27 g25 g23 hps14 g13 hps9; omega) | omega) hnC (by have h := hps14.2.2.2; rw [show iI s9 4 = (iI s 4) by first | exact ws9_4 | omega, show iI s9 19 = iI s 19 by first | exact ws9_19 | omega] at h; exact h) (dls9) (by first | exact g23 | (clear g50 hps41 g34 g27 g25 g23 hps14 g13 hps9; omega) | (clear hps41 g34 g27 g25 g23 hps14 g13 hps9; omega) | omega) hrl hop (by have h := hps41.2.2.2; rw [show iI s35 4 = sk B N (iI s14 4 + 1) by first | exact hs9 | (clear g50 hps41 g34 g27 g25 g23 hps14 g13 hps9; omega) | (clear hps41 g34 g27 g25 g23 hps14 g13 hps9; omega) | omega, show iI s35 19 = iI s 19 by first | exact oq_07bbcb7b ws35_19 g23 b20.2 hps14.1 ws9_19 p2 | (clear g50 hps41 g34 g27 g25 g23 hps14 g13 hps9; omega) | (clear hps41 g34 g27 g25 g23 hps14 g13 hps9; omega) | omega] at h; exact h) (dls35) (by first | exact ws51_4 | (clear g50 hps41 g34 g27 g25 g23 hps14 g13 hps9; omega) | (clear hps41 g34 g27 g25 g23 hps14 g13 hps9; omega) | omega) (by first | exact ws51_7 | (clear g50 hps41 g34 g27 g25 g23 hps14 g13 hps9; omega) | (clear hps41 g34 g27 g25 g23 hps14 g13 hps9; omega) | omega) (fun _ => dls51); rw [show e42 = 1 by first | exact oq_05ce1c1f g50 hps41.1 | (clear g50 hps41 g34 g27 g25 g23 hps14 g13 hps9; omega) | (clear hps41 g34 g27 g25 g23 hps14 g13 hps9; omega) | omega] at h; exact h
                  exact w_iret X.1 q hRt (nar_ret (by first | exact Or.inr (by decide) | omega)) (ax_d X (show cdA 74 195 = some (.ireturn, 1, 0, 0, 0) from rfl)) (Nat.zero_le _) (Nat.zero_le _) ⟨_, rfl, Is51, Gs51, JBYW_s51, JTKS_s51, 1, rfl, (by decide), ⟨rd_post hRD rfl (by first | exact oq_e0f7ceb0 g23 hps14.1 ws9_4 | omega) (by first | exact b7.1 | omega) (by first | exact b53.1 | omega) (fun h9 => by first | exact oq_b6c8ed7c ws51_19 g50 b47.2 hps41.1 ws35_19 g23 hps14.1 ws9_19 p2 | omega), by first | exact oq_e7b9ecab ws51_1 ws51_2 hps41.2.1 | omega, by first | exact oq_e7b9ecab ws51_2 ws51_4 hps41.2.2.1 | omega, hRD⟩⟩
                ·
                  refine z_const X rfl ?_
                  have hRD : RDc B N 5 (iI s 4) (iI s 19) (DL s) s41 0 := by have h := rd_s2 (o := iI s 19) (v := s41) (x := (-17)) (by first | exact oq_c7109223 g11 hws9 | (clear hps41 g34 g27 g25 g23 hps14 g13 hps9; omega) | (clear g34 g27 g25 g23 hps14 g13 hps9; omega) | omega) hnC (by have h := hps14.2.2.2; rw [show iI s9 4 = (iI s 4) by first | exact ws9_4 | omega, show iI s9 19 = iI s 19 by first | exact ws9_19 | omega] at h; exact h) (dls9) (by first | exact g23 | (clear hps41 g34 g27 g25 g23 hps14 g13 hps9; omega) | (clear g34 g27 g25 g23 hps14 g13 hps9; omega) | omega) hrl hop (by have h := hps41.2.2.2; rw [show iI s35 4 = sk B N (iI s14 4 + 1) by first | exact hs9 | (clear hps41 g34 g27 g25 g23 hps14 g13 hps9; omega) | (clear g34 g27 g25 g23 hps14 g13 hps9; omega) | omega, show iI s35 19 = iI s 19 by first | exact oq_07bbcb7b ws35_19 g23 b20.2 hps14.1 ws9_19 p2 | (clear hps41 g34 g27 g25 g23 hps14 g13 hps9; omega) | (clear g34 g27 g25 g23 hps14 g13 hps9; omega) | omega] at h; exact h) (dls35) (by first | exact rfl | (clear hps41 g34 g27 g25 g23 hps14 g13 hps9; omega) | (clear g34 g27 g25 g23 hps14 g13 hps9; omega) | omega) (by first | exact rfl | (clear hps41 g34 g27 g25 g23 hps14 g13 hps9; omega) | (clear g34 g27 g25 g23 hps14 g13 hps9; omega) | omega) (fun h => absurd (show e42 = 0 by first | exact g50 | (clear hps41 g34 g27 g25 g23 hps14 g13 hps9; omega) | (clear g34 g27 g25 g23 hps14 g13 hps9; omega) | omega) h); rw [show e42 = 0 by first | exact g50 | (clear hps41 g34 g27 g25 g23 hps14 g13 hps9; omega) | (clear g34 g27 g25 g23 hps14 g13 hps9; omega) | omega] at h; exact h
                  exact w_iret X.1 q hRt (nar_ret (by first | exact Or.inl (by decide) | omega)) (ax_d X (show cdA 74 188 = some (.ireturn, 1, 0, 0, 0) from rfl)) (Nat.zero_le _) (Nat.zero_le _) ⟨_, rfl, Is41, Gs41, JBYW_s41, JTKS_s41, 0, rfl, (by decide), ⟨rd_post hRD rfl (by first | exact oq_e0f7ceb0 g23 hps14.1 ws9_4 | omega) (by first | exact b7.1 | omega) (by first | exact b48.1 | omega) (fun h9 => absurd rfl h9), by first | exact hps41.2.1 | omega, by first | exact hps41.2.2.1 | omega, hRD⟩⟩
              ·
                exfalso
                omega
          ·
            refine z_bipush X rfl (z_goto X (t := 157) rfl rfl (z_store_n X (lv' := [(1, .int (Int32.ofInt (-16))), (0, .ref (A 19))]) rfl (by decide) (fun _ h => h) (z_load_n X (x := (-16)) rfl (List.Mem.head _) (z_bipush X rfl (z_icmp_ne X (t := 173) rfl rfl (by decide) (by decide) (fun g54 => ?_) (fun g54 => ?_))))))
            ·
              refine z_aload_n X (x := A 19) rfl (List.Mem.tail _ (List.Mem.head _)) (s_getR X 19 rfl (c518_ok rfl) rfl rfl ?_)
              have hz9 := hc62.1 (by first | exact g27 | (clear g54 g25 g23 hps14 g13 hps9; omega) | (clear g25 g23 hps14 g13 hps9; omega) | omega)
              have hrl : rlT B N (iI s14 4) := Or.inr (Or.inl hz9.1)
              have hop : ((-16) : Int) = opC B (iI s14 4) := by unfold opC; rw [hz9.1.2]; decide
              refine z_callV X 1 (rm := rmN 129) (As := []) (st := []) rfl rfl (by decide) rfl (by rw [E.1, E.2.1, E.2.2.1]; exact c10_step3 G Is14 JBYW_s14 (by first | exact hps14.2.1 | omega)) ⟨by rw [E.2.2.2]; exact (show 7 + 1 ≤ (12 + (32 + 3 * (0))) from oq_98d05d0f), by rw [E.2.2.2]; exact (show 8 + (1 + 11) + 121 ≤ (500 + 45 * (32 + 3 * (0))) from oq_2a8149c4), by rw [E.2.2.2]; exact Nat.le_refl 0, by rw [E.2.2.2]; exact Nat.le_refl 0⟩ (Nat.le_of_ble_eq_true rfl) (fun vv s55 hq => ?_) (fun ee s55 hq => ?_)
              rotate_left
              · obtain ⟨Is55, Fs55, JBYW_s55, JTKS_s55, hv, hps55⟩ := hq; cases hv
              obtain ⟨Is55, Fs55, JBYW_s55, JTKS_s55, hv, hps55⟩ := hq
              cases hv
              have Gs55 := fm_tq Gs14 Fs55 rfl rfl
              have JBYW_s55 : BYW B N s55 := BYW_fm Fs55 (by decide) JBYW_s14
              have b57 := bi_2 Is55
              have ws55_1 : iI s55 1 = iI s14 1 := fm_iq Fs55 rfl
              have b58 := bi_4 Is55
              have b59 := bi_5 Is55
              have b60 := bi_6 Is55
              have ws55_19 : iI s55 19 = iI s14 19 := fm_iq Fs55 rfl
              have ws55_16 : iI s55 16 = iI s14 16 := fm_iq Fs55 rfl
              have ws55_7 : iI s55 7 = iI s14 7 := fm_iq Fs55 rfl
              have dls55 : DL s55 = DL s14 := (DL_fm Fs55 (by decide) (by decide)).trans rfl
              show WS k 180 [(1, .int (Int32.ofInt (-16))), (0, .ref (A 19))] [] (Wd A dT s55) 0 0
              have hs9 : iI s55 4 = sk B N (iI s14 4 + 1) := by rw [hps55.2.2.1, show iI s14 2 = iI s14 4 + 1 by first | exact hz9.2 | (clear g54 g25 g23 hps14 g13 hps9; omega) | (clear g25 g23 hps14 g13 hps9; omega) | omega]
              refine z_aload_n X (x := A 19) rfl (List.Mem.tail _ (List.Mem.head _)) (z_callV X 19 (rm := (rkR (4 * (7) + 3))) (As := []) (st := []) rfl rfl (by decide) rfl (by rw [E.1, E.2.1, E.2.2.1]; exact (c7_sumr3 G (B := B) (N := N) SF GT 7).2.2.2 Is55 JBYW_s55 JTKS_s55 (by first | exact hps55.1 | omega) (by first | exact hps55.2.1 | omega) (by first | exact oq_ba167e5f ws55_19 b20.1 | omega) (by first | exact oq_0089538a ws55_16 hps55.2.2.2 g23 hps14.2.2.1 hps14.1 ws9_16 ws9_4 p3 | omega)) ⟨by rw [E.2.2.2]; exact (show (12 + (4 * (7) + 3)) + 1 ≤ (12 + (32 + 3 * (0))) from oq_8943d30a), by rw [E.2.2.2]; exact (show 8 + (3 + 11) + (500 + 45 * (4 * (7) + 3)) ≤ (500 + 45 * (32 + 3 * (0))) from oq_a0b1cf65), by rw [E.2.2.2]; exact Nat.le_refl 0, by rw [E.2.2.2]; exact Nat.le_refl 0⟩ (Nat.le_of_ble_eq_true rfl) (fun vv s61 hq => ?_) (fun ee s61 hq => ?_))
              rotate_left
              · obtain ⟨Is61, Fs61, JBYW_s61, JTKS_s61, e62, hv, hrs61, hps61⟩ := hq; cases hv
              obtain ⟨Is61, Fs61, JBYW_s61, JTKS_s61, e62, hv, hrs61, hps61⟩ := hq
              cases hv
              have Gs61 := fm_tq Gs55 Fs61 rfl rfl
              have JBYW_s61 : BYW B N s61 := BYW_fm Fs61 (by decide) JBYW_s55
              have b63 := bi_2 Is61
              have ws61_1 : iI s61 1 = iI s55 1 := fm_iq Fs61 rfl
              have b64 := bi_4 Is61
              have b65 := bi_5 Is61
              have b66 := bi_6 Is61
              have b67 := bi_19 Is61
              have b68 := bi_16 Is61
              have b69 := bi_7 Is61
              show WS k 184 [(1, .int (Int32.ofInt (-16))), (0, .ref (A 19))] [.int (Int32.ofInt e62)] (Wd A dT s61) 0 0
              refine z_if_ne X (t := 189) rfl rfl hrs61 (fun g70 => ?_) (fun g70 => ?_)
              ·
                refine z_aload_n X (x := A 19) rfl (List.Mem.tail _ (List.Mem.head _)) (z_load_n X (x := (-16)) rfl (List.Mem.head _) (z_callV X 19 (rm := rmN 82) (As := [.int (Int32.ofInt (-16))]) (st := []) rfl rfl (by decide) rfl (by rw [E.1, E.2.1, E.2.2.1]; exact c7_put3 G Is61 (by first | exact ⟨by decide, by decide⟩ | omega) (by first | exact oq_fbaaf04f g70 b64.2 hps61.1 ws55_16 hps55.2.2.2 hz9.2 g23 hps14.1 ws9_16 ws9_4 p3 | (clear g70 hps61 g54 g25 g23 hps14 g13 hps9; omega) | (clear hps61 g54 g25 g23 hps14 g13 hps9; omega) | omega)) ⟨by rw [E.2.2.2]; exact (show 6 + 1 ≤ (12 + (32 + 3 * (0))) from oq_af2bf85e), by rw [E.2.2.2]; exact (show 8 + (2 + 11) + 100 ≤ (500 + 45 * (32 + 3 * (0))) from oq_72040bf2), by rw [E.2.2.2]; exact Nat.le_refl 0, by rw [E.2.2.2]; exact Nat.le_refl 0⟩ (Nat.le_of_ble_eq_true rfl) (fun vv s71 hq => ?_) (fun ee s71 hq => ?_)))
                rotate_left
                · obtain ⟨Is71, Fs71, hv, hps71⟩ := hq; cases hv
                obtain ⟨Is71, Fs71, hv, hps71⟩ := hq
                cases hv
                have Gs71 := fm_tq Gs61 Fs71 rfl rfl
                have JBYW_s71 : BYW B N s71 := BYW_fm Fs71 (by decide) JBYW_s61
                have JTKS_s71 : TKS B N s71 := TKS_fm Fs71 (by decide) JTKS_s61
                have ws71_2 : iI s71 2 = iI s61 2 := fm_iq Fs71 rfl
                have ws71_1 : iI s71 1 = iI s61 1 := fm_iq Fs71 rfl
                have ws71_4 : iI s71 4 = iI s61 4 := fm_iq Fs71 rfl
                have ws71_5 : iI s71 5 = iI s61 5 := fm_iq Fs71 rfl
                have ws71_6 : iI s71 6 = iI s61 6 := fm_iq Fs71 rfl
                have ws71_19 : iI s71 19 = iI s61 19 := fm_iq Fs71 rfl
                have b73 := bi_16 Is71
                have ws71_7 : iI s71 7 = iI s61 7 := fm_iq Fs71 rfl
                have dls71 : DL s71 = DL s61 ++ [(-16)] := by rw [hps71.2]
                show WS k 194 [(1, .int (Int32.ofInt (-16))), (0, .ref (A 19))] [] (Wd A dT s71) 0 0
                refine z_const X rfl ?_
                have hRD : RDc B N 5 (iI s 4) (iI s 19) (DL s) s71 1 := by have h := rd_s2 (o := iI s 19) (v := s71) (x := (-16)) (by first | exact oq_c7109223 g11 hws9 | (clear g70 hps61 g54 g25 g23 hps14 g13 hps9; omega) | (clear hps61 g54 g25 g23 hps14 g13 hps9; omega) | omega) hnC (by have h := hps14.2.2.2; rw [show iI s9 4 = (iI s 4) by first | exact ws9_4 | omega, show iI s9 19 = iI s 19 by first | exact ws9_19 | omega] at h; exact h) (dls9) (by first | exact g23 | (clear g70 hps61 g54 g25 g23 hps14 g13 hps9; omega) | (clear hps61 g54 g25 g23 hps14 g13 hps9; omega) | omega) hrl hop (by have h := hps61.2.2.2; rw [show iI s55 4 = sk B N (iI s14 4 + 1) by first | exact hs9 | (clear g70 hps61 g54 g25 g23 hps14 g13 hps9; omega) | (clear hps61 g54 g25 g23 hps14 g13 hps9; omega) | omega, show iI s55 19 = iI s 19 by first | exact oq_07bbcb7b ws55_19 g23 b20.2 hps14.1 ws9_19 p2 | (clear g70 hps61 g54 g25 g23 hps14 g13 hps9; omega) | (clear hps61 g54 g25 g23 hps14 g13 hps9; omega) | omega] at h; exact h) (dls55) (by first | exact ws71_4 | (clear g70 hps61 g54 g25 g23 hps14 g13 hps9; omega) | (clear hps61 g54 g25 g23 hps14 g13 hps9; omega) | omega) (by first | exact ws71_7 | (clear g70 hps61 g54 g25 g23 hps14 g13 hps9; omega) | (clear hps61 g54 g25 g23 hps14 g13 hps9; omega) | omega) (fun _ => dls71); rw [show e62 = 1 by first | exact oq_05ce1c1f g70 hps61.1 | (clear g70 hps61 g54 g25 g23 hps14 g13 hps9; omega) | (clear hps61 g54 g25 g23 hps14 g13 hps9; omega) | omega] at h; exact h
                exact w_iret X.1 q hRt (nar_ret (by first | exact Or.inr (by decide) | omega)) (ax_d X (show cdA 74 195 = some (.ireturn, 1, 0, 0, 0) from rfl)) (Nat.zero_le _) (Nat.zero_le _) ⟨_, rfl, Is71, Gs71, JBYW_s71, JTKS_s71, 1, rfl, (by decide), ⟨rd_post hRD rfl (by first | exact oq_e0f7ceb0 g23 hps14.1 ws9_4 | omega) (by first | exact b7.1 | omega) (by first | exact b73.1 | omega) (fun h9 => by first | exact oq_b6c8ed7c ws71_19 g70 b67.2 hps61.1 ws55_19 g23 hps14.1 ws9_19 p2 | omega), by first | exact oq_e7b9ecab ws71_1 ws71_2 hps61.2.1 | omega, by first | exact oq_e7b9ecab ws71_2 ws71_4 hps61.2.2.1 | omega, hRD⟩⟩
              ·
                refine z_const X rfl ?_
                have hRD : RDc B N 5 (iI s 4) (iI s 19) (DL s) s61 0 := by have h := rd_s2 (o := iI s 19) (v := s61) (x := (-16)) (by first | exact oq_c7109223 g11 hws9 | (clear hps61 g54 g25 g23 hps14 g13 hps9; omega) | (clear g54 g25 g23 hps14 g13 hps9; omega) | omega) hnC (by have h := hps14.2.2.2; rw [show iI s9 4 = (iI s 4) by first | exact ws9_4 | omega, show iI s9 19 = iI s 19 by first | exact ws9_19 | omega] at h; exact h) (dls9) (by first | exact g23 | (clear hps61 g54 g25 g23 hps14 g13 hps9; omega) | (clear g54 g25 g23 hps14 g13 hps9; omega) | omega) hrl hop (by have h := hps61.2.2.2; rw [show iI s55 4 = sk B N (iI s14 4 + 1) by first | exact hs9 | (clear hps61 g54 g25 g23 hps14 g13 hps9; omega) | (clear g54 g25 g23 hps14 g13 hps9; omega) | omega, show iI s55 19 = iI s 19 by first | exact oq_07bbcb7b ws55_19 g23 b20.2 hps14.1 ws9_19 p2 | (clear hps61 g54 g25 g23 hps14 g13 hps9; omega) | (clear g54 g25 g23 hps14 g13 hps9; omega) | omega] at h; exact h) (dls55) (by first | exact rfl | (clear hps61 g54 g25 g23 hps14 g13 hps9; omega) | (clear g54 g25 g23 hps14 g13 hps9; omega) | omega) (by first | exact rfl | (clear hps61 g54 g25 g23 hps14 g13 hps9; omega) | (clear g54 g25 g23 hps14 g13 hps9; omega) | omega) (fun h => absurd (show e62 = 0 by first | exact g70 | (clear hps61 g54 g25 g23 hps14 g13 hps9; omega) | (clear g54 g25 g23 hps14 g13 hps9; omega) | omega) h); rw [show e62 = 0 by first | exact g70 | (clear hps61 g54 g25 g23 hps14 g13 hps9; omega) | (clear g54 g25 g23 hps14 g13 hps9; omega) | omega] at h; exact h
                exact w_iret X.1 q hRt (nar_ret (by first | exact Or.inl (by decide) | omega)) (ax_d X (show cdA 74 188 = some (.ireturn, 1, 0, 0, 0) from rfl)) (Nat.zero_le _) (Nat.zero_le _) ⟨_, rfl, Is61, Gs61, JBYW_s61, JTKS_s61, 0, rfl, (by decide), ⟨rd_post hRD rfl (by first | exact oq_e0f7ceb0 g23 hps14.1 ws9_4 | omega) (by first | exact b7.1 | omega) (by first | exact b68.1 | omega) (fun h9 => absurd rfl h9), by first | exact hps61.2.1 | omega, by first | exact hps61.2.2.1 | omega, hRD⟩⟩
            ·
              exfalso
              omega
        ·
          refine z_bipush X rfl (z_goto X (t := 157) rfl rfl (z_store_n X (lv' := [(1, .int (Int32.ofInt (-15))), (0, .ref (A 19))]) rfl (by decide) (fun _ h => h) (z_load_n X (x := (-15)) rfl (List.Mem.head _) (z_bipush X rfl (z_icmp_ne X (t := 173) rfl rfl (by decide) (by decide) (fun g74 => ?_) (fun g74 => ?_))))))
          ·
            refine z_aload_n X (x := A 19) rfl (List.Mem.tail _ (List.Mem.head _)) (s_getR X 19 rfl (c518_ok rfl) rfl rfl ?_)
            have hz9 := hc60.1 (by first | exact g25 | (clear g74 g23 hps14 g13 hps9; omega) | (clear g23 hps14 g13 hps9; omega) | omega)
            have hrl : rlT B N (iI s14 4) := Or.inl hz9.1
            have hop : ((-15) : Int) = opC B (iI s14 4) := by unfold opC; rw [hz9.1.2]; decide
            refine z_callV X 1 (rm := rmN 129) (As := []) (st := []) rfl rfl (by decide) rfl (by rw [E.1, E.2.1, E.2.2.1]; exact c10_step3 G Is14 JBYW_s14 (by first | exact hps14.2.1 | omega)) ⟨by rw [E.2.2.2]; exact (show 7 + 1 ≤ (12 + (32 + 3 * (0))) from oq_98d05d0f), by rw [E.2.2.2]; exact (show 8 + (1 + 11) + 121 ≤ (500 + 45 * (32 + 3 * (0))) from oq_2a8149c4), by rw [E.2.2.2]; exact Nat.le_refl 0, by rw [E.2.2.2]; exact Nat.le_refl 0⟩ (Nat.le_of_ble_eq_true rfl) (fun vv s75 hq => ?_) (fun ee s75 hq => ?_)
            rotate_left
            · obtain ⟨Is75, Fs75, JBYW_s75, JTKS_s75, hv, hps75⟩ := hq; cases hv
            obtain ⟨Is75, Fs75, JBYW_s75, JTKS_s75, hv, hps75⟩ := hq
            cases hv
            have Gs75 := fm_tq Gs14 Fs75 rfl rfl
            have JBYW_s75 : BYW B N s75 := BYW_fm Fs75 (by decide) JBYW_s14
            have b77 := bi_2 Is75
            have ws75_1 : iI s75 1 = iI s14 1 := fm_iq Fs75 rfl
            have b78 := bi_4 Is75
            have b79 := bi_5 Is75
            have b80 := bi_6 Is75
            have ws75_19 : iI s75 19 = iI s14 19 := fm_iq Fs75 rfl
            have ws75_16 : iI s75 16 = iI s14 16 := fm_iq Fs75 rfl
            have ws75_7 : iI s75 7 = iI s14 7 := fm_iq Fs75 rfl
            have dls75 : DL s75 = DL s14 := (DL_fm Fs75 (by decide) (by decide)).trans rfl
            show WS k 180 [(1, .int (Int32.ofInt (-15))), (0, .ref (A 19))] [] (Wd A dT s75) 0 0
            have hs9 : iI s75 4 = sk B N (iI s14 4 + 1) := by rw [hps75.2.2.1, show iI s14 2 = iI s14 4 + 1 by first | exact hz9.2 | (clear g74 g23 hps14 g13 hps9; omega) | (clear g23 hps14 g13 hps9; omega) | omega]
            refine z_aload_n X (x := A 19) rfl (List.Mem.tail _ (List.Mem.head _)) (z_callV X 19 (rm := (rkR (4 * (7) + 3))) (As := []) (st := []) rfl rfl (by decide) rfl (by rw [E.1, E.2.1, E.2.2.1]; exact (c7_sumr3 G (B := B) (N := N) SF GT 7).2.2.2 Is75 JBYW_s75 JTKS_s75 (by first | exact hps75.1 | omega) (by first | exact hps75.2.1 | omega) (by first | exact oq_ba167e5f ws75_19 b20.1 | omega) (by first | exact oq_0089538a ws75_16 hps75.2.2.2 g23 hps14.2.2.1 hps14.1 ws9_16 ws9_4 p3 | omega)) ⟨by rw [E.2.2.2]; exact (show (12 + (4 * (7) + 3)) + 1 ≤ (12 + (32 + 3 * (0))) from oq_8943d30a), by rw [E.2.2.2]; exact (show 8 + (3 + 11) + (500 + 45 * (4 * (7) + 3)) ≤ (500 + 45 * (32 + 3 * (0))) from oq_a0b1cf65), by rw [E.2.2.2]; exact Nat.le_refl 0, by rw [E.2.2.2]; exact Nat.le_refl 0⟩ (Nat.le_of_ble_eq_true rfl) (fun vv s81 hq => ?_) (fun ee s81 hq => ?_))
            rotate_left
            · obtain ⟨Is81, Fs81, JBYW_s81, JTKS_s81, e82, hv, hrs81, hps81⟩ := hq; cases hv
            obtain ⟨Is81, Fs81, JBYW_s81, JTKS_s81, e82, hv, hrs81, hps81⟩ := hq
            cases hv
            have Gs81 := fm_tq Gs75 Fs81 rfl rfl
            have JBYW_s81 : BYW B N s81 := BYW_fm Fs81 (by decide) JBYW_s75
            have b83 := bi_2 Is81
            have ws81_1 : iI s81 1 = iI s75 1 := fm_iq Fs81 rfl
            have b84 := bi_4 Is81
            have b85 := bi_5 Is81
            have b86 := bi_6 Is81
            have b87 := bi_19 Is81
            have b88 := bi_16 Is81
            have b89 := bi_7 Is81
            show WS k 184 [(1, .int (Int32.ofInt (-15))), (0, .ref (A 19))] [.int (Int32.ofInt e82)] (Wd A dT s81) 0 0
            refine z_if_ne X (t := 189) rfl rfl hrs81 (fun g90 => ?_) (fun g90 => ?_)
            ·
              refine z_aload_n X (x := A 19) rfl (List.Mem.tail _ (List.Mem.head _)) (z_load_n X (x := (-15)) rfl (List.Mem.head _) (z_callV X 19 (rm := rmN 82) (As := [.int (Int32.ofInt (-15))]) (st := []) rfl rfl (by decide) rfl (by rw [E.1, E.2.1, E.2.2.1]; exact c7_put3 G Is81 (by first | exact ⟨by decide, by decide⟩ | omega) (by first | exact oq_fbaaf04f g90 b84.2 hps81.1 ws75_16 hps75.2.2.2 hz9.2 g23 hps14.1 ws9_16 ws9_4 p3 | (clear g90 hps81 g74 g23 hps14 g13 hps9; omega) | (clear hps81 g74 g23 hps14 g13 hps9; omega) | omega)) ⟨by rw [E.2.2.2]; exact (show 6 + 1 ≤ (12 + (32 + 3 * (0))) from oq_af2bf85e), by rw [E.2.2.2]; exact (show 8 + (2 + 11) + 100 ≤ (500 + 45 * (32 + 3 * (0))) from oq_72040bf2), by rw [E.2.2.2]; exact Nat.le_refl 0, by rw [E.2.2.2]; exact Nat.le_refl 0⟩ (Nat.le_of_ble_eq_true rfl) (fun vv s91 hq => ?_) (fun ee s91 hq => ?_)))
              rotate_left
              · obtain ⟨Is91, Fs91, hv, hps91⟩ := hq; cases hv
              obtain ⟨Is91, Fs91, hv, hps91⟩ := hq
              cases hv
              have Gs91 := fm_tq Gs81 Fs91 rfl rfl
              have JBYW_s91 : BYW B N s91 := BYW_fm Fs91 (by decide) JBYW_s81
              have JTKS_s91 : TKS B N s91 := TKS_fm Fs91 (by decide) JTKS_s81
              have ws91_2 : iI s91 2 = iI s81 2 := fm_iq Fs91 rfl
              have ws91_1 : iI s91 1 = iI s81 1 := fm_iq Fs91 rfl
              have ws91_4 : iI s91 4 = iI s81 4 := fm_iq Fs91 rfl
              have ws91_5 : iI s91 5 = iI s81 5 := fm_iq Fs91 rfl
              have ws91_6 : iI s91 6 = iI s81 6 := fm_iq Fs91 rfl
              have ws91_19 : iI s91 19 = iI s81 19 := fm_iq Fs91 rfl
              have b93 := bi_16 Is91
              have ws91_7 : iI s91 7 = iI s81 7 := fm_iq Fs91 rfl
              have dls91 : DL s91 = DL s81 ++ [(-15)] := by rw [hps91.2]
              show WS k 194 [(1, .int (Int32.ofInt (-15))), (0, .ref (A 19))] [] (Wd A dT s91) 0 0
              refine z_const X rfl ?_
              have hRD : RDc B N 5 (iI s 4) (iI s 19) (DL s) s91 1 := by have h := rd_s2 (o := iI s 19) (v := s91) (x := (-15)) (by first | exact oq_c7109223 g11 hws9 | (clear g90 hps81 g74 g23 hps14 g13 hps9; omega) | (clear hps81 g74 g23 hps14 g13 hps9; omega) | omega) hnC (by have h := hps14.2.2.2; rw [show iI s9 4 = (iI s 4) by first | exact ws9_4 | omega, show iI s9 19 = iI s 19 by first | exact ws9_19 | omega] at h; exact h) (dls9) (by first | exact g23 | (clear g90 hps81 g74 g23 hps14 g13 hps9; omega) | (clear hps81 g74 g23 hps14 g13 hps9; omega) | omega) hrl hop (by have h := hps81.2.2.2; rw [show iI s75 4 = sk B N (iI s14 4 + 1) by first | exact hs9 | (clear g90 hps81 g74 g23 hps14 g13 hps9; omega) | (clear hps81 g74 g23 hps14 g13 hps9; omega) | omega, show iI s75 19 = iI s 19 by first | exact oq_07bbcb7b ws75_19 g23 b20.2 hps14.1 ws9_19 p2 | (clear g90 hps81 g74 g23 hps14 g13 hps9; omega) | (clear hps81 g74 g23 hps14 g13 hps9; omega) | omega] at h; exact h) (dls75) (by first | exact ws91_4 | (clear g90 hps81 g74 g23 hps14 g13 hps9; omega) | (clear hps81 g74 g23 hps14 g13 hps9; omega) | omega) (by first | exact ws91_7 | (clear g90 hps81 g74 g23 hps14 g13 hps9; omega) | (clear hps81 g74 g23 hps14 g13 hps9; omega) | omega) (fun _ => dls91); rw [show e82 = 1 by first | exact oq_05ce1c1f g90 hps81.1 | (clear g90 hps81 g74 g23 hps14 g13 hps9; omega) | (clear hps81 g74 g23 hps14 g13 hps9; omega) | omega] at h; exact h
              exact w_iret X.1 q hRt (nar_ret (by first | exact Or.inr (by decide) | omega)) (ax_d X (show cdA 74 195 = some (.ireturn, 1, 0, 0, 0) from rfl)) (Nat.zero_le _) (Nat.zero_le _) ⟨_, rfl, Is91, Gs91, JBYW_s91, JTKS_s91, 1, rfl, (by decide), ⟨rd_post hRD rfl (by first | exact oq_e0f7ceb0 g23 hps14.1 ws9_4 | omega) (by first | exact b7.1 | omega) (by first | exact b93.1 | omega) (fun h9 => by first | exact oq_b6c8ed7c ws91_19 g90 b87.2 hps81.1 ws75_19 g23 hps14.1 ws9_19 p2 | omega), by first | exact oq_e7b9ecab ws91_1 ws91_2 hps81.2.1 | omega, by first | exact oq_e7b9ecab ws91_2 ws91_4 hps81.2.2.1 | omega, hRD⟩⟩
            ·
              refine z_const X rfl ?_
              have hRD : RDc B N 5 (iI s 4) (iI s 19) (DL s) s81 0 := by have h := rd_s2 (o := iI s 19) (v := s81) (x := (-15)) (by first | exact oq_c7109223 g11 hws9 | (clear hps81 g74 g23 hps14 g13 hps9; omega) | (clear g74 g23 hps14 g13 hps9; omega) | omega) hnC (by have h := hps14.2.2.2; rw [show iI s9 4 = (iI s 4) by first | exact ws9_4 | omega, show iI s9 19 = iI s 19 by first | exact ws9_19 | omega] at h; exact h) (dls9) (by first | exact g23 | (clear hps81 g74 g23 hps14 g13 hps9; omega) | (clear g74 g23 hps14 g13 hps9; omega) | omega) hrl hop (by have h := hps81.2.2.2; rw [show iI s75 4 = sk B N (iI s14 4 + 1) by first | exact hs9 | (clear hps81 g74 g23 hps14 g13 hps9; omega) | (clear g74 g23 hps14 g13 hps9; omega) | omega, show iI s75 19 = iI s 19 by first | exact oq_07bbcb7b ws75_19 g23 b20.2 hps14.1 ws9_19 p2 | (clear hps81 g74 g23 hps14 g13 hps9; omega) | (clear g74 g23 hps14 g13 hps9; omega) | omega] at h; exact h) (dls75) (by first | exact rfl | (clear hps81 g74 g23 hps14 g13 hps9; omega) | (clear g74 g23 hps14 g13 hps9; omega) | omega) (by first | exact rfl | (clear hps81 g74 g23 hps14 g13 hps9; omega) | (clear g74 g23 hps14 g13 hps9; omega) | omega) (fun h => absurd (show e82 = 0 by first | exact g90 | (clear hps81 g74 g23 hps14 g13 hps9; omega) | (clear g74 g23 hps14 g13 hps9; omega) | omega) h); rw [show e82 = 0 by first | exact g90 | (clear hps81 g74 g23 hps14 g13 hps9; omega) | (clear g74 g23 hps14 g13 hps9; omega) | omega] at h; exact h
              exact w_iret X.1 q hRt (nar_ret (by first | exact Or.inl (by decide) | omega)) (ax_d X (show cdA 74 188 = some (.ireturn, 1, 0, 0, 0) from rfl)) (Nat.zero_le _) (Nat.zero_le _) ⟨_, rfl, Is81, Gs81, JBYW_s81, JTKS_s81, 0, rfl, (by decide), ⟨rd_post hRD rfl (by first | exact oq_e0f7ceb0 g23 hps14.1 ws9_4 | omega) (by first | exact b7.1 | omega) (by first | exact b88.1 | omega) (fun h9 => absurd rfl h9), by first | exact hps81.2.1 | omega, by first | exact hps81.2.2.1 | omega, hRD⟩⟩
          ·
            exfalso
            omega
      ·
        refine z_const X rfl ?_
        have hRD : RDc B N 5 (iI s 4) (iI s 19) (DL s) s14 0 := rd_bad (by have h := hps14.2.2.2; rw [show iI s9 4 = (iI s 4) by first | exact ws9_4 | omega, show iI s9 19 = iI s 19 by first | exact ws9_19 | omega] at h; exact h) (by first | exact g23 | (clear hps14 g13 hps9; omega) | (clear g13 hps9; omega) | omega) (by first | exact rfl | (clear hps14 g13 hps9; omega) | (clear g13 hps9; omega) | omega) (fun r h z => pt_sb (by first | exact oq_c7109223 g11 hws9 | (clear hps14 g13 hps9; omega) | (clear g13 hps9; omega) | omega) hnC h z)
        exact w_iret X.1 q hRt (nar_ret (by first | exact Or.inl (by decide) | omega)) (ax_d X (show cdA 74 103 = some (.ireturn, 1, 0, 0, 0) from rfl)) (Nat.zero_le _) (Nat.zero_le _) ⟨_, rfl, Is14, Gs14, JBYW_s14, JTKS_s14, 0, rfl, (by decide), ⟨rd_post hRD rfl (by first | exact oq_4547f4f6 hN p1 p0 | (clear hps14 g13 hps9; omega) | (clear g13 hps9; omega) | omega) (by first | exact b7.1 | omega) (by first | exact b21.1 | omega) (fun h9 => absurd rfl h9), by first | exact hps14.2.1 | omega, by first | exact hps14.2.2.1 | omega, hRD⟩⟩
    ·
      have hC := (hc91.1 (by first | exact oq_1f9a5ade g13 ws9_5 | (clear hps9; omega) | omega)).1
      have hA := (hc91.1 (by first | exact oq_1f9a5ade g13 ws9_5 | (clear hps9; omega) | omega)).2
      refine z_aload_n X (x := A 19) rfl (List.Mem.head _) (z_callV X 19 (rm := rmN 80) (As := []) (st := []) rfl rfl (by decide) rfl (by rw [E.1, E.2.1, E.2.2.1]; exact c7_enter3 G Is9 JBYW_s9 JTKS_s9 (by first | exact oq_e7b9ecab ws9_1 ws9_2 p0 | omega) (by first | exact oq_e7b9ecab ws9_2 ws9_4 p1 | omega)) ⟨by rw [E.2.2.2]; exact (show 8 + 1 ≤ (12 + (32 + 3 * (0))) from oq_6e542e63), by rw [E.2.2.2]; exact (show 8 + (1 + 11) + 143 ≤ (500 + 45 * (32 + 3 * (0))) from oq_72d660e0), by rw [E.2.2.2]; exact Nat.le_refl 0, by rw [E.2.2.2]; exact Nat.le_refl 0⟩ (Nat.le_of_ble_eq_true rfl) (fun vv s94 hq => ?_) (fun ee s94 hq => ?_))
      rotate_left
      · obtain ⟨Is94, Fs94, JBYW_s94, JTKS_s94, e95, hv, hrs94, hps94⟩ := hq; cases hv
      obtain ⟨Is94, Fs94, JBYW_s94, JTKS_s94, e95, hv, hrs94, hps94⟩ := hq
      have hps94p := And.intro hps94.2.1 (hps94.2.2)
      cases hv
      have Gs94 := fm_tq Gs9 Fs94 rfl rfl
      have JBYW_s94 : BYW B N s94 := BYW_fm Fs94 (by decide) JBYW_s9
      have b96 := bi_2 Is94
      have ws94_1 : iI s94 1 = iI s9 1 := fm_iq Fs94 rfl
      have b97 := bi_4 Is94
      have b98 := bi_5 Is94
      have b99 := bi_6 Is94
      have b100 := bi_19 Is94
      have ws94_16 : iI s94 16 = iI s9 16 := fm_iq Fs94 rfl
      have b101 := bi_7 Is94
      have dls94 : DL s94 = DL s := (DL_fm Fs94 (by decide) (by decide)).trans dls9
      show WS k 62 [(0, .ref (A 19))] [.int (Int32.ofInt e95)] (Wd A dT s94) 0 0
      refine z_if_eq X (t := 81) rfl rfl hrs94 (fun g102 => ?_) (fun g102 => ?_)
      ·
        refine z_const X rfl ?_
        have hRD : RDc B N 5 (iI s 4) (iI s 19) (DL s) s94 0 := rd_no (pt_b3 (by first | exact oq_c7109223 g11 hws9 | (clear hps94 hps9; omega) | (clear hps9; omega) | omega) hC (by first | exact oq_773678d9 p2 | (clear hps94 hps9; omega) | (clear hps9; omega) | omega)) (by decide) (by first | exact oq_f447e429 g102 hps94.1 | (clear hps94 hps9; omega) | (clear hps9; omega) | omega)
        exact w_iret X.1 q hRt (nar_ret (by first | exact Or.inl (by decide) | omega)) (ax_d X (show cdA 74 82 = some (.ireturn, 1, 0, 0, 0) from rfl)) (Nat.zero_le _) (Nat.zero_le _) ⟨_, rfl, Is94, Gs94, JBYW_s94, JTKS_s94, 0, rfl, (by decide), ⟨rd_post hRD rfl (by first | exact oq_2a39d009 hA hN p0 | (clear hps94 hps9; omega) | (clear hps9; omega) | omega) (by first | exact b7.1 | omega) (by first | exact oq_0f93fca7 ws94_16 ws9_16 b7.1 | omega) (fun h9 => absurd rfl h9), by first | exact hps94.2.1 | omega, by first | exact hps94.2.2 | omega, hRD⟩⟩
      ·
        exfalso
        omega
  ·
    have hk3 : iI s 5 = -3 := Classical.byContradiction (fun q => by have := hwd.2 q; omega)
    have ha3 := (hwd.1 hk3).1
    refine z_aload_n X (x := A 19) rfl (List.Mem.head _) (z_callV X 19 (rm := rmN 80) (As := []) (st := []) rfl rfl (by decide) rfl (by rw [E.1, E.2.1, E.2.2.1]; exact c7_enter3 G Is9 JBYW_s9 JTKS_s9 (by first | exact oq_e7b9ecab ws9_1 ws9_2 p0 | omega) (by first | exact oq_e7b9ecab ws9_2 ws9_4 p1 | omega)) ⟨by rw [E.2.2.2]; exact (show 8 + 1 ≤ (12 + (32 + 3 * (0))) from oq_6e542e63), by rw [E.2.2.2]; exact (show 8 + (1 + 11) + 143 ≤ (500 + 45 * (32 + 3 * (0))) from oq_72d660e0), by rw [E.2.2.2]; exact Nat.le_refl 0, by rw [E.2.2.2]; exact Nat.le_refl 0⟩ (Nat.le_of_ble_eq_true rfl) (fun vv s103 hq => ?_) (fun ee s103 hq => ?_))
    rotate_left
    · obtain ⟨Is103, Fs103, JBYW_s103, JTKS_s103, e104, hv, hrs103, hps103⟩ := hq; cases hv
    obtain ⟨Is103, Fs103, JBYW_s103, JTKS_s103, e104, hv, hrs103, hps103⟩ := hq
    have hps103p := And.intro hps103.2.1 (hps103.2.2)
    cases hv
    have Gs103 := fm_tq Gs9 Fs103 rfl rfl
    have JBYW_s103 : BYW B N s103 := BYW_fm Fs103 (by decide) JBYW_s9
    have b105 := bi_2 Is103
    have ws103_1 : iI s103 1 = iI s9 1 := fm_iq Fs103 rfl
    have b106 := bi_4 Is103
    have b107 := bi_5 Is103
    have b108 := bi_6 Is103
    have b109 := bi_19 Is103
    have ws103_16 : iI s103 16 = iI s9 16 := fm_iq Fs103 rfl
    have b110 := bi_7 Is103
    have dls103 : DL s103 = DL s := (DL_fm Fs103 (by decide) (by decide)).trans dls9
    show WS k 16 [(0, .ref (A 19))] [.int (Int32.ofInt e104)] (Wd A dT s103) 0 0
    refine z_if_eq X (t := 26) rfl rfl hrs103 (fun g111 => ?_) (fun g111 => ?_)
    ·
      refine z_const X rfl ?_
      have hRD : RDc B N 5 (iI s 4) (iI s 19) (DL s) s103 0 := rd_no (pt_n3 (by first | exact oq_dbf81109 g11 hws9 | (clear hps103 g11 hps9; omega) | (clear g11 hps9; omega) | omega) (by first | exact oq_773678d9 p2 | (clear hps103 g11 hps9; omega) | (clear g11 hps9; omega) | omega)) (by decide) (by first | exact oq_f447e429 g111 hps103.1 | (clear hps103 g11 hps9; omega) | (clear g11 hps9; omega) | omega)
      exact w_iret X.1 q hRt (nar_ret (by first | exact Or.inl (by decide) | omega)) (ax_d X (show cdA 74 27 = some (.ireturn, 1, 0, 0, 0) from rfl)) (Nat.zero_le _) (Nat.zero_le _) ⟨_, rfl, Is103, Gs103, JBYW_s103, JTKS_s103, 0, rfl, (by decide), ⟨rd_post hRD rfl (by first | exact oq_4547f4f6 hN p1 p0 | (clear hps103 g11 hps9; omega) | (clear g11 hps9; omega) | omega) (by first | exact b7.1 | omega) (by first | exact oq_0f93fca7 ws103_16 ws9_16 b7.1 | omega) (fun h9 => absurd rfl h9), by first | exact hps103.2.1 | omega, by first | exact hps103.2.2 | omega, hRD⟩⟩
    ·
      exfalso
      omega
set_option maxRecDepth 4000 in
theorem c7_testS3 (G : GX l s0 D tys a0 dT) {B : Nat → Int} {N : Int} (SF : SF0 s0) (GT : TXw0 s0) {r : Nat} (hT : ∀ {s : PS} , Bd s → BYW B N s → TKS B N s → (iI s 2 ≤ iI s 1) → (iI s 4 ≤ iI s 2) → (6 - iI s 19 ≤ ((r : Nat) : Int)) → (iI s 16 ≤ iI s 4) → CT l s0 D A dT 74 (rkR (32 + 3 * (r))) [.ref (A 19)] s (fun o t => Bd t ∧ Fm [2, 4, 6, 5, 7, 8, 19, 16] [18] s t ∧ BYW B N t ∧ TKS B N t ∧ ∃ e, o = .inl (some (.int (Int32.ofInt e))) ∧ rng e ∧ ((e = 0 ∨ (e = 1 ∧ iI t 19 = iI s 19 ∧ iI s 4 ≤ iI t 4 ∧ iI t 4 ≤ N ∧ iI t 16 + iI s 4 ≤ iI s 16 + iI t 4)) ∧ iI t 2 ≤ iI t 1 ∧ iI t 4 ≤ iI t 2 ∧ RDc B N 5 (iI s 4) (iI s 19) (DL s) t e))) (hE : ∀ {s : PS} , Bd s → BYW B N s → TKS B N s → (iI s 2 ≤ iI s 1) → (iI s 4 ≤ iI s 2) → (6 - iI s 19 ≤ ((r : Nat) : Int)) → (iI s 16 ≤ iI s 4) → CT l s0 D A dT 72 (rkR (32 + 3 * (r) + 2)) [.ref (A 19)] s (fun o t => Bd t ∧ Fm [2, 4, 6, 5, 7, 8, 19, 16] [18] s t ∧ BYW B N t ∧ TKS B N t ∧ ∃ e, o = .inl (some (.int (Int32.ofInt e))) ∧ rng e ∧ ((e = 0 ∨ (e = 1 ∧ iI t 19 = iI s 19 ∧ iI s 4 ≤ iI t 4 ∧ iI t 4 ≤ N ∧ iI t 16 + iI s 4 ≤ iI s 16 + iI t 4)) ∧ iI t 2 ≤ iI t 1 ∧ iI t 4 ≤ iI t 2 ∧ RDc B N 8 (iI s 4) (iI s 19) (DL s) t e))) (I : Bd s) (jBYW : BYW B N s) (jTKS : TKS B N s) (p0 : iI s 2 ≤ iI s 1) (p1 : iI s 4 ≤ iI s 2) (p2 : 6 - iI s 19 ≤ ((r + 1 : Nat) : Int)) (p3 : iI s 16 ≤ iI s 4) : CT l s0 D A dT 74 (rkR (32 + 3 * (r + 1))) [.ref (A 19)] s (fun o t => Bd t ∧ Fm [2, 4, 6, 5, 7, 8, 19, 16] [18] s t ∧ BYW B N t ∧ TKS B N t ∧ ∃ e, o = .inl (some (.int (Int32.ofInt e))) ∧ rng e ∧ ((e = 0 ∨ (e = 1 ∧ iI t 19 = iI s 19 ∧ iI s 4 ≤ iI t 4 ∧ iI t 4 ≤ N ∧ iI t 16 + iI s 4 ≤ iI s 16 + iI t 4)) ∧ iI t 2 ≤ iI t 1 ∧ iI t 4 ≤ iI t 2 ∧ RDc B N 5 (iI s 4) (iI s 19) (DL s) t e)) := by
  refine ct_ofX G (by decide) (Nat.le_of_ble_eq_true rfl) (fun k X E ET hRt hXt q => ?_)
  show WS k 0 [(0, .ref (A 19))] [] _ 0 0
  have F : Fm [2, 4, 6, 5, 7, 8, 19, 16] [18] s s := fm_rf _ _ s
  have hN := jBYW.2.1
  have hW := jBYW.2.2
  have hdg := tkw_dg jTKS
  have hwd := tkw_wd jTKS
  have hc91 := tkw_ch (x := 91) jTKS (by decide) (by decide) (by decide)
  have b1 := bi_2 I
  have b2 := bi_1 I
  have b3 := bi_4 I
  have b4 := bi_5 I
  have b5 := bi_6 I
  have b6 := bi_19 I
  have b7 := bi_16 I
  have b8 := bi_7 I
  refine z_aload_n X (x := A 19) rfl (List.Mem.head _) (s_getR X 19 rfl (c518_ok rfl) rfl rfl ?_)
  obtain ⟨tx111, q111, hR111, hS111⟩ := GT (111, [110, 111, 116]) (by decide)
  refine w_ldcK X (show vk_R (kOwn k) 111 tx111 q111 (kS0 k) by rw [E.2.1, X.2.1.2.1]; exact hR111) (show decode (kCc k) 4 = .ok (.ldc 111, 2) by rw [X.2.1.1]; decide +kernel) (z_callV X 1 (rm := rmN 131) (As := [.ref q111]) (st := []) rfl rfl (by decide) rfl (by rw [E.1, E.2.1, E.2.2.1]; exact c10_says3 G SF hS111 (by decide) I jBYW jTKS (by first | exact p1 | omega)) ⟨by rw [E.2.2.2]; exact (show 11 + 1 ≤ (12 + (32 + 3 * (r + 1))) from oq_c9a3ea85 r), by rw [E.2.2.2]; exact (show 8 + (3 + 11) + 206 ≤ (500 + 45 * (32 + 3 * (r + 1))) from oq_5eb0540b r), by rw [E.2.2.2]; exact Nat.le_refl 0, by rw [E.2.2.2]; exact Nat.le_refl 0⟩ (Nat.le_of_ble_eq_true rfl) (fun vv s9 hq => ?_) (fun ee s9 hq => ?_))
  rotate_left
  · obtain ⟨Is9, Fs9, JBYW_s9, JTKS_s9, e10, hv, hrs9, hps9⟩ := hq; cases hv
  obtain ⟨Is9, Fs9, JBYW_s9, JTKS_s9, e10, hv, hrs9, hps9⟩ := hq
  cases hv
  have Gs9 := fm_tq F Fs9 rfl rfl
  have JBYW_s9 : BYW B N s9 := BYW_fm Fs9 (by decide) jBYW
  have JTKS_s9 : TKS B N s9 := TKS_fm Fs9 (by decide) jTKS
  have ws9_2 : iI s9 2 = iI s 2 := fm_iq Fs9 rfl
  have ws9_1 : iI s9 1 = iI s 1 := fm_iq Fs9 rfl
  have ws9_4 : iI s9 4 = iI s 4 := fm_iq Fs9 rfl
  have ws9_5 : iI s9 5 = iI s 5 := fm_iq Fs9 rfl
  have ws9_6 : iI s9 6 = iI s 6 := fm_iq Fs9 rfl
  have ws9_19 : iI s9 19 = iI s 19 := fm_iq Fs9 rfl
  have ws9_16 : iI s9 16 = iI s 16 := fm_iq Fs9 rfl
  have ws9_7 : iI s9 7 = iI s 7 := fm_iq Fs9 rfl
  have dls9 : DL s9 = DL s := (DL_fm Fs9 (by decide) (by decide)).trans rfl
  have hws9 : (e10 = 1 ∧ whV B N (iI s 4) = 10631) ∨ (e10 = 0 ∧ whV B N (iI s 4) ≠ 10631) := by have h := hps9; rw [show iI s 4 = iI s 4 by first | exact rfl | (clear hps9; omega) | omega, show whL [110, 111, 116] 0 = 10631 by decide] at h; exact h
  show WS k 9 [(0, .ref (A 19))] [.int (Int32.ofInt e10)] (Wd A dT s9) 0 0
  refine z_if_eq X (t := 46) rfl rfl hrs9 (fun g11 => ?_) (fun g11 => ?_)
  ·
    refine z_aload_n X (x := A 19) rfl (List.Mem.head _) (s_getR X 19 rfl (c518_ok rfl) rfl rfl (z_getI X 1 rfl (c518_ok rfl) rfl rfl ?_))
    have b12 := bi_5 Is9
    refine z_bipush X rfl (z_icmp_ne X (t := 95) rfl rfl (rng_to _) (by decide) (fun g13 => ?_) (fun g13 => ?_))
    ·
      have hnC := hc91.2 (by first | exact oq_6b35a257 g13 ws9_5 | (clear g13 hps9; omega) | (clear hps9; omega) | omega)
      refine z_aload_n X (x := A 19) rfl (List.Mem.head _) (z_callV X 19 (rm := (rkR (4 * (7) + 3))) (As := []) (st := []) rfl rfl (by decide) rfl (by rw [E.1, E.2.1, E.2.2.1]; exact (c7_sumr3 G (B := B) (N := N) SF GT 7).2.2.2 Is9 JBYW_s9 JTKS_s9 (by first | exact oq_e7b9ecab ws9_1 ws9_2 p0 | omega) (by first | exact oq_e7b9ecab ws9_2 ws9_4 p1 | omega) (by first | exact oq_ba167e5f ws9_19 b6.1 | omega) (by first | exact oq_e7b9ecab ws9_4 ws9_16 p3 | omega)) ⟨by rw [E.2.2.2]; exact (show (12 + (4 * (7) + 3)) + 1 ≤ (12 + (32 + 3 * (r + 1))) from oq_e0a8f0a0 r), by rw [E.2.2.2]; exact (show 8 + (3 + 11) + (500 + 45 * (4 * (7) + 3)) ≤ (500 + 45 * (32 + 3 * (r + 1))) from oq_eacdd764 r), by rw [E.2.2.2]; exact Nat.le_refl 0, by rw [E.2.2.2]; exact Nat.le_refl 0⟩ (Nat.le_of_ble_eq_true rfl) (fun vv s14 hq => ?_) (fun ee s14 hq => ?_))
      rotate_left
      · obtain ⟨Is14, Fs14, JBYW_s14, JTKS_s14, e15, hv, hrs14, hps14⟩ := hq; cases hv
      obtain ⟨Is14, Fs14, JBYW_s14, JTKS_s14, e15, hv, hrs14, hps14⟩ := hq
      cases hv
      have Gs14 := fm_tq Gs9 Fs14 rfl rfl
      have JBYW_s14 : BYW B N s14 := BYW_fm Fs14 (by decide) JBYW_s9
      have b16 := bi_2 Is14
      have ws14_1 : iI s14 1 = iI s9 1 := fm_iq Fs14 rfl
      have b17 := bi_4 Is14
      have b18 := bi_5 Is14
      have b19 := bi_6 Is14
      have b20 := bi_19 Is14
      have b21 := bi_16 Is14
      have b22 := bi_7 Is14
      show WS k 99 [(0, .ref (A 19))] [.int (Int32.ofInt e15)] (Wd A dT s14) 0 0
      refine z_if_ne X (t := 104) rfl rfl hrs14 (fun g23 => ?_) (fun g23 => ?_)
      ·
        have hc60 := tkw_ch (x := 60) JTKS_s14 (by decide) (by decide) (by decide)
        have hc62 := tkw_ch (x := 62) JTKS_s14 (by decide) (by decide) (by decide)
        have hc61 := tkw_ch (x := 61) JTKS_s14 (by decide) (by decide) (by decide)
        refine z_aload_n X (x := A 19) rfl (List.Mem.head _) (s_getR X 19 rfl (c518_ok rfl) rfl rfl (z_getI X 1 rfl (c518_ok rfl) rfl rfl ?_))
        have b24 := bi_5 Is14
        refine z_bipush X rfl (z_icmp_ne X (t := 121) rfl rfl (rng_to _) (by decide) (fun g25 => ?_) (fun g25 => ?_))
        ·
          refine z_aload_n X (x := A 19) rfl (List.Mem.head _) (s_getR X 19 rfl (c518_ok rfl) rfl rfl (z_getI X 1 rfl (c518_ok rfl) rfl rfl ?_))
          have b26 := bi_5 Is14
          refine z_bipush X rfl (z_icmp_ne X (t := 138) rfl rfl (rng_to _) (by decide) (fun g27 => ?_) (fun g27 => ?_))
          ·
            refine z_aload_n X (x := A 19) rfl (List.Mem.head _) (s_getR X 19 rfl (c518_ok rfl) rfl rfl (z_getI X 1 rfl (c518_ok rfl) rfl rfl ?_))
            have b28 := bi_5 Is14
            refine z_bipush X rfl (z_icmp_ne X (t := 155) rfl rfl (rng_to _) (by decide) (fun g29 => ?_) (fun g29 => ?_))
            ·
              refine z_bipush X rfl (z_store_n X (lv' := [(1, .int (Int32.ofInt (-20))), (0, .ref (A 19))]) rfl (by decide) (fun _ h => h) (z_load_n X (x := (-20)) rfl (List.Mem.head _) (z_bipush X rfl (z_icmp_ne X (t := 173) rfl rfl (by decide) (by decide) (fun g30 => ?_) (fun g30 => ?_)))))
              ·
                exfalso
                omega
              ·
                refine z_aload_n X (x := A 19) rfl (List.Mem.tail _ (List.Mem.head _)) (s_getR X 19 rfl (c518_ok rfl) rfl rfl (z_const X rfl (z_callV X 1 (rm := rmN 132) (As := [.int (Int32.ofInt 1)]) (st := []) rfl rfl (by decide) rfl (by rw [E.1, E.2.1, E.2.2.1]; exact c10_refuse3 G Is14 (by first | exact ⟨by decide, by decide⟩ | omega)) ⟨by rw [E.2.2.2]; exact (show 7 + 1 ≤ (12 + (32 + 3 * (r + 1))) from oq_36a63932 r), by rw [E.2.2.2]; exact (show 8 + (2 + 11) + 122 ≤ (500 + 45 * (32 + 3 * (r + 1))) from oq_562d3263 r), by rw [E.2.2.2]; exact Nat.le_refl 0, by rw [E.2.2.2]; exact Nat.le_refl 0⟩ (Nat.le_of_ble_eq_true rfl) (fun vv s31 hq => ?_) (fun ee s31 hq => ?_))))
                rotate_left
                · obtain ⟨Is31, Fs31, e32, hv, hrs31, hps31⟩ := hq; cases hv
                obtain ⟨Is31, Fs31, e32, hv, hrs31, hps31⟩ := hq
                cases hv
                have Gs31 := fm_tq Gs14 Fs31 rfl rfl
                have JBYW_s31 : BYW B N s31 := BYW_fm Fs31 (by decide) JBYW_s14
                have JTKS_s31 : TKS B N s31 := TKS_fm Fs31 (by decide) JTKS_s14
                have ws31_2 : iI s31 2 = iI s14 2 := fm_iq Fs31 rfl
                have ws31_1 : iI s31 1 = iI s14 1 := fm_iq Fs31 rfl
                have ws31_4 : iI s31 4 = iI s14 4 := fm_iq Fs31 rfl
                have ws31_5 : iI s31 5 = iI s14 5 := fm_iq Fs31 rfl
                have ws31_6 : iI s31 6 = iI s14 6 := fm_iq Fs31 rfl
                have ws31_19 : iI s31 19 = iI s14 19 := fm_iq Fs31 rfl
                have ws31_16 : iI s31 16 = iI s14 16 := fm_iq Fs31 rfl
                have b33 := bi_7 Is31
                have dls31 : DL s31 = DL s14 := (DL_fm Fs31 (by decide) (by decide)).trans rfl
                show WS k 172 [(1, .int (Int32.ofInt (-20))), (0, .ref (A 19))] [.int (Int32.ofInt e32)] (Wd A dT s31) 0 0
                have hRD : RDc B N 5 (iI s 4) (iI s 19) (DL s) s31 e32 := by rw [show e32 = 0 by first | exact hps31.1 | (clear g29 g27 g25 g23 hps14 g13 hps9; omega) | (clear g27 g25 g23 hps14 g13 hps9; omega) | omega]; exact rd_sn (by first | exact oq_c7109223 g11 hws9 | (clear g29 g27 g25 g23 hps14 g13 hps9; omega) | (clear g27 g25 g23 hps14 g13 hps9; omega) | omega) hnC (by have h := hps14.2.2.2; rw [show iI s9 4 = (iI s 4) by first | exact ws9_4 | omega, show iI s9 19 = iI s 19 by first | exact ws9_19 | omega] at h; exact h) (by first | exact g23 | (clear g29 g27 g25 g23 hps14 g13 hps9; omega) | (clear g27 g25 g23 hps14 g13 hps9; omega) | omega) (fun q => by exact Or.elim q (fun q => by exact hc60.2 (by first | exact g25 | (clear g29 g27 g25 g23 hps14 g13 hps9; omega) | (clear g27 g25 g23 hps14 g13 hps9; omega) | omega) q) (fun q => Or.elim q (fun q => by exact hc62.2 (by first | exact g27 | (clear g29 g27 g25 g23 hps14 g13 hps9; omega) | (clear g27 g25 g23 hps14 g13 hps9; omega) | omega) q) (fun q => by exact hc61.2 (by first | exact g29 | (clear g29 g27 g25 g23 hps14 g13 hps9; omega) | (clear g27 g25 g23 hps14 g13 hps9; omega) | omega) q))) (by first | exact hps31.2 | (clear g29 g27 g25 g23 hps14 g13 hps9; omega) | (clear g27 g25 g23 hps14 g13 hps9; omega) | omega)
                exact w_iret X.1 q hRt (nar_ret (by first | exact Or.inl (hps31.1) | omega)) (ax_d X (show cdA 74 172 = some (.ireturn, 1, 0, 0, 0) from rfl)) (Nat.zero_le _) (Nat.zero_le _) ⟨_, rfl, Is31, Gs31, JBYW_s31, JTKS_s31, e32, rfl, hrs31, ⟨rd_post hRD rfl (by first | exact oq_e0f7ceb0 g23 hps14.1 ws9_4 | omega) (by first | exact b7.1 | omega) (by first | exact oq_e4757433 ws31_16 b21.1 | omega) (fun h9 => by first | exact oq_773b88bb ws31_19 g23 hps14.1 ws9_19 | omega), by first | exact oq_e7b9ecab ws31_1 ws31_2 hps14.2.1 | omega, by first | exact oq_e7b9ecab ws31_2 ws31_4 hps14.2.2.1 | omega, hRD⟩⟩
            ·
              refine z_bipush X rfl (z_goto X (t := 157) rfl rfl (z_store_n X (lv' := [(1, .int (Int32.ofInt (-17))), (0, .ref (A 19))]) rfl (by decide) (fun _ h => h) (z_load_n X (x := (-17)) rfl (List.Mem.head _) (z_bipush X rfl (z_icmp_ne X (t := 173) rfl rfl (by decide) (by decide) (fun g34 => ?_) (fun g34 => ?_))))))
              ·
                refine z_aload_n X (x := A 19) rfl (List.Mem.tail _ (List.Mem.head _)) (s_getR X 19 rfl (c518_ok rfl) rfl rfl ?_)
                have hz9 := hc61.1 (by first | exact g29 | (clear g34 g27 g25 g23 hps14 g13 hps9; omega) | (clear g27 g25 g23 hps14 g13 hps9; omega) | omega)
                have hrl : rlT B N (iI s14 4) := Or.inr (Or.inr hz9.1)
                have hop : ((-17) : Int) = opC B (iI s14 4) := by unfold opC; rw [hz9.1.2]; decide
                refine z_callV X 1 (rm := rmN 129) (As := []) (st := []) rfl rfl (by decide) rfl (by rw [E.1, E.2.1, E.2.2.1]; exact c10_step3 G Is14 JBYW_s14 (by first | exact hps14.2.1 | omega)) ⟨by rw [E.2.2.2]; exact (show 7 + 1 ≤ (12 + (32 + 3 * (r + 1))) from oq_36a63932 r), by rw [E.2.2.2]; exact (show 8 + (1 + 11) + 121 ≤ (500 + 45 * (32 + 3 * (r + 1))) from oq_ab0c04be r), by rw [E.2.2.2]; exact Nat.le_refl 0, by rw [E.2.2.2]; exact Nat.le_refl 0⟩ (Nat.le_of_ble_eq_true rfl) (fun vv s35 hq => ?_) (fun ee s35 hq => ?_)
                rotate_left
                · obtain ⟨Is35, Fs35, JBYW_s35, JTKS_s35, hv, hps35⟩ := hq; cases hv
                obtain ⟨Is35, Fs35, JBYW_s35, JTKS_s35, hv, hps35⟩ := hq
                cases hv
                have Gs35 := fm_tq Gs14 Fs35 rfl rfl
                have JBYW_s35 : BYW B N s35 := BYW_fm Fs35 (by decide) JBYW_s14
                have b37 := bi_2 Is35
                have ws35_1 : iI s35 1 = iI s14 1 := fm_iq Fs35 rfl
                have b38 := bi_4 Is35
                have b39 := bi_5 Is35
                have b40 := bi_6 Is35
                have ws35_19 : iI s35 19 = iI s14 19 := fm_iq Fs35 rfl
                have ws35_16 : iI s35 16 = iI s14 16 := fm_iq Fs35 rfl
                have ws35_7 : iI s35 7 = iI s14 7 := fm_iq Fs35 rfl
                have dls35 : DL s35 = DL s14 := (DL_fm Fs35 (by decide) (by decide)).trans rfl
                show WS k 180 [(1, .int (Int32.ofInt (-17))), (0, .ref (A 19))] [] (Wd A dT s35) 0 0
                have hs9 : iI s35 4 = sk B N (iI s14 4 + 1) := by rw [hps35.2.2.1, show iI s14 2 = iI s14 4 + 1 by first | exact hz9.2 | (clear g34 g27 g25 g23 hps14 g13 hps9; omega) | (clear g27 g25 g23 hps14 g13 hps9; omega) | omega]
                refine z_aload_n X (x := A 19) rfl (List.Mem.tail _ (List.Mem.head _)) (z_callV X 19 (rm := (rkR (4 * (7) + 3))) (As := []) (st := []) rfl rfl (by decide) rfl (by rw [E.1, E.2.1, E.2.2.1]; exact (c7_sumr3 G (B := B) (N := N) SF GT 7).2.2.2 Is35 JBYW_s35 JTKS_s35 (by first | exact hps35.1 | omega) (by first | exact hps35.2.1 | omega) (by first | exact oq_ba167e5f ws35_19 b20.1 | omega) (by first | exact oq_0089538a ws35_16 hps35.2.2.2 g23 hps14.2.2.1 hps14.1 ws9_16 ws9_4 p3 | omega)) ⟨by rw [E.2.2.2]; exact (show (12 + (4 * (7) + 3)) + 1 ≤ (12 + (32 + 3 * (r + 1))) from oq_e0a8f0a0 r), by rw [E.2.2.2]; exact (show 8 + (3 + 11) + (500 + 45 * (4 * (7) + 3)) ≤ (500 + 45 * (32 + 3 * (r + 1))) from oq_eacdd764 r), by rw [E.2.2.2]; exact Nat.le_refl 0, by rw [E.2.2.2]; exact Nat.le_refl 0⟩ (Nat.le_of_ble_eq_true rfl) (fun vv s41 hq => ?_) (fun ee s41 hq => ?_))
                rotate_left
                · obtain ⟨Is41, Fs41, JBYW_s41, JTKS_s41, e42, hv, hrs41, hps41⟩ := hq; cases hv
                obtain ⟨Is41, Fs41, JBYW_s41, JTKS_s41, e42, hv, hrs41, hps41⟩ := hq
                cases hv
                have Gs41 := fm_tq Gs35 Fs41 rfl rfl
                have JBYW_s41 : BYW B N s41 := BYW_fm Fs41 (by decide) JBYW_s35
                have b43 := bi_2 Is41
                have ws41_1 : iI s41 1 = iI s35 1 := fm_iq Fs41 rfl
                have b44 := bi_4 Is41
                have b45 := bi_5 Is41
                have b46 := bi_6 Is41
                have b47 := bi_19 Is41
                have b48 := bi_16 Is41
                have b49 := bi_7 Is41
                show WS k 184 [(1, .int (Int32.ofInt (-17))), (0, .ref (A 19))] [.int (Int32.ofInt e42)] (Wd A dT s41) 0 0
                refine z_if_ne X (t := 189) rfl rfl hrs41 (fun g50 => ?_) (fun g50 => ?_)
                ·
                  refine z_aload_n X (x := A 19) rfl (List.Mem.tail _ (List.Mem.head _)) (z_load_n X (x := (-17)) rfl (List.Mem.head _) (z_callV X 19 (rm := rmN 82) (As := [.int (Int32.ofInt (-17))]) (st := []) rfl rfl (by decide) rfl (by rw [E.1, E.2.1, E.2.2.1]; exact c7_put3 G Is41 (by first | exact ⟨by decide, by decide⟩ | omega) (by first | exact oq_fbaaf04f g50 b44.2 hps41.1 ws35_16 hps35.2.2.2 hz9.2 g23 hps14.1 ws9_16 ws9_4 p3 | (clear g50 hps41 g34 g27 g25 g23 hps14 g13 hps9; omega) | (clear hps41 g34 g27 g25 g23 hps14 g13 hps9; omega) | omega)) ⟨by rw [E.2.2.2]; exact (show 6 + 1 ≤ (12 + (32 + 3 * (r + 1))) from oq_65b7d3a7 r), by rw [E.2.2.2]; exact (show 8 + (2 + 11) + 100 ≤ (500 + 45 * (32 + 3 * (r + 1))) from oq_bfe32ab2 r), by rw [E.2.2.2]; exact Nat.le_refl 0, by rw [E.2.2.2]; exact Nat.le_refl 0⟩ (Nat.le_of_ble_eq_true rfl) (fun vv s51 hq => ?_) (fun ee s51 hq => ?_)))
                  rotate_left
                  · obtain ⟨Is51, Fs51, hv, hps51⟩ := hq; cases hv
                  obtain ⟨Is51, Fs51, hv, hps51⟩ := hq
                  cases hv
                  have Gs51 := fm_tq Gs41 Fs51 rfl rfl
                  have JBYW_s51 : BYW B N s51 := BYW_fm Fs51 (by decide) JBYW_s41
                  have JTKS_s51 : TKS B N s51 := TKS_fm Fs51 (by decide) JTKS_s41
                  have ws51_2 : iI s51 2 = iI s41 2 := fm_iq Fs51 rfl
                  have ws51_1 : iI s51 1 = iI s41 1 := fm_iq Fs51 rfl
                  have ws51_4 : iI s51 4 = iI s41 4 := fm_iq Fs51 rfl
                  have ws51_5 : iI s51 5 = iI s41 5 := fm_iq Fs51 rfl
                  have ws51_6 : iI s51 6 = iI s41 6 := fm_iq Fs51 rfl
                  have ws51_19 : iI s51 19 = iI s41 19 := fm_iq Fs51 rfl
                  have b53 := bi_16 Is51
                  have ws51_7 : iI s51 7 = iI s41 7 := fm_iq Fs51 rfl
                  have dls51 : DL s51 = DL s41 ++ [(-17)] := by rw [hps51.2]
                  show WS k 194 [(1, .int (Int32.ofInt (-17))), (0, .ref (A 19))] [] (Wd A dT s51) 0 0
                  refine z_const X rfl ?_
                  have hRD : RDc B N 5 (iI s 4) (iI s 19) (DL s) s51 1 := by have h := rd_s2 (o := iI s 19) (v := s51) (x := (-17)) (by first | exact oq_c7109223 g11 hws9 | (clear g50 hps41 g34 g27 g25 g23 hps14 g13 hps9; omega) | (clear hps41 g34 g27 g25 g23 hps14 g13 hps9; omega) | omega) hnC (by have h := hps14.2.2.2; rw [show iI s9 4 = (iI s 4) by first | exact ws9_4 | omega, show iI s9 19 = iI s 19 by first | exact ws9_19 | omega] at h; exact h) (dls9) (by first | exact g23 | (clear g50 hps41 g34 g27 g25 g23 hps14 g13 hps9; omega) | (clear hps41 g34 g27 g25 g23 hps14 g13 hps9; omega) | omega) hrl hop (by have h := hps41.2.2.2; rw [show iI s35 4 = sk B N (iI s14 4 + 1) by first | exact hs9 | (clear g50 hps41 g34 g27 g25 g23 hps14 g13 hps9; omega) | (clear hps41 g34 g27 g25 g23 hps14 g13 hps9; omega) | omega, show iI s35 19 = iI s 19 by first | exact oq_773b88bb ws35_19 g23 hps14.1 ws9_19 | (clear g50 hps41 g34 g27 g25 g23 hps14 g13 hps9; omega) | (clear hps41 g34 g27 g25 g23 hps14 g13 hps9; omega) | omega] at h; exact h) (dls35) (by first | exact ws51_4 | (clear g50 hps41 g34 g27 g25 g23 hps14 g13 hps9; omega) | (clear hps41 g34 g27 g25 g23 hps14 g13 hps9; omega) | omega) (by first | exact ws51_7 | (clear g50 hps41 g34 g27 g25 g23 hps14 g13 hps9; omega) | (clear hps41 g34 g27 g25 g23 hps14 g13 hps9; omega) | omega) (fun _ => dls51); rw [show e42 = 1 by first | exact oq_05ce1c1f g50 hps41.1 | (clear g50 hps41 g34 g27 g25 g23 hps14 g13 hps9; omega) | (clear hps41 g34 g27 g25 g23 hps14 g13 hps9; omega) | omega] at h; exact h
                  exact w_iret X.1 q hRt (nar_ret (by first | exact Or.inr (by decide) | omega)) (ax_d X (show cdA 74 195 = some (.ireturn, 1, 0, 0, 0) from rfl)) (Nat.zero_le _) (Nat.zero_le _) ⟨_, rfl, Is51, Gs51, JBYW_s51, JTKS_s51, 1, rfl, (by decide), ⟨rd_post hRD rfl (by first | exact oq_e0f7ceb0 g23 hps14.1 ws9_4 | omega) (by first | exact b7.1 | omega) (by first | exact b53.1 | omega) (fun h9 => by first | exact oq_42ab5adf ws51_19 g50 hps41.1 ws35_19 g23 hps14.1 ws9_19 | omega), by first | exact oq_e7b9ecab ws51_1 ws51_2 hps41.2.1 | omega, by first | exact oq_e7b9ecab ws51_2 ws51_4 hps41.2.2.1 | omega, hRD⟩⟩
                ·
                  refine z_const X rfl ?_
                  have hRD : RDc B N 5 (iI s 4) (iI s 19) (DL s) s41 0 := by have h := rd_s2 (o := iI s 19) (v := s41) (x := (-17)) (by first | exact oq_c7109223 g11 hws9 | (clear hps41 g34 g27 g25 g23 hps14 g13 hps9; omega) | (clear g34 g27 g25 g23 hps14 g13 hps9; omega) | omega) hnC (by have h := hps14.2.2.2; rw [show iI s9 4 = (iI s 4) by first | exact ws9_4 | omega, show iI s9 19 = iI s 19 by first | exact ws9_19 | omega] at h; exact h) (dls9) (by first | exact g23 | (clear hps41 g34 g27 g25 g23 hps14 g13 hps9; omega) | (clear g34 g27 g25 g23 hps14 g13 hps9; omega) | omega) hrl hop (by have h := hps41.2.2.2; rw [show iI s35 4 = sk B N (iI s14 4 + 1) by first | exact hs9 | (clear hps41 g34 g27 g25 g23 hps14 g13 hps9; omega) | (clear g34 g27 g25 g23 hps14 g13 hps9; omega) | omega, show iI s35 19 = iI s 19 by first | exact oq_773b88bb ws35_19 g23 hps14.1 ws9_19 | (clear hps41 g34 g27 g25 g23 hps14 g13 hps9; omega) | (clear g34 g27 g25 g23 hps14 g13 hps9; omega) | omega] at h; exact h) (dls35) (by first | exact rfl | (clear hps41 g34 g27 g25 g23 hps14 g13 hps9; omega) | (clear g34 g27 g25 g23 hps14 g13 hps9; omega) | omega) (by first | exact rfl | (clear hps41 g34 g27 g25 g23 hps14 g13 hps9; omega) | (clear g34 g27 g25 g23 hps14 g13 hps9; omega) | omega) (fun h => absurd (show e42 = 0 by first | exact g50 | (clear hps41 g34 g27 g25 g23 hps14 g13 hps9; omega) | (clear g34 g27 g25 g23 hps14 g13 hps9; omega) | omega) h); rw [show e42 = 0 by first | exact g50 | (clear hps41 g34 g27 g25 g23 hps14 g13 hps9; omega) | (clear g34 g27 g25 g23 hps14 g13 hps9; omega) | omega] at h; exact h
                  exact w_iret X.1 q hRt (nar_ret (by first | exact Or.inl (by decide) | omega)) (ax_d X (show cdA 74 188 = some (.ireturn, 1, 0, 0, 0) from rfl)) (Nat.zero_le _) (Nat.zero_le _) ⟨_, rfl, Is41, Gs41, JBYW_s41, JTKS_s41, 0, rfl, (by decide), ⟨rd_post hRD rfl (by first | exact oq_e0f7ceb0 g23 hps14.1 ws9_4 | omega) (by first | exact b7.1 | omega) (by first | exact b48.1 | omega) (fun h9 => absurd rfl h9), by first | exact hps41.2.1 | omega, by first | exact hps41.2.2.1 | omega, hRD⟩⟩
              ·
                exfalso
                omega
          ·
            refine z_bipush X rfl (z_goto X (t := 157) rfl rfl (z_store_n X (lv' := [(1, .int (Int32.ofInt (-16))), (0, .ref (A 19))]) rfl (by decide) (fun _ h => h) (z_load_n X (x := (-16)) rfl (List.Mem.head _) (z_bipush X rfl (z_icmp_ne X (t := 173) rfl rfl (by decide) (by decide) (fun g54 => ?_) (fun g54 => ?_))))))
            ·
              refine z_aload_n X (x := A 19) rfl (List.Mem.tail _ (List.Mem.head _)) (s_getR X 19 rfl (c518_ok rfl) rfl rfl ?_)
              have hz9 := hc62.1 (by first | exact g27 | (clear g54 g25 g23 hps14 g13 hps9; omega) | (clear g25 g23 hps14 g13 hps9; omega) | omega)
              have hrl : rlT B N (iI s14 4) := Or.inr (Or.inl hz9.1)
              have hop : ((-16) : Int) = opC B (iI s14 4) := by unfold opC; rw [hz9.1.2]; decide
              refine z_callV X 1 (rm := rmN 129) (As := []) (st := []) rfl rfl (by decide) rfl (by rw [E.1, E.2.1, E.2.2.1]; exact c10_step3 G Is14 JBYW_s14 (by first | exact hps14.2.1 | omega)) ⟨by rw [E.2.2.2]; exact (show 7 + 1 ≤ (12 + (32 + 3 * (r + 1))) from oq_36a63932 r), by rw [E.2.2.2]; exact (show 8 + (1 + 11) + 121 ≤ (500 + 45 * (32 + 3 * (r + 1))) from oq_ab0c04be r), by rw [E.2.2.2]; exact Nat.le_refl 0, by rw [E.2.2.2]; exact Nat.le_refl 0⟩ (Nat.le_of_ble_eq_true rfl) (fun vv s55 hq => ?_) (fun ee s55 hq => ?_)
              rotate_left
              · obtain ⟨Is55, Fs55, JBYW_s55, JTKS_s55, hv, hps55⟩ := hq; cases hv
              obtain ⟨Is55, Fs55, JBYW_s55, JTKS_s55, hv, hps55⟩ := hq
              cases hv
              have Gs55 := fm_tq Gs14 Fs55 rfl rfl
              have JBYW_s55 : BYW B N s55 := BYW_fm Fs55 (by decide) JBYW_s14
              have b57 := bi_2 Is55
              have ws55_1 : iI s55 1 = iI s14 1 := fm_iq Fs55 rfl
              have b58 := bi_4 Is55
              have b59 := bi_5 Is55
              have b60 := bi_6 Is55
              have ws55_19 : iI s55 19 = iI s14 19 := fm_iq Fs55 rfl
              have ws55_16 : iI s55 16 = iI s14 16 := fm_iq Fs55 rfl
              have ws55_7 : iI s55 7 = iI s14 7 := fm_iq Fs55 rfl
              have dls55 : DL s55 = DL s14 := (DL_fm Fs55 (by decide) (by decide)).trans rfl
              show WS k 180 [(1, .int (Int32.ofInt (-16))), (0, .ref (A 19))] [] (Wd A dT s55) 0 0
              have hs9 : iI s55 4 = sk B N (iI s14 4 + 1) := by rw [hps55.2.2.1, show iI s14 2 = iI s14 4 + 1 by first | exact hz9.2 | (clear g54 g25 g23 hps14 g13 hps9; omega) | (clear g25 g23 hps14 g13 hps9; omega) | omega]
              refine z_aload_n X (x := A 19) rfl (List.Mem.tail _ (List.Mem.head _)) (z_callV X 19 (rm := (rkR (4 * (7) + 3))) (As := []) (st := []) rfl rfl (by decide) rfl (by rw [E.1, E.2.1, E.2.2.1]; exact (c7_sumr3 G (B := B) (N := N) SF GT 7).2.2.2 Is55 JBYW_s55 JTKS_s55 (by first | exact hps55.1 | omega) (by first | exact hps55.2.1 | omega) (by first | exact oq_ba167e5f ws55_19 b20.1 | omega) (by first | exact oq_0089538a ws55_16 hps55.2.2.2 g23 hps14.2.2.1 hps14.1 ws9_16 ws9_4 p3 | omega)) ⟨by rw [E.2.2.2]; exact (show (12 + (4 * (7) + 3)) + 1 ≤ (12 + (32 + 3 * (r + 1))) from oq_e0a8f0a0 r), by rw [E.2.2.2]; exact (show 8 + (3 + 11) + (500 + 45 * (4 * (7) + 3)) ≤ (500 + 45 * (32 + 3 * (r + 1))) from oq_eacdd764 r), by rw [E.2.2.2]; exact Nat.le_refl 0, by rw [E.2.2.2]; exact Nat.le_refl 0⟩ (Nat.le_of_ble_eq_true rfl) (fun vv s61 hq => ?_) (fun ee s61 hq => ?_))
              rotate_left
              · obtain ⟨Is61, Fs61, JBYW_s61, JTKS_s61, e62, hv, hrs61, hps61⟩ := hq; cases hv
              obtain ⟨Is61, Fs61, JBYW_s61, JTKS_s61, e62, hv, hrs61, hps61⟩ := hq
              cases hv
              have Gs61 := fm_tq Gs55 Fs61 rfl rfl
              have JBYW_s61 : BYW B N s61 := BYW_fm Fs61 (by decide) JBYW_s55
              have b63 := bi_2 Is61
              have ws61_1 : iI s61 1 = iI s55 1 := fm_iq Fs61 rfl
              have b64 := bi_4 Is61
              have b65 := bi_5 Is61
              have b66 := bi_6 Is61
              have b67 := bi_19 Is61
              have b68 := bi_16 Is61
              have b69 := bi_7 Is61
              show WS k 184 [(1, .int (Int32.ofInt (-16))), (0, .ref (A 19))] [.int (Int32.ofInt e62)] (Wd A dT s61) 0 0
              refine z_if_ne X (t := 189) rfl rfl hrs61 (fun g70 => ?_) (fun g70 => ?_)
              ·
                refine z_aload_n X (x := A 19) rfl (List.Mem.tail _ (List.Mem.head _)) (z_load_n X (x := (-16)) rfl (List.Mem.head _) (z_callV X 19 (rm := rmN 82) (As := [.int (Int32.ofInt (-16))]) (st := []) rfl rfl (by decide) rfl (by rw [E.1, E.2.1, E.2.2.1]; exact c7_put3 G Is61 (by first | exact ⟨by decide, by decide⟩ | omega) (by first | exact oq_fbaaf04f g70 b64.2 hps61.1 ws55_16 hps55.2.2.2 hz9.2 g23 hps14.1 ws9_16 ws9_4 p3 | (clear g70 hps61 g54 g25 g23 hps14 g13 hps9; omega) | (clear hps61 g54 g25 g23 hps14 g13 hps9; omega) | omega)) ⟨by rw [E.2.2.2]; exact (show 6 + 1 ≤ (12 + (32 + 3 * (r + 1))) from oq_65b7d3a7 r), by rw [E.2.2.2]; exact (show 8 + (2 + 11) + 100 ≤ (500 + 45 * (32 + 3 * (r + 1))) from oq_bfe32ab2 r), by rw [E.2.2.2]; exact Nat.le_refl 0, by rw [E.2.2.2]; exact Nat.le_refl 0⟩ (Nat.le_of_ble_eq_true rfl) (fun vv s71 hq => ?_) (fun ee s71 hq => ?_)))
                rotate_left
                · obtain ⟨Is71, Fs71, hv, hps71⟩ := hq; cases hv
                obtain ⟨Is71, Fs71, hv, hps71⟩ := hq
                cases hv
                have Gs71 := fm_tq Gs61 Fs71 rfl rfl
                have JBYW_s71 : BYW B N s71 := BYW_fm Fs71 (by decide) JBYW_s61
                have JTKS_s71 : TKS B N s71 := TKS_fm Fs71 (by decide) JTKS_s61
                have ws71_2 : iI s71 2 = iI s61 2 := fm_iq Fs71 rfl
                have ws71_1 : iI s71 1 = iI s61 1 := fm_iq Fs71 rfl
                have ws71_4 : iI s71 4 = iI s61 4 := fm_iq Fs71 rfl
                have ws71_5 : iI s71 5 = iI s61 5 := fm_iq Fs71 rfl
                have ws71_6 : iI s71 6 = iI s61 6 := fm_iq Fs71 rfl
                have ws71_19 : iI s71 19 = iI s61 19 := fm_iq Fs71 rfl
                have b73 := bi_16 Is71
                have ws71_7 : iI s71 7 = iI s61 7 := fm_iq Fs71 rfl
                have dls71 : DL s71 = DL s61 ++ [(-16)] := by rw [hps71.2]
                show WS k 194 [(1, .int (Int32.ofInt (-16))), (0, .ref (A 19))] [] (Wd A dT s71) 0 0
                refine z_const X rfl ?_
                have hRD : RDc B N 5 (iI s 4) (iI s 19) (DL s) s71 1 := by have h := rd_s2 (o := iI s 19) (v := s71) (x := (-16)) (by first | exact oq_c7109223 g11 hws9 | (clear g70 hps61 g54 g25 g23 hps14 g13 hps9; omega) | (clear hps61 g54 g25 g23 hps14 g13 hps9; omega) | omega) hnC (by have h := hps14.2.2.2; rw [show iI s9 4 = (iI s 4) by first | exact ws9_4 | omega, show iI s9 19 = iI s 19 by first | exact ws9_19 | omega] at h; exact h) (dls9) (by first | exact g23 | (clear g70 hps61 g54 g25 g23 hps14 g13 hps9; omega) | (clear hps61 g54 g25 g23 hps14 g13 hps9; omega) | omega) hrl hop (by have h := hps61.2.2.2; rw [show iI s55 4 = sk B N (iI s14 4 + 1) by first | exact hs9 | (clear g70 hps61 g54 g25 g23 hps14 g13 hps9; omega) | (clear hps61 g54 g25 g23 hps14 g13 hps9; omega) | omega, show iI s55 19 = iI s 19 by first | exact oq_773b88bb ws55_19 g23 hps14.1 ws9_19 | (clear g70 hps61 g54 g25 g23 hps14 g13 hps9; omega) | (clear hps61 g54 g25 g23 hps14 g13 hps9; omega) | omega] at h; exact h) (dls55) (by first | exact ws71_4 | (clear g70 hps61 g54 g25 g23 hps14 g13 hps9; omega) | (clear hps61 g54 g25 g23 hps14 g13 hps9; omega) | omega) (by first | exact ws71_7 | (clear g70 hps61 g54 g25 g23 hps14 g13 hps9; omega) | (clear hps61 g54 g25 g23 hps14 g13 hps9; omega) | omega) (fun _ => dls71); rw [show e62 = 1 by first | exact oq_05ce1c1f g70 hps61.1 | (clear g70 hps61 g54 g25 g23 hps14 g13 hps9; omega) | (clear hps61 g54 g25 g23 hps14 g13 hps9; omega) | omega] at h; exact h
                exact w_iret X.1 q hRt (nar_ret (by first | exact Or.inr (by decide) | omega)) (ax_d X (show cdA 74 195 = some (.ireturn, 1, 0, 0, 0) from rfl)) (Nat.zero_le _) (Nat.zero_le _) ⟨_, rfl, Is71, Gs71, JBYW_s71, JTKS_s71, 1, rfl, (by decide), ⟨rd_post hRD rfl (by first | exact oq_e0f7ceb0 g23 hps14.1 ws9_4 | omega) (by first | exact b7.1 | omega) (by first | exact b73.1 | omega) (fun h9 => by first | exact oq_42ab5adf ws71_19 g70 hps61.1 ws55_19 g23 hps14.1 ws9_19 | omega), by first | exact oq_e7b9ecab ws71_1 ws71_2 hps61.2.1 | omega, by first | exact oq_e7b9ecab ws71_2 ws71_4 hps61.2.2.1 | omega, hRD⟩⟩
              ·
                refine z_const X rfl ?_
                have hRD : RDc B N 5 (iI s 4) (iI s 19) (DL s) s61 0 := by have h := rd_s2 (o := iI s 19) (v := s61) (x := (-16)) (by first | exact oq_c7109223 g11 hws9 | (clear hps61 g54 g25 g23 hps14 g13 hps9; omega) | (clear g54 g25 g23 hps14 g13 hps9; omega) | omega) hnC (by have h := hps14.2.2.2; rw [show iI s9 4 = (iI s 4) by first | exact ws9_4 | omega, show iI s9 19 = iI s 19 by first | exact ws9_19 | omega] at h; exact h) (dls9) (by first | exact g23 | (clear hps61 g54 g25 g23 hps14 g13 hps9; omega) | (clear g54 g25 g23 hps14 g13 hps9; omega) | omega) hrl hop (by have h := hps61.2.2.2; rw [show iI s55 4 = sk B N (iI s14 4 + 1) by first | exact hs9 | (clear hps61 g54 g25 g23 hps14 g13 hps9; omega) | (clear g54 g25 g23 hps14 g13 hps9; omega) | omega, show iI s55 19 = iI s 19 by first | exact oq_773b88bb ws55_19 g23 hps14.1 ws9_19 | (clear hps61 g54 g25 g23 hps14 g13 hps9; omega) | (clear g54 g25 g23 hps14 g13 hps9; omega) | omega] at h; exact h) (dls55) (by first | exact rfl | (clear hps61 g54 g25 g23 hps14 g13 hps9; omega) | (clear g54 g25 g23 hps14 g13 hps9; omega) | omega) (by first | exact rfl | (clear hps61 g54 g25 g23 hps14 g13 hps9; omega) | (clear g54 g25 g23 hps14 g13 hps9; omega) | omega) (fun h => absurd (show e62 = 0 by first | exact g70 | (clear hps61 g54 g25 g23 hps14 g13 hps9; omega) | (clear g54 g25 g23 hps14 g13 hps9; omega) | omega) h); rw [show e62 = 0 by first | exact g70 | (clear hps61 g54 g25 g23 hps14 g13 hps9; omega) | (clear g54 g25 g23 hps14 g13 hps9; omega) | omega] at h; exact h
                exact w_iret X.1 q hRt (nar_ret (by first | exact Or.inl (by decide) | omega)) (ax_d X (show cdA 74 188 = some (.ireturn, 1, 0, 0, 0) from rfl)) (Nat.zero_le _) (Nat.zero_le _) ⟨_, rfl, Is61, Gs61, JBYW_s61, JTKS_s61, 0, rfl, (by decide), ⟨rd_post hRD rfl (by first | exact oq_e0f7ceb0 g23 hps14.1 ws9_4 | omega) (by first | exact b7.1 | omega) (by first | exact b68.1 | omega) (fun h9 => absurd rfl h9), by first | exact hps61.2.1 | omega, by first | exact hps61.2.2.1 | omega, hRD⟩⟩
            ·
              exfalso
              omega
        ·
          refine z_bipush X rfl (z_goto X (t := 157) rfl rfl (z_store_n X (lv' := [(1, .int (Int32.ofInt (-15))), (0, .ref (A 19))]) rfl (by decide) (fun _ h => h) (z_load_n X (x := (-15)) rfl (List.Mem.head _) (z_bipush X rfl (z_icmp_ne X (t := 173) rfl rfl (by decide) (by decide) (fun g74 => ?_) (fun g74 => ?_))))))
          ·
            refine z_aload_n X (x := A 19) rfl (List.Mem.tail _ (List.Mem.head _)) (s_getR X 19 rfl (c518_ok rfl) rfl rfl ?_)
            have hz9 := hc60.1 (by first | exact g25 | (clear g74 g23 hps14 g13 hps9; omega) | (clear g23 hps14 g13 hps9; omega) | omega)
            have hrl : rlT B N (iI s14 4) := Or.inl hz9.1
            have hop : ((-15) : Int) = opC B (iI s14 4) := by unfold opC; rw [hz9.1.2]; decide
            refine z_callV X 1 (rm := rmN 129) (As := []) (st := []) rfl rfl (by decide) rfl (by rw [E.1, E.2.1, E.2.2.1]; exact c10_step3 G Is14 JBYW_s14 (by first | exact hps14.2.1 | omega)) ⟨by rw [E.2.2.2]; exact (show 7 + 1 ≤ (12 + (32 + 3 * (r + 1))) from oq_36a63932 r), by rw [E.2.2.2]; exact (show 8 + (1 + 11) + 121 ≤ (500 + 45 * (32 + 3 * (r + 1))) from oq_ab0c04be r), by rw [E.2.2.2]; exact Nat.le_refl 0, by rw [E.2.2.2]; exact Nat.le_refl 0⟩ (Nat.le_of_ble_eq_true rfl) (fun vv s75 hq => ?_) (fun ee s75 hq => ?_)
            rotate_left
            · obtain ⟨Is75, Fs75, JBYW_s75, JTKS_s75, hv, hps75⟩ := hq; cases hv
            obtain ⟨Is75, Fs75, JBYW_s75, JTKS_s75, hv, hps75⟩ := hq
            cases hv
            have Gs75 := fm_tq Gs14 Fs75 rfl rfl
            have JBYW_s75 : BYW B N s75 := BYW_fm Fs75 (by decide) JBYW_s14
            have b77 := bi_2 Is75
            have ws75_1 : iI s75 1 = iI s14 1 := fm_iq Fs75 rfl
            have b78 := bi_4 Is75
            have b79 := bi_5 Is75
            have b80 := bi_6 Is75
            have ws75_19 : iI s75 19 = iI s14 19 := fm_iq Fs75 rfl
            have ws75_16 : iI s75 16 = iI s14 16 := fm_iq Fs75 rfl
            have ws75_7 : iI s75 7 = iI s14 7 := fm_iq Fs75 rfl
            have dls75 : DL s75 = DL s14 := (DL_fm Fs75 (by decide) (by decide)).trans rfl
            show WS k 180 [(1, .int (Int32.ofInt (-15))), (0, .ref (A 19))] [] (Wd A dT s75) 0 0
            have hs9 : iI s75 4 = sk B N (iI s14 4 + 1) := by rw [hps75.2.2.1, show iI s14 2 = iI s14 4 + 1 by first | exact hz9.2 | (clear g74 g23 hps14 g13 hps9; omega) | (clear g23 hps14 g13 hps9; omega) | omega]
            refine z_aload_n X (x := A 19) rfl (List.Mem.tail _ (List.Mem.head _)) (z_callV X 19 (rm := (rkR (4 * (7) + 3))) (As := []) (st := []) rfl rfl (by decide) rfl (by rw [E.1, E.2.1, E.2.2.1]; exact (c7_sumr3 G (B := B) (N := N) SF GT 7).2.2.2 Is75 JBYW_s75 JTKS_s75 (by first | exact hps75.1 | omega) (by first | exact hps75.2.1 | omega) (by first | exact oq_ba167e5f ws75_19 b20.1 | omega) (by first | exact oq_0089538a ws75_16 hps75.2.2.2 g23 hps14.2.2.1 hps14.1 ws9_16 ws9_4 p3 | omega)) ⟨by rw [E.2.2.2]; exact (show (12 + (4 * (7) + 3)) + 1 ≤ (12 + (32 + 3 * (r + 1))) from oq_e0a8f0a0 r), by rw [E.2.2.2]; exact (show 8 + (3 + 11) + (500 + 45 * (4 * (7) + 3)) ≤ (500 + 45 * (32 + 3 * (r + 1))) from oq_eacdd764 r), by rw [E.2.2.2]; exact Nat.le_refl 0, by rw [E.2.2.2]; exact Nat.le_refl 0⟩ (Nat.le_of_ble_eq_true rfl) (fun vv s81 hq => ?_) (fun ee s81 hq => ?_))
            rotate_left
            · obtain ⟨Is81, Fs81, JBYW_s81, JTKS_s81, e82, hv, hrs81, hps81⟩ := hq; cases hv
            obtain ⟨Is81, Fs81, JBYW_s81, JTKS_s81, e82, hv, hrs81, hps81⟩ := hq
            cases hv
            have Gs81 := fm_tq Gs75 Fs81 rfl rfl
            have JBYW_s81 : BYW B N s81 := BYW_fm Fs81 (by decide) JBYW_s75
            have b83 := bi_2 Is81
            have ws81_1 : iI s81 1 = iI s75 1 := fm_iq Fs81 rfl
            have b84 := bi_4 Is81
            have b85 := bi_5 Is81
            have b86 := bi_6 Is81
            have b87 := bi_19 Is81
            have b88 := bi_16 Is81
            have b89 := bi_7 Is81
            show WS k 184 [(1, .int (Int32.ofInt (-15))), (0, .ref (A 19))] [.int (Int32.ofInt e82)] (Wd A dT s81) 0 0
            refine z_if_ne X (t := 189) rfl rfl hrs81 (fun g90 => ?_) (fun g90 => ?_)
            ·
              refine z_aload_n X (x := A 19) rfl (List.Mem.tail _ (List.Mem.head _)) (z_load_n X (x := (-15)) rfl (List.Mem.head _) (z_callV X 19 (rm := rmN 82) (As := [.int (Int32.ofInt (-15))]) (st := []) rfl rfl (by decide) rfl (by rw [E.1, E.2.1, E.2.2.1]; exact c7_put3 G Is81 (by first | exact ⟨by decide, by decide⟩ | omega) (by first | exact oq_fbaaf04f g90 b84.2 hps81.1 ws75_16 hps75.2.2.2 hz9.2 g23 hps14.1 ws9_16 ws9_4 p3 | (clear g90 hps81 g74 g23 hps14 g13 hps9; omega) | (clear hps81 g74 g23 hps14 g13 hps9; omega) | omega)) ⟨by rw [E.2.2.2]; exact (show 6 + 1 ≤ (12 + (32 + 3 * (r + 1))) from oq_65b7d3a7 r), by rw [E.2.2.2]; exact (show 8 + (2 + 11) + 100 ≤ (500 + 45 * (32 + 3 * (r + 1))) from oq_bfe32ab2 r), by rw [E.2.2.2]; exact Nat.le_refl 0, by rw [E.2.2.2]; exact Nat.le_refl 0⟩ (Nat.le_of_ble_eq_true rfl) (fun vv s91 hq => ?_) (fun ee s91 hq => ?_)))
              rotate_left
              · obtain ⟨Is91, Fs91, hv, hps91⟩ := hq; cases hv
              obtain ⟨Is91, Fs91, hv, hps91⟩ := hq
              cases hv
              have Gs91 := fm_tq Gs81 Fs91 rfl rfl
              have JBYW_s91 : BYW B N s91 := BYW_fm Fs91 (by decide) JBYW_s81
              have JTKS_s91 : TKS B N s91 := TKS_fm Fs91 (by decide) JTKS_s81
              have ws91_2 : iI s91 2 = iI s81 2 := fm_iq Fs91 rfl
              have ws91_1 : iI s91 1 = iI s81 1 := fm_iq Fs91 rfl
              have ws91_4 : iI s91 4 = iI s81 4 := fm_iq Fs91 rfl
              have ws91_5 : iI s91 5 = iI s81 5 := fm_iq Fs91 rfl
              have ws91_6 : iI s91 6 = iI s81 6 := fm_iq Fs91 rfl
              have ws91_19 : iI s91 19 = iI s81 19 := fm_iq Fs91 rfl
              have b93 := bi_16 Is91
              have ws91_7 : iI s91 7 = iI s81 7 := fm_iq Fs91 rfl
              have dls91 : DL s91 = DL s81 ++ [(-15)] := by rw [hps91.2]
              show WS k 194 [(1, .int (Int32.ofInt (-15))), (0, .ref (A 19))] [] (Wd A dT s91) 0 0
              refine z_const X rfl ?_
              have hRD : RDc B N 5 (iI s 4) (iI s 19) (DL s) s91 1 := by have h := rd_s2 (o := iI s 19) (v := s91) (x := (-15)) (by first | exact oq_c7109223 g11 hws9 | (clear g90 hps81 g74 g23 hps14 g13 hps9; omega) | (clear hps81 g74 g23 hps14 g13 hps9; omega) | omega) hnC (by have h := hps14.2.2.2; rw [show iI s9 4 = (iI s 4) by first | exact ws9_4 | omega, show iI s9 19 = iI s 19 by first | exact ws9_19 | omega] at h; exact h) (dls9) (by first | exact g23 | (clear g90 hps81 g74 g23 hps14 g13 hps9; omega) | (clear hps81 g74 g23 hps14 g13 hps9; omega) | omega) hrl hop (by have h := hps81.2.2.2; rw [show iI s75 4 = sk B N (iI s14 4 + 1) by first | exact hs9 | (clear g90 hps81 g74 g23 hps14 g13 hps9; omega) | (clear hps81 g74 g23 hps14 g13 hps9; omega) | omega, show iI s75 19 = iI s 19 by first | exact oq_773b88bb ws75_19 g23 hps14.1 ws9_19 | (clear g90 hps81 g74 g23 hps14 g13 hps9; omega) | (clear hps81 g74 g23 hps14 g13 hps9; omega) | omega] at h; exact h) (dls75) (by first | exact ws91_4 | (clear g90 hps81 g74 g23 hps14 g13 hps9; omega) | (clear hps81 g74 g23 hps14 g13 hps9; omega) | omega) (by first | exact ws91_7 | (clear g90 hps81 g74 g23 hps14 g13 hps9; omega) | (clear hps81 g74 g23 hps14 g13 hps9; omega) | omega) (fun _ => dls91); rw [show e82 = 1 by first | exact oq_05ce1c1f g90 hps81.1 | (clear g90 hps81 g74 g23 hps14 g13 hps9; omega) | (clear hps81 g74 g23 hps14 g13 hps9; omega) | omega] at h; exact h
              exact w_iret X.1 q hRt (nar_ret (by first | exact Or.inr (by decide) | omega)) (ax_d X (show cdA 74 195 = some (.ireturn, 1, 0, 0, 0) from rfl)) (Nat.zero_le _) (Nat.zero_le _) ⟨_, rfl, Is91, Gs91, JBYW_s91, JTKS_s91, 1, rfl, (by decide), ⟨rd_post hRD rfl (by first | exact oq_e0f7ceb0 g23 hps14.1 ws9_4 | omega) (by first | exact b7.1 | omega) (by first | exact b93.1 | omega) (fun h9 => by first | exact oq_42ab5adf ws91_19 g90 hps81.1 ws75_19 g23 hps14.1 ws9_19 | omega), by first | exact oq_e7b9ecab ws91_1 ws91_2 hps81.2.1 | omega, by first | exact oq_e7b9ecab ws91_2 ws91_4 hps81.2.2.1 | omega, hRD⟩⟩
            ·
              refine z_const X rfl ?_
              have hRD : RDc B N 5 (iI s 4) (iI s 19) (DL s) s81 0 := by have h := rd_s2 (o := iI s 19) (v := s81) (x := (-15)) (by first | exact oq_c7109223 g11 hws9 | (clear hps81 g74 g23 hps14 g13 hps9; omega) | (clear g74 g23 hps14 g13 hps9; omega) | omega) hnC (by have h := hps14.2.2.2; rw [show iI s9 4 = (iI s 4) by first | exact ws9_4 | omega, show iI s9 19 = iI s 19 by first | exact ws9_19 | omega] at h; exact h) (dls9) (by first | exact g23 | (clear hps81 g74 g23 hps14 g13 hps9; omega) | (clear g74 g23 hps14 g13 hps9; omega) | omega) hrl hop (by have h := hps81.2.2.2; rw [show iI s75 4 = sk B N (iI s14 4 + 1) by first | exact hs9 | (clear hps81 g74 g23 hps14 g13 hps9; omega) | (clear g74 g23 hps14 g13 hps9; omega) | omega, show iI s75 19 = iI s 19 by first | exact oq_773b88bb ws75_19 g23 hps14.1 ws9_19 | (clear hps81 g74 g23 hps14 g13 hps9; omega) | (clear g74 g23 hps14 g13 hps9; omega) | omega] at h; exact h) (dls75) (by first | exact rfl | (clear hps81 g74 g23 hps14 g13 hps9; omega) | (clear g74 g23 hps14 g13 hps9; omega) | omega) (by first | exact rfl | (clear hps81 g74 g23 hps14 g13 hps9; omega) | (clear g74 g23 hps14 g13 hps9; omega) | omega) (fun h => absurd (show e82 = 0 by first | exact g90 | (clear hps81 g74 g23 hps14 g13 hps9; omega) | (clear g74 g23 hps14 g13 hps9; omega) | omega) h); rw [show e82 = 0 by first | exact g90 | (clear hps81 g74 g23 hps14 g13 hps9; omega) | (clear g74 g23 hps14 g13 hps9; omega) | omega] at h; exact h
              exact w_iret X.1 q hRt (nar_ret (by first | exact Or.inl (by decide) | omega)) (ax_d X (show cdA 74 188 = some (.ireturn, 1, 0, 0, 0) from rfl)) (Nat.zero_le _) (Nat.zero_le _) ⟨_, rfl, Is81, Gs81, JBYW_s81, JTKS_s81, 0, rfl, (by decide), ⟨rd_post hRD rfl (by first | exact oq_e0f7ceb0 g23 hps14.1 ws9_4 | omega) (by first | exact b7.1 | omega) (by first | exact b88.1 | omega) (fun h9 => absurd rfl h9), by first | exact hps81.2.1 | omega, by first | exact hps81.2.2.1 | omega, hRD⟩⟩
          ·
            exfalso
            omega
      ·
        refine z_const X rfl ?_
        have hRD : RDc B N 5 (iI s 4) (iI s 19) (DL s) s14 0 := rd_bad (by have h := hps14.2.2.2; rw [show iI s9 4 = (iI s 4) by first | exact ws9_4 | omega, show iI s9 19 = iI s 19 by first | exact ws9_19 | omega] at h; exact h) (by first | exact g23 | (clear hps14 g13 hps9; omega) | (clear g13 hps9; omega) | omega) (by first | exact rfl | (clear hps14 g13 hps9; omega) | (clear g13 hps9; omega) | omega) (fun r h z => pt_sb (by first | exact oq_c7109223 g11 hws9 | (clear hps14 g13 hps9; omega) | (clear g13 hps9; omega) | omega) hnC h z)
        exact w_iret X.1 q hRt (nar_ret (by first | exact Or.inl (by decide) | omega)) (ax_d X (show cdA 74 103 = some (.ireturn, 1, 0, 0, 0) from rfl)) (Nat.zero_le _) (Nat.zero_le _) ⟨_, rfl, Is14, Gs14, JBYW_s14, JTKS_s14, 0, rfl, (by decide), ⟨rd_post hRD rfl (by first | exact oq_4547f4f6 hN p1 p0 | (clear hps14 g13 hps9; omega) | (clear g13 hps9; omega) | omega) (by first | exact b7.1 | omega) (by first | exact b21.1 | omega) (fun h9 => absurd rfl h9), by first | exact hps14.2.1 | omega, by first | exact hps14.2.2.1 | omega, hRD⟩⟩
    ·
      have hC := (hc91.1 (by first | exact oq_1f9a5ade g13 ws9_5 | (clear hps9; omega) | omega)).1
      have hA := (hc91.1 (by first | exact oq_1f9a5ade g13 ws9_5 | (clear hps9; omega) | omega)).2
      refine z_aload_n X (x := A 19) rfl (List.Mem.head _) (z_callV X 19 (rm := rmN 80) (As := []) (st := []) rfl rfl (by decide) rfl (by rw [E.1, E.2.1, E.2.2.1]; exact c7_enter3 G Is9 JBYW_s9 JTKS_s9 (by first | exact oq_e7b9ecab ws9_1 ws9_2 p0 | omega) (by first | exact oq_e7b9ecab ws9_2 ws9_4 p1 | omega)) ⟨by rw [E.2.2.2]; exact (show 8 + 1 ≤ (12 + (32 + 3 * (r + 1))) from oq_de5d5424 r), by rw [E.2.2.2]; exact (show 8 + (1 + 11) + 143 ≤ (500 + 45 * (32 + 3 * (r + 1))) from oq_8bb5ae4a r), by rw [E.2.2.2]; exact Nat.le_refl 0, by rw [E.2.2.2]; exact Nat.le_refl 0⟩ (Nat.le_of_ble_eq_true rfl) (fun vv s94 hq => ?_) (fun ee s94 hq => ?_))
      rotate_left
      · obtain ⟨Is94, Fs94, JBYW_s94, JTKS_s94, e95, hv, hrs94, hps94⟩ := hq; cases hv
      obtain ⟨Is94, Fs94, JBYW_s94, JTKS_s94, e95, hv, hrs94, hps94⟩ := hq
      have hps94p := And.intro hps94.2.1 (hps94.2.2)
      cases hv
      have Gs94 := fm_tq Gs9 Fs94 rfl rfl
      have JBYW_s94 : BYW B N s94 := BYW_fm Fs94 (by decide) JBYW_s9
      have b96 := bi_2 Is94
      have ws94_1 : iI s94 1 = iI s9 1 := fm_iq Fs94 rfl
      have b97 := bi_4 Is94
      have b98 := bi_5 Is94
      have b99 := bi_6 Is94
      have b100 := bi_19 Is94
      have ws94_16 : iI s94 16 = iI s9 16 := fm_iq Fs94 rfl
      have b101 := bi_7 Is94
      have dls94 : DL s94 = DL s := (DL_fm Fs94 (by decide) (by decide)).trans dls9
      show WS k 62 [(0, .ref (A 19))] [.int (Int32.ofInt e95)] (Wd A dT s94) 0 0
      refine z_if_eq X (t := 81) rfl rfl hrs94 (fun g102 => ?_) (fun g102 => ?_)
      ·
        refine z_const X rfl ?_
        have hRD : RDc B N 5 (iI s 4) (iI s 19) (DL s) s94 0 := rd_no (pt_b3 (by first | exact oq_c7109223 g11 hws9 | (clear hps94 hps9; omega) | (clear hps9; omega) | omega) hC (by first | exact oq_39ccb767 g102 hps94.1 ws9_19 | (clear hps94 hps9; omega) | (clear hps9; omega) | omega)) (by decide) (by first | exact oq_f447e429 g102 hps94.1 | (clear hps94 hps9; omega) | (clear hps9; omega) | omega)
        exact w_iret X.1 q hRt (nar_ret (by first | exact Or.inl (by decide) | omega)) (ax_d X (show cdA 74 82 = some (.ireturn, 1, 0, 0, 0) from rfl)) (Nat.zero_le _) (Nat.zero_le _) ⟨_, rfl, Is94, Gs94, JBYW_s94, JTKS_s94, 0, rfl, (by decide), ⟨rd_post hRD rfl (by first | exact oq_2a39d009 hA hN p0 | (clear hps94 hps9; omega) | (clear hps9; omega) | omega) (by first | exact b7.1 | omega) (by first | exact oq_0f93fca7 ws94_16 ws9_16 b7.1 | omega) (fun h9 => absurd rfl h9), by first | exact hps94.2.1 | omega, by first | exact hps94.2.2 | omega, hRD⟩⟩
      ·
        have hs2 : iI s94 4 = sk B N ((iI s 4) + 1) := by exact Or.elim hps94.1 (fun q => by first | exact oq_b6b913de q.1 g102 | (clear g102 hps94 hps9; omega) | (clear hps94 hps9; omega) | omega) (fun q => by rw [q.2.2.2.1, show iI s9 2 = (iI s 4) + 1 by first | exact oq_a22cec24 hA ws9_2 | (clear g102 hps94 hps9; omega) | (clear hps94 hps9; omega) | omega])
        refine z_aload_n X (x := A 19) rfl (List.Mem.head _) (z_callV X 19 (rm := (rkR (32 + 3 * (r) + 2))) (As := []) (st := []) rfl rfl (by decide) rfl (by rw [E.1, E.2.1, E.2.2.1]; exact hE Is94 JBYW_s94 JTKS_s94 (by first | exact hps94.2.1 | omega) (by first | exact hps94.2.2 | omega) (by first | exact oq_72a45466 g102 hps94.1 ws9_19 p2 | omega) (by first | exact oq_024764ca g102 ws94_16 hps94.1 ws9_16 ws9_2 p3 p1 | omega)) ⟨by rw [E.2.2.2]; exact (show (12 + (32 + 3 * (r) + 2)) + 1 ≤ (12 + (32 + 3 * (r + 1))) from oq_45eb8909 r), by rw [E.2.2.2]; exact (show 8 + (2 + 11) + (500 + 45 * (32 + 3 * (r) + 2)) ≤ (500 + 45 * (32 + 3 * (r + 1))) from oq_a5f4ad9d r), by rw [E.2.2.2]; exact Nat.le_refl 0, by rw [E.2.2.2]; exact Nat.le_refl 0⟩ (Nat.le_of_ble_eq_true rfl) (fun vv s103 hq => ?_) (fun ee s103 hq => ?_))
        rotate_left
        · obtain ⟨Is103, Fs103, JBYW_s103, JTKS_s103, e104, hv, hrs103, hps103⟩ := hq; cases hv
        obtain ⟨Is103, Fs103, JBYW_s103, JTKS_s103, e104, hv, hrs103, hps103⟩ := hq
        have hps103p := And.intro hps103.2.1 (And.intro hps103.2.2.1 (hps103.2.2.2))
        cases hv
        have Gs103 := fm_tq Gs94 Fs103 rfl rfl
        have JBYW_s103 : BYW B N s103 := BYW_fm Fs103 (by decide) JBYW_s94
        have b105 := bi_2 Is103
        have ws103_1 : iI s103 1 = iI s94 1 := fm_iq Fs103 rfl
        have b106 := bi_4 Is103
        have b107 := bi_5 Is103
        have b108 := bi_6 Is103
        have b109 := bi_19 Is103
        have b110 := bi_16 Is103
        have b111 := bi_7 Is103
        show WS k 69 [(0, .ref (A 19))] [.int (Int32.ofInt e104)] (Wd A dT s103) 0 0
        refine z_if_eq X (t := 81) rfl rfl hrs103 (fun g112 => ?_) (fun g112 => ?_)
        ·
          refine z_const X rfl ?_
          have hRD : RDc B N 5 (iI s 4) (iI s 19) (DL s) s103 0 := rd_bad (by have h := hps103.2.2.2; rw [show iI s94 4 = sk B N ((iI s 4) + 1) by first | exact hs2 | omega, show iI s94 19 = iI s 19 + 1 by first | exact oq_60a36124 g102 hps94.1 ws9_19 | omega] at h; exact h) (by first | exact g112 | (clear hps103 g102 hps94 hps9; omega) | (clear g102 hps94 hps9; omega) | omega) (by first | exact rfl | (clear hps103 g102 hps94 hps9; omega) | (clear g102 hps94 hps9; omega) | omega) (fun r h z => pt_bb (by first | exact oq_c7109223 g11 hws9 | (clear hps103 g102 hps94 hps9; omega) | (clear g102 hps94 hps9; omega) | omega) hC (by first | exact oq_8c6baba9 g102 hps94.1 ws9_19 | (clear hps103 g102 hps94 hps9; omega) | (clear g102 hps94 hps9; omega) | omega) h z)
          exact w_iret X.1 q hRt (nar_ret (by first | exact Or.inl (by decide) | omega)) (ax_d X (show cdA 74 82 = some (.ireturn, 1, 0, 0, 0) from rfl)) (Nat.zero_le _) (Nat.zero_le _) ⟨_, rfl, Is103, Gs103, JBYW_s103, JTKS_s103, 0, rfl, (by decide), ⟨rd_post hRD rfl (by first | exact oq_2a39d009 hA hN p0 | (clear hps103 g102 hps94 hps9; omega) | (clear g102 hps94 hps9; omega) | omega) (by first | exact b7.1 | omega) (by first | exact b110.1 | omega) (fun h9 => absurd rfl h9), by first | exact hps103.2.1 | omega, by first | exact hps103.2.2.1 | omega, hRD⟩⟩
        ·
          refine z_aload_n X (x := A 19) rfl (List.Mem.head _) (z_bipush X rfl (z_callV X 19 (rm := rmN 81) (As := [.int (Int32.ofInt 93)]) (st := []) rfl rfl (by decide) rfl (by rw [E.1, E.2.1, E.2.2.1]; exact c7_pass3 G Is103 JBYW_s103 JTKS_s103 (by first | exact ⟨by decide, by decide⟩ | omega) (by first | exact Or.inr (by decide) | omega) (by first | exact Or.inl (by decide) | omega) (by first | exact hps103.2.1 | omega) (by first | exact hps103.2.2.1 | omega)) ⟨by rw [E.2.2.2]; exact (show 8 + 1 ≤ (12 + (32 + 3 * (r + 1))) from oq_de5d5424 r), by rw [E.2.2.2]; exact (show 8 + (2 + 11) + 143 ≤ (500 + 45 * (32 + 3 * (r + 1))) from oq_0961b7e0 r), by rw [E.2.2.2]; exact Nat.le_refl 0, by rw [E.2.2.2]; exact Nat.le_refl 0⟩ (Nat.le_of_ble_eq_true rfl) (fun vv s113 hq => ?_) (fun ee s113 hq => ?_)))
          rotate_left
          · obtain ⟨Is113, Fs113, JBYW_s113, JTKS_s113, e114, hv, hrs113, hps113⟩ := hq; cases hv
          obtain ⟨Is113, Fs113, JBYW_s113, JTKS_s113, e114, hv, hrs113, hps113⟩ := hq
          have hps113p := And.intro hps113.2.1 (And.intro hps113.2.2.1 (hps113.2.2.2))
          cases hv
          have Gs113 := fm_tq Gs103 Fs113 rfl rfl
          have JBYW_s113 : BYW B N s113 := BYW_fm Fs113 (by decide) JBYW_s103
          have b115 := bi_2 Is113
          have ws113_1 : iI s113 1 = iI s103 1 := fm_iq Fs113 rfl
          have b116 := bi_4 Is113
          have b117 := bi_5 Is113
          have b118 := bi_6 Is113
          have ws113_19 : iI s113 19 = iI s103 19 := fm_iq Fs113 rfl
          have ws113_16 : iI s113 16 = iI s103 16 := fm_iq Fs113 rfl
          have b119 := bi_7 Is113
          have dls113 : DL s113 = DL s103 := (DL_fm Fs113 (by decide) (by decide)).trans rfl
          show WS k 78 [(0, .ref (A 19))] [.int (Int32.ofInt e114)] (Wd A dT s113) 0 0
          refine z_if_ne X (t := 83) rfl rfl hrs113 (fun g120 => ?_) (fun g120 => ?_)
          ·
            refine z_aload_n X (x := A 19) rfl (List.Mem.head _) (w_dup X.1 (ax_d X (show cdA 74 84 = some (.dup, 1, 0, 0, 0) from rfl)) rfl (z_getI X 19 rfl (c518_ok rfl) rfl rfl ?_))
            have b121 := bi_19 Is113
            refine z_const X rfl (z_sub X rfl (s_putI X 19 rfl (c518_ok rfl) rfl rfl (by decide) rfl rfl rfl (wd_gen (fun s122 hs122 => ?_))))
            have Is122 : Bd s122 := eqB hs122 (bd_I Is113 (show (0 : Int) ≤ ((iI s113 19) - 1) ∧ ((iI s113 19) - 1) ≤ 6 by first | exact ⟨oq_a873a8a8 ws113_19 g112 hps103.1 g102 hps94.1 ws9_19 b6.1, oq_a9606c0d b121.2⟩ | omega) ⟨by first | exact oq_c1e961c7 b121.1 | omega, by first | exact oq_b383b26c b121.2 | omega⟩)
            have Fs122 := eqF hs122 (fm_I Gs113 (inl_ok (a := 19) rfl))
            have vs122 : iI s122 19 = ((iI s113 19) - 1) := eqI hs122 (iI_u ⟨by first | exact oq_c1e961c7 b121.1 | omega, by first | exact oq_b383b26c b121.2 | omega⟩)
            have ws122_2 : iI s122 2 = iI s113 2 := eqI hs122 rfl
            have ws122_1 : iI s122 1 = iI s113 1 := eqI hs122 rfl
            have ws122_4 : iI s122 4 = iI s113 4 := eqI hs122 rfl
            have ws122_5 : iI s122 5 = iI s113 5 := eqI hs122 rfl
            have ws122_6 : iI s122 6 = iI s113 6 := eqI hs122 rfl
            have ws122_16 : iI s122 16 = iI s113 16 := eqI hs122 rfl
            have ws122_7 : iI s122 7 = iI s113 7 := eqI hs122 rfl
            have dls122 : DL s122 = DL s103 := by rw [hs122]; exact dls113
            have fs122 : Fm [19] [] s113 s122 := by rw [hs122]; exact fm_I (fm_rf _ _ _) (show 19 ∈ _ by decide)
            have JBYW_s122 : BYW B N s122 := BYW_fm fs122 (by decide) JBYW_s113
            have JTKS_s122 : TKS B N s122 := TKS_fm fs122 (by decide) JTKS_s113
            refine z_const X rfl ?_
            have hRD : RDc B N 5 (iI s 4) (iI s 19) (DL s) s122 1 := by have h := rd_brk (o := iI s 19) (v := s122) (by first | exact oq_c7109223 g11 hws9 | (clear g120 hps113 g112 hps103 g102 hps94 hps9; omega) | (clear hps113 g112 hps103 g102 hps94 hps9; omega) | omega) hC (by first | exact oq_8c6baba9 g102 hps94.1 ws9_19 | (clear g120 hps113 g112 hps103 g102 hps94 hps9; omega) | (clear hps113 g112 hps103 g102 hps94 hps9; omega) | omega) (by have h := hps103.2.2.2; rw [show iI s94 4 = sk B N ((iI s 4) + 1) by first | exact hs2 | omega, show iI s94 19 = iI s 19 + 1 by first | exact oq_60a36124 g102 hps94.1 ws9_19 | omega] at h; exact h) (dls94) (by first | exact g112 | (clear g120 hps113 g112 hps103 g102 hps94 hps9; omega) | (clear hps113 g112 hps103 g102 hps94 hps9; omega) | omega) hps113.2.2.2 (by rw [dls122]) (by first | exact ws122_4 | (clear g120 hps113 g112 hps103 g102 hps94 hps9; omega) | (clear hps113 g112 hps103 g102 hps94 hps9; omega) | omega) (by first | exact ws122_7 | (clear g120 hps113 g112 hps103 g102 hps94 hps9; omega) | (clear hps113 g112 hps103 g102 hps94 hps9; omega) | omega); rw [show e114 = 1 by first | exact oq_46b3e003 g120 hps113.1 | (clear g120 hps113 g112 hps103 g102 hps94 hps9; omega) | (clear hps113 g112 hps103 g102 hps94 hps9; omega) | omega] at h; exact h
            exact w_iret X.1 q hRt (nar_ret (by first | exact Or.inr (by decide) | omega)) (ax_d X (show cdA 74 94 = some (.ireturn, 1, 0, 0, 0) from rfl)) (Nat.zero_le _) (Nat.zero_le _) ⟨_, rfl, Is122, Fs122, JBYW_s122, JTKS_s122, 1, rfl, (by decide), ⟨rd_post hRD rfl (by first | exact oq_4c63dc53 g112 hps103.1 g102 hps94.1 ws9_2 p1 | omega) (by first | exact b7.1 | omega) (by first | exact oq_0f93fca7 ws122_16 ws113_16 b110.1 | omega) (fun h9 => by first | exact oq_10a2b847 vs122 ws113_19 g112 hps103.1 g102 hps94.1 ws9_19 | omega), by first | exact oq_e7b9ecab ws122_1 ws122_2 hps113.2.1 | omega, by first | exact oq_e7b9ecab ws122_2 ws122_4 hps113.2.2.1 | omega, hRD⟩⟩
          ·
            refine z_const X rfl ?_
            have hRD : RDc B N 5 (iI s 4) (iI s 19) (DL s) s113 0 := by have h := rd_brk (o := iI s 19) (v := s113) (by first | exact oq_c7109223 g11 hws9 | (clear hps113 g112 hps103 g102 hps94 hps9; omega) | (clear g112 hps103 g102 hps94 hps9; omega) | omega) hC (by first | exact oq_8c6baba9 g102 hps94.1 ws9_19 | (clear hps113 g112 hps103 g102 hps94 hps9; omega) | (clear g112 hps103 g102 hps94 hps9; omega) | omega) (by have h := hps103.2.2.2; rw [show iI s94 4 = sk B N ((iI s 4) + 1) by first | exact hs2 | omega, show iI s94 19 = iI s 19 + 1 by first | exact oq_60a36124 g102 hps94.1 ws9_19 | omega] at h; exact h) (dls94) (by first | exact g112 | (clear hps113 g112 hps103 g102 hps94 hps9; omega) | (clear g112 hps103 g102 hps94 hps9; omega) | omega) hps113.2.2.2 (by rw [dls113]) (by first | exact rfl | (clear hps113 g112 hps103 g102 hps94 hps9; omega) | (clear g112 hps103 g102 hps94 hps9; omega) | omega) (by first | exact rfl | (clear hps113 g112 hps103 g102 hps94 hps9; omega) | (clear g112 hps103 g102 hps94 hps9; omega) | omega); rw [show e114 = 0 by first | exact g120 | (clear hps113 g112 hps103 g102 hps94 hps9; omega) | (clear g112 hps103 g102 hps94 hps9; omega) | omega] at h; exact h
            exact w_iret X.1 q hRt (nar_ret (by first | exact Or.inl (by decide) | omega)) (ax_d X (show cdA 74 82 = some (.ireturn, 1, 0, 0, 0) from rfl)) (Nat.zero_le _) (Nat.zero_le _) ⟨_, rfl, Is113, Gs113, JBYW_s113, JTKS_s113, 0, rfl, (by decide), ⟨rd_post hRD rfl (by first | exact oq_4c63dc53 g112 hps103.1 g102 hps94.1 ws9_2 p1 | omega) (by first | exact b7.1 | omega) (by first | exact oq_e4757433 ws113_16 b110.1 | omega) (fun h9 => absurd rfl h9), by first | exact hps113.2.1 | omega, by first | exact hps113.2.2.1 | omega, hRD⟩⟩
  ·
    have hk3 : iI s 5 = -3 := Classical.byContradiction (fun q => by have := hwd.2 q; omega)
    have ha3 := (hwd.1 hk3).1
    refine z_aload_n X (x := A 19) rfl (List.Mem.head _) (z_callV X 19 (rm := rmN 80) (As := []) (st := []) rfl rfl (by decide) rfl (by rw [E.1, E.2.1, E.2.2.1]; exact c7_enter3 G Is9 JBYW_s9 JTKS_s9 (by first | exact oq_e7b9ecab ws9_1 ws9_2 p0 | omega) (by first | exact oq_e7b9ecab ws9_2 ws9_4 p1 | omega)) ⟨by rw [E.2.2.2]; exact (show 8 + 1 ≤ (12 + (32 + 3 * (r + 1))) from oq_de5d5424 r), by rw [E.2.2.2]; exact (show 8 + (1 + 11) + 143 ≤ (500 + 45 * (32 + 3 * (r + 1))) from oq_8bb5ae4a r), by rw [E.2.2.2]; exact Nat.le_refl 0, by rw [E.2.2.2]; exact Nat.le_refl 0⟩ (Nat.le_of_ble_eq_true rfl) (fun vv s123 hq => ?_) (fun ee s123 hq => ?_))
    rotate_left
    · obtain ⟨Is123, Fs123, JBYW_s123, JTKS_s123, e124, hv, hrs123, hps123⟩ := hq; cases hv
    obtain ⟨Is123, Fs123, JBYW_s123, JTKS_s123, e124, hv, hrs123, hps123⟩ := hq
    have hps123p := And.intro hps123.2.1 (hps123.2.2)
    cases hv
    have Gs123 := fm_tq Gs9 Fs123 rfl rfl
    have JBYW_s123 : BYW B N s123 := BYW_fm Fs123 (by decide) JBYW_s9
    have b125 := bi_2 Is123
    have ws123_1 : iI s123 1 = iI s9 1 := fm_iq Fs123 rfl
    have b126 := bi_4 Is123
    have b127 := bi_5 Is123
    have b128 := bi_6 Is123
    have b129 := bi_19 Is123
    have ws123_16 : iI s123 16 = iI s9 16 := fm_iq Fs123 rfl
    have b130 := bi_7 Is123
    have dls123 : DL s123 = DL s := (DL_fm Fs123 (by decide) (by decide)).trans dls9
    show WS k 16 [(0, .ref (A 19))] [.int (Int32.ofInt e124)] (Wd A dT s123) 0 0
    refine z_if_eq X (t := 26) rfl rfl hrs123 (fun g131 => ?_) (fun g131 => ?_)
    ·
      refine z_const X rfl ?_
      have hRD : RDc B N 5 (iI s 4) (iI s 19) (DL s) s123 0 := rd_no (pt_n3 (by first | exact oq_dbf81109 g11 hws9 | (clear hps123 g11 hps9; omega) | (clear g11 hps9; omega) | omega) (by first | exact oq_39ccb767 g131 hps123.1 ws9_19 | (clear hps123 g11 hps9; omega) | (clear g11 hps9; omega) | omega)) (by decide) (by first | exact oq_f447e429 g131 hps123.1 | (clear hps123 g11 hps9; omega) | (clear g11 hps9; omega) | omega)
      exact w_iret X.1 q hRt (nar_ret (by first | exact Or.inl (by decide) | omega)) (ax_d X (show cdA 74 27 = some (.ireturn, 1, 0, 0, 0) from rfl)) (Nat.zero_le _) (Nat.zero_le _) ⟨_, rfl, Is123, Gs123, JBYW_s123, JTKS_s123, 0, rfl, (by decide), ⟨rd_post hRD rfl (by first | exact oq_4547f4f6 hN p1 p0 | (clear hps123 g11 hps9; omega) | (clear g11 hps9; omega) | omega) (by first | exact b7.1 | omega) (by first | exact oq_0f93fca7 ws123_16 ws9_16 b7.1 | omega) (fun h9 => absurd rfl h9), by first | exact hps123.2.1 | omega, by first | exact hps123.2.2 | omega, hRD⟩⟩
    ·
      have hs2 : iI s123 4 = sk B N (wdE B N (iI s 4)) := by exact Or.elim hps123.1 (fun q => by first | exact oq_b6b913de q.1 g131 | (clear g131 hps123 g11 hps9; omega) | (clear hps123 g11 hps9; omega) | omega) (fun q => by rw [q.2.2.2.1, show iI s9 2 = wdE B N (iI s 4) by first | exact oq_27118732 ha3 ws9_2 | (clear g131 hps123 g11 hps9; omega) | (clear hps123 g11 hps9; omega) | omega])
      refine z_aload_n X (x := A 19) rfl (List.Mem.head _) (z_callV X 19 (rm := (rkR (32 + 3 * (r)))) (As := []) (st := []) rfl rfl (by decide) rfl (by rw [E.1, E.2.1, E.2.2.1]; exact hT Is123 JBYW_s123 JTKS_s123 (by first | exact hps123.2.1 | omega) (by first | exact hps123.2.2 | omega) (by first | exact oq_72a45466 g131 hps123.1 ws9_19 p2 | omega) (by first | exact oq_024764ca g131 ws123_16 hps123.1 ws9_16 ws9_2 p3 p1 | omega)) ⟨by rw [E.2.2.2]; exact (show (12 + (32 + 3 * (r))) + 1 ≤ (12 + (32 + 3 * (r + 1))) from oq_a51edb0d r), by rw [E.2.2.2]; exact (show 8 + (2 + 11) + (500 + 45 * (32 + 3 * (r))) ≤ (500 + 45 * (32 + 3 * (r + 1))) from oq_75be701f r), by rw [E.2.2.2]; exact Nat.le_refl 0, by rw [E.2.2.2]; exact Nat.le_refl 0⟩ (Nat.le_of_ble_eq_true rfl) (fun vv s132 hq => ?_) (fun ee s132 hq => ?_))
      rotate_left
      · obtain ⟨Is132, Fs132, JBYW_s132, JTKS_s132, e133, hv, hrs132, hps132⟩ := hq; cases hv
      obtain ⟨Is132, Fs132, JBYW_s132, JTKS_s132, e133, hv, hrs132, hps132⟩ := hq
      have hps132p := And.intro hps132.2.1 (And.intro hps132.2.2.1 (hps132.2.2.2))
      cases hv
      have Gs132 := fm_tq Gs123 Fs132 rfl rfl
      have JBYW_s132 : BYW B N s132 := BYW_fm Fs132 (by decide) JBYW_s123
      have b134 := bi_2 Is132
      have ws132_1 : iI s132 1 = iI s123 1 := fm_iq Fs132 rfl
      have b135 := bi_4 Is132
      have b136 := bi_5 Is132
      have b137 := bi_6 Is132
      have b138 := bi_19 Is132
      have b139 := bi_16 Is132
      have b140 := bi_7 Is132
      show WS k 23 [(0, .ref (A 19))] [.int (Int32.ofInt e133)] (Wd A dT s132) 0 0
      refine z_if_ne X (t := 28) rfl rfl hrs132 (fun g141 => ?_) (fun g141 => ?_)
      ·
        refine z_aload_n X (x := A 19) rfl (List.Mem.head _) (w_dup X.1 (ax_d X (show cdA 74 29 = some (.dup, 1, 0, 0, 0) from rfl)) rfl (z_getI X 19 rfl (c518_ok rfl) rfl rfl ?_))
        have b142 := bi_19 Is132
        refine z_const X rfl (z_sub X rfl (s_putI X 19 rfl (c518_ok rfl) rfl rfl (by decide) rfl rfl rfl (wd_gen (fun s143 hs143 => ?_))))
        have Is143 : Bd s143 := eqB hs143 (bd_I Is132 (show (0 : Int) ≤ ((iI s132 19) - 1) ∧ ((iI s132 19) - 1) ≤ 6 by first | exact ⟨oq_f0761439 g141 hps132.1 g131 hps123.1 ws9_19 b6.1, oq_a9606c0d b142.2⟩ | omega) ⟨by first | exact oq_c1e961c7 b142.1 | omega, by first | exact oq_b383b26c b142.2 | omega⟩)
        have Fs143 := eqF hs143 (fm_I Gs132 (inl_ok (a := 19) rfl))
        have vs143 : iI s143 19 = ((iI s132 19) - 1) := eqI hs143 (iI_u ⟨by first | exact oq_c1e961c7 b142.1 | omega, by first | exact oq_b383b26c b142.2 | omega⟩)
        have ws143_2 : iI s143 2 = iI s132 2 := eqI hs143 rfl
        have ws143_1 : iI s143 1 = iI s132 1 := eqI hs143 rfl
        have ws143_4 : iI s143 4 = iI s132 4 := eqI hs143 rfl
        have ws143_5 : iI s143 5 = iI s132 5 := eqI hs143 rfl
        have ws143_6 : iI s143 6 = iI s132 6 := eqI hs143 rfl
        have ws143_16 : iI s143 16 = iI s132 16 := eqI hs143 rfl
        have ws143_7 : iI s143 7 = iI s132 7 := eqI hs143 rfl
        have dls143 : DL s143 = DL s132 := by rw [hs143]; exact rfl
        have fs143 : Fm [19] [] s132 s143 := by rw [hs143]; exact fm_I (fm_rf _ _ _) (show 19 ∈ _ by decide)
        have JBYW_s143 : BYW B N s143 := BYW_fm fs143 (by decide) JBYW_s132
        have JTKS_s143 : TKS B N s143 := TKS_fm fs143 (by decide) JTKS_s132
        refine z_aload_n X (x := A 19) rfl (List.Mem.head _) (z_bipush X rfl (z_callV X 19 (rm := rmN 82) (As := [.int (Int32.ofInt (-8))]) (st := []) rfl rfl (by decide) rfl (by rw [E.1, E.2.1, E.2.2.1]; exact c7_put3 G Is143 (by first | exact ⟨by decide, by decide⟩ | omega) (by first | exact oq_be786901 ws143_16 g141 b135.2 hps132.1 g131 ws123_16 hps123.1 ha3 hk3 ws9_16 ws9_2 hwd.1 p3 | (clear g141 hps132 g131 hps123 g11 hps9; omega) | (clear hps132 g131 hps123 g11 hps9; omega) | omega)) ⟨by rw [E.2.2.2]; exact (show 6 + 1 ≤ (12 + (32 + 3 * (r + 1))) from oq_65b7d3a7 r), by rw [E.2.2.2]; exact (show 8 + (2 + 11) + 100 ≤ (500 + 45 * (32 + 3 * (r + 1))) from oq_bfe32ab2 r), by rw [E.2.2.2]; exact Nat.le_refl 0, by rw [E.2.2.2]; exact Nat.le_refl 0⟩ (Nat.le_of_ble_eq_true rfl) (fun vv s144 hq => ?_) (fun ee s144 hq => ?_)))
        rotate_left
        · obtain ⟨Is144, Fs144, hv, hps144⟩ := hq; cases hv
        obtain ⟨Is144, Fs144, hv, hps144⟩ := hq
        cases hv
        have Gs144 := fm_tq Fs143 Fs144 rfl rfl
        have JBYW_s144 : BYW B N s144 := BYW_fm Fs144 (by decide) JBYW_s143
        have JTKS_s144 : TKS B N s144 := TKS_fm Fs144 (by decide) JTKS_s143
        have ws144_2 : iI s144 2 = iI s143 2 := fm_iq Fs144 rfl
        have ws144_1 : iI s144 1 = iI s143 1 := fm_iq Fs144 rfl
        have ws144_4 : iI s144 4 = iI s143 4 := fm_iq Fs144 rfl
        have ws144_5 : iI s144 5 = iI s143 5 := fm_iq Fs144 rfl
        have ws144_6 : iI s144 6 = iI s143 6 := fm_iq Fs144 rfl
        have ws144_19 : iI s144 19 = iI s143 19 := fm_iq Fs144 rfl
        have b146 := bi_16 Is144
        have ws144_7 : iI s144 7 = iI s143 7 := fm_iq Fs144 rfl
        have dls144 : DL s144 = DL s132 ++ [(-8)] := by rw [hps144.2, dls143]
        show WS k 44 [(0, .ref (A 19))] [] (Wd A dT s144) 0 0
        refine z_const X rfl ?_
        have hRD : RDc B N 5 (iI s 4) (iI s 19) (DL s) s144 1 := rd_not (by first | exact oq_dbf81109 g11 hws9 | (clear g141 hps132 g131 hps123 g11 hps9; omega) | (clear hps132 g131 hps123 g11 hps9; omega) | omega) (by first | exact oq_8c6baba9 g131 hps123.1 ws9_19 | (clear g141 hps132 g131 hps123 g11 hps9; omega) | (clear hps132 g131 hps123 g11 hps9; omega) | omega) (by have h := hps132.2.2.2; rw [show iI s123 4 = sk B N (wdE B N (iI s 4)) by first | exact hs2 | omega, show iI s123 19 = iI s 19 + 1 by first | exact oq_60a36124 g131 hps123.1 ws9_19 | omega] at h; exact h) (dls123) (by first | exact g141 | (clear g141 hps132 g131 hps123 g11 hps9; omega) | (clear hps132 g131 hps123 g11 hps9; omega) | omega) dls144 (by first | exact oq_1aa5be9e ws144_4 ws143_4 | (clear g141 hps132 g131 hps123 g11 hps9; omega) | (clear hps132 g131 hps123 g11 hps9; omega) | omega)
        exact w_iret X.1 q hRt (nar_ret (by first | exact Or.inr (by decide) | omega)) (ax_d X (show cdA 74 45 = some (.ireturn, 1, 0, 0, 0) from rfl)) (Nat.zero_le _) (Nat.zero_le _) ⟨_, rfl, Is144, Gs144, JBYW_s144, JTKS_s144, 1, rfl, (by decide), ⟨rd_post hRD rfl (by first | exact oq_4c63dc53 g141 hps132.1 g131 hps123.1 ws9_2 p1 | omega) (by first | exact b7.1 | omega) (by first | exact b146.1 | omega) (fun h9 => by first | exact oq_0fc8fa0f ws144_19 vs143 g141 hps132.1 g131 hps123.1 ws9_19 | omega), by first | exact oq_4407eb3c ws144_1 ws144_2 ws143_1 ws143_2 hps132.2.1 | omega, by first | exact oq_4407eb3c ws144_2 ws144_4 ws143_2 ws143_4 hps132.2.2.1 | omega, hRD⟩⟩
      ·
        refine z_const X rfl ?_
        have hRD : RDc B N 5 (iI s 4) (iI s 19) (DL s) s132 0 := rd_bad (by have h := hps132.2.2.2; rw [show iI s123 4 = sk B N (wdE B N (iI s 4)) by first | exact hs2 | omega, show iI s123 19 = iI s 19 + 1 by first | exact oq_60a36124 g131 hps123.1 ws9_19 | omega] at h; exact h) (by first | exact g141 | (clear hps132 g131 hps123 g11 hps9; omega) | (clear g131 hps123 g11 hps9; omega) | omega) (by first | exact rfl | (clear hps132 g131 hps123 g11 hps9; omega) | (clear g131 hps123 g11 hps9; omega) | omega) (fun r h z => pt_nb (by first | exact oq_dbf81109 g11 hws9 | (clear hps132 g131 hps123 g11 hps9; omega) | (clear g131 hps123 g11 hps9; omega) | omega) (by first | exact oq_8c6baba9 g131 hps123.1 ws9_19 | (clear hps132 g131 hps123 g11 hps9; omega) | (clear g131 hps123 g11 hps9; omega) | omega) h z)
        exact w_iret X.1 q hRt (nar_ret (by first | exact Or.inl (by decide) | omega)) (ax_d X (show cdA 74 27 = some (.ireturn, 1, 0, 0, 0) from rfl)) (Nat.zero_le _) (Nat.zero_le _) ⟨_, rfl, Is132, Gs132, JBYW_s132, JTKS_s132, 0, rfl, (by decide), ⟨rd_post hRD rfl (by first | exact oq_4547f4f6 hN p1 p0 | (clear hps132 g131 hps123 g11 hps9; omega) | (clear g131 hps123 g11 hps9; omega) | omega) (by first | exact b7.1 | omega) (by first | exact b139.1 | omega) (fun h9 => absurd rfl h9), by first | exact hps132.2.1 | omega, by first | exact hps132.2.2.1 | omega, hRD⟩⟩
set_option maxRecDepth 4000 in
theorem c7_bothS3 (G : GX l s0 D tys a0 dT) {B : Nat → Int} {N : Int} (SF : SF0 s0) (GT : TXw0 s0) {r : Nat} (hT : ∀ {s : PS} , Bd s → BYW B N s → TKS B N s → (iI s 2 ≤ iI s 1) → (iI s 4 ≤ iI s 2) → (6 - iI s 19 ≤ ((r : Nat) : Int)) → (iI s 16 ≤ iI s 4) → CT l s0 D A dT 74 (rkR (32 + 3 * (r))) [.ref (A 19)] s (fun o t => Bd t ∧ Fm [2, 4, 6, 5, 7, 8, 19, 16] [18] s t ∧ BYW B N t ∧ TKS B N t ∧ ∃ e, o = .inl (some (.int (Int32.ofInt e))) ∧ rng e ∧ ((e = 0 ∨ (e = 1 ∧ iI t 19 = iI s 19 ∧ iI s 4 ≤ iI t 4 ∧ iI t 4 ≤ N ∧ iI t 16 + iI s 4 ≤ iI s 16 + iI t 4)) ∧ iI t 2 ≤ iI t 1 ∧ iI t 4 ≤ iI t 2 ∧ RDc B N 5 (iI s 4) (iI s 19) (DL s) t e))) (I : Bd s) (jBYW : BYW B N s) (jTKS : TKS B N s) (p0 : iI s 2 ≤ iI s 1) (p1 : iI s 4 ≤ iI s 2) (p2 : 6 - iI s 19 ≤ ((r : Nat) : Int)) (p3 : iI s 16 ≤ iI s 4) : CT l s0 D A dT 73 (rkR (32 + 3 * (r) + 1)) [.ref (A 19)] s (fun o t => Bd t ∧ Fm [2, 4, 6, 5, 7, 8, 19, 16] [18] s t ∧ BYW B N t ∧ TKS B N t ∧ ∃ e, o = .inl (some (.int (Int32.ofInt e))) ∧ rng e ∧ ((e = 0 ∨ (e = 1 ∧ iI t 19 = iI s 19 ∧ iI s 4 ≤ iI t 4 ∧ iI t 4 ≤ N ∧ iI t 16 + iI s 4 ≤ iI s 16 + iI t 4)) ∧ iI t 2 ≤ iI t 1 ∧ iI t 4 ≤ iI t 2 ∧ RDc B N 6 (iI s 4) (iI s 19) (DL s) t e)) := by
  refine ct_ofX G (by decide) (Nat.le_of_ble_eq_true rfl) (fun k X E ET hRt hXt q => ?_)
  show WS k 0 [(0, .ref (A 19))] [] _ 0 0
  have F : Fm [2, 4, 6, 5, 7, 8, 19, 16] [18] s s := fm_rf _ _ s
  have hN := jBYW.2.1
  have hW := jBYW.2.2
  have hdg := tkw_dg jTKS
  have hwd := tkw_wd jTKS
  have b1 := bi_2 I
  have b2 := bi_1 I
  have b3 := bi_4 I
  have b4 := bi_5 I
  have b5 := bi_6 I
  have b6 := bi_19 I
  have b7 := bi_16 I
  have b8 := bi_7 I
  have L11 : ∀ (n : Nat) (t : PS) (c : Int), Bd t → Fm [2, 4, 6, 5, 7, 8, 19, 16] [18] s t → BYW B N t → TKS B N t → (RSc B N 7 6 (iI s 4) (iI s 19) (DL s) t) → (0 ≤ c ∧ c ≤ 200 ∧ iI t 19 = iI s 19 ∧ iI s 4 ≤ iI t 4 ∧ iI t 4 ≤ N ∧ iI t 16 + iI s 4 ≤ iI s 16 + iI t 4 ∧ c + iI s 4 ≤ iI t 4 ∧ iI t 2 ≤ iI t 1 ∧ iI t 4 ≤ iI t 2) → (200 - c : Int).toNat < n → (∀ (t' : PS) (c' : Int), Bd t' → Fm [2, 4, 6, 5, 7, 8, 19, 16] [18] s t' → BYW B N t' → TKS B N t' → (RSc B N 7 6 (iI s 4) (iI s 19) (DL s) t') → (0 ≤ c' ∧ c' ≤ 200 ∧ iI t' 19 = iI s 19 ∧ iI s 4 ≤ iI t' 4 ∧ iI t' 4 ≤ N ∧ iI t' 16 + iI s 4 ≤ iI s 16 + iI t' 4 ∧ c' + iI s 4 ≤ iI t' 4 ∧ iI t' 2 ≤ iI t' 1 ∧ iI t' 4 ≤ iI t' 2 ∧ whV B N (iI t' 4) ≠ 1111) → WS k 58 [(0, .ref (A 19)), (1, .int (Int32.ofInt c'))] [] (Wd A dT t') 0 0) → WS k 11 [(0, .ref (A 19)), (1, .int (Int32.ofInt c))] [] (Wd A dT t) 0 0 := by
    intro n
    induction n with
    | zero =>
      intro t c I F jjBYW jjTKS hq hi hm kx
      exact absurd hm (Nat.not_lt_zero _)
    | succ n ih =>
      intro t c I F jjBYW jjTKS hq hi hm kx
      have b1001 := bi_2 I
      have b1002 := bi_1 I
      have b1003 := bi_4 I
      have b1004 := bi_5 I
      have b1005 := bi_6 I
      have b1006 := bi_19 I
      have b1007 := bi_16 I
      have b1008 := bi_7 I
      have hN := jjBYW.2.1
      have hW := jjBYW.2.2
      have hwt := tkw_wd jjTKS
      have hlt := tkw_end jjTKS
      refine z_load_n X (x := c) rfl (List.Mem.tail _ (List.Mem.head _)) (z_sipush X rfl (z_icmp_ge X (t := 58) rfl rfl ⟨by first | exact oq_fa4e5087 hi.1 | omega, by first | exact oq_52af2b96 hi.2.1 | omega⟩ (by decide) (fun g1009 => ?_) (fun g1009 => ?_)))
      ·
        refine WS_pq [0, 1] (lv' := [(0, .ref (A 19)), (1, .int (Int32.ofInt c))]) rfl ?_
        exact kx _ c I F jjBYW jjTKS (rx_mv hq rfl (by first | exact rfl | omega)) (by first | exact ⟨hi.1, hi.2.1, hi.2.2.1, hi.2.2.2.1, hi.2.2.2.2.1, hi.2.2.2.2.2.1, hi.2.2.2.2.2.2.1, hi.2.2.2.2.2.2.2.1, hi.2.2.2.2.2.2.2.2, by first | exact oq_2f90b774 g1009 hwt.2 hwt.1 b1004.1 b1001.2 hi.2.2.2.2.2.2.1 b3.1 | omega⟩ | omega)
      ·
        refine z_aload_n X (x := A 19) rfl (List.Mem.head _) (s_getR X 19 rfl (c518_ok rfl) rfl rfl ?_)
        obtain ⟨tx109, q109, hR109, hS109⟩ := GT (109, [97, 110, 100]) (by decide)
        refine w_ldcK X (show vk_R (kOwn k) 109 tx109 q109 (kS0 k) by rw [E.2.1, X.2.1.2.1]; exact hR109) (show decode (kCc k) 22 = .ok (.ldc 109, 2) by rw [X.2.1.1]; decide +kernel) (z_callV X 1 (rm := rmN 131) (As := [.ref q109]) (st := []) rfl rfl (by decide) rfl (by rw [E.1, E.2.1, E.2.2.1]; exact c10_says3 G SF hS109 (by decide) I jjBYW jjTKS (by first | exact hi.2.2.2.2.2.2.2.2 | omega)) ⟨by rw [E.2.2.2]; exact (show 11 + 1 ≤ (12 + (32 + 3 * (r) + 1)) from oq_960124c6 r), by rw [E.2.2.2]; exact (show 8 + (3 + 11) + 206 ≤ (500 + 45 * (32 + 3 * (r) + 1)) from oq_7c76c90d r), by rw [E.2.2.2]; exact Nat.le_refl 0, by rw [E.2.2.2]; exact Nat.le_refl 0⟩ (Nat.le_of_ble_eq_true rfl) (fun vv s1010 hq => ?_) (fun ee s1010 hq => ?_))
        rotate_left
        · obtain ⟨Is1010, Fs1010, JBYW_s1010, JTKS_s1010, e1011, hv, hrs1010, hps1010⟩ := hq; cases hv
        obtain ⟨Is1010, Fs1010, JBYW_s1010, JTKS_s1010, e1011, hv, hrs1010, hps1010⟩ := hq
        cases hv
        have Gs1010 := fm_tq F Fs1010 rfl rfl
        have JBYW_s1010 : BYW B N s1010 := BYW_fm Fs1010 (by decide) jjBYW
        have JTKS_s1010 : TKS B N s1010 := TKS_fm Fs1010 (by decide) jjTKS
        have ws1010_2 : iI s1010 2 = iI t 2 := fm_iq Fs1010 rfl
        have ws1010_1 : iI s1010 1 = iI t 1 := fm_iq Fs1010 rfl
        have ws1010_4 : iI s1010 4 = iI t 4 := fm_iq Fs1010 rfl
        have ws1010_5 : iI s1010 5 = iI t 5 := fm_iq Fs1010 rfl
        have ws1010_6 : iI s1010 6 = iI t 6 := fm_iq Fs1010 rfl
        have ws1010_19 : iI s1010 19 = iI t 19 := fm_iq Fs1010 rfl
        have ws1010_16 : iI s1010 16 = iI t 16 := fm_iq Fs1010 rfl
        have ws1010_7 : iI s1010 7 = iI t 7 := fm_iq Fs1010 rfl
        have dls1010 : DL s1010 = DL t := (DL_fm Fs1010 (by decide) (by decide)).trans rfl
        have hws1010 : (e1011 = 1 ∧ whV B N (iI t 4) = 1111) ∨ (e1011 = 0 ∧ whV B N (iI t 4) ≠ 1111) := by have h := hps1010; rw [show iI t 4 = iI t 4 by first | exact rfl | (clear hps1010; omega) | omega, show whL [97, 110, 100] 0 = 1111 by decide] at h; exact h
        have hxs1010 : whV B N (iI s1010 4) = whV B N (iI t 4) := by rw [show iI s1010 4 = iI t 4 by first | exact ws1010_4 | (clear hps1010; omega) | omega]
        show WS k 27 [(0, .ref (A 19)), (1, .int (Int32.ofInt c))] [.int (Int32.ofInt e1011)] (Wd A dT s1010) 0 0
        refine z_if_eq X (t := 58) rfl rfl hrs1010 (fun g1012 => ?_) (fun g1012 => ?_)
        ·
          refine WS_pq [0, 1] (lv' := [(0, .ref (A 19)), (1, .int (Int32.ofInt c))]) rfl ?_
          exact kx _ c Is1010 Gs1010 JBYW_s1010 JTKS_s1010 (rx_mv hq dls1010 (by first | exact ws1010_4 | (clear hps1010; omega) | omega)) (by first | exact ⟨hi.1, hi.2.1, oq_1aa5be9e ws1010_19 hi.2.2.1, oq_9272904e ws1010_4 hi.2.2.2.1, oq_f0f6d445 hi.2.2.2.2.1 ws1010_4, oq_04f87ec0 ws1010_4 ws1010_16 hi.2.2.2.2.2.1, oq_6f744107 ws1010_4 hi.2.2.2.2.2.2.1, oq_e7b9ecab ws1010_1 ws1010_2 hi.2.2.2.2.2.2.2.1, oq_e7b9ecab ws1010_2 ws1010_4 hi.2.2.2.2.2.2.2.2, oq_70de8461 g1012 hxs1010 hws1010⟩ | omega)
        ·
          refine z_aload_n X (x := A 19) rfl (List.Mem.head _) (s_getR X 19 rfl (c518_ok rfl) rfl rfl ?_)
          have hcd : whV B N (iI t 4) = 1111 := by first | exact oq_93539c94 g1012 hws1010 | (clear g1012 hps1010; omega) | (clear hps1010; omega) | omega
          have hk3 : iI t 5 = -3 := Classical.byContradiction (fun q => by have := hwt.2 q; omega)
          have ha1 := (hwt.1 hk3).1
          have hg1 := (hwt.1 hk3).2
          refine z_callV X 1 (rm := rmN 129) (As := []) (st := []) rfl rfl (by decide) rfl (by rw [E.1, E.2.1, E.2.2.1]; exact c10_step3 G Is1010 JBYW_s1010 (by first | exact oq_e7b9ecab ws1010_1 ws1010_2 hi.2.2.2.2.2.2.2.1 | omega)) ⟨by rw [E.2.2.2]; exact (show 7 + 1 ≤ (12 + (32 + 3 * (r) + 1)) from oq_7e7bafa7 r), by rw [E.2.2.2]; exact (show 8 + (1 + 11) + 121 ≤ (500 + 45 * (32 + 3 * (r) + 1)) from oq_f1058fdb r), by rw [E.2.2.2]; exact Nat.le_refl 0, by rw [E.2.2.2]; exact Nat.le_refl 0⟩ (Nat.le_of_ble_eq_true rfl) (fun vv s1013 hq => ?_) (fun ee s1013 hq => ?_)
          rotate_left
          · obtain ⟨Is1013, Fs1013, JBYW_s1013, JTKS_s1013, hv, hps1013⟩ := hq; cases hv
          obtain ⟨Is1013, Fs1013, JBYW_s1013, JTKS_s1013, hv, hps1013⟩ := hq
          cases hv
          have Gs1013 := fm_tq Gs1010 Fs1013 rfl rfl
          have JBYW_s1013 : BYW B N s1013 := BYW_fm Fs1013 (by decide) JBYW_s1010
          have b1015 := bi_2 Is1013
          have ws1013_1 : iI s1013 1 = iI s1010 1 := fm_iq Fs1013 rfl
          have b1016 := bi_4 Is1013
          have b1017 := bi_5 Is1013
          have b1018 := bi_6 Is1013
          have ws1013_19 : iI s1013 19 = iI s1010 19 := fm_iq Fs1013 rfl
          have ws1013_16 : iI s1013 16 = iI s1010 16 := fm_iq Fs1013 rfl
          have ws1013_7 : iI s1013 7 = iI s1010 7 := fm_iq Fs1013 rfl
          have dls1013 : DL s1013 = DL t := (DL_fm Fs1013 (by decide) (by decide)).trans dls1010
          show WS k 37 [(0, .ref (A 19)), (1, .int (Int32.ofInt c))] [] (Wd A dT s1013) 0 0
          have hs9 : iI s1013 4 = sk B N (wdE B N (iI t 4)) := by rw [hps1013.2.2.1, show iI s1010 2 = wdE B N (iI t 4) by first | exact oq_27118732 ha1 ws1010_2 | (clear g1012 hps1010; omega) | (clear hps1010; omega) | omega]
          refine z_aload_n X (x := A 19) rfl (List.Mem.head _) (z_callV X 19 (rm := (rkR (32 + 3 * (r)))) (As := []) (st := []) rfl rfl (by decide) rfl (by rw [E.1, E.2.1, E.2.2.1]; exact hT Is1013 JBYW_s1013 JTKS_s1013 (by first | exact hps1013.1 | omega) (by first | exact hps1013.2.1 | omega) (by first | exact oq_f4f80c46 p2 ws1013_19 hi.2.2.1 ws1010_19 | omega) (by first | exact oq_957188f6 ws1013_16 hps1013.2.2.2 ws1010_16 ws1010_2 hi.2.2.2.2.2.2.2.2 hi.2.2.2.2.2.1 p3 | omega)) ⟨by rw [E.2.2.2]; exact (show (12 + (32 + 3 * (r))) + 1 ≤ (12 + (32 + 3 * (r) + 1)) from oq_2290fc41 r), by rw [E.2.2.2]; exact (show 8 + (2 + 11) + (500 + 45 * (32 + 3 * (r))) ≤ (500 + 45 * (32 + 3 * (r) + 1)) from oq_ab38c8cf r), by rw [E.2.2.2]; exact Nat.le_refl 0, by rw [E.2.2.2]; exact Nat.le_refl 0⟩ (Nat.le_of_ble_eq_true rfl) (fun vv s1019 hq => ?_) (fun ee s1019 hq => ?_))
          rotate_left
          · obtain ⟨Is1019, Fs1019, JBYW_s1019, JTKS_s1019, e1020, hv, hrs1019, hps1019⟩ := hq; cases hv
          obtain ⟨Is1019, Fs1019, JBYW_s1019, JTKS_s1019, e1020, hv, hrs1019, hps1019⟩ := hq
          have hps1019p := And.intro hps1019.2.1 (And.intro hps1019.2.2.1 (hps1019.2.2.2))
          cases hv
          have Gs1019 := fm_tq Gs1013 Fs1019 rfl rfl
          have JBYW_s1019 : BYW B N s1019 := BYW_fm Fs1019 (by decide) JBYW_s1013
          have b1021 := bi_2 Is1019
          have ws1019_1 : iI s1019 1 = iI s1013 1 := fm_iq Fs1019 rfl
          have b1022 := bi_4 Is1019
          have b1023 := bi_5 Is1019
          have b1024 := bi_6 Is1019
          have b1025 := bi_19 Is1019
          have b1026 := bi_16 Is1019
          have b1027 := bi_7 Is1019
          show WS k 41 [(0, .ref (A 19)), (1, .int (Int32.ofInt c))] [.int (Int32.ofInt e1020)] (Wd A dT s1019) 0 0
          refine z_if_ne X (t := 46) rfl rfl hrs1019 (fun g1028 => ?_) (fun g1028 => ?_)
          ·
            refine z_aload_n X (x := A 19) rfl (List.Mem.head _) (z_bipush X rfl (z_callV X 19 (rm := rmN 82) (As := [.int (Int32.ofInt (-18))]) (st := []) rfl rfl (by decide) rfl (by rw [E.1, E.2.1, E.2.2.1]; exact c7_put3 G Is1019 (by first | exact ⟨by decide, by decide⟩ | omega) (by first | exact oq_b15b1233 g1028 b1022.2 hps1019.1 ws1013_16 hps1013.2.2.2 hg1 ha1 ws1010_16 ws1010_2 hi.2.2.2.2.2.1 p3 | (clear g1028 hps1019 g1012 hps1010; omega) | (clear hps1019 g1012 hps1010; omega) | omega)) ⟨by rw [E.2.2.2]; exact (show 6 + 1 ≤ (12 + (32 + 3 * (r) + 1)) from oq_b5194544 r), by rw [E.2.2.2]; exact (show 8 + (2 + 11) + 100 ≤ (500 + 45 * (32 + 3 * (r) + 1)) from oq_38be39c2 r), by rw [E.2.2.2]; exact Nat.le_refl 0, by rw [E.2.2.2]; exact Nat.le_refl 0⟩ (Nat.le_of_ble_eq_true rfl) (fun vv s1029 hq => ?_) (fun ee s1029 hq => ?_)))
            rotate_left
            · obtain ⟨Is1029, Fs1029, hv, hps1029⟩ := hq; cases hv
            obtain ⟨Is1029, Fs1029, hv, hps1029⟩ := hq
            cases hv
            have Gs1029 := fm_tq Gs1019 Fs1029 rfl rfl
            have JBYW_s1029 : BYW B N s1029 := BYW_fm Fs1029 (by decide) JBYW_s1019
            have JTKS_s1029 : TKS B N s1029 := TKS_fm Fs1029 (by decide) JTKS_s1019
            have ws1029_2 : iI s1029 2 = iI s1019 2 := fm_iq Fs1029 rfl
            have ws1029_1 : iI s1029 1 = iI s1019 1 := fm_iq Fs1029 rfl
            have ws1029_4 : iI s1029 4 = iI s1019 4 := fm_iq Fs1029 rfl
            have ws1029_5 : iI s1029 5 = iI s1019 5 := fm_iq Fs1029 rfl
            have ws1029_6 : iI s1029 6 = iI s1019 6 := fm_iq Fs1029 rfl
            have ws1029_19 : iI s1029 19 = iI s1019 19 := fm_iq Fs1029 rfl
            have b1031 := bi_16 Is1029
            have ws1029_7 : iI s1029 7 = iI s1019 7 := fm_iq Fs1029 rfl
            have dls1029 : DL s1029 = DL s1019 ++ [(-18)] := by rw [hps1029.2]
            show WS k 52 [(0, .ref (A 19)), (1, .int (Int32.ofInt c))] [] (Wd A dT s1029) 0 0
            refine z_inc X (x := c) (lv' := [(1, .int (Int32.ofInt (c + 1))), (0, .ref (A 19))]) rfl (by decide) (List.Mem.tail _ (List.Mem.head _)) (fun _ h => h) (z_goto X (t := 11) rfl rfl (WS_pq [1, 0] (lv' := [(0, .ref (A 19)), (1, .int (Int32.ofInt (c + 1)))]) rfl ?_))
            exact ih _ (c + 1) Is1029 Gs1029 JBYW_s1029 JTKS_s1029 (rx_up (q1 := sk B N (wdE B N (iI t 4))) hq (dls1013) (by have h := hps1019.2.2.2; rw [show iI s1013 4 = sk B N (wdE B N (iI t 4)) by first | exact hs9 | (clear g1028 hps1019 g1012 hps1010; omega) | (clear hps1019 g1012 hps1010; omega) | omega, show iI s1013 19 = iI s 19 by first | exact oq_878618b1 ws1013_19 ws1010_19 hi.2.2.1 | (clear g1028 hps1019 g1012 hps1010; omega) | (clear hps1019 g1012 hps1010; omega) | omega] at h; exact h) (by first | exact g1028 | (clear g1028 hps1019 g1012 hps1010; omega) | (clear hps1019 g1012 hps1010; omega) | omega) dls1029 (by first | exact ws1029_4 | (clear g1028 hps1019 g1012 hps1010; omega) | (clear hps1019 g1012 hps1010; omega) | omega) (fun a r r1 h z h2 => rb_go hcd h z h2)) (by first | exact ⟨oq_54f49eb5 hi.1, oq_0cb6ab8a g1009, oq_98ac5764 ws1029_19 g1028 hps1019.1 ws1013_19 ws1010_19 hi.2.2.1, oq_614567b2 ws1029_4 g1028 hps1019.1 hps1013.2.2.2 ws1010_2 hi.2.2.2.2.2.2.2.2 hi.2.2.2.1, oq_a2786552 ws1029_4 g1028 hps1019.1, by first | exact oq_f35f2c93 ws1029_4 hps1029.1 g1028 hps1019.1 ws1013_16 hps1013.2.2.2 hg1 ha1 ws1010_16 ws1010_2 hi.2.2.2.2.2.1 | (clear g1028 hps1019 g1012 hps1010; omega) | (clear hps1019 g1012 hps1010; omega) | omega, by first | exact oq_467da83b ws1029_4 g1028 hps1019.1 hps1013.2.2.2 hg1 ha1 ws1010_2 hi.2.2.2.2.2.2.1 | (clear g1028 hps1019 g1012 hps1010; omega) | (clear hps1019 g1012 hps1010; omega) | omega, oq_e7b9ecab ws1029_1 ws1029_2 hps1019.2.1, oq_e7b9ecab ws1029_2 ws1029_4 hps1019.2.2.1⟩ | omega) (by first | exact qk_me hm (by decide) (oq_1ab01402 g1009) | exact oq_1044a270 g1009 hm | omega) kx
          ·
            refine z_const X rfl ?_
            have hRD : RDc B N 6 (iI s 4) (iI s 19) (DL s) s1019 0 := rx_bad hq (by have h := hps1019.2.2.2; rw [show iI s1013 4 = sk B N (wdE B N (iI t 4)) by first | exact hs9 | (clear hps1019 g1012 hps1010; omega) | (clear g1012 hps1010; omega) | omega, show iI s1013 19 = iI s 19 by first | exact oq_878618b1 ws1013_19 ws1010_19 hi.2.2.1 | (clear hps1019 g1012 hps1010; omega) | (clear g1012 hps1010; omega) | omega] at h; exact h) (by first | exact g1028 | (clear hps1019 g1012 hps1010; omega) | (clear g1012 hps1010; omega) | omega) (by first | exact rfl | (clear hps1019 g1012 hps1010; omega) | (clear g1012 hps1010; omega) | omega) (fun a r h z => rb_bad hcd h z)
            exact w_iret X.1 q hRt (nar_ret (by first | exact Or.inl (by decide) | omega)) (ax_d X (show cdA 73 45 = some (.ireturn, 1, 0, 0, 0) from rfl)) (Nat.zero_le _) (Nat.zero_le _) ⟨_, rfl, Is1019, Gs1019, JBYW_s1019, JTKS_s1019, 0, rfl, (by decide), ⟨rd_post hRD rfl (by first | exact oq_f8a2cf0e hi.2.2.2.2.1 hi.2.2.2.1 | omega) (by first | exact b7.1 | omega) (by first | exact b1026.1 | omega) (fun h9 => absurd rfl h9), by first | exact hps1019.2.1 | omega, by first | exact hps1019.2.2.1 | omega, hRD⟩⟩
  refine z_aload_n X (x := A 19) rfl (List.Mem.head _) (z_callV X 19 (rm := (rkR (32 + 3 * (r)))) (As := []) (st := []) rfl rfl (by decide) rfl (by rw [E.1, E.2.1, E.2.2.1]; exact hT I jBYW jTKS (by first | exact p0 | omega) (by first | exact p1 | omega) (by first | exact p2 | omega) (by first | exact p3 | omega)) ⟨by rw [E.2.2.2]; exact (show (12 + (32 + 3 * (r))) + 1 ≤ (12 + (32 + 3 * (r) + 1)) from oq_2290fc41 r), by rw [E.2.2.2]; exact (show 8 + (2 + 11) + (500 + 45 * (32 + 3 * (r))) ≤ (500 + 45 * (32 + 3 * (r) + 1)) from oq_ab38c8cf r), by rw [E.2.2.2]; exact Nat.le_refl 0, by rw [E.2.2.2]; exact Nat.le_refl 0⟩ (Nat.le_of_ble_eq_true rfl) (fun vv s9 hq => ?_) (fun ee s9 hq => ?_))
  rotate_left
  · obtain ⟨Is9, Fs9, JBYW_s9, JTKS_s9, e10, hv, hrs9, hps9⟩ := hq; cases hv
  obtain ⟨Is9, Fs9, JBYW_s9, JTKS_s9, e10, hv, hrs9, hps9⟩ := hq
  have hps9p := And.intro hps9.2.1 (And.intro hps9.2.2.1 (hps9.2.2.2))
  cases hv
  have Gs9 := fm_tq F Fs9 rfl rfl
  have JBYW_s9 : BYW B N s9 := BYW_fm Fs9 (by decide) jBYW
  have b11 := bi_2 Is9
  have ws9_1 : iI s9 1 = iI s 1 := fm_iq Fs9 rfl
  have b12 := bi_4 Is9
  have b13 := bi_5 Is9
  have b14 := bi_6 Is9
  have b15 := bi_19 Is9
  have b16 := bi_16 Is9
  have b17 := bi_7 Is9
  show WS k 4 [(0, .ref (A 19))] [.int (Int32.ofInt e10)] (Wd A dT s9) 0 0
  refine z_if_ne X (t := 9) rfl rfl hrs9 (fun g18 => ?_) (fun g18 => ?_)
  ·
    refine z_const X rfl (z_store_n X (lv' := [(1, .int (Int32.ofInt 0)), (0, .ref (A 19))]) rfl (by decide) (fun _ h => h) (WS_pq [1, 0] (lv' := [(0, .ref (A 19)), (1, .int (Int32.ofInt 0))]) rfl (L11 ((200 - 0 : Int).toNat + 1) s9 0 Is9 Gs9 JBYW_s9 JTKS_s9 (rx_0 hps9.2.2.2 (by first | exact g18 | (clear g18 hps9; omega) | (clear hps9; omega) | omega) (fun r r1 h z h2 => wb_go h z h2)) (by first | exact ⟨by decide, by decide, oq_6259e910 g18 hps9.1, oq_af044290 g18 hps9.1, oq_0f66faba g18 hps9.1, oq_3cd265a3 g18 hps9.1, oq_c32860b4 g18 hps9.1, hps9.2.1, hps9.2.2.1⟩ | omega) (Nat.lt_succ_self _) ?_)))
    intro s19 x20 Is19 Fs19 JBYW_s19 JTKS_s19 Qs19 hs19
    have b21 := bi_2 Is19
    have b22 := bi_1 Is19
    have b23 := bi_4 Is19
    have b24 := bi_5 Is19
    have b25 := bi_6 Is19
    have b26 := bi_19 Is19
    have b27 := bi_16 Is19
    have b28 := bi_7 Is19
    have hNs19 := JBYW_s19.2.1
    have hWs19 := JBYW_s19.2.2
    refine z_const X rfl ?_
    have hRD : RDc B N 6 (iI s 4) (iI s 19) (DL s) s19 1 := rx_end Qs19 (fun a => rb_end (by first | exact hs19.2.2.2.2.2.2.2.2.2 | (clear g18 hps9; omega) | (clear hps9; omega) | omega))
    exact w_iret X.1 q hRt (nar_ret (by first | exact Or.inr (by decide) | omega)) (ax_d X (show cdA 73 59 = some (.ireturn, 1, 0, 0, 0) from rfl)) (Nat.zero_le _) (Nat.zero_le _) ⟨_, rfl, Is19, Fs19, JBYW_s19, JTKS_s19, 1, rfl, (by decide), ⟨rd_post hRD rfl (by first | exact oq_f8a2cf0e hs19.2.2.2.2.1 hs19.2.2.2.1 | omega) (by first | exact b7.1 | omega) (by first | exact b27.1 | omega) (fun h9 => by first | exact hs19.2.2.1 | omega), by first | exact hs19.2.2.2.2.2.2.2.1 | omega, by first | exact hs19.2.2.2.2.2.2.2.2.1 | omega, hRD⟩⟩
  ·
    refine z_const X rfl ?_
    have hRD : RDc B N 6 (iI s 4) (iI s 19) (DL s) s9 0 := rd_bad hps9.2.2.2 (by first | exact g18 | (clear hps9; omega) | omega) (by first | exact rfl | (clear hps9; omega) | omega) (fun r h z => wb_bad h z)
    exact w_iret X.1 q hRt (nar_ret (by first | exact Or.inl (by decide) | omega)) (ax_d X (show cdA 73 8 = some (.ireturn, 1, 0, 0, 0) from rfl)) (Nat.zero_le _) (Nat.zero_le _) ⟨_, rfl, Is9, Gs9, JBYW_s9, JTKS_s9, 0, rfl, (by decide), ⟨rd_post hRD rfl (by first | exact oq_4547f4f6 hN p1 p0 | (clear hps9; omega) | omega) (by first | exact b7.1 | omega) (by first | exact b16.1 | omega) (fun h9 => absurd rfl h9), by first | exact hps9.2.1 | omega, by first | exact hps9.2.2.1 | omega, hRD⟩⟩
set_option maxRecDepth 4000 in
theorem c7_eithS3 (G : GX l s0 D tys a0 dT) {B : Nat → Int} {N : Int} (SF : SF0 s0) (GT : TXw0 s0) {r : Nat} (hB : ∀ {s : PS} , Bd s → BYW B N s → TKS B N s → (iI s 2 ≤ iI s 1) → (iI s 4 ≤ iI s 2) → (6 - iI s 19 ≤ ((r : Nat) : Int)) → (iI s 16 ≤ iI s 4) → CT l s0 D A dT 73 (rkR (32 + 3 * (r) + 1)) [.ref (A 19)] s (fun o t => Bd t ∧ Fm [2, 4, 6, 5, 7, 8, 19, 16] [18] s t ∧ BYW B N t ∧ TKS B N t ∧ ∃ e, o = .inl (some (.int (Int32.ofInt e))) ∧ rng e ∧ ((e = 0 ∨ (e = 1 ∧ iI t 19 = iI s 19 ∧ iI s 4 ≤ iI t 4 ∧ iI t 4 ≤ N ∧ iI t 16 + iI s 4 ≤ iI s 16 + iI t 4)) ∧ iI t 2 ≤ iI t 1 ∧ iI t 4 ≤ iI t 2 ∧ RDc B N 6 (iI s 4) (iI s 19) (DL s) t e))) (I : Bd s) (jBYW : BYW B N s) (jTKS : TKS B N s) (p0 : iI s 2 ≤ iI s 1) (p1 : iI s 4 ≤ iI s 2) (p2 : 6 - iI s 19 ≤ ((r : Nat) : Int)) (p3 : iI s 16 ≤ iI s 4) : CT l s0 D A dT 72 (rkR (32 + 3 * (r) + 2)) [.ref (A 19)] s (fun o t => Bd t ∧ Fm [2, 4, 6, 5, 7, 8, 19, 16] [18] s t ∧ BYW B N t ∧ TKS B N t ∧ ∃ e, o = .inl (some (.int (Int32.ofInt e))) ∧ rng e ∧ ((e = 0 ∨ (e = 1 ∧ iI t 19 = iI s 19 ∧ iI s 4 ≤ iI t 4 ∧ iI t 4 ≤ N ∧ iI t 16 + iI s 4 ≤ iI s 16 + iI t 4)) ∧ iI t 2 ≤ iI t 1 ∧ iI t 4 ≤ iI t 2 ∧ RDc B N 8 (iI s 4) (iI s 19) (DL s) t e)) := by
  refine ct_ofX G (by decide) (Nat.le_of_ble_eq_true rfl) (fun k X E ET hRt hXt q => ?_)
  show WS k 0 [(0, .ref (A 19))] [] _ 0 0
  have F : Fm [2, 4, 6, 5, 7, 8, 19, 16] [18] s s := fm_rf _ _ s
  have hN := jBYW.2.1
  have hW := jBYW.2.2
  have hdg := tkw_dg jTKS
  have hwd := tkw_wd jTKS
  have b1 := bi_2 I
  have b2 := bi_1 I
  have b3 := bi_4 I
  have b4 := bi_5 I
  have b5 := bi_6 I
  have b6 := bi_19 I
  have b7 := bi_16 I
  have b8 := bi_7 I
  have L11 : ∀ (n : Nat) (t : PS) (c : Int), Bd t → Fm [2, 4, 6, 5, 7, 8, 19, 16] [18] s t → BYW B N t → TKS B N t → (RSc B N 9 8 (iI s 4) (iI s 19) (DL s) t) → (0 ≤ c ∧ c ≤ 200 ∧ iI t 19 = iI s 19 ∧ iI s 4 ≤ iI t 4 ∧ iI t 4 ≤ N ∧ iI t 16 + iI s 4 ≤ iI s 16 + iI t 4 ∧ c + iI s 4 ≤ iI t 4 ∧ iI t 2 ≤ iI t 1 ∧ iI t 4 ≤ iI t 2) → (200 - c : Int).toNat < n → (∀ (t' : PS) (c' : Int), Bd t' → Fm [2, 4, 6, 5, 7, 8, 19, 16] [18] s t' → BYW B N t' → TKS B N t' → (RSc B N 9 8 (iI s 4) (iI s 19) (DL s) t') → (0 ≤ c' ∧ c' ≤ 200 ∧ iI t' 19 = iI s 19 ∧ iI s 4 ≤ iI t' 4 ∧ iI t' 4 ≤ N ∧ iI t' 16 + iI s 4 ≤ iI s 16 + iI t' 4 ∧ c' + iI s 4 ≤ iI t' 4 ∧ iI t' 2 ≤ iI t' 1 ∧ iI t' 4 ≤ iI t' 2 ∧ whV B N (iI t' 4) ≠ 423) → WS k 58 [(0, .ref (A 19)), (1, .int (Int32.ofInt c'))] [] (Wd A dT t') 0 0) → WS k 11 [(0, .ref (A 19)), (1, .int (Int32.ofInt c))] [] (Wd A dT t) 0 0 := by
    intro n
    induction n with
    | zero =>
      intro t c I F jjBYW jjTKS hq hi hm kx
      exact absurd hm (Nat.not_lt_zero _)
    | succ n ih =>
      intro t c I F jjBYW jjTKS hq hi hm kx
      have b1001 := bi_2 I
      have b1002 := bi_1 I
      have b1003 := bi_4 I
      have b1004 := bi_5 I
      have b1005 := bi_6 I
      have b1006 := bi_19 I
      have b1007 := bi_16 I
      have b1008 := bi_7 I
      have hN := jjBYW.2.1
      have hW := jjBYW.2.2
      have hwt := tkw_wd jjTKS
      have hlt := tkw_end jjTKS
      refine z_load_n X (x := c) rfl (List.Mem.tail _ (List.Mem.head _)) (z_sipush X rfl (z_icmp_ge X (t := 58) rfl rfl ⟨by first | exact oq_fa4e5087 hi.1 | omega, by first | exact oq_52af2b96 hi.2.1 | omega⟩ (by decide) (fun g1009 => ?_) (fun g1009 => ?_)))
      ·
        refine WS_pq [0, 1] (lv' := [(0, .ref (A 19)), (1, .int (Int32.ofInt c))]) rfl ?_
        exact kx _ c I F jjBYW jjTKS (rx_mv hq rfl (by first | exact rfl | omega)) (by first | exact ⟨hi.1, hi.2.1, hi.2.2.1, hi.2.2.2.1, hi.2.2.2.2.1, hi.2.2.2.2.2.1, hi.2.2.2.2.2.2.1, hi.2.2.2.2.2.2.2.1, hi.2.2.2.2.2.2.2.2, by first | exact oq_61a10799 g1009 hwt.2 hwt.1 b1004.1 b1001.2 hi.2.2.2.2.2.2.1 b3.1 | omega⟩ | omega)
      ·
        refine z_aload_n X (x := A 19) rfl (List.Mem.head _) (s_getR X 19 rfl (c518_ok rfl) rfl rfl ?_)
        obtain ⟨tx101, q101, hR101, hS101⟩ := GT (101, [111, 114]) (by decide)
        refine w_ldcK X (show vk_R (kOwn k) 101 tx101 q101 (kS0 k) by rw [E.2.1, X.2.1.2.1]; exact hR101) (show decode (kCc k) 22 = .ok (.ldc 101, 2) by rw [X.2.1.1]; decide +kernel) (z_callV X 1 (rm := rmN 131) (As := [.ref q101]) (st := []) rfl rfl (by decide) rfl (by rw [E.1, E.2.1, E.2.2.1]; exact c10_says3 G SF hS101 (by decide) I jjBYW jjTKS (by first | exact hi.2.2.2.2.2.2.2.2 | omega)) ⟨by rw [E.2.2.2]; exact (show 11 + 1 ≤ (12 + (32 + 3 * (r) + 2)) from oq_3b8c0a4a r), by rw [E.2.2.2]; exact (show 8 + (3 + 11) + 206 ≤ (500 + 45 * (32 + 3 * (r) + 2)) from oq_c9883230 r), by rw [E.2.2.2]; exact Nat.le_refl 0, by rw [E.2.2.2]; exact Nat.le_refl 0⟩ (Nat.le_of_ble_eq_true rfl) (fun vv s1010 hq => ?_) (fun ee s1010 hq => ?_))
        rotate_left
        · obtain ⟨Is1010, Fs1010, JBYW_s1010, JTKS_s1010, e1011, hv, hrs1010, hps1010⟩ := hq; cases hv
        obtain ⟨Is1010, Fs1010, JBYW_s1010, JTKS_s1010, e1011, hv, hrs1010, hps1010⟩ := hq
        cases hv
        have Gs1010 := fm_tq F Fs1010 rfl rfl
        have JBYW_s1010 : BYW B N s1010 := BYW_fm Fs1010 (by decide) jjBYW
        have JTKS_s1010 : TKS B N s1010 := TKS_fm Fs1010 (by decide) jjTKS
        have ws1010_2 : iI s1010 2 = iI t 2 := fm_iq Fs1010 rfl
        have ws1010_1 : iI s1010 1 = iI t 1 := fm_iq Fs1010 rfl
        have ws1010_4 : iI s1010 4 = iI t 4 := fm_iq Fs1010 rfl
        have ws1010_5 : iI s1010 5 = iI t 5 := fm_iq Fs1010 rfl
        have ws1010_6 : iI s1010 6 = iI t 6 := fm_iq Fs1010 rfl
        have ws1010_19 : iI s1010 19 = iI t 19 := fm_iq Fs1010 rfl
        have ws1010_16 : iI s1010 16 = iI t 16 := fm_iq Fs1010 rfl
        have ws1010_7 : iI s1010 7 = iI t 7 := fm_iq Fs1010 rfl
        have dls1010 : DL s1010 = DL t := (DL_fm Fs1010 (by decide) (by decide)).trans rfl
        have hws1010 : (e1011 = 1 ∧ whV B N (iI t 4) = 423) ∨ (e1011 = 0 ∧ whV B N (iI t 4) ≠ 423) := by have h := hps1010; rw [show iI t 4 = iI t 4 by first | exact rfl | (clear hps1010; omega) | omega, show whL [111, 114] 0 = 423 by decide] at h; exact h
        have hxs1010 : whV B N (iI s1010 4) = whV B N (iI t 4) := by rw [show iI s1010 4 = iI t 4 by first | exact ws1010_4 | (clear hps1010; omega) | omega]
        show WS k 27 [(0, .ref (A 19)), (1, .int (Int32.ofInt c))] [.int (Int32.ofInt e1011)] (Wd A dT s1010) 0 0
        refine z_if_eq X (t := 58) rfl rfl hrs1010 (fun g1012 => ?_) (fun g1012 => ?_)
        ·
          refine WS_pq [0, 1] (lv' := [(0, .ref (A 19)), (1, .int (Int32.ofInt c))]) rfl ?_
          exact kx _ c Is1010 Gs1010 JBYW_s1010 JTKS_s1010 (rx_mv hq dls1010 (by first | exact ws1010_4 | (clear hps1010; omega) | omega)) (by first | exact ⟨hi.1, hi.2.1, oq_1aa5be9e ws1010_19 hi.2.2.1, oq_9272904e ws1010_4 hi.2.2.2.1, oq_f0f6d445 hi.2.2.2.2.1 ws1010_4, oq_04f87ec0 ws1010_4 ws1010_16 hi.2.2.2.2.2.1, oq_6f744107 ws1010_4 hi.2.2.2.2.2.2.1, oq_e7b9ecab ws1010_1 ws1010_2 hi.2.2.2.2.2.2.2.1, oq_e7b9ecab ws1010_2 ws1010_4 hi.2.2.2.2.2.2.2.2, oq_ebe345ee g1012 hxs1010 hws1010⟩ | omega)
        ·
          refine z_aload_n X (x := A 19) rfl (List.Mem.head _) (s_getR X 19 rfl (c518_ok rfl) rfl rfl ?_)
          have hcd : whV B N (iI t 4) = 423 := by first | exact oq_5cf0ac3a g1012 hws1010 | (clear g1012 hps1010; omega) | (clear hps1010; omega) | omega
          have hk3 : iI t 5 = -3 := Classical.byContradiction (fun q => by have := hwt.2 q; omega)
          have ha1 := (hwt.1 hk3).1
          have hg1 := (hwt.1 hk3).2
          refine z_callV X 1 (rm := rmN 129) (As := []) (st := []) rfl rfl (by decide) rfl (by rw [E.1, E.2.1, E.2.2.1]; exact c10_step3 G Is1010 JBYW_s1010 (by first | exact oq_e7b9ecab ws1010_1 ws1010_2 hi.2.2.2.2.2.2.2.1 | omega)) ⟨by rw [E.2.2.2]; exact (show 7 + 1 ≤ (12 + (32 + 3 * (r) + 2)) from oq_9d2e9ef6 r), by rw [E.2.2.2]; exact (show 8 + (1 + 11) + 121 ≤ (500 + 45 * (32 + 3 * (r) + 2)) from oq_41985971 r), by rw [E.2.2.2]; exact Nat.le_refl 0, by rw [E.2.2.2]; exact Nat.le_refl 0⟩ (Nat.le_of_ble_eq_true rfl) (fun vv s1013 hq => ?_) (fun ee s1013 hq => ?_)
          rotate_left
          · obtain ⟨Is1013, Fs1013, JBYW_s1013, JTKS_s1013, hv, hps1013⟩ := hq; cases hv
          obtain ⟨Is1013, Fs1013, JBYW_s1013, JTKS_s1013, hv, hps1013⟩ := hq
          cases hv
          have Gs1013 := fm_tq Gs1010 Fs1013 rfl rfl
          have JBYW_s1013 : BYW B N s1013 := BYW_fm Fs1013 (by decide) JBYW_s1010
          have b1015 := bi_2 Is1013
          have ws1013_1 : iI s1013 1 = iI s1010 1 := fm_iq Fs1013 rfl
          have b1016 := bi_4 Is1013
          have b1017 := bi_5 Is1013
          have b1018 := bi_6 Is1013
          have ws1013_19 : iI s1013 19 = iI s1010 19 := fm_iq Fs1013 rfl
          have ws1013_16 : iI s1013 16 = iI s1010 16 := fm_iq Fs1013 rfl
          have ws1013_7 : iI s1013 7 = iI s1010 7 := fm_iq Fs1013 rfl
          have dls1013 : DL s1013 = DL t := (DL_fm Fs1013 (by decide) (by decide)).trans dls1010
          show WS k 37 [(0, .ref (A 19)), (1, .int (Int32.ofInt c))] [] (Wd A dT s1013) 0 0
          have hs9 : iI s1013 4 = sk B N (wdE B N (iI t 4)) := by rw [hps1013.2.2.1, show iI s1010 2 = wdE B N (iI t 4) by first | exact oq_27118732 ha1 ws1010_2 | (clear g1012 hps1010; omega) | (clear hps1010; omega) | omega]
          refine z_aload_n X (x := A 19) rfl (List.Mem.head _) (z_callV X 19 (rm := (rkR (32 + 3 * (r) + 1))) (As := []) (st := []) rfl rfl (by decide) rfl (by rw [E.1, E.2.1, E.2.2.1]; exact hB Is1013 JBYW_s1013 JTKS_s1013 (by first | exact hps1013.1 | omega) (by first | exact hps1013.2.1 | omega) (by first | exact oq_f4f80c46 p2 ws1013_19 hi.2.2.1 ws1010_19 | omega) (by first | exact oq_957188f6 ws1013_16 hps1013.2.2.2 ws1010_16 ws1010_2 hi.2.2.2.2.2.2.2.2 hi.2.2.2.2.2.1 p3 | omega)) ⟨by rw [E.2.2.2]; exact (show (12 + (32 + 3 * (r) + 1)) + 1 ≤ (12 + (32 + 3 * (r) + 2)) from oq_23399e95 r), by rw [E.2.2.2]; exact (show 8 + (2 + 11) + (500 + 45 * (32 + 3 * (r) + 1)) ≤ (500 + 45 * (32 + 3 * (r) + 2)) from oq_c23d4411 r), by rw [E.2.2.2]; exact Nat.le_refl 0, by rw [E.2.2.2]; exact Nat.le_refl 0⟩ (Nat.le_of_ble_eq_true rfl) (fun vv s1019 hq => ?_) (fun ee s1019 hq => ?_))
          rotate_left
          · obtain ⟨Is1019, Fs1019, JBYW_s1019, JTKS_s1019, e1020, hv, hrs1019, hps1019⟩ := hq; cases hv
          obtain ⟨Is1019, Fs1019, JBYW_s1019, JTKS_s1019, e1020, hv, hrs1019, hps1019⟩ := hq
          have hps1019p := And.intro hps1019.2.1 (And.intro hps1019.2.2.1 (hps1019.2.2.2))
          cases hv
          have Gs1019 := fm_tq Gs1013 Fs1019 rfl rfl
          have JBYW_s1019 : BYW B N s1019 := BYW_fm Fs1019 (by decide) JBYW_s1013
          have b1021 := bi_2 Is1019
          have ws1019_1 : iI s1019 1 = iI s1013 1 := fm_iq Fs1019 rfl
          have b1022 := bi_4 Is1019
          have b1023 := bi_5 Is1019
          have b1024 := bi_6 Is1019
          have b1025 := bi_19 Is1019
          have b1026 := bi_16 Is1019
          have b1027 := bi_7 Is1019
          show WS k 41 [(0, .ref (A 19)), (1, .int (Int32.ofInt c))] [.int (Int32.ofInt e1020)] (Wd A dT s1019) 0 0
          refine z_if_ne X (t := 46) rfl rfl hrs1019 (fun g1028 => ?_) (fun g1028 => ?_)
          ·
            refine z_aload_n X (x := A 19) rfl (List.Mem.head _) (z_bipush X rfl (z_callV X 19 (rm := rmN 82) (As := [.int (Int32.ofInt (-19))]) (st := []) rfl rfl (by decide) rfl (by rw [E.1, E.2.1, E.2.2.1]; exact c7_put3 G Is1019 (by first | exact ⟨by decide, by decide⟩ | omega) (by first | exact oq_b15b1233 g1028 b1022.2 hps1019.1 ws1013_16 hps1013.2.2.2 hg1 ha1 ws1010_16 ws1010_2 hi.2.2.2.2.2.1 p3 | (clear g1028 hps1019 g1012 hps1010; omega) | (clear hps1019 g1012 hps1010; omega) | omega)) ⟨by rw [E.2.2.2]; exact (show 6 + 1 ≤ (12 + (32 + 3 * (r) + 2)) from oq_bd1a6d33 r), by rw [E.2.2.2]; exact (show 8 + (2 + 11) + 100 ≤ (500 + 45 * (32 + 3 * (r) + 2)) from oq_1addf0d0 r), by rw [E.2.2.2]; exact Nat.le_refl 0, by rw [E.2.2.2]; exact Nat.le_refl 0⟩ (Nat.le_of_ble_eq_true rfl) (fun vv s1029 hq => ?_) (fun ee s1029 hq => ?_)))
            rotate_left
            · obtain ⟨Is1029, Fs1029, hv, hps1029⟩ := hq; cases hv
            obtain ⟨Is1029, Fs1029, hv, hps1029⟩ := hq
            cases hv
            have Gs1029 := fm_tq Gs1019 Fs1029 rfl rfl
            have JBYW_s1029 : BYW B N s1029 := BYW_fm Fs1029 (by decide) JBYW_s1019
            have JTKS_s1029 : TKS B N s1029 := TKS_fm Fs1029 (by decide) JTKS_s1019
            have ws1029_2 : iI s1029 2 = iI s1019 2 := fm_iq Fs1029 rfl
            have ws1029_1 : iI s1029 1 = iI s1019 1 := fm_iq Fs1029 rfl
            have ws1029_4 : iI s1029 4 = iI s1019 4 := fm_iq Fs1029 rfl
            have ws1029_5 : iI s1029 5 = iI s1019 5 := fm_iq Fs1029 rfl
            have ws1029_6 : iI s1029 6 = iI s1019 6 := fm_iq Fs1029 rfl
            have ws1029_19 : iI s1029 19 = iI s1019 19 := fm_iq Fs1029 rfl
            have b1031 := bi_16 Is1029
            have ws1029_7 : iI s1029 7 = iI s1019 7 := fm_iq Fs1029 rfl
            have dls1029 : DL s1029 = DL s1019 ++ [(-19)] := by rw [hps1029.2]
            show WS k 52 [(0, .ref (A 19)), (1, .int (Int32.ofInt c))] [] (Wd A dT s1029) 0 0
            refine z_inc X (x := c) (lv' := [(1, .int (Int32.ofInt (c + 1))), (0, .ref (A 19))]) rfl (by decide) (List.Mem.tail _ (List.Mem.head _)) (fun _ h => h) (z_goto X (t := 11) rfl rfl (WS_pq [1, 0] (lv' := [(0, .ref (A 19)), (1, .int (Int32.ofInt (c + 1)))]) rfl ?_))
            exact ih _ (c + 1) Is1029 Gs1029 JBYW_s1029 JTKS_s1029 (rx_up (q1 := sk B N (wdE B N (iI t 4))) hq (dls1013) (by have h := hps1019.2.2.2; rw [show iI s1013 4 = sk B N (wdE B N (iI t 4)) by first | exact hs9 | (clear g1028 hps1019 g1012 hps1010; omega) | (clear hps1019 g1012 hps1010; omega) | omega, show iI s1013 19 = iI s 19 by first | exact oq_878618b1 ws1013_19 ws1010_19 hi.2.2.1 | (clear g1028 hps1019 g1012 hps1010; omega) | (clear hps1019 g1012 hps1010; omega) | omega] at h; exact h) (by first | exact g1028 | (clear g1028 hps1019 g1012 hps1010; omega) | (clear hps1019 g1012 hps1010; omega) | omega) dls1029 (by first | exact ws1029_4 | (clear g1028 hps1019 g1012 hps1010; omega) | (clear hps1019 g1012 hps1010; omega) | omega) (fun a r r1 h z h2 => re_go hcd h z h2)) (by first | exact ⟨oq_54f49eb5 hi.1, oq_0cb6ab8a g1009, oq_98ac5764 ws1029_19 g1028 hps1019.1 ws1013_19 ws1010_19 hi.2.2.1, oq_614567b2 ws1029_4 g1028 hps1019.1 hps1013.2.2.2 ws1010_2 hi.2.2.2.2.2.2.2.2 hi.2.2.2.1, oq_a2786552 ws1029_4 g1028 hps1019.1, by first | exact oq_f35f2c93 ws1029_4 hps1029.1 g1028 hps1019.1 ws1013_16 hps1013.2.2.2 hg1 ha1 ws1010_16 ws1010_2 hi.2.2.2.2.2.1 | (clear g1028 hps1019 g1012 hps1010; omega) | (clear hps1019 g1012 hps1010; omega) | omega, by first | exact oq_467da83b ws1029_4 g1028 hps1019.1 hps1013.2.2.2 hg1 ha1 ws1010_2 hi.2.2.2.2.2.2.1 | (clear g1028 hps1019 g1012 hps1010; omega) | (clear hps1019 g1012 hps1010; omega) | omega, oq_e7b9ecab ws1029_1 ws1029_2 hps1019.2.1, oq_e7b9ecab ws1029_2 ws1029_4 hps1019.2.2.1⟩ | omega) (by first | exact qk_me hm (by decide) (oq_1ab01402 g1009) | exact oq_1044a270 g1009 hm | omega) kx
          ·
            refine z_const X rfl ?_
            have hRD : RDc B N 8 (iI s 4) (iI s 19) (DL s) s1019 0 := rx_bad hq (by have h := hps1019.2.2.2; rw [show iI s1013 4 = sk B N (wdE B N (iI t 4)) by first | exact hs9 | (clear hps1019 g1012 hps1010; omega) | (clear g1012 hps1010; omega) | omega, show iI s1013 19 = iI s 19 by first | exact oq_878618b1 ws1013_19 ws1010_19 hi.2.2.1 | (clear hps1019 g1012 hps1010; omega) | (clear g1012 hps1010; omega) | omega] at h; exact h) (by first | exact g1028 | (clear hps1019 g1012 hps1010; omega) | (clear g1012 hps1010; omega) | omega) (by first | exact rfl | (clear hps1019 g1012 hps1010; omega) | (clear g1012 hps1010; omega) | omega) (fun a r h z => re_bad hcd h z)
            exact w_iret X.1 q hRt (nar_ret (by first | exact Or.inl (by decide) | omega)) (ax_d X (show cdA 72 45 = some (.ireturn, 1, 0, 0, 0) from rfl)) (Nat.zero_le _) (Nat.zero_le _) ⟨_, rfl, Is1019, Gs1019, JBYW_s1019, JTKS_s1019, 0, rfl, (by decide), ⟨rd_post hRD rfl (by first | exact oq_f8a2cf0e hi.2.2.2.2.1 hi.2.2.2.1 | omega) (by first | exact b7.1 | omega) (by first | exact b1026.1 | omega) (fun h9 => absurd rfl h9), by first | exact hps1019.2.1 | omega, by first | exact hps1019.2.2.1 | omega, hRD⟩⟩
  refine z_aload_n X (x := A 19) rfl (List.Mem.head _) (z_callV X 19 (rm := (rkR (32 + 3 * (r) + 1))) (As := []) (st := []) rfl rfl (by decide) rfl (by rw [E.1, E.2.1, E.2.2.1]; exact hB I jBYW jTKS (by first | exact p0 | omega) (by first | exact p1 | omega) (by first | exact p2 | omega) (by first | exact p3 | omega)) ⟨by rw [E.2.2.2]; exact (show (12 + (32 + 3 * (r) + 1)) + 1 ≤ (12 + (32 + 3 * (r) + 2)) from oq_23399e95 r), by rw [E.2.2.2]; exact (show 8 + (2 + 11) + (500 + 45 * (32 + 3 * (r) + 1)) ≤ (500 + 45 * (32 + 3 * (r) + 2)) from oq_c23d4411 r), by rw [E.2.2.2]; exact Nat.le_refl 0, by rw [E.2.2.2]; exact Nat.le_refl 0⟩ (Nat.le_of_ble_eq_true rfl) (fun vv s9 hq => ?_) (fun ee s9 hq => ?_))
  rotate_left
  · obtain ⟨Is9, Fs9, JBYW_s9, JTKS_s9, e10, hv, hrs9, hps9⟩ := hq; cases hv
  obtain ⟨Is9, Fs9, JBYW_s9, JTKS_s9, e10, hv, hrs9, hps9⟩ := hq
  have hps9p := And.intro hps9.2.1 (And.intro hps9.2.2.1 (hps9.2.2.2))
  cases hv
  have Gs9 := fm_tq F Fs9 rfl rfl
  have JBYW_s9 : BYW B N s9 := BYW_fm Fs9 (by decide) jBYW
  have b11 := bi_2 Is9
  have ws9_1 : iI s9 1 = iI s 1 := fm_iq Fs9 rfl
  have b12 := bi_4 Is9
  have b13 := bi_5 Is9
  have b14 := bi_6 Is9
  have b15 := bi_19 Is9
  have b16 := bi_16 Is9
  have b17 := bi_7 Is9
  show WS k 4 [(0, .ref (A 19))] [.int (Int32.ofInt e10)] (Wd A dT s9) 0 0
  refine z_if_ne X (t := 9) rfl rfl hrs9 (fun g18 => ?_) (fun g18 => ?_)
  ·
    refine z_const X rfl (z_store_n X (lv' := [(1, .int (Int32.ofInt 0)), (0, .ref (A 19))]) rfl (by decide) (fun _ h => h) (WS_pq [1, 0] (lv' := [(0, .ref (A 19)), (1, .int (Int32.ofInt 0))]) rfl (L11 ((200 - 0 : Int).toNat + 1) s9 0 Is9 Gs9 JBYW_s9 JTKS_s9 (rx_0 hps9.2.2.2 (by first | exact g18 | (clear g18 hps9; omega) | (clear hps9; omega) | omega) (fun r r1 h z h2 => we_go h z h2)) (by first | exact ⟨by decide, by decide, oq_6259e910 g18 hps9.1, oq_af044290 g18 hps9.1, oq_0f66faba g18 hps9.1, oq_3cd265a3 g18 hps9.1, oq_c32860b4 g18 hps9.1, hps9.2.1, hps9.2.2.1⟩ | omega) (Nat.lt_succ_self _) ?_)))
    intro s19 x20 Is19 Fs19 JBYW_s19 JTKS_s19 Qs19 hs19
    have b21 := bi_2 Is19
    have b22 := bi_1 Is19
    have b23 := bi_4 Is19
    have b24 := bi_5 Is19
    have b25 := bi_6 Is19
    have b26 := bi_19 Is19
    have b27 := bi_16 Is19
    have b28 := bi_7 Is19
    have hNs19 := JBYW_s19.2.1
    have hWs19 := JBYW_s19.2.2
    refine z_const X rfl ?_
    have hRD : RDc B N 8 (iI s 4) (iI s 19) (DL s) s19 1 := rx_end Qs19 (fun a => re_end (by first | exact hs19.2.2.2.2.2.2.2.2.2 | (clear g18 hps9; omega) | (clear hps9; omega) | omega))
    exact w_iret X.1 q hRt (nar_ret (by first | exact Or.inr (by decide) | omega)) (ax_d X (show cdA 72 59 = some (.ireturn, 1, 0, 0, 0) from rfl)) (Nat.zero_le _) (Nat.zero_le _) ⟨_, rfl, Is19, Fs19, JBYW_s19, JTKS_s19, 1, rfl, (by decide), ⟨rd_post hRD rfl (by first | exact oq_f8a2cf0e hs19.2.2.2.2.1 hs19.2.2.2.1 | omega) (by first | exact b7.1 | omega) (by first | exact b27.1 | omega) (fun h9 => by first | exact hs19.2.2.1 | omega), by first | exact hs19.2.2.2.2.2.2.2.1 | omega, by first | exact hs19.2.2.2.2.2.2.2.2.1 | omega, hRD⟩⟩
  ·
    refine z_const X rfl ?_
    have hRD : RDc B N 8 (iI s 4) (iI s 19) (DL s) s9 0 := rd_bad hps9.2.2.2 (by first | exact g18 | (clear hps9; omega) | omega) (by first | exact rfl | (clear hps9; omega) | omega) (fun r h z => we_bad h z)
    exact w_iret X.1 q hRt (nar_ret (by first | exact Or.inl (by decide) | omega)) (ax_d X (show cdA 72 8 = some (.ireturn, 1, 0, 0, 0) from rfl)) (Nat.zero_le _) (Nat.zero_le _) ⟨_, rfl, Is9, Gs9, JBYW_s9, JTKS_s9, 0, rfl, (by decide), ⟨rd_post hRD rfl (by first | exact oq_4547f4f6 hN p1 p0 | (clear hps9; omega) | omega) (by first | exact b7.1 | omega) (by first | exact b16.1 | omega) (fun h9 => absurd rfl h9), by first | exact hps9.2.1 | omega, by first | exact hps9.2.2.1 | omega, hRD⟩⟩
theorem c7_eithr3 (G : GX l s0 D tys a0 dT) {B : Nat → Int} {N : Int} (SF : SF0 s0) (GT : TXw0 s0) (r : Nat) : (∀ {s : PS} , Bd s → BYW B N s → TKS B N s → (iI s 2 ≤ iI s 1) → (iI s 4 ≤ iI s 2) → (6 - iI s 19 ≤ ((r : Nat) : Int)) → (iI s 16 ≤ iI s 4) → CT l s0 D A dT 74 (rkR (32 + 3 * (r))) [.ref (A 19)] s (fun o t => Bd t ∧ Fm [2, 4, 6, 5, 7, 8, 19, 16] [18] s t ∧ BYW B N t ∧ TKS B N t ∧ ∃ e, o = .inl (some (.int (Int32.ofInt e))) ∧ rng e ∧ ((e = 0 ∨ (e = 1 ∧ iI t 19 = iI s 19 ∧ iI s 4 ≤ iI t 4 ∧ iI t 4 ≤ N ∧ iI t 16 + iI s 4 ≤ iI s 16 + iI t 4)) ∧ iI t 2 ≤ iI t 1 ∧ iI t 4 ≤ iI t 2 ∧ RDc B N 5 (iI s 4) (iI s 19) (DL s) t e))) ∧ (∀ {s : PS} , Bd s → BYW B N s → TKS B N s → (iI s 2 ≤ iI s 1) → (iI s 4 ≤ iI s 2) → (6 - iI s 19 ≤ ((r : Nat) : Int)) → (iI s 16 ≤ iI s 4) → CT l s0 D A dT 73 (rkR (32 + 3 * (r) + 1)) [.ref (A 19)] s (fun o t => Bd t ∧ Fm [2, 4, 6, 5, 7, 8, 19, 16] [18] s t ∧ BYW B N t ∧ TKS B N t ∧ ∃ e, o = .inl (some (.int (Int32.ofInt e))) ∧ rng e ∧ ((e = 0 ∨ (e = 1 ∧ iI t 19 = iI s 19 ∧ iI s 4 ≤ iI t 4 ∧ iI t 4 ≤ N ∧ iI t 16 + iI s 4 ≤ iI s 16 + iI t 4)) ∧ iI t 2 ≤ iI t 1 ∧ iI t 4 ≤ iI t 2 ∧ RDc B N 6 (iI s 4) (iI s 19) (DL s) t e))) ∧ (∀ {s : PS} , Bd s → BYW B N s → TKS B N s → (iI s 2 ≤ iI s 1) → (iI s 4 ≤ iI s 2) → (6 - iI s 19 ≤ ((r : Nat) : Int)) → (iI s 16 ≤ iI s 4) → CT l s0 D A dT 72 (rkR (32 + 3 * (r) + 2)) [.ref (A 19)] s (fun o t => Bd t ∧ Fm [2, 4, 6, 5, 7, 8, 19, 16] [18] s t ∧ BYW B N t ∧ TKS B N t ∧ ∃ e, o = .inl (some (.int (Int32.ofInt e))) ∧ rng e ∧ ((e = 0 ∨ (e = 1 ∧ iI t 19 = iI s 19 ∧ iI s 4 ≤ iI t 4 ∧ iI t 4 ≤ N ∧ iI t 16 + iI s 4 ≤ iI s 16 + iI t 4)) ∧ iI t 2 ≤ iI t 1 ∧ iI t 4 ≤ iI t 2 ∧ RDc B N 8 (iI s 4) (iI s 19) (DL s) t e))) := by
  induction r with
  | zero =>
    have hT : ∀ {s : PS} , Bd s → BYW B N s → TKS B N s → (iI s 2 ≤ iI s 1) → (iI s 4 ≤ iI s 2) → (6 - iI s 19 ≤ ((0 : Nat) : Int)) → (iI s 16 ≤ iI s 4) → CT l s0 D A dT 74 (rkR (32 + 3 * (0))) [.ref (A 19)] s (fun o t => Bd t ∧ Fm [2, 4, 6, 5, 7, 8, 19, 16] [18] s t ∧ BYW B N t ∧ TKS B N t ∧ ∃ e, o = .inl (some (.int (Int32.ofInt e))) ∧ rng e ∧ ((e = 0 ∨ (e = 1 ∧ iI t 19 = iI s 19 ∧ iI s 4 ≤ iI t 4 ∧ iI t 4 ≤ N ∧ iI t 16 + iI s 4 ≤ iI s 16 + iI t 4)) ∧ iI t 2 ≤ iI t 1 ∧ iI t 4 ≤ iI t 2 ∧ RDc B N 5 (iI s 4) (iI s 19) (DL s) t e)) := fun {_} I j1 j2 p0 p1 p2 p3 => c7_test03 G SF GT I j1 j2 p0 p1 p2 p3
    have hB : ∀ {s : PS} , Bd s → BYW B N s → TKS B N s → (iI s 2 ≤ iI s 1) → (iI s 4 ≤ iI s 2) → (6 - iI s 19 ≤ ((0 : Nat) : Int)) → (iI s 16 ≤ iI s 4) → CT l s0 D A dT 73 (rkR (32 + 3 * (0) + 1)) [.ref (A 19)] s (fun o t => Bd t ∧ Fm [2, 4, 6, 5, 7, 8, 19, 16] [18] s t ∧ BYW B N t ∧ TKS B N t ∧ ∃ e, o = .inl (some (.int (Int32.ofInt e))) ∧ rng e ∧ ((e = 0 ∨ (e = 1 ∧ iI t 19 = iI s 19 ∧ iI s 4 ≤ iI t 4 ∧ iI t 4 ≤ N ∧ iI t 16 + iI s 4 ≤ iI s 16 + iI t 4)) ∧ iI t 2 ≤ iI t 1 ∧ iI t 4 ≤ iI t 2 ∧ RDc B N 6 (iI s 4) (iI s 19) (DL s) t e)) := fun {_} I j1 j2 p0 p1 p2 p3 => c7_bothS3 (r := 0) G SF GT hT I j1 j2 p0 p1 p2 p3
    exact ⟨hT, hB, fun {_} I j1 j2 p0 p1 p2 p3 => c7_eithS3 (r := 0) G SF GT hB I j1 j2 p0 p1 p2 p3⟩
  | succ r ih =>
    have hT : ∀ {s : PS} , Bd s → BYW B N s → TKS B N s → (iI s 2 ≤ iI s 1) → (iI s 4 ≤ iI s 2) → (6 - iI s 19 ≤ ((r + 1 : Nat) : Int)) → (iI s 16 ≤ iI s 4) → CT l s0 D A dT 74 (rkR (32 + 3 * (r + 1))) [.ref (A 19)] s (fun o t => Bd t ∧ Fm [2, 4, 6, 5, 7, 8, 19, 16] [18] s t ∧ BYW B N t ∧ TKS B N t ∧ ∃ e, o = .inl (some (.int (Int32.ofInt e))) ∧ rng e ∧ ((e = 0 ∨ (e = 1 ∧ iI t 19 = iI s 19 ∧ iI s 4 ≤ iI t 4 ∧ iI t 4 ≤ N ∧ iI t 16 + iI s 4 ≤ iI s 16 + iI t 4)) ∧ iI t 2 ≤ iI t 1 ∧ iI t 4 ≤ iI t 2 ∧ RDc B N 5 (iI s 4) (iI s 19) (DL s) t e)) := fun {_} I j1 j2 p0 p1 p2 p3 => c7_testS3 (r := r) G SF GT ih.1 ih.2.2 I j1 j2 p0 p1 p2 p3
    have hB : ∀ {s : PS} , Bd s → BYW B N s → TKS B N s → (iI s 2 ≤ iI s 1) → (iI s 4 ≤ iI s 2) → (6 - iI s 19 ≤ ((r + 1 : Nat) : Int)) → (iI s 16 ≤ iI s 4) → CT l s0 D A dT 73 (rkR (32 + 3 * (r + 1) + 1)) [.ref (A 19)] s (fun o t => Bd t ∧ Fm [2, 4, 6, 5, 7, 8, 19, 16] [18] s t ∧ BYW B N t ∧ TKS B N t ∧ ∃ e, o = .inl (some (.int (Int32.ofInt e))) ∧ rng e ∧ ((e = 0 ∨ (e = 1 ∧ iI t 19 = iI s 19 ∧ iI s 4 ≤ iI t 4 ∧ iI t 4 ≤ N ∧ iI t 16 + iI s 4 ≤ iI s 16 + iI t 4)) ∧ iI t 2 ≤ iI t 1 ∧ iI t 4 ≤ iI t 2 ∧ RDc B N 6 (iI s 4) (iI s 19) (DL s) t e)) := fun {_} I j1 j2 p0 p1 p2 p3 => c7_bothS3 (r := r + 1) G SF GT hT I j1 j2 p0 p1 p2 p3
    exact ⟨hT, hB, fun {_} I j1 j2 p0 p1 p2 p3 => c7_eithS3 (r := r + 1) G SF GT hB I j1 j2 p0 p1 p2 p3⟩
end M87h
