theorem oq_03f997cb {a0 a1 : Int} (h0 : a0 < a1) : ((a1 - a0) : Int).toNat = (((a1 - (a0 + 1)) : Int).toNat + 1) := by omega
theorem oq_e452e043 {a0 a1 : Int} {n2 : Nat} (h0 : ((a0 - a1) : Int).toNat ≤ (n2 + 1)) : ((a0 - (a1 + 1)) : Int).toNat ≤ n2 := by omega
theorem oq_c41c5ad9 {a0 a1 : Int} (h0 : (¬ (a0 < a1))) : a1 ≤ a0 := by omega
theorem oq_faa1dbc6 {a0 a1 a2 : Int} (h0 : (a0 ≤ a1 ∨ (a2 < 48 ∨ 57 < a2))) : (¬ ((a1 < a0 ∧ (48 ≤ a2 ∧ a2 ≤ 57)))) := by omega
theorem oq_f821f258 {a0 a1 a2 : Int} (h0 : (¬ ((a0 < a1 ∧ (48 ≤ a2 ∧ a2 ≤ 57))))) : (a1 ≤ a0 ∨ (a2 < 48 ∨ 57 < a2)) := by omega
theorem oq_9165f1af {n0 n1 : Nat} (h0 : n0 < n1) : n0 < (n1 + 1) := by omega
theorem oq_626cdfd6 {n0 : Nat}  : n0 < (n0 + 1) := by omega
theorem oq_dad8d58a {n0 n1 : Nat} (h0 : (¬ (n0 = n1))) (h1 : n0 < (n1 + 1)) : n0 < n1 := by omega
theorem oq_2fe7ae4a {a0 a1 : Int} (h0 : 0 ≤ a0) : (a1 - a0) ≤ (((a1 : Int).toNat : Nat) : Int) := by omega
theorem oq_37cad8da {a0 a1 : Int} (h0 : a0 < a1) : (¬ (a1 ≤ a0)) := by omega
theorem oq_77dafc97 {a0 a1 a3 : Int} {n2 : Nat} (h0 : (a0 - a1) ≤ (((n2 + 1) : Nat) : Int)) (h1 : a1 < a3) : (a0 - a3) ≤ ((n2 : Nat) : Int) := by omega
theorem oq_16ac5537 {a0 : Int} (h0 : a0 ≤ 7) (h1 : 1 ≤ a0) : (¬ ((a0 < 1 ∨ 7 < a0))) := by omega
theorem oq_8b474cce {a0 a1 a2 a3 : Int} (h0 : (4 ≤ a0 ∨ (a1 ≤ a2 ∨ (a3 < 48 ∨ 57 < a3)))) : (¬ ((a0 < 4 ∧ (a2 < a1 ∧ (48 ≤ a3 ∧ a3 ≤ 57))))) := by omega
theorem oq_9f5a5b3a {a0 : Int} (h0 : a0 = 1) : (¬ (a0 = 0)) := by omega
theorem oq_d3de7c49 {a0 : Int} (h0 : a0 = 2) : (¬ (a0 = 0)) := by omega
theorem oq_f92a85f6 {a0 : Int} (h0 : a0 = 2) : (¬ (a0 = 1)) := by omega
theorem oq_c967d1d4 {a0 : Int} (h0 : a0 = 3) : (¬ (a0 = 0)) := by omega
theorem oq_292bbef5 {a0 : Int} (h0 : a0 = 3) : (¬ (a0 = 1)) := by omega
theorem oq_41f851c4 {a0 : Int} (h0 : a0 = 3) : (¬ (a0 = 2)) := by omega
theorem oq_11e52147 {a0 : Int} (h0 : a0 = 4) : (¬ (a0 = 0)) := by omega
theorem oq_b57efda6 {a0 : Int} (h0 : a0 = 4) : (¬ (a0 = 1)) := by omega
theorem oq_ed259143 {a0 : Int} (h0 : a0 = 4) : (¬ (a0 = 2)) := by omega
theorem oq_a4e47477 {a0 : Int} (h0 : a0 = 4) : (¬ (a0 = 3)) := by omega
theorem oq_f8af7347 {a0 : Int} (h0 : a0 = 5) : (¬ (a0 = 0)) := by omega
theorem oq_54e0811b {a0 : Int} (h0 : a0 = 5) : (¬ (a0 = 1)) := by omega
theorem oq_baa0d45f {a0 : Int} (h0 : a0 = 5) : (¬ (a0 = 2)) := by omega
theorem oq_8482f21b {a0 : Int} (h0 : a0 = 5) : (¬ (a0 = 3)) := by omega
theorem oq_50454c62 {a0 : Int} (h0 : a0 = 5) : (¬ (a0 = 4)) := by omega
theorem oq_976ee547 {a0 a1 : Int} (h0 : a0 ≤ a1) : ((a0 - a1) : Int).toNat = 0 := by omega
theorem oq_a9aa2358 {a0 : Int} (h0 : a0 ≤ 57) : (¬ (a0 = 114)) := by omega
theorem oq_c9e80a8a {a0 : Int} (h0 : a0 ≤ 57) : (¬ (a0 = 108)) := by omega
theorem oq_cfa7cb80 {a0 : Int} (h0 : a0 ≤ 57) : (¬ (a0 = 100)) := by omega
theorem oq_fee9ea2f {a0 : Int} (h0 : a0 ≤ 57) : (¬ (a0 = 117)) := by omega
theorem oq_c3407a42 {a0 : Int} (h0 : a0 ≤ 57) : (¬ (a0 = 99)) := by omega
theorem oq_f5e903f5 {a0 : Int} (h0 : a0 ≤ 57) : (¬ (a0 = 115)) := by omega
theorem oq_dc5aee21 {a0 a1 : Int} (h0 : ((a0 - a1) : Int).toNat ≤ 0) : a0 ≤ a1 := by omega
theorem oq_01c429aa {a0 a1 a2 : Int} (h0 : a0 = a1) (h1 : a2 = 0) (h2 : a1 = a2) : a0 = 0 := by omega
theorem oq_b522eb58 {a0 a1 a2 a3 a4 a5 : Int} (h0 : (¬ (a0 = 0))) (h1 : a1 = a0) (h2 : ((a2 ≤ a3 ∧ (a3 ≤ a4 ∧ a5 = a1)) ∨ ((a3 < a2 ∨ a4 < a3) ∧ a5 ≠ 0))) : a5 ≠ 0 := by omega
theorem oq_1b9a61de {a0 a1 a2 a3 a4 : Int} (h0 : a0 ≠ 0) (h1 : ((a1 ≤ a2 ∧ (a2 ≤ a3 ∧ a4 = a0)) ∨ ((a2 < a1 ∨ a3 < a2) ∧ a4 ≠ 0))) : a4 ≠ 0 := by omega
theorem oq_def8b33c {n0 : Nat} (h0 : n0 ≥ 32) : (¬ (n0 < 8)) := by omega
theorem oq_5a9a5cbd {n0 : Nat} (h0 : n0 ≤ 24) : n0 < 32 := by omega
theorem oq_8fee9d6d {n0 n1 : Nat} (h0 : n0 < 8) (h1 : n1 ≤ 24) : (n1 + n0) < 32 := by omega
theorem oq_fb72a7cb {a0 : Int} {n1 : Nat}  : (¬ ((a0 ≤ ((n1 : Nat) : Int) ∧ ((n1 : Nat) : Int) < a0))) := by omega
theorem oq_d2d1928b {a0 a1 : Int} (h0 : a0 ≤ a1) : a0 ≤ (((a1 : Int).toNat : Nat) : Int) := by omega
theorem oq_4d6510ff {a0 : Int} (h0 : 0 ≤ a0) : (((a0 : Int).toNat : Nat) : Int) < (a0 + 1) := by omega
theorem oq_a61e8389 {a1 : Int} {n0 : Nat} (h0 : ((n0 : Nat) : Int) < a1) : ((n0 : Nat) : Int) < (a1 + 1) := by omega
theorem oq_6c76021b {a0 a2 : Int} {n1 : Nat} (h0 : (¬ ((a0 ≤ ((n1 : Nat) : Int) ∧ ((n1 : Nat) : Int) < a2)))) (h1 : (¬ (n1 = (a2 : Int).toNat))) : (¬ ((a0 ≤ ((n1 : Nat) : Int) ∧ ((n1 : Nat) : Int) < (a2 + 1)))) := by omega
theorem oq_81ed70cd {a0 a2 : Int} {n1 : Nat} (h0 : a0 ≤ ((n1 : Nat) : Int)) (h1 : a2 ≤ a0) : a2 ≤ ((n1 : Nat) : Int) := by omega
theorem oq_c8ddb4f2 {a0 a2 : Int} {n1 : Nat} (h0 : a0 ≤ ((n1 : Nat) : Int)) : (a0 - a2) ≤ (((n1 : Nat) : Int) - a2) := by omega
theorem oq_637031e3 {a1 a2 : Int} {n0 : Nat} (h0 : ((n0 : Nat) : Int) < a1) : (((n0 : Nat) : Int) - a2) < (a1 - a2) := by omega
theorem oq_2cc8b6bc {a0 a2 a3 : Int} {n1 : Nat} (h0 : (¬ ((a0 ≤ ((n1 : Nat) : Int) ∧ ((n1 : Nat) : Int) < a2)))) (h1 : (¬ ((a2 ≤ ((n1 : Nat) : Int) ∧ ((n1 : Nat) : Int) < a3)))) : (¬ ((a0 ≤ ((n1 : Nat) : Int) ∧ ((n1 : Nat) : Int) < a3))) := by omega
theorem oq_fcbe0fc7 {a1 : Int} {n0 : Nat} (h0 : ((n0 : Nat) : Int) < a1) (h1 : a1 ≤ 200) : n0 < 200 := by omega
theorem oq_818ebdf9 {a0 : Int}  : ((a0 - 0) : Int).toNat = (a0 : Int).toNat := by omega
theorem oq_1db45c63 {a0 a1 : Int} (h0 : a0 = (a1 + 1)) (h1 : 1 ≤ a1) : 1 ≤ a0 := by omega
theorem oq_d7496512 {a0 : Int} (h0 : a0 ≤ 127) : (¬ (127 < a0)) := by omega
theorem oq_a511ac78 {a0 a1 : Int} (h0 : a0 = 0) (h1 : a1 = a0) : a1 = 0 := by omega
theorem oq_af23a26f {a0 a1 : Int} (h0 : a0 ≠ 0) (h1 : a1 = a0) : a1 ≠ 0 := by omega
theorem oq_e1e0c15b {a0 a1 a2 a3 a4 : Int} (h0 : a0 ≤ 57) (h1 : 48 ≤ a0) (h2 : a1 < a2) (h3 : a3 = a4) (h4 : (a2 ≤ a1 ∨ (a0 < 48 ∨ (57 < a0 ∨ (a3 < 0 ∨ 127 < a3))))) (h5 : 0 ≤ a4) : 127 < a3 := by omega
theorem oq_54ea5288 {a0 a1 a2 : Int} (h0 : a0 ≤ a1) (h1 : a2 < a0) : a2 < a1 := by omega
theorem oq_d7eeb386 {a0 a1 : Int} (h0 : a0 = 12) (h1 : a1 = a0) : a1 = 12 := by omega
theorem oq_0a4926bf {a0 : Int} (h0 : (¬ (a0 = 12))) (h1 : a0 ≤ 12) : a0 ≤ 11 := by omega
theorem oq_de551353 {a0 : Int} (h0 : a0 ≤ 24) : (a0 : Int).toNat ≤ 24 := by omega
theorem oq_3f9a5966 {a0 : Int} (h0 : a0 < 4) (h1 : 0 ≤ a0) : (a0 % 4) = (a0 - 0) := by omega
theorem oq_447d27e7 {a0 : Int} (h0 : 4 ≤ a0) : (¬ (a0 < 4)) := by omega
theorem oq_d9240a93 {a0 : Int} (h0 : a0 < 8) (h1 : 4 ≤ a0) : (a0 % 4) = (a0 - 4) := by omega
theorem oq_3c2cc282 {a0 : Int} (h0 : 8 ≤ a0) : (¬ (a0 < 4)) := by omega
theorem oq_b0302323 {a0 : Int} (h0 : 8 ≤ a0) : (¬ (a0 < 8)) := by omega
theorem oq_4ffa4124 {a0 : Int} (h0 : a0 < 12) (h1 : 8 ≤ a0) : (a0 % 4) = (a0 - 8) := by omega
theorem oq_9329ae3e {a0 : Int} (h0 : 12 ≤ a0) : (¬ (a0 < 4)) := by omega
theorem oq_414c9b46 {a0 : Int} (h0 : 12 ≤ a0) : (¬ (a0 < 8)) := by omega
theorem oq_f9b6fb69 {a0 : Int} (h0 : 12 ≤ a0) : (¬ (a0 < 12)) := by omega
theorem oq_3db6c46e {a0 : Int} (h0 : a0 < 16) (h1 : 12 ≤ a0) : (a0 % 4) = (a0 - 12) := by omega
theorem oq_7be35017 {a0 : Int} (h0 : 16 ≤ a0) : (¬ (a0 < 4)) := by omega
theorem oq_ea87d330 {a0 : Int} (h0 : 16 ≤ a0) : (¬ (a0 < 8)) := by omega
theorem oq_cbe288ec {a0 : Int} (h0 : 16 ≤ a0) : (¬ (a0 < 12)) := by omega
theorem oq_697d9bd9 {a0 : Int} (h0 : 16 ≤ a0) : (¬ (a0 < 16)) := by omega
theorem oq_0a82d303 {a0 : Int} (h0 : a0 < 20) (h1 : 16 ≤ a0) : (a0 % 4) = (a0 - 16) := by omega
theorem oq_d2accaf2 {a0 a1 : Int} (h0 : a0 ≠ 32) (h1 : a0 = a1) : a1 ≠ 32 := by omega
theorem oq_15e1498e {a0 a1 : Int} (h0 : a0 = 32) (h1 : a0 = a1) : a1 = 32 := by omega
theorem oq_ccf2756a {a0 a1 a2 : Int} (h0 : a0 ≠ (-2)) (h1 : ((48 ≤ a1 ∧ (a1 ≤ 57 ∧ a0 = (-2))) ∨ ((a1 < 48 ∨ 57 < a1) ∧ a0 = a1))) (h2 : a1 = a2) : (a2 < 48 ∨ 57 < a2) := by omega
theorem oq_f640f288 {a0 a1 a2 : Int} (h0 : a0 = a1) (h1 : 0 ≤ a0) (h2 : a2 = (-2)) (h3 : ((48 ≤ a0 ∧ (a0 ≤ 57 ∧ a2 = (-2))) ∨ ((a0 < 48 ∨ 57 < a0) ∧ a2 = a0))) : 48 ≤ a1 := by omega
theorem oq_9c219b97 {a0 a1 a2 : Int} (h0 : a0 = a1) (h1 : a2 = (-2)) (h2 : ((48 ≤ a0 ∧ (a0 ≤ 57 ∧ a2 = (-2))) ∨ ((a0 < 48 ∨ 57 < a0) ∧ a2 = a0))) : a1 ≤ 57 := by omega
theorem oq_2fb32834 {a0 a1 a2 a3 a4 : Int} (h0 : a0 = a1) (h1 : a1 = a2) (h2 : a2 = a3) (h3 : a4 = a3) : a0 = a4 := by omega
theorem oq_f0def832 {a0 a1 a2 a3 a4 a5 a6 a7 a8 a9 : Int} (h0 : a0 = a1) (h1 : a2 ≤ a3) (h2 : a1 = a4) (h3 : a2 = a5) (h4 : a3 = a6) (h5 : a5 = a7) (h6 : a6 = a8) (h7 : a4 = a8) (h8 : a7 = a9) : a9 ≤ a0 := by omega
theorem oq_a6252360 {a0 a1 a2 a3 a4 a5 a6 a7 a8 a9 a10 : Int} (h0 : a0 = a1) (h1 : a1 = a2) (h2 : a3 ≤ a4) (h3 : a2 = a5) (h4 : a3 = a6) (h5 : a4 = a7) (h6 : a6 = a8) (h7 : a7 = a9) (h8 : a5 = a9) (h9 : a8 = a10) : a10 ≤ a0 := by omega
theorem oq_627b51e0 {a0 a1 : Int} (h0 : a0 = a1) (h1 : a1 = (-1)) : a0 = (-1) := by omega
theorem oq_e56a23d9 {a0 a1 : Int} (h0 : a0 = (-2)) (h1 : a0 = (-1)) : 0 = a1 := by omega
theorem oq_f744383f {a0 a1 a2 : Int} (h0 : a0 = (-2)) (h1 : a0 = (-1)) : a1 < a2 := by omega
theorem oq_e8fa4957 {a0 a1 : Int} (h0 : a0 = (-2)) (h1 : a0 = (-1)) : 48 ≤ a1 := by omega
theorem oq_30f860ad {a0 a1 : Int} (h0 : a0 = (-2)) (h1 : a0 = (-1)) : a1 ≤ 57 := by omega
theorem oq_9008b7ce {a0 a1 a2 a3 a4 : Int} (h0 : a0 = (-1)) (h1 : a0 = a1) (h2 : ((48 ≤ a2 ∧ (a2 ≤ 57 ∧ a1 = (-2))) ∨ ((a2 < 48 ∨ 57 < a2) ∧ a1 = a2))) (h3 : 0 ≤ a2) : a3 ≤ a4 := by omega
theorem oq_005dc849 {a0 a1 a2 a3 a4 a5 : Int} (h0 : a0 = a1) (h1 : a1 = a2) (h2 : a2 = a3) (h3 : a3 = a4) (h4 : a5 = a4) : a0 = a5 := by omega
theorem oq_d76b7e18 {a0 a1 a2 a3 : Int} (h0 : a0 = a1) (h1 : a1 = a2) (h2 : a3 = a2) : a0 = a3 := by omega
theorem oq_8a14cc43 {a0 a1 a2 a3 a4 a5 a6 a7 : Int} (h0 : a0 < a1) (h1 : a1 = a2) (h2 : a0 = a3) (h3 : a2 = a4) (h4 : a3 = a5) (h5 : a4 = a6) (h6 : a7 = a5) : a7 < a6 := by omega
theorem oq_7f943a53 {a0 a1 a2 a3 : Int} (h0 : a0 ≠ (-2)) (h1 : a0 = a1) (h2 : ((48 ≤ a2 ∧ (a2 ≤ 57 ∧ a1 = (-2))) ∨ ((a2 < 48 ∨ 57 < a2) ∧ a1 = a2))) (h3 : a2 = a3) : (a3 < 48 ∨ 57 < a3) := by omega
theorem oq_4d4cdb94 {a0 a1 a2 a3 a4 : Int} (h0 : a0 = a1) (h1 : a1 ≠ (-2)) (h2 : a1 = a2) (h3 : ((48 ≤ a3 ∧ (a3 ≤ 57 ∧ a2 = (-2))) ∨ ((a3 < 48 ∨ 57 < a3) ∧ a2 = a3))) (h4 : a3 = a4) : a0 = a4 := by omega
theorem oq_399209a9 {a0 a1 : Int} (h0 : a0 = a1) (h1 : a1 ≠ (-1)) (h2 : (-3) ≤ a1) (h3 : a1 ≠ (-3)) (h4 : a1 ≠ (-2)) : 0 ≤ a0 := by omega
theorem oq_7faf7b9b {a0 a1 a2 a3 a4 a5 : Int} (h0 : a0 = (a1 + 1)) (h1 : a1 = a2) (h2 : a2 = a3) (h3 : a3 = a4) (h4 : a5 = a4) : a0 = (a5 + 1) := by omega
theorem oq_a006b4e1 {a0 a1 a2 a3 : Int} (h0 : a0 = (-2)) (h1 : a0 = a1) (h2 : ((48 ≤ a2 ∧ (a2 ≤ 57 ∧ a1 = (-2))) ∨ ((a2 < 48 ∨ 57 < a2) ∧ a1 = a2))) (h3 : a2 = a3) (h4 : 0 ≤ a2) : 48 ≤ a3 := by omega
theorem oq_3d4fc409 {a0 a1 a2 a3 : Int} (h0 : a0 = (-2)) (h1 : a0 = a1) (h2 : ((48 ≤ a2 ∧ (a2 ≤ 57 ∧ a1 = (-2))) ∨ ((a2 < 48 ∨ 57 < a2) ∧ a1 = a2))) (h3 : a2 = a3) : a3 ≤ 57 := by omega
theorem oq_ff4f6170 {a0 a1 a2 a3 a4 : Int} (h0 : a0 = a1) (h1 : a1 = a2) (h2 : a2 = a3) (h3 : a3 = a4) (h4 : a4 = 0) : a0 = 0 := by omega
theorem oq_a7961805 {a0 : Int} (h0 : a0 ≤ 5) (h1 : 0 ≤ a0) : (a0 = 0 ∨ (a0 = 1 ∨ (a0 = 2 ∨ (a0 = 3 ∨ (a0 = 4 ∨ a0 = 5))))) := by omega
theorem oq_cecc94e2 {a0 a1 : Int} (h0 : ((7 ≤ (a0 % 8) ∧ a1 = (-1)) ∨ ((a0 % 8) < 7 ∧ a1 = (a0 + 1)))) : (((a0 % 8) = 7 ∧ a1 = (-1)) ∨ ((¬ ((a0 % 8) = 7)) ∧ a1 = (a0 + 1))) := by omega
theorem oq_03f3fcb4 {a0 a1 : Int} (h0 : ((7 ≤ (a0 % 8) ∧ a1 = (-1)) ∨ ((a0 % 8) < 7 ∧ a1 = (a0 + 1)))) (h1 : a0 ≤ 127) : a1 ≤ 127 := by omega
theorem oq_2ab3bee4 {a0 a1 : Int} (h0 : (((a0 % 8) ≤ 0 ∧ a1 = (-1)) ∨ (0 < (a0 % 8) ∧ a1 = (a0 - 1)))) : (((a0 % 8) = 0 ∧ a1 = (-1)) ∨ ((¬ ((a0 % 8) = 0)) ∧ a1 = (a0 - 1))) := by omega
theorem oq_e5999670 {a0 a1 : Int} (h0 : ((56 ≤ (((a0 / 8) % 8) * 8) ∧ a1 = (-1)) ∨ ((((a0 / 8) % 8) * 8) < 56 ∧ a1 = (a0 + 8)))) : ((((a0 / 8) % 8) = 7 ∧ a1 = (-1)) ∨ ((¬ (((a0 / 8) % 8) = 7)) ∧ a1 = (a0 + 8))) := by omega
theorem oq_2c4fb419 {a0 a1 : Int} (h0 : ((56 ≤ (((a0 / 8) % 8) * 8) ∧ a1 = (-1)) ∨ ((((a0 / 8) % 8) * 8) < 56 ∧ a1 = (a0 + 8)))) (h1 : a0 ≤ 127) : a1 ≤ 127 := by omega
theorem oq_1b875bc3 {a0 a1 : Int} (h0 : (((((a0 / 8) % 8) * 8) ≤ 0 ∧ a1 = (-1)) ∨ (0 < (((a0 / 8) % 8) * 8) ∧ a1 = (a0 - 8)))) : ((((a0 / 8) % 8) = 0 ∧ a1 = (-1)) ∨ ((¬ (((a0 / 8) % 8) = 0)) ∧ a1 = (a0 - 8))) := by omega
theorem oq_70d85125 {a0 a1 : Int} (h0 : (((((a0 / 8) % 8) * 8) ≤ 0 ∧ a1 = (-1)) ∨ (0 < (((a0 / 8) % 8) * 8) ∧ a1 = (a0 - 8)))) (h1 : 0 ≤ a0) : (-1) ≤ a1 := by omega
theorem oq_96d26cea {a0 a1 : Int} (h0 : ((64 ≤ a0 ∧ a1 = (-1)) ∨ (a0 < 64 ∧ a1 = (a0 + 64)))) (h1 : a0 ≤ 127) : (((a0 / 64) = 1 ∧ a1 = (-1)) ∨ ((¬ ((a0 / 64) = 1)) ∧ a1 = (a0 + 64))) := by omega
theorem oq_7d1de359 {a0 a1 : Int} (h0 : ((a0 < 64 ∧ a1 = (-1)) ∨ (64 ≤ a0 ∧ a1 = (a0 - 64)))) (h1 : 0 ≤ a0) : (((a0 / 64) = 0 ∧ a1 = (-1)) ∨ ((¬ ((a0 / 64) = 0)) ∧ a1 = (a0 - 64))) := by omega
theorem oq_74ef2854 {a0 : Int} (h0 : (-3) ≤ a0) : (-2147483648) ≤ a0 := by omega
theorem oq_f26a4c2a {a0 : Int} (h0 : (a0 < 99 ∨ 117 < a0)) : (¬ (a0 = 114)) := by omega
theorem oq_739a5c7f {a0 : Int} (h0 : (a0 < 99 ∨ 117 < a0)) : (¬ (a0 = 108)) := by omega
theorem oq_44e47c68 {a0 : Int} (h0 : (a0 < 99 ∨ 117 < a0)) : (¬ (a0 = 100)) := by omega
theorem oq_ea04ee2c {a0 : Int} (h0 : (a0 < 99 ∨ 117 < a0)) : (¬ (a0 = 117)) := by omega
theorem oq_8d39ceb9 {a0 : Int} (h0 : (a0 < 99 ∨ 117 < a0)) : (¬ (a0 = 99)) := by omega
theorem oq_66230ed5 {a0 : Int} (h0 : (a0 < 99 ∨ 117 < a0)) : (¬ (a0 = 115)) := by omega
theorem oq_aea8a80d {a0 a1 : Int} (h0 : a0 = a1) (h1 : 1 ≤ a0) : 0 ≤ (a1 - 1) := by omega
theorem oq_e3802055 {a0 a1 : Int} (h0 : a0 = a1) : (a1 - 1) < a0 := by omega
theorem oq_fdab8905 {a0 a1 a2 : Int} (h0 : a0 ≠ a1) (h1 : a0 = a2) : a2 ≠ a1 := by omega
theorem oq_091be13f {a0 a1 : Int} {n2 : Nat} (h0 : a0 < a1) (h1 : ((24 - a0) : Int).toNat < (n2 + 1)) (h2 : a1 ≤ 23) : ((24 - (a0 + 1)) : Int).toNat < n2 := by omega
theorem oq_3cfa6036  : (4 : Int) ≠ 0 := by omega
theorem oq_c470344a {a0 : Int} (h0 : 0 ≤ a0) : a0 ≠ (-1) := by omega
theorem oq_6e73d57f {a0 a1 a2 : Int} (h0 : a0 = a1) (h1 : a2 = a1) (h2 : a2 ≤ 23) : a0 ≠ 24 := by omega
theorem oq_a0804362 {a0 a1 a2 : Int} (h0 : a0 = a1) (h1 : a0 = a2) : a2 = a1 := by omega
theorem oq_e316e9e5 {a0 a1 : Int} (h0 : a0 < 24) (h1 : a1 = a0) : a1 ≠ 24 := by omega
theorem oq_cae9ec4a {a0 a1 a2 a3 : Int} (h0 : a0 = (a1 + 1)) (h1 : a1 = a2) (h2 : a2 = a3) : a0 = (a3 + 1) := by omega
theorem oq_7dc0c3e7 {a0 a1 : Int} (h0 : 24 ≤ a0) (h1 : a1 = a0) (h2 : a1 ≤ 24) : a1 = 24 := by omega
theorem oq_da44ad1c  : (3 : Int) ≠ 0 := by omega
theorem oq_e8f5401c {a0 a1 : Int} {n2 : Nat} (h0 : a0 < a1) (h1 : ((7 - a0) : Int).toNat < (n2 + 1)) (h2 : a1 ≤ 7) : ((7 - (a0 + 1)) : Int).toNat < n2 := by omega
theorem oq_daf7b6c0 {a0 a1 : Int} (h0 : a0 ≠ (-1)) (h1 : (-1) ≤ a0) (h2 : a0 = a1) : a1 ≠ (-1) := by omega
theorem oq_40e9a0a6 {a0 a1 a2 : Int} (h0 : 4 ≤ a0) (h1 : a0 = a1) (h2 : a1 = a2) : a2 ≠ (-1) := by omega
theorem oq_46d69db4 {a0 a1 a2 : Int} (h0 : 4 ≤ a0) (h1 : a0 = a1) (h2 : a1 = a2) : 4 ≤ a2 := by omega
theorem oq_c818af81 {a0 a1 a2 : Int} (h0 : (a0 + 1) ≤ a1) (h1 : a2 = a1) : a0 < a2 := by omega
theorem oq_c2e50437 {a0 a1 a2 : Int} (h0 : a0 ≠ (-1)) (h1 : (-1) ≤ a0) (h2 : a0 = a1) (h3 : a1 = a2) : a2 ≠ (-1) := by omega
theorem oq_acd5615c {a0 a1 a2 : Int} (h0 : a0 < 4) (h1 : a0 = a1) (h2 : a1 = a2) : a2 < 4 := by omega
theorem oq_5defc01e {a0 a1 : Int} (h0 : a0 < 1) (h1 : a0 = a1) : a1 < 1 := by omega
theorem oq_bc50f9f9 {a0 a1 : Int} (h0 : 1 ≤ a0) (h1 : a0 = a1) : 1 ≤ a1 := by omega
theorem oq_3e5e2bff {a0 a1 : Int} (h0 : a0 ≤ 7) (h1 : a0 = a1) : a1 ≤ 7 := by omega
theorem oq_d53ccec2 {a0 a1 : Int} (h0 : 7 < a0) (h1 : a0 = a1) : 7 < a1 := by omega
theorem oq_cc92f4ab {a0 a1 a2 : Int} (h0 : a0 = (-1)) (h1 : a0 = a1) (h2 : a1 = a2) : a2 = (-1) := by omega
theorem oq_8a66283c {a0 a1 a2 : Int} (h0 : 100 ≤ a0) (h1 : (a0 + 1) ≤ a1) (h2 : a2 ≤ 100) : a2 ≤ a1 := by omega
theorem oq_751aace0 {a0 a1 a2 : Int} (h0 : a0 < a1) (h1 : (a2 + 1) ≤ a0) : ((a2 + 1) + 1) ≤ a1 := by omega
theorem oq_737e9e37 {a0 : Int} {n1 : Nat} (h0 : a0 < 100) (h1 : ((100 - a0) : Int).toNat < (n1 + 1)) : ((100 - (a0 + 1)) : Int).toNat < n1 := by omega
theorem oq_c8279a39 {a0 a1 : Int} (h0 : a0 = (-2)) (h1 : a0 = a1) : a1 = (-2) := by omega
theorem oq_51749072 {a0 a1 : Int} (h0 : a0 < 128) (h1 : a0 = a1) : a1 ≤ 127 := by omega
theorem oq_e4c35dd7 {a0 a1 : Int} (h0 : a0 < a1) (h1 : 0 ≤ a0) : 0 ≤ a1 := by omega
theorem oq_5597108e {a0 a1 : Int} (h0 : a0 = a1) (h1 : a1 = 1) : a0 = 1 := by omega
theorem oq_7987d21d {a0 a1 a2 a3 a4 a5 a6 a7 : Int} (h0 : a0 ≤ a1) (h1 : (a2 + 1) ≤ a3) (h2 : a4 = a3) (h3 : a5 = a1) (h4 : a0 = a6) (h5 : a6 = a7) (h6 : a7 = a4) (h7 : 0 ≤ a2) : (0 + 1) ≤ a5 := by omega
theorem oq_a3645c42 {a0 a1 : Int} (h0 : 128 ≤ a0) (h1 : a0 = a1) : 127 < a1 := by omega
theorem oq_ad75fede {a0 a1 : Int} (h0 : a0 ≠ (-2)) (h1 : a0 = a1) : a1 ≠ (-2) := by omega
theorem oq_b403cfa8 {a0 a1 a2 a3 a4 a5 a6 a7 : Int} (h0 : ((a0 < a1 ∧ ((0 ≤ a2 ∧ a2 ≤ 1) ∧ (a2 ≠ 0 ∧ ((0 ≤ a3 ∧ a3 ≤ 255) ∧ a4 = a3)))) ∨ ((a0 < a1 ∧ ((0 ≤ a2 ∧ a2 ≤ 1) ∧ (a2 = 0 ∧ ((0 ≤ a5 ∧ a5 ≤ 255) ∧ a4 = a5)))) ∨ (a1 ≤ a0 ∧ a4 = (-1))))) (h1 : (a6 ≤ a0 ∨ (a2 = 0 ∨ a3 = a7))) (h2 : (a6 ≤ a0 ∨ (a2 ≠ 0 ∨ a5 = a7))) (h3 : a1 = a6) : ((a6 ≤ a0 ∧ a4 = (-1)) ∨ (a0 < a6 ∧ (a4 = a7 ∧ (0 ≤ a4 ∧ a4 ≤ 255)))) := by omega
theorem oq_02ec18ed {a0 a1 : Int} (h0 : ((a0 < 48 ∧ a1 = 0) ∨ ((48 ≤ a0 ∧ (57 < a0 ∧ a1 = 0)) ∨ (48 ≤ a0 ∧ (a0 ≤ 57 ∧ a1 = 1))))) : 0 ≤ a1 := by omega
theorem oq_0bab4d4f {a0 a1 : Int} (h0 : ((a0 < 48 ∧ a1 = 0) ∨ ((48 ≤ a0 ∧ (57 < a0 ∧ a1 = 0)) ∨ (48 ≤ a0 ∧ (a0 ≤ 57 ∧ a1 = 1))))) : a1 ≤ 1 := by omega
theorem oq_adbb90ab {a0 a1 a2 a3 : Int} (h0 : a0 ≠ 32) (h1 : ((a1 ≤ a2 ∧ a0 = (-1)) ∨ (a2 < a1 ∧ (a0 = a3 ∧ (0 ≤ a0 ∧ a0 ≤ 255))))) : (a1 ≤ a2 ∨ a3 ≠ 32) := by omega
theorem oq_106bbac4 {a0 a1 a2 a3 a4 : Int} (h0 : a0 = 32) (h1 : ((a1 ≤ a2 ∧ a0 = (-1)) ∨ (a2 < a1 ∧ (a0 = a3 ∧ (0 ≤ a0 ∧ a0 ≤ 255))))) (h2 : a4 = a1) (h3 : a4 ≤ 200) : (a2 + 1) ≤ 400 := by omega
theorem oq_7b49ce83 {a0 a1 a2 a3 : Int} (h0 : a0 = 32) (h1 : ((a1 ≤ a2 ∧ a0 = (-1)) ∨ (a2 < a1 ∧ (a0 = a3 ∧ (0 ≤ a0 ∧ a0 ≤ 255))))) : a2 < a1 := by omega
theorem oq_5b229137 {a0 a1 a2 a3 : Int} (h0 : a0 = 32) (h1 : ((a1 ≤ a2 ∧ a0 = (-1)) ∨ (a2 < a1 ∧ (a0 = a3 ∧ (0 ≤ a0 ∧ a0 ≤ 255))))) : a3 = 32 := by omega
theorem oq_15ec32ab {a0 : Int}  : a0 ≤ a0 := by omega
theorem oq_18d11be6 {a0 a1 : Int} (h0 : a0 = a1) : a1 = a0 := by omega
theorem oq_408a0309 {a0 a1 a2 a3 a4 : Int} (h0 : a0 = 0) (h1 : ((a0 = 1 ∧ (48 ≤ a1 ∧ a1 ≤ 57)) ∨ (a0 = 0 ∧ (a1 < 48 ∨ 57 < a1)))) (h2 : ((a2 ≤ a3 ∧ a1 = (-1)) ∨ (a3 < a2 ∧ (a1 = a4 ∧ (0 ≤ a1 ∧ a1 ≤ 255))))) : (a2 ≤ a3 ∨ (a4 < 48 ∨ 57 < a4)) := by omega
theorem oq_8f033a95 {a0 a1 a2 a3 : Int} (h0 : a0 = a1) (h1 : a0 ≤ 200) (h2 : (a2 = a3 ∨ a2 ≤ a1)) (h3 : a3 ≤ 390) : (a2 + 1) ≤ 400 := by omega
theorem oq_a6991198 {a0 a1 a2 a3 a4 : Int} (h0 : a0 ≠ 0) (h1 : ((a0 = 1 ∧ (48 ≤ a1 ∧ a1 ≤ 57)) ∨ (a0 = 0 ∧ (a1 < 48 ∨ 57 < a1)))) (h2 : ((a2 ≤ a3 ∧ a1 = (-1)) ∨ (a3 < a2 ∧ (a1 = a4 ∧ (0 ≤ a1 ∧ a1 ≤ 255))))) : a3 < a2 := by omega
theorem oq_8ec20a9d {a0 a1 a2 a3 a4 a5 : Int} (h0 : ((a0 ≤ a1 ∧ a2 = (-1)) ∨ (a1 < a0 ∧ (a2 = a3 ∧ (0 ≤ a2 ∧ a2 ≤ 255))))) (h1 : a4 ≠ 0) (h2 : ((a4 = 1 ∧ (48 ≤ a5 ∧ a5 ≤ 57)) ∨ (a4 = 0 ∧ (a5 < 48 ∨ 57 < a5)))) (h3 : ((a0 ≤ a1 ∧ a5 = (-1)) ∨ (a1 < a0 ∧ (a5 = a3 ∧ (0 ≤ a5 ∧ a5 ≤ 255))))) : 48 ≤ a3 := by omega
theorem oq_9cb55c03 {a0 a1 a2 a3 a4 a5 : Int} (h0 : ((a0 ≤ a1 ∧ a2 = (-1)) ∨ (a1 < a0 ∧ (a2 = a3 ∧ (0 ≤ a2 ∧ a2 ≤ 255))))) (h1 : a4 ≠ 0) (h2 : ((a4 = 1 ∧ (48 ≤ a5 ∧ a5 ≤ 57)) ∨ (a4 = 0 ∧ (a5 < 48 ∨ 57 < a5)))) (h3 : ((a0 ≤ a1 ∧ a5 = (-1)) ∨ (a1 < a0 ∧ (a5 = a3 ∧ (0 ≤ a5 ∧ a5 ≤ 255))))) : a3 ≤ 57 := by omega
theorem oq_9855c2d5 {a0 a1 a2 a3 a4 : Int} (h0 : a0 ≠ 0) (h1 : ((a0 = 1 ∧ (48 ≤ a1 ∧ a1 ≤ 57)) ∨ (a0 = 0 ∧ (a1 < 48 ∨ 57 < a1)))) (h2 : ((a2 ≤ a3 ∧ a1 = (-1)) ∨ (a3 < a2 ∧ (a1 = a4 ∧ (0 ≤ a1 ∧ a1 ≤ 255))))) : 48 ≤ a4 := by omega
theorem oq_2de8c4c0 {a0 a1 a2 a3 a4 : Int} (h0 : a0 ≠ 0) (h1 : ((a0 = 1 ∧ (48 ≤ a1 ∧ a1 ≤ 57)) ∨ (a0 = 0 ∧ (a1 < 48 ∨ 57 < a1)))) (h2 : ((a2 ≤ a3 ∧ a1 = (-1)) ∨ (a3 < a2 ∧ (a1 = a4 ∧ (0 ≤ a1 ∧ a1 ≤ 255))))) : a4 ≤ 57 := by omega
theorem oq_844ef9a0  : (0 : Int) ≤ 100000 := by omega
theorem oq_2ceb37f9 {a0 a1 a2 a3 : Int} (h0 : a0 ≠ 0) (h1 : ((a0 = 1 ∧ (a1 ≤ a2 ∧ a2 ≤ a3)) ∨ (a0 = 0 ∧ (a2 < a1 ∨ a3 < a2)))) : a1 ≤ a2 := by omega
theorem oq_21c6441c {a0 a1 a2 a3 : Int} (h0 : a0 ≠ 0) (h1 : ((a0 = 1 ∧ (a1 ≤ a2 ∧ a2 ≤ a3)) ∨ (a0 = 0 ∧ (a2 < a1 ∨ a3 < a2)))) : a2 ≤ a3 := by omega
theorem oq_5a456c6a {a0 a1 a2 a3 : Int} (h0 : a0 = 0) (h1 : ((a0 = 1 ∧ (a1 ≤ a2 ∧ a2 ≤ a3)) ∨ (a0 = 0 ∧ (a2 < a1 ∨ a3 < a2)))) : (a2 < a1 ∨ a3 < a2) := by omega
theorem oq_54dc7758 {a0 a1 a2 a3 : Int} (h0 : a0 = a1) (h1 : a2 ≤ a1) (h2 : (a1 = a2 ∨ a1 ≤ a3)) : (a0 = a2 ∨ a0 ≤ a3) := by omega
theorem oq_a3f4dfcf {a0 a1 a3 : Int} {n2 : Nat} (h0 : a0 < a1) (h1 : ((24 - a0) : Int).toNat < (n2 + 1)) (h2 : a1 = a3) (h3 : a3 ≤ 24) : ((24 - (a0 + 1)) : Int).toNat < n2 := by omega
theorem oq_18cd9504 {a0 a1 a2 a3 : Int} (h0 : a0 = a1) (h1 : a0 = a2) (h2 : a1 = a3) : a2 = a3 := by omega
theorem oq_e9a7177c {a0 a1 : Int} (h0 : (((a0 % 8) ≠ 7 ∧ a1 = (a0 + 1)) ∨ ((a0 % 8) = 7 ∧ a1 = (-1)))) (h1 : a0 ≤ 127) : a1 ≤ 127 := by omega
theorem oq_1023ce0a {a0 a1 : Int} (h0 : ((((a0 / 8) % 8) ≠ 7 ∧ a1 = (a0 + 8)) ∨ (((a0 / 8) % 8) = 7 ∧ a1 = (-1)))) (h1 : a0 ≤ 127) : a1 ≤ 127 := by omega
theorem oq_5738a837 {a0 a1 : Int} (h0 : ((((a0 / 8) % 8) ≠ 0 ∧ a1 = (a0 - 8)) ∨ (((a0 / 8) % 8) = 0 ∧ a1 = (-1)))) (h1 : 0 ≤ a0) : (-1) ≤ a1 := by omega
theorem oq_76e15fc8 {a0 a1 : Int} (h0 : (((a0 / 64) ≠ 0 ∧ a1 = (a0 - 64)) ∨ ((a0 / 64) = 0 ∧ a1 = (-1)))) : (((a0 / 64) = 0 ∧ a1 = (-1)) ∨ ((¬ ((a0 / 64) = 0)) ∧ a1 = (a0 - 64))) := by omega
theorem oq_90a21754 {a0 : Int} (h0 : 1 ≤ a0) : ((((a0 - 1) : Int).toNat : Nat) : Int) < a0 := by omega
theorem oq_ae33e6fb {a0 a1 : Int} (h0 : a0 = 24) (h1 : a1 = a0) (h2 : a1 ≤ 24) : a1 = 24 := by omega
theorem oq_6ffcc3e7 {a0 a1 : Int} (h0 : a0 = a1) (h1 : a1 ≠ 24) (h2 : a1 ≤ 24) : a0 ≤ 23 := by omega
theorem oq_4e05af70 {a0 a1 : Int} (h0 : a0 ≠ 24) (h1 : a0 ≤ 24) (h2 : a1 = a0) : a1 ≠ 24 := by omega
theorem oq_cef987ba {a0 a1 a2 a3 : Int} (h0 : a0 = (a1 + 1)) (h1 : a1 = a2) (h2 : a2 = a3) (h3 : a3 ≠ 24) (h4 : a3 ≤ 24) : a0 ≤ 24 := by omega
theorem oq_43ef8f85 {a0 a1 : Int} {n2 : Nat} (h0 : a0 < a1) (h1 : ((a1 - a0) : Int).toNat < (n2 + 1)) : ((a1 - (a0 + 1)) : Int).toNat < n2 := by omega
theorem oq_1c2ab888 {a0 a1 a2 a3 : Int} (h0 : ((a0 ≤ a1 ∧ a2 = (-1)) ∨ (a1 < a0 ∧ (a2 = a3 ∧ (0 ≤ a2 ∧ a2 ≤ 255))))) (h1 : a1 < a0) : a2 = a3 := by omega
theorem oq_a6b956a9 {a0 a1 : Int} (h0 : ((a0 ≠ 114 ∧ (a0 ≠ 108 ∧ (a0 ≠ 100 ∧ (a0 ≠ 117 ∧ (a0 ≠ 99 ∧ (a0 ≠ 115 ∧ a1 = (-1))))))) ∨ ((a0 ≠ 114 ∧ (a0 ≠ 108 ∧ (a0 ≠ 100 ∧ (a0 ≠ 117 ∧ (a0 ≠ 99 ∧ (a0 = 115 ∧ a1 = 5)))))) ∨ ((a0 ≠ 114 ∧ (a0 ≠ 108 ∧ (a0 ≠ 100 ∧ (a0 ≠ 117 ∧ (a0 = 99 ∧ a1 = 4))))) ∨ ((a0 ≠ 114 ∧ (a0 ≠ 108 ∧ (a0 ≠ 100 ∧ (a0 = 117 ∧ a1 = 3)))) ∨ ((a0 ≠ 114 ∧ (a0 ≠ 108 ∧ (a0 = 100 ∧ a1 = 2))) ∨ ((a0 ≠ 114 ∧ (a0 = 108 ∧ a1 = 1)) ∨ (a0 = 114 ∧ a1 = 0)))))))) : (-1) ≤ a1 := by omega
theorem oq_373480d1 {a0 a1 : Int} (h0 : ((a0 ≠ 114 ∧ (a0 ≠ 108 ∧ (a0 ≠ 100 ∧ (a0 ≠ 117 ∧ (a0 ≠ 99 ∧ (a0 ≠ 115 ∧ a1 = (-1))))))) ∨ ((a0 ≠ 114 ∧ (a0 ≠ 108 ∧ (a0 ≠ 100 ∧ (a0 ≠ 117 ∧ (a0 ≠ 99 ∧ (a0 = 115 ∧ a1 = 5)))))) ∨ ((a0 ≠ 114 ∧ (a0 ≠ 108 ∧ (a0 ≠ 100 ∧ (a0 ≠ 117 ∧ (a0 = 99 ∧ a1 = 4))))) ∨ ((a0 ≠ 114 ∧ (a0 ≠ 108 ∧ (a0 ≠ 100 ∧ (a0 = 117 ∧ a1 = 3)))) ∨ ((a0 ≠ 114 ∧ (a0 ≠ 108 ∧ (a0 = 100 ∧ a1 = 2))) ∨ ((a0 ≠ 114 ∧ (a0 = 108 ∧ a1 = 1)) ∨ (a0 = 114 ∧ a1 = 0)))))))) : a1 ≤ 5 := by omega
theorem oq_8fb76a4f {a0 a1 : Int} (h0 : a0 ≤ 5) (h1 : (-1) ≤ a0) (h2 : ((a1 ≠ 114 ∧ (a1 ≠ 108 ∧ (a1 ≠ 100 ∧ (a1 ≠ 117 ∧ (a1 ≠ 99 ∧ (a1 ≠ 115 ∧ a0 = (-1))))))) ∨ ((a1 ≠ 114 ∧ (a1 ≠ 108 ∧ (a1 ≠ 100 ∧ (a1 ≠ 117 ∧ (a1 ≠ 99 ∧ (a1 = 115 ∧ a0 = 5)))))) ∨ ((a1 ≠ 114 ∧ (a1 ≠ 108 ∧ (a1 ≠ 100 ∧ (a1 ≠ 117 ∧ (a1 = 99 ∧ a0 = 4))))) ∨ ((a1 ≠ 114 ∧ (a1 ≠ 108 ∧ (a1 ≠ 100 ∧ (a1 = 117 ∧ a0 = 3)))) ∨ ((a1 ≠ 114 ∧ (a1 ≠ 108 ∧ (a1 = 100 ∧ a0 = 2))) ∨ ((a1 ≠ 114 ∧ (a1 = 108 ∧ a0 = 1)) ∨ (a1 = 114 ∧ a0 = 0)))))))) : ((a1 = 114 ∧ a0 = 0) ∨ ((a1 = 108 ∧ a0 = 1) ∨ ((a1 = 100 ∧ a0 = 2) ∨ ((a1 = 117 ∧ a0 = 3) ∨ ((a1 = 99 ∧ a0 = 4) ∨ ((a1 = 115 ∧ a0 = 5) ∨ (a1 ≠ 114 ∧ (a1 ≠ 108 ∧ (a1 ≠ 100 ∧ (a1 ≠ 117 ∧ (a1 ≠ 99 ∧ (a1 ≠ 115 ∧ a0 = (-1))))))))))))) := by omega
theorem oq_de8dffce {a0 a1 a2 : Int} (h0 : a0 = a1) (h1 : a1 = a2) (h2 : 0 ≤ a2) (h3 : a2 = 0) : a0 = 0 := by omega
theorem oq_ffbdfade {a0 a1 : Int} (h0 : 4 ≤ a0) (h1 : a1 = a0) : a1 ≠ (-1) := by omega
theorem oq_2b69aaa7 {a0 a1 : Int} (h0 : 4 ≤ a0) (h1 : a1 = a0) : 4 ≤ a1 := by omega
theorem oq_cecd4c3f {a0 a1 a2 a3 : Int} (h0 : a0 = a1) (h1 : a1 = a2) (h2 : a3 = a2) (h3 : 1 ≤ a3) : 1 ≤ a0 := by omega
theorem oq_562c9b2d {a0 a1 : Int} (h0 : a0 = a1) (h1 : a1 ≠ (-1)) (h2 : (-1) ≤ a1) : a0 ≠ (-1) := by omega
theorem oq_f8620e62 {a0 a1 a2 a3 a4 : Int} (h0 : (a0 = a1 ∨ a0 ≤ a2)) (h1 : a1 = (a3 + 1)) (h2 : a4 ≤ 200) (h3 : a4 = a2) (h4 : a3 < a2) : a0 ≤ 390 := by omega
theorem oq_4356a933 {a0 a1 : Int} (h0 : a0 < 4) (h1 : a1 = a0) : a1 < 4 := by omega
theorem oq_db134fd6 {a0 a1 a2 a3 : Int} (h0 : a0 ≤ a1) (h1 : (a2 + 1) ≤ a3) (h2 : a0 = a3) : a2 < a1 := by omega
theorem oq_b195b3e5 {a0 a1 a2 a3 a4 a5 a6 : Int} (h0 : (a0 ≤ a1 ∨ (a2 < 48 ∨ (57 < a2 ∨ (a3 < 1 ∨ 7 < a3))))) (h1 : a3 = a4) (h2 : a5 ≠ 0) (h3 : ((a5 = 1 ∧ (48 ≤ a6 ∧ a6 ≤ 57)) ∨ (a5 = 0 ∧ (a6 < 48 ∨ 57 < a6)))) (h4 : ((a0 ≤ a1 ∧ a6 = (-1)) ∨ (a1 < a0 ∧ (a6 = a2 ∧ (0 ≤ a6 ∧ a6 ≤ 255))))) : (a4 < 1 ∨ 7 < a4) := by omega
theorem oq_c0cb98a4 {a0 a1 : Int} (h0 : 0 ≤ a0) (h1 : a1 = a0) : 0 ≤ a1 := by omega
theorem oq_0d237996 {a0 a1 : Int} (h0 : a0 ≤ 100000) (h1 : a1 = a0) : a1 ≤ 100000 := by omega
theorem oq_5a04fd0e {a0 a1 a2 a3 a4 : Int} (h0 : a0 = a1) (h1 : a1 = a2) (h2 : a2 = a3) (h3 : a4 = a3) (h4 : 1 ≤ a4) : 1 ≤ a0 := by omega
theorem oq_c8bb10d5 {a0 a1 a2 a3 : Int} (h0 : a0 ≤ a1) (h1 : (a2 + 1) ≤ a3) (h2 : a0 = a3) : a2 ≤ a1 := by omega
theorem oq_ae23040e {a0 a1 a2 a3 a4 : Int} (h0 : (a0 = a1 ∨ a0 ≤ a2)) (h1 : (a1 = a3 ∨ a1 ≤ a2)) (h2 : a3 = (a4 + 1)) (h3 : a4 < a2) : a0 ≤ a2 := by omega
theorem oq_372f911e {a0 a1 a2 : Int} (h0 : a0 = a1) (h1 : a2 = a1) (h2 : 1 ≤ a2) : 1 ≤ a0 := by omega
theorem oq_e3e79d0c {a0 a1 : Int} (h0 : 0 ≤ (a0 - a1)) : a1 ≤ a0 := by omega
theorem oq_dc168fc6 {a0 a1 a2 : Int} (h0 : a0 = (24 - (8 * (a1 - a2)))) : (24 - (8 * (a1 - a2))) = a0 := by omega
theorem oq_e09667dd {a0 a1 a2 : Int} (h0 : a0 = (a1 + 1)) (h1 : a1 = a2) : (a2 + 1) = a0 := by omega
theorem oq_6d73997a {a0 : Int} {n1 : Nat} (h0 : 0 ≤ a0) (h1 : ((a0 + 8) : Int).toNat < (n1 + 1)) : (((a0 + (-8)) + 8) : Int).toNat < n1 := by omega
theorem oq_6b3a8341 {a0 : Int}  : 0 ≤ (a0 - a0) := by omega
theorem oq_4fa968a3 {a0 : Int}  : (a0 - a0) ≤ 4 := by omega
theorem oq_6a272da9 {a0 : Int}  : 24 = (24 - (8 * (a0 - a0))) := by omega
theorem oq_ef8a2437 {a0 a1 : Int} (h0 : a0 = (a1 + 4)) : a1 ≤ a0 := by omega
theorem oq_48b4411c {a0 : Int}  : (a0 - a0) = 0 := by omega
theorem oq_29780a03 {a0 a1 : Int} (h0 : (a0 - a0) ≤ a1) : 0 ≤ a1 := by omega
theorem oq_5a699c61 {a0 a1 a2 : Int} (h0 : a0 < (a1 - a2)) (h1 : a1 = (a2 + 4)) : a0 < 4 := by omega
theorem oq_3dd1fc40 {a0 a1 : Int} (h0 : a0 = (a1 + 4)) (h1 : (a1 + 20) ≤ 200) : a0 ≤ 196 := by omega
theorem oq_ce21e504 {a0 a1 : Int} (h0 : a0 = (a1 + 4)) : (a0 - a1) = 4 := by omega
theorem oq_a845282e {a0 a1 a2 : Int} (h0 : (a0 - a1) ≤ a2) (h1 : a0 = (a1 + 4)) : 4 ≤ a2 := by omega
theorem oq_8c317f69 {a0 a1 a2 a3 : Int} (h0 : a0 < (a1 - a2)) (h1 : a1 = (a3 + 4)) (h2 : a3 = (a2 + 4)) : a0 < 8 := by omega
theorem oq_456275d4 {a0 a1 a2 : Int} (h0 : a0 = (a1 + 4)) (h1 : a1 = (a2 + 4)) (h2 : (a2 + 20) ≤ 200) : a0 ≤ 196 := by omega
theorem oq_8ec8c3b1 {a0 a1 a2 : Int} (h0 : a0 = (a1 + 4)) (h1 : a1 = (a2 + 4)) : a2 ≤ a0 := by omega
theorem oq_ccb38cc5 {a0 a1 a2 : Int} (h0 : a0 = (a1 + 4)) (h1 : a1 = (a2 + 4)) : (a0 - a2) = 8 := by omega
theorem oq_765015ee {a0 a1 a2 a3 : Int} (h0 : (a0 - a1) ≤ a2) (h1 : a0 = (a3 + 4)) (h2 : a3 = (a1 + 4)) : 8 ≤ a2 := by omega
theorem oq_411587a1 {a0 a1 a2 a3 a4 : Int} (h0 : a0 < (a1 - a2)) (h1 : a1 = (a3 + 4)) (h2 : a3 = (a4 + 4)) (h3 : a4 = (a2 + 4)) : a0 < 12 := by omega
theorem oq_3237836e {a0 a1 a2 a3 : Int} (h0 : a0 = (a1 + 4)) (h1 : a1 = (a2 + 4)) (h2 : a2 = (a3 + 4)) (h3 : (a3 + 20) ≤ 200) : a0 ≤ 196 := by omega
theorem oq_64beb647 {a0 a1 a2 a3 : Int} (h0 : a0 = (a1 + 4)) (h1 : a1 = (a2 + 4)) (h2 : a2 = (a3 + 4)) : a3 ≤ a0 := by omega
theorem oq_34d18b70 {a0 a1 a2 a3 : Int} (h0 : a0 = (a1 + 4)) (h1 : a1 = (a2 + 4)) (h2 : a2 = (a3 + 4)) : (a0 - a3) = 12 := by omega
theorem oq_12b11a34 {a0 a1 a2 a3 a4 : Int} (h0 : (a0 - a1) ≤ a2) (h1 : a0 = (a3 + 4)) (h2 : a3 = (a4 + 4)) (h3 : a4 = (a1 + 4)) : 12 ≤ a2 := by omega
theorem oq_8b45353f {a0 a1 a2 a3 a4 a5 : Int} (h0 : a0 < (a1 - a2)) (h1 : a1 = (a3 + 4)) (h2 : a3 = (a4 + 4)) (h3 : a4 = (a5 + 4)) (h4 : a5 = (a2 + 4)) : a0 < 16 := by omega
theorem oq_b36db626 {a0 a1 a2 a3 a4 : Int} (h0 : a0 = (a1 + 4)) (h1 : a1 = (a2 + 4)) (h2 : a2 = (a3 + 4)) (h3 : a3 = (a4 + 4)) (h4 : (a4 + 20) ≤ 200) : a0 ≤ 196 := by omega
theorem oq_3519cf58 {a0 a1 a2 a3 a4 : Int} (h0 : a0 = (a1 + 4)) (h1 : a1 = (a2 + 4)) (h2 : a2 = (a3 + 4)) (h3 : a3 = (a4 + 4)) : a4 ≤ a0 := by omega
theorem oq_60868675 {a0 a1 a2 a3 a4 : Int} (h0 : a0 = (a1 + 4)) (h1 : a1 = (a2 + 4)) (h2 : a2 = (a3 + 4)) (h3 : a3 = (a4 + 4)) : (a0 - a4) = 16 := by omega
theorem oq_5a0c7237 {a0 a1 a2 a3 a4 a5 : Int} (h0 : (a0 - a1) ≤ a2) (h1 : a0 = (a3 + 4)) (h2 : a3 = (a4 + 4)) (h3 : a4 = (a5 + 4)) (h4 : a5 = (a1 + 4)) : 16 ≤ a2 := by omega
theorem oq_1430306a {a0 a1 a2 a3 a4 a5 a6 : Int} (h0 : a0 < (a1 - a2)) (h1 : a1 = (a3 + 4)) (h2 : a3 = (a4 + 4)) (h3 : a4 = (a5 + 4)) (h4 : a5 = (a6 + 4)) (h5 : a6 = (a2 + 4)) : a0 < 20 := by omega
theorem oq_a1893312 {a0 a1 a2 a3 a4 a5 : Int} (h0 : a0 = (a1 + 4)) (h1 : a1 = (a2 + 4)) (h2 : a2 = (a3 + 4)) (h3 : a3 = (a4 + 4)) (h4 : a4 = (a5 + 4)) : a0 = (a5 + 20) := by omega
theorem oq_472595fc {a0 : Int}  : 0 ≤ (24 - (8 * (a0 % 4))) := by omega
theorem oq_cfee6d5b {a0 : Int}  : (24 - (8 * (a0 % 4))) ≤ 24 := by omega
theorem oq_4ca4feb0 {a0 a1 a2 : Int} (h0 : a0 = (a1 + a2)) (h1 : 0 ≤ a2) : a1 ≤ a0 := by omega
theorem oq_2b15cb4b {a0 a1 a2 : Int} (h0 : a0 = (a1 + a2)) : (a0 - a1) = a2 := by omega
theorem oq_8e4f7fcc {a0 : Int} {n1 : Nat} (h0 : a0 < 20) (h1 : ((20 - a0) : Int).toNat < (n1 + 1)) : ((20 - (a0 + 1)) : Int).toNat < n1 := by omega
theorem oq_bfc944d3  : (0 : Int) ≤ 20 := by omega
theorem oq_9bfe9b9e {a0 a1 : Int} (h0 : (a0 + 20) ≤ 200) (h1 : a0 = a1) : a1 ≤ 180 := by omega

theorem oq_032c4c3f {a0 a1 a2 : Int} (h0 : ((a0 = 0 ∧ a1 = a2) ∨ ((a0 ≠ 0 ∧ (a2 < 97 ∧ a1 = a2)) ∨ ((a0 ≠ 0 ∧ (97 ≤ a2 ∧ (122 < a2 ∧ a1 = a2))) ∨ (a0 ≠ 0 ∧ (97 ≤ a2 ∧ (a2 ≤ 122 ∧ a1 = (-3)))))))) (h1 : a2 < 48) : ((48 ≤ a2 ∧ (a2 ≤ 57 ∧ a1 = (-2))) ∨ ((a2 < 48 ∨ 57 < a2) ∧ a1 = a2)) := by omega
theorem oq_aa95b58b {a0 a1 a2 : Int} (h0 : ((a0 = 0 ∧ a1 = a2) ∨ ((a0 ≠ 0 ∧ (a2 < 97 ∧ a1 = a2)) ∨ ((a0 ≠ 0 ∧ (97 ≤ a2 ∧ (122 < a2 ∧ a1 = a2))) ∨ (a0 ≠ 0 ∧ (97 ≤ a2 ∧ (a2 ≤ 122 ∧ a1 = (-3)))))))) (h1 : 0 ≤ a0) (h2 : 57 < a2) (h3 : a0 = 0) : ((48 ≤ a2 ∧ (a2 ≤ 57 ∧ a1 = (-2))) ∨ ((a2 < 48 ∨ 57 < a2) ∧ a1 = a2)) := by omega
theorem oq_ee7b0a30 {a0 a1 a2 a3 : Int} (h0 : ((a0 = 100000 ∧ 100000 ≤ (((a1 * 10) + a2) - 48)) ∨ (a0 = (((a1 * 10) + a2) - 48) ∧ (((a1 * 10) + a2) - 48) < 100000))) (h1 : 0 ≤ a2) (h2 : 0 ≤ a1) (h3 : a3 = (-2)) (h4 : ((48 ≤ a2 ∧ (a2 ≤ 57 ∧ a3 = (-2))) ∨ ((a2 < 48 ∨ 57 < a2) ∧ a3 = a2))) : 0 ≤ a0 := by omega
theorem oq_2e8e3af2 {a0 a1 a2 a3 : Int} (h0 : a0 = a1) (h1 : a2 = a3) (h2 : a3 = a0) : a2 = a1 := by omega
theorem oq_fd530c01 {a0 a1 a2 : Int} (h0 : a0 = a1) (h1 : a1 = a2) (h2 : a2 = (-2)) : a0 = (-2) := by omega
theorem oq_0f6bfda4 {a0 a1 a2 : Int} (h0 : a0 ≠ (-1)) (h1 : a0 = (-1)) : a1 = a2 := by omega
theorem oq_a80f34c2 {a0 a1 a2 : Int} (h0 : a0 = (-2)) (h1 : a0 = (-1)) : a1 = a2 := by omega
theorem oq_6517d9a9 {a0 a1 : Int} (h0 : ((48 ≤ a0 ∧ (a0 ≤ 57 ∧ a1 = (-2))) ∨ ((a0 < 48 ∨ 57 < a0) ∧ a1 = a0))) (h1 : 0 ≤ a0) : (-3) ≤ a1 := by omega
theorem oq_19f43bdc {a0 a1 : Int} (h0 : ((48 ≤ a0 ∧ (a0 ≤ 57 ∧ a1 = (-2))) ∨ ((a0 < 48 ∨ 57 < a0) ∧ a1 = a0))) (h1 : a0 ≤ 255) : a1 ≤ 255 := by omega
theorem oq_9a9364db {a0 a1 a2 a3 a4 : Int} (h0 : a0 = (-1)) (h1 : a0 = a1) (h2 : ((48 ≤ a2 ∧ (a2 ≤ 57 ∧ a1 = (-2))) ∨ ((a2 < 48 ∨ 57 < a2) ∧ a1 = a2))) (h3 : 0 ≤ a2) : a3 = a4 := by omega
theorem oq_3a3d6173 {a0 : Int} (h0 : a0 = 0) : a0 ≤ 1 := by omega
theorem oq_a62814c4  : 4 ≠ 0 := by omega
theorem oq_56c7e517  : 3 ≠ 0 := by omega
theorem oq_d12e8ac3 {a0 a1 a2 : Int} (h0 : a0 = (a1 + 1)) (h1 : a2 ≤ a1) : a2 ≤ a0 := by omega
theorem oq_5492ee3c {a0 a1 a2 a3 a4 a5 : Int} (h0 : a0 = (a1 + 1)) (h1 : a2 = 32) (h2 : ((a3 ≤ a1 ∧ a2 = (-1)) ∨ (a1 < a3 ∧ (a2 = a4 ∧ (0 ≤ a2 ∧ a2 ≤ 255))))) : (a0 = a5 ∨ a0 ≤ a3) := by omega
theorem oq_563dee29 {a0 a1 a2 : Int} (h0 : a0 = (a1 + 1)) : (a2 - a0) < (a2 - a1) := by omega
theorem oq_6cc4defc {a0 a1 a2 a3 : Int} (h0 : a0 = 32) (h1 : ((a1 ≤ a2 ∧ a0 = (-1)) ∨ (a2 < a1 ∧ (a0 = a3 ∧ (0 ≤ a0 ∧ a0 ≤ 255))))) : 0 < (a1 - a2) := by omega
theorem oq_1b38bc36 {a0 a1 a2 a3 : Int} (h0 : ((a0 ≤ a1 ∧ a2 = (-1)) ∨ (a1 < a0 ∧ (a2 = a3 ∧ (0 ≤ a2 ∧ a2 ≤ 255))))) : (-2147483648) ≤ a2 := by omega
theorem oq_eabbb498 {a0 a1 a2 a3 : Int} (h0 : ((a0 ≤ a1 ∧ a2 = (-1)) ∨ (a1 < a0 ∧ (a2 = a3 ∧ (0 ≤ a2 ∧ a2 ≤ 255))))) : a2 ≤ 2147483647 := by omega
theorem oq_f9117428 {a0 a1 a2 a3 a4 : Int} (h0 : ((a0 ≤ a1 ∧ a2 = (-1)) ∨ (a1 < a0 ∧ (a2 = a3 ∧ (0 ≤ a2 ∧ a2 ≤ 255))))) (h1 : 0 ≤ a4) : (-2147483648) ≤ (((10 * a4) + a2) - 48) := by omega
theorem oq_84138788 {a0 a1 a2 a3 a4 : Int} (h0 : ((a0 ≤ a1 ∧ a2 = (-1)) ∨ (a1 < a0 ∧ (a2 = a3 ∧ (0 ≤ a2 ∧ a2 ≤ 255))))) (h1 : a4 ≤ 100000) : (((10 * a4) + a2) - 48) ≤ 2147483647 := by omega
theorem oq_644c4c0f {a0 a1 a2 a3 a4 a5 a6 a7 : Int} (h0 : a0 = (a1 + 1)) (h1 : ((a2 ≤ a1 ∧ a3 = (-1)) ∨ (a1 < a2 ∧ (a3 = a4 ∧ (0 ≤ a3 ∧ a3 ≤ 255))))) (h2 : a5 ≠ 0) (h3 : ((a5 = 1 ∧ (48 ≤ a6 ∧ a6 ≤ 57)) ∨ (a5 = 0 ∧ (a6 < 48 ∨ 57 < a6)))) (h4 : ((a2 ≤ a1 ∧ a6 = (-1)) ∨ (a1 < a2 ∧ (a6 = a4 ∧ (0 ≤ a6 ∧ a6 ≤ 255))))) : (a0 = a7 ∨ a0 ≤ a2) := by omega
theorem oq_e46695f2 {a0 a1 a2 a3 a4 a5 a6 : Int} (h0 : ((a0 ≤ a1 ∧ a2 = (-1)) ∨ (a1 < a0 ∧ (a2 = a3 ∧ (0 ≤ a2 ∧ a2 ≤ 255))))) (h1 : a4 ≠ 0) (h2 : ((a4 = 1 ∧ (48 ≤ a5 ∧ a5 ≤ 57)) ∨ (a4 = 0 ∧ (a5 < 48 ∨ 57 < a5)))) (h3 : ((a0 ≤ a1 ∧ a5 = (-1)) ∨ (a1 < a0 ∧ (a5 = a3 ∧ (0 ≤ a5 ∧ a5 ≤ 255))))) (h4 : 0 ≤ a6) : 0 ≤ (((10 * a6) + a2) - 48) := by omega
theorem oq_780de08e {a0 a1 a2 a3 a4 a5 : Int} (h0 : ((a0 ≤ a1 ∧ a2 = (-1)) ∨ (a1 < a0 ∧ (a2 = a3 ∧ (0 ≤ a2 ∧ a2 ≤ 255))))) (h1 : a4 ≠ 0) (h2 : ((a4 = 1 ∧ (48 ≤ a5 ∧ a5 ≤ 57)) ∨ (a4 = 0 ∧ (a5 < 48 ∨ 57 < a5)))) (h3 : ((a0 ≤ a1 ∧ a5 = (-1)) ∨ (a1 < a0 ∧ (a5 = a3 ∧ (0 ≤ a5 ∧ a5 ≤ 255))))) : 0 < (a0 - a1) := by omega
theorem oq_26db8f44 {a0 a1 a2 a3 a4 a5 a6 a7 : Int} (h0 : a0 = a1) (h1 : (a1 = a2 ∨ a1 ≤ a3)) (h2 : a4 ≠ 0) (h3 : ((a4 = 1 ∧ (48 ≤ a5 ∧ a5 ≤ 57)) ∨ (a4 = 0 ∧ (a5 < 48 ∨ 57 < a5)))) (h4 : ((a3 ≤ a6 ∧ a5 = (-1)) ∨ (a6 < a3 ∧ (a5 = a7 ∧ (0 ≤ a5 ∧ a5 ≤ 255))))) (h5 : a2 ≤ a6) : (a0 = a2 ∨ a0 ≤ a3) := by omega
theorem oq_5338757c {a0 a1 a2 a3 : Int} (h0 : a0 = a1) (h1 : (a1 ≤ (a2 + 1) ∨ a1 ≤ a3)) : (a0 ≤ (a2 + 1) ∨ a0 ≤ a3) := by omega
theorem oq_19ab3065 {a0 : Int} (h0 : a0 ≤ 380) : (a0 + 1) ≤ 400 := by omega
theorem oq_d73dfa11 {a0 a1 : Int} (h0 : a0 = (a1 + 1)) (h1 : a1 ≤ 380) : a0 ≤ 390 := by omega
theorem oq_00e34026 {a0 a1 a2 : Int} (h0 : a0 ≤ a1) (h1 : a0 = (a2 + 1)) : a2 ≤ a1 := by omega
theorem oq_eb11129c {a0 a1 a2 a3 : Int} (h0 : (a0 = a1 ∨ a0 ≤ a2)) (h1 : a1 = (a3 + 1)) : (a0 ≤ (a3 + 1) ∨ a0 ≤ a2) := by omega
theorem oq_2dcd477e {a0 a1 : Int} (h0 : a0 = a1) : a0 ≤ (a1 + 1) := by omega
theorem oq_849580a5 {a0 a1 a2 a3 a4 a5 : Int} (h0 : a0 = a1) (h1 : a2 ≤ a3) (h2 : 0 ≤ a1) (h3 : (a1 ≠ 0 ∨ a4 < a2)) (h4 : a4 ≤ a2) (h5 : a5 = 0) : ((400 - a3) + (9 - a0)) < ((400 - a4) + (9 - a5)) := by omega
theorem oq_17aafd1d {a0 a1 a2 a3 a4 a5 a6 : Int} (h0 : a0 = 0) (h1 : ((a1 = 1 ∧ (a2 = 0 ∧ (a3 = 1 ∧ a0 = 1))) ∨ ((a1 = 0 ∨ a2 ≠ 0) ∧ (a3 = a2 ∧ ((a0 = 0 ∧ a2 = 0) ∨ (a0 = 1 ∧ a2 ≠ 0)))))) (h2 : ((a4 ≠ 0 ∧ a1 = 0) ∨ (a4 = 0 ∧ a1 = 1))) (h3 : ((a4 = 1 ∧ (0 ≤ a5 ∧ a5 ≤ a6)) ∨ (a4 = 0 ∧ (a5 < 0 ∨ a6 < a5)))) (h4 : a2 = 0) : 0 ≤ a5 := by omega
theorem oq_805e9ec4 {a0 a1 a2 a3 a4 a5 a6 a7 : Int} (h0 : a0 = 0) (h1 : ((a1 = 1 ∧ (a2 = 0 ∧ (a3 = 1 ∧ a0 = 1))) ∨ ((a1 = 0 ∨ a2 ≠ 0) ∧ (a3 = a2 ∧ ((a0 = 0 ∧ a2 = 0) ∨ (a0 = 1 ∧ a2 ≠ 0)))))) (h2 : ((a4 ≠ 0 ∧ a1 = 0) ∨ (a4 = 0 ∧ a1 = 1))) (h3 : ((a4 = 1 ∧ (0 ≤ a5 ∧ a5 ≤ a6)) ∨ (a4 = 0 ∧ (a5 < 0 ∨ a6 < a5)))) (h4 : ((100 ≤ a7 ∧ a6 = 100) ∨ (a7 < 100 ∧ ((0 ≤ a7 ∧ a7 ≤ 200) ∧ a6 = a7)))) (h5 : a2 = 0) : a5 ≤ 200 := by omega
theorem oq_650b79d5 {a0 a1 a2 a3 a4 a5 a6 a7 a8 : Int} (h0 : a0 = 0) (h1 : ((a1 = 1 ∧ (a2 = 0 ∧ (a3 = 1 ∧ a0 = 1))) ∨ ((a1 = 0 ∨ a2 ≠ 0) ∧ (a3 = a2 ∧ ((a0 = 0 ∧ a2 = 0) ∨ (a0 = 1 ∧ a2 ≠ 0)))))) (h2 : ((a4 ≠ 0 ∧ a1 = 0) ∨ (a4 = 0 ∧ a1 = 1))) (h3 : ((a4 = 1 ∧ (0 ≤ a5 ∧ a5 ≤ a6)) ∨ (a4 = 0 ∧ (a5 < 0 ∨ a6 < a5)))) (h4 : ((100 ≤ a7 ∧ a6 = 100) ∨ (a7 < 100 ∧ ((0 ≤ a7 ∧ a7 ≤ 200) ∧ a6 = a7)))) (h5 : a7 = a8) (h6 : a2 = 0) : (0 ≤ a5 ∧ (a5 ≤ a8 ∧ a5 ≤ 100)) := by omega
theorem oq_52ce8ea5 {a0 a1 a2 a3 a4 a5 a6 a7 a8 a9 : Int} (h0 : a0 = a1) (h1 : a1 = a2) (h2 : a2 = a3) (h3 : a3 = a4) (h4 : a4 = a5) (h5 : a5 = a6) (h6 : a6 = a7) (h7 : a7 = a8) (h8 : a8 = a9) : a0 = a9 := by omega
theorem oq_5c6f094b {a0 a1 a2 a3 a4 : Int} (h0 : a0 ≠ 12) (h1 : a0 ≤ 12) (h2 : a0 = a1) (h3 : a1 = a2) (h4 : a2 = a3) (h5 : a3 = a4) : a4 ≤ 11 := by omega
theorem oq_6da3e861 {a0 a1 a2 a3 a4 a5 a6 a7 a8 a9 a10 : Int} (h0 : a0 = a1) (h1 : a1 = a2) (h2 : a2 = a3) (h3 : a3 = a4) (h4 : a4 = a5) (h5 : a5 = a6) (h6 : a6 = a7) (h7 : a8 = 0) (h8 : 0 ≤ a7) (h9 : ((a9 = 1 ∧ (a10 = 0 ∧ (a7 = 1 ∧ a8 = 1))) ∨ ((a9 = 0 ∨ a10 ≠ 0) ∧ (a7 = a10 ∧ ((a8 = 0 ∧ a10 = 0) ∨ (a8 = 1 ∧ a10 ≠ 0)))))) (h10 : a10 = 0) : a0 = 0 := by omega
theorem oq_8e7d85da {a0 : Int} (h0 : a0 ≤ 12) (h1 : 12 ≤ a0) : a0 = 12 := by omega
theorem oq_f5cb42c4 {a0 a1 a2 : Int} (h0 : a0 = (24 - (8 * (a1 - a2)))) (h1 : (a1 - a2) ≤ 4) : (-2147483648) ≤ a0 := by omega
theorem oq_d89f13d3 {a0 a1 a2 : Int} (h0 : a0 = (24 - (8 * (a1 - a2)))) (h1 : 0 ≤ (a1 - a2)) : a0 ≤ 2147483647 := by omega
theorem oq_ea6689cf {a0 a1 a2 : Int} (h0 : a0 < 0) (h1 : a0 = (24 - (8 * (a1 - a2)))) (h2 : (a1 - a2) ≤ 4) : a1 = (a2 + 4) := by omega
theorem oq_4fc289d0 {a0 a1 : Int} (h0 : (a0 - a1) ≤ 4) (h1 : a1 ≤ 196) (h2 : 200 ≤ a0) : a0 = (a1 + 4) := by omega
theorem oq_8fa37b92 {a0 a1 a2 a3 : Int} (h0 : a0 = (a1 + 1)) (h1 : a1 = a2) (h2 : 0 ≤ (a2 - a3)) : 0 ≤ (a0 - a3) := by omega
theorem oq_62cc9666 {a0 a1 a2 a3 a4 : Int} (h0 : a0 = (a1 + 1)) (h1 : a1 = a2) (h2 : 0 ≤ a3) (h3 : a3 = (24 - (8 * (a2 - a4)))) : (a0 - a4) ≤ 4 := by omega
theorem oq_770cdc6a {a0 a1 a2 a3 a4 : Int} (h0 : a0 = (a1 + 1)) (h1 : a2 = (24 - (8 * (a3 - a4)))) (h2 : a1 = a3) : (a2 + (-8)) = (24 - (8 * (a0 - a4))) := by omega
theorem oq_076d59f2 {a0 a1 a2 a3 a4 a5 a6 : Int} (h0 : a0 = 0) (h1 : ((1 = 1 ∧ (a1 = 0 ∧ (a2 = 2 ∧ a0 = 1))) ∨ ((1 = 0 ∨ a1 ≠ 0) ∧ (a2 = a1 ∧ ((a0 = 0 ∧ a1 = 0) ∨ (a0 = 1 ∧ a1 ≠ 0)))))) (h2 : a3 = 0) (h3 : 0 ≤ a1) (h4 : ((a4 = 1 ∧ (a5 = 0 ∧ (a1 = 1 ∧ a3 = 1))) ∨ ((a4 = 0 ∨ a5 ≠ 0) ∧ (a1 = a5 ∧ ((a3 = 0 ∧ a5 = 0) ∨ (a3 = 1 ∧ a5 ≠ 0)))))) (h5 : a5 = 0) : (0 ≤ a6 ∧ a6 ≤ 11) := by omega
theorem oq_351fca93 {a0 a1 a2 a3 a4 a5 a6 : Int} (h0 : a0 = 0) (h1 : ((1 = 1 ∧ (a1 = 0 ∧ (a2 = 2 ∧ a0 = 1))) ∨ ((1 = 0 ∨ a1 ≠ 0) ∧ (a2 = a1 ∧ ((a0 = 0 ∧ a1 = 0) ∨ (a0 = 1 ∧ a1 ≠ 0)))))) (h2 : a3 = 0) (h3 : 0 ≤ a1) (h4 : ((a4 = 1 ∧ (a5 = 0 ∧ (a1 = 1 ∧ a3 = 1))) ∨ ((a4 = 0 ∨ a5 ≠ 0) ∧ (a1 = a5 ∧ ((a3 = 0 ∧ a5 = 0) ∨ (a3 = 1 ∧ a5 ≠ 0)))))) (h5 : a5 = 0) : (0 ≤ a6 ∧ a6 ≤ 23) := by omega
theorem oq_8e25c494 {a0 a1 a2 a3 a4 a5 a6 : Int} (h0 : a0 = 0) (h1 : ((1 = 1 ∧ (a1 = 0 ∧ (a2 = 2 ∧ a0 = 1))) ∨ ((1 = 0 ∨ a1 ≠ 0) ∧ (a2 = a1 ∧ ((a0 = 0 ∧ a1 = 0) ∨ (a0 = 1 ∧ a1 ≠ 0)))))) (h2 : a3 = 0) (h3 : 0 ≤ a1) (h4 : ((a4 = 1 ∧ (a5 = 0 ∧ (a1 = 1 ∧ a3 = 1))) ∨ ((a4 = 0 ∨ a5 ≠ 0) ∧ (a1 = a5 ∧ ((a3 = 0 ∧ a5 = 0) ∨ (a3 = 1 ∧ a5 ≠ 0)))))) (h5 : a5 = 0) : (0 ≤ a6 ∧ a6 ≤ 50) := by omega
theorem oq_50a02c5b {a0 a1 a2 a3 a4 a5 a6 : Int} (h0 : a0 = 0) (h1 : ((1 = 1 ∧ (a1 = 0 ∧ (a2 = 2 ∧ a0 = 1))) ∨ ((1 = 0 ∨ a1 ≠ 0) ∧ (a2 = a1 ∧ ((a0 = 0 ∧ a1 = 0) ∨ (a0 = 1 ∧ a1 ≠ 0)))))) (h2 : a3 = 0) (h3 : 0 ≤ a1) (h4 : ((a4 = 1 ∧ (a5 = 0 ∧ (a1 = 1 ∧ a3 = 1))) ∨ ((a4 = 0 ∨ a5 ≠ 0) ∧ (a1 = a5 ∧ ((a3 = 0 ∧ a5 = 0) ∨ (a3 = 1 ∧ a5 ≠ 0)))))) (h5 : a5 = 0) : 0 ≤ a6 := by omega
theorem oq_852de6cf {a0 a1 a2 a3 a4 a5 a6 : Int} (h0 : a0 = 0) (h1 : ((1 = 1 ∧ (a1 = 0 ∧ (a2 = 2 ∧ a0 = 1))) ∨ ((1 = 0 ∨ a1 ≠ 0) ∧ (a2 = a1 ∧ ((a0 = 0 ∧ a1 = 0) ∨ (a0 = 1 ∧ a1 ≠ 0)))))) (h2 : a3 = 0) (h3 : 0 ≤ a1) (h4 : ((a4 = 1 ∧ (a5 = 0 ∧ (a1 = 1 ∧ a3 = 1))) ∨ ((a4 = 0 ∨ a5 ≠ 0) ∧ (a1 = a5 ∧ ((a3 = 0 ∧ a5 = 0) ∨ (a3 = 1 ∧ a5 ≠ 0)))))) (h5 : a5 = 0) : a6 ≤ 24 := by omega
theorem oq_0568af07 {a0 a1 a2 a3 a4 a5 : Int} (h0 : a0 = 0) (h1 : 0 ≤ a1) (h2 : ((1 = 1 ∧ (a2 = 0 ∧ (a1 = 2 ∧ a0 = 1))) ∨ ((1 = 0 ∨ a2 ≠ 0) ∧ (a1 = a2 ∧ ((a0 = 0 ∧ a2 = 0) ∨ (a0 = 1 ∧ a2 ≠ 0)))))) (h3 : a3 = 0) (h4 : ((a4 = 1 ∧ (a5 = 0 ∧ (a2 = 1 ∧ a3 = 1))) ∨ ((a4 = 0 ∨ a5 ≠ 0) ∧ (a2 = a5 ∧ ((a3 = 0 ∧ a5 = 0) ∨ (a3 = 1 ∧ a5 ≠ 0)))))) (h5 : a5 = 0) : a1 = 0 := by omega
theorem oq_b915df81 {a0 a1 a2 a3 a4 a5 a6 : Int} (h0 : a0 = 0) (h1 : ((1 = 1 ∧ (a1 = 0 ∧ (a2 = 2 ∧ a0 = 1))) ∨ ((1 = 0 ∨ a1 ≠ 0) ∧ (a2 = a1 ∧ ((a0 = 0 ∧ a1 = 0) ∨ (a0 = 1 ∧ a1 ≠ 0)))))) (h2 : a3 = 0) (h3 : 0 ≤ a1) (h4 : ((a4 = 1 ∧ (a5 = 0 ∧ (a1 = 1 ∧ a3 = 1))) ∨ ((a4 = 0 ∨ a5 ≠ 0) ∧ (a1 = a5 ∧ ((a3 = 0 ∧ a5 = 0) ∨ (a3 = 1 ∧ a5 ≠ 0)))))) (h5 : a5 = 0) : a6 < 12 := by omega
theorem oq_b78e71ae {a0 a1 a2 a3 a4 a5 a6 : Int} (h0 : a0 = 0) (h1 : ((1 = 1 ∧ (a1 = 0 ∧ (a2 = 2 ∧ a0 = 1))) ∨ ((1 = 0 ∨ a1 ≠ 0) ∧ (a2 = a1 ∧ ((a0 = 0 ∧ a1 = 0) ∨ (a0 = 1 ∧ a1 ≠ 0)))))) (h2 : a3 = 0) (h3 : 0 ≤ a1) (h4 : ((a4 = 1 ∧ (a5 = 0 ∧ (a1 = 1 ∧ a3 = 1))) ∨ ((a4 = 0 ∨ a5 ≠ 0) ∧ (a1 = a5 ∧ ((a3 = 0 ∧ a5 = 0) ∨ (a3 = 1 ∧ a5 ≠ 0)))))) (h5 : a5 = 0) : a6 ≤ 2 := by omega
theorem oq_b1e4434e {a0 a1 a2 a3 a4 a5 a6 : Int} (h0 : a0 = 0) (h1 : ((a1 = 1 ∧ (a2 = 0 ∧ (a3 = 1 ∧ a0 = 1))) ∨ ((a1 = 0 ∨ a2 ≠ 0) ∧ (a3 = a2 ∧ ((a0 = 0 ∧ a2 = 0) ∨ (a0 = 1 ∧ a2 ≠ 0)))))) (h2 : ((a4 ≠ 0 ∧ a1 = 0) ∨ (a4 = 0 ∧ a1 = 1))) (h3 : ((a4 = 1 ∧ (0 ≤ a5 ∧ a5 ≤ (a6 - 1))) ∨ (a4 = 0 ∧ (a5 < 0 ∨ (a6 - 1) < a5)))) (h4 : a2 = 0) : 0 ≤ a5 := by omega
theorem oq_00fd1383 {a0 a1 a2 a3 a4 a5 a6 : Int} (h0 : a0 = 0) (h1 : ((a1 = 1 ∧ (a2 = 0 ∧ (a3 = 1 ∧ a0 = 1))) ∨ ((a1 = 0 ∨ a2 ≠ 0) ∧ (a3 = a2 ∧ ((a0 = 0 ∧ a2 = 0) ∨ (a0 = 1 ∧ a2 ≠ 0)))))) (h2 : ((a4 ≠ 0 ∧ a1 = 0) ∨ (a4 = 0 ∧ a1 = 1))) (h3 : ((a4 = 1 ∧ (0 ≤ a5 ∧ a5 ≤ (a6 - 1))) ∨ (a4 = 0 ∧ (a5 < 0 ∨ (a6 - 1) < a5)))) (h4 : a6 ≤ 12) (h5 : a2 = 0) : a5 < 12 := by omega
theorem oq_69fe46bc {a0 a1 a2 a3 a4 a5 a6 a7 a8 : Int} (h0 : a0 = 0) (h1 : ((a1 = 1 ∧ (a2 = 0 ∧ (a3 = 2 ∧ a0 = 1))) ∨ ((a1 = 0 ∨ a2 ≠ 0) ∧ (a3 = a2 ∧ ((a0 = 0 ∧ a2 = 0) ∨ (a0 = 1 ∧ a2 ≠ 0)))))) (h2 : ((a4 ≠ 0 ∧ a1 = 0) ∨ (a4 = 0 ∧ a1 = 1))) (h3 : ((a4 = 1 ∧ (0 ≤ a5 ∧ a5 ≤ 2)) ∨ (a4 = 0 ∧ (a5 < 0 ∨ 2 < a5)))) (h4 : a6 = 0) (h5 : 0 ≤ a2) (h6 : ((a7 = 1 ∧ (a8 = 0 ∧ (a2 = 1 ∧ a6 = 1))) ∨ ((a7 = 0 ∨ a8 ≠ 0) ∧ (a2 = a8 ∧ ((a6 = 0 ∧ a8 = 0) ∨ (a6 = 1 ∧ a8 ≠ 0)))))) (h7 : a8 = 0) : 0 ≤ a5 := by omega
theorem oq_bf244170 {a0 a1 a2 a3 a4 a5 a6 a7 a8 : Int} (h0 : a0 = 0) (h1 : ((a1 = 1 ∧ (a2 = 0 ∧ (a3 = 2 ∧ a0 = 1))) ∨ ((a1 = 0 ∨ a2 ≠ 0) ∧ (a3 = a2 ∧ ((a0 = 0 ∧ a2 = 0) ∨ (a0 = 1 ∧ a2 ≠ 0)))))) (h2 : ((a4 ≠ 0 ∧ a1 = 0) ∨ (a4 = 0 ∧ a1 = 1))) (h3 : ((a4 = 1 ∧ (0 ≤ a5 ∧ a5 ≤ 2)) ∨ (a4 = 0 ∧ (a5 < 0 ∨ 2 < a5)))) (h4 : a6 = 0) (h5 : 0 ≤ a2) (h6 : ((a7 = 1 ∧ (a8 = 0 ∧ (a2 = 1 ∧ a6 = 1))) ∨ ((a7 = 0 ∨ a8 ≠ 0) ∧ (a2 = a8 ∧ ((a6 = 0 ∧ a8 = 0) ∨ (a6 = 1 ∧ a8 ≠ 0)))))) (h7 : a8 = 0) : a5 ≤ 2 := by omega
/-! Texts on the tape, as functions: blanks, numbers, moves, a way -/
/-- from p on the first place that holds no blank -/
def skT (B : Nat → Int) (N : Int) : Nat → Int → Int
  | 0, p => p
  | f + 1, p => if p < N ∧ B p.toNat = 32 then skT B N f (p + 1) else p
def sk (B : Nat → Int) (N p : Int) : Int := skT B N (N - p).toNat p
theorem sk_blank {B : Nat → Int} {N p : Int} (h : p < N) (hb : B p.toNat = 32) : sk B N p = sk B N (p + 1) := by
  unfold sk
  have e : (N - p).toNat = (N - (p + 1)).toNat + 1 := by first | exact oq_03f997cb h | omega
  rw [e]
  show (if p < N ∧ B p.toNat = 32 then skT B N (N - (p + 1)).toNat (p + 1) else p) = _
  rw [if_pos ⟨h, hb⟩]
theorem sk_stop {B : Nat → Int} {N p : Int} (h : N ≤ p ∨ B p.toNat ≠ 32) : sk B N p = p := by
  unfold sk
  cases e : (N - p).toNat with
  | zero => rfl
  | succ f =>
    show (if p < N ∧ B p.toNat = 32 then skT B N f (p + 1) else p) = p
    rw [if_neg (fun q => h.elim (fun z => by omega) (fun z => z q.2))]
theorem sk_lo {B : Nat → Int} {N : Int} : ∀ (f : Nat) {p : Int}, (N - p).toNat ≤ f → p ≤ sk B N p
  | 0, p, h => by rw [sk_stop (Or.inl (by omega))]; exact Int.le_refl _
  | f + 1, p, h => by
    by_cases q : p < N ∧ B p.toNat = 32
    · rw [sk_blank q.1 q.2]
      have := sk_lo (B := B) (N := N) f (p := p + 1) (by first | exact oq_e452e043 h | omega)
      omega
    · rw [sk_stop (by
        by_cases z : p < N
        · exact Or.inr (fun w => q ⟨z, w⟩)
        · exact Or.inl (by first | exact oq_c41c5ad9 z | omega))]
      exact Int.le_refl _
theorem sk_le {B : Nat → Int} {N p : Int} : p ≤ sk B N p := sk_lo _ (Nat.le_refl _)
def cap (v : Int) : Int := if 100000 < v then 100000 else v
def nmT (B : Nat → Int) (N : Int) : Nat → Int → Int → Int × Int
  | 0, p, v => (v, p)
  | f + 1, p, v => if p < N ∧ 48 ≤ B p.toNat ∧ B p.toNat ≤ 57 then nmT B N f (p + 1) (cap (10 * v + B p.toNat - 48)) else (v, p)
def nmV (B : Nat → Int) (N p v : Int) : Int := (nmT B N (N - p).toNat p v).1
def nmE (B : Nat → Int) (N p v : Int) : Int := (nmT B N (N - p).toNat p v).2
theorem nmT_dig {B : Nat → Int} {N p v : Int} (h : p < N) (h1 : 48 ≤ B p.toNat) (h2 : B p.toNat ≤ 57) : nmT B N (N - p).toNat p v = nmT B N (N - (p + 1)).toNat (p + 1) (cap (10 * v + B p.toNat - 48)) := by
  have e : (N - p).toNat = (N - (p + 1)).toNat + 1 := by first | exact oq_03f997cb h | omega
  rw [e]
  show (if p < N ∧ 48 ≤ B p.toNat ∧ B p.toNat ≤ 57 then _ else _) = _
  rw [if_pos ⟨h, h1, h2⟩]
theorem nmV_dig {B : Nat → Int} {N p v : Int} (h : p < N) (h1 : 48 ≤ B p.toNat) (h2 : B p.toNat ≤ 57) : nmV B N p v = nmV B N (p + 1) (cap (10 * v + B p.toNat - 48)) := congrArg Prod.fst (nmT_dig h h1 h2)
theorem nmE_dig {B : Nat → Int} {N p v : Int} (h : p < N) (h1 : 48 ≤ B p.toNat) (h2 : B p.toNat ≤ 57) : nmE B N p v = nmE B N (p + 1) (cap (10 * v + B p.toNat - 48)) := congrArg Prod.snd (nmT_dig h h1 h2)
theorem nmT_stop {B : Nat → Int} {N p v : Int} (h : N ≤ p ∨ B p.toNat < 48 ∨ 57 < B p.toNat) : nmT B N (N - p).toNat p v = (v, p) := by
  cases e : (N - p).toNat with
  | zero => rfl
  | succ f =>
    show (if p < N ∧ 48 ≤ B p.toNat ∧ B p.toNat ≤ 57 then _ else _) = _
    rw [if_neg (by first | exact oq_faa1dbc6 h | omega)]
theorem nmV_stop {B : Nat → Int} {N p v : Int} (h : N ≤ p ∨ B p.toNat < 48 ∨ 57 < B p.toNat) : nmV B N p v = v := congrArg Prod.fst (nmT_stop h)
theorem nmE_stop {B : Nat → Int} {N p v : Int} (h : N ≤ p ∨ B p.toNat < 48 ∨ 57 < B p.toNat) : nmE B N p v = p := congrArg Prod.snd (nmT_stop h)
theorem nmE_lo {B : Nat → Int} {N : Int} : ∀ (f : Nat) {p v : Int}, (N - p).toNat ≤ f → p ≤ nmE B N p v
  | 0, p, v, h => by rw [nmE_stop (Or.inl (by omega))]; exact Int.le_refl _
  | f + 1, p, v, h => by
    by_cases q : p < N ∧ 48 ≤ B p.toNat ∧ B p.toNat ≤ 57
    · rw [nmE_dig q.1 q.2.1 q.2.2]
      have := nmE_lo (B := B) (N := N) f (p := p + 1) (v := cap (10 * v + B p.toNat - 48)) (by first | exact oq_e452e043 h | omega)
      omega
    · rw [nmE_stop (by first | exact oq_f821f258 q | omega)]
      exact Int.le_refl _
theorem nmE_le {B : Nat → Int} {N p v : Int} : p ≤ nmE B N p v := nmE_lo _ (Nat.le_refl _)
/-- the direction of a letter; the cell beside another one -/
def dirT (c : Int) : Int := if c = 114 then 0 else if c = 108 then 1 else if c = 100 then 2 else if c = 117 then 3 else if c = 99 then 4 else if c = 115 then 5 else -1
def besT (x d : Int) : Int :=
  if d = 0 then (if x % 8 = 7 then -1 else x + 1)
  else if d = 1 then (if x % 8 = 0 then -1 else x - 1)
  else if d = 2 then (if x / 8 % 8 = 7 then -1 else x + 8)
  else if d = 3 then (if x / 8 % 8 = 0 then -1 else x - 8)
  else if d = 4 then (if x / 64 = 1 then -1 else x + 64)
  else (if x / 64 = 0 then -1 else x - 64)
/-- cells told so far: how many, which -/
abbrev WyA : Type := Int × (Nat → Int)
def isT (f : Nat → Int) (x : Int) : Nat → Bool
  | 0 => false
  | k + 1 => isT f x k || decide (f k = x)
theorem isT_t {f : Nat → Int} {x : Int} : ∀ {n : Nat}, isT f x n = true → ∃ k, k < n ∧ f k = x
  | 0, h => by cases h
  | n + 1, h => by
    rcases Bool.or_eq_true _ _ |>.mp h with q | q
    · obtain ⟨k, h1, h2⟩ := isT_t q
      exact ⟨k, by first | exact oq_9165f1af h1 | omega, h2⟩
    · exact ⟨n, by first | exact oq_626cdfd6 | omega, of_decide_eq_true q⟩
theorem isT_of {f : Nat → Int} {x : Int} : ∀ {n k : Nat}, k < n → f k = x → isT f x n = true
  | 0, k, h, _ => absurd h (Nat.not_lt_zero _)
  | n + 1, k, h, e => by
    show (isT f x n || decide (f n = x)) = true
    by_cases q : k = n
    · rw [← q, e, decide_eq_true rfl, Bool.or_true]
    · rw [isT_of (n := n) (k := k) (by first | exact oq_dad8d58a q h | omega) e, Bool.true_or]
theorem isT_f {f : Nat → Int} {x : Int} {n : Nat} (h : ∀ k, k < n → f k ≠ x) : isT f x n = false := by
  cases e : isT f x n with
  | false => rfl
  | true => obtain ⟨k, h1, h2⟩ := isT_t e; exact absurd h2 (h k h1)
def extT (d : Int) (a : WyA) : Option WyA :=
  if besT (a.2 (a.1 - 1).toNat) d = -1 then none
  else if a.1 = 24 then none
  else if isT a.2 (besT (a.2 (a.1 - 1).toNat) d) a.1.toNat = true then none
  else some (a.1 + 1, fun k => if k = a.1.toNat then besT (a.2 (a.1 - 1).toNat) d else a.2 k)
def extN (d : Int) : Nat → WyA → Option WyA
  | 0, a => some a
  | t + 1, a => match extT d a with
    | none => none
    | some a' => extN d t a'
/-- a move at q: where it ends, what is told then -/
def mvT (B : Nat → Int) (N q : Int) (a : WyA) : Option (Int × WyA) :=
  if dirT (B q.toNat) = -1 then none
  else if dirT (B q.toNat) < 4 ∧ sk B N (q + 1) < N ∧ 48 ≤ B (sk B N (q + 1)).toNat ∧ B (sk B N (q + 1)).toNat ≤ 57 then
    (if nmV B N (sk B N (q + 1)) 0 < 1 ∨ 7 < nmV B N (sk B N (q + 1)) 0 then none
     else (extN (dirT (B q.toNat)) (nmV B N (sk B N (q + 1)) 0).toNat a).map (fun a' => (sk B N (nmE B N (sk B N (q + 1)) 0), a')))
  else (extN (dirT (B q.toNat)) 1 a).map (fun a' => (sk B N (q + 1), a'))
def wT (B : Nat → Int) (N : Int) : Nat → Int → WyA → Option WyA
  | 0, q, a => if N ≤ q then some a else none
  | f + 1, q, a => if N ≤ q then some a else match mvT B N q a with
    | none => none
    | some p => wT B N f p.1 p.2
/-- from q with a the way comes out as R -/
def WyI (B : Nat → Int) (N q : Int) (a : WyA) (R : Option WyA) : Prop := ∃ f : Nat, N - q ≤ (f : Int) ∧ wT B N f q a = R
theorem wi_0 {B : Nat → Int} {N q : Int} {a : WyA} (h : 0 ≤ q) (hN : 0 ≤ N) : WyI B N q a (wT B N N.toNat q a) := ⟨N.toNat, by first | exact oq_2fe7ae4a h | omega, rfl⟩
theorem wi_end {B : Nat → Int} {N q : Int} {a : WyA} {R : Option WyA} (h : WyI B N q a R) (hq : N ≤ q) : R = some a := by
  obtain ⟨f, -, h⟩ := h
  cases f with
  | zero => rw [← h]; exact if_pos hq
  | succ f => rw [← h]; exact if_pos hq
theorem wi_none {B : Nat → Int} {N q : Int} {a : WyA} {R : Option WyA} (h : WyI B N q a R) (hq : q < N) (hm : mvT B N q a = none) : R = none := by
  obtain ⟨f, h0, h⟩ := h
  cases f with
  | zero => omega
  | succ f =>
    rw [← h]
    show (if N ≤ q then some a else match mvT B N q a with | none => none | some p => wT B N f p.1 p.2) = none
    rw [if_neg (by first | exact oq_37cad8da hq | omega), hm]
theorem wi_step {B : Nat → Int} {N q q' : Int} {a a' : WyA} {R : Option WyA} (h : WyI B N q a R) (hq : q < N) (hm : mvT B N q a = some (q', a')) (hl : q < q') : WyI B N q' a' R := by
  obtain ⟨f, h0, h⟩ := h
  cases f with
  | zero => omega
  | succ f =>
    refine ⟨f, by first | exact oq_77dafc97 h0 hl | omega, ?_⟩
    rw [← h]
    show _ = (if N ≤ q then some a else match mvT B N q a with | none => none | some p => wT B N f p.1 p.2)
    rw [if_neg (by first | exact oq_37cad8da hq | omega), hm]
/-- the way that a text of N bytes tells -/
def parseT (B : Nat → Int) (N : Int) : Option WyA :=
  if sk B N 0 < N ∧ 48 ≤ B (sk B N 0).toNat ∧ B (sk B N 0).toNat ≤ 57 then
    (if 127 < nmV B N (sk B N 0) 0 then none
     else wT B N N.toNat (sk B N (nmE B N (sk B N 0) 0)) (1, fun _ => nmV B N (sk B N 0) 0))
  else none
/-- the ends of a move -/
theorem mv_dir {B : Nat → Int} {N q : Int} {a : WyA} (h : dirT (B q.toNat) = -1) : mvT B N q a = none := by unfold mvT; rw [if_pos h]
theorem mv_num {B : Nat → Int} {N q r : Int} {a : WyA} (h : dirT (B q.toNat) ≠ -1) (hr : r = sk B N (q + 1)) (h1 : dirT (B q.toNat) < 4) (h2 : r < N) (h3 : 48 ≤ B r.toNat) (h4 : B r.toNat ≤ 57) (h5 : nmV B N r 0 < 1 ∨ 7 < nmV B N r 0) : mvT B N q a = none := by
  subst hr
  unfold mvT; rw [if_neg h, if_pos ⟨h1, h2, h3, h4⟩, if_pos h5]
theorem mv_many {B : Nat → Int} {N q r : Int} {a : WyA} (h : dirT (B q.toNat) ≠ -1) (hr : r = sk B N (q + 1)) (h1 : dirT (B q.toNat) < 4) (h2 : r < N) (h3 : 48 ≤ B r.toNat) (h4 : B r.toNat ≤ 57) (h5 : 1 ≤ nmV B N r 0) (h6 : nmV B N r 0 ≤ 7) : mvT B N q a = (extN (dirT (B q.toNat)) (nmV B N r 0).toNat a).map (fun a' => (sk B N (nmE B N r 0), a')) := by
  subst hr
  unfold mvT; rw [if_neg h, if_pos ⟨h1, h2, h3, h4⟩, if_neg (by first | exact oq_16ac5537 h6 h5 | omega)]
theorem mv_one {B : Nat → Int} {N q r : Int} {a : WyA} (h : dirT (B q.toNat) ≠ -1) (hr : r = sk B N (q + 1)) (h1 : 4 ≤ dirT (B q.toNat) ∨ N ≤ r ∨ B r.toNat < 48 ∨ 57 < B r.toNat) : mvT B N q a = (extN (dirT (B q.toNat)) 1 a).map (fun a' => (r, a')) := by
  subst hr
  unfold mvT; rw [if_neg h, if_neg (by first | exact oq_8b474cce h1 | omega)]
/-- the sign of the text that was read last: where it begins is st, behind it a, its kind k, its value v -/
def TKN (B : Nat → Int) (N k st a v : Int) : Prop := (N ≤ st ∧ k = -1) ∨ (st < N ∧ 48 ≤ B st.toNat ∧ B st.toNat ≤ 57 ∧ k = -2 ∧ v = nmV B N st 0 ∧ a = nmE B N st 0) ∨ (st < N ∧ (B st.toNat < 48 ∨ 57 < B st.toNat) ∧ k = B st.toNat ∧ 0 ≤ k ∧ a = st + 1)
theorem tkn_num {B : Nat → Int} {N k st a v x Q : Int} (hx : x = Q) (hs : st = Q) (h : Q < N) (h1 : 48 ≤ B x.toNat) (h2 : B x.toNat ≤ 57) (hk : k = -2) (hv : v = nmV B N Q 0) (ha : a = nmE B N Q 0) : TKN B N k st a v := by
  subst hx hs
  exact Or.inr (Or.inl ⟨h, h1, h2, hk, hv, ha⟩)
theorem tkn_sig {B : Nat → Int} {N k st a v x Q : Int} (hx : x = Q) (hs : st = Q) (h : Q < N) (h1 : B x.toNat < 48 ∨ 57 < B x.toNat) (hk : k = B x.toNat) (h0 : 0 ≤ k) (ha : a = Q + 1) : TKN B N k st a v := by
  subst hx hs
  exact Or.inr (Or.inr ⟨h, h1, hk, h0, ha⟩)
theorem bes_of {x y e : Int} (h : ((y = 0 ∧ ((x % 8 = 7 ∧ e = -1) ∨ (¬ x % 8 = 7 ∧ e = x + 1))) ∨ (y = 1 ∧ ((x % 8 = 0 ∧ e = -1) ∨ (¬ x % 8 = 0 ∧ e = x - 1))) ∨ (y = 2 ∧ ((x / 8 % 8 = 7 ∧ e = -1) ∨ (¬ x / 8 % 8 = 7 ∧ e = x + 8))) ∨ (y = 3 ∧ ((x / 8 % 8 = 0 ∧ e = -1) ∨ (¬ x / 8 % 8 = 0 ∧ e = x - 8))) ∨ (y = 4 ∧ ((x / 64 = 1 ∧ e = -1) ∨ (¬ x / 64 = 1 ∧ e = x + 64))) ∨ (y = 5 ∧ ((x / 64 = 0 ∧ e = -1) ∨ (¬ x / 64 = 0 ∧ e = x - 64)))) ∧ -1 ≤ e ∧ e ≤ 127) : e = besT x y := by
  unfold besT
  rcases h.1 with ⟨h1, h2⟩ | ⟨h1, h2⟩ | ⟨h1, h2⟩ | ⟨h1, h2⟩ | ⟨h1, h2⟩ | ⟨h1, h2⟩
  · rw [if_pos h1]
    rcases h2 with ⟨p, q⟩ | ⟨p, q⟩
    · rw [if_pos p]; exact q
    · rw [if_neg p]; exact q
  · rw [if_neg (by first | exact oq_9f5a5b3a h1 | omega), if_pos h1]
    rcases h2 with ⟨p, q⟩ | ⟨p, q⟩
    · rw [if_pos p]; exact q
    · rw [if_neg p]; exact q
  · rw [if_neg (by first | exact oq_d3de7c49 h1 | omega), if_neg (by first | exact oq_f92a85f6 h1 | omega), if_pos h1]
    rcases h2 with ⟨p, q⟩ | ⟨p, q⟩
    · rw [if_pos p]; exact q
    · rw [if_neg p]; exact q
  · rw [if_neg (by first | exact oq_c967d1d4 h1 | omega), if_neg (by first | exact oq_292bbef5 h1 | omega), if_neg (by first | exact oq_41f851c4 h1 | omega), if_pos h1]
    rcases h2 with ⟨p, q⟩ | ⟨p, q⟩
    · rw [if_pos p]; exact q
    · rw [if_neg p]; exact q
  · rw [if_neg (by first | exact oq_11e52147 h1 | omega), if_neg (by first | exact oq_b57efda6 h1 | omega), if_neg (by first | exact oq_ed259143 h1 | omega), if_neg (by first | exact oq_a4e47477 h1 | omega), if_pos h1]
    rcases h2 with ⟨p, q⟩ | ⟨p, q⟩
    · rw [if_pos p]; exact q
    · rw [if_neg p]; exact q
  · rw [if_neg (by first | exact oq_f8af7347 h1 | omega), if_neg (by first | exact oq_54e0811b h1 | omega), if_neg (by first | exact oq_baa0d45f h1 | omega), if_neg (by first | exact oq_8482f21b h1 | omega), if_neg (by first | exact oq_50454c62 h1 | omega)]
    rcases h2 with ⟨p, q⟩ | ⟨p, q⟩
    · rw [if_pos p]; exact q
    · rw [if_neg p]; exact q
/-- the array of cells ar, as many as the symbol tz says, is a -/
def AGx (ar tz : Nat) (a : WyA) (s : PS) : Prop := a.1 = iI s tz ∧ ∀ k : Nat, (k : Int) < a.1 → a.2 k = iC s ar k
theorem ag_sam {ar tz : Nat} {a : WyA} {s t : PS} (h : AGx ar tz a s) (h1 : SAM ar s t) (h2 : iI t tz = iI s tz) : AGx ar tz a t := ⟨h.1.trans h2.symm, fun k hk => (h.2 k hk).trans (h1 k).symm⟩
theorem ag_at {ar tz : Nat} {a : WyA} {s : PS} (h : AGx ar tz a s) {c : Int} (h0 : 0 ≤ c) (h1 : c < a.1) : iC s ar c.toNat = a.2 c.toNat := (h.2 _ (by first | exact oq_084ea114 h1 h0 | omega)).symm
/-- one step more: what comes of it -/
def EXR (ar tz : Nat) (d : Int) (a : WyA) (t : PS) : Prop := ∃ a', extT d a = some a' ∧ AGx ar tz a' t ∧ a'.1 = a.1 + 1
theorem ext_no1 {d c nx : Int} {a : WyA} (hc : c = a.2 (a.1 - 1).toNat) (hn : nx = besT c d) (h : nx = -1) : extT d a = none := by
  unfold extT
  rw [← hc, ← hn, if_pos h]
theorem ext_no2 {d c nx : Int} {a : WyA} (hc : c = a.2 (a.1 - 1).toNat) (hn : nx = besT c d) (h : nx ≠ -1) (h2 : a.1 = 24) : extT d a = none := by
  unfold extT
  rw [← hc, ← hn, if_neg h, if_pos h2]
theorem ext_no3 {ar tz : Nat} {d c nx : Int} {a : WyA} {s : PS} (hc : c = a.2 (a.1 - 1).toNat) (hn : nx = besT c d) (h : nx ≠ -1) (h2 : a.1 ≠ 24) (hA : AGx ar tz a s) (hh : HAS ar (iI s tz) nx s) : extT d a = none := by
  unfold extT
  have e : isT a.2 nx a.1.toNat = true := by
    obtain ⟨j, h3, h4⟩ := hh
    have h5 : (j : Int) < a.1 := by rw [hA.1]; exact h3
    exact isT_of (k := j) (by omega) (by rw [hA.2 j h5]; exact h4)
  rw [← hc, ← hn, if_neg h, if_neg h2, if_pos e]
theorem ext_yes {ar tz : Nat} {d c nx : Int} {a : WyA} {s t : PS} (hc : c = a.2 (a.1 - 1).toNat) (hn : nx = besT c d) (h : nx ≠ -1) (h2 : a.1 ≠ 24) (h0 : 0 ≤ a.1) (hA : AGx ar tz a s) (hh : NHS ar (iI s tz) nx s) (hu : UPD ar (iI s tz) nx s t) (ht : iI t tz = iI s tz + 1) : EXR ar tz d a t := by
  have e : isT a.2 nx a.1.toNat = false := isT_f (fun k hk => by
    have h5 : (k : Int) < a.1 := by omega
    rw [hA.2 k h5]
    exact hh k (by rw [← hA.1]; exact h5))
  refine ⟨(a.1 + 1, fun k => if k = a.1.toNat then nx else a.2 k), ?_, ⟨by rw [ht, ← hA.1], fun k hk => ?_⟩, rfl⟩
  · unfold extT
    rw [← hc, ← hn, if_neg h, if_neg h2, e, if_neg (by decide)]
  · show (if k = a.1.toNat then nx else a.2 k) = _
    replace hk : (k : Int) < a.1 + 1 := hk
    by_cases q : k = a.1.toNat
    · rw [if_pos q, q, hA.1]; exact hu.1.symm
    · rw [if_neg q, hu.2 k (by rw [← hA.1]; exact q)]; exact hA.2 k (by omega)
/-- so many steps -/
theorem en_step {d : Int} {n : Nat} {a a' : WyA} (h : extT d a = some a') : extN d (n + 1) a = extN d n a' := by
  show (match extT d a with | none => none | some a' => extN d n a') = _
  rw [h]
theorem en_none {d : Int} {n : Nat} {a : WyA} (h : extT d a = none) : extN d (n + 1) a = none := by
  show (match extT d a with | none => none | some a' => extN d n a') = _
  rw [h]
/-- c of m steps are made; what all of them come to is R -/
def ENI (ar tz : Nat) (d m c : Int) (R : Option WyA) (t : PS) : Prop := ∃ a : WyA, extN d (m - c).toNat a = R ∧ AGx ar tz a t ∧ 1 ≤ a.1 ∧ a.1 ≤ 24
theorem eni_end {ar tz : Nat} {d m c : Int} {R : Option WyA} {t : PS} (h : ENI ar tz d m c R t) (hc : m ≤ c) : ∃ a, R = some a ∧ AGx ar tz a t ∧ 1 ≤ a.1 ∧ a.1 ≤ 24 := by
  obtain ⟨a, h1, h2, h3⟩ := h
  have e : (m - c).toNat = 0 := by first | exact oq_976ee547 hc | omega
  rw [e] at h1
  exact ⟨a, h1.symm, h2, h3⟩
theorem tkn_end {B : Nat → Int} {N k st a v : Int} (h : TKN B N k st a v) (hk : k = -1) : N ≤ st := by
  rcases h with h | h | h <;> omega
theorem tkn_ne {B : Nat → Int} {N k st a v : Int} (h : TKN B N k st a v) (hk : k ≠ -1) : st < N := by
  rcases h with h | h | h <;> omega
theorem tkn_is {B : Nat → Int} {N k st a v : Int} (h : TKN B N k st a v) (hk : k = -2) : st < N ∧ 48 ≤ B st.toNat ∧ B st.toNat ≤ 57 ∧ v = nmV B N st 0 ∧ a = nmE B N st 0 := by
  rcases h with h | h | h
  · omega
  · exact ⟨h.1, h.2.1, h.2.2.1, h.2.2.2.2⟩
  · omega
theorem tkn_nn {B : Nat → Int} {N k st a v : Int} (h : TKN B N k st a v) (hk : k ≠ -2) : N ≤ st ∨ B st.toNat < 48 ∨ 57 < B st.toNat := by
  rcases h with h | h | h <;> omega
theorem dir_dig {c : Int} (h1 : 48 ≤ c) (h2 : c ≤ 57) : dirT c = -1 := by
  unfold dirT
  rw [if_neg (by first | exact oq_a9aa2358 h2 | omega), if_neg (by first | exact oq_c9e80a8a h2 | omega), if_neg (by first | exact oq_cfa7cb80 h2 | omega), if_neg (by first | exact oq_fee9ea2f h2 | omega), if_neg (by first | exact oq_c3407a42 h2 | omega), if_neg (by first | exact oq_f5e903f5 h2 | omega)]
theorem tkn_dir {B : Nat → Int} {N k st a v : Int} (h : TKN B N k st a v) (hk : k ≠ -1) : dirT k = dirT (B st.toNat) := by
  rcases h with h | h | h
  · omega
  · rw [dir_dig h.2.1 h.2.2.1, h.2.2.2.1]; rfl
  · rw [h.2.2.1]
theorem tkn_at {B : Nat → Int} {N k st a v : Int} (h : TKN B N k st a v) (hk : k ≠ -1) (hd : dirT k ≠ -1) : a = st + 1 := by
  rcases h with h | h | h
  · omega
  · exact absurd (by rw [h.2.2.2.1]; rfl) hd
  · exact h.2.2.2.2
theorem nmE_gt {B : Nat → Int} {N p v : Int} (h : p < N) (h1 : 48 ≤ B p.toNat) (h2 : B p.toNat ≤ 57) : p + 1 ≤ nmE B N p v := by
  rw [nmE_dig h h1 h2]; exact nmE_le
theorem sk_sk {B : Nat → Int} {N p : Int} : sk B N (sk B N p) = sk B N p := by
  have L : ∀ (f : Nat) {p : Int}, (N - p).toNat ≤ f → sk B N (sk B N p) = sk B N p := by
    intro f
    induction f with
    | zero => intro p h; rw [sk_stop (p := p) (Or.inl (by first | exact oq_dc5aee21 h | omega)), sk_stop (p := p) (Or.inl (by first | exact oq_dc5aee21 h | omega))]
    | succ f ih =>
      intro p h
      by_cases q : p < N ∧ B p.toNat = 32
      · rw [sk_blank q.1 q.2]; exact ih (by first | exact oq_e452e043 h | omega)
      · have e : sk B N p = p := sk_stop (by
          by_cases z : p < N
          · exact Or.inr (fun w => q ⟨z, w⟩)
          · exact Or.inl (by first | exact oq_c41c5ad9 z | omega))
        rw [e, e]
  exact L _ (Nat.le_refl _)
theorem dir_of {c e : Int} (h : (c = 114 ∧ e = 0) ∨ (c = 108 ∧ e = 1) ∨ (c = 100 ∧ e = 2) ∨ (c = 117 ∧ e = 3) ∨ (c = 99 ∧ e = 4) ∨ (c = 115 ∧ e = 5) ∨ (c ≠ 114 ∧ c ≠ 108 ∧ c ≠ 100 ∧ c ≠ 117 ∧ c ≠ 99 ∧ c ≠ 115 ∧ e = -1)) : e = dirT c := by
  rcases h with ⟨h, z⟩ | ⟨h, z⟩ | ⟨h, z⟩ | ⟨h, z⟩ | ⟨h, z⟩ | ⟨h, z⟩ | ⟨h1, h2, h3, h4, h5, h6, z⟩
  · rw [h, z]; rfl
  · rw [h, z]; rfl
  · rw [h, z]; rfl
  · rw [h, z]; rfl
  · rw [h, z]; rfl
  · rw [h, z]; rfl
  · unfold dirT
    rw [if_neg h1, if_neg h2, if_neg h3, if_neg h4, if_neg h5, if_neg h6]; exact z
/-- the model's number at p: its value e, where it ends a; f0, f1 the fault ahead of it and behind it -/
def NUR (B : Nat → Int) (N p x y e f0 f1 a : Int) : Prop := e = nmV B N (sk B N p) 0 ∧ a = nmE B N (sk B N p) 0 ∧ ((f0 ≠ 0 ∧ f1 ≠ 0) ∨ (f0 = 0 ∧ f1 = 0 ∧ sk B N p < N ∧ 48 ≤ B (sk B N p).toNat ∧ B (sk B N p).toNat ≤ 57 ∧ x ≤ e ∧ e ≤ y) ∨ (f0 = 0 ∧ f1 ≠ 0 ∧ (N ≤ sk B N p ∨ B (sk B N p).toNat < 48 ∨ 57 < B (sk B N p).toNat ∨ e < x ∨ y < e)))
/-- whether a digit stands there -/
def NDG (B : Nat → Int) (N p f0 f1 : Int) : Prop := (f1 = f0 ∧ sk B N p < N ∧ 48 ≤ B (sk B N p).toNat ∧ B (sk B N p).toNat ≤ 57) ∨ (f1 ≠ 0 ∧ (N ≤ sk B N p ∨ B (sk B N p).toNat < 48 ∨ 57 < B (sk B N p).toNat))
theorem ndg_y {B : Nat → Int} {N p f0 f1 z : Int} (hz : z = sk B N p) (h : f1 = f0) (h1 : z < N) (h2 : 48 ≤ B z.toNat) (h3 : B z.toNat ≤ 57) : NDG B N p f0 f1 := by subst hz; exact Or.inl ⟨h, h1, h2, h3⟩
theorem ndg_n {B : Nat → Int} {N p f0 f1 z : Int} (hz : z = sk B N p) (h : f1 ≠ 0) (h1 : N ≤ z ∨ B z.toNat < 48 ∨ 57 < B z.toNat) : NDG B N p f0 f1 := by subst hz; exact Or.inr ⟨h, h1⟩
theorem nur_of {B : Nat → Int} {N p x y e f0 f1 f2 a : Int} (h : NDG B N p f0 f1) (he : e = nmV B N (sk B N p) 0) (ha : a = nmE B N (sk B N p) 0) (hf : (x ≤ e ∧ e ≤ y ∧ f2 = f1) ∨ ((e < x ∨ y < e) ∧ f2 ≠ 0)) : NUR B N p x y e f0 f2 a := by
  refine ⟨he, ha, ?_⟩
  rcases h with h | h
  · by_cases q : f0 = 0
    · rcases hf with hf | hf
      · exact Or.inr (Or.inl ⟨q, by first | exact oq_01c429aa hf.2.2 q h.1 | omega, h.2.1, h.2.2.1, h.2.2.2, hf.1, hf.2.1⟩)
      · exact Or.inr (Or.inr ⟨q, hf.2, Or.inr (Or.inr (Or.inr hf.1))⟩)
    · exact Or.inl ⟨q, by first | exact oq_b522eb58 q h.1 hf | omega⟩
  · by_cases q : f0 = 0
    · exact Or.inr (Or.inr ⟨q, by first | exact oq_1b9a61de h.1 hf | omega, by rcases h.2 with z | z | z; exact Or.inl z; exact Or.inr (Or.inl z); exact Or.inr (Or.inr (Or.inl z))⟩)
    · exact Or.inl ⟨q, by first | exact oq_1b9a61de h.1 hf | omega⟩
theorem nmV_lo {B : Nat → Int} {N : Int} : ∀ (f : Nat) {p v : Int}, (N - p).toNat ≤ f → 0 ≤ v → 0 ≤ nmV B N p v
  | 0, p, v, h, hv => by rw [nmV_stop (Or.inl (by omega))]; exact hv
  | f + 1, p, v, h, hv => by
    by_cases q : p < N ∧ 48 ≤ B p.toNat ∧ B p.toNat ≤ 57
    · rw [nmV_dig q.1 q.2.1 q.2.2]
      exact nmV_lo (B := B) (N := N) f (by first | exact oq_e452e043 h | omega) (by unfold cap; split <;> omega)
    · rw [nmV_stop (by first | exact oq_f821f258 q | omega)]; exact hv
theorem nmV_nn {B : Nat → Int} {N p : Int} : 0 ≤ nmV B N p 0 := nmV_lo _ (Nat.le_refl _) (Int.le_refl _)
/-- how many streams there are behind the reading of a text of w bytes: cs ahead of it, ct behind it -/
def STRx (B : Nat → Int) (w cs ct : Int) : Prop := (cs = 12 ∧ ct = 12) ∨ (cs ≤ 11 ∧ ((parseT B w = none ∧ ct = cs) ∨ ((∃ a, parseT B w = some a) ∧ ct = cs + 1)))
theorem str_eq {B : Nat → Int} {w c c1 c2 : Int} (h1 : STRx B w c c1) (h2 : STRx B w c c2) : c1 = c2 := by
  rcases h1 with h1 | ⟨h0, h1 | h1⟩
  · rcases h2 with h2 | h2 <;> omega
  · rcases h2 with h2 | ⟨h3, h2 | ⟨⟨a, h2⟩, h4⟩⟩
    · omega
    · omega
    · rw [h1.1] at h2; cases h2
  · obtain ⟨⟨a, h1⟩, h5⟩ := h1
    rcases h2 with h2 | ⟨h3, h2 | h2⟩
    · omega
    · rw [h1] at h2; cases h2.1
    · omega
/-- a byte of a number: by the class's shift -/
def byT (w sh : Int) : Int := ((((Int32.ofInt w).toUInt32 >>> ((Int32.ofInt sh).toUInt32 &&& Int32.toUInt32 31)).toInt32) &&& Int32.ofInt 255).toInt
def bt (x : Int32) (i : Nat) : Bool := x.toBitVec.getLsbD i
theorem b_ext {x y : Int32} (h : ∀ i, i < 32 → bt x i = bt y i) : x = y := Int32.toBitVec_inj.mp (BitVec.eq_of_getLsbD_eq (fun i hi => h i hi))
theorem b_and (x y : Int32) (i : Nat) : bt (x &&& y) i = (bt x i && bt y i) := by unfold bt; rw [Int32.toBitVec_and, BitVec.getLsbD_and]
theorem b_big {x : Int32} {i : Nat} (h : 32 ≤ i) : bt x i = false := BitVec.getLsbD_of_ge _ _ h
theorem b_255 (i : Nat) : bt 255 i = decide (i < 8) := by
  rcases Nat.lt_or_ge i 32 with h | h
  · exact (by decide +kernel : ∀ i, i < 32 → bt 255 i = decide (i < 8)) i h
  · rw [b_big h, decide_eq_false (by first | exact oq_def8b33c h | omega)]
theorem s_l : ∀ n, n < 32 → ((nI n &&& 31).toBitVec.smod 32).toNat = n := by decide +kernel
theorem s_u : ∀ n, n < 32 → (((nI n).toUInt32 &&& Int32.toUInt32 31).toBitVec % 32).toNat = n := by decide +kernel
theorem b_ushr (n : Nat) (hn : n < 32) (x : Int32) (i : Nat) : bt ((x.toUInt32 >>> ((nI n).toUInt32 &&& Int32.toUInt32 31)).toInt32) i = bt x (n + i) := by
  show (x.toUInt32 >>> ((nI n).toUInt32 &&& Int32.toUInt32 31)).toBitVec.getLsbD i = x.toUInt32.toBitVec.getLsbD (n + i)
  rw [UInt32.toBitVec_shiftRight]
  show (x.toUInt32.toBitVec >>> (((nI n).toUInt32 &&& Int32.toUInt32 31).toBitVec % 32).toNat).getLsbD i = _
  rw [s_u n hn, BitVec.getLsbD_ushiftRight]
theorem b_sshr (n : Nat) (hn : n < 32) (x : Int32) {i : Nat} (hi : i < 32) : bt (x >>> (nI n &&& 31)) i = if n + i < 32 then bt x (n + i) else bt x 31 := by
  unfold bt
  rw [Int32.toBitVec_shiftRight]
  show (x.toBitVec.sshiftRight ((nI n &&& 31).toBitVec.smod 32).toNat).getLsbD i = _
  rw [s_l n hn, BitVec.getLsbD_sshiftRight, BitVec.msb_eq_getLsbD_last]
  simp [hi]
theorem sh_eq {x : Int32} {n : Nat} (hn : n ≤ 24) : (x >>> (nI n &&& 31)) &&& Int32.ofInt 255 = ((x.toUInt32 >>> ((nI n).toUInt32 &&& Int32.toUInt32 31)).toInt32) &&& Int32.ofInt 255 := by
  have e : Int32.ofInt 255 = 255 := by decide
  rw [e]
  refine b_ext (fun i hi => ?_)
  rw [b_and, b_and, b_255]
  by_cases q : i < 8
  · rw [b_sshr n (by first | exact oq_5a9a5cbd hn | omega) x hi, b_ushr n (by first | exact oq_5a9a5cbd hn | omega), if_pos (by first | exact oq_8fee9d6d q hn | omega)]
  · rw [decide_eq_false q, Bool.and_false, Bool.and_false]
/-- the cells of ar from z0 to z1 are f's, the others as they were -/
def FDP (ar : Nat) (f : Int → Int) (z0 z1 : Int) (s t : PS) : Prop := ∀ j : Nat, iC t ar j = if z0 ≤ (j : Int) ∧ (j : Int) < z1 then f ((j : Int) - z0) else iC s ar j
theorem fdp_0 {ar : Nat} {f : Int → Int} {z : Int} {s : PS} : FDP ar f z z s s := fun j => by rw [if_neg (by first | exact oq_fb72a7cb | omega)]
theorem fdp_up {ar : Nat} {f : Int → Int} {z0 z1 e : Int} {s t : PS} (h : FDP ar f z0 z1 s t) (h0 : 0 ≤ z1) (h1 : z0 ≤ z1) (hr : rng e) (he : e = f (z1 - z0)) : FDP ar f z0 (z1 + 1) s (uC t ar z1.toNat (Int32.ofInt e)) := fun j => by
  by_cases q : j = z1.toNat
  · rw [q, iC_u hr, if_pos (by first | exact And.intro (oq_d2d1928b h1) (oq_4d6510ff h0) | omega), he]
    congr 1
    omega
  · rw [iC_n q, h j]
    by_cases z : z0 ≤ (j : Int) ∧ (j : Int) < z1
    · rw [if_pos z, if_pos (by first | exact And.intro (z.1) (oq_a61e8389 z.2) | omega)]
    · rw [if_neg z, if_neg (by first | exact oq_6c76021b z q | omega)]
theorem fdp_sam {ar : Nat} {f : Int → Int} {z0 z1 : Int} {s t u : PS} (h : FDP ar f z0 z1 s t) (g : SAM ar t u) : FDP ar f z0 z1 s u := fun j => (g j).trans (h j)
theorem fdp_ts {ar : Nat} {f g : Int → Int} {z0 z1 z2 : Int} {s t u : PS} (h : FDP ar f z0 z1 s t) (k : FDP ar g z1 z2 t u) (h0 : z0 ≤ z1) (h1 : z1 ≤ z2) (hf : ∀ i, z1 - z0 ≤ i → i < z2 - z0 → g (i - (z1 - z0)) = f i) : FDP ar f z0 z2 s u := fun j => by
  rw [k j]
  by_cases q : z1 ≤ (j : Int) ∧ (j : Int) < z2
  · rw [if_pos q, if_pos (by first | exact And.intro (oq_81ed70cd q.1 h0) (q.2) | omega), ← hf _ (by first | exact oq_c8ddb4f2 q.1 | omega) (by first | exact oq_637031e3 q.2 | omega)]
    congr 1
    omega
  · rw [if_neg q, h j]
    by_cases z : z0 ≤ (j : Int) ∧ (j : Int) < z1
    · rw [if_pos z, if_pos (by first | exact And.intro (z.1) (oq_c51ca0d4 z.2 h1) | omega)]
    · rw [if_neg z, if_neg (by first | exact oq_2cc8b6bc z q | omega)]
theorem fdp_eq {ar : Nat} {f : Int → Int} {z0 z1 y0 y1 : Int} {s t : PS} (h : FDP ar f z0 z1 s t) (e0 : z0 = y0) (e1 : z1 = y1) : FDP ar f y0 y1 s t := by subst e0 e1; exact h
def selT (a b c d e k : Int) : Int := if k < 4 then a else if k < 8 then b else if k < 12 then c else if k < 16 then d else e
/-- the byte k of five numbers -/
def fvT (a b c d e k : Int) : Int := byT (selT a b c d e k) (24 - 8 * (k % 4))
theorem nmV_hi {B : Nat → Int} {N : Int} : ∀ (f : Nat) {p v : Int}, (N - p).toNat ≤ f → v ≤ 100000 → nmV B N p v ≤ 100000
  | 0, p, v, h, hv => by rw [nmV_stop (Or.inl (by omega))]; exact hv
  | f + 1, p, v, h, hv => by
    by_cases q : p < N ∧ 48 ≤ B p.toNat ∧ B p.toNat ≤ 57
    · rw [nmV_dig q.1 q.2.1 q.2.2]
      exact nmV_hi (B := B) (N := N) f (by first | exact oq_e452e043 h | omega) (by unfold cap; split <;> omega)
    · rw [nmV_stop (by first | exact oq_f821f258 q | omega)]; exact hv
theorem nmV_mx {B : Nat → Int} {N p : Int} : nmV B N p 0 ≤ 100000 := nmV_hi _ (Nat.le_refl _) (by decide)
theorem nur_v {B : Nat → Int} {N p x y e f a : Int} (h : NUR B N p x y e 0 f a) : (x ≤ e ∧ e ≤ y) ∨ f ≠ 0 := by
  rcases h.2.2 with z | z | z
  · exact absurd rfl z.1
  · exact Or.inl ⟨z.2.2.2.2.2.1, z.2.2.2.2.2.2⟩
  · exact Or.inr z.2.1
/-- the bytes of the class's tape are B; the text that is read has N of them, and no words -/
def BYA (B : Nat → Int) (s : PS) : Prop := ∀ i : Nat, i < 200 → iC s 0 i = B i
def BYB (B : Nat → Int) (N : Int) (s : PS) : Prop := (∀ i : Nat, i < 200 → iC s 0 i = B i) ∧ iI s 1 = N ∧ iI s 3 = 0
theorem BYA_fm {L M : List Nat} {s t : PS} {B : Nat → Int} (F : Fm L M s t) (h : 0 ∉ M) (r : BYA B s) : BYA B t := fun i hi => (fm_c F h).trans (r i hi)
theorem BYB_fm {L M : List Nat} {s t : PS} {B : Nat → Int} {N : Int} (F : Fm L M s t) (h : 1 ∉ L ∧ 3 ∉ L ∧ 0 ∉ M) (r : BYB B N s) : BYB B N t := ⟨fun i hi => (fm_c F h.2.2).trans (r.1 i hi), (fm_i F h.1).trans r.2.1, (fm_i F h.2.1).trans r.2.2⟩
/-- the same of the model's -/
def FDA (B : Nat → Int) (s : PS) : Prop := ∀ i : Nat, i < 200 → iC s 157 i = B i
def BYV (s : PS) (i : Nat) : Int := if iI s 81 = 0 then iC s 157 i else iC s 158 i
def FDB (B : Nat → Int) (N : Int) (s : PS) : Prop := (∀ i : Nat, (i : Int) < N → BYV s i = B i) ∧ iI s 75 = N ∧ 0 ≤ iI s 81
theorem fda_n {s : PS} {B : Nat → Int} {N : Int} (h : FDA B s) (hw : iI s 81 = 0) (hn : N ≤ 200) : ∀ i : Nat, (i : Int) < N → BYV s i = B i := fun i hi => (if_pos hw).trans (h i (by first | exact oq_fcbe0fc7 hi hn | omega))
theorem FDA_fm {L M : List Nat} {s t : PS} {B : Nat → Int} (F : Fm L M s t) (h : 157 ∉ M) (r : FDA B s) : FDA B t := fun i hi => (fm_c F h).trans (r i hi)
theorem FDB_fm {L M : List Nat} {s t : PS} {B : Nat → Int} {N : Int} (F : Fm L M s t) (h : 75 ∉ L ∧ 81 ∉ L ∧ 157 ∉ M ∧ 158 ∉ M) (r : FDB B N s) : FDB B N t := ⟨fun i hi => by unfold BYV; rw [fm_i F h.2.1, fm_c F h.2.2.1, fm_c F h.2.2.2]; exact r.1 i hi, (fm_i F h.1).trans r.2.1, by rw [fm_i F h.2.1]; exact r.2.2⟩
/-- a move of the class's, made: where its text goes on, what is told then -/
def MVR (B : Nat → Int) (N q : Int) (a : WyA) (t : PS) : Prop := ∃ a', mvT B N q a = some (iI t 4, a') ∧ AGx 15 11 a' t ∧ (1 ≤ a'.1 ∧ a'.1 ≤ 24) ∧ q < iI t 4 ∧ TKN B N (iI t 5) (iI t 4) (iI t 2) (iI t 6)
def MVQ (B : Nat → Int) (N q : Int) (a : WyA) (g m c : Int) (t : PS) : Prop := ENI 15 11 g m c (extN g m.toNat a) t ∧ mvT B N q a = (extN g m.toNat a).map (fun a' => (iI t 4, a')) ∧ q < iI t 4 ∧ TKN B N (iI t 5) (iI t 4) (iI t 2) (iI t 6)
theorem mvq_0 {B : Nat → Int} {N q : Int} {a : WyA} {g m : Int} {t : PS} (hA : AGx 15 11 a t) (ha : 1 ≤ a.1 ∧ a.1 ≤ 24) (hm : mvT B N q a = (extN g m.toNat a).map (fun a' => (iI t 4, a'))) (hq : q < iI t 4) (hT : TKN B N (iI t 5) (iI t 4) (iI t 2) (iI t 6)) : MVQ B N q a g m 0 t := ⟨⟨a, by rw [show (m - 0).toNat = m.toNat by first | exact oq_818ebdf9 | omega], hA, ha.1, ha.2⟩, hm, hq, hT⟩
theorem mvq_up {B : Nat → Int} {N q : Int} {a a1 : WyA} {g m c e : Int} {t u : PS} (h : MVQ B N q a g m c t) (h1 : extN g (m - c).toNat a1 = extN g m.toNat a) (ha : 1 ≤ a1.1 ∧ a1.1 ≤ 24) (hc : c < m) (he : (e = 0 ∧ EXR 15 11 g a1 u) ∨ (e ≠ 0 ∧ extT g a1 = none)) (h0 : e = 0) (hb : iI u 11 ≤ 24) (e1 : iI u 5 = iI t 5) (e2 : iI u 4 = iI t 4) (e3 : iI u 2 = iI t 2) (e4 : iI u 6 = iI t 6) : MVQ B N q a g m (c + 1) u := by
  rcases he with he | he
  · obtain ⟨-, a2, q1, q2, q3⟩ := he
    refine ⟨⟨a2, ?_, q2, by first | exact oq_1db45c63 q3 ha.1 | omega, by rw [q2.1]; exact hb⟩, ?_, ?_, ?_⟩
    · rw [← h1, show (m - c).toNat = (m - (c + 1)).toNat + 1 by first | exact oq_03f997cb hc | omega, en_step q1]
    · rw [e2]; exact h.2.1
    · rw [e2]; exact h.2.2.1
    · rw [e1, e2, e3, e4]; exact h.2.2.2
  · exact absurd h0 he.1
theorem mvq_none {B : Nat → Int} {N q : Int} {a a1 : WyA} {g m c e : Int} {t u : PS} (h : MVQ B N q a g m c t) (h1 : extN g (m - c).toNat a1 = extN g m.toNat a) (hc : c < m) (he : (e = 0 ∧ EXR 15 11 g a1 u) ∨ (e ≠ 0 ∧ extT g a1 = none)) (h0 : e ≠ 0) : mvT B N q a = none := by
  rcases he with he | he
  · exact absurd he.1 h0
  · rw [h.2.1, ← h1, show (m - c).toNat = (m - (c + 1)).toNat + 1 by first | exact oq_03f997cb hc | omega, en_none he.2]; rfl
theorem mvq_end {B : Nat → Int} {N q : Int} {a : WyA} {g m c : Int} {t : PS} (h : MVQ B N q a g m c t) (hc : m ≤ c) : MVR B N q a t := by
  obtain ⟨a1, h1, h2, h3⟩ := eni_end h.1 hc
  refine ⟨a1, ?_, h2, h3, h.2.2.1, h.2.2.2⟩
  rw [h.2.1, h1]; rfl
/-- the reading of a way by the class -/
def PAR (B : Nat → Int) (N : Int) (t : PS) : Prop := ∃ a, parseT B N = some a ∧ AGx 15 11 a t ∧ 1 ≤ a.1 ∧ a.1 ≤ 24
def WAQ (B : Nat → Int) (N : Int) (t : PS) : Prop := ∃ a, WyI B N (iI t 4) a (parseT B N) ∧ AGx 15 11 a t ∧ (1 ≤ a.1 ∧ a.1 ≤ 24) ∧ TKN B N (iI t 5) (iI t 4) (iI t 2) (iI t 6)
theorem pa_no1 {B : Nat → Int} {N k st a v : Int} (h : TKN B N k st a v) (hs : st = sk B N 0) (hk : k ≠ -2) : parseT B N = none := by
  unfold parseT
  rw [← hs, if_neg (fun q => by have := tkn_nn h hk; omega)]
theorem pa_no2 {B : Nat → Int} {N k st a v : Int} (h : TKN B N k st a v) (hs : st = sk B N 0) (hk : k = -2) (hv : 127 < v) : parseT B N = none := by
  have z := tkn_is h hk
  unfold parseT
  rw [← hs, if_pos ⟨z.1, z.2.1, z.2.2.1⟩, ← z.2.2.2.1, if_pos hv]
theorem pa_yes {B : Nat → Int} {N k st a v : Int} (h : TKN B N k st a v) (hs : st = sk B N 0) (hk : k = -2) (hv : v ≤ 127) : parseT B N = wT B N N.toNat (sk B N a) (1, fun _ => v) := by
  have z := tkn_is h hk
  unfold parseT
  rw [← hs, if_pos ⟨z.1, z.2.1, z.2.2.1⟩, ← z.2.2.2.1, ← z.2.2.2.2, if_neg (by first | exact oq_d7496512 hv | omega)]
theorem ag_one {ar tz : Nat} {v : Int} {s t : PS} (h : UPD ar 0 v s t) (ht : iI t tz = 1) : AGx ar tz (1, fun _ => v) t := ⟨ht.symm, fun k hk => by
  have e : k = (0 : Int).toNat := by
    replace hk : (k : Int) < 1 := hk
    omega
  rw [e]; exact h.1.symm⟩
theorem waq_up {B : Nat → Int} {N e : Int} {a1 : WyA} {t u : PS} (w1 : WyI B N (iI t 4) a1 (parseT B N)) (hq : iI t 4 < N) (he : (e = 1 ∧ MVR B N (iI t 4) a1 u) ∨ (e = 0 ∧ mvT B N (iI t 4) a1 = none)) (h0 : e ≠ 0) : WAQ B N u := by
  rcases he with he | he
  · obtain ⟨-, a', q1, q2, q3, q4, q5⟩ := he
    exact ⟨a', wi_step w1 hq q1 q4, q2, q3, q5⟩
  · exact absurd he.1 h0
theorem waq_lt {B : Nat → Int} {N e : Int} {a1 : WyA} {t u : PS} (he : (e = 1 ∧ MVR B N (iI t 4) a1 u) ∨ (e = 0 ∧ mvT B N (iI t 4) a1 = none)) (h0 : e ≠ 0) : iI t 4 < iI u 4 := by
  rcases he with he | he
  · obtain ⟨-, a', q1, q2, q3, q4, q5⟩ := he
    exact q4
  · exact absurd he.1 h0
theorem waq_no {B : Nat → Int} {N e : Int} {a1 : WyA} {t u : PS} (w1 : WyI B N (iI t 4) a1 (parseT B N)) (hq : iI t 4 < N) (he : (e = 1 ∧ MVR B N (iI t 4) a1 u) ∨ (e = 0 ∧ mvT B N (iI t 4) a1 = none)) (h0 : e = 0) : parseT B N = none := by
  rcases he with he | he
  · omega
  · exact wi_none w1 hq he.2
theorem waq_end {B : Nat → Int} {N : Int} {t : PS} (h : WAQ B N t) (hq : N ≤ iI t 4) : PAR B N t := by
  obtain ⟨a, q1, q2, q3, q4⟩ := h
  exact ⟨a, wi_end q1 hq, q2, q3⟩
/-- a move of the model's -/
def MMR (B : Nat → Int) (N q : Int) (a : WyA) (t : PS) : Prop := ∃ a', mvT B N q a = some (sk B N (iI t 77), a') ∧ AGx 165 91 a' t ∧ (1 ≤ a'.1 ∧ a'.1 ≤ 24) ∧ q < iI t 77
def MMQ (B : Nat → Int) (N q : Int) (a : WyA) (g m c : Int) (t : PS) : Prop := (iI t 79 ≠ 0 ∧ mvT B N q a = none) ∨ (iI t 79 = 0 ∧ ENI 165 91 g m c (extN g m.toNat a) t ∧ mvT B N q a = (extN g m.toNat a).map (fun a' => (sk B N (iI t 77), a')) ∧ q < iI t 77)
theorem mmq_0 {B : Nat → Int} {N q : Int} {a : WyA} {g m : Int} {t : PS} (h0 : iI t 79 = 0) (hA : AGx 165 91 a t) (ha : 1 ≤ a.1 ∧ a.1 ≤ 24) (hm : mvT B N q a = (extN g m.toNat a).map (fun a' => (sk B N (iI t 77), a'))) (hq : q < iI t 77) : MMQ B N q a g m 0 t := Or.inr ⟨h0, ⟨a, by rw [show (m - 0).toNat = m.toNat by first | exact oq_818ebdf9 | omega], hA, ha.1, ha.2⟩, hm, hq⟩
theorem mmq_in {B : Nat → Int} {N q : Int} {a : WyA} {g m c : Int} {t : PS} (h : MMQ B N q a g m c t) (h0 : iI t 79 = 0) : ENI 165 91 g m c (extN g m.toNat a) t ∧ mvT B N q a = (extN g m.toNat a).map (fun a' => (sk B N (iI t 77), a')) ∧ q < iI t 77 := by
  rcases h with h | h
  · exact absurd h0 h.1
  · exact h.2
theorem mmq_up {B : Nat → Int} {N q : Int} {a a1 : WyA} {g m c : Int} {t u : PS} (h : mvT B N q a = (extN g m.toNat a).map (fun a' => (sk B N (iI t 77), a')) ∧ q < iI t 77) (h1 : extN g (m - c).toNat a1 = extN g m.toNat a) (ha : 1 ≤ a1.1 ∧ a1.1 ≤ 24) (hc : c < m) (he : EXR 165 91 g a1 u) (hb : iI u 91 ≤ 24) (h0 : iI u 79 = 0) (e3 : iI u 77 = iI t 77) : MMQ B N q a g m (c + 1) u := by
  obtain ⟨a2, q1, q2, q3⟩ := he
  refine Or.inr ⟨h0, ⟨a2, ?_, q2, by first | exact oq_1db45c63 q3 ha.1 | omega, by rw [q2.1]; exact hb⟩, ?_, ?_⟩
  · rw [← h1, show (m - c).toNat = (m - (c + 1)).toNat + 1 by first | exact oq_03f997cb hc | omega, en_step q1]
  · rw [e3]; exact h.1
  · rw [e3]; exact h.2
theorem mmq_no {B : Nat → Int} {N q : Int} {a a1 : WyA} {g m c : Int} {t : PS} (h : mvT B N q a = (extN g m.toNat a).map (fun a' => (sk B N (iI t 77), a')) ∧ q < iI t 77) (h1 : extN g (m - c).toNat a1 = extN g m.toNat a) (hc : c < m) (he : extT g a1 = none) : mvT B N q a = none := by
  rw [h.1, ← h1, show (m - c).toNat = (m - (c + 1)).toNat + 1 by first | exact oq_03f997cb hc | omega, en_none he]; rfl
theorem mmq_end {B : Nat → Int} {N q : Int} {a : WyA} {g m c : Int} {t : PS} (h : MMQ B N q a g m c t) (hc : m ≤ c ∨ iI t 79 ≠ 0) : (iI t 79 = 0 ∧ MMR B N q a t) ∨ (iI t 79 ≠ 0 ∧ mvT B N q a = none) := by
  rcases h with h | h
  · exact Or.inr h
  · obtain ⟨h0, h1, h2, h3⟩ := h
    obtain ⟨a1, q1, q2, q3⟩ := eni_end h1 (hc.elim id (fun z => absurd h0 z))
    refine Or.inl ⟨h0, a1, ?_, q2, q3, h3⟩
    rw [h2, q1]; rfl
theorem mmq_lt {B : Nat → Int} {N q : Int} {a : WyA} {g m c : Int} {t : PS} (h : MMQ B N q a g m c t) : iI t 79 ≠ 0 ∨ q < iI t 77 := by
  rcases h with h | h
  · exact Or.inl h.1
  · exact Or.inr h.2.2.2
theorem ho_1 {ar : Nat} {n x e : Int} {s : PS} (h : (e = 1 ∧ HAS ar n x s) ∨ (e = 0 ∧ NHS ar n x s)) (he : e ≠ 0) : HAS ar n x s := by
  rcases h with h | h
  · exact h.2
  · exact absurd h.1 he
theorem ho_0 {ar : Nat} {n x e : Int} {s : PS} (h : (e = 1 ∧ HAS ar n x s) ∨ (e = 0 ∧ NHS ar n x s)) (he : e = 0) : NHS ar n x s := by
  rcases h with h | h
  · omega
  · exact h.2
/-- the reading of a way by the model -/
def WMQ (B : Nat → Int) (N : Int) (t : PS) : Prop := (iI t 79 ≠ 0 ∧ parseT B N = none) ∨ (iI t 79 = 0 ∧ ∃ a, WyI B N (iI t 77) a (parseT B N) ∧ AGx 165 91 a t ∧ (1 ≤ a.1 ∧ a.1 ≤ 24))
theorem wm_0 {B : Nat → Int} {N e f a : Int} {t : PS} (h : NUR B N 0 0 127 e 0 f a) (hf : iI t 79 = f) (ha : iI t 77 = sk B N a) (hN : 0 ≤ N) (hA : AGx 165 91 (1, fun _ => e) t) : WMQ B N t := by
  have n0 := nmV_nn (B := B) (N := N) (p := sk B N 0)
  have n1 := sk_le (B := B) (N := N) (p := 0)
  have n2 := nmE_le (B := B) (N := N) (p := sk B N 0) (v := 0)
  have n3 := sk_le (B := B) (N := N) (p := a)
  rcases h.2.2 with z | z | z
  · exact absurd rfl z.1
  · refine Or.inr ⟨by first | exact oq_a511ac78 z.2.1 hf | omega, (1, fun _ => e), ?_, hA, ⟨(show (1 : Int) ≤ 1 by decide), (show (1 : Int) ≤ 24 by decide)⟩⟩
    have ep : parseT B N = wT B N N.toNat (sk B N a) (1, fun _ => e) := by
      unfold parseT
      rw [if_pos ⟨z.2.2.1, z.2.2.2.1, z.2.2.2.2.1⟩, ← h.1, ← h.2.1, if_neg (by first | exact oq_d7496512 z.2.2.2.2.2.2 | omega)]
    rw [ep, ha]
    exact wi_0 (by have := h.2.1; omega) hN
  · refine Or.inl ⟨by first | exact oq_af23a26f z.2.1 hf | omega, ?_⟩
    have h1 := h.1
    unfold parseT
    by_cases q : sk B N 0 < N ∧ 48 ≤ B (sk B N 0).toNat ∧ B (sk B N 0).toNat ≤ 57
    · rw [if_pos q, ← h.1, if_pos (by first | exact oq_e1e0c15b q.2.2 q.2.1 q.1 h1 z.2.2 n0 | omega)]
    · rw [if_neg q]
theorem wm_in {B : Nat → Int} {N : Int} {t : PS} (h : WMQ B N t) (h0 : iI t 79 = 0) : ∃ a, WyI B N (iI t 77) a (parseT B N) ∧ AGx 165 91 a t ∧ (1 ≤ a.1 ∧ a.1 ≤ 24) := by
  rcases h with h | h
  · exact absurd h0 h.1
  · exact h.2
theorem wm_up {B : Nat → Int} {N : Int} {a : WyA} {t u w : PS} (w1 : WyI B N (iI t 77) a (parseT B N)) (hq : iI t 77 < N) (he : (iI u 79 = 0 ∧ MMR B N (iI t 77) a u) ∨ (iI u 79 ≠ 0 ∧ mvT B N (iI t 77) a = none)) (hf : iI w 79 = iI u 79) (hat : iI w 77 = sk B N (iI u 77)) (hs : SAM 165 u w) (ht : iI w 91 = iI u 91) : WMQ B N w := by
  rcases he with ⟨h0, a', q1, q2, q3, q4⟩ | he
  · have n1 := sk_le (B := B) (N := N) (p := iI u 77)
    refine Or.inr ⟨by first | exact oq_a511ac78 h0 hf | omega, a', ?_, ag_sam q2 hs ht, q3⟩
    rw [hat]
    exact wi_step w1 hq q1 (by first | exact oq_54ea5288 n1 q4 | omega)
  · exact Or.inl ⟨by first | exact oq_af23a26f he.1 hf | omega, wi_none w1 hq he.2⟩
theorem wm_no {B : Nat → Int} {N : Int} {t : PS} (h : WMQ B N t) (h0 : iI t 79 ≠ 0) : parseT B N = none := by
  rcases h with h | h
  · exact h.2
  · exact absurd h.1 h0
theorem wm_end {B : Nat → Int} {N : Int} {t : PS} (h : WMQ B N t) (h0 : iI t 79 = 0) (hq : N ≤ iI t 77) : ∃ a, parseT B N = some a ∧ AGx 165 91 a t ∧ (1 ≤ a.1 ∧ a.1 ≤ 24) := by
  obtain ⟨a, q1, q2, q3⟩ := wm_in h h0
  exact ⟨a, wi_end q1 hq, q2, q3⟩
theorem ag_u1 {ar tz : Nat} {v : Int} {s : PS} (hv : rng v) (ht : iI s tz = 1) : AGx ar tz (1, fun _ => v) (uC s ar (0 : Int).toNat (Int32.ofInt v)) := ag_one (s := s) (upd_put sam_rf hv) ht
theorem par_y {B : Nat → Int} {N e : Int} {t : PS} (h : (e = 1 ∧ PAR B N t) ∨ (e = 0 ∧ parseT B N = none)) (he : e ≠ 0) : ∃ a, parseT B N = some a := by
  rcases h with ⟨-, a, h, -⟩ | h
  · exact ⟨a, h⟩
  · exact absurd h.1 he
theorem par_n {B : Nat → Int} {N e : Int} {t : PS} (h : (e = 1 ∧ PAR B N t) ∨ (e = 0 ∧ parseT B N = none)) (he : e = 0) : parseT B N = none := by
  rcases h with h | h
  · omega
  · exact h.2
theorem str_y {B : Nat → Int} {w cs ct : Int} (h : ∃ a, parseT B w = some a) (hc : (cs = 12 ∧ ct = 12) ∨ (cs ≤ 11 ∧ ct = cs + 1)) : STRx B w cs ct := by
  rcases hc with hc | hc
  · exact Or.inl hc
  · exact Or.inr ⟨hc.1, Or.inr ⟨h, hc.2⟩⟩
theorem str_n {B : Nat → Int} {w cs ct : Int} (h : parseT B w = none) (hc : ct = cs) (hb : cs ≤ 12) : STRx B w cs ct := by
  by_cases q : cs = 12
  · exact Or.inl ⟨q, by first | exact oq_d7eeb386 q hc | omega⟩
  · exact Or.inr ⟨by first | exact oq_0a4926bf q hb | omega, Or.inl ⟨h, hc⟩⟩
section ZB
variable {k : kx_T} {mn pc : Nat} {dT : Nat → ClassId} {lv : List (Nat × Value)} {st : List Value} {ws : va_W} {ce sl a b a1 b1 a2 b2 : Nat} {z z2 : Int}
theorem z_byU (X : AX k mn dT) {w sh : Int} (h1 : cdA mn pc = some (.iushr, 1, a, b, z)) (h2 : cdA mn (pc + 1) = some (.sipush 255, 3, a1, b1, 255)) (h3 : cdA mn (pc + 4) = some (.iand, 1, a2, b2, z2)) (g : ∀ e : Int, e = byT w sh → 0 ≤ e → e ≤ 255 → WS k (pc + 5) lv (.int (Int32.ofInt e) :: st) ws ce sl) : WS k pc lv (.int (Int32.ofInt sh) :: .int (Int32.ofInt w) :: st) ws ce sl := by
  refine w_iushr X.1 (ax_d X h1) (z_sipush X h2 (w_iand (pc := pc + 4) X.1 (ax_d X h3) ?_))
  have h9 := g (byT w sh) rfl (and_le _ (by decide) (by decide)).1 (and_le _ (by decide) (by decide)).2
  unfold byT at h9
  rwa [ofi_to] at h9
theorem z_byS (X : AX k mn dT) {w sh : Int} (hs : 0 ≤ sh ∧ sh ≤ 24) (h1 : cdA mn pc = some (.ishr, 1, a, b, z)) (h2 : cdA mn (pc + 1) = some (.sipush 255, 3, a1, b1, 255)) (h3 : cdA mn (pc + 4) = some (.iand, 1, a2, b2, z2)) (g : ∀ e : Int, e = byT w sh → 0 ≤ e → e ≤ 255 → WS k (pc + 5) lv (.int (Int32.ofInt e) :: st) ws ce sl) : WS k pc lv (.int (Int32.ofInt sh) :: .int (Int32.ofInt w) :: st) ws ce sl := by
  refine w_ishr X.1 (ax_d X h1) (z_sipush X h2 (w_iand (pc := pc + 4) X.1 (ax_d X h3) ?_))
  have h9 := g (byT w sh) rfl (and_le _ (by decide) (by decide)).1 (and_le _ (by decide) (by decide)).2
  unfold byT at h9
  rw [ofi_to] at h9
  have e : (Int32.ofInt w >>> (Int32.ofInt sh &&& 31)) &&& Int32.ofInt 255 = ((Int32.ofInt w).toUInt32 >>> ((Int32.ofInt sh).toUInt32 &&& Int32.toUInt32 31)).toInt32 &&& Int32.ofInt 255 := by
    rw [on_of hs.1]; exact sh_eq (by first | exact oq_de551353 hs.2 | omega)
  rw [e]; exact h9
end ZB
theorem fv_0 {a b c d e i : Int} (h1 : 0 ≤ i) (h2 : i < 4) : byT a (24 - 8 * (i - 0)) = fvT a b c d e i := by unfold fvT selT; rw [if_pos h2, show i % 4 = i - 0 by first | exact oq_3f9a5966 h2 h1 | omega]
theorem fv_1 {a b c d e i : Int} (h1 : 4 ≤ i) (h2 : i < 8) : byT b (24 - 8 * (i - 4)) = fvT a b c d e i := by unfold fvT selT; rw [if_neg (by first | exact oq_447d27e7 h1 | omega), if_pos h2, show i % 4 = i - 4 by first | exact oq_d9240a93 h2 h1 | omega]
theorem fv_2 {a b c d e i : Int} (h1 : 8 ≤ i) (h2 : i < 12) : byT c (24 - 8 * (i - 8)) = fvT a b c d e i := by unfold fvT selT; rw [if_neg (by first | exact oq_3c2cc282 h1 | omega), if_neg (by first | exact oq_b0302323 h1 | omega), if_pos h2, show i % 4 = i - 8 by first | exact oq_4ffa4124 h2 h1 | omega]
theorem fv_3 {a b c d e i : Int} (h1 : 12 ≤ i) (h2 : i < 16) : byT d (24 - 8 * (i - 12)) = fvT a b c d e i := by unfold fvT selT; rw [if_neg (by first | exact oq_9329ae3e h1 | omega), if_neg (by first | exact oq_414c9b46 h1 | omega), if_neg (by first | exact oq_f9b6fb69 h1 | omega), if_pos h2, show i % 4 = i - 12 by first | exact oq_3db6c46e h2 h1 | omega]
theorem fv_4 {a b c d e i : Int} (h1 : 16 ≤ i) (h2 : i < 20) : byT e (24 - 8 * (i - 16)) = fvT a b c d e i := by unfold fvT selT; rw [if_neg (by first | exact oq_7be35017 h1 | omega), if_neg (by first | exact oq_ea87d330 h1 | omega), if_neg (by first | exact oq_cbe288ec h1 | omega), if_neg (by first | exact oq_697d9bd9 h1 | omega), show i % 4 = i - 16 by first | exact oq_0a82d303 h2 h1 | omega]
/-- what is on the two tapes is the same -/
def FEQ (s : PS) : Prop := ∀ j : Nat, j < 200 → iC s 157 j = iC s 0 j
theorem feq_sam {s t : PS} (h : FEQ s) (h1 : SAM 157 s t) (h2 : SAM 0 s t) : FEQ t := fun j hj => by rw [h1, h2]; exact h j hj
theorem feq_up {f : Int → Int} {z0 z1 y0 y1 : Int} {s t u : PS} (h : FEQ s) (h1 : FDP 0 f z0 z1 s t) (h2 : SAM 157 s t) (h3 : FDP 157 f y0 y1 t u) (h4 : SAM 0 t u) (e0 : y0 = z0) (e1 : y1 = z1) : FEQ u := fun j hj => by
  subst e0 e1
  rw [h3 j, h4 j, h1 j, h2 j, h j hj]
theorem str_eq2 {B : Nat → Int} {w c d c1 d1 : Int} (h1 : STRx B w c c1) (h2 : STRx B w d d1) (e : c = d) : c1 = d1 := by subst e; exact str_eq h1 h2
theorem FEQ_fm {L M : List Nat} {s t : PS} (F : Fm L M s t) (h : 0 ∉ M ∧ 157 ∉ M) (r : FEQ s) : FEQ t := feq_sam r (sam_fm F h.2) (sam_fm F h.1)
section M87c
variable {l : Launch} {s0 : State} {D : va_G} {tys : List (ClassId × FieldType)} {a0 : Array Value} {A : Nat → Nat} {dT : Nat → ClassId} {s : PS}
set_option maxRecDepth 4000 in
theorem c10_kindOf2 (G : GX l s0 D tys a0 dT) (I : Bd s) {x : Int} (p0 : 0 ≤ x ∧ x ≤ 255) (p1 : iI s 3 = 0) : CT l s0 D A dT 130 (rmN 130) [.ref (A 1), .int (Int32.ofInt x)] s (fun o t => s = t ∧ ∃ e, o = .inl (some (.int (Int32.ofInt e))) ∧ rng e ∧ ((48 ≤ x ∧ x ≤ 57 ∧ e = -2) ∨ ((x < 48 ∨ 57 < x) ∧ e = x))) := by
  refine ct_ofX G (by decide) (Nat.le_of_ble_eq_true rfl) (fun k X E ET hRt hXt q => ?_)
  show WS k 0 [(0, .ref (A 1)), (1, .int (Int32.ofInt x))] [] _ 0 0
  have F : Fm [] [] s s := fm_rf _ _ s
  refine z_load_n X (x := x) rfl (List.Mem.tail _ (List.Mem.head _)) (z_bipush X rfl (z_icmp_lt X (t := 15) rfl rfl ⟨by first | exact oq_fa4e5087 p0.1 | omega, by first | exact oq_4567a937 p0.2 | omega⟩ (by decide) (fun g1 => ?_) (fun g1 => ?_)))
  ·
    refine z_aload_n X (x := A 1) rfl (List.Mem.head _) (z_getI X 1 rfl (c518_ok rfl) rfl rfl ?_)
    have b2 := bi_3 I
    have N3 : ∀ e4 : Int, ((((iI s 3) = 0) ∧ e4 = x) ∨ (((iI s 3) ≠ 0) ∧ (x < 97) ∧ e4 = x) ∨ (((iI s 3) ≠ 0) ∧ (97 ≤ x) ∧ (122 < x) ∧ e4 = x) ∨ (((iI s 3) ≠ 0) ∧ (97 ≤ x) ∧ (x ≤ 122) ∧ e4 = (-3))) → WS k 40 [(0, .ref (A 1)), (1, .int (Int32.ofInt x))] [.int (Int32.ofInt e4)] (Wd A dT s) 0 0 := by
      intro e4 he4
      exact w_iret X.1 q hRt rfl (ax_d X (show cdA 130 40 = some (.ireturn, 1, 0, 0, 0) from rfl)) (Nat.zero_le _) (Nat.zero_le _) ⟨_, rfl, rfl, e4, rfl, ⟨by first | exact oq_1ca04d49 he4 p0.1 | omega, by first | exact oq_6ba7703b he4 g1 | omega⟩, by first | exact oq_032c4c3f he4 g1 | omega⟩
    refine z_if_eq X (t := 39) rfl rfl (rng_to _) (fun g5 => ?_) (fun g5 => ?_)
    ·
      exact z_load_n X (x := x) rfl (List.Mem.tail _ (List.Mem.head _)) (N3 _ (Or.inl ⟨g5, rfl⟩))
    ·
      refine z_load_n X (x := x) rfl (List.Mem.tail _ (List.Mem.head _)) (z_bipush X rfl (z_icmp_lt X (t := 39) rfl rfl ⟨by first | exact oq_fa4e5087 p0.1 | omega, by first | exact oq_a6687a98 g1 | omega⟩ (by decide) (fun g6 => ?_) (fun g6 => ?_)))
      ·
        exact z_load_n X (x := x) rfl (List.Mem.tail _ (List.Mem.head _)) (N3 _ (Or.inr (Or.inl ⟨g5, g6, rfl⟩)))
      ·
        refine z_load_n X (x := x) rfl (List.Mem.tail _ (List.Mem.head _)) (z_bipush X rfl (z_icmp_gt X (t := 39) rfl rfl ⟨by first | exact oq_9ccaf4ac g6 | omega, by first | exact oq_a6687a98 g1 | omega⟩ (by decide) (fun g7 => ?_) (fun g7 => ?_)))
        ·
          exact z_load_n X (x := x) rfl (List.Mem.tail _ (List.Mem.head _)) (N3 _ (Or.inr (Or.inr (Or.inl ⟨g5, g6, g7, rfl⟩))))
        ·
          exact z_bipush X rfl (z_goto X (t := 40) rfl rfl (N3 _ (Or.inr (Or.inr (Or.inr (⟨g5, g6, g7, rfl⟩))))))
  ·
    refine z_load_n X (x := x) rfl (List.Mem.tail _ (List.Mem.head _)) (z_bipush X rfl (z_icmp_gt X (t := 15) rfl rfl ⟨by first | exact oq_7e4cb212 g1 | omega, by first | exact oq_4567a937 p0.2 | omega⟩ (by decide) (fun g8 => ?_) (fun g8 => ?_)))
    ·
      refine z_aload_n X (x := A 1) rfl (List.Mem.head _) (z_getI X 1 rfl (c518_ok rfl) rfl rfl ?_)
      have b9 := bi_3 I
      have N10 : ∀ e11 : Int, ((((iI s 3) = 0) ∧ e11 = x) ∨ (((iI s 3) ≠ 0) ∧ (x < 97) ∧ e11 = x) ∨ (((iI s 3) ≠ 0) ∧ (97 ≤ x) ∧ (122 < x) ∧ e11 = x) ∨ (((iI s 3) ≠ 0) ∧ (97 ≤ x) ∧ (x ≤ 122) ∧ e11 = (-3))) → WS k 40 [(0, .ref (A 1)), (1, .int (Int32.ofInt x))] [.int (Int32.ofInt e11)] (Wd A dT s) 0 0 := by
        intro e11 he11
        exact w_iret X.1 q hRt rfl (ax_d X (show cdA 130 40 = some (.ireturn, 1, 0, 0, 0) from rfl)) (Nat.zero_le _) (Nat.zero_le _) ⟨_, rfl, rfl, e11, rfl, ⟨by first | exact oq_3fba5eee he11 g8 | omega, by first | exact oq_fc94949b he11 p0.2 | omega⟩, by first | exact oq_aa95b58b he11 b9.1 g8 p1 | omega⟩
      refine z_if_eq X (t := 39) rfl rfl (rng_to _) (fun g12 => ?_) (fun g12 => ?_)
      ·
        exact z_load_n X (x := x) rfl (List.Mem.tail _ (List.Mem.head _)) (N10 _ (Or.inl ⟨g12, rfl⟩))
      ·
        refine z_load_n X (x := x) rfl (List.Mem.tail _ (List.Mem.head _)) (z_bipush X rfl (z_icmp_lt X (t := 39) rfl rfl ⟨by first | exact oq_eac89bd5 g8 | omega, by first | exact oq_4567a937 p0.2 | omega⟩ (by decide) (fun g13 => ?_) (fun g13 => ?_)))
        ·
          exact z_load_n X (x := x) rfl (List.Mem.tail _ (List.Mem.head _)) (N10 _ (Or.inr (Or.inl ⟨g12, g13, rfl⟩)))
        ·
          refine z_load_n X (x := x) rfl (List.Mem.tail _ (List.Mem.head _)) (z_bipush X rfl (z_icmp_gt X (t := 39) rfl rfl ⟨by first | exact oq_9ccaf4ac g13 | omega, by first | exact oq_4567a937 p0.2 | omega⟩ (by decide) (fun g14 => ?_) (fun g14 => ?_)))
          ·
            exact z_load_n X (x := x) rfl (List.Mem.tail _ (List.Mem.head _)) (N10 _ (Or.inr (Or.inr (Or.inl ⟨g12, g13, g14, rfl⟩))))
          ·
            exact z_bipush X rfl (z_goto X (t := 40) rfl rfl (N10 _ (Or.inr (Or.inr (Or.inr (⟨g12, g13, g14, rfl⟩))))))
    ·
      refine z_bipush X rfl ?_
      exact w_iret X.1 q hRt rfl (ax_d X (show cdA 130 14 = some (.ireturn, 1, 0, 0, 0) from rfl)) (Nat.zero_le _) (Nat.zero_le _) ⟨_, rfl, rfl, (-2), rfl, (by decide), by first | exact Or.inl (And.intro (g1) (And.intro (g8) (by decide))) | omega⟩
set_option maxRecDepth 4000 in
theorem c10_step2 (G : GX l s0 D tys a0 dT) {B : Nat → Int} {N : Int} (I : Bd s) (jBYB : BYB B N s) (p0 : iI s 2 ≤ iI s 1) : CT l s0 D A dT 129 (rmN 129) [.ref (A 1)] s (fun o t => Bd t ∧ Fm [2, 4, 6, 5] [] s t ∧ BYB B N t ∧ o = .inl none ∧ (iI t 2 ≤ iI t 1 ∧ iI t 4 ≤ iI t 2 ∧ iI t 4 = sk B N (iI s 2) ∧ TKN B N (iI t 5) (iI t 4) (iI t 2) (iI t 6))) := by
  refine ct_ofX G (by decide) (Nat.le_of_ble_eq_true rfl) (fun k X E ET hRt hXt q => ?_)
  show WS k 0 [(0, .ref (A 1))] [] _ 0 0
  have F : Fm [2, 4, 6, 5] [] s s := fm_rf _ _ s
  have hN := jBYB.2.1
  have hW := jBYB.2.2
  have b1 := bi_2 I
  have b2 := bi_1 I
  have b3 := bi_4 I
  have b4 := bi_5 I
  have b5 := bi_6 I
  have b6 := bi_3 I
  have L0 : ∀ (n : Nat) (t : PS), Bd t → Fm [2, 4, 6, 5] [] s t → BYB B N t → (sk B N (iI t 2) = sk B N (iI s 2)) → (iI t 2 ≤ iI t 1) → (iI t 1 - iI t 2 : Int).toNat < n → (∀ (t' : PS), Bd t' → Fm [2, 4, 6, 5] [] s t' → BYB B N t' → (sk B N (iI s 2) = iI t' 2) → (iI t' 2 ≤ iI t' 1) → WS k 38 [(0, .ref (A 1))] [] (Wd A dT t') 0 0) → WS k 0 [(0, .ref (A 1))] [] (Wd A dT t) 0 0 := by
    intro n
    induction n with
    | zero =>
      intro t  I F jjBYB hq hi hm kx
      exact absurd hm (Nat.not_lt_zero _)
    | succ n ih =>
      intro t  I F jjBYB hq hi hm kx
      have b1001 := bi_2 I
      have b1002 := bi_1 I
      have b1003 := bi_4 I
      have b1004 := bi_5 I
      have b1005 := bi_6 I
      have b1006 := bi_3 I
      have hN := jjBYB.2.1
      have hW := jjBYB.2.2
      refine z_aload_n X (x := A 1) rfl (List.Mem.head _) (z_getI X 1 rfl (c518_ok rfl) rfl rfl ?_)
      have b1007 := bi_2 I
      refine z_aload_n X (x := A 1) rfl (List.Mem.head _) (z_getI X 1 rfl (c518_ok rfl) rfl rfl ?_)
      have b1008 := bi_1 I
      refine z_icmp_ge X (t := 38) rfl rfl (rng_to _) (rng_to _) (fun g1009 => ?_) (fun g1009 => ?_)
      ·
        refine WS_pq [0] (lv' := [(0, .ref (A 1))]) rfl ?_
        exact kx _  I F jjBYB (hq.symm.trans (sk_stop (by first | exact Or.inl (oq_acf76229 g1009 hN) | omega))) (by first | exact hi | omega)
      ·
        refine z_aload_n X (x := A 1) rfl (List.Mem.head _) (s_getR X 1 rfl (c518_ok rfl) rfl rfl (z_aload_n X (x := A 1) rfl (List.Mem.head _) (z_getI X 1 rfl (c518_ok rfl) rfl rfl ?_)))
        have b1010 := bi_2 I
        refine z_ald X 2 rfl (c518_ok rfl) rfl (by first | exact b1010.1 | omega) (show (iI t 2) < 200 by first | exact oq_6fca3d72 g1009 b1008.2 | omega) (cbig_ok rfl) ?_
        have b1011 := bc_0 I (show ((iI t 2)).toNat < 200 by first | exact oq_b70289d5 g1009 b1008.2 | omega)
        have fb1012 : iC t 0 ((iI t 2)).toNat = B ((iI t 2)).toNat := jjBYB.1 _ (by first | exact oq_b70289d5 g1009 b1008.2 | omega)
        refine z_bipush X rfl (z_icmp_ne X (t := 38) rfl rfl (rng_to _) (by decide) (fun g1013 => ?_) (fun g1013 => ?_))
        ·
          refine WS_pq [0] (lv' := [(0, .ref (A 1))]) rfl ?_
          exact kx _  I F jjBYB (hq.symm.trans (sk_stop (by first | exact Or.inr (oq_d2accaf2 g1013 fb1012) | (clear g1013; omega) | omega))) (by first | exact hi | omega)
        ·
          refine z_aload_n X (x := A 1) rfl (List.Mem.head _) (w_dup X.1 (ax_d X (show cdA 129 26 = some (.dup, 1, 0, 0, 0) from rfl)) rfl (z_getI X 1 rfl (c518_ok rfl) rfl rfl ?_))
          have b1014 := bi_2 I
          refine z_const X rfl (z_add X rfl (s_putI X 1 rfl (c518_ok rfl) rfl rfl (by decide) rfl rfl rfl (wd_gen (fun s1015 hs1015 => ?_))))
          have Is1015 : Bd s1015 := eqB hs1015 (bd_I I (show (0 : Int) ≤ ((iI t 2) + 1) ∧ ((iI t 2) + 1) ≤ 200 by first | exact ⟨oq_54f49eb5 b1014.1, oq_228270fa g1009 b1008.2⟩ | omega) ⟨by first | exact oq_74de1e16 b1014.1 | omega, by first | exact oq_bb8d498d b1014.2 | omega⟩)
          have Fs1015 := eqF hs1015 (fm_I F (inl_ok (a := 2) rfl))
          have vs1015 : iI s1015 2 = ((iI t 2) + 1) := eqI hs1015 (iI_u ⟨by first | exact oq_74de1e16 b1014.1 | omega, by first | exact oq_bb8d498d b1014.2 | omega⟩)
          have ws1015_1 : iI s1015 1 = iI t 1 := eqI hs1015 rfl
          have ws1015_4 : iI s1015 4 = iI t 4 := eqI hs1015 rfl
          have ws1015_5 : iI s1015 5 = iI t 5 := eqI hs1015 rfl
          have ws1015_6 : iI s1015 6 = iI t 6 := eqI hs1015 rfl
          have ws1015_3 : iI s1015 3 = iI t 3 := eqI hs1015 rfl
          have fs1015 : Fm [2] [] t s1015 := by rw [hs1015]; exact fm_I (fm_rf _ _ _) (show 2 ∈ _ by decide)
          have JBYB_s1015 : BYB B N s1015 := BYB_fm fs1015 (by decide) jjBYB
          refine z_goto X (t := 0) rfl rfl (WS_pq [0] (lv' := [(0, .ref (A 1))]) rfl ?_)
          exact ih _  Is1015 Fs1015 JBYB_s1015 (by rw [vs1015, ← sk_blank (by first | exact oq_9d1a6c71 g1009 hN | omega) (by first | exact oq_15e1498e g1013 fb1012 | omega)]; exact hq) (by first | exact oq_61bfd4fa ws1015_1 vs1015 g1009 | omega) (by first | exact qk_me hm (oq_bf2569a2 ws1015_1 vs1015) (oq_901836cd g1009) | omega) kx
  have L92 : ∀ (n : Nat) (t : PS), Bd t → Fm [2, 4, 6, 5] [] s t → BYB B N t → (nmV B N (iI t 2) (iI t 6) = nmV B N (sk B N (iI s 2)) 0 ∧ nmE B N (iI t 2) (iI t 6) = nmE B N (sk B N (iI s 2)) 0) → (iI t 2 ≤ iI t 1 ∧ iI t 4 ≤ iI t 2 ∧ iI t 4 = sk B N (iI s 2) ∧ iI t 5 = -2) → (iI t 1 - iI t 2 : Int).toNat < n → (∀ (t' : PS), Bd t' → Fm [2, 4, 6, 5] [] s t' → BYB B N t' → (iI t' 6 = nmV B N (sk B N (iI s 2)) 0 ∧ iI t' 2 = nmE B N (sk B N (iI s 2)) 0) → (iI t' 2 ≤ iI t' 1 ∧ iI t' 4 ≤ iI t' 2 ∧ iI t' 4 = sk B N (iI s 2) ∧ iI t' 5 = -2) → WS k 232 [(0, .ref (A 1))] [] (Wd A dT t') 0 0) → WS k 92 [(0, .ref (A 1))] [] (Wd A dT t) 0 0 := by
    intro n
    induction n with
    | zero =>
      intro t  I F jjBYB hq hi hm kx
      exact absurd hm (Nat.not_lt_zero _)
    | succ n ih =>
      intro t  I F jjBYB hq hi hm kx
      have b2001 := bi_2 I
      have b2002 := bi_1 I
      have b2003 := bi_4 I
      have b2004 := bi_5 I
      have b2005 := bi_6 I
      have b2006 := bi_3 I
      have hN := jjBYB.2.1
      have hW := jjBYB.2.2
      refine z_aload_n X (x := A 1) rfl (List.Mem.head _) (z_getI X 1 rfl (c518_ok rfl) rfl rfl ?_)
      have b2007 := bi_2 I
      refine z_aload_n X (x := A 1) rfl (List.Mem.head _) (z_getI X 1 rfl (c518_ok rfl) rfl rfl ?_)
      have b2008 := bi_1 I
      refine z_icmp_ge X (t := 232) rfl rfl (rng_to _) (rng_to _) (fun g2009 => ?_) (fun g2009 => ?_)
      ·
        refine WS_pq [0] (lv' := [(0, .ref (A 1))]) rfl ?_
        exact kx _  I F jjBYB ⟨(nmV_stop (by first | exact Or.inl (oq_acf76229 g2009 hN) | omega)).symm.trans hq.1, (nmE_stop (by first | exact Or.inl (oq_acf76229 g2009 hN) | omega)).symm.trans hq.2⟩ (by first | exact ⟨hi.1, hi.2.1, hi.2.2.1, hi.2.2.2⟩ | omega)
      ·
        refine z_aload_n X (x := A 1) rfl (List.Mem.head _) (z_aload_n X (x := A 1) rfl (List.Mem.head _) (s_getR X 1 rfl (c518_ok rfl) rfl rfl (z_aload_n X (x := A 1) rfl (List.Mem.head _) (z_getI X 1 rfl (c518_ok rfl) rfl rfl ?_))))
        have b2010 := bi_2 I
        refine z_ald X 2 rfl (c518_ok rfl) rfl (by first | exact b2010.1 | omega) (show (iI t 2) < 200 by first | exact oq_6fca3d72 g2009 b2008.2 | omega) (cbig_ok rfl) ?_
        have b2011 := bc_0 I (show ((iI t 2)).toNat < 200 by first | exact oq_b70289d5 g2009 b2008.2 | omega)
        have fb2012 : iC t 0 ((iI t 2)).toNat = B ((iI t 2)).toNat := jjBYB.1 _ (by first | exact oq_b70289d5 g2009 b2008.2 | omega)
        refine z_callV X 1 (rm := rmN 130) (As := [.int (Int32.ofInt (iC t 0 ((iI t 2)).toNat))]) (st := []) rfl rfl (by decide) rfl (by rw [E.1, E.2.1, E.2.2.1]; exact c10_kindOf2 G I (by first | exact ⟨b2011.1, b2011.2⟩ | omega) (by first | exact hW | omega)) ⟨by rw [E.2.2.2]; exact (show (rmN 130).frames + 1 ≤ (rmN 129).frames by decide), by rw [E.2.2.2]; exact (show 8 + (mNL (miB 130) + 11) + (rmN 130).locals ≤ (rmN 129).locals by decide), by rw [E.2.2.2]; exact (show 0 + (rmN 130).cells ≤ (rmN 129).cells by decide), by rw [E.2.2.2]; exact (show 0 + (rmN 130).slots ≤ (rmN 129).slots by decide)⟩ (Nat.le_of_ble_eq_true rfl) (fun vv s2013 hq => ?_) (fun ee s2013 hq => ?_)
        rotate_left
        · obtain ⟨rfl, e2014, hv, hrs2013, hps2013⟩ := hq; cases hv
        obtain ⟨rfl, e2014, hv, hrs2013, hps2013⟩ := hq
        cases hv
        show WS k 116 [(0, .ref (A 1))] [.int (Int32.ofInt e2014)] (Wd A dT t) 0 0
        refine z_bipush X rfl (z_icmp_ne X (t := 232) rfl rfl hrs2013 (by decide) (fun g2015 => ?_) (fun g2015 => ?_))
        ·
          refine WS_pq [0] (lv' := [(0, .ref (A 1))]) rfl ?_
          exact kx _  I F jjBYB ⟨(nmV_stop (by first | exact Or.inr (oq_ccf2756a g2015 hps2013 fb2012) | (clear g2015 hps2013; omega) | (clear hps2013; omega) | omega)).symm.trans hq.1, (nmE_stop (by first | exact Or.inr (oq_ccf2756a g2015 hps2013 fb2012) | (clear g2015 hps2013; omega) | (clear hps2013; omega) | omega)).symm.trans hq.2⟩ (by first | exact ⟨hi.1, hi.2.1, hi.2.2.1, hi.2.2.2⟩ | omega)
        ·
          refine z_aload_n X (x := A 1) rfl (List.Mem.head _) (z_ldc X rfl (z_aload_n X (x := A 1) rfl (List.Mem.head _) (z_getI X 1 rfl (c518_ok rfl) rfl rfl ?_)))
          have b2016 := bi_6 I
          refine z_bipush X rfl (z_mul X rfl (z_aload_n X (x := A 1) rfl (List.Mem.head _) (s_getR X 1 rfl (c518_ok rfl) rfl rfl (z_aload_n X (x := A 1) rfl (List.Mem.head _) (z_getI X 1 rfl (c518_ok rfl) rfl rfl ?_)))))
          have b2017 := bi_2 I
          refine z_ald X 2 rfl (c518_ok rfl) rfl (by first | exact b2017.1 | omega) (show (iI t 2) < 200 by first | exact oq_6fca3d72 g2009 b2008.2 | omega) (cbig_ok rfl) ?_
          have b2018 := bc_0 I (show ((iI t 2)).toNat < 200 by first | exact oq_b70289d5 g2009 b2008.2 | omega)
          have fb2019 : iC t 0 ((iI t 2)).toNat = B ((iI t 2)).toNat := jjBYB.1 _ (by first | exact oq_b70289d5 g2009 b2008.2 | (clear hps2013; omega) | omega)
          refine z_add X rfl (z_bipush X rfl (z_sub X rfl (z_min X rfl (by decide) ⟨by first | exact oq_74ddc356 b2016.1 b2018.1 | omega, by first | exact oq_507881e8 b2016.2 b2018.2 | omega⟩ (by rw [E.2.2.2]; decide) (by rw [E.2.2.2]; exact Nat.le_of_ble_eq_true rfl) (Nat.zero_le _) (Nat.zero_le _) (fun e2020 he2020 => ?_))))
          refine s_putI X 1 rfl (c518_ok rfl) rfl rfl (by decide) rfl rfl rfl (wd_gen (fun s2021 hs2021 => ?_))
          have Is2021 : Bd s2021 := eqB hs2021 (bd_I I (show (0 : Int) ≤ e2020 ∧ e2020 ≤ 100000 by first | exact ⟨oq_ee7b0a30 he2020 b2018.1 b2016.1 g2015 hps2013, oq_111e13c5 he2020⟩ | omega) ⟨by first | exact oq_d5d8953a he2020 b2018.1 b2016.1 | omega, by first | exact oq_aae81add he2020 | omega⟩)
          have Fs2021 := eqF hs2021 (fm_I F (inl_ok (a := 6) rfl))
          have vs2021 : iI s2021 6 = e2020 := eqI hs2021 (iI_u ⟨by first | exact oq_d5d8953a he2020 b2018.1 b2016.1 | omega, by first | exact oq_aae81add he2020 | omega⟩)
          have ws2021_2 : iI s2021 2 = iI t 2 := eqI hs2021 rfl
          have ws2021_1 : iI s2021 1 = iI t 1 := eqI hs2021 rfl
          have ws2021_4 : iI s2021 4 = iI t 4 := eqI hs2021 rfl
          have ws2021_5 : iI s2021 5 = iI t 5 := eqI hs2021 rfl
          have ws2021_3 : iI s2021 3 = iI t 3 := eqI hs2021 rfl
          have fs2021 : Fm [6] [] t s2021 := by rw [hs2021]; exact fm_I (fm_rf _ _ _) (show 6 ∈ _ by decide)
          have JBYB_s2021 : BYB B N s2021 := BYB_fm fs2021 (by decide) jjBYB
          refine z_aload_n X (x := A 1) rfl (List.Mem.head _) (w_dup X.1 (ax_d X (show cdA 129 151 = some (.dup, 1, 0, 0, 0) from rfl)) rfl (z_getI X 1 rfl (c518_ok rfl) rfl rfl ?_))
          have b2022 := bi_2 Is2021
          refine z_const X rfl (z_add X rfl (s_putI X 1 rfl (c518_ok rfl) rfl rfl (by decide) rfl rfl rfl (wd_gen (fun s2023 hs2023 => ?_))))
          have Is2023 : Bd s2023 := eqB hs2023 (bd_I Is2021 (show (0 : Int) ≤ ((iI s2021 2) + 1) ∧ ((iI s2021 2) + 1) ≤ 200 by first | exact ⟨oq_54f49eb5 b2022.1, oq_ff985df0 ws2021_2 g2009 b2008.2⟩ | omega) ⟨by first | exact oq_74de1e16 b2022.1 | omega, by first | exact oq_bb8d498d b2022.2 | omega⟩)
          have Fs2023 := eqF hs2023 (fm_I Fs2021 (inl_ok (a := 2) rfl))
          have vs2023 : iI s2023 2 = ((iI s2021 2) + 1) := eqI hs2023 (iI_u ⟨by first | exact oq_74de1e16 b2022.1 | omega, by first | exact oq_bb8d498d b2022.2 | omega⟩)
          have ws2023_1 : iI s2023 1 = iI s2021 1 := eqI hs2023 rfl
          have ws2023_4 : iI s2023 4 = iI s2021 4 := eqI hs2023 rfl
          have ws2023_5 : iI s2023 5 = iI s2021 5 := eqI hs2023 rfl
          have ws2023_6 : iI s2023 6 = iI s2021 6 := eqI hs2023 rfl
          have ws2023_3 : iI s2023 3 = iI s2021 3 := eqI hs2023 rfl
          have fs2023 : Fm [2] [] s2021 s2023 := by rw [hs2023]; exact fm_I (fm_rf _ _ _) (show 2 ∈ _ by decide)
          have JBYB_s2023 : BYB B N s2023 := BYB_fm fs2023 (by decide) JBYB_s2021
          refine z_goto X (t := 92) rfl rfl (WS_pq [0] (lv' := [(0, .ref (A 1))]) rfl ?_)
          exact ih _  Is2023 Fs2023 JBYB_s2023 (by rw [show iI s2023 2 = iI t 2 + 1 by first | exact oq_665cd23d vs2023 ws2021_2 | (clear hps2013; omega) | omega, show iI s2023 6 = cap (10 * iI t 6 + B (iI t 2).toNat - 48) by unfold cap; split <;> omega, ← nmV_dig (by first | exact oq_9d1a6c71 g2009 hN | (clear hps2013; omega) | omega) (by first | exact oq_f640f288 fb2019 b2018.1 g2015 hps2013 | (clear hps2013; omega) | omega) (by first | exact oq_9c219b97 fb2019 g2015 hps2013 | (clear hps2013; omega) | omega), ← nmE_dig (by first | exact oq_9d1a6c71 g2009 hN | (clear hps2013; omega) | omega) (by first | exact oq_f640f288 fb2019 b2018.1 g2015 hps2013 | (clear hps2013; omega) | omega) (by first | exact oq_9c219b97 fb2019 g2015 hps2013 | (clear hps2013; omega) | omega)]; exact hq) (by first | exact ⟨oq_499a7076 ws2023_1 vs2023 ws2021_1 ws2021_2 g2009, oq_552af53c vs2023 ws2023_4 ws2021_4 ws2021_2 hi.2.1, oq_2e8e3af2 hi.2.2.1 ws2023_4 ws2021_4, oq_fd530c01 ws2023_5 ws2021_5 hi.2.2.2⟩ | omega) (by first | exact qk_me hm (oq_956b687f ws2023_1 vs2023 ws2021_1 ws2021_2) (oq_901836cd g2009) | omega) kx
  refine WS_pq [0] (lv' := [(0, .ref (A 1))]) rfl (L0 ((iI s 1 - iI s 2 : Int).toNat + 1) s  I F jBYB rfl (by first | exact p0 | omega) (Nat.lt_succ_self _) ?_)
  intro s7  Is7 Fs7 JBYB_s7 Qs7 hs7
  have b8 := bi_2 Is7
  have b9 := bi_1 Is7
  have b10 := bi_4 Is7
  have b11 := bi_5 Is7
  have b12 := bi_6 Is7
  have b13 := bi_3 Is7
  have hNs7 := JBYB_s7.2.1
  have hWs7 := JBYB_s7.2.2
  refine z_aload_n X (x := A 1) rfl (List.Mem.head _) (z_aload_n X (x := A 1) rfl (List.Mem.head _) (z_getI X 1 rfl (c518_ok rfl) rfl rfl ?_))
  have b14 := bi_2 Is7
  refine s_putI X 1 rfl (c518_ok rfl) rfl rfl (by decide) rfl rfl rfl (wd_gen (fun s15 hs15 => ?_))
  have Is15 : Bd s15 := eqB hs15 (bd_I Is7 (show (0 : Int) ≤ (iI s7 2) ∧ (iI s7 2) ≤ 200 by first | exact ⟨b14.1, b14.2⟩ | omega) (rng_to _))
  have Fs15 := eqF hs15 (fm_I Fs7 (inl_ok (a := 4) rfl))
  have vs15 : iI s15 4 = (iI s7 2) := eqI hs15 (iI_u (rng_to _))
  have ws15_2 : iI s15 2 = iI s7 2 := eqI hs15 rfl
  have ws15_1 : iI s15 1 = iI s7 1 := eqI hs15 rfl
  have ws15_5 : iI s15 5 = iI s7 5 := eqI hs15 rfl
  have ws15_6 : iI s15 6 = iI s7 6 := eqI hs15 rfl
  have ws15_3 : iI s15 3 = iI s7 3 := eqI hs15 rfl
  have fs15 : Fm [4] [] s7 s15 := by rw [hs15]; exact fm_I (fm_rf _ _ _) (show 4 ∈ _ by decide)
  have JBYB_s15 : BYB B N s15 := BYB_fm fs15 (by decide) JBYB_s7
  refine z_aload_n X (x := A 1) rfl (List.Mem.head _) (z_const X rfl (s_putI X 1 rfl (c518_ok rfl) rfl rfl (by decide) rfl rfl rfl (wd_gen (fun s16 hs16 => ?_))))
  have Is16 : Bd s16 := eqB hs16 (bd_I Is15 (show (0 : Int) ≤ 0 ∧ 0 ≤ 100000 by first | exact ⟨by decide, by decide⟩ | omega) (by decide))
  have Fs16 := eqF hs16 (fm_I Fs15 (inl_ok (a := 6) rfl))
  have vs16 : iI s16 6 = 0 := eqI hs16 (iI_u (by decide))
  have ws16_2 : iI s16 2 = iI s15 2 := eqI hs16 rfl
  have ws16_1 : iI s16 1 = iI s15 1 := eqI hs16 rfl
  have ws16_4 : iI s16 4 = iI s15 4 := eqI hs16 rfl
  have ws16_5 : iI s16 5 = iI s15 5 := eqI hs16 rfl
  have ws16_3 : iI s16 3 = iI s15 3 := eqI hs16 rfl
  have fs16 : Fm [6] [] s15 s16 := by rw [hs16]; exact fm_I (fm_rf _ _ _) (show 6 ∈ _ by decide)
  have JBYB_s16 : BYB B N s16 := BYB_fm fs16 (by decide) JBYB_s15
  refine z_aload_n X (x := A 1) rfl (List.Mem.head _) (z_aload_n X (x := A 1) rfl (List.Mem.head _) (z_getI X 1 rfl (c518_ok rfl) rfl rfl ?_))
  have b17 := bi_2 Is16
  refine z_aload_n X (x := A 1) rfl (List.Mem.head _) (z_getI X 1 rfl (c518_ok rfl) rfl rfl ?_)
  have b18 := bi_1 Is16
  refine z_icmp_ge X (t := 79) rfl rfl (rng_to _) (rng_to _) (fun g19 => ?_) (fun g19 => ?_)
  ·
    refine z_const X rfl (s_putI X 1 rfl (c518_ok rfl) rfl rfl (by decide) rfl rfl rfl (wd_gen (fun s20 hs20 => ?_)))
    have Is20 : Bd s20 := eqB hs20 (bd_I Is16 (show ((-3) : Int) ≤ (-1) ∧ (-1) ≤ 255 by first | exact ⟨by decide, by decide⟩ | omega) (by decide))
    have Fs20 := eqF hs20 (fm_I Fs16 (inl_ok (a := 5) rfl))
    have vs20 : iI s20 5 = (-1) := eqI hs20 (iI_u (by decide))
    have ws20_2 : iI s20 2 = iI s16 2 := eqI hs20 rfl
    have ws20_1 : iI s20 1 = iI s16 1 := eqI hs20 rfl
    have ws20_4 : iI s20 4 = iI s16 4 := eqI hs20 rfl
    have ws20_6 : iI s20 6 = iI s16 6 := eqI hs20 rfl
    have ws20_3 : iI s20 3 = iI s16 3 := eqI hs20 rfl
    have fs20 : Fm [5] [] s16 s20 := by rw [hs20]; exact fm_I (fm_rf _ _ _) (show 5 ∈ _ by decide)
    have JBYB_s20 : BYB B N s20 := BYB_fm fs20 (by decide) JBYB_s16
    refine z_aload_n X (x := A 1) rfl (List.Mem.head _) (z_getI X 1 rfl (c518_ok rfl) rfl rfl ?_)
    have b21 := bi_5 Is20
    refine z_bipush X rfl (z_icmp_ne X (t := 163) rfl rfl (rng_to _) (by decide) (fun g22 => ?_) (fun g22 => ?_))
    ·
      refine z_aload_n X (x := A 1) rfl (List.Mem.head _) (z_getI X 1 rfl (c518_ok rfl) rfl rfl ?_)
      have b23 := bi_5 Is20
      refine z_bipush X rfl (z_icmp_ne X (t := 214) rfl rfl (rng_to _) (by decide) (fun g24 => ?_) (fun g24 => ?_))
      ·
        refine z_aload_n X (x := A 1) rfl (List.Mem.head _) (z_getI X 1 rfl (c518_ok rfl) rfl rfl ?_)
        have b25 := bi_5 Is20
        refine z_const X rfl (z_icmp_eq X (t := 232) rfl rfl (rng_to _) (by decide) (fun g26 => ?_) (fun g26 => ?_))
        ·
          exact w_vret X.1 q hRt (ax_d X (show cdA 129 232 = some (.return_, 1, 0, 0, 0) from rfl)) (Nat.zero_le _) (Nat.zero_le _) ⟨_, rfl, Is20, Fs20, JBYB_s20, rfl, ⟨by first | exact oq_72ebe5a4 ws20_1 ws20_2 ws16_1 ws16_2 ws15_1 ws15_2 hs7 | omega, by first | exact oq_75f1f811 ws20_4 ws20_2 ws16_4 ws16_2 ws15_2 vs15 | omega, by first | exact oq_2fb32834 ws20_4 ws16_4 vs15 Qs7 | (clear g24 g22; omega) | (clear g22; omega) | omega, by first | exact Or.inl ⟨by first | exact oq_f0def832 ws20_4 g19 ws16_4 ws16_1 ws16_2 ws15_1 ws15_2 vs15 hNs7 | (clear g24 g22; omega) | (clear g22; omega) | omega, by first | exact g26 | (clear g24 g22; omega) | (clear g22; omega) | omega⟩ | exact tkn_sig (x := 0) (Q := sk B N (iI s 2)) (by first | (clear g24 g22; omega) | (clear g22; omega) | omega) (by first | (clear g24 g22; omega) | (clear g22; omega) | omega) (by first | (clear g24 g22; omega) | (clear g22; omega) | omega) (by first | (clear g24 g22; omega) | (clear g22; omega) | omega) (by first | (clear g24 g22; omega) | (clear g22; omega) | omega) (by first | (clear g24 g22; omega) | (clear g22; omega) | omega) (by first | (clear g24 g22; omega) | (clear g22; omega) | omega)⟩⟩
        ·
          refine z_aload_n X (x := A 1) rfl (List.Mem.head _) (w_dup X.1 (ax_d X (show cdA 129 223 = some (.dup, 1, 0, 0, 0) from rfl)) rfl (z_getI X 1 rfl (c518_ok rfl) rfl rfl ?_))
          have b27 := bi_2 Is20
          refine z_const X rfl (z_add X rfl (s_putI X 1 rfl (c518_ok rfl) rfl rfl (by decide) rfl rfl rfl (wd_gen (fun s28 hs28 => ?_))))
          have Is28 : Bd s28 := eqB hs28 (bd_I Is20 (show (0 : Int) ≤ ((iI s20 2) + 1) ∧ ((iI s20 2) + 1) ≤ 200 by first | exact ⟨oq_54f49eb5 b27.1, oq_3239b5cf g26 vs20⟩ | omega) ⟨by first | exact oq_74de1e16 b27.1 | omega, by first | exact oq_bb8d498d b27.2 | omega⟩)
          have Fs28 := eqF hs28 (fm_I Fs20 (inl_ok (a := 2) rfl))
          have vs28 : iI s28 2 = ((iI s20 2) + 1) := eqI hs28 (iI_u ⟨by first | exact oq_74de1e16 b27.1 | omega, by first | exact oq_bb8d498d b27.2 | omega⟩)
          have ws28_1 : iI s28 1 = iI s20 1 := eqI hs28 rfl
          have ws28_4 : iI s28 4 = iI s20 4 := eqI hs28 rfl
          have ws28_5 : iI s28 5 = iI s20 5 := eqI hs28 rfl
          have ws28_6 : iI s28 6 = iI s20 6 := eqI hs28 rfl
          have ws28_3 : iI s28 3 = iI s20 3 := eqI hs28 rfl
          have fs28 : Fm [2] [] s20 s28 := by rw [hs28]; exact fm_I (fm_rf _ _ _) (show 2 ∈ _ by decide)
          have JBYB_s28 : BYB B N s28 := BYB_fm fs28 (by decide) JBYB_s20
          exact w_vret X.1 q hRt (ax_d X (show cdA 129 232 = some (.return_, 1, 0, 0, 0) from rfl)) (Nat.zero_le _) (Nat.zero_le _) ⟨_, rfl, Is28, Fs28, JBYB_s28, rfl, ⟨by first | exact oq_92cb535d g26 vs20 | omega, by first | exact oq_92f9996c ws28_4 vs28 ws20_4 ws20_2 ws16_4 ws16_2 ws15_2 vs15 | omega, by first | exact oq_0f6bfda4 g26 vs20 | omega, by first | exact Or.inl ⟨by first | exact oq_a6252360 ws28_4 ws20_4 g19 ws16_4 ws16_1 ws16_2 ws15_1 ws15_2 vs15 hNs7 | (clear g26 g24 g22; omega) | (clear g24 g22; omega) | omega, by first | exact oq_627b51e0 ws28_5 vs20 | (clear g26 g24 g22; omega) | (clear g24 g22; omega) | omega⟩ | exact tkn_sig (x := 0) (Q := sk B N (iI s 2)) (by first | (clear g26 g24 g22; omega) | (clear g24 g22; omega) | omega) (by first | (clear g26 g24 g22; omega) | (clear g24 g22; omega) | omega) (by first | (clear g26 g24 g22; omega) | (clear g24 g22; omega) | omega) (by first | (clear g26 g24 g22; omega) | (clear g24 g22; omega) | omega) (by first | (clear g26 g24 g22; omega) | (clear g24 g22; omega) | omega) (by first | (clear g26 g24 g22; omega) | (clear g24 g22; omega) | omega) (by first | (clear g26 g24 g22; omega) | (clear g24 g22; omega) | omega)⟩⟩
      ·
        exfalso
        omega
    ·
      refine WS_pq [0] (lv' := [(0, .ref (A 1))]) rfl (L92 ((iI s20 1 - iI s20 2 : Int).toNat + 1) s20  Is20 Fs20 JBYB_s20 (by rw [show iI s20 2 = sk B N (iI s 2) by first | exact oq_2fb32834 ws20_2 ws16_2 ws15_2 Qs7 | omega, show iI s20 6 = 0 by first | exact oq_e5e5d3d6 ws20_6 vs16 | omega]; exact ⟨rfl, rfl⟩) (by first | exact ⟨oq_d948e2ba g22 vs20, oq_d948e2ba g22 vs20, oq_a80f34c2 g22 vs20, g22⟩ | omega) (Nat.lt_succ_self _) ?_)
      intro s29  Is29 Fs29 JBYB_s29 Qs29 hs29
      have b30 := bi_2 Is29
      have b31 := bi_1 Is29
      have b32 := bi_4 Is29
      have b33 := bi_5 Is29
      have b34 := bi_6 Is29
      have b35 := bi_3 Is29
      have hNs29 := JBYB_s29.2.1
      have hWs29 := JBYB_s29.2.2
      exact w_vret X.1 q hRt (ax_d X (show cdA 129 232 = some (.return_, 1, 0, 0, 0) from rfl)) (Nat.zero_le _) (Nat.zero_le _) ⟨_, rfl, Is29, Fs29, JBYB_s29, rfl, ⟨by first | exact hs29.1 | omega, by first | exact hs29.2.1 | omega, by first | exact hs29.2.2.1 | omega, tkn_num (x := 0) (Q := sk B N (iI s 2)) (by first | exact oq_e56a23d9 g22 vs20 | omega) (by first | exact hs29.2.2.1 | omega) (by first | exact oq_f744383f g22 vs20 | omega) (by first | exact oq_e8fa4957 g22 vs20 | omega) (by first | exact oq_30f860ad g22 vs20 | omega) (by first | exact hs29.2.2.2 | omega) (by first | exact Qs29.1 | omega) (by first | exact Qs29.2 | omega)⟩⟩
  ·
    refine z_aload_n X (x := A 1) rfl (List.Mem.head _) (z_aload_n X (x := A 1) rfl (List.Mem.head _) (s_getR X 1 rfl (c518_ok rfl) rfl rfl (z_aload_n X (x := A 1) rfl (List.Mem.head _) (z_getI X 1 rfl (c518_ok rfl) rfl rfl ?_))))
    have b36 := bi_2 Is16
    refine z_ald X 2 rfl (c518_ok rfl) rfl (by first | exact b36.1 | omega) (show (iI s16 2) < 200 by first | exact oq_6fca3d72 g19 b18.2 | omega) (cbig_ok rfl) ?_
    have b37 := bc_0 Is16 (show ((iI s16 2)).toNat < 200 by first | exact oq_b70289d5 g19 b18.2 | omega)
    have fb38 : iC s16 0 ((iI s16 2)).toNat = B ((iI s16 2)).toNat := JBYB_s16.1 _ (by first | exact oq_b70289d5 g19 b18.2 | omega)
    refine z_callV X 1 (rm := rmN 130) (As := [.int (Int32.ofInt (iC s16 0 ((iI s16 2)).toNat))]) (st := [.ref (A 1)]) rfl rfl (by decide) rfl (by rw [E.1, E.2.1, E.2.2.1]; exact c10_kindOf2 G Is16 (by first | exact ⟨b37.1, b37.2⟩ | omega) (by first | exact oq_cd9cbf39 ws16_3 ws15_3 hWs7 | omega)) ⟨by rw [E.2.2.2]; exact (show (rmN 130).frames + 1 ≤ (rmN 129).frames by decide), by rw [E.2.2.2]; exact (show 8 + (mNL (miB 130) + 11) + (rmN 130).locals ≤ (rmN 129).locals by decide), by rw [E.2.2.2]; exact (show 0 + (rmN 130).cells ≤ (rmN 129).cells by decide), by rw [E.2.2.2]; exact (show 0 + (rmN 130).slots ≤ (rmN 129).slots by decide)⟩ (Nat.le_of_ble_eq_true rfl) (fun vv s39 hq => ?_) (fun ee s39 hq => ?_)
    rotate_left
    · obtain ⟨rfl, e40, hv, hrs39, hps39⟩ := hq; cases hv
    obtain ⟨rfl, e40, hv, hrs39, hps39⟩ := hq
    cases hv
    show WS k 76 [(0, .ref (A 1))] [.int (Int32.ofInt e40), .ref (A 1)] (Wd A dT s16) 0 0
    refine z_goto X (t := 80) rfl rfl (s_putI X 1 rfl (c518_ok rfl) rfl rfl (by decide) rfl rfl rfl (wd_gen (fun s41 hs41 => ?_)))
    have Is41 : Bd s41 := eqB hs41 (bd_I Is16 (show ((-3) : Int) ≤ e40 ∧ e40 ≤ 255 by first | exact ⟨oq_6517d9a9 hps39 b37.1, oq_19f43bdc hps39 b37.2⟩ | omega) hrs39)
    have Fs41 := eqF hs41 (fm_I Fs16 (inl_ok (a := 5) rfl))
    have vs41 : iI s41 5 = e40 := eqI hs41 (iI_u hrs39)
    have ws41_2 : iI s41 2 = iI s16 2 := eqI hs41 rfl
    have ws41_1 : iI s41 1 = iI s16 1 := eqI hs41 rfl
    have ws41_4 : iI s41 4 = iI s16 4 := eqI hs41 rfl
    have ws41_6 : iI s41 6 = iI s16 6 := eqI hs41 rfl
    have ws41_3 : iI s41 3 = iI s16 3 := eqI hs41 rfl
    have fs41 : Fm [5] [] s16 s41 := by rw [hs41]; exact fm_I (fm_rf _ _ _) (show 5 ∈ _ by decide)
    have JBYB_s41 : BYB B N s41 := BYB_fm fs41 (by decide) JBYB_s16
    refine z_aload_n X (x := A 1) rfl (List.Mem.head _) (z_getI X 1 rfl (c518_ok rfl) rfl rfl ?_)
    have b42 := bi_5 Is41
    refine z_bipush X rfl (z_icmp_ne X (t := 163) rfl rfl (rng_to _) (by decide) (fun g43 => ?_) (fun g43 => ?_))
    ·
      refine z_aload_n X (x := A 1) rfl (List.Mem.head _) (z_getI X 1 rfl (c518_ok rfl) rfl rfl ?_)
      have b44 := bi_5 Is41
      refine z_bipush X rfl (z_icmp_ne X (t := 214) rfl rfl (rng_to _) (by decide) (fun g45 => ?_) (fun g45 => ?_))
      ·
        refine z_aload_n X (x := A 1) rfl (List.Mem.head _) (z_getI X 1 rfl (c518_ok rfl) rfl rfl ?_)
        have b46 := bi_5 Is41
        refine z_const X rfl (z_icmp_eq X (t := 232) rfl rfl (rng_to _) (by decide) (fun g47 => ?_) (fun g47 => ?_))
        ·
          exact w_vret X.1 q hRt (ax_d X (show cdA 129 232 = some (.return_, 1, 0, 0, 0) from rfl)) (Nat.zero_le _) (Nat.zero_le _) ⟨_, rfl, Is41, Fs41, JBYB_s41, rfl, ⟨by first | exact oq_51a58521 ws41_1 ws41_2 g19 | omega, by first | exact oq_75f1f811 ws41_4 ws41_2 ws16_4 ws16_2 ws15_2 vs15 | omega, by first | exact oq_9a9364db g47 vs41 hps39 b37.1 | omega, by first | exact Or.inl ⟨by first | exact oq_9008b7ce g47 vs41 hps39 b37.1 | (clear g45 g43 hps39; omega) | (clear g43 hps39; omega) | omega, by first | exact g47 | (clear g45 g43 hps39; omega) | (clear g43 hps39; omega) | omega⟩ | exact tkn_sig (x := ((iI s16 2))) (Q := sk B N (iI s 2)) (by first | (clear g45 g43 hps39; omega) | (clear g43 hps39; omega) | omega) (by first | (clear g45 g43 hps39; omega) | (clear g43 hps39; omega) | omega) (by first | (clear g45 g43 hps39; omega) | (clear g43 hps39; omega) | omega) (by first | (clear g45 g43 hps39; omega) | (clear g43 hps39; omega) | omega) (by first | (clear g45 g43 hps39; omega) | (clear g43 hps39; omega) | omega) (by first | (clear g45 g43 hps39; omega) | (clear g43 hps39; omega) | omega) (by first | (clear g45 g43 hps39; omega) | (clear g43 hps39; omega) | omega)⟩⟩
        ·
          refine z_aload_n X (x := A 1) rfl (List.Mem.head _) (w_dup X.1 (ax_d X (show cdA 129 223 = some (.dup, 1, 0, 0, 0) from rfl)) rfl (z_getI X 1 rfl (c518_ok rfl) rfl rfl ?_))
          have b48 := bi_2 Is41
          refine z_const X rfl (z_add X rfl (s_putI X 1 rfl (c518_ok rfl) rfl rfl (by decide) rfl rfl rfl (wd_gen (fun s49 hs49 => ?_))))
          have Is49 : Bd s49 := eqB hs49 (bd_I Is41 (show (0 : Int) ≤ ((iI s41 2) + 1) ∧ ((iI s41 2) + 1) ≤ 200 by first | exact ⟨oq_54f49eb5 b48.1, oq_ff985df0 ws41_2 g19 b18.2⟩ | omega) ⟨by first | exact oq_74de1e16 b48.1 | omega, by first | exact oq_bb8d498d b48.2 | omega⟩)
          have Fs49 := eqF hs49 (fm_I Fs41 (inl_ok (a := 2) rfl))
          have vs49 : iI s49 2 = ((iI s41 2) + 1) := eqI hs49 (iI_u ⟨by first | exact oq_74de1e16 b48.1 | omega, by first | exact oq_bb8d498d b48.2 | omega⟩)
          have ws49_1 : iI s49 1 = iI s41 1 := eqI hs49 rfl
          have ws49_4 : iI s49 4 = iI s41 4 := eqI hs49 rfl
          have ws49_5 : iI s49 5 = iI s41 5 := eqI hs49 rfl
          have ws49_6 : iI s49 6 = iI s41 6 := eqI hs49 rfl
          have ws49_3 : iI s49 3 = iI s41 3 := eqI hs49 rfl
          have fs49 : Fm [2] [] s41 s49 := by rw [hs49]; exact fm_I (fm_rf _ _ _) (show 2 ∈ _ by decide)
          have JBYB_s49 : BYB B N s49 := BYB_fm fs49 (by decide) JBYB_s41
          exact w_vret X.1 q hRt (ax_d X (show cdA 129 232 = some (.return_, 1, 0, 0, 0) from rfl)) (Nat.zero_le _) (Nat.zero_le _) ⟨_, rfl, Is49, Fs49, JBYB_s49, rfl, ⟨by first | exact oq_499a7076 ws49_1 vs49 ws41_1 ws41_2 g19 | omega, by first | exact oq_92f9996c ws49_4 vs49 ws41_4 ws41_2 ws16_4 ws16_2 ws15_2 vs15 | omega, by first | exact oq_005dc849 ws49_4 ws41_4 ws16_4 vs15 Qs7 | (clear g47 g45 g43 hps39; omega) | (clear g45 g43 hps39; omega) | omega, by first | exact Or.inl ⟨by first | (clear g47 g45 g43 hps39; omega) | (clear g45 g43 hps39; omega) | omega, by first | (clear g47 g45 g43 hps39; omega) | (clear g45 g43 hps39; omega) | omega⟩ | exact tkn_sig (x := ((iI s16 2))) (Q := sk B N (iI s 2)) (by first | exact oq_d76b7e18 ws16_2 ws15_2 Qs7 | (clear g47 g45 g43 hps39; omega) | (clear g45 g43 hps39; omega) | omega) (by first | exact oq_005dc849 ws49_4 ws41_4 ws16_4 vs15 Qs7 | (clear g47 g45 g43 hps39; omega) | (clear g45 g43 hps39; omega) | omega) (by first | exact oq_8a14cc43 g19 ws16_1 ws16_2 ws15_1 ws15_2 hNs7 Qs7 | (clear g47 g45 g43 hps39; omega) | (clear g45 g43 hps39; omega) | omega) (by first | exact oq_7f943a53 g43 vs41 hps39 fb38 | (clear g47 g45 g43 hps39; omega) | (clear g45 g43 hps39; omega) | omega) (by first | exact oq_4d4cdb94 ws49_5 g43 vs41 hps39 fb38 | (clear g47 g45 g43 hps39; omega) | (clear g45 g43 hps39; omega) | omega) (by first | exact oq_399209a9 ws49_5 g47 b46.1 g45 g43 | (clear g47 g45 g43 hps39; omega) | (clear g45 g43 hps39; omega) | omega) (by first | exact oq_7faf7b9b vs49 ws41_2 ws16_2 ws15_2 Qs7 | (clear g47 g45 g43 hps39; omega) | (clear g45 g43 hps39; omega) | omega)⟩⟩
      ·
        exfalso
        omega
    ·
      refine WS_pq [0] (lv' := [(0, .ref (A 1))]) rfl (L92 ((iI s41 1 - iI s41 2 : Int).toNat + 1) s41  Is41 Fs41 JBYB_s41 (by rw [show iI s41 2 = sk B N (iI s 2) by first | exact oq_2fb32834 ws41_2 ws16_2 ws15_2 Qs7 | (clear hps39; omega) | omega, show iI s41 6 = 0 by first | exact oq_e5e5d3d6 ws41_6 vs16 | (clear hps39; omega) | omega]; exact ⟨rfl, rfl⟩) (by first | exact ⟨oq_51a58521 ws41_1 ws41_2 g19, oq_75f1f811 ws41_4 ws41_2 ws16_4 ws16_2 ws15_2 vs15, by first | exact oq_2fb32834 ws41_4 ws16_4 vs15 Qs7 | (clear hps39; omega) | omega, g43⟩ | omega) (Nat.lt_succ_self _) ?_)
      intro s50  Is50 Fs50 JBYB_s50 Qs50 hs50
      have b51 := bi_2 Is50
      have b52 := bi_1 Is50
      have b53 := bi_4 Is50
      have b54 := bi_5 Is50
      have b55 := bi_6 Is50
      have b56 := bi_3 Is50
      have hNs50 := JBYB_s50.2.1
      have hWs50 := JBYB_s50.2.2
      exact w_vret X.1 q hRt (ax_d X (show cdA 129 232 = some (.return_, 1, 0, 0, 0) from rfl)) (Nat.zero_le _) (Nat.zero_le _) ⟨_, rfl, Is50, Fs50, JBYB_s50, rfl, ⟨by first | exact hs50.1 | omega, by first | exact hs50.2.1 | omega, by first | exact hs50.2.2.1 | omega, tkn_num (x := ((iI s16 2))) (Q := sk B N (iI s 2)) (by first | exact oq_d76b7e18 ws16_2 ws15_2 Qs7 | (clear hps39; omega) | omega) (by first | exact hs50.2.2.1 | (clear hps39; omega) | omega) (by first | exact oq_8a14cc43 g19 ws16_1 ws16_2 ws15_1 ws15_2 hNs7 Qs7 | (clear hps39; omega) | omega) (by first | exact oq_a006b4e1 g43 vs41 hps39 fb38 b37.1 | (clear hps39; omega) | omega) (by first | exact oq_3d4fc409 g43 vs41 hps39 fb38 | (clear hps39; omega) | omega) (by first | exact hs50.2.2.2 | (clear hps39; omega) | omega) (by first | exact Qs50.1 | (clear hps39; omega) | omega) (by first | exact Qs50.2 | (clear hps39; omega) | omega)⟩⟩
set_option maxRecDepth 4000 in
theorem c10_open2 (G : GX l s0 D tys a0 dT) {B : Nat → Int} (I : Bd s) (jBYA : BYA B s) {x y : Int} (p0 : 0 ≤ x ∧ x ≤ 200) (p1 : y = 0) : CT l s0 D A dT 128 (rmN 128) [.ref (A 1), .int (Int32.ofInt x), .int (Int32.ofInt y)] s (fun o t => Bd t ∧ Fm [2, 4, 6, 5, 1, 3, 0, 7, 8] [] s t ∧ BYB B x t ∧ o = .inl none ∧ (iI t 0 = 0 ∧ iI t 2 ≤ iI t 1 ∧ iI t 4 ≤ iI t 2 ∧ iI t 4 = sk B x 0 ∧ TKN B x (iI t 5) (iI t 4) (iI t 2) (iI t 6))) := by
  refine ct_ofX G (by decide) (Nat.le_of_ble_eq_true rfl) (fun k X E ET hRt hXt q => ?_)
  show WS k 0 [(0, .ref (A 1)), (1, .int (Int32.ofInt x)), (2, .int (Int32.ofInt y))] [] _ 0 0
  have F : Fm [2, 4, 6, 5, 1, 3, 0, 7, 8] [] s s := fm_rf _ _ s
  have b1 := bi_0 I
  have b2 := bi_2 I
  have b3 := bi_1 I
  have b4 := bi_4 I
  have b5 := bi_3 I
  refine z_aload_n X (x := A 1) rfl (List.Mem.head _) (z_load_n X (x := x) rfl (List.Mem.tail _ (List.Mem.head _)) (s_putI X 1 rfl (c518_ok rfl) rfl rfl (by decide) rfl rfl rfl (wd_gen (fun s6 hs6 => ?_))))
  have Is6 : Bd s6 := eqB hs6 (bd_I I (show (0 : Int) ≤ x ∧ x ≤ 200 by first | exact ⟨p0.1, p0.2⟩ | omega) ⟨by first | exact oq_fa4e5087 p0.1 | omega, by first | exact oq_52af2b96 p0.2 | omega⟩)
  have Fs6 := eqF hs6 (fm_I F (inl_ok (a := 1) rfl))
  have vs6 : iI s6 1 = x := eqI hs6 (iI_u ⟨by first | exact oq_fa4e5087 p0.1 | omega, by first | exact oq_52af2b96 p0.2 | omega⟩)
  have ws6_0 : iI s6 0 = iI s 0 := eqI hs6 rfl
  have ws6_2 : iI s6 2 = iI s 2 := eqI hs6 rfl
  have ws6_4 : iI s6 4 = iI s 4 := eqI hs6 rfl
  have ws6_3 : iI s6 3 = iI s 3 := eqI hs6 rfl
  have fs6 : Fm [1] [] s s6 := by rw [hs6]; exact fm_I (fm_rf _ _ _) (show 1 ∈ _ by decide)
  have JBYA_s6 : BYA B s6 := BYA_fm fs6 (by decide) jBYA
  refine z_aload_n X (x := A 1) rfl (List.Mem.head _) (z_const X rfl (s_putI X 1 rfl (c518_ok rfl) rfl rfl (by decide) rfl rfl rfl (wd_gen (fun s7 hs7 => ?_))))
  have Is7 : Bd s7 := eqB hs7 (bd_I Is6 (show (0 : Int) ≤ 0 ∧ 0 ≤ 200 by first | exact ⟨by decide, by decide⟩ | omega) (by decide))
  have Fs7 := eqF hs7 (fm_I Fs6 (inl_ok (a := 2) rfl))
  have vs7 : iI s7 2 = 0 := eqI hs7 (iI_u (by decide))
  have ws7_0 : iI s7 0 = iI s6 0 := eqI hs7 rfl
  have ws7_1 : iI s7 1 = iI s6 1 := eqI hs7 rfl
  have ws7_4 : iI s7 4 = iI s6 4 := eqI hs7 rfl
  have ws7_3 : iI s7 3 = iI s6 3 := eqI hs7 rfl
  have fs7 : Fm [2] [] s6 s7 := by rw [hs7]; exact fm_I (fm_rf _ _ _) (show 2 ∈ _ by decide)
  have JBYA_s7 : BYA B s7 := BYA_fm fs7 (by decide) JBYA_s6
  refine z_aload_n X (x := A 1) rfl (List.Mem.head _) (z_load_n X (x := y) rfl (List.Mem.tail _ (List.Mem.tail _ (List.Mem.head _))) (s_putI X 1 rfl (c518_ok rfl) rfl rfl (by decide) (nar_ret (by first | exact Or.inl (p1) | omega)) (fit_z (by first | exact Or.inl (p1) | omega)) rfl (wd_gen (fun s8 hs8 => ?_))))
  have Is8 : Bd s8 := eqB hs8 (bd_I Is7 (show (0 : Int) ≤ y ∧ y ≤ 1 by first | exact ⟨oq_0b35aa92 p1, oq_3a3d6173 p1⟩ | omega) ⟨by first | exact oq_6ab4c69f p1 | omega, by first | exact oq_3b8a080c p1 | omega⟩)
  have Fs8 := eqF hs8 (fm_I Fs7 (inl_ok (a := 3) rfl))
  have vs8 : iI s8 3 = y := eqI hs8 (iI_u ⟨by first | exact oq_6ab4c69f p1 | omega, by first | exact oq_3b8a080c p1 | omega⟩)
  have ws8_0 : iI s8 0 = iI s7 0 := eqI hs8 rfl
  have ws8_2 : iI s8 2 = iI s7 2 := eqI hs8 rfl
  have ws8_1 : iI s8 1 = iI s7 1 := eqI hs8 rfl
  have ws8_4 : iI s8 4 = iI s7 4 := eqI hs8 rfl
  have fs8 : Fm [3] [] s7 s8 := by rw [hs8]; exact fm_I (fm_rf _ _ _) (show 3 ∈ _ by decide)
  have JBYA_s8 : BYA B s8 := BYA_fm fs8 (by decide) JBYA_s7
  refine z_aload_n X (x := A 1) rfl (List.Mem.head _) (z_const X rfl (s_putI X 1 rfl (c518_ok rfl) rfl rfl (by decide) rfl rfl rfl (wd_gen (fun s9 hs9 => ?_))))
  have Is9 : Bd s9 := eqB hs9 (bd_I Is8 (show (0 : Int) ≤ 0 ∧ 0 ≤ 200 by first | exact ⟨by decide, by decide⟩ | omega) (by decide))
  have Fs9 := eqF hs9 (fm_I Fs8 (inl_ok (a := 0) rfl))
  have vs9 : iI s9 0 = 0 := eqI hs9 (iI_u (by decide))
  have ws9_2 : iI s9 2 = iI s8 2 := eqI hs9 rfl
  have ws9_1 : iI s9 1 = iI s8 1 := eqI hs9 rfl
  have ws9_4 : iI s9 4 = iI s8 4 := eqI hs9 rfl
  have ws9_3 : iI s9 3 = iI s8 3 := eqI hs9 rfl
  have fs9 : Fm [0] [] s8 s9 := by rw [hs9]; exact fm_I (fm_rf _ _ _) (show 0 ∈ _ by decide)
  have JBYA_s9 : BYA B s9 := BYA_fm fs9 (by decide) JBYA_s8
  refine z_aload_n X (x := A 1) rfl (List.Mem.head _) (z_const X rfl (s_putI X 1 rfl (c518_ok rfl) rfl rfl (by decide) rfl rfl rfl (wd_gen (fun s10 hs10 => ?_))))
  have Is10 : Bd s10 := eqB hs10 (bd_I Is9 (show (0 : Int) ≤ 0 ∧ 0 ≤ 9 by first | exact ⟨by decide, by decide⟩ | omega) (by decide))
  have Fs10 := eqF hs10 (fm_I Fs9 (inl_ok (a := 7) rfl))
  have vs10 : iI s10 7 = 0 := eqI hs10 (iI_u (by decide))
  have ws10_0 : iI s10 0 = iI s9 0 := eqI hs10 rfl
  have ws10_2 : iI s10 2 = iI s9 2 := eqI hs10 rfl
  have ws10_1 : iI s10 1 = iI s9 1 := eqI hs10 rfl
  have ws10_4 : iI s10 4 = iI s9 4 := eqI hs10 rfl
  have ws10_3 : iI s10 3 = iI s9 3 := eqI hs10 rfl
  have fs10 : Fm [7] [] s9 s10 := by rw [hs10]; exact fm_I (fm_rf _ _ _) (show 7 ∈ _ by decide)
  have JBYA_s10 : BYA B s10 := BYA_fm fs10 (by decide) JBYA_s9
  refine z_aload_n X (x := A 1) rfl (List.Mem.head _) (z_const X rfl (s_putI X 1 rfl (c518_ok rfl) rfl rfl (by decide) rfl rfl rfl (wd_gen (fun s11 hs11 => ?_))))
  have Is11 : Bd s11 := eqB hs11 (bd_I Is10 (show ((-1) : Int) ≤ (-1) ∧ (-1) ≤ 200 by first | exact ⟨by decide, by decide⟩ | omega) (by decide))
  have Fs11 := eqF hs11 (fm_I Fs10 (inl_ok (a := 8) rfl))
  have vs11 : iI s11 8 = (-1) := eqI hs11 (iI_u (by decide))
  have ws11_0 : iI s11 0 = iI s10 0 := eqI hs11 rfl
  have ws11_2 : iI s11 2 = iI s10 2 := eqI hs11 rfl
  have ws11_1 : iI s11 1 = iI s10 1 := eqI hs11 rfl
  have ws11_4 : iI s11 4 = iI s10 4 := eqI hs11 rfl
  have ws11_3 : iI s11 3 = iI s10 3 := eqI hs11 rfl
  have fs11 : Fm [8] [] s10 s11 := by rw [hs11]; exact fm_I (fm_rf _ _ _) (show 8 ∈ _ by decide)
  have JBYA_s11 : BYA B s11 := BYA_fm fs11 (by decide) JBYA_s10
  refine z_aload_n X (x := A 1) rfl (List.Mem.head _) ?_
  have JBs11 : BYB B x s11 := ⟨JBYA_s11, by first | exact oq_4df13a51 ws11_1 ws10_1 ws9_1 ws8_1 ws7_1 vs6 | omega, by first | exact oq_ff4f6170 ws11_3 ws10_3 ws9_3 vs8 p1 | omega⟩
  refine zcV_v1 X E 1 (As := []) (st := []) rfl rfl rfl rfl (c10_step2 G Is11 JBs11 (by first | exact oq_c5d7b2c9 ws11_1 ws11_2 ws10_1 ws10_2 ws9_1 ws9_2 ws8_1 ws8_2 ws7_1 vs7 vs6 p0.1 | omega)) rfl (Nat.le_of_ble_eq_true rfl) (fun s12 Is12 Fs12 JBYB_s12 hps12 => ?_)
  have Gs12 := fm_tq Fs11 Fs12 rfl rfl
  have JBYB_s12 : BYB B x s12 := BYB_fm Fs12 (by decide) JBs11
  have ws12_0 : iI s12 0 = iI s11 0 := fm_iq Fs12 rfl
  have b14 := bi_2 Is12
  have ws12_1 : iI s12 1 = iI s11 1 := fm_iq Fs12 rfl
  have b15 := bi_4 Is12
  have ws12_3 : iI s12 3 = iI s11 3 := fm_iq Fs12 rfl
  exact w_vret X.1 q hRt (ax_d X (show cdA 128 34 = some (.return_, 1, 0, 0, 0) from rfl)) (Nat.zero_le _) (Nat.zero_le _) ⟨_, rfl, Is12, Gs12, JBYB_s12, rfl, ⟨by first | exact oq_264718cb ws12_0 ws11_0 ws10_0 vs9 | omega, by first | exact hps12.1 | omega, by first | exact hps12.2.1 | omega, by rw [hps12.2.2.1, show iI s11 2 = 0 by first | exact oq_ff4f6170 ws11_2 ws10_2 ws9_2 ws8_2 vs7 | omega], hps12.2.2.2⟩⟩
set_option maxRecDepth 4000 in
theorem c9_stepFrom2 (G : GX l s0 D tys a0 dT) (I : Bd s) {x y : Int} (p0 : 0 ≤ x ∧ x ≤ 127) (p1 : 0 ≤ y ∧ y ≤ 5) : CT l s0 D A dT 100 (rmN 100) [.int (Int32.ofInt x), .int (Int32.ofInt y)] s (fun o t => s = t ∧ ∃ e, o = .inl (some (.int (Int32.ofInt e))) ∧ rng e ∧ (e = besT x y ∧ -1 ≤ e ∧ e ≤ 127)) := by
  refine ct_ofX G (by decide) (Nat.le_of_ble_eq_true rfl) (fun k X E ET hRt hXt q => ?_)
  show WS k 0 [(0, .int (Int32.ofInt x)), (1, .int (Int32.ofInt y))] [] _ 0 0
  have F : Fm [] [] s s := fm_rf _ _ s
  refine z_load_n X (x := y) rfl (List.Mem.tail _ (List.Mem.head _)) ?_
  rcases (show y = 0 ∨ y = 1 ∨ y = 2 ∨ y = 3 ∨ y = 4 ∨ y = 5 by first | exact oq_a7961805 p1.2 p1.1 | omega) with gs | gs | gs | gs | gs | gs
  ·
    rw [gs]
    refine w_tabIn X.1 (dflt := 135) (lo := 0) (hi := 5) (offs := #[39, 56, 71, 89, 105, 120]) (len := 39) (off := 39) (t := 40) (ax_d X (show cdA 100 1 = some (.tableswitch 135 0 5 #[39, 56, 71, 89, 105, 120], 39, 0, 0, 0) from rfl)) (by decide) (by decide) (by decide) (by decide) (z_load_n X (x := x) rfl (List.Mem.head _) (z_bipush X rfl (z_and7 X rfl (by first | exact And.intro (p0.1) (p0.2) | omega) (z_bipush X rfl ?_))))
    have N1 : ∀ e2 : Int, (((7 ≤ (x % 8)) ∧ e2 = (-1)) ∨ (((x % 8) < 7) ∧ e2 = (x + 1))) → WS k 56 [(0, .int (Int32.ofInt x)), (1, .int (Int32.ofInt 0))] [.int (Int32.ofInt e2)] (Wd A dT s) 0 0 := by
      intro e2 he2
      exact w_iret X.1 q hRt rfl (ax_d X (show cdA 100 56 = some (.ireturn, 1, 0, 0, 0) from rfl)) (Nat.zero_le _) (Nat.zero_le _) ⟨_, rfl, rfl, e2, rfl, ⟨by first | exact oq_3ac7fb06 he2 p0.1 | omega, by first | exact oq_df418479 he2 p0.2 | omega⟩, ⟨bes_of ⟨Or.inl ⟨gs, by first | exact oq_cecc94e2 he2 | (clear he2; omega) | omega⟩, by first | exact oq_8655ee20 he2 p0.1 | (clear he2; omega) | omega, by first | exact oq_03f3fcb4 he2 p0.2 | (clear he2; omega) | omega⟩, by first | exact oq_8655ee20 he2 p0.1 | omega, by first | exact oq_03f3fcb4 he2 p0.2 | (clear he2; omega) | omega⟩⟩
    refine z_icmp_ge X (t := 55) rfl rfl ⟨by first | exact oq_e86162eb | omega, by first | exact oq_70086759 | omega⟩ (by decide) (fun g3 => ?_) (fun g3 => ?_)
    ·
      exact z_const X rfl (N1 _ (Or.inl ⟨g3, rfl⟩))
    ·
      exact z_load_n X (x := x) rfl (List.Mem.head _) (z_const X rfl (z_add X rfl (z_goto X (t := 56) rfl rfl (N1 _ (Or.inr (⟨g3, rfl⟩))))))
  ·
    rw [gs]
    refine w_tabIn X.1 (dflt := 135) (lo := 0) (hi := 5) (offs := #[39, 56, 71, 89, 105, 120]) (len := 39) (off := 56) (t := 57) (ax_d X (show cdA 100 1 = some (.tableswitch 135 0 5 #[39, 56, 71, 89, 105, 120], 39, 0, 0, 0) from rfl)) (by decide) (by decide) (by decide) (by decide) (z_load_n X (x := x) rfl (List.Mem.head _) (z_bipush X rfl (z_and7 X rfl (by first | exact And.intro (p0.1) (p0.2) | omega) ?_)))
    have N4 : ∀ e5 : Int, ((((x % 8) ≤ 0) ∧ e5 = (-1)) ∨ ((0 < (x % 8)) ∧ e5 = (x - 1))) → WS k 71 [(0, .int (Int32.ofInt x)), (1, .int (Int32.ofInt 1))] [.int (Int32.ofInt e5)] (Wd A dT s) 0 0 := by
      intro e5 he5
      exact w_iret X.1 q hRt rfl (ax_d X (show cdA 100 71 = some (.ireturn, 1, 0, 0, 0) from rfl)) (Nat.zero_le _) (Nat.zero_le _) ⟨_, rfl, rfl, e5, rfl, ⟨by first | exact oq_b7fd8e5d he5 p0.1 | omega, by first | exact oq_9d1ba81c he5 p0.2 | omega⟩, ⟨bes_of ⟨Or.inr (Or.inl ⟨gs, by first | exact oq_2ab3bee4 he5 | (clear he5; omega) | omega⟩), by first | exact oq_7e4871f0 he5 p0.1 | (clear he5; omega) | omega, by first | exact oq_16d44b6a he5 p0.2 | (clear he5; omega) | omega⟩, by first | exact oq_7e4871f0 he5 p0.1 | omega, by first | exact oq_16d44b6a he5 p0.2 | omega⟩⟩
    refine z_if_le X (t := 70) rfl rfl ⟨by first | exact oq_e86162eb | omega, by first | exact oq_70086759 | omega⟩ (fun g6 => ?_) (fun g6 => ?_)
    ·
      exact z_const X rfl (N4 _ (Or.inl ⟨g6, rfl⟩))
    ·
      exact z_load_n X (x := x) rfl (List.Mem.head _) (z_const X rfl (z_sub X rfl (z_goto X (t := 71) rfl rfl (N4 _ (Or.inr (⟨g6, rfl⟩))))))
  ·
    rw [gs]
    refine w_tabIn X.1 (dflt := 135) (lo := 0) (hi := 5) (offs := #[39, 56, 71, 89, 105, 120]) (len := 39) (off := 71) (t := 72) (ax_d X (show cdA 100 1 = some (.tableswitch 135 0 5 #[39, 56, 71, 89, 105, 120], 39, 0, 0, 0) from rfl)) (by decide) (by decide) (by decide) (by decide) (z_load_n X (x := x) rfl (List.Mem.head _) (z_bipush X rfl (z_and56 X rfl (by first | exact And.intro (p0.1) (p0.2) | omega) (z_bipush X rfl ?_))))
    have N7 : ∀ e8 : Int, (((56 ≤ (x / 8 % 8 * 8)) ∧ e8 = (-1)) ∨ (((x / 8 % 8 * 8) < 56) ∧ e8 = (x + 8))) → WS k 89 [(0, .int (Int32.ofInt x)), (1, .int (Int32.ofInt 2))] [.int (Int32.ofInt e8)] (Wd A dT s) 0 0 := by
      intro e8 he8
      exact w_iret X.1 q hRt rfl (ax_d X (show cdA 100 89 = some (.ireturn, 1, 0, 0, 0) from rfl)) (Nat.zero_le _) (Nat.zero_le _) ⟨_, rfl, rfl, e8, rfl, ⟨by first | exact oq_7a2b650a he8 p0.1 | omega, by first | exact oq_f231750c he8 p0.2 | omega⟩, ⟨bes_of ⟨Or.inr (Or.inr (Or.inl ⟨gs, by first | exact oq_e5999670 he8 | (clear he8; omega) | omega⟩)), by first | exact oq_ad1df6ed he8 p0.1 | (clear he8; omega) | omega, by first | exact oq_2c4fb419 he8 p0.2 | (clear he8; omega) | omega⟩, by first | exact oq_ad1df6ed he8 p0.1 | omega, by first | exact oq_2c4fb419 he8 p0.2 | (clear he8; omega) | omega⟩⟩
    refine z_icmp_ge X (t := 88) rfl rfl ⟨by first | exact oq_96d4763a | omega, by first | exact oq_4d664977 | omega⟩ (by decide) (fun g9 => ?_) (fun g9 => ?_)
    ·
      exact z_const X rfl (N7 _ (Or.inl ⟨g9, rfl⟩))
    ·
      exact z_load_n X (x := x) rfl (List.Mem.head _) (z_bipush X rfl (z_add X rfl (z_goto X (t := 89) rfl rfl (N7 _ (Or.inr (⟨g9, rfl⟩))))))
  ·
    rw [gs]
    refine w_tabIn X.1 (dflt := 135) (lo := 0) (hi := 5) (offs := #[39, 56, 71, 89, 105, 120]) (len := 39) (off := 89) (t := 90) (ax_d X (show cdA 100 1 = some (.tableswitch 135 0 5 #[39, 56, 71, 89, 105, 120], 39, 0, 0, 0) from rfl)) (by decide) (by decide) (by decide) (by decide) (z_load_n X (x := x) rfl (List.Mem.head _) (z_bipush X rfl (z_and56 X rfl (by first | exact And.intro (p0.1) (p0.2) | omega) ?_)))
    have N10 : ∀ e11 : Int, ((((x / 8 % 8 * 8) ≤ 0) ∧ e11 = (-1)) ∨ ((0 < (x / 8 % 8 * 8)) ∧ e11 = (x - 8))) → WS k 105 [(0, .int (Int32.ofInt x)), (1, .int (Int32.ofInt 3))] [.int (Int32.ofInt e11)] (Wd A dT s) 0 0 := by
      intro e11 he11
      exact w_iret X.1 q hRt rfl (ax_d X (show cdA 100 105 = some (.ireturn, 1, 0, 0, 0) from rfl)) (Nat.zero_le _) (Nat.zero_le _) ⟨_, rfl, rfl, e11, rfl, ⟨by first | exact oq_2d0dfc68 he11 p0.1 | omega, by first | exact oq_83fab6db he11 p0.2 | omega⟩, ⟨bes_of ⟨Or.inr (Or.inr (Or.inr (Or.inl ⟨gs, by first | exact oq_1b875bc3 he11 | (clear he11; omega) | omega⟩))), by first | exact oq_70d85125 he11 p0.1 | (clear he11; omega) | omega, by first | exact oq_057900c8 he11 p0.2 | (clear he11; omega) | omega⟩, by first | exact oq_70d85125 he11 p0.1 | (clear he11; omega) | omega, by first | exact oq_057900c8 he11 p0.2 | omega⟩⟩
    refine z_if_le X (t := 104) rfl rfl ⟨by first | exact oq_96d4763a | omega, by first | exact oq_4d664977 | omega⟩ (fun g12 => ?_) (fun g12 => ?_)
    ·
      exact z_const X rfl (N10 _ (Or.inl ⟨g12, rfl⟩))
    ·
      exact z_load_n X (x := x) rfl (List.Mem.head _) (z_bipush X rfl (z_sub X rfl (z_goto X (t := 105) rfl rfl (N10 _ (Or.inr (⟨g12, rfl⟩))))))
  ·
    rw [gs]
    refine w_tabIn X.1 (dflt := 135) (lo := 0) (hi := 5) (offs := #[39, 56, 71, 89, 105, 120]) (len := 39) (off := 105) (t := 106) (ax_d X (show cdA 100 1 = some (.tableswitch 135 0 5 #[39, 56, 71, 89, 105, 120], 39, 0, 0, 0) from rfl)) (by decide) (by decide) (by decide) (by decide) (z_load_n X (x := x) rfl (List.Mem.head _) (z_bipush X rfl ?_))
    have N13 : ∀ e14 : Int, (((64 ≤ x) ∧ e14 = (-1)) ∨ ((x < 64) ∧ e14 = (x + 64))) → WS k 120 [(0, .int (Int32.ofInt x)), (1, .int (Int32.ofInt 4))] [.int (Int32.ofInt e14)] (Wd A dT s) 0 0 := by
      intro e14 he14
      exact w_iret X.1 q hRt rfl (ax_d X (show cdA 100 120 = some (.ireturn, 1, 0, 0, 0) from rfl)) (Nat.zero_le _) (Nat.zero_le _) ⟨_, rfl, rfl, e14, rfl, ⟨by first | exact oq_59c92683 he14 p0.1 | omega, by first | exact oq_f358200e he14 | omega⟩, ⟨bes_of ⟨Or.inr (Or.inr (Or.inr (Or.inr (Or.inl ⟨gs, by first | exact oq_96d26cea he14 p0.2 | (clear he14; omega) | omega⟩)))), by first | exact oq_201a3ceb he14 p0.1 | (clear he14; omega) | omega, by first | exact oq_3594ddd9 he14 | (clear he14; omega) | omega⟩, by first | exact oq_201a3ceb he14 p0.1 | omega, by first | exact oq_3594ddd9 he14 | omega⟩⟩
    refine z_icmp_ge X (t := 119) rfl rfl ⟨by first | exact oq_fa4e5087 p0.1 | omega, by first | exact oq_07d346ce p0.2 | omega⟩ (by decide) (fun g15 => ?_) (fun g15 => ?_)
    ·
      exact z_const X rfl (N13 _ (Or.inl ⟨g15, rfl⟩))
    ·
      exact z_load_n X (x := x) rfl (List.Mem.head _) (z_bipush X rfl (z_add X rfl (z_goto X (t := 120) rfl rfl (N13 _ (Or.inr (⟨g15, rfl⟩))))))
  ·
    rw [gs]
    refine w_tabIn X.1 (dflt := 135) (lo := 0) (hi := 5) (offs := #[39, 56, 71, 89, 105, 120]) (len := 39) (off := 120) (t := 121) (ax_d X (show cdA 100 1 = some (.tableswitch 135 0 5 #[39, 56, 71, 89, 105, 120], 39, 0, 0, 0) from rfl)) (by decide) (by decide) (by decide) (by decide) (z_load_n X (x := x) rfl (List.Mem.head _) (z_bipush X rfl ?_))
    have N16 : ∀ e17 : Int, (((x < 64) ∧ e17 = (-1)) ∨ ((64 ≤ x) ∧ e17 = (x - 64))) → WS k 135 [(0, .int (Int32.ofInt x)), (1, .int (Int32.ofInt 5))] [.int (Int32.ofInt e17)] (Wd A dT s) 0 0 := by
      intro e17 he17
      exact w_iret X.1 q hRt rfl (ax_d X (show cdA 100 135 = some (.ireturn, 1, 0, 0, 0) from rfl)) (Nat.zero_le _) (Nat.zero_le _) ⟨_, rfl, rfl, e17, rfl, ⟨by first | exact oq_241d06ca he17 | omega, by first | exact oq_b2c34735 he17 p0.2 | omega⟩, ⟨bes_of ⟨Or.inr (Or.inr (Or.inr (Or.inr (Or.inr (⟨gs, by first | exact oq_7d1de359 he17 p0.1 | (clear he17; omega) | omega⟩))))), by first | exact oq_91d95e88 he17 | (clear he17; omega) | omega, by first | exact oq_444e6966 he17 p0.2 | (clear he17; omega) | omega⟩, by first | exact oq_91d95e88 he17 | omega, by first | exact oq_444e6966 he17 p0.2 | omega⟩⟩
    refine z_icmp_lt X (t := 134) rfl rfl ⟨by first | exact oq_fa4e5087 p0.1 | omega, by first | exact oq_07d346ce p0.2 | omega⟩ (by decide) (fun g18 => ?_) (fun g18 => ?_)
    ·
      exact z_const X rfl (N16 _ (Or.inl ⟨g18, rfl⟩))
    ·
      exact z_load_n X (x := x) rfl (List.Mem.head _) (z_bipush X rfl (z_sub X rfl (z_goto X (t := 135) rfl rfl (N16 _ (Or.inr (⟨g18, rfl⟩))))))
set_option maxRecDepth 4000 in
theorem c9_goOf2 (G : GX l s0 D tys a0 dT) (I : Bd s) {x : Int} (p0 : -3 ≤ x ∧ x ≤ 255) : CT l s0 D A dT 101 (rmN 101) [.int (Int32.ofInt x)] s (fun o t => s = t ∧ ∃ e, o = .inl (some (.int (Int32.ofInt e))) ∧ rng e ∧ (e = dirT x ∧ -1 ≤ e ∧ e ≤ 5)) := by
  refine ct_ofX G (by decide) (Nat.le_of_ble_eq_true rfl) (fun k X E ET hRt hXt q => ?_)
  show WS k 0 [(0, .int (Int32.ofInt x))] [] _ 0 0
  have F : Fm [] [] s s := fm_rf _ _ s
  refine z_load_n X (x := x) rfl (List.Mem.head _) ?_
  rcases (show x = 99 ∨ x = 100 ∨ x = 101 ∨ x = 102 ∨ x = 103 ∨ x = 104 ∨ x = 105 ∨ x = 106 ∨ x = 107 ∨ x = 108 ∨ x = 109 ∨ x = 110 ∨ x = 111 ∨ x = 112 ∨ x = 113 ∨ x = 114 ∨ x = 115 ∨ x = 116 ∨ x = 117 ∨ (x < 99 ∨ 117 < x) by omega) with gs | gs | gs | gs | gs | gs | gs | gs | gs | gs | gs | gs | gs | gs | gs | gs | gs | gs | gs | gs
  ·
    rw [gs]
    refine w_tabIn X.1 (dflt := 103) (lo := 99) (hi := 117) (offs := #[99, 95, 103, 103, 103, 103, 103, 103, 103, 93, 103, 103, 103, 103, 103, 91, 101, 103, 97]) (len := 91) (off := 99) (t := 100) (ax_d X (show cdA 101 1 = some (.tableswitch 103 99 117 #[99, 95, 103, 103, 103, 103, 103, 103, 103, 93, 103, 103, 103, 103, 103, 91, 101, 103, 97], 91, 0, 0, 0) from rfl)) (by decide) (by decide) (by decide) (by decide) (z_const X rfl ?_)
    exact w_iret X.1 q hRt rfl (ax_d X (show cdA 101 101 = some (.ireturn, 1, 0, 0, 0) from rfl)) (Nat.zero_le _) (Nat.zero_le _) ⟨_, rfl, rfl, 4, rfl, (by decide), ⟨by rw [gs]; rfl, by decide, by decide⟩⟩
  ·
    rw [gs]
    refine w_tabIn X.1 (dflt := 103) (lo := 99) (hi := 117) (offs := #[99, 95, 103, 103, 103, 103, 103, 103, 103, 93, 103, 103, 103, 103, 103, 91, 101, 103, 97]) (len := 91) (off := 95) (t := 96) (ax_d X (show cdA 101 1 = some (.tableswitch 103 99 117 #[99, 95, 103, 103, 103, 103, 103, 103, 103, 93, 103, 103, 103, 103, 103, 91, 101, 103, 97], 91, 0, 0, 0) from rfl)) (by decide) (by decide) (by decide) (by decide) (z_const X rfl ?_)
    exact w_iret X.1 q hRt rfl (ax_d X (show cdA 101 97 = some (.ireturn, 1, 0, 0, 0) from rfl)) (Nat.zero_le _) (Nat.zero_le _) ⟨_, rfl, rfl, 2, rfl, (by decide), ⟨by rw [gs]; rfl, by decide, by decide⟩⟩
  ·
    rw [gs]
    refine w_tabIn X.1 (dflt := 103) (lo := 99) (hi := 117) (offs := #[99, 95, 103, 103, 103, 103, 103, 103, 103, 93, 103, 103, 103, 103, 103, 91, 101, 103, 97]) (len := 91) (off := 103) (t := 104) (ax_d X (show cdA 101 1 = some (.tableswitch 103 99 117 #[99, 95, 103, 103, 103, 103, 103, 103, 103, 93, 103, 103, 103, 103, 103, 91, 101, 103, 97], 91, 0, 0, 0) from rfl)) (by decide) (by decide) (by decide) (by decide) (z_const X rfl ?_)
    exact w_iret X.1 q hRt rfl (ax_d X (show cdA 101 105 = some (.ireturn, 1, 0, 0, 0) from rfl)) (Nat.zero_le _) (Nat.zero_le _) ⟨_, rfl, rfl, (-1), rfl, (by decide), ⟨by rw [gs]; rfl, by decide, by decide⟩⟩
  ·
    rw [gs]
    refine w_tabIn X.1 (dflt := 103) (lo := 99) (hi := 117) (offs := #[99, 95, 103, 103, 103, 103, 103, 103, 103, 93, 103, 103, 103, 103, 103, 91, 101, 103, 97]) (len := 91) (off := 103) (t := 104) (ax_d X (show cdA 101 1 = some (.tableswitch 103 99 117 #[99, 95, 103, 103, 103, 103, 103, 103, 103, 93, 103, 103, 103, 103, 103, 91, 101, 103, 97], 91, 0, 0, 0) from rfl)) (by decide) (by decide) (by decide) (by decide) (z_const X rfl ?_)
    exact w_iret X.1 q hRt rfl (ax_d X (show cdA 101 105 = some (.ireturn, 1, 0, 0, 0) from rfl)) (Nat.zero_le _) (Nat.zero_le _) ⟨_, rfl, rfl, (-1), rfl, (by decide), ⟨by rw [gs]; rfl, by decide, by decide⟩⟩
  ·
    rw [gs]
    refine w_tabIn X.1 (dflt := 103) (lo := 99) (hi := 117) (offs := #[99, 95, 103, 103, 103, 103, 103, 103, 103, 93, 103, 103, 103, 103, 103, 91, 101, 103, 97]) (len := 91) (off := 103) (t := 104) (ax_d X (show cdA 101 1 = some (.tableswitch 103 99 117 #[99, 95, 103, 103, 103, 103, 103, 103, 103, 93, 103, 103, 103, 103, 103, 91, 101, 103, 97], 91, 0, 0, 0) from rfl)) (by decide) (by decide) (by decide) (by decide) (z_const X rfl ?_)
    exact w_iret X.1 q hRt rfl (ax_d X (show cdA 101 105 = some (.ireturn, 1, 0, 0, 0) from rfl)) (Nat.zero_le _) (Nat.zero_le _) ⟨_, rfl, rfl, (-1), rfl, (by decide), ⟨by rw [gs]; rfl, by decide, by decide⟩⟩
  ·
    rw [gs]
    refine w_tabIn X.1 (dflt := 103) (lo := 99) (hi := 117) (offs := #[99, 95, 103, 103, 103, 103, 103, 103, 103, 93, 103, 103, 103, 103, 103, 91, 101, 103, 97]) (len := 91) (off := 103) (t := 104) (ax_d X (show cdA 101 1 = some (.tableswitch 103 99 117 #[99, 95, 103, 103, 103, 103, 103, 103, 103, 93, 103, 103, 103, 103, 103, 91, 101, 103, 97], 91, 0, 0, 0) from rfl)) (by decide) (by decide) (by decide) (by decide) (z_const X rfl ?_)
    exact w_iret X.1 q hRt rfl (ax_d X (show cdA 101 105 = some (.ireturn, 1, 0, 0, 0) from rfl)) (Nat.zero_le _) (Nat.zero_le _) ⟨_, rfl, rfl, (-1), rfl, (by decide), ⟨by rw [gs]; rfl, by decide, by decide⟩⟩
  ·
    rw [gs]
    refine w_tabIn X.1 (dflt := 103) (lo := 99) (hi := 117) (offs := #[99, 95, 103, 103, 103, 103, 103, 103, 103, 93, 103, 103, 103, 103, 103, 91, 101, 103, 97]) (len := 91) (off := 103) (t := 104) (ax_d X (show cdA 101 1 = some (.tableswitch 103 99 117 #[99, 95, 103, 103, 103, 103, 103, 103, 103, 93, 103, 103, 103, 103, 103, 91, 101, 103, 97], 91, 0, 0, 0) from rfl)) (by decide) (by decide) (by decide) (by decide) (z_const X rfl ?_)
    exact w_iret X.1 q hRt rfl (ax_d X (show cdA 101 105 = some (.ireturn, 1, 0, 0, 0) from rfl)) (Nat.zero_le _) (Nat.zero_le _) ⟨_, rfl, rfl, (-1), rfl, (by decide), ⟨by rw [gs]; rfl, by decide, by decide⟩⟩
  ·
    rw [gs]
    refine w_tabIn X.1 (dflt := 103) (lo := 99) (hi := 117) (offs := #[99, 95, 103, 103, 103, 103, 103, 103, 103, 93, 103, 103, 103, 103, 103, 91, 101, 103, 97]) (len := 91) (off := 103) (t := 104) (ax_d X (show cdA 101 1 = some (.tableswitch 103 99 117 #[99, 95, 103, 103, 103, 103, 103, 103, 103, 93, 103, 103, 103, 103, 103, 91, 101, 103, 97], 91, 0, 0, 0) from rfl)) (by decide) (by decide) (by decide) (by decide) (z_const X rfl ?_)
    exact w_iret X.1 q hRt rfl (ax_d X (show cdA 101 105 = some (.ireturn, 1, 0, 0, 0) from rfl)) (Nat.zero_le _) (Nat.zero_le _) ⟨_, rfl, rfl, (-1), rfl, (by decide), ⟨by rw [gs]; rfl, by decide, by decide⟩⟩
  ·
    rw [gs]
    refine w_tabIn X.1 (dflt := 103) (lo := 99) (hi := 117) (offs := #[99, 95, 103, 103, 103, 103, 103, 103, 103, 93, 103, 103, 103, 103, 103, 91, 101, 103, 97]) (len := 91) (off := 103) (t := 104) (ax_d X (show cdA 101 1 = some (.tableswitch 103 99 117 #[99, 95, 103, 103, 103, 103, 103, 103, 103, 93, 103, 103, 103, 103, 103, 91, 101, 103, 97], 91, 0, 0, 0) from rfl)) (by decide) (by decide) (by decide) (by decide) (z_const X rfl ?_)
    exact w_iret X.1 q hRt rfl (ax_d X (show cdA 101 105 = some (.ireturn, 1, 0, 0, 0) from rfl)) (Nat.zero_le _) (Nat.zero_le _) ⟨_, rfl, rfl, (-1), rfl, (by decide), ⟨by rw [gs]; rfl, by decide, by decide⟩⟩
  ·
    rw [gs]
    refine w_tabIn X.1 (dflt := 103) (lo := 99) (hi := 117) (offs := #[99, 95, 103, 103, 103, 103, 103, 103, 103, 93, 103, 103, 103, 103, 103, 91, 101, 103, 97]) (len := 91) (off := 93) (t := 94) (ax_d X (show cdA 101 1 = some (.tableswitch 103 99 117 #[99, 95, 103, 103, 103, 103, 103, 103, 103, 93, 103, 103, 103, 103, 103, 91, 101, 103, 97], 91, 0, 0, 0) from rfl)) (by decide) (by decide) (by decide) (by decide) (z_const X rfl ?_)
    exact w_iret X.1 q hRt rfl (ax_d X (show cdA 101 95 = some (.ireturn, 1, 0, 0, 0) from rfl)) (Nat.zero_le _) (Nat.zero_le _) ⟨_, rfl, rfl, 1, rfl, (by decide), ⟨by rw [gs]; rfl, by decide, by decide⟩⟩
  ·
    rw [gs]
    refine w_tabIn X.1 (dflt := 103) (lo := 99) (hi := 117) (offs := #[99, 95, 103, 103, 103, 103, 103, 103, 103, 93, 103, 103, 103, 103, 103, 91, 101, 103, 97]) (len := 91) (off := 103) (t := 104) (ax_d X (show cdA 101 1 = some (.tableswitch 103 99 117 #[99, 95, 103, 103, 103, 103, 103, 103, 103, 93, 103, 103, 103, 103, 103, 91, 101, 103, 97], 91, 0, 0, 0) from rfl)) (by decide) (by decide) (by decide) (by decide) (z_const X rfl ?_)
    exact w_iret X.1 q hRt rfl (ax_d X (show cdA 101 105 = some (.ireturn, 1, 0, 0, 0) from rfl)) (Nat.zero_le _) (Nat.zero_le _) ⟨_, rfl, rfl, (-1), rfl, (by decide), ⟨by rw [gs]; rfl, by decide, by decide⟩⟩
  ·
    rw [gs]
    refine w_tabIn X.1 (dflt := 103) (lo := 99) (hi := 117) (offs := #[99, 95, 103, 103, 103, 103, 103, 103, 103, 93, 103, 103, 103, 103, 103, 91, 101, 103, 97]) (len := 91) (off := 103) (t := 104) (ax_d X (show cdA 101 1 = some (.tableswitch 103 99 117 #[99, 95, 103, 103, 103, 103, 103, 103, 103, 93, 103, 103, 103, 103, 103, 91, 101, 103, 97], 91, 0, 0, 0) from rfl)) (by decide) (by decide) (by decide) (by decide) (z_const X rfl ?_)
    exact w_iret X.1 q hRt rfl (ax_d X (show cdA 101 105 = some (.ireturn, 1, 0, 0, 0) from rfl)) (Nat.zero_le _) (Nat.zero_le _) ⟨_, rfl, rfl, (-1), rfl, (by decide), ⟨by rw [gs]; rfl, by decide, by decide⟩⟩
  ·
    rw [gs]
    refine w_tabIn X.1 (dflt := 103) (lo := 99) (hi := 117) (offs := #[99, 95, 103, 103, 103, 103, 103, 103, 103, 93, 103, 103, 103, 103, 103, 91, 101, 103, 97]) (len := 91) (off := 103) (t := 104) (ax_d X (show cdA 101 1 = some (.tableswitch 103 99 117 #[99, 95, 103, 103, 103, 103, 103, 103, 103, 93, 103, 103, 103, 103, 103, 91, 101, 103, 97], 91, 0, 0, 0) from rfl)) (by decide) (by decide) (by decide) (by decide) (z_const X rfl ?_)
    exact w_iret X.1 q hRt rfl (ax_d X (show cdA 101 105 = some (.ireturn, 1, 0, 0, 0) from rfl)) (Nat.zero_le _) (Nat.zero_le _) ⟨_, rfl, rfl, (-1), rfl, (by decide), ⟨by rw [gs]; rfl, by decide, by decide⟩⟩
  ·
    rw [gs]
    refine w_tabIn X.1 (dflt := 103) (lo := 99) (hi := 117) (offs := #[99, 95, 103, 103, 103, 103, 103, 103, 103, 93, 103, 103, 103, 103, 103, 91, 101, 103, 97]) (len := 91) (off := 103) (t := 104) (ax_d X (show cdA 101 1 = some (.tableswitch 103 99 117 #[99, 95, 103, 103, 103, 103, 103, 103, 103, 93, 103, 103, 103, 103, 103, 91, 101, 103, 97], 91, 0, 0, 0) from rfl)) (by decide) (by decide) (by decide) (by decide) (z_const X rfl ?_)
    exact w_iret X.1 q hRt rfl (ax_d X (show cdA 101 105 = some (.ireturn, 1, 0, 0, 0) from rfl)) (Nat.zero_le _) (Nat.zero_le _) ⟨_, rfl, rfl, (-1), rfl, (by decide), ⟨by rw [gs]; rfl, by decide, by decide⟩⟩
  ·
    rw [gs]
    refine w_tabIn X.1 (dflt := 103) (lo := 99) (hi := 117) (offs := #[99, 95, 103, 103, 103, 103, 103, 103, 103, 93, 103, 103, 103, 103, 103, 91, 101, 103, 97]) (len := 91) (off := 103) (t := 104) (ax_d X (show cdA 101 1 = some (.tableswitch 103 99 117 #[99, 95, 103, 103, 103, 103, 103, 103, 103, 93, 103, 103, 103, 103, 103, 91, 101, 103, 97], 91, 0, 0, 0) from rfl)) (by decide) (by decide) (by decide) (by decide) (z_const X rfl ?_)
    exact w_iret X.1 q hRt rfl (ax_d X (show cdA 101 105 = some (.ireturn, 1, 0, 0, 0) from rfl)) (Nat.zero_le _) (Nat.zero_le _) ⟨_, rfl, rfl, (-1), rfl, (by decide), ⟨by rw [gs]; rfl, by decide, by decide⟩⟩
  ·
    rw [gs]
    refine w_tabIn X.1 (dflt := 103) (lo := 99) (hi := 117) (offs := #[99, 95, 103, 103, 103, 103, 103, 103, 103, 93, 103, 103, 103, 103, 103, 91, 101, 103, 97]) (len := 91) (off := 91) (t := 92) (ax_d X (show cdA 101 1 = some (.tableswitch 103 99 117 #[99, 95, 103, 103, 103, 103, 103, 103, 103, 93, 103, 103, 103, 103, 103, 91, 101, 103, 97], 91, 0, 0, 0) from rfl)) (by decide) (by decide) (by decide) (by decide) (z_const X rfl ?_)
    exact w_iret X.1 q hRt rfl (ax_d X (show cdA 101 93 = some (.ireturn, 1, 0, 0, 0) from rfl)) (Nat.zero_le _) (Nat.zero_le _) ⟨_, rfl, rfl, 0, rfl, (by decide), ⟨by rw [gs]; rfl, by decide, by decide⟩⟩
  ·
    rw [gs]
    refine w_tabIn X.1 (dflt := 103) (lo := 99) (hi := 117) (offs := #[99, 95, 103, 103, 103, 103, 103, 103, 103, 93, 103, 103, 103, 103, 103, 91, 101, 103, 97]) (len := 91) (off := 101) (t := 102) (ax_d X (show cdA 101 1 = some (.tableswitch 103 99 117 #[99, 95, 103, 103, 103, 103, 103, 103, 103, 93, 103, 103, 103, 103, 103, 91, 101, 103, 97], 91, 0, 0, 0) from rfl)) (by decide) (by decide) (by decide) (by decide) (z_const X rfl ?_)
    exact w_iret X.1 q hRt rfl (ax_d X (show cdA 101 103 = some (.ireturn, 1, 0, 0, 0) from rfl)) (Nat.zero_le _) (Nat.zero_le _) ⟨_, rfl, rfl, 5, rfl, (by decide), ⟨by rw [gs]; rfl, by decide, by decide⟩⟩
  ·
    rw [gs]
    refine w_tabIn X.1 (dflt := 103) (lo := 99) (hi := 117) (offs := #[99, 95, 103, 103, 103, 103, 103, 103, 103, 93, 103, 103, 103, 103, 103, 91, 101, 103, 97]) (len := 91) (off := 103) (t := 104) (ax_d X (show cdA 101 1 = some (.tableswitch 103 99 117 #[99, 95, 103, 103, 103, 103, 103, 103, 103, 93, 103, 103, 103, 103, 103, 91, 101, 103, 97], 91, 0, 0, 0) from rfl)) (by decide) (by decide) (by decide) (by decide) (z_const X rfl ?_)
    exact w_iret X.1 q hRt rfl (ax_d X (show cdA 101 105 = some (.ireturn, 1, 0, 0, 0) from rfl)) (Nat.zero_le _) (Nat.zero_le _) ⟨_, rfl, rfl, (-1), rfl, (by decide), ⟨by rw [gs]; rfl, by decide, by decide⟩⟩
  ·
    rw [gs]
    refine w_tabIn X.1 (dflt := 103) (lo := 99) (hi := 117) (offs := #[99, 95, 103, 103, 103, 103, 103, 103, 103, 93, 103, 103, 103, 103, 103, 91, 101, 103, 97]) (len := 91) (off := 97) (t := 98) (ax_d X (show cdA 101 1 = some (.tableswitch 103 99 117 #[99, 95, 103, 103, 103, 103, 103, 103, 103, 93, 103, 103, 103, 103, 103, 91, 101, 103, 97], 91, 0, 0, 0) from rfl)) (by decide) (by decide) (by decide) (by decide) (z_const X rfl ?_)
    exact w_iret X.1 q hRt rfl (ax_d X (show cdA 101 99 = some (.ireturn, 1, 0, 0, 0) from rfl)) (Nat.zero_le _) (Nat.zero_le _) ⟨_, rfl, rfl, 3, rfl, (by decide), ⟨by rw [gs]; rfl, by decide, by decide⟩⟩
  ·
    refine w_tabOut X.1 (dflt := 103) (lo := 99) (hi := 117) (offs := #[99, 95, 103, 103, 103, 103, 103, 103, 103, 93, 103, 103, 103, 103, 103, 91, 101, 103, 97]) (len := 91) (t := 104) (ax_d X (show cdA 101 1 = some (.tableswitch 103 99 117 #[99, 95, 103, 103, 103, 103, 103, 103, 103, 93, 103, 103, 103, 103, 103, 91, 101, 103, 97], 91, 0, 0, 0) from rfl)) (by rw [zi ⟨by first | exact oq_74ef2854 p0.1 | omega, by first | exact oq_4567a937 p0.2 | omega⟩]; omega) (by decide) (z_const X rfl ?_)
    exact w_iret X.1 q hRt rfl (ax_d X (show cdA 101 105 = some (.ireturn, 1, 0, 0, 0) from rfl)) (Nat.zero_le _) (Nat.zero_le _) ⟨_, rfl, rfl, (-1), rfl, (by decide), ⟨by unfold dirT; rw [if_neg (by first | exact oq_f26a4c2a gs | omega), if_neg (by first | exact oq_739a5c7f gs | omega), if_neg (by first | exact oq_44e47c68 gs | omega), if_neg (by first | exact oq_ea04ee2c gs | omega), if_neg (by first | exact oq_8d39ceb9 gs | omega), if_neg (by first | exact oq_66230ed5 gs | omega)], by decide, by decide⟩⟩
set_option maxRecDepth 4000 in
theorem c9_lengthen2 (G : GX l s0 D tys a0 dT) {a : WyA} (hA : AGx 15 11 a s) (ha : 1 ≤ a.1 ∧ a.1 ≤ 24) (I : Bd s) {x : Int} (p0 : 0 ≤ x ∧ x ≤ 5) : CT l s0 D A dT 105 (rmN 105) [.ref (A 3), .int (Int32.ofInt x)] s (fun o t => Bd t ∧ Fm [11] [15] s t ∧ ∃ e, o = .inl (some (.int (Int32.ofInt e))) ∧ rng e ∧ (0 ≤ e ∧ e ≤ 4 ∧ ((e = 0 ∧ EXR 15 11 x a t) ∨ (e ≠ 0 ∧ extT x a = none)))) := by
  refine ct_ofX G (by decide) (Nat.le_of_ble_eq_true rfl) (fun k X E ET hRt hXt q => ?_)
  show WS k 0 [(0, .ref (A 3)), (1, .int (Int32.ofInt x))] [] _ 0 0
  have F : Fm [11] [15] s s := fm_rf _ _ s
  have aw0_15 : SAM 15 s s := sam_rf
  have hA1 := hA.1
  have b1 := bi_11 I
  have L47 : ∀ (n : Nat) (t : PS) (xv nx c : Int), Bd t → Fm [11] [15] s t → (SAM 15 s t ∧ NHS 15 c nx s) → (xv = x ∧ (0 ≤ nx ∧ nx ≤ 127) ∧ 0 ≤ c ∧ c ≤ 24 ∧ iI t 11 ≤ 23 ∧ iI t 11 = iI s 11 ∧ nx = besT (iC s 15 (iI s 11 - 1).toNat) x) → (24 - c : Int).toNat < n → (∀ (t' : PS) (c' : Int), Bd t' → Fm [11] [15] s t' → (SAM 15 s t' ∧ NHS 15 c' nx s) → (xv = x ∧ (0 ≤ nx ∧ nx ≤ 127) ∧ 0 ≤ c' ∧ c' ≤ 24 ∧ iI t' 11 ≤ 23 ∧ iI t' 11 = iI s 11 ∧ nx = besT (iC s 15 (iI s 11 - 1).toNat) x ∧ iI t' 11 ≤ c') → WS k 73 [(0, .ref (A 3)), (1, .int (Int32.ofInt xv)), (2, .int (Int32.ofInt nx)), (3, .int (Int32.ofInt c'))] [] (Wd A dT t') 0 0) → WS k 47 [(0, .ref (A 3)), (1, .int (Int32.ofInt xv)), (2, .int (Int32.ofInt nx)), (3, .int (Int32.ofInt c))] [] (Wd A dT t) 0 0 := by
    intro n
    induction n with
    | zero =>
      intro t xv nx c I F hq hi hm kx
      exact absurd hm (Nat.not_lt_zero _)
    | succ n ih =>
      intro t xv nx c I F hq hi hm kx
      have b1001 := bi_11 I
      have hA1 := hA.1
      have hcc : iC s 15 (iI s 11 - 1).toNat = a.2 (a.1 - 1).toNat := by rw [hA1]; exact ag_at hA (by first | exact oq_aea8a80d hA1 ha.1 | omega) (by first | exact oq_e3802055 hA1 | omega)
      have hnn : nx = besT (iC s 15 (iI s 11 - 1).toNat) x := by first | exact hi.2.2.2.2.2.2 | omega
      refine z_load_n X (x := c) rfl (List.Mem.tail _ (List.Mem.tail _ (List.Mem.tail _ (List.Mem.head _)))) (z_aload_n X (x := A 3) rfl (List.Mem.head _) (z_getI X 3 rfl (c518_ok rfl) rfl rfl ?_))
      have b1002 := bi_11 I
      refine z_icmp_ge X (t := 73) rfl rfl ⟨by first | exact oq_fa4e5087 hi.2.2.1 | omega, by first | exact oq_5bcd337f hi.2.2.2.1 | omega⟩ (rng_to _) (fun g1003 => ?_) (fun g1003 => ?_)
      ·
        refine WS_pq [0, 1, 2, 3] (lv' := [(0, .ref (A 3)), (1, .int (Int32.ofInt xv)), (2, .int (Int32.ofInt nx)), (3, .int (Int32.ofInt c))]) rfl ?_
        exact kx _ c I F ⟨hq.1, hq.2⟩ (by first | exact ⟨hi.1, And.intro (hi.2.1.1) (hi.2.1.2), hi.2.2.1, hi.2.2.2.1, hi.2.2.2.2.1, hi.2.2.2.2.2.1, hnn, g1003⟩ | omega)
      ·
        refine z_aload_n X (x := A 3) rfl (List.Mem.head _) (s_getR X 3 rfl (c518_ok rfl) rfl rfl (z_load_n X (x := c) rfl (List.Mem.tail _ (List.Mem.tail _ (List.Mem.tail _ (List.Mem.head _)))) (z_ald X 18 rfl (c518_ok rfl) rfl (by first | exact hi.2.2.1 | omega) (show c < 24 by first | exact oq_8ff7beb9 g1003 b1002.2 | omega) (cbig_ok rfl) ?_)))
        have b1004 := bc_15 I (show (c).toNat < 24 by first | exact oq_9e668fc9 g1003 b1002.2 | omega)
        have ar1005 : iC t 15 (c).toNat = iC s 15 (c).toNat := hq.1 _
        refine z_load_n X (x := nx) rfl (List.Mem.tail _ (List.Mem.tail _ (List.Mem.head _))) (z_icmp_ne X (t := 67) rfl rfl (rng_to _) ⟨by first | exact oq_fa4e5087 hi.2.1.1 | omega, by first | exact oq_07d346ce hi.2.1.2 | omega⟩ (fun g1006 => ?_) (fun g1006 => ?_))
        ·
          refine z_inc X (x := c) (lv' := [(3, .int (Int32.ofInt (c + 1))), (0, .ref (A 3)), (1, .int (Int32.ofInt xv)), (2, .int (Int32.ofInt nx))]) rfl (by decide) (List.Mem.tail _ (List.Mem.tail _ (List.Mem.tail _ (List.Mem.head _)))) (fun _ h => h) (z_goto X (t := 47) rfl rfl (WS_pq [1, 2, 3, 0] (lv' := [(0, .ref (A 3)), (1, .int (Int32.ofInt xv)), (2, .int (Int32.ofInt nx)), (3, .int (Int32.ofInt (c + 1)))]) rfl ?_))
          exact ih _ xv nx (c + 1) I F ⟨hq.1, nhs_up hq.2 (by first | exact hi.2.2.1 | (clear g1006; omega) | omega) (by first | exact oq_fdab8905 g1006 ar1005 | (clear g1006; omega) | omega)⟩ (by first | exact ⟨hi.1, And.intro (hi.2.1.1) (hi.2.1.2), oq_54f49eb5 hi.2.2.1, oq_41473be0 g1003 b1002.2, hi.2.2.2.2.1, hi.2.2.2.2.2.1, hnn⟩ | omega) (by first | exact qk_me hm (by decide) (oq_9dea93e6 g1003 b1002.2) | exact oq_091be13f g1003 hm hi.2.2.2.2.1 | omega) kx
        ·
          refine z_const X rfl ?_
          exact w_iret X.1 q hRt rfl (ax_d X (show cdA 105 66 = some (.ireturn, 1, 0, 0, 0) from rfl)) (Nat.zero_le _) (Nat.zero_le _) ⟨_, rfl, I, F, 4, rfl, (by decide), ⟨by decide, by decide, Or.inr ⟨by first | exact oq_a62814c4 | exact oq_3cfa6036 | omega, ext_no3 hcc hnn (by first | exact oq_c470344a hi.2.1.1 | omega) (by first | exact oq_6e73d57f hA1 hi.2.2.2.2.2.1 hi.2.2.2.2.1 | omega) hA (hs_of c (by first | exact hi.2.2.1 | omega) (by first | exact oq_9d1a6c71 g1003 hi.2.2.2.2.2.1 | omega) (by first | exact oq_a0804362 g1006 ar1005 | omega))⟩⟩⟩
  refine z_aload_n X (x := A 3) rfl (List.Mem.head _) (z_getI X 3 rfl (c518_ok rfl) rfl rfl ?_)
  have b2 := bi_11 I
  refine z_if_le X (t := 25) rfl rfl (rng_to _) (fun g3 => ?_) (fun g3 => ?_)
  ·
    refine z_const X rfl ?_
    exfalso
    omega
  ·
    refine z_aload_n X (x := A 3) rfl (List.Mem.head _) (s_getR X 3 rfl (c518_ok rfl) rfl rfl (z_aload_n X (x := A 3) rfl (List.Mem.head _) (z_getI X 3 rfl (c518_ok rfl) rfl rfl ?_)))
    have b4 := bi_11 I
    refine z_const X rfl (z_sub X rfl (z_ald X 18 rfl (c518_ok rfl) rfl (by first | exact oq_a4f22177 g3 | omega) (show ((iI s 11) - 1) < 24 by first | exact oq_19cb6f5b b4.2 | omega) (cbig_ok rfl) ?_))
    have b5 := bc_15 I (show (((iI s 11) - 1)).toNat < 24 by first | exact oq_f976b25c b4.2 | omega)
    have ar6 : iC s 15 (((iI s 11) - 1)).toNat = iC s 15 (((iI s 11) - 1)).toNat := aw0_15 _
    refine z_load_n X (x := x) rfl (List.Mem.tail _ (List.Mem.head _)) (z_callS X (rm := rmN 100) (As := [.int (Int32.ofInt (iC s 15 (((iI s 11) - 1)).toNat)), .int (Int32.ofInt x)]) (st := []) rfl rfl (by rw [E.1, E.2.1, E.2.2.1]; exact c9_stepFrom2 G I (by first | exact ⟨b5.1, b5.2⟩ | omega) (by first | exact ⟨p0.1, p0.2⟩ | omega)) ⟨by rw [E.2.2.2]; exact (show (rmN 100).frames + 1 ≤ (rmN 105).frames by decide), by rw [E.2.2.2]; exact (show 8 + (mNL (miB 100) + 11) + (rmN 100).locals ≤ (rmN 105).locals by decide), by rw [E.2.2.2]; exact (show 0 + (rmN 100).cells ≤ (rmN 105).cells by decide), by rw [E.2.2.2]; exact (show 0 + (rmN 100).slots ≤ (rmN 105).slots by decide)⟩ (Nat.le_of_ble_eq_true rfl) (fun vv s7 hq => ?_) (fun ee s7 hq => ?_))
    rotate_left
    · obtain ⟨rfl, e8, hv, hrs7, hps7⟩ := hq; cases hv
    obtain ⟨rfl, e8, hv, hrs7, hps7⟩ := hq
    cases hv
    show WS k 22 [(0, .ref (A 3)), (1, .int (Int32.ofInt x))] [.int (Int32.ofInt e8)] (Wd A dT s) 0 0
    refine z_goto X (t := 26) rfl rfl ?_
    have hcc : iC s 15 (iI s 11 - 1).toNat = a.2 (a.1 - 1).toNat := by rw [hA1]; exact ag_at hA (by first | exact oq_a4f22177 g3 | omega) (by first | exact oq_e3802055 hA1 | omega)
    have hnn : e8 = besT (iC s 15 (iI s 11 - 1).toNat) x := hps7.1
    refine z_store_n X (lv' := [(2, .int (Int32.ofInt e8)), (0, .ref (A 3)), (1, .int (Int32.ofInt x))]) rfl (by decide) (fun _ h => h) (z_load_n X (x := e8) rfl (List.Mem.head _) (z_const X rfl (z_icmp_ne X (t := 34) rfl rfl hrs7 (by decide) (fun g9 => ?_) (fun g9 => ?_))))
    ·
      refine z_aload_n X (x := A 3) rfl (List.Mem.tail _ (List.Mem.head _)) (z_getI X 3 rfl (c518_ok rfl) rfl rfl ?_)
      have b10 := bi_11 I
      refine z_bipush X rfl (z_icmp_lt X (t := 45) rfl rfl (rng_to _) (by decide) (fun g11 => ?_) (fun g11 => ?_))
      ·
        refine z_const X rfl (z_store_n X (lv' := [(3, .int (Int32.ofInt 0)), (2, .int (Int32.ofInt e8)), (0, .ref (A 3)), (1, .int (Int32.ofInt x))]) rfl (by decide) (fun _ h => h) (WS_pq [2, 3, 1, 0] (lv' := [(0, .ref (A 3)), (1, .int (Int32.ofInt x)), (2, .int (Int32.ofInt e8)), (3, .int (Int32.ofInt 0))]) rfl (L47 ((24 - 0 : Int).toNat + 1) s x e8 0 I F ⟨aw0_15, nhs_0⟩ (by first | exact ⟨by decide, oq_63f8c182 g9 hps7.2.2 hps7.2.1, by decide, by decide, oq_c69fe266 g11, by decide, hnn⟩ | exact And.intro (rfl) (And.intro (And.intro (oq_7a1025bf g9 hps7.2.1) (hps7.2.2)) (And.intro (oq_0fe6b7e2) (And.intro (oq_60c9248f) (And.intro (oq_c69fe266 g11) (And.intro (rfl) (hnn)))))) | omega) (Nat.lt_succ_self _) ?_)))
        intro s12 x13 Is12 Fs12 Qs12 hs12
        have b14 := bi_11 Is12
        refine z_aload_n X (x := A 3) rfl (List.Mem.head _) (s_getR X 3 rfl (c518_ok rfl) rfl rfl (z_aload_n X (x := A 3) rfl (List.Mem.head _) (z_getI X 3 rfl (c518_ok rfl) rfl rfl ?_)))
        have b15 := bi_11 Is12
        refine z_load_n X (x := e8) rfl (List.Mem.tail _ (List.Mem.tail _ (List.Mem.head _))) (z_ast X 18 rfl (c518_ok rfl) rfl (by first | exact b15.1 | omega) (show (iI s12 11) < 24 by first | exact oq_7fdb8aa6 hs12.2.2.2.2.1 | omega) (cbig_ok rfl) (wd_gen (fun s16 hs16 => ?_)))
        have Is16 : Bd s16 := eqB hs16 (bd_C Is12 (show (0 : Int) ≤ e8 ∧ e8 ≤ 127 by first | exact ⟨hs12.2.1.1, hs12.2.1.2⟩ | omega) hrs7)
        have Fs16 := eqF hs16 (fm_C Fs12 (inl_ok (a := 15) rfl))
        have ws16_11 : iI s16 11 = iI s12 11 := eqI hs16 rfl
        have aws16_15 : UPD 15 ((iI s12 11)) e8 s s16 := by rw [hs16]; exact upd_put Qs12.1 hrs7
        refine z_aload_n X (x := A 3) rfl (List.Mem.head _) (w_dup X.1 (ax_d X (show cdA 105 84 = some (.dup, 1, 0, 0, 0) from rfl)) rfl (z_getI X 3 rfl (c518_ok rfl) rfl rfl ?_))
        have b17 := bi_11 Is16
        refine z_const X rfl (z_add X rfl (s_putI X 3 rfl (c518_ok rfl) rfl rfl (by decide) rfl rfl rfl (wd_gen (fun s18 hs18 => ?_))))
        have Is18 : Bd s18 := eqB hs18 (bd_I Is16 (show (0 : Int) ≤ ((iI s16 11) + 1) ∧ ((iI s16 11) + 1) ≤ 24 by first | exact ⟨oq_54f49eb5 b17.1, oq_c4e726c7 ws16_11 hs12.2.2.2.2.1⟩ | omega) ⟨by first | exact oq_74de1e16 b17.1 | omega, by first | exact oq_3a454424 b17.2 | omega⟩)
        have Fs18 := eqF hs18 (fm_I Fs16 (inl_ok (a := 11) rfl))
        have vs18 : iI s18 11 = ((iI s16 11) + 1) := eqI hs18 (iI_u ⟨by first | exact oq_74de1e16 b17.1 | omega, by first | exact oq_3a454424 b17.2 | omega⟩)
        have aws18_15 : UPD 15 ((iI s12 11)) e8 s s18 := by rw [hs18]; exact aws16_15
        refine z_const X rfl ?_
        exact w_iret X.1 q hRt rfl (ax_d X (show cdA 105 94 = some (.ireturn, 1, 0, 0, 0) from rfl)) (Nat.zero_le _) (Nat.zero_le _) ⟨_, rfl, Is18, Fs18, 0, rfl, (by decide), ⟨by decide, by decide, Or.inl ⟨by decide, ext_yes hcc hnn (by first | exact g9 | (clear g9; omega) | omega) (by first | exact oq_e316e9e5 g11 hA1 | (clear g9; omega) | omega) (by first | exact oq_2a6e3b50 ha.1 | (clear g9; omega) | omega) hA (nhs_le (Qs12.2) (by first | exact oq_acf76229 hs12.2.2.2.2.2.2.2 hs12.2.2.2.2.2.1 | (clear g9; omega) | omega)) (upd_ix aws18_15 (by first | exact hs12.2.2.2.2.2.1 | (clear g9; omega) | omega)) (by first | exact oq_cae9ec4a vs18 ws16_11 hs12.2.2.2.2.2.1 | (clear g9; omega) | omega)⟩⟩⟩
      ·
        refine z_const X rfl ?_
        exact w_iret X.1 q hRt rfl (ax_d X (show cdA 105 44 = some (.ireturn, 1, 0, 0, 0) from rfl)) (Nat.zero_le _) (Nat.zero_le _) ⟨_, rfl, I, F, 4, rfl, (by decide), ⟨by decide, by decide, Or.inr ⟨by first | exact oq_a62814c4 | exact oq_3cfa6036 | omega, ext_no2 hcc hnn (by first | exact g9 | (clear g9; omega) | omega) (by first | exact oq_7dc0c3e7 g11 hA1 ha.2 | (clear g9; omega) | omega)⟩⟩⟩
    ·
      refine z_const X rfl ?_
      exact w_iret X.1 q hRt rfl (ax_d X (show cdA 105 33 = some (.ireturn, 1, 0, 0, 0) from rfl)) (Nat.zero_le _) (Nat.zero_le _) ⟨_, rfl, I, F, 3, rfl, (by decide), ⟨by decide, by decide, Or.inr ⟨by first | exact oq_56c7e517 | exact oq_da44ad1c | omega, ext_no1 hcc hnn (by first | exact g9 | omega)⟩⟩⟩
set_option maxRecDepth 4000 in
theorem c9_readMove2 (G : GX l s0 D tys a0 dT) {B : Nat → Int} {N : Int} {a : WyA} (hA : AGx 15 11 a s) (ha : 1 ≤ a.1 ∧ a.1 ≤ 24) (hT : TKN B N (iI s 5) (iI s 4) (iI s 2) (iI s 6)) (I : Bd s) (jBYB : BYB B N s) (p0 : iI s 2 ≤ iI s 1) (p1 : iI s 4 ≤ iI s 2) (p2 : iI s 5 ≠ -1) : CT l s0 D A dT 104 (rmN 104) [.ref (A 3), .ref (A 1)] s (fun o t => Bd t ∧ Fm [11, 2, 4, 6, 5, 7, 8] [15] s t ∧ BYB B N t ∧ ∃ e, o = .inl (some (.int (Int32.ofInt e))) ∧ rng e ∧ ((e = 0 ∨ e = 1) ∧ iI t 2 ≤ iI t 1 ∧ iI t 4 ≤ iI t 2 ∧ ((e = 1 ∧ MVR B N (iI s 4) a t) ∨ (e = 0 ∧ mvT B N (iI s 4) a = none)))) := by
  refine ct_ofX G (by decide) (Nat.le_of_ble_eq_true rfl) (fun k X E ET hRt hXt q => ?_)
  show WS k 0 [(0, .ref (A 3)), (1, .ref (A 1))] [] _ 0 0
  have F : Fm [11, 2, 4, 6, 5, 7, 8] [15] s s := fm_rf _ _ s
  have aw0_15 : SAM 15 s s := sam_rf
  have hD := tkn_dir hT p2
  have hS := tkn_ne hT p2
  have b1 := bi_11 I
  have b2 := bi_2 I
  have b3 := bi_1 I
  have b4 := bi_4 I
  have b5 := bi_5 I
  have b6 := bi_6 I
  have L77 : ∀ (n : Nat) (t : PS) (go plc tms c : Int), Bd t → Fm [11, 2, 4, 6, 5, 7, 8] [15] s t → BYB B N t → (MVQ B N (iI s 4) a go tms c t) → ((0 ≤ go ∧ go ≤ 5) ∧ (0 ≤ plc ∧ plc ≤ 200) ∧ (1 ≤ tms ∧ tms ≤ 7) ∧ 0 ≤ c ∧ c ≤ 7 ∧ iI t 2 ≤ iI t 1 ∧ iI t 4 ≤ iI t 2) → (7 - c : Int).toNat < n → (∀ (t' : PS) (c' : Int), Bd t' → Fm [11, 2, 4, 6, 5, 7, 8] [15] s t' → BYB B N t' → (MVQ B N (iI s 4) a go tms c' t') → (tms ≤ c' ∧ iI t' 2 ≤ iI t' 1 ∧ iI t' 4 ≤ iI t' 2) → WS k 110 [(0, .ref (A 3)), (1, .ref (A 1)), (2, .int (Int32.ofInt go)), (3, .int (Int32.ofInt plc)), (4, .int (Int32.ofInt tms)), (5, .int (Int32.ofInt c'))] [] (Wd A dT t') 0 0) → WS k 77 [(0, .ref (A 3)), (1, .ref (A 1)), (2, .int (Int32.ofInt go)), (3, .int (Int32.ofInt plc)), (4, .int (Int32.ofInt tms)), (5, .int (Int32.ofInt c))] [] (Wd A dT t) 0 0 := by
    intro n
    induction n with
    | zero =>
      intro t go plc tms c I F jjBYB hq hi hm kx
      exact absurd hm (Nat.not_lt_zero _)
    | succ n ih =>
      intro t go plc tms c I F jjBYB hq hi hm kx
      have b1001 := bi_11 I
      have b1002 := bi_2 I
      have b1003 := bi_1 I
      have b1004 := bi_4 I
      have b1005 := bi_5 I
      have b1006 := bi_6 I
      refine z_load X (x := c) rfl (List.Mem.tail _ (List.Mem.tail _ (List.Mem.tail _ (List.Mem.tail _ (List.Mem.tail _ (List.Mem.head _)))))) (z_load X (x := tms) rfl (List.Mem.tail _ (List.Mem.tail _ (List.Mem.tail _ (List.Mem.tail _ (List.Mem.head _))))) (z_icmp_ge X (t := 110) rfl rfl ⟨by first | exact oq_fa4e5087 hi.2.2.2.1 | omega, by first | exact oq_0e78ca7d hi.2.2.2.2.1 | omega⟩ ⟨by first | exact oq_9462313e hi.2.2.1.1 | omega, by first | exact oq_0e78ca7d hi.2.2.1.2 | omega⟩ (fun g1007 => ?_) (fun g1007 => ?_)))
      ·
        refine WS_pq [0, 1, 2, 3, 4, 5] (lv' := [(0, .ref (A 3)), (1, .ref (A 1)), (2, .int (Int32.ofInt go)), (3, .int (Int32.ofInt plc)), (4, .int (Int32.ofInt tms)), (5, .int (Int32.ofInt c))]) rfl ?_
        exact kx _ c I F jjBYB hq (by first | exact ⟨g1007, hi.2.2.2.2.2.1, hi.2.2.2.2.2.2⟩ | omega)
      ·
        obtain ⟨a1, m1, m2, m3⟩ := hq.1
        refine z_aload_n X (x := A 3) rfl (List.Mem.head _) (z_load_n X (x := go) rfl (List.Mem.tail _ (List.Mem.tail _ (List.Mem.head _))) (zcV_i0 X E 3 (As := [.int (Int32.ofInt go)]) (st := []) rfl rfl rfl rfl (c9_lengthen2 G m2 m3 I (by first | exact ⟨hi.1.1, hi.1.2⟩ | omega)) rfl (Nat.le_of_ble_eq_true rfl) (fun s1008 e1009 Is1008 Fs1008 hrs1008 hps1008 => ?_)))
        have hps1008p := And.intro hps1008.1 (hps1008.2.1)
        have Gs1008 := fm_tq F Fs1008 rfl rfl
        have JBYB_s1008 : BYB B N s1008 := BYB_fm Fs1008 (by decide) jjBYB
        have b1010 := bi_11 Is1008
        have ws1008_2 : iI s1008 2 = iI t 2 := fm_iq Fs1008 rfl
        have ws1008_1 : iI s1008 1 = iI t 1 := fm_iq Fs1008 rfl
        have ws1008_4 : iI s1008 4 = iI t 4 := fm_iq Fs1008 rfl
        have ws1008_5 : iI s1008 5 = iI t 5 := fm_iq Fs1008 rfl
        have ws1008_6 : iI s1008 6 = iI t 6 := fm_iq Fs1008 rfl
        refine z_store X (lv' := [(6, .int (Int32.ofInt e1009)), (0, .ref (A 3)), (1, .ref (A 1)), (2, .int (Int32.ofInt go)), (3, .int (Int32.ofInt plc)), (4, .int (Int32.ofInt tms)), (5, .int (Int32.ofInt c))]) rfl (by decide) (fun _ h => h) (z_load X (x := e1009) rfl (List.Mem.head _) (z_if_eq X (t := 104) rfl rfl hrs1008 (fun g1011 => ?_) (fun g1011 => ?_)))
        ·
          refine z_inc X (x := c) (lv' := [(5, .int (Int32.ofInt (c + 1))), (6, .int (Int32.ofInt e1009)), (0, .ref (A 3)), (1, .ref (A 1)), (2, .int (Int32.ofInt go)), (3, .int (Int32.ofInt plc)), (4, .int (Int32.ofInt tms))]) rfl (by decide) (List.Mem.tail _ (List.Mem.tail _ (List.Mem.tail _ (List.Mem.tail _ (List.Mem.tail _ (List.Mem.tail _ (List.Mem.head _))))))) (fun _ h => h) (z_goto X (t := 77) rfl rfl (WS_pq [2, 3, 4, 5, 6, 0] (lv' := [(0, .ref (A 3)), (1, .ref (A 1)), (2, .int (Int32.ofInt go)), (3, .int (Int32.ofInt plc)), (4, .int (Int32.ofInt tms)), (5, .int (Int32.ofInt (c + 1)))]) rfl ?_))
          exact ih _ go plc tms (c + 1) Is1008 Gs1008 JBYB_s1008 (mvq_up hq m1 m3 (by first | exact g1007 | (clear hps1008 p2; omega) | (clear p2; omega) | omega) hps1008.2.2 (by first | exact g1011 | (clear hps1008 p2; omega) | (clear p2; omega) | omega) (by first | exact b1010.2 | (clear hps1008 p2; omega) | (clear p2; omega) | omega) (by first | exact ws1008_5 | (clear hps1008 p2; omega) | (clear p2; omega) | omega) (by first | exact ws1008_4 | (clear hps1008 p2; omega) | (clear p2; omega) | omega) (by first | exact ws1008_2 | (clear hps1008 p2; omega) | (clear p2; omega) | omega) (by first | exact ws1008_6 | (clear hps1008 p2; omega) | (clear p2; omega) | omega)) (by first | exact ⟨And.intro (hi.1.1) (hi.1.2), And.intro (hi.2.1.1) (hi.2.1.2), And.intro (hi.2.2.1.1) (hi.2.2.1.2), oq_54f49eb5 hi.2.2.2.1, oq_cff692f0 g1007 hi.2.2.1.2, oq_e7b9ecab ws1008_1 ws1008_2 hi.2.2.2.2.2.1, oq_e7b9ecab ws1008_2 ws1008_4 hi.2.2.2.2.2.2⟩ | omega) (by first | exact qk_me hm (by decide) (oq_20b7067c g1007 hi.2.2.1.2) | exact oq_e8f5401c g1007 hm hi.2.2.1.2 | omega) kx
        ·
          refine z_aload_n X (x := A 1) rfl (List.Mem.tail _ (List.Mem.tail _ (List.Mem.head _))) (z_load X (x := e1009) rfl (List.Mem.head _) (z_load_n X (x := plc) rfl (List.Mem.tail _ (List.Mem.tail _ (List.Mem.tail _ (List.Mem.tail _ (List.Mem.head _))))) (zcV_i0 X E 1 (As := [.int (Int32.ofInt e1009), .int (Int32.ofInt plc)]) (st := []) rfl rfl rfl rfl (c10_refuseAt_1 G Is1008 (by first | exact ⟨oq_e4db2d1b g1011 hps1008.1, hps1008.2.1⟩ | omega) (by first | exact ⟨hi.2.1.1, hi.2.1.2⟩ | omega)) rfl (Nat.le_of_ble_eq_true rfl) (fun s1012 e1013 Is1012 Fs1012 hrs1012 hps1012 => ?_))))
          have Gs1012 := fm_tq Gs1008 Fs1012 rfl rfl
          have JBYB_s1012 : BYB B N s1012 := BYB_fm Fs1012 (by decide) JBYB_s1008
          have ws1012_11 : iI s1012 11 = iI s1008 11 := fm_iq Fs1012 rfl
          have ws1012_2 : iI s1012 2 = iI s1008 2 := fm_iq Fs1012 rfl
          have ws1012_1 : iI s1012 1 = iI s1008 1 := fm_iq Fs1012 rfl
          have ws1012_4 : iI s1012 4 = iI s1008 4 := fm_iq Fs1012 rfl
          have ws1012_5 : iI s1012 5 = iI s1008 5 := fm_iq Fs1012 rfl
          have ws1012_6 : iI s1012 6 = iI s1008 6 := fm_iq Fs1012 rfl
          exact w_iret X.1 q hRt (nar_ret (by first | exact Or.inl (hps1012) | omega)) (ax_d X (show cdA 104 103 = some (.ireturn, 1, 0, 0, 0) from rfl)) (Nat.zero_le _) (Nat.zero_le _) ⟨_, rfl, Is1012, Gs1012, JBYB_s1012, e1013, rfl, hrs1012, ⟨by first | exact Or.inl (hps1012) | omega, by first | exact oq_4407eb3c ws1012_1 ws1012_2 ws1008_1 ws1008_2 hi.2.2.2.2.2.1 | omega, by first | exact oq_4407eb3c ws1012_2 ws1012_4 ws1008_2 ws1008_4 hi.2.2.2.2.2.2 | omega, Or.inr ⟨by first | exact hps1012 | omega, mvq_none hq m1 (by first | exact g1007 | (clear g1011 hps1008 p2; omega) | (clear hps1008 p2; omega) | omega) hps1008.2.2 (by first | exact g1011 | (clear g1011 hps1008 p2; omega) | (clear hps1008 p2; omega) | omega)⟩⟩⟩
  refine z_aload_n X (x := A 1) rfl (List.Mem.tail _ (List.Mem.head _)) (z_getI X 1 rfl (c518_ok rfl) rfl rfl ?_)
  have b7 := bi_5 I
  refine z_callS X (rm := rmN 101) (As := [.int (Int32.ofInt (iI s 5))]) (st := []) rfl rfl (by rw [E.1, E.2.1, E.2.2.1]; exact c9_goOf2 G I (by first | exact ⟨b7.1, b7.2⟩ | omega)) ⟨by rw [E.2.2.2]; exact (show (rmN 101).frames + 1 ≤ (rmN 104).frames by decide), by rw [E.2.2.2]; exact (show 8 + (mNL (miB 101) + 11) + (rmN 101).locals ≤ (rmN 104).locals by decide), by rw [E.2.2.2]; exact (show 0 + (rmN 101).cells ≤ (rmN 104).cells by decide), by rw [E.2.2.2]; exact (show 0 + (rmN 101).slots ≤ (rmN 104).slots by decide)⟩ (Nat.le_of_ble_eq_true rfl) (fun vv s8 hq => ?_) (fun ee s8 hq => ?_)
  rotate_left
  · obtain ⟨rfl, e9, hv, hrs8, hps8⟩ := hq; cases hv
  obtain ⟨rfl, e9, hv, hrs8, hps8⟩ := hq
  cases hv
  show WS k 7 [(0, .ref (A 3)), (1, .ref (A 1))] [.int (Int32.ofInt e9)] (Wd A dT s) 0 0
  refine z_store_n X (lv' := [(2, .int (Int32.ofInt e9)), (0, .ref (A 3)), (1, .ref (A 1))]) rfl (by decide) (fun _ h => h) (z_aload_n X (x := A 1) rfl (List.Mem.tail _ (List.Mem.tail _ (List.Mem.head _))) (z_getI X 1 rfl (c518_ok rfl) rfl rfl ?_))
  have b10 := bi_4 I
  refine z_store_n X (lv' := [(3, .int (Int32.ofInt (iI s 4))), (2, .int (Int32.ofInt e9)), (0, .ref (A 3)), (1, .ref (A 1))]) rfl (by decide) (fun _ h => h) (z_load_n X (x := e9) rfl (List.Mem.tail _ (List.Mem.head _)) (z_const X rfl (z_icmp_ne X (t := 24) rfl rfl hrs8 (by decide) (fun g11 => ?_) (fun g11 => ?_))))
  ·
    have hAt : iI s 2 = iI s 4 + 1 := tkn_at hT p2 (by first | exact oq_daf7b6c0 g11 hps8.2.1 hps8.1 | (clear g11 p2; omega) | (clear p2; omega) | omega)
    refine z_aload_n X (x := A 1) rfl (List.Mem.tail _ (List.Mem.tail _ (List.Mem.tail _ (List.Mem.head _)))) (zcV_v1 X E 1 (As := []) (st := []) rfl rfl rfl rfl (c10_step2 G I jBYB (by first | exact p0 | omega)) rfl (Nat.le_of_ble_eq_true rfl) (fun s12 Is12 Fs12 JBYB_s12 hps12 => ?_))
    have Gs12 := fm_tq F Fs12 rfl rfl
    have JBYB_s12 : BYB B N s12 := BYB_fm Fs12 (by decide) jBYB
    have ws12_11 : iI s12 11 = iI s 11 := fm_iq Fs12 rfl
    have b14 := bi_2 Is12
    have ws12_1 : iI s12 1 = iI s 1 := fm_iq Fs12 rfl
    have b15 := bi_4 Is12
    have b16 := bi_5 Is12
    have b17 := bi_6 Is12
    have aws12_15 : SAM 15 s s12 := sam_ts aw0_15 (sam_fm Fs12 (by decide))
    have hr1 : iI s12 4 = sk B N (iI s 4 + 1) := by rw [hps12.2.2.1, hAt]
    have hl1 := sk_le (B := B) (N := N) (p := iI s 4 + 1)
    refine z_const X rfl (z_store X (lv' := [(4, .int (Int32.ofInt 1)), (3, .int (Int32.ofInt (iI s 4))), (2, .int (Int32.ofInt e9)), (0, .ref (A 3)), (1, .ref (A 1))]) rfl (by decide) (fun _ h => h) (z_load_n X (x := e9) rfl (List.Mem.tail _ (List.Mem.tail _ (List.Mem.head _))) (z_const X rfl (z_icmp_ge X (t := 74) rfl rfl hrs8 (by decide) (fun g18 => ?_) (fun g18 => ?_)))))
    ·
      refine z_const X rfl (z_store X (lv' := [(5, .int (Int32.ofInt 0)), (4, .int (Int32.ofInt 1)), (3, .int (Int32.ofInt (iI s 4))), (2, .int (Int32.ofInt e9)), (0, .ref (A 3)), (1, .ref (A 1))]) rfl (by decide) (fun _ h => h) (WS_pq [4, 5, 3, 2, 1, 0] (lv' := [(0, .ref (A 3)), (1, .ref (A 1)), (2, .int (Int32.ofInt e9)), (3, .int (Int32.ofInt (iI s 4))), (4, .int (Int32.ofInt 1)), (5, .int (Int32.ofInt 0))]) rfl (L77 ((7 - 0 : Int).toNat + 1) s12 e9 (iI s 4) 1 0 Is12 Gs12 JBYB_s12 (mvq_0 (ag_sam hA aws12_15 (by first | exact ws12_11 | (clear g11 p2; omega) | (clear p2; omega) | omega)) ha (by rw [show e9 = dirT (B (iI s 4).toNat) by first | exact oq_1aa5be9e hps8.1 hD | (clear g11 p2; omega) | (clear p2; omega) | omega]; exact (mv_one (r := iI s12 4) (by first | exact oq_40e9a0a6 g18 hps8.1 hD | (clear g11 p2; omega) | (clear p2; omega) | omega) hr1 (by first | exact Or.inl (by first | exact oq_46d69db4 g18 hps8.1 hD | (clear g11 p2; omega) | (clear p2; omega) | omega) | exact Or.inr (tkn_nn hps12.2.2.2 (by first | (clear g11 p2; omega) | (clear p2; omega) | omega))))) (by first | exact oq_c818af81 hl1 hr1 | (clear g11 p2; omega) | (clear p2; omega) | omega) hps12.2.2.2) (by first | exact ⟨And.intro (oq_26933c77 g18) (hps8.2.2), And.intro (b10.1) (b10.2), And.intro (by decide) (by decide), by decide, by decide, hps12.1, hps12.2.1⟩ | omega) (Nat.lt_succ_self _) ?_)))
      intro s19 x20 Is19 Fs19 JBYB_s19 Qs19 hs19
      have b21 := bi_11 Is19
      have b22 := bi_2 Is19
      have b23 := bi_1 Is19
      have b24 := bi_4 Is19
      have b25 := bi_5 Is19
      have b26 := bi_6 Is19
      refine z_const X rfl ?_
      exact w_iret X.1 q hRt (nar_ret (by first | exact Or.inr (by decide) | omega)) (ax_d X (show cdA 104 111 = some (.ireturn, 1, 0, 0, 0) from rfl)) (Nat.zero_le _) (Nat.zero_le _) ⟨_, rfl, Is19, Fs19, JBYB_s19, 1, rfl, (by decide), ⟨by first | exact Or.inr (by decide) | omega, by first | exact hs19.2.1 | omega, by first | exact hs19.2.2 | omega, Or.inl ⟨by decide, mvq_end Qs19 (by first | exact hs19.1 | (clear g11 p2; omega) | (clear p2; omega) | omega)⟩⟩⟩
    ·
      refine z_aload_n X (x := A 1) rfl (List.Mem.tail _ (List.Mem.tail _ (List.Mem.tail _ (List.Mem.tail _ (List.Mem.head _))))) (z_getI X 1 rfl (c518_ok rfl) rfl rfl ?_)
      have b27 := bi_5 Is12
      refine z_bipush X rfl (z_icmp_ne X (t := 74) rfl rfl (rng_to _) (by decide) (fun g28 => ?_) (fun g28 => ?_))
      ·
        refine z_const X rfl (z_store X (lv' := [(5, .int (Int32.ofInt 0)), (4, .int (Int32.ofInt 1)), (3, .int (Int32.ofInt (iI s 4))), (2, .int (Int32.ofInt e9)), (0, .ref (A 3)), (1, .ref (A 1))]) rfl (by decide) (fun _ h => h) (WS_pq [4, 5, 3, 2, 1, 0] (lv' := [(0, .ref (A 3)), (1, .ref (A 1)), (2, .int (Int32.ofInt e9)), (3, .int (Int32.ofInt (iI s 4))), (4, .int (Int32.ofInt 1)), (5, .int (Int32.ofInt 0))]) rfl (L77 ((7 - 0 : Int).toNat + 1) s12 e9 (iI s 4) 1 0 Is12 Gs12 JBYB_s12 (mvq_0 (ag_sam hA aws12_15 (by first | exact ws12_11 | (clear g28 g11 p2; omega) | (clear g11 p2; omega) | omega)) ha (by rw [show e9 = dirT (B (iI s 4).toNat) by first | exact oq_1aa5be9e hps8.1 hD | (clear g28 g11 p2; omega) | (clear g11 p2; omega) | omega]; exact (mv_one (r := iI s12 4) (by first | exact oq_c2e50437 g11 hps8.2.1 hps8.1 hD | (clear g28 g11 p2; omega) | (clear g11 p2; omega) | omega) hr1 (by first | exact Or.inl (by first | (clear g28 g11 p2; omega) | (clear g11 p2; omega) | omega) | exact Or.inr (tkn_nn hps12.2.2.2 (by first | exact g28 | (clear g28 g11 p2; omega) | (clear g11 p2; omega) | omega))))) (by first | exact oq_c818af81 hl1 hr1 | (clear g28 g11 p2; omega) | (clear g11 p2; omega) | omega) hps12.2.2.2) (by first | exact ⟨oq_752b3116 g18 g11 hps8.2.1, And.intro (b10.1) (b10.2), And.intro (by decide) (by decide), by decide, by decide, hps12.1, hps12.2.1⟩ | omega) (Nat.lt_succ_self _) ?_)))
        intro s29 x30 Is29 Fs29 JBYB_s29 Qs29 hs29
        have b31 := bi_11 Is29
        have b32 := bi_2 Is29
        have b33 := bi_1 Is29
        have b34 := bi_4 Is29
        have b35 := bi_5 Is29
        have b36 := bi_6 Is29
        refine z_const X rfl ?_
        exact w_iret X.1 q hRt (nar_ret (by first | exact Or.inr (by decide) | omega)) (ax_d X (show cdA 104 111 = some (.ireturn, 1, 0, 0, 0) from rfl)) (Nat.zero_le _) (Nat.zero_le _) ⟨_, rfl, Is29, Fs29, JBYB_s29, 1, rfl, (by decide), ⟨by first | exact Or.inr (by decide) | omega, by first | exact hs29.2.1 | omega, by first | exact hs29.2.2 | omega, Or.inl ⟨by decide, mvq_end Qs29 (by first | exact hs29.1 | (clear g28 g11 p2; omega) | (clear g11 p2; omega) | omega)⟩⟩⟩
      ·
        have hz := tkn_is hps12.2.2.2 (by first | exact g28 | (clear g11 p2; omega) | (clear p2; omega) | omega)
        refine z_aload_n X (x := A 1) rfl (List.Mem.tail _ (List.Mem.tail _ (List.Mem.tail _ (List.Mem.tail _ (List.Mem.head _))))) (z_getI X 1 rfl (c518_ok rfl) rfl rfl ?_)
        have b37 := bi_6 Is12
        refine z_store X (lv' := [(4, .int (Int32.ofInt (iI s12 6))), (3, .int (Int32.ofInt (iI s 4))), (2, .int (Int32.ofInt e9)), (0, .ref (A 3)), (1, .ref (A 1))]) rfl (by decide) (fun _ h => h) (z_load X (x := (iI s12 6)) rfl (List.Mem.head _) (z_const X rfl (z_icmp_lt X (t := 64) rfl rfl (rng_to _) (by decide) (fun g38 => ?_) (fun g38 => ?_))))
        ·
          refine z_aload_n X (x := A 1) rfl (List.Mem.tail _ (List.Mem.tail _ (List.Mem.tail _ (List.Mem.tail _ (List.Mem.head _))))) (z_const X rfl (zcV_i0 X E 1 (As := [.int (Int32.ofInt 2)]) (st := []) rfl rfl rfl rfl (c10_refuse_1 G Is12 (by first | exact ⟨by decide, by decide⟩ | omega)) rfl (Nat.le_of_ble_eq_true rfl) (fun s39 e40 Is39 Fs39 hrs39 hps39 => ?_)))
          have Gs39 := fm_tq Gs12 Fs39 rfl rfl
          have JBYB_s39 : BYB B N s39 := BYB_fm Fs39 (by decide) JBYB_s12
          have ws39_11 : iI s39 11 = iI s12 11 := fm_iq Fs39 rfl
          have ws39_2 : iI s39 2 = iI s12 2 := fm_iq Fs39 rfl
          have ws39_1 : iI s39 1 = iI s12 1 := fm_iq Fs39 rfl
          have ws39_4 : iI s39 4 = iI s12 4 := fm_iq Fs39 rfl
          have ws39_5 : iI s39 5 = iI s12 5 := fm_iq Fs39 rfl
          have ws39_6 : iI s39 6 = iI s12 6 := fm_iq Fs39 rfl
          have aws39_15 : SAM 15 s s39 := sam_ts aws12_15 (sam_fm Fs39 (by decide))
          exact w_iret X.1 q hRt (nar_ret (by first | exact Or.inl (hps39) | omega)) (ax_d X (show cdA 104 69 = some (.ireturn, 1, 0, 0, 0) from rfl)) (Nat.zero_le _) (Nat.zero_le _) ⟨_, rfl, Is39, Gs39, JBYB_s39, e40, rfl, hrs39, ⟨by first | exact Or.inl (hps39) | omega, by first | exact oq_e7b9ecab ws39_1 ws39_2 hps12.1 | omega, by first | exact oq_e7b9ecab ws39_2 ws39_4 hps12.2.1 | omega, Or.inr ⟨by first | exact hps39 | omega, mv_num (r := iI s12 4) (by first | exact oq_c2e50437 g11 hps8.2.1 hps8.1 hD | (clear g11 p2; omega) | (clear p2; omega) | omega) hr1 (by first | exact oq_acd5615c g18 hps8.1 hD | (clear g11 p2; omega) | (clear p2; omega) | omega) (by first | exact hz.1 | (clear g11 p2; omega) | (clear p2; omega) | omega) (by first | exact hz.2.1 | (clear g11 p2; omega) | (clear p2; omega) | omega) (by first | exact hz.2.2.1 | (clear g11 p2; omega) | (clear p2; omega) | omega) (by first | exact Or.inl (oq_5defc01e g38 hz.2.2.2.1) | (clear g11 p2; omega) | (clear p2; omega) | omega)⟩⟩⟩
        ·
          refine z_load X (x := (iI s12 6)) rfl (List.Mem.head _) (z_bipush X rfl (z_icmp_le X (t := 70) rfl rfl (rng_to _) (by decide) (fun g41 => ?_) (fun g41 => ?_)))
          ·
            refine z_aload_n X (x := A 1) rfl (List.Mem.tail _ (List.Mem.tail _ (List.Mem.tail _ (List.Mem.tail _ (List.Mem.head _))))) (zcV_v1 X E 1 (As := []) (st := []) rfl rfl rfl rfl (c10_step2 G Is12 JBYB_s12 (by first | exact hps12.1 | omega)) rfl (Nat.le_of_ble_eq_true rfl) (fun s42 Is42 Fs42 JBYB_s42 hps42 => ?_))
            have Gs42 := fm_tq Gs12 Fs42 rfl rfl
            have JBYB_s42 : BYB B N s42 := BYB_fm Fs42 (by decide) JBYB_s12
            have ws42_11 : iI s42 11 = iI s12 11 := fm_iq Fs42 rfl
            have b44 := bi_2 Is42
            have ws42_1 : iI s42 1 = iI s12 1 := fm_iq Fs42 rfl
            have b45 := bi_4 Is42
            have b46 := bi_5 Is42
            have b47 := bi_6 Is42
            have aws42_15 : SAM 15 s s42 := sam_ts aws12_15 (sam_fm Fs42 (by decide))
            refine z_const X rfl (z_store X (lv' := [(5, .int (Int32.ofInt 0)), (4, .int (Int32.ofInt (iI s12 6))), (3, .int (Int32.ofInt (iI s 4))), (2, .int (Int32.ofInt e9)), (0, .ref (A 3)), (1, .ref (A 1))]) rfl (by decide) (fun _ h => h) (WS_pq [4, 5, 3, 2, 1, 0] (lv' := [(0, .ref (A 3)), (1, .ref (A 1)), (2, .int (Int32.ofInt e9)), (3, .int (Int32.ofInt (iI s 4))), (4, .int (Int32.ofInt (iI s12 6))), (5, .int (Int32.ofInt 0))]) rfl (L77 ((7 - 0 : Int).toNat + 1) s42 e9 (iI s 4) (iI s12 6) 0 Is42 Gs42 JBYB_s42 (mvq_0 (ag_sam hA aws42_15 (by first | exact oq_1aa5be9e ws42_11 ws12_11 | (clear g11 p2; omega) | (clear p2; omega) | omega)) ha (by rw [show e9 = dirT (B (iI s 4).toNat) by first | exact oq_1aa5be9e hps8.1 hD | (clear g11 p2; omega) | (clear p2; omega) | omega, show (iI s12 6) = nmV B N (iI s12 4) 0 by first | exact hz.2.2.2.1 | (clear g11 p2; omega) | (clear p2; omega) | omega, hps42.2.2.1, show iI s12 2 = nmE B N (iI s12 4) 0 by first | exact hz.2.2.2.2 | (clear g11 p2; omega) | (clear p2; omega) | omega]; exact mv_many (r := iI s12 4) (by first | exact oq_c2e50437 g11 hps8.2.1 hps8.1 hD | (clear g11 p2; omega) | (clear p2; omega) | omega) hr1 (by first | exact oq_acd5615c g18 hps8.1 hD | (clear g11 p2; omega) | (clear p2; omega) | omega) (by first | exact hz.1 | (clear g11 p2; omega) | (clear p2; omega) | omega) (by first | exact hz.2.1 | (clear g11 p2; omega) | (clear p2; omega) | omega) (by first | exact hz.2.2.1 | (clear g11 p2; omega) | (clear p2; omega) | omega) (by first | exact oq_bc50f9f9 g38 hz.2.2.2.1 | (clear g11 p2; omega) | (clear p2; omega) | omega) (by first | exact oq_3e5e2bff g41 hz.2.2.2.1 | (clear g11 p2; omega) | (clear p2; omega) | omega)) (by have hl2 := sk_le (B := B) (N := N) (p := iI s12 2); have hl3 := nmE_le (B := B) (N := N) (p := iI s12 4) (v := 0); omega) hps42.2.2.2) (by first | exact ⟨oq_752b3116 g18 g11 hps8.2.1, And.intro (b10.1) (b10.2), And.intro (g38) (g41), by decide, by decide, hps42.1, hps42.2.1⟩ | omega) (Nat.lt_succ_self _) ?_)))
            intro s48 x49 Is48 Fs48 JBYB_s48 Qs48 hs48
            have b50 := bi_11 Is48
            have b51 := bi_2 Is48
            have b52 := bi_1 Is48
            have b53 := bi_4 Is48
            have b54 := bi_5 Is48
            have b55 := bi_6 Is48
            refine z_const X rfl ?_
            exact w_iret X.1 q hRt (nar_ret (by first | exact Or.inr (by decide) | omega)) (ax_d X (show cdA 104 111 = some (.ireturn, 1, 0, 0, 0) from rfl)) (Nat.zero_le _) (Nat.zero_le _) ⟨_, rfl, Is48, Fs48, JBYB_s48, 1, rfl, (by decide), ⟨by first | exact Or.inr (by decide) | omega, by first | exact hs48.2.1 | omega, by first | exact hs48.2.2 | omega, Or.inl ⟨by decide, mvq_end Qs48 (by first | exact hs48.1 | (clear g11 p2; omega) | (clear p2; omega) | omega)⟩⟩⟩
          ·
            refine z_aload_n X (x := A 1) rfl (List.Mem.tail _ (List.Mem.tail _ (List.Mem.tail _ (List.Mem.tail _ (List.Mem.head _))))) (z_const X rfl (zcV_i0 X E 1 (As := [.int (Int32.ofInt 2)]) (st := []) rfl rfl rfl rfl (c10_refuse_1 G Is12 (by first | exact ⟨by decide, by decide⟩ | omega)) rfl (Nat.le_of_ble_eq_true rfl) (fun s56 e57 Is56 Fs56 hrs56 hps56 => ?_)))
            have Gs56 := fm_tq Gs12 Fs56 rfl rfl
            have JBYB_s56 : BYB B N s56 := BYB_fm Fs56 (by decide) JBYB_s12
            have ws56_11 : iI s56 11 = iI s12 11 := fm_iq Fs56 rfl
            have ws56_2 : iI s56 2 = iI s12 2 := fm_iq Fs56 rfl
            have ws56_1 : iI s56 1 = iI s12 1 := fm_iq Fs56 rfl
            have ws56_4 : iI s56 4 = iI s12 4 := fm_iq Fs56 rfl
            have ws56_5 : iI s56 5 = iI s12 5 := fm_iq Fs56 rfl
            have ws56_6 : iI s56 6 = iI s12 6 := fm_iq Fs56 rfl
            have aws56_15 : SAM 15 s s56 := sam_ts aws12_15 (sam_fm Fs56 (by decide))
            exact w_iret X.1 q hRt (nar_ret (by first | exact Or.inl (hps56) | omega)) (ax_d X (show cdA 104 69 = some (.ireturn, 1, 0, 0, 0) from rfl)) (Nat.zero_le _) (Nat.zero_le _) ⟨_, rfl, Is56, Gs56, JBYB_s56, e57, rfl, hrs56, ⟨by first | exact Or.inl (hps56) | omega, by first | exact oq_e7b9ecab ws56_1 ws56_2 hps12.1 | omega, by first | exact oq_e7b9ecab ws56_2 ws56_4 hps12.2.1 | omega, Or.inr ⟨by first | exact hps56 | omega, mv_num (r := iI s12 4) (by first | exact oq_c2e50437 g11 hps8.2.1 hps8.1 hD | (clear g11 p2; omega) | (clear p2; omega) | omega) hr1 (by first | exact oq_acd5615c g18 hps8.1 hD | (clear g11 p2; omega) | (clear p2; omega) | omega) (by first | exact hz.1 | (clear g11 p2; omega) | (clear p2; omega) | omega) (by first | exact hz.2.1 | (clear g11 p2; omega) | (clear p2; omega) | omega) (by first | exact hz.2.2.1 | (clear g11 p2; omega) | (clear p2; omega) | omega) (by first | exact Or.inr (oq_d53ccec2 g41 hz.2.2.2.1) | (clear g11 p2; omega) | (clear p2; omega) | omega)⟩⟩⟩
  ·
    refine z_aload_n X (x := A 1) rfl (List.Mem.tail _ (List.Mem.tail _ (List.Mem.tail _ (List.Mem.head _)))) (z_const X rfl (zcV_i0 X E 1 (As := [.int (Int32.ofInt 1)]) (st := []) rfl rfl rfl rfl (c10_refuse_1 G I (by first | exact ⟨by decide, by decide⟩ | omega)) rfl (Nat.le_of_ble_eq_true rfl) (fun s58 e59 Is58 Fs58 hrs58 hps58 => ?_)))
    have Gs58 := fm_tq F Fs58 rfl rfl
    have JBYB_s58 : BYB B N s58 := BYB_fm Fs58 (by decide) jBYB
    have ws58_11 : iI s58 11 = iI s 11 := fm_iq Fs58 rfl
    have ws58_2 : iI s58 2 = iI s 2 := fm_iq Fs58 rfl
    have ws58_1 : iI s58 1 = iI s 1 := fm_iq Fs58 rfl
    have ws58_4 : iI s58 4 = iI s 4 := fm_iq Fs58 rfl
    have ws58_5 : iI s58 5 = iI s 5 := fm_iq Fs58 rfl
    have ws58_6 : iI s58 6 = iI s 6 := fm_iq Fs58 rfl
    have aws58_15 : SAM 15 s s58 := sam_ts aw0_15 (sam_fm Fs58 (by decide))
    exact w_iret X.1 q hRt (nar_ret (by first | exact Or.inl (hps58) | omega)) (ax_d X (show cdA 104 23 = some (.ireturn, 1, 0, 0, 0) from rfl)) (Nat.zero_le _) (Nat.zero_le _) ⟨_, rfl, Is58, Gs58, JBYB_s58, e59, rfl, hrs58, ⟨by first | exact Or.inl (hps58) | omega, by first | exact oq_e7b9ecab ws58_1 ws58_2 p0 | omega, by first | exact oq_e7b9ecab ws58_2 ws58_4 p1 | omega, Or.inr ⟨by first | exact hps58 | omega, mv_dir (by first | exact oq_cc92f4ab g11 hps8.1 hD | (clear p2; omega) | omega)⟩⟩⟩
set_option maxRecDepth 4000 in
theorem c9_readWay2 (G : GX l s0 D tys a0 dT) {B : Nat → Int} {N : Int} (hT : TKN B N (iI s 5) (iI s 4) (iI s 2) (iI s 6)) (hQ : iI s 4 = sk B N 0) (I : Bd s) (jBYB : BYB B N s) (p0 : iI s 2 ≤ iI s 1) (p1 : iI s 4 ≤ iI s 2) (p2 : N ≤ 100) : CT l s0 D A dT 103 (rmN 103) [.ref (A 3), .ref (A 1)] s (fun o t => Bd t ∧ Fm [11, 2, 4, 6, 5, 7, 8] [15] s t ∧ BYB B N t ∧ ∃ e, o = .inl (some (.int (Int32.ofInt e))) ∧ rng e ∧ ((e = 0 ∨ e = 1) ∧ iI t 2 ≤ iI t 1 ∧ iI t 4 ≤ iI t 2 ∧ ((e = 1 ∧ PAR B N t) ∨ (e = 0 ∧ parseT B N = none)))) := by
  refine ct_ofX G (by decide) (Nat.le_of_ble_eq_true rfl) (fun k X E ET hRt hXt q => ?_)
  show WS k 0 [(0, .ref (A 3)), (1, .ref (A 1))] [] _ 0 0
  have F : Fm [11, 2, 4, 6, 5, 7, 8] [15] s s := fm_rf _ _ s
  have aw0_15 : SAM 15 s s := sam_rf
  have hN := jBYB.2.1
  have b1 := bi_11 I
  have b2 := bi_2 I
  have b3 := bi_1 I
  have b4 := bi_4 I
  have b5 := bi_5 I
  have b6 := bi_6 I
  have L57 : ∀ (n : Nat) (t : PS) (c : Int), Bd t → Fm [11, 2, 4, 6, 5, 7, 8] [15] s t → BYB B N t → (WAQ B N t) → (0 ≤ c ∧ c ≤ 100 ∧ c + 1 ≤ iI t 4 ∧ iI t 2 ≤ iI t 1 ∧ iI t 4 ≤ iI t 2) → (100 - c : Int).toNat < n → (∀ (t' : PS) (c' : Int), Bd t' → Fm [11, 2, 4, 6, 5, 7, 8] [15] s t' → BYB B N t' → (WAQ B N t') → (N ≤ iI t' 4 ∧ iI t' 2 ≤ iI t' 1 ∧ iI t' 4 ≤ iI t' 2) → WS k 87 [(0, .ref (A 3)), (1, .ref (A 1)), (2, .int (Int32.ofInt c'))] [] (Wd A dT t') 0 0) → WS k 57 [(0, .ref (A 3)), (1, .ref (A 1)), (2, .int (Int32.ofInt c))] [] (Wd A dT t) 0 0 := by
    intro n
    induction n with
    | zero =>
      intro t c I F jjBYB hq hi hm kx
      exact absurd hm (Nat.not_lt_zero _)
    | succ n ih =>
      intro t c I F jjBYB hq hi hm kx
      have b1001 := bi_11 I
      have b1002 := bi_2 I
      have b1003 := bi_1 I
      have b1004 := bi_4 I
      have b1005 := bi_5 I
      have b1006 := bi_6 I
      have hN := jjBYB.2.1
      refine z_load_n X (x := c) rfl (List.Mem.tail _ (List.Mem.tail _ (List.Mem.head _))) (z_bipush X rfl (z_icmp_ge X (t := 87) rfl rfl ⟨by first | exact oq_fa4e5087 hi.1 | omega, by first | exact oq_f0661bc9 hi.2.1 | omega⟩ (by decide) (fun g1007 => ?_) (fun g1007 => ?_)))
      ·
        refine WS_pq [0, 1, 2] (lv' := [(0, .ref (A 3)), (1, .ref (A 1)), (2, .int (Int32.ofInt c))]) rfl ?_
        have hz9 : N ≤ iI t 4 := by first | exact oq_8a66283c g1007 hi.2.2.1 p2 | omega | (obtain ⟨a9, z1, z2, z3, z4⟩ := hq; exact tkn_end z4 (by omega))
        exact kx _ c I F jjBYB hq (by first | exact ⟨hz9, hi.2.2.2.1, hi.2.2.2.2⟩ | omega)
      ·
        refine z_aload_n X (x := A 1) rfl (List.Mem.tail _ (List.Mem.head _)) (z_getI X 1 rfl (c518_ok rfl) rfl rfl ?_)
        have b1008 := bi_5 I
        refine z_const X rfl (z_icmp_eq X (t := 87) rfl rfl (rng_to _) (by decide) (fun g1009 => ?_) (fun g1009 => ?_))
        ·
          refine WS_pq [0, 1, 2] (lv' := [(0, .ref (A 3)), (1, .ref (A 1)), (2, .int (Int32.ofInt c))]) rfl ?_
          have hz9 : N ≤ iI t 4 := by first | omega | (obtain ⟨a9, z1, z2, z3, z4⟩ := hq; exact tkn_end z4 (by first | exact g1009 | omega))
          exact kx _ c I F jjBYB hq (by first | exact ⟨hz9, hi.2.2.2.1, hi.2.2.2.2⟩ | omega)
        ·
          obtain ⟨a1, w1, w2, w3, w4⟩ := hq
          have hS := tkn_ne w4 (by first | exact g1009 | (clear g1009; omega) | omega)
          refine z_aload_n X (x := A 3) rfl (List.Mem.head _) (z_aload_n X (x := A 1) rfl (List.Mem.tail _ (List.Mem.head _)) (zcV_i1 X E 3 (As := [.ref (A 1)]) (st := []) rfl rfl rfl rfl (c9_readMove2 G w2 w3 w4 I jjBYB (by first | exact hi.2.2.2.1 | omega) (by first | exact hi.2.2.2.2 | omega) (by first | exact g1009 | omega)) rfl (Nat.le_of_ble_eq_true rfl) (fun s1010 e1011 Is1010 Fs1010 JBYB_s1010 hrs1010 hps1010 => ?_)))
          have hps1010p := And.intro hps1010.2.1 (hps1010.2.2.1)
          have Gs1010 := fm_tq F Fs1010 rfl rfl
          have JBYB_s1010 : BYB B N s1010 := BYB_fm Fs1010 (by decide) jjBYB
          have b1012 := bi_11 Is1010
          have b1013 := bi_2 Is1010
          have ws1010_1 : iI s1010 1 = iI t 1 := fm_iq Fs1010 rfl
          have b1014 := bi_4 Is1010
          have b1015 := bi_5 Is1010
          have b1016 := bi_6 Is1010
          have hbo := hps1010.2.2.2
          refine z_if_ne X (t := 81) rfl rfl hrs1010 (fun g1017 => ?_) (fun g1017 => ?_)
          ·
            have hlt := waq_lt hps1010.2.2.2 (by first | exact g1017 | (clear g1017 hps1010 g1009; omega) | (clear hps1010 g1009; omega) | omega)
            refine z_inc X (x := c) (lv' := [(2, .int (Int32.ofInt (c + 1))), (0, .ref (A 3)), (1, .ref (A 1))]) rfl (by decide) (List.Mem.tail _ (List.Mem.tail _ (List.Mem.head _))) (fun _ h => h) (z_goto X (t := 57) rfl rfl (WS_pq [1, 2, 0] (lv' := [(0, .ref (A 3)), (1, .ref (A 1)), (2, .int (Int32.ofInt (c + 1)))]) rfl ?_))
            exact ih _ (c + 1) Is1010 Gs1010 JBYB_s1010 (waq_up w1 (by first | exact hS | (clear g1017 hps1010 g1009; omega) | (clear hps1010 g1009; omega) | omega) hps1010.2.2.2 (by first | exact g1017 | (clear g1017 hps1010 g1009; omega) | (clear hps1010 g1009; omega) | omega)) (by first | exact ⟨oq_54f49eb5 hi.1, oq_16ea9949 g1007, by first | exact oq_751aace0 hlt hi.2.2.1 | (clear g1017 hps1010 g1009; omega) | (clear hps1010 g1009; omega) | omega, hps1010.2.1, hps1010.2.2.1⟩ | omega) (by first | exact qk_me hm (by decide) (oq_ed5c4e18 g1007) | exact oq_737e9e37 g1007 hm | omega) kx
          ·
            refine z_const X rfl ?_
            exact w_iret X.1 q hRt (nar_ret (by first | exact Or.inl (by decide) | omega)) (ax_d X (show cdA 103 80 = some (.ireturn, 1, 0, 0, 0) from rfl)) (Nat.zero_le _) (Nat.zero_le _) ⟨_, rfl, Is1010, Gs1010, JBYB_s1010, 0, rfl, (by decide), ⟨by first | exact Or.inl (by decide) | omega, by first | exact hps1010.2.1 | omega, by first | exact hps1010.2.2.1 | omega, Or.inr ⟨by decide, waq_no w1 (by first | exact hS | (clear hps1010 g1009; omega) | (clear g1009; omega) | omega) hps1010.2.2.2 (by first | exact g1017 | (clear hps1010 g1009; omega) | (clear g1009; omega) | omega)⟩⟩⟩
  refine z_aload_n X (x := A 3) rfl (List.Mem.head _) (z_const X rfl (s_putI X 3 rfl (c518_ok rfl) rfl rfl (by decide) rfl rfl rfl (wd_gen (fun s7 hs7 => ?_))))
  have Is7 : Bd s7 := eqB hs7 (bd_I I (show (0 : Int) ≤ 0 ∧ 0 ≤ 24 by first | exact ⟨by decide, by decide⟩ | omega) (by decide))
  have Fs7 := eqF hs7 (fm_I F (inl_ok (a := 11) rfl))
  have vs7 : iI s7 11 = 0 := eqI hs7 (iI_u (by decide))
  have ws7_2 : iI s7 2 = iI s 2 := eqI hs7 rfl
  have ws7_1 : iI s7 1 = iI s 1 := eqI hs7 rfl
  have ws7_4 : iI s7 4 = iI s 4 := eqI hs7 rfl
  have ws7_5 : iI s7 5 = iI s 5 := eqI hs7 rfl
  have ws7_6 : iI s7 6 = iI s 6 := eqI hs7 rfl
  have aws7_15 : SAM 15 s s7 := by rw [hs7]; exact aw0_15
  have fs7 : Fm [11] [] s s7 := by rw [hs7]; exact fm_I (fm_rf _ _ _) (show 11 ∈ _ by decide)
  have JBYB_s7 : BYB B N s7 := BYB_fm fs7 (by decide) jBYB
  refine z_aload_n X (x := A 1) rfl (List.Mem.tail _ (List.Mem.head _)) (z_getI X 1 rfl (c518_ok rfl) rfl rfl ?_)
  have b8 := bi_5 Is7
  refine z_bipush X rfl (z_icmp_eq X (t := 20) rfl rfl (rng_to _) (by decide) (fun g9 => ?_) (fun g9 => ?_))
  ·
    refine z_aload_n X (x := A 1) rfl (List.Mem.tail _ (List.Mem.head _)) (z_getI X 1 rfl (c518_ok rfl) rfl rfl ?_)
    have b10 := bi_6 Is7
    refine z_sipush X rfl (z_icmp_lt X (t := 36) rfl rfl (rng_to _) (by decide) (fun g11 => ?_) (fun g11 => ?_))
    ·
      refine z_aload_n X (x := A 3) rfl (List.Mem.head _) (s_getR X 3 rfl (c518_ok rfl) rfl rfl (z_const X rfl (z_aload_n X (x := A 1) rfl (List.Mem.tail _ (List.Mem.head _)) (z_getI X 1 rfl (c518_ok rfl) rfl rfl ?_))))
      have b12 := bi_6 Is7
      refine z_ast X 18 rfl (c518_ok rfl) rfl (by decide) (show 0 < 24 by decide) (cbig_ok rfl) (wd_gen (fun s13 hs13 => ?_))
      have Is13 : Bd s13 := eqB hs13 (bd_C Is7 (show (0 : Int) ≤ (iI s7 6) ∧ (iI s7 6) ≤ 127 by first | exact ⟨b12.1, oq_04367f15 g11⟩ | omega) (rng_to _))
      have Fs13 := eqF hs13 (fm_C Fs7 (inl_ok (a := 15) rfl))
      have ws13_11 : iI s13 11 = iI s7 11 := eqI hs13 rfl
      have ws13_2 : iI s13 2 = iI s7 2 := eqI hs13 rfl
      have ws13_1 : iI s13 1 = iI s7 1 := eqI hs13 rfl
      have ws13_4 : iI s13 4 = iI s7 4 := eqI hs13 rfl
      have ws13_5 : iI s13 5 = iI s7 5 := eqI hs13 rfl
      have ws13_6 : iI s13 6 = iI s7 6 := eqI hs13 rfl
      have aws13_15 : UPD 15 (0 : Int) (iI s7 6) s s13 := by rw [hs13]; exact upd_put aws7_15 (rng_to _)
      have fs13 : Fm [] [15] s7 s13 := by rw [hs13]; exact fm_C (fm_rf _ _ _) (show 15 ∈ _ by decide)
      have JBYB_s13 : BYB B N s13 := BYB_fm fs13 (by decide) JBYB_s7
      refine z_aload_n X (x := A 3) rfl (List.Mem.head _) (z_const X rfl (s_putI X 3 rfl (c518_ok rfl) rfl rfl (by decide) rfl rfl rfl (wd_gen (fun s14 hs14 => ?_))))
      have Is14 : Bd s14 := eqB hs14 (bd_I Is13 (show (0 : Int) ≤ 1 ∧ 1 ≤ 24 by first | exact ⟨by decide, by decide⟩ | omega) (by decide))
      have Fs14 := eqF hs14 (fm_I Fs13 (inl_ok (a := 11) rfl))
      have vs14 : iI s14 11 = 1 := eqI hs14 (iI_u (by decide))
      have ws14_2 : iI s14 2 = iI s13 2 := eqI hs14 rfl
      have ws14_1 : iI s14 1 = iI s13 1 := eqI hs14 rfl
      have ws14_4 : iI s14 4 = iI s13 4 := eqI hs14 rfl
      have ws14_5 : iI s14 5 = iI s13 5 := eqI hs14 rfl
      have ws14_6 : iI s14 6 = iI s13 6 := eqI hs14 rfl
      have aws14_15 : UPD 15 (0 : Int) (iI s7 6) s s14 := by rw [hs14]; exact aws13_15
      have fs14 : Fm [11] [] s13 s14 := by rw [hs14]; exact fm_I (fm_rf _ _ _) (show 11 ∈ _ by decide)
      have JBYB_s14 : BYB B N s14 := BYB_fm fs14 (by decide) JBYB_s13
      refine z_aload_n X (x := A 1) rfl (List.Mem.tail _ (List.Mem.head _)) (zcV_v1 X E 1 (As := []) (st := []) rfl rfl rfl rfl (c10_step2 G Is14 JBYB_s14 (by first | exact oq_72ebe5a4 ws14_1 ws14_2 ws13_1 ws13_2 ws7_1 ws7_2 p0 | omega)) rfl (Nat.le_of_ble_eq_true rfl) (fun s15 Is15 Fs15 JBYB_s15 hps15 => ?_))
      have Gs15 := fm_tq Fs14 Fs15 rfl rfl
      have JBYB_s15 : BYB B N s15 := BYB_fm Fs15 (by decide) JBYB_s14
      have ws15_11 : iI s15 11 = iI s14 11 := fm_iq Fs15 rfl
      have b17 := bi_2 Is15
      have ws15_1 : iI s15 1 = iI s14 1 := fm_iq Fs15 rfl
      have b18 := bi_4 Is15
      have b19 := bi_5 Is15
      have b20 := bi_6 Is15
      have aws15_15 : UPD 15 (0 : Int) (iI s7 6) s s15 := upd_ts aws14_15 (sam_fm Fs15 (by decide))
      have hy := tkn_is hT (by first | exact oq_c8279a39 g9 ws7_5 | omega)
      have hl1 := nmE_gt (v := 0) hy.1 hy.2.1 hy.2.2.1
      have hl4 := sk_le (B := B) (N := N) (p := iI s 2)
      have hl2 := sk_le (B := B) (N := N) (p := iI s14 2)
      have hl3 := sk_le (B := B) (N := N) (p := 0)
      refine z_const X rfl (z_store_n X (lv' := [(2, .int (Int32.ofInt 0)), (0, .ref (A 3)), (1, .ref (A 1))]) rfl (by decide) (fun _ h => h) (WS_pq [1, 2, 0] (lv' := [(0, .ref (A 3)), (1, .ref (A 1)), (2, .int (Int32.ofInt 0))]) rfl (L57 ((100 - 0 : Int).toNat + 1) s15 0 Is15 Gs15 JBYB_s15 ⟨(1, fun _ => (iI s7 6)), by rw [pa_yes hT hQ (by first | exact oq_c8279a39 g9 ws7_5 | omega) (by first | exact oq_51749072 g11 ws7_6 | omega), hps15.2.2.1, show iI s14 2 = iI s 2 by first | exact oq_878618b1 ws14_2 ws13_2 ws7_2 | omega, show (iI s7 6) = iI s 6 by first | exact ws7_6 | omega]; exact wi_0 (by first | exact oq_12a1f9e1 hl4 b2.1 | omega) (by first | exact oq_e4c35dd7 hy.1 b4.1 | omega), ag_one aws15_15 (by first | exact oq_5597108e ws15_11 vs14 | omega), ⟨(show (1 : Int) ≤ 1 by decide), (show (1 : Int) ≤ 24 by decide)⟩, hps15.2.2.2⟩ (by first | exact ⟨by decide, by decide, by first | exact oq_7987d21d hl2 hl1 hy.2.2.2.2 hps15.2.2.1 ws14_2 ws13_2 ws7_2 b4.1 | omega, hps15.1, hps15.2.1⟩ | omega) (Nat.lt_succ_self _) ?_)))
      intro s21 x22 Is21 Fs21 JBYB_s21 Qs21 hs21
      have b23 := bi_11 Is21
      have b24 := bi_2 Is21
      have b25 := bi_1 Is21
      have b26 := bi_4 Is21
      have b27 := bi_5 Is21
      have b28 := bi_6 Is21
      have hNs21 := JBYB_s21.2.1
      refine z_const X rfl ?_
      exact w_iret X.1 q hRt (nar_ret (by first | exact Or.inr (by decide) | omega)) (ax_d X (show cdA 103 88 = some (.ireturn, 1, 0, 0, 0) from rfl)) (Nat.zero_le _) (Nat.zero_le _) ⟨_, rfl, Is21, Fs21, JBYB_s21, 1, rfl, (by decide), ⟨by first | exact Or.inr (by decide) | omega, by first | exact hs21.2.1 | omega, by first | exact hs21.2.2 | omega, Or.inl ⟨by decide, waq_end Qs21 (by first | exact hs21.1 | omega)⟩⟩⟩
    ·
      refine z_aload_n X (x := A 1) rfl (List.Mem.tail _ (List.Mem.head _)) (z_const X rfl (zcV_i0 X E 1 (As := [.int (Int32.ofInt 2)]) (st := []) rfl rfl rfl rfl (c10_refuse_1 G Is7 (by first | exact ⟨by decide, by decide⟩ | omega)) rfl (Nat.le_of_ble_eq_true rfl) (fun s29 e30 Is29 Fs29 hrs29 hps29 => ?_)))
      have Gs29 := fm_tq Fs7 Fs29 rfl rfl
      have JBYB_s29 : BYB B N s29 := BYB_fm Fs29 (by decide) JBYB_s7
      have ws29_11 : iI s29 11 = iI s7 11 := fm_iq Fs29 rfl
      have ws29_2 : iI s29 2 = iI s7 2 := fm_iq Fs29 rfl
      have ws29_1 : iI s29 1 = iI s7 1 := fm_iq Fs29 rfl
      have ws29_4 : iI s29 4 = iI s7 4 := fm_iq Fs29 rfl
      have ws29_5 : iI s29 5 = iI s7 5 := fm_iq Fs29 rfl
      have ws29_6 : iI s29 6 = iI s7 6 := fm_iq Fs29 rfl
      have aws29_15 : SAM 15 s s29 := sam_ts aws7_15 (sam_fm Fs29 (by decide))
      exact w_iret X.1 q hRt (nar_ret (by first | exact Or.inl (hps29) | omega)) (ax_d X (show cdA 103 35 = some (.ireturn, 1, 0, 0, 0) from rfl)) (Nat.zero_le _) (Nat.zero_le _) ⟨_, rfl, Is29, Gs29, JBYB_s29, e30, rfl, hrs29, ⟨by first | exact Or.inl (hps29) | omega, by first | exact oq_4407eb3c ws29_1 ws29_2 ws7_1 ws7_2 p0 | omega, by first | exact oq_4407eb3c ws29_2 ws29_4 ws7_2 ws7_4 p1 | omega, Or.inr ⟨by first | exact hps29 | omega, pa_no2 hT hQ (by first | exact oq_c8279a39 g9 ws7_5 | omega) (by first | exact oq_a3645c42 g11 ws7_6 | omega)⟩⟩⟩
  ·
    refine z_aload_n X (x := A 1) rfl (List.Mem.tail _ (List.Mem.head _)) (z_const X rfl (zcV_i0 X E 1 (As := [.int (Int32.ofInt 1)]) (st := []) rfl rfl rfl rfl (c10_refuse_1 G Is7 (by first | exact ⟨by decide, by decide⟩ | omega)) rfl (Nat.le_of_ble_eq_true rfl) (fun s31 e32 Is31 Fs31 hrs31 hps31 => ?_)))
    have Gs31 := fm_tq Fs7 Fs31 rfl rfl
    have JBYB_s31 : BYB B N s31 := BYB_fm Fs31 (by decide) JBYB_s7
    have ws31_11 : iI s31 11 = iI s7 11 := fm_iq Fs31 rfl
    have ws31_2 : iI s31 2 = iI s7 2 := fm_iq Fs31 rfl
    have ws31_1 : iI s31 1 = iI s7 1 := fm_iq Fs31 rfl
    have ws31_4 : iI s31 4 = iI s7 4 := fm_iq Fs31 rfl
    have ws31_5 : iI s31 5 = iI s7 5 := fm_iq Fs31 rfl
    have ws31_6 : iI s31 6 = iI s7 6 := fm_iq Fs31 rfl
    have aws31_15 : SAM 15 s s31 := sam_ts aws7_15 (sam_fm Fs31 (by decide))
    exact w_iret X.1 q hRt (nar_ret (by first | exact Or.inl (hps31) | omega)) (ax_d X (show cdA 103 19 = some (.ireturn, 1, 0, 0, 0) from rfl)) (Nat.zero_le _) (Nat.zero_le _) ⟨_, rfl, Is31, Gs31, JBYB_s31, e32, rfl, hrs31, ⟨by first | exact Or.inl (hps31) | omega, by first | exact oq_4407eb3c ws31_1 ws31_2 ws7_1 ws7_2 p0 | omega, by first | exact oq_4407eb3c ws31_2 ws31_4 ws7_2 ws7_4 p1 | omega, Or.inr ⟨by first | exact hps31 | omega, pa_no1 hT hQ (by first | exact oq_ad75fede g9 ws7_5 | (clear g9; omega) | omega)⟩⟩⟩
set_option maxRecDepth 4000 in
theorem k_byteAt2 (G : GX l s0 D tys a0 dT) {B : Nat → Int} {N : Int} (I : Bd s) (jFDB : FDB B N s) {x : Int} (p0 : 0 ≤ x ∧ x ≤ 2147483647) : CT l s0 D A dT 192 (rmN 192) [.ref (A 179), .int (Int32.ofInt x)] s (fun o t => s = t ∧ ∃ e, o = .inl (some (.int (Int32.ofInt e))) ∧ rng e ∧ ((N ≤ x ∧ e = -1) ∨ (x < N ∧ e = B x.toNat ∧ 0 ≤ e ∧ e ≤ 255))) := by
  refine ct_of G (by decide) (Nat.le_of_ble_eq_true rfl) (fun k X E hRt hXt q => ?_)
  show WS k 0 [(0, .ref (A 179)), (1, .int (Int32.ofInt x))] [] _ 0 0
  have F : Fm [] [] s s := fm_rf _ _ s
  have hN := jFDB.2.1
  have hW := jFDB.2.2
  have hb0 : (0 : Int) ≤ iI s 75 ∧ iI s 75 ≤ 200 := I.1 75
  have hf0 : N ≤ x ∨ iI s 81 ≠ 0 ∨ iC s 157 (x).toNat = B x.toNat := (Int.lt_or_le x N).elim (fun hx => (Classical.em (iI s 81 = 0)).elim (fun w => Or.inr (Or.inr ((show BYV s x.toNat = iC s 157 (x).toNat from if_pos w).symm.trans (jFDB.1 _ (by first | exact oq_084ea114 hx p0.1 | omega))))) (fun w => Or.inr (Or.inl w))) Or.inl
  have hf1 : N ≤ x ∨ iI s 81 = 0 ∨ iC s 158 (x).toNat = B x.toNat := (Int.lt_or_le x N).elim (fun hx => (Classical.em (iI s 81 = 0)).elim (fun w => Or.inr (Or.inl w)) (fun w => Or.inr (Or.inr ((show BYV s x.toNat = iC s 158 (x).toNat from if_neg w).symm.trans (jFDB.1 _ (by first | exact oq_084ea114 hx p0.1 | omega)))))) Or.inl
  have b1 := bi_75 I
  refine z_load_n X (x := x) rfl (List.Mem.tail _ (List.Mem.head _)) (z_aload_n X (x := A 179) rfl (List.Mem.head _) (z_getI X 179 rfl (c518_ok rfl) rfl rfl ?_))
  have b2 := bi_75 I
  have N3 : ∀ e4 : Int, (((x < (iI s 75)) ∧ ((0 : Int) ≤ iI s 81 ∧ iI s 81 ≤ 1) ∧ ((iI s 81) ≠ 0) ∧ ((0 : Int) ≤ iC s 158 (x).toNat ∧ iC s 158 (x).toNat ≤ 255) ∧ e4 = (iC s 158 (x).toNat)) ∨ ((x < (iI s 75)) ∧ ((0 : Int) ≤ iI s 81 ∧ iI s 81 ≤ 1) ∧ ((iI s 81) = 0) ∧ ((0 : Int) ≤ iC s 157 (x).toNat ∧ iC s 157 (x).toNat ≤ 255) ∧ e4 = (iC s 157 (x).toNat)) ∨ (((iI s 75) ≤ x) ∧ e4 = (-1))) → WS k 34 [(0, .ref (A 179)), (1, .int (Int32.ofInt x))] [.int (Int32.ofInt e4)] (Wd A dT s) 0 0 := by
    intro e4 he4
    exact w_iret X.1 q hRt rfl (ax_d X (show cdA 192 34 = some (.ireturn, 1, 0, 0, 0) from rfl)) (Nat.zero_le _) (Nat.zero_le _) ⟨_, rfl, rfl, e4, rfl, ⟨by first | exact oq_e9a2ed3a he4 | omega, by first | exact oq_bae66a67 he4 | omega⟩, by first | exact oq_b403cfa8 he4 hf1 hf0 hN | (clear he4; omega) | omega⟩
  refine z_icmp_lt X (t := 12) rfl rfl ⟨by first | exact oq_fa4e5087 p0.1 | omega, by first | exact p0.2 | omega⟩ (rng_to _) (fun g5 => ?_) (fun g5 => ?_)
  ·
    refine z_aload_n X (x := A 179) rfl (List.Mem.head _) (z_getI X 179 rfl (c518_ok rfl) rfl rfl ?_)
    have b6 := bi_81 I
    refine z_if_ne X (t := 28) rfl rfl (rng_to _) (fun g7 => ?_) (fun g7 => ?_)
    ·
      refine z_aload_n X (x := A 179) rfl (List.Mem.head _) (s_getR X 179 rfl (c518_ok rfl) rfl rfl (z_load_n X (x := x) rfl (List.Mem.tail _ (List.Mem.head _)) (z_ald X 181 rfl (c518_ok rfl) rfl (by first | exact p0.1 | omega) (show x < 200 by first | exact oq_6fca3d72 g5 b2.2 | omega) (cbig_ok rfl) ?_)))
      have b8 := bc_158 I (show (x).toNat < 200 by first | exact oq_b70289d5 g5 b2.2 | omega)
      exact N3 _ (Or.inl ⟨g5, b6, g7, b8, rfl⟩)
    ·
      refine z_aload_n X (x := A 179) rfl (List.Mem.head _) (s_getR X 179 rfl (c518_ok rfl) rfl rfl (z_load_n X (x := x) rfl (List.Mem.tail _ (List.Mem.head _)) (z_ald X 180 rfl (c518_ok rfl) rfl (by first | exact p0.1 | omega) (show x < 200 by first | exact oq_6fca3d72 g5 b2.2 | omega) (cbig_ok rfl) ?_)))
      have b9 := bc_157 I (show (x).toNat < 200 by first | exact oq_b70289d5 g5 b2.2 | omega)
      exact z_goto X (t := 34) rfl rfl (N3 _ (Or.inr (Or.inl ⟨g5, b6, g7, b9, rfl⟩)))
  ·
    exact z_const X rfl (z_goto X (t := 34) rfl rfl (N3 _ (Or.inr (Or.inr (⟨g5, rfl⟩)))))
set_option maxRecDepth 4000 in
theorem k_isDigit2 (G : GX l s0 D tys a0 dT) (I : Bd s) {x : Int} (p0 : rng x) : CT l s0 D A dT 195 (rmN 195) [.int (Int32.ofInt x)] s (fun o t => s = t ∧ ∃ e, o = .inl (some (.int (Int32.ofInt e))) ∧ rng e ∧ ((e = 1 ∧ 48 ≤ x ∧ x ≤ 57) ∨ (e = 0 ∧ (x < 48 ∨ 57 < x)))) := by
  refine ct_of G (by decide) (Nat.le_of_ble_eq_true rfl) (fun k X E hRt hXt q => ?_)
  show WS k 0 [(0, .int (Int32.ofInt x))] [] _ 0 0
  have F : Fm [] [] s s := fm_rf _ _ s
  refine z_load_n X (x := x) rfl (List.Mem.head _) (z_bipush X rfl ?_)
  have N1 : ∀ e2 : Int, (((x < 48) ∧ e2 = 0) ∨ ((48 ≤ x) ∧ (57 < x) ∧ e2 = 0) ∨ ((48 ≤ x) ∧ (x ≤ 57) ∧ e2 = 1)) → WS k 17 [(0, .int (Int32.ofInt x))] [.int (Int32.ofInt e2)] (Wd A dT s) 0 0 := by
    intro e2 he2
    have re2 : 0 ≤ e2 ∧ e2 ≤ 1 := by first | exact And.intro (oq_02ec18ed he2) (oq_0bab4d4f he2) | (clear he2; omega) | omega
    exact w_iret X.1 q hRt (nar_ret (by first | exact oq_31e518ae re2.2 re2.1 | omega)) (ax_d X (show cdA 195 17 = some (.ireturn, 1, 0, 0, 0) from rfl)) (Nat.zero_le _) (Nat.zero_le _) ⟨_, rfl, rfl, e2, rfl, ⟨by first | exact oq_fa4e5087 re2.1 | omega, by first | exact oq_22e1e6b0 re2.2 | omega⟩, by first | exact oq_08c8a296 re2.2 re2.1 he2 | omega⟩
  refine z_icmp_lt X (t := 16) rfl rfl ⟨by first | exact p0.1 | omega, by first | exact p0.2 | omega⟩ (by decide) (fun g3 => ?_) (fun g3 => ?_)
  ·
    exact z_const X rfl (N1 _ (Or.inl ⟨g3, rfl⟩))
  ·
    refine z_load_n X (x := x) rfl (List.Mem.head _) (z_bipush X rfl (z_icmp_gt X (t := 16) rfl rfl ⟨by first | exact p0.1 | omega, by first | exact p0.2 | omega⟩ (by decide) (fun g4 => ?_) (fun g4 => ?_)))
    ·
      exact z_const X rfl (N1 _ (Or.inr (Or.inl ⟨g3, g4, rfl⟩)))
    ·
      exact z_const X rfl (z_goto X (t := 17) rfl rfl (N1 _ (Or.inr (Or.inr (⟨g3, g4, rfl⟩)))))
set_option maxRecDepth 4000 in
theorem k_blanks2 (G : GX l s0 D tys a0 dT) {B : Nat → Int} {N : Int} (I : Bd s) (jFDB : FDB B N s) (p0 : iI s 77 ≤ 390) : CT l s0 D A dT 193 (rmN 193) [.ref (A 179)] s (fun o t => Bd t ∧ Fm [77] [] s t ∧ FDB B N t ∧ o = .inl none ∧ (iI t 77 = sk B N (iI s 77) ∧ iI s 77 ≤ iI t 77 ∧ (iI t 77 = iI s 77 ∨ iI t 77 ≤ N))) := by
  refine ct_of G (by decide) (Nat.le_of_ble_eq_true rfl) (fun k X E hRt hXt q => ?_)
  show WS k 0 [(0, .ref (A 179))] [] _ 0 0
  have F : Fm [77] [] s s := fm_rf _ _ s
  have hN := jFDB.2.1
  have hW := jFDB.2.2
  have b1 := bi_77 I
  have b2 := bi_75 I
  have L0 : ∀ (n : Nat) (t : PS), Bd t → Fm [77] [] s t → FDB B N t → (sk B N (iI t 77) = sk B N (iI s 77)) → (iI s 77 ≤ iI t 77 ∧ (iI t 77 = iI s 77 ∨ iI t 77 ≤ N)) → (N - iI t 77 : Int).toNat < n → (∀ (t' : PS), Bd t' → Fm [77] [] s t' → FDB B N t' → (sk B N (iI s 77) = iI t' 77) → (iI s 77 ≤ iI t' 77 ∧ (iI t' 77 = iI s 77 ∨ iI t' 77 ≤ N)) → WS k 26 [(0, .ref (A 179))] [] (Wd A dT t') 0 0) → WS k 0 [(0, .ref (A 179))] [] (Wd A dT t) 0 0 := by
    intro n
    induction n with
    | zero =>
      intro t  I F jjFDB hq hi hm kx
      exact absurd hm (Nat.not_lt_zero _)
    | succ n ih =>
      intro t  I F jjFDB hq hi hm kx
      have b1001 := bi_77 I
      have b1002 := bi_75 I
      have hN := jjFDB.2.1
      have hW := jjFDB.2.2
      refine z_aload_n X (x := A 179) rfl (List.Mem.head _) (z_aload_n X (x := A 179) rfl (List.Mem.head _) (z_getI X 179 rfl (c518_ok rfl) rfl rfl ?_))
      have b1003 := bi_77 I
      refine z_callV X 179 (rm := rmN 192) (As := [.int (Int32.ofInt (iI t 77))]) (st := []) rfl rfl (by decide) rfl (by rw [E.1, E.2.1, E.2.2.1]; exact k_byteAt2 G I jjFDB (by first | exact ⟨b1003.1, oq_5a8480eb b1003.2⟩ | omega)) ⟨by rw [E.2.2.2]; exact (show (rmN 192).frames + 1 ≤ (rmN 193).frames by decide), by rw [E.2.2.2]; exact (show 8 + (mNL (miB 192) + 11) + (rmN 192).locals ≤ (rmN 193).locals by decide), by rw [E.2.2.2]; exact (show 0 + (rmN 192).cells ≤ (rmN 193).cells by decide), by rw [E.2.2.2]; exact (show 0 + (rmN 192).slots ≤ (rmN 193).slots by decide)⟩ (Nat.le_of_ble_eq_true rfl) (fun vv s1004 hq => ?_) (fun ee s1004 hq => ?_)
      rotate_left
      · obtain ⟨rfl, e1005, hv, hrs1004, hps1004⟩ := hq; cases hv
      obtain ⟨rfl, e1005, hv, hrs1004, hps1004⟩ := hq
      cases hv
      show WS k 8 [(0, .ref (A 179))] [.int (Int32.ofInt e1005)] (Wd A dT t) 0 0
      refine z_bipush X rfl (z_icmp_ne X (t := 26) rfl rfl hrs1004 (by decide) (fun g1006 => ?_) (fun g1006 => ?_))
      ·
        refine WS_pq [0] (lv' := [(0, .ref (A 179))]) rfl ?_
        exact kx _  I F jjFDB (hq.symm.trans (sk_stop (by first | exact oq_adbb90ab g1006 hps1004 | (clear g1006 hps1004; omega) | (clear hps1004; omega) | omega))) (by first | exact ⟨hi.1, hi.2⟩ | omega)
      ·
        refine z_aload_n X (x := A 179) rfl (List.Mem.head _) (w_dup X.1 (ax_d X (show cdA 193 14 = some (.dup, 1, 0, 0, 0) from rfl)) rfl (z_getI X 179 rfl (c518_ok rfl) rfl rfl ?_))
        have b1007 := bi_77 I
        refine z_const X rfl (z_add X rfl (s_putI X 179 rfl (c518_ok rfl) rfl rfl (by decide) rfl rfl rfl (wd_gen (fun s1008 hs1008 => ?_))))
        have Is1008 : Bd s1008 := eqB hs1008 (bd_I I (show (0 : Int) ≤ ((iI t 77) + 1) ∧ ((iI t 77) + 1) ≤ 400 by first | exact ⟨oq_54f49eb5 b1007.1, by first | exact oq_106bbac4 g1006 hps1004 hN b1002.2 | (clear hps1004; omega) | omega⟩ | omega) ⟨by first | exact oq_74de1e16 b1007.1 | omega, by first | exact oq_964ce197 b1007.2 | omega⟩)
        have Fs1008 := eqF hs1008 (fm_I F (inl_ok (a := 77) rfl))
        have vs1008 : iI s1008 77 = ((iI t 77) + 1) := eqI hs1008 (iI_u ⟨by first | exact oq_74de1e16 b1007.1 | omega, by first | exact oq_964ce197 b1007.2 | omega⟩)
        have ws1008_75 : iI s1008 75 = iI t 75 := eqI hs1008 rfl
        have fs1008 : Fm [77] [] t s1008 := by rw [hs1008]; exact fm_I (fm_rf _ _ _) (show 77 ∈ _ by decide)
        have JFDB_s1008 : FDB B N s1008 := FDB_fm fs1008 (by decide) jjFDB
        refine z_goto X (t := 0) rfl rfl (WS_pq [0] (lv' := [(0, .ref (A 179))]) rfl ?_)
        exact ih _  Is1008 Fs1008 JFDB_s1008 (by rw [vs1008, ← sk_blank (by first | exact oq_7b49ce83 g1006 hps1004 | (clear hps1004; omega) | omega) (by first | exact oq_5b229137 g1006 hps1004 | (clear hps1004; omega) | omega)]; exact hq) (by first | exact ⟨oq_d12e8ac3 vs1008 hi.1, oq_5492ee3c vs1008 g1006 hps1004⟩ | omega) (by first | exact qk_me hm (oq_563dee29 vs1008) (oq_6cc4defc g1006 hps1004) | omega) kx
  refine WS_pq [0] (lv' := [(0, .ref (A 179))]) rfl (L0 ((N - iI s 77 : Int).toNat + 1) s  I F jFDB rfl (by first | exact ⟨by decide, Or.inl (by decide)⟩ | exact And.intro (oq_15ec32ab) (Or.inl (rfl)) | omega) (Nat.lt_succ_self _) ?_)
  intro s3  Is3 Fs3 JFDB_s3 Qs3 hs3
  have b4 := bi_77 Is3
  have b5 := bi_75 Is3
  have hNs3 := JFDB_s3.2.1
  have hWs3 := JFDB_s3.2.2
  exact w_vret X.1 q hRt (ax_d X (show cdA 193 26 = some (.return_, 1, 0, 0, 0) from rfl)) (Nat.zero_le _) (Nat.zero_le _) ⟨_, rfl, Is3, Fs3, JFDB_s3, rfl, by first | exact ⟨by first | exact oq_18d11be6 Qs3 | omega, hs3.1, hs3.2⟩ | omega⟩
set_option maxRecDepth 4000 in
theorem k_wrong2 (G : GX l s0 D tys a0 dT) (I : Bd s) {x y : Int} (p0 : 1 ≤ x ∧ x ≤ 9) (p1 : -1 ≤ y ∧ y ≤ 400) : CT l s0 D A dT 194 (rmN 194) [.ref (A 179), .int (Int32.ofInt x), .int (Int32.ofInt y)] s (fun o t => Bd t ∧ Fm [79, 80] [] s t ∧ o = .inl none ∧ (iI t 79 ≠ 0)) := by
  refine ct_of G (by decide) (Nat.le_of_ble_eq_true rfl) (fun k X E hRt hXt q => ?_)
  show WS k 0 [(0, .ref (A 179)), (1, .int (Int32.ofInt x)), (2, .int (Int32.ofInt y))] [] _ 0 0
  have F : Fm [79, 80] [] s s := fm_rf _ _ s
  have b1 := bi_79 I
  refine z_aload_n X (x := A 179) rfl (List.Mem.head _) (z_getI X 179 rfl (c518_ok rfl) rfl rfl ?_)
  have b2 := bi_79 I
  refine z_if_ne X (t := 17) rfl rfl (rng_to _) (fun g3 => ?_) (fun g3 => ?_)
  ·
    exact w_vret X.1 q hRt (ax_d X (show cdA 194 17 = some (.return_, 1, 0, 0, 0) from rfl)) (Nat.zero_le _) (Nat.zero_le _) ⟨_, rfl, I, F, rfl, by first | exact g3 | omega⟩
  ·
    refine z_aload_n X (x := A 179) rfl (List.Mem.head _) (z_load_n X (x := x) rfl (List.Mem.tail _ (List.Mem.head _)) (s_putI X 179 rfl (c518_ok rfl) rfl rfl (by decide) rfl rfl rfl (wd_gen (fun s4 hs4 => ?_))))
    have Is4 : Bd s4 := eqB hs4 (bd_I I (show (0 : Int) ≤ x ∧ x ≤ 9 by first | exact ⟨oq_2a6e3b50 p0.1, p0.2⟩ | omega) ⟨by first | exact oq_9462313e p0.1 | omega, by first | exact oq_f7e7bb0e p0.2 | omega⟩)
    have Fs4 := eqF hs4 (fm_I F (inl_ok (a := 79) rfl))
    have vs4 : iI s4 79 = x := eqI hs4 (iI_u ⟨by first | exact oq_9462313e p0.1 | omega, by first | exact oq_f7e7bb0e p0.2 | omega⟩)
    refine z_aload_n X (x := A 179) rfl (List.Mem.head _) (z_load_n X (x := y) rfl (List.Mem.tail _ (List.Mem.tail _ (List.Mem.head _))) (s_putI X 179 rfl (c518_ok rfl) rfl rfl (by decide) rfl rfl rfl (wd_gen (fun s5 hs5 => ?_))))
    have Is5 : Bd s5 := eqB hs5 (bd_I Is4 (show ((-1) : Int) ≤ y ∧ y ≤ 400 by first | exact ⟨p1.1, p1.2⟩ | omega) ⟨by first | exact oq_97ee2c2a p1.1 | omega, by first | exact oq_5a8480eb p1.2 | omega⟩)
    have Fs5 := eqF hs5 (fm_I Fs4 (inl_ok (a := 80) rfl))
    have vs5 : iI s5 80 = y := eqI hs5 (iI_u ⟨by first | exact oq_97ee2c2a p1.1 | omega, by first | exact oq_5a8480eb p1.2 | omega⟩)
    have ws5_79 : iI s5 79 = iI s4 79 := eqI hs5 rfl
    exact w_vret X.1 q hRt (ax_d X (show cdA 194 17 = some (.return_, 1, 0, 0, 0) from rfl)) (Nat.zero_le _) (Nat.zero_le _) ⟨_, rfl, Is5, Fs5, rfl, by first | exact oq_ed8779e6 ws5_79 vs4 p0.1 | omega⟩
set_option maxRecDepth 4000 in
theorem k_beginText2 (G : GX l s0 D tys a0 dT) (I : Bd s) {x : Int} (p0 : 0 ≤ x ∧ x ≤ 200) : CT l s0 D A dT 197 (rmN 197) [.ref (A 179), .int (Int32.ofInt x)] s (fun o t => Bd t ∧ Fm [81, 75, 77, 78, 79, 80] [] s t ∧ o = .inl none ∧ (iI t 75 = x ∧ iI t 77 = 0 ∧ iI t 78 = 0 ∧ iI t 79 = 0 ∧ iI t 81 = 0)) := by
  refine ct_of G (by decide) (Nat.le_of_ble_eq_true rfl) (fun k X E hRt hXt q => ?_)
  show WS k 0 [(0, .ref (A 179)), (1, .int (Int32.ofInt x))] [] _ 0 0
  have F : Fm [81, 75, 77, 78, 79, 80] [] s s := fm_rf _ _ s
  have b1 := bi_75 I
  have b2 := bi_77 I
  have b3 := bi_78 I
  have b4 := bi_79 I
  have b5 := bi_81 I
  refine z_aload_n X (x := A 179) rfl (List.Mem.head _) (z_const X rfl (s_putI X 179 rfl (c518_ok rfl) rfl rfl (by decide) rfl rfl rfl (wd_gen (fun s6 hs6 => ?_))))
  have Is6 : Bd s6 := eqB hs6 (bd_I I (show (0 : Int) ≤ 0 ∧ 0 ≤ 1 by first | exact ⟨by decide, by decide⟩ | omega) (by decide))
  have Fs6 := eqF hs6 (fm_I F (inl_ok (a := 81) rfl))
  have vs6 : iI s6 81 = 0 := eqI hs6 (iI_u (by decide))
  have ws6_75 : iI s6 75 = iI s 75 := eqI hs6 rfl
  have ws6_77 : iI s6 77 = iI s 77 := eqI hs6 rfl
  have ws6_78 : iI s6 78 = iI s 78 := eqI hs6 rfl
  have ws6_79 : iI s6 79 = iI s 79 := eqI hs6 rfl
  refine z_aload_n X (x := A 179) rfl (List.Mem.head _) (z_load_n X (x := x) rfl (List.Mem.tail _ (List.Mem.head _)) (s_putI X 179 rfl (c518_ok rfl) rfl rfl (by decide) rfl rfl rfl (wd_gen (fun s7 hs7 => ?_))))
  have Is7 : Bd s7 := eqB hs7 (bd_I Is6 (show (0 : Int) ≤ x ∧ x ≤ 200 by first | exact ⟨p0.1, p0.2⟩ | omega) ⟨by first | exact oq_fa4e5087 p0.1 | omega, by first | exact oq_52af2b96 p0.2 | omega⟩)
  have Fs7 := eqF hs7 (fm_I Fs6 (inl_ok (a := 75) rfl))
  have vs7 : iI s7 75 = x := eqI hs7 (iI_u ⟨by first | exact oq_fa4e5087 p0.1 | omega, by first | exact oq_52af2b96 p0.2 | omega⟩)
  have ws7_77 : iI s7 77 = iI s6 77 := eqI hs7 rfl
  have ws7_78 : iI s7 78 = iI s6 78 := eqI hs7 rfl
  have ws7_79 : iI s7 79 = iI s6 79 := eqI hs7 rfl
  have ws7_81 : iI s7 81 = iI s6 81 := eqI hs7 rfl
  refine z_aload_n X (x := A 179) rfl (List.Mem.head _) (z_const X rfl (s_putI X 179 rfl (c518_ok rfl) rfl rfl (by decide) rfl rfl rfl (wd_gen (fun s8 hs8 => ?_))))
  have Is8 : Bd s8 := eqB hs8 (bd_I Is7 (show (0 : Int) ≤ 0 ∧ 0 ≤ 400 by first | exact ⟨by decide, by decide⟩ | omega) (by decide))
  have Fs8 := eqF hs8 (fm_I Fs7 (inl_ok (a := 77) rfl))
  have vs8 : iI s8 77 = 0 := eqI hs8 (iI_u (by decide))
  have ws8_75 : iI s8 75 = iI s7 75 := eqI hs8 rfl
  have ws8_78 : iI s8 78 = iI s7 78 := eqI hs8 rfl
  have ws8_79 : iI s8 79 = iI s7 79 := eqI hs8 rfl
  have ws8_81 : iI s8 81 = iI s7 81 := eqI hs8 rfl
  refine z_aload_n X (x := A 179) rfl (List.Mem.head _) (z_const X rfl (s_putI X 179 rfl (c518_ok rfl) rfl rfl (by decide) rfl rfl rfl (wd_gen (fun s9 hs9 => ?_))))
  have Is9 : Bd s9 := eqB hs9 (bd_I Is8 (show (0 : Int) ≤ 0 ∧ 0 ≤ 8 by first | exact ⟨by decide, by decide⟩ | omega) (by decide))
  have Fs9 := eqF hs9 (fm_I Fs8 (inl_ok (a := 78) rfl))
  have vs9 : iI s9 78 = 0 := eqI hs9 (iI_u (by decide))
  have ws9_75 : iI s9 75 = iI s8 75 := eqI hs9 rfl
  have ws9_77 : iI s9 77 = iI s8 77 := eqI hs9 rfl
  have ws9_79 : iI s9 79 = iI s8 79 := eqI hs9 rfl
  have ws9_81 : iI s9 81 = iI s8 81 := eqI hs9 rfl
  refine z_aload_n X (x := A 179) rfl (List.Mem.head _) (z_const X rfl (s_putI X 179 rfl (c518_ok rfl) rfl rfl (by decide) rfl rfl rfl (wd_gen (fun s10 hs10 => ?_))))
  have Is10 : Bd s10 := eqB hs10 (bd_I Is9 (show (0 : Int) ≤ 0 ∧ 0 ≤ 9 by first | exact ⟨by decide, by decide⟩ | omega) (by decide))
  have Fs10 := eqF hs10 (fm_I Fs9 (inl_ok (a := 79) rfl))
  have vs10 : iI s10 79 = 0 := eqI hs10 (iI_u (by decide))
  have ws10_75 : iI s10 75 = iI s9 75 := eqI hs10 rfl
  have ws10_77 : iI s10 77 = iI s9 77 := eqI hs10 rfl
  have ws10_78 : iI s10 78 = iI s9 78 := eqI hs10 rfl
  have ws10_81 : iI s10 81 = iI s9 81 := eqI hs10 rfl
  refine z_aload_n X (x := A 179) rfl (List.Mem.head _) (z_const X rfl (s_putI X 179 rfl (c518_ok rfl) rfl rfl (by decide) rfl rfl rfl (wd_gen (fun s11 hs11 => ?_))))
  have Is11 : Bd s11 := eqB hs11 (bd_I Is10 (show ((-1) : Int) ≤ (-1) ∧ (-1) ≤ 400 by first | exact ⟨by decide, by decide⟩ | omega) (by decide))
  have Fs11 := eqF hs11 (fm_I Fs10 (inl_ok (a := 80) rfl))
  have vs11 : iI s11 80 = (-1) := eqI hs11 (iI_u (by decide))
  have ws11_75 : iI s11 75 = iI s10 75 := eqI hs11 rfl
  have ws11_77 : iI s11 77 = iI s10 77 := eqI hs11 rfl
  have ws11_78 : iI s11 78 = iI s10 78 := eqI hs11 rfl
  have ws11_79 : iI s11 79 = iI s10 79 := eqI hs11 rfl
  have ws11_81 : iI s11 81 = iI s10 81 := eqI hs11 rfl
  exact w_vret X.1 q hRt (ax_d X (show cdA 197 30 = some (.return_, 1, 0, 0, 0) from rfl)) (Nat.zero_le _) (Nat.zero_le _) ⟨_, rfl, Is11, Fs11, rfl, by first | exact ⟨oq_d5af8cc9 ws11_75 vs7 ws10_75 ws8_75 ws9_75, oq_264718cb ws11_77 ws10_77 ws9_77 vs8, oq_cd9cbf39 ws11_78 ws10_78 vs9, oq_e5e5d3d6 ws11_79 vs10, oq_d9a35dd1 ws11_81 ws10_81 ws9_81 ws8_81 ws7_81 vs6⟩ | omega⟩
set_option maxRecDepth 4000 in
theorem k_number2 (G : GX l s0 D tys a0 dT) {B : Nat → Int} {N : Int} (I : Bd s) (jFDB : FDB B N s) {x y : Int} (p0 : rng x) (p1 : rng y) (p2 : iI s 77 ≤ 390) : CT l s0 D A dT 196 (rmN 196) [.ref (A 179), .int (Int32.ofInt x), .int (Int32.ofInt y)] s (fun o t => Bd t ∧ Fm [77, 79, 80] [] s t ∧ FDB B N t ∧ ∃ e, o = .inl (some (.int (Int32.ofInt e))) ∧ rng e ∧ (NUR B N (iI s 77) x y e (iI s 79) (iI t 79) (iI t 77) ∧ iI s 77 ≤ iI t 77 ∧ (iI t 77 = iI s 77 ∨ iI t 77 ≤ N))) := by
  refine ct_of G (by decide) (Nat.le_of_ble_eq_true rfl) (fun k X E hRt hXt q => ?_)
  show WS k 0 [(0, .ref (A 179)), (1, .int (Int32.ofInt x)), (2, .int (Int32.ofInt y))] [] _ 0 0
  have F : Fm [77, 79, 80] [] s s := fm_rf _ _ s
  have hN := jFDB.2.1
  have hW := jFDB.2.2
  have b1 := bi_77 I
  have b2 := bi_75 I
  have b3 := bi_79 I
  have L35 : ∀ (n : Nat) (t : PS) (xv yv bv vv : Int), Bd t → Fm [77, 79, 80] [] s t → FDB B N t → (nmV B N (iI t 77) vv = nmV B N (sk B N (iI s 77)) 0 ∧ nmE B N (iI t 77) vv = nmE B N (sk B N (iI s 77)) 0 ∧ NDG B N (iI s 77) (iI s 79) (iI t 79)) → (iI s 77 ≤ iI t 77 ∧ (iI t 77 = iI s 77 ∨ iI t 77 ≤ N) ∧ xv = x ∧ yv = y ∧ (0 ≤ bv ∧ bv ≤ 400) ∧ 0 ≤ vv ∧ vv ≤ 100000) → (N - iI t 77 : Int).toNat < n → (∀ (t' : PS) (vv' : Int), Bd t' → Fm [77, 79, 80] [] s t' → FDB B N t' → (vv' = nmV B N (sk B N (iI s 77)) 0 ∧ iI t' 77 = nmE B N (sk B N (iI s 77)) 0 ∧ NDG B N (iI s 77) (iI s 79) (iI t' 79)) → (iI s 77 ≤ iI t' 77 ∧ (iI t' 77 = iI s 77 ∨ iI t' 77 ≤ N) ∧ xv = x ∧ yv = y ∧ (0 ≤ bv ∧ bv ≤ 400) ∧ 0 ≤ vv' ∧ vv' ≤ 100000) → WS k 97 [(0, .ref (A 179)), (1, .int (Int32.ofInt xv)), (2, .int (Int32.ofInt yv)), (3, .int (Int32.ofInt bv)), (4, .int (Int32.ofInt vv'))] [] (Wd A dT t') 0 0) → WS k 35 [(0, .ref (A 179)), (1, .int (Int32.ofInt xv)), (2, .int (Int32.ofInt yv)), (3, .int (Int32.ofInt bv)), (4, .int (Int32.ofInt vv))] [] (Wd A dT t) 0 0 := by
    intro n
    induction n with
    | zero =>
      intro t xv yv bv vv I F jjFDB hq hi hm kx
      exact absurd hm (Nat.not_lt_zero _)
    | succ n ih =>
      intro t xv yv bv vv I F jjFDB hq hi hm kx
      have b1001 := bi_77 I
      have b1002 := bi_75 I
      have b1003 := bi_79 I
      have hN := jjFDB.2.1
      have hW := jjFDB.2.2
      refine z_aload_n X (x := A 179) rfl (List.Mem.head _) (z_aload_n X (x := A 179) rfl (List.Mem.head _) (z_getI X 179 rfl (c518_ok rfl) rfl rfl ?_))
      have b1004 := bi_77 I
      refine z_callV X 179 (rm := rmN 192) (As := [.int (Int32.ofInt (iI t 77))]) (st := []) rfl rfl (by decide) rfl (by rw [E.1, E.2.1, E.2.2.1]; exact k_byteAt2 G I jjFDB (by first | exact ⟨b1004.1, oq_5a8480eb b1004.2⟩ | omega)) ⟨by rw [E.2.2.2]; exact (show (rmN 192).frames + 1 ≤ (rmN 196).frames by decide), by rw [E.2.2.2]; exact (show 8 + (mNL (miB 192) + 11) + (rmN 192).locals ≤ (rmN 196).locals by decide), by rw [E.2.2.2]; exact (show 0 + (rmN 192).cells ≤ (rmN 196).cells by decide), by rw [E.2.2.2]; exact (show 0 + (rmN 192).slots ≤ (rmN 196).slots by decide)⟩ (Nat.le_of_ble_eq_true rfl) (fun vv s1005 hq => ?_) (fun ee s1005 hq => ?_)
      rotate_left
      · obtain ⟨rfl, e1006, hv, hrs1005, hps1005⟩ := hq; cases hv
      obtain ⟨rfl, e1006, hv, hrs1005, hps1005⟩ := hq
      cases hv
      show WS k 43 [(0, .ref (A 179)), (1, .int (Int32.ofInt xv)), (2, .int (Int32.ofInt yv)), (3, .int (Int32.ofInt bv)), (4, .int (Int32.ofInt vv))] [.int (Int32.ofInt e1006)] (Wd A dT t) 0 0
      refine z_callS X (rm := rmN 195) (As := [.int (Int32.ofInt e1006)]) (st := []) rfl rfl (by rw [E.1, E.2.1, E.2.2.1]; exact k_isDigit2 G I (by first | exact ⟨oq_1b38bc36 hps1005, oq_eabbb498 hps1005⟩ | omega)) ⟨by rw [E.2.2.2]; exact (show (rmN 195).frames + 1 ≤ (rmN 196).frames by decide), by rw [E.2.2.2]; exact (show 8 + (mNL (miB 195) + 11) + (rmN 195).locals ≤ (rmN 196).locals by decide), by rw [E.2.2.2]; exact (show 0 + (rmN 195).cells ≤ (rmN 196).cells by decide), by rw [E.2.2.2]; exact (show 0 + (rmN 195).slots ≤ (rmN 196).slots by decide)⟩ (Nat.le_of_ble_eq_true rfl) (fun vv s1007 hq => ?_) (fun ee s1007 hq => ?_)
      rotate_left
      · obtain ⟨rfl, e1008, hv, hrs1007, hps1007⟩ := hq; cases hv
      obtain ⟨rfl, e1008, hv, hrs1007, hps1007⟩ := hq
      cases hv
      show WS k 46 [(0, .ref (A 179)), (1, .int (Int32.ofInt xv)), (2, .int (Int32.ofInt yv)), (3, .int (Int32.ofInt bv)), (4, .int (Int32.ofInt vv))] [.int (Int32.ofInt e1008)] (Wd A dT t) 0 0
      refine z_if_eq X (t := 97) rfl rfl hrs1007 (fun g1009 => ?_) (fun g1009 => ?_)
      ·
        refine WS_pq [0, 1, 2, 3, 4] (lv' := [(0, .ref (A 179)), (1, .int (Int32.ofInt xv)), (2, .int (Int32.ofInt yv)), (3, .int (Int32.ofInt bv)), (4, .int (Int32.ofInt vv))]) rfl ?_
        exact kx _ vv I F jjFDB ⟨(nmV_stop (by first | exact oq_408a0309 g1009 hps1007 hps1005 | (clear hps1007 hps1005; omega) | (clear hps1005; omega) | omega)).symm.trans hq.1, (nmE_stop (by first | exact oq_408a0309 g1009 hps1007 hps1005 | (clear hps1007 hps1005; omega) | (clear hps1005; omega) | omega)).symm.trans hq.2.1, hq.2.2⟩ (by first | exact ⟨hi.1, hi.2.1, hi.2.2.1, hi.2.2.2.1, And.intro (hi.2.2.2.2.1.1) (hi.2.2.2.2.1.2), hi.2.2.2.2.2.1, hi.2.2.2.2.2.2⟩ | omega)
      ·
        refine z_bipush X rfl (z_load X (x := vv) rfl (List.Mem.tail _ (List.Mem.tail _ (List.Mem.tail _ (List.Mem.tail _ (List.Mem.head _))))) (z_mul X rfl (z_aload_n X (x := A 179) rfl (List.Mem.head _) (z_aload_n X (x := A 179) rfl (List.Mem.head _) (z_getI X 179 rfl (c518_ok rfl) rfl rfl ?_)))))
        have b1010 := bi_77 I
        refine z_callV X 179 (rm := rmN 192) (As := [.int (Int32.ofInt (iI t 77))]) (st := [.int (Int32.ofInt (10 * vv))]) rfl rfl (by decide) rfl (by rw [E.1, E.2.1, E.2.2.1]; exact k_byteAt2 G I jjFDB (by first | exact ⟨b1010.1, oq_5a8480eb b1010.2⟩ | omega)) ⟨by rw [E.2.2.2]; exact (show (rmN 192).frames + 1 ≤ (rmN 196).frames by decide), by rw [E.2.2.2]; exact (show 8 + (mNL (miB 192) + 11) + (rmN 192).locals ≤ (rmN 196).locals by decide), by rw [E.2.2.2]; exact (show 0 + (rmN 192).cells ≤ (rmN 196).cells by decide), by rw [E.2.2.2]; exact (show 0 + (rmN 192).slots ≤ (rmN 196).slots by decide)⟩ (Nat.le_of_ble_eq_true rfl) (fun vv s1011 hq => ?_) (fun ee s1011 hq => ?_)
        rotate_left
        · obtain ⟨rfl, e1012, hv, hrs1011, hps1011⟩ := hq; cases hv
        obtain ⟨rfl, e1012, hv, hrs1011, hps1011⟩ := hq
        cases hv
        show WS k 62 [(0, .ref (A 179)), (1, .int (Int32.ofInt xv)), (2, .int (Int32.ofInt yv)), (3, .int (Int32.ofInt bv)), (4, .int (Int32.ofInt vv))] [.int (Int32.ofInt e1012), .int (Int32.ofInt (10 * vv))] (Wd A dT t) 0 0
        refine z_add X rfl (z_bipush X rfl (z_sub X rfl (z_store X (lv' := [(4, .int (Int32.ofInt (((10 * vv) + e1012) - 48))), (0, .ref (A 179)), (1, .int (Int32.ofInt xv)), (2, .int (Int32.ofInt yv)), (3, .int (Int32.ofInt bv))]) rfl (by decide) (fun _ h => h) (z_load X (x := (((10 * vv) + e1012) - 48)) rfl (List.Mem.head _) (z_ldc X rfl (z_icmp_le X (t := 80) rfl rfl ⟨by first | exact oq_f9117428 hps1011 hi.2.2.2.2.2.1 | omega, by first | exact oq_84138788 hps1011 hi.2.2.2.2.2.2 | omega⟩ (by decide) (fun g1013 => ?_) (fun g1013 => ?_)))))))
        ·
          refine z_load X (x := (((10 * vv) + e1012) - 48)) rfl (List.Mem.head _) (z_store X (lv' := [(4, .int (Int32.ofInt (((10 * vv) + e1012) - 48))), (0, .ref (A 179)), (1, .int (Int32.ofInt xv)), (2, .int (Int32.ofInt yv)), (3, .int (Int32.ofInt bv))]) rfl (by decide) (fun _ h => h) (z_aload_n X (x := A 179) rfl (List.Mem.tail _ (List.Mem.head _)) (w_dup X.1 (ax_d X (show cdA 196 85 = some (.dup, 1, 0, 0, 0) from rfl)) rfl (z_getI X 179 rfl (c518_ok rfl) rfl rfl ?_))))
          have b1014 := bi_77 I
          refine z_const X rfl (z_add X rfl (s_putI X 179 rfl (c518_ok rfl) rfl rfl (by decide) rfl rfl rfl (wd_gen (fun s1015 hs1015 => ?_))))
          have Is1015 : Bd s1015 := eqB hs1015 (bd_I I (show (0 : Int) ≤ ((iI t 77) + 1) ∧ ((iI t 77) + 1) ≤ 400 by first | exact ⟨oq_54f49eb5 b1014.1, by first | exact oq_8f033a95 hN b1002.2 hi.2.1 p2 | (clear hps1011 g1009 hps1007 hps1005; omega) | (clear g1009 hps1007 hps1005; omega) | omega⟩ | omega) ⟨by first | exact oq_74de1e16 b1014.1 | omega, by first | exact oq_964ce197 b1014.2 | omega⟩)
          have Fs1015 := eqF hs1015 (fm_I F (inl_ok (a := 77) rfl))
          have vs1015 : iI s1015 77 = ((iI t 77) + 1) := eqI hs1015 (iI_u ⟨by first | exact oq_74de1e16 b1014.1 | omega, by first | exact oq_964ce197 b1014.2 | omega⟩)
          have ws1015_75 : iI s1015 75 = iI t 75 := eqI hs1015 rfl
          have ws1015_79 : iI s1015 79 = iI t 79 := eqI hs1015 rfl
          have fs1015 : Fm [77] [] t s1015 := by rw [hs1015]; exact fm_I (fm_rf _ _ _) (show 77 ∈ _ by decide)
          have JFDB_s1015 : FDB B N s1015 := FDB_fm fs1015 (by decide) jjFDB
          refine z_goto X (t := 35) rfl rfl (WS_pq [1, 2, 3, 4, 0] (lv' := [(0, .ref (A 179)), (1, .int (Int32.ofInt xv)), (2, .int (Int32.ofInt yv)), (3, .int (Int32.ofInt bv)), (4, .int (Int32.ofInt (((10 * vv) + e1012) - 48)))]) rfl ?_)
          exact ih _ xv yv bv (((10 * vv) + e1012) - 48) Is1015 Fs1015 JFDB_s1015 ⟨by rw [show iI s1015 77 = iI t 77 + 1 by first | exact vs1015 | (clear hps1011 g1009 hps1007 hps1005; omega) | (clear g1009 hps1007 hps1005; omega) | omega, show (((10 * vv) + e1012) - 48) = cap (10 * vv + B (iI t 77).toNat - 48) by unfold cap; split <;> omega, ← nmV_dig (by first | exact oq_a6991198 g1009 hps1007 hps1005 | (clear hps1011 g1009 hps1007 hps1005; omega) | (clear g1009 hps1007 hps1005; omega) | omega) (by first | exact oq_8ec20a9d hps1011 g1009 hps1007 hps1005 | (clear hps1011 g1009 hps1007 hps1005; omega) | (clear g1009 hps1007 hps1005; omega) | omega) (by first | exact oq_9cb55c03 hps1011 g1009 hps1007 hps1005 | (clear hps1011 g1009 hps1007 hps1005; omega) | (clear g1009 hps1007 hps1005; omega) | omega)]; exact hq.1, by rw [show iI s1015 77 = iI t 77 + 1 by first | exact vs1015 | (clear hps1011 g1009 hps1007 hps1005; omega) | (clear g1009 hps1007 hps1005; omega) | omega, show (((10 * vv) + e1012) - 48) = cap (10 * vv + B (iI t 77).toNat - 48) by unfold cap; split <;> omega, ← nmE_dig (by first | exact oq_a6991198 g1009 hps1007 hps1005 | (clear hps1011 g1009 hps1007 hps1005; omega) | (clear g1009 hps1007 hps1005; omega) | omega) (by first | exact oq_8ec20a9d hps1011 g1009 hps1007 hps1005 | (clear hps1011 g1009 hps1007 hps1005; omega) | (clear g1009 hps1007 hps1005; omega) | omega) (by first | exact oq_9cb55c03 hps1011 g1009 hps1007 hps1005 | (clear hps1011 g1009 hps1007 hps1005; omega) | (clear g1009 hps1007 hps1005; omega) | omega)]; exact hq.2.1, by rw [show iI s1015 79 = iI t 79 by first | exact ws1015_79 | (clear hps1011 g1009 hps1007 hps1005; omega) | (clear g1009 hps1007 hps1005; omega) | omega]; exact hq.2.2⟩ (by first | exact ⟨oq_d12e8ac3 vs1015 hi.1, oq_644c4c0f vs1015 hps1011 g1009 hps1007 hps1005, hi.2.2.1, hi.2.2.2.1, And.intro (hi.2.2.2.2.1.1) (hi.2.2.2.2.1.2), oq_e46695f2 hps1011 g1009 hps1007 hps1005 hi.2.2.2.2.2.1, g1013⟩ | omega) (by first | exact qk_me hm (oq_563dee29 vs1015) (oq_780de08e hps1011 g1009 hps1007 hps1005) | omega) kx
        ·
          refine z_ldc X rfl (z_goto X (t := 82) rfl rfl (z_store X (lv' := [(4, .int (Int32.ofInt 100000)), (0, .ref (A 179)), (1, .int (Int32.ofInt xv)), (2, .int (Int32.ofInt yv)), (3, .int (Int32.ofInt bv))]) rfl (by decide) (fun _ h => h) (z_aload_n X (x := A 179) rfl (List.Mem.tail _ (List.Mem.head _)) (w_dup X.1 (ax_d X (show cdA 196 85 = some (.dup, 1, 0, 0, 0) from rfl)) rfl (z_getI X 179 rfl (c518_ok rfl) rfl rfl ?_)))))
          have b1016 := bi_77 I
          refine z_const X rfl (z_add X rfl (s_putI X 179 rfl (c518_ok rfl) rfl rfl (by decide) rfl rfl rfl (wd_gen (fun s1017 hs1017 => ?_))))
          have Is1017 : Bd s1017 := eqB hs1017 (bd_I I (show (0 : Int) ≤ ((iI t 77) + 1) ∧ ((iI t 77) + 1) ≤ 400 by first | exact ⟨oq_54f49eb5 b1016.1, by first | exact oq_8f033a95 hN b1002.2 hi.2.1 p2 | (clear hps1011 g1009 hps1007 hps1005; omega) | (clear g1009 hps1007 hps1005; omega) | omega⟩ | omega) ⟨by first | exact oq_74de1e16 b1016.1 | omega, by first | exact oq_964ce197 b1016.2 | omega⟩)
          have Fs1017 := eqF hs1017 (fm_I F (inl_ok (a := 77) rfl))
          have vs1017 : iI s1017 77 = ((iI t 77) + 1) := eqI hs1017 (iI_u ⟨by first | exact oq_74de1e16 b1016.1 | omega, by first | exact oq_964ce197 b1016.2 | omega⟩)
          have ws1017_75 : iI s1017 75 = iI t 75 := eqI hs1017 rfl
          have ws1017_79 : iI s1017 79 = iI t 79 := eqI hs1017 rfl
          have fs1017 : Fm [77] [] t s1017 := by rw [hs1017]; exact fm_I (fm_rf _ _ _) (show 77 ∈ _ by decide)
          have JFDB_s1017 : FDB B N s1017 := FDB_fm fs1017 (by decide) jjFDB
          refine z_goto X (t := 35) rfl rfl (WS_pq [1, 2, 3, 4, 0] (lv' := [(0, .ref (A 179)), (1, .int (Int32.ofInt xv)), (2, .int (Int32.ofInt yv)), (3, .int (Int32.ofInt bv)), (4, .int (Int32.ofInt 100000))]) rfl ?_)
          exact ih _ xv yv bv 100000 Is1017 Fs1017 JFDB_s1017 ⟨by rw [show iI s1017 77 = iI t 77 + 1 by first | exact vs1017 | (clear hps1011 g1009 hps1007 hps1005; omega) | (clear g1009 hps1007 hps1005; omega) | omega, show 100000 = cap (10 * vv + B (iI t 77).toNat - 48) by unfold cap; split <;> omega, ← nmV_dig (by first | exact oq_a6991198 g1009 hps1007 hps1005 | (clear hps1011 g1009 hps1007 hps1005; omega) | (clear g1009 hps1007 hps1005; omega) | omega) (by first | exact oq_8ec20a9d hps1011 g1009 hps1007 hps1005 | (clear hps1011 g1009 hps1007 hps1005; omega) | (clear g1009 hps1007 hps1005; omega) | omega) (by first | exact oq_9cb55c03 hps1011 g1009 hps1007 hps1005 | (clear hps1011 g1009 hps1007 hps1005; omega) | (clear g1009 hps1007 hps1005; omega) | omega)]; exact hq.1, by rw [show iI s1017 77 = iI t 77 + 1 by first | exact vs1017 | (clear hps1011 g1009 hps1007 hps1005; omega) | (clear g1009 hps1007 hps1005; omega) | omega, show 100000 = cap (10 * vv + B (iI t 77).toNat - 48) by unfold cap; split <;> omega, ← nmE_dig (by first | exact oq_a6991198 g1009 hps1007 hps1005 | (clear hps1011 g1009 hps1007 hps1005; omega) | (clear g1009 hps1007 hps1005; omega) | omega) (by first | exact oq_8ec20a9d hps1011 g1009 hps1007 hps1005 | (clear hps1011 g1009 hps1007 hps1005; omega) | (clear g1009 hps1007 hps1005; omega) | omega) (by first | exact oq_9cb55c03 hps1011 g1009 hps1007 hps1005 | (clear hps1011 g1009 hps1007 hps1005; omega) | (clear g1009 hps1007 hps1005; omega) | omega)]; exact hq.2.1, by rw [show iI s1017 79 = iI t 79 by first | exact ws1017_79 | (clear hps1011 g1009 hps1007 hps1005; omega) | (clear g1009 hps1007 hps1005; omega) | omega]; exact hq.2.2⟩ (by first | exact ⟨oq_d12e8ac3 vs1017 hi.1, oq_644c4c0f vs1017 hps1011 g1009 hps1007 hps1005, hi.2.2.1, hi.2.2.2.1, And.intro (hi.2.2.2.2.1.1) (hi.2.2.2.2.1.2), by decide, by decide⟩ | omega) (by first | exact qk_me hm (oq_563dee29 vs1017) (oq_780de08e hps1011 g1009 hps1007 hps1005) | omega) kx
  refine z_aload_n X (x := A 179) rfl (List.Mem.head _) (zcV_v1 X E 179 (As := []) (st := []) rfl rfl rfl rfl (k_blanks2 G I jFDB (by first | exact p2 | omega)) rfl (Nat.le_of_ble_eq_true rfl) (fun s4 Is4 Fs4 JFDB_s4 hps4 => ?_))
  have hps4p := And.intro hps4.1 (hps4.2.1)
  have Gs4 := fm_tq F Fs4 rfl rfl
  have JFDB_s4 : FDB B N s4 := FDB_fm Fs4 (by decide) jFDB
  have b6 := bi_77 Is4
  have ws4_75 : iI s4 75 = iI s 75 := fm_iq Fs4 rfl
  have ws4_79 : iI s4 79 = iI s 79 := fm_iq Fs4 rfl
  refine z_aload_n X (x := A 179) rfl (List.Mem.head _) (z_getI X 179 rfl (c518_ok rfl) rfl rfl ?_)
  have b7 := bi_77 Is4
  refine z_store_n X (lv' := [(3, .int (Int32.ofInt (iI s4 77))), (0, .ref (A 179)), (1, .int (Int32.ofInt x)), (2, .int (Int32.ofInt y))]) rfl (by decide) (fun _ h => h) (z_const X rfl (z_store X (lv' := [(4, .int (Int32.ofInt 0)), (3, .int (Int32.ofInt (iI s4 77))), (0, .ref (A 179)), (1, .int (Int32.ofInt x)), (2, .int (Int32.ofInt y))]) rfl (by decide) (fun _ h => h) (z_aload_n X (x := A 179) rfl (List.Mem.tail _ (List.Mem.tail _ (List.Mem.head _))) (z_aload_n X (x := A 179) rfl (List.Mem.tail _ (List.Mem.tail _ (List.Mem.head _))) (z_getI X 179 rfl (c518_ok rfl) rfl rfl ?_)))))
  have b8 := bi_77 Is4
  refine z_callV X 179 (rm := rmN 192) (As := [.int (Int32.ofInt (iI s4 77))]) (st := []) rfl rfl (by decide) rfl (by rw [E.1, E.2.1, E.2.2.1]; exact k_byteAt2 G Is4 JFDB_s4 (by first | exact ⟨b8.1, oq_5a8480eb b8.2⟩ | omega)) ⟨by rw [E.2.2.2]; exact (show (rmN 192).frames + 1 ≤ (rmN 196).frames by decide), by rw [E.2.2.2]; exact (show 8 + (mNL (miB 192) + 11) + (rmN 192).locals ≤ (rmN 196).locals by decide), by rw [E.2.2.2]; exact (show 0 + (rmN 192).cells ≤ (rmN 196).cells by decide), by rw [E.2.2.2]; exact (show 0 + (rmN 192).slots ≤ (rmN 196).slots by decide)⟩ (Nat.le_of_ble_eq_true rfl) (fun vv s9 hq => ?_) (fun ee s9 hq => ?_)
  rotate_left
  · obtain ⟨rfl, e10, hv, hrs9, hps9⟩ := hq; cases hv
  obtain ⟨rfl, e10, hv, hrs9, hps9⟩ := hq
  cases hv
  show WS k 20 [(4, .int (Int32.ofInt 0)), (3, .int (Int32.ofInt (iI s4 77))), (0, .ref (A 179)), (1, .int (Int32.ofInt x)), (2, .int (Int32.ofInt y))] [.int (Int32.ofInt e10)] (Wd A dT s4) 0 0
  refine z_callS X (rm := rmN 195) (As := [.int (Int32.ofInt e10)]) (st := []) rfl rfl (by rw [E.1, E.2.1, E.2.2.1]; exact k_isDigit2 G Is4 (by first | exact ⟨oq_1b38bc36 hps9, oq_eabbb498 hps9⟩ | omega)) ⟨by rw [E.2.2.2]; exact (show (rmN 195).frames + 1 ≤ (rmN 196).frames by decide), by rw [E.2.2.2]; exact (show 8 + (mNL (miB 195) + 11) + (rmN 195).locals ≤ (rmN 196).locals by decide), by rw [E.2.2.2]; exact (show 0 + (rmN 195).cells ≤ (rmN 196).cells by decide), by rw [E.2.2.2]; exact (show 0 + (rmN 195).slots ≤ (rmN 196).slots by decide)⟩ (Nat.le_of_ble_eq_true rfl) (fun vv s11 hq => ?_) (fun ee s11 hq => ?_)
  rotate_left
  · obtain ⟨rfl, e12, hv, hrs11, hps11⟩ := hq; cases hv
  obtain ⟨rfl, e12, hv, hrs11, hps11⟩ := hq
  cases hv
  show WS k 23 [(4, .int (Int32.ofInt 0)), (3, .int (Int32.ofInt (iI s4 77))), (0, .ref (A 179)), (1, .int (Int32.ofInt x)), (2, .int (Int32.ofInt y))] [.int (Int32.ofInt e12)] (Wd A dT s4) 0 0
  refine z_if_ne X (t := 35) rfl rfl hrs11 (fun g13 => ?_) (fun g13 => ?_)
  ·
    refine WS_pq [2, 3, 4, 1, 0] (lv' := [(0, .ref (A 179)), (1, .int (Int32.ofInt x)), (2, .int (Int32.ofInt y)), (3, .int (Int32.ofInt (iI s4 77))), (4, .int (Int32.ofInt 0))]) rfl (L35 ((N - iI s4 77 : Int).toNat + 1) s4 x y (iI s4 77) 0 Is4 Gs4 JFDB_s4 ⟨by rw [show iI s4 77 = sk B N (iI s 77) by first | exact hps4p.1 | (clear g13 hps11 hps9 hps4; omega) | (clear hps11 hps9 hps4; omega) | omega], by rw [show iI s4 77 = sk B N (iI s 77) by first | exact hps4p.1 | (clear g13 hps11 hps9 hps4; omega) | (clear hps11 hps9 hps4; omega) | omega], (by first | exact ndg_y (z := (iI s4 77)) (by first | exact hps4p.1 | (clear g13 hps11 hps9 hps4; omega) | (clear hps11 hps9 hps4; omega) | omega) (by first | exact ws4_79 | (clear g13 hps11 hps9 hps4; omega) | (clear hps11 hps9 hps4; omega) | omega) (by first | exact oq_a6991198 g13 hps11 hps9 | (clear g13 hps11 hps9 hps4; omega) | (clear hps11 hps9 hps4; omega) | omega) (by first | exact oq_9855c2d5 g13 hps11 hps9 | (clear g13 hps11 hps9 hps4; omega) | (clear hps11 hps9 hps4; omega) | omega) (by first | exact oq_2de8c4c0 g13 hps11 hps9 | (clear g13 hps11 hps9 hps4; omega) | (clear hps11 hps9 hps4; omega) | omega) | exact ndg_n (z := (iI s4 77)) (by first | (clear g13 hps11 hps9 hps4; omega) | (clear hps11 hps9 hps4; omega) | omega) (by first | (clear g13 hps11 hps9 hps4; omega) | (clear hps11 hps9 hps4; omega) | omega) (by first | (clear g13 hps11 hps9 hps4; omega) | (clear hps11 hps9 hps4; omega) | omega))⟩ (by first | exact ⟨hps4.2.1, hps4.2.2, by decide, by decide, And.intro (b8.1) (b8.2), by decide, by decide⟩ | exact And.intro (hps4p.2) (And.intro (hps4.2.2) (And.intro (rfl) (And.intro (rfl) (And.intro (And.intro (b6.1) (b6.2)) (And.intro (oq_0fe6b7e2) (oq_844ef9a0)))))) | omega) (Nat.lt_succ_self _) ?_)
    intro s14 x15 Is14 Fs14 JFDB_s14 Qs14 hs14
    have b16 := bi_77 Is14
    have b17 := bi_75 Is14
    have b18 := bi_79 Is14
    have hNs14 := JFDB_s14.2.1
    have hWs14 := JFDB_s14.2.2
    refine z_load X (x := x15) rfl (List.Mem.tail _ (List.Mem.tail _ (List.Mem.tail _ (List.Mem.tail _ (List.Mem.head _))))) (z_load_n X (x := x) rfl (List.Mem.tail _ (List.Mem.head _)) (z_load_n X (x := y) rfl (List.Mem.tail _ (List.Mem.tail _ (List.Mem.head _))) (z_callS X (rm := rmN 188) (As := [.int (Int32.ofInt x15), .int (Int32.ofInt x), .int (Int32.ofInt y)]) (st := []) rfl rfl (by rw [E.1, E.2.1, E.2.2.1]; exact k_in2 G Is14 (by first | exact ⟨oq_fa4e5087 hs14.2.2.2.2.2.1, oq_25953902 hs14.2.2.2.2.2.2⟩ | omega) (by first | exact ⟨p0.1, p0.2⟩ | omega) (by first | exact ⟨p1.1, p1.2⟩ | omega)) ⟨by rw [E.2.2.2]; exact (show (rmN 188).frames + 1 ≤ (rmN 196).frames by decide), by rw [E.2.2.2]; exact (show 8 + (mNL (miB 188) + 11) + (rmN 188).locals ≤ (rmN 196).locals by decide), by rw [E.2.2.2]; exact (show 0 + (rmN 188).cells ≤ (rmN 196).cells by decide), by rw [E.2.2.2]; exact (show 0 + (rmN 188).slots ≤ (rmN 196).slots by decide)⟩ (Nat.le_of_ble_eq_true rfl) (fun vv s19 hq => ?_) (fun ee s19 hq => ?_))))
    rotate_left
    · obtain ⟨rfl, e20, hv, hrs19, hps19⟩ := hq; cases hv
    obtain ⟨rfl, e20, hv, hrs19, hps19⟩ := hq
    cases hv
    show WS k 104 [(0, .ref (A 179)), (1, .int (Int32.ofInt x)), (2, .int (Int32.ofInt y)), (3, .int (Int32.ofInt (iI s4 77))), (4, .int (Int32.ofInt x15))] [.int (Int32.ofInt e20)] (Wd A dT s14) 0 0
    refine z_if_ne X (t := 113) rfl rfl hrs19 (fun g21 => ?_) (fun g21 => ?_)
    ·
      refine z_load X (x := x15) rfl (List.Mem.tail _ (List.Mem.tail _ (List.Mem.tail _ (List.Mem.tail _ (List.Mem.head _))))) ?_
      exact w_iret X.1 q hRt rfl (ax_d X (show cdA 196 115 = some (.ireturn, 1, 0, 0, 0) from rfl)) (Nat.zero_le _) (Nat.zero_le _) ⟨_, rfl, Is14, Fs14, JFDB_s14, x15, rfl, ⟨by first | exact oq_fa4e5087 hs14.2.2.2.2.2.1 | omega, by first | exact oq_25953902 hs14.2.2.2.2.2.2 | omega⟩, ⟨nur_of Qs14.2.2 (by first | exact Qs14.1 | (clear g21 hps19 g13 hps11 hps9 hps4; omega) | (clear hps19 g13 hps11 hps9 hps4; omega) | omega) (by first | exact Qs14.2.1 | (clear g21 hps19 g13 hps11 hps9 hps4; omega) | (clear hps19 g13 hps11 hps9 hps4; omega) | omega) (by first | exact Or.inl ⟨by first | exact oq_2ceb37f9 g21 hps19 | (clear g21 hps19 g13 hps11 hps9 hps4; omega) | (clear hps19 g13 hps11 hps9 hps4; omega) | omega, by first | exact oq_21c6441c g21 hps19 | (clear g21 hps19 g13 hps11 hps9 hps4; omega) | (clear hps19 g13 hps11 hps9 hps4; omega) | omega, by first | exact rfl | (clear g21 hps19 g13 hps11 hps9 hps4; omega) | (clear hps19 g13 hps11 hps9 hps4; omega) | omega⟩ | exact Or.inr ⟨by first | (clear g21 hps19 g13 hps11 hps9 hps4; omega) | (clear hps19 g13 hps11 hps9 hps4; omega) | omega, by first | (clear g21 hps19 g13 hps11 hps9 hps4; omega) | (clear hps19 g13 hps11 hps9 hps4; omega) | omega⟩), by first | exact hs14.1 | omega, by first | exact hs14.2.1 | omega⟩⟩
    ·
      refine z_aload_n X (x := A 179) rfl (List.Mem.head _) (z_const X rfl (z_load_n X (x := (iI s4 77)) rfl (List.Mem.tail _ (List.Mem.tail _ (List.Mem.tail _ (List.Mem.head _)))) (zcV_v0 X E 179 (As := [.int (Int32.ofInt 2), .int (Int32.ofInt (iI s4 77))]) (st := []) rfl rfl rfl rfl (k_wrong2 G Is14 (by first | exact ⟨by decide, by decide⟩ | omega) (by first | exact ⟨oq_ca54ea22 hs14.2.2.2.2.1.1, hs14.2.2.2.2.1.2⟩ | omega)) rfl (Nat.le_of_ble_eq_true rfl) (fun s22 Is22 Fs22 hps22 => ?_))))
      have Gs22 := fm_tq Fs14 Fs22 rfl rfl
      have JFDB_s22 : FDB B N s22 := FDB_fm Fs22 (by decide) JFDB_s14
      have ws22_77 : iI s22 77 = iI s14 77 := fm_iq Fs22 rfl
      have ws22_75 : iI s22 75 = iI s14 75 := fm_iq Fs22 rfl
      have b24 := bi_79 Is22
      refine z_load X (x := x15) rfl (List.Mem.tail _ (List.Mem.tail _ (List.Mem.tail _ (List.Mem.tail _ (List.Mem.head _))))) ?_
      exact w_iret X.1 q hRt rfl (ax_d X (show cdA 196 115 = some (.ireturn, 1, 0, 0, 0) from rfl)) (Nat.zero_le _) (Nat.zero_le _) ⟨_, rfl, Is22, Gs22, JFDB_s22, x15, rfl, ⟨by first | exact oq_fa4e5087 hs14.2.2.2.2.2.1 | omega, by first | exact oq_25953902 hs14.2.2.2.2.2.2 | omega⟩, ⟨nur_of Qs14.2.2 (by first | exact Qs14.1 | (clear hps22 hps19 g13 hps11 hps9 hps4; omega) | (clear hps19 g13 hps11 hps9 hps4; omega) | omega) (by first | exact oq_1aa5be9e ws22_77 Qs14.2.1 | (clear hps22 hps19 g13 hps11 hps9 hps4; omega) | (clear hps19 g13 hps11 hps9 hps4; omega) | omega) (by first | exact Or.inl ⟨by first | (clear hps22 hps19 g13 hps11 hps9 hps4; omega) | (clear hps19 g13 hps11 hps9 hps4; omega) | omega, by first | (clear hps22 hps19 g13 hps11 hps9 hps4; omega) | (clear hps19 g13 hps11 hps9 hps4; omega) | omega, by first | (clear hps22 hps19 g13 hps11 hps9 hps4; omega) | (clear hps19 g13 hps11 hps9 hps4; omega) | omega⟩ | exact Or.inr ⟨by first | exact oq_5a456c6a g21 hps19 | (clear hps22 hps19 g13 hps11 hps9 hps4; omega) | (clear hps19 g13 hps11 hps9 hps4; omega) | omega, by first | exact hps22 | (clear hps22 hps19 g13 hps11 hps9 hps4; omega) | (clear hps19 g13 hps11 hps9 hps4; omega) | omega⟩), by first | exact oq_9272904e ws22_77 hs14.1 | omega, by first | exact oq_26db8f44 ws22_77 hs14.2.1 g13 hps11 hps9 hps4.2.1 | omega⟩⟩
  ·
    refine z_aload_n X (x := A 179) rfl (List.Mem.tail _ (List.Mem.tail _ (List.Mem.head _))) (z_const X rfl (z_aload_n X (x := A 179) rfl (List.Mem.tail _ (List.Mem.tail _ (List.Mem.head _))) (z_getI X 179 rfl (c518_ok rfl) rfl rfl ?_)))
    have b25 := bi_77 Is4
    refine zcV_v0 X E 179 (As := [.int (Int32.ofInt 1), .int (Int32.ofInt (iI s4 77))]) (st := []) rfl rfl rfl rfl (k_wrong2 G Is4 (by first | exact ⟨by decide, by decide⟩ | omega) (by first | exact ⟨oq_ca54ea22 b25.1, b25.2⟩ | omega)) rfl (Nat.le_of_ble_eq_true rfl) (fun s26 Is26 Fs26 hps26 => ?_)
    have Gs26 := fm_tq Gs4 Fs26 rfl rfl
    have JFDB_s26 : FDB B N s26 := FDB_fm Fs26 (by decide) JFDB_s4
    have ws26_77 : iI s26 77 = iI s4 77 := fm_iq Fs26 rfl
    have ws26_75 : iI s26 75 = iI s4 75 := fm_iq Fs26 rfl
    have b28 := bi_79 Is26
    refine WS_pq [2, 3, 4, 1, 0] (lv' := [(0, .ref (A 179)), (1, .int (Int32.ofInt x)), (2, .int (Int32.ofInt y)), (3, .int (Int32.ofInt (iI s4 77))), (4, .int (Int32.ofInt 0))]) rfl (L35 ((N - iI s26 77 : Int).toNat + 1) s26 x y (iI s4 77) 0 Is26 Gs26 JFDB_s26 ⟨by rw [show iI s26 77 = sk B N (iI s 77) by first | exact oq_1aa5be9e ws26_77 hps4p.1 | (clear hps26 hps11 hps9 hps4; omega) | (clear hps11 hps9 hps4; omega) | omega], by rw [show iI s26 77 = sk B N (iI s 77) by first | exact oq_1aa5be9e ws26_77 hps4p.1 | (clear hps26 hps11 hps9 hps4; omega) | (clear hps11 hps9 hps4; omega) | omega], (by first | exact ndg_y (z := (iI s4 77)) (by first | exact hps4p.1 | (clear hps26 hps11 hps9 hps4; omega) | (clear hps11 hps9 hps4; omega) | omega) (by first | (clear hps26 hps11 hps9 hps4; omega) | (clear hps11 hps9 hps4; omega) | omega) (by first | (clear hps26 hps11 hps9 hps4; omega) | (clear hps11 hps9 hps4; omega) | omega) (by first | (clear hps26 hps11 hps9 hps4; omega) | (clear hps11 hps9 hps4; omega) | omega) (by first | (clear hps26 hps11 hps9 hps4; omega) | (clear hps11 hps9 hps4; omega) | omega) | exact ndg_n (z := (iI s4 77)) (by first | exact hps4p.1 | (clear hps26 hps11 hps9 hps4; omega) | (clear hps11 hps9 hps4; omega) | omega) (by first | exact hps26 | (clear hps26 hps11 hps9 hps4; omega) | (clear hps11 hps9 hps4; omega) | omega) (by first | exact oq_408a0309 g13 hps11 hps9 | (clear hps26 hps11 hps9 hps4; omega) | (clear hps11 hps9 hps4; omega) | omega))⟩ (by first | exact ⟨oq_9272904e ws26_77 hps4.2.1, oq_8dc46605 ws26_77 hps4.2.2 hps4.2.1, by decide, by decide, And.intro (b25.1) (b25.2), by decide, by decide⟩ | exact And.intro (oq_9272904e ws26_77 hps4p.2) (And.intro (oq_54dc7758 ws26_77 hps4p.2 hps4.2.2) (And.intro (rfl) (And.intro (rfl) (And.intro (And.intro (b25.1) (b25.2)) (And.intro (oq_0fe6b7e2) (oq_844ef9a0)))))) | omega) (Nat.lt_succ_self _) ?_)
    intro s29 x30 Is29 Fs29 JFDB_s29 Qs29 hs29
    have b31 := bi_77 Is29
    have b32 := bi_75 Is29
    have b33 := bi_79 Is29
    have hNs29 := JFDB_s29.2.1
    have hWs29 := JFDB_s29.2.2
    refine z_load X (x := x30) rfl (List.Mem.tail _ (List.Mem.tail _ (List.Mem.tail _ (List.Mem.tail _ (List.Mem.head _))))) (z_load_n X (x := x) rfl (List.Mem.tail _ (List.Mem.head _)) (z_load_n X (x := y) rfl (List.Mem.tail _ (List.Mem.tail _ (List.Mem.head _))) (z_callS X (rm := rmN 188) (As := [.int (Int32.ofInt x30), .int (Int32.ofInt x), .int (Int32.ofInt y)]) (st := []) rfl rfl (by rw [E.1, E.2.1, E.2.2.1]; exact k_in2 G Is29 (by first | exact ⟨oq_fa4e5087 hs29.2.2.2.2.2.1, oq_25953902 hs29.2.2.2.2.2.2⟩ | omega) (by first | exact ⟨p0.1, p0.2⟩ | omega) (by first | exact ⟨p1.1, p1.2⟩ | omega)) ⟨by rw [E.2.2.2]; exact (show (rmN 188).frames + 1 ≤ (rmN 196).frames by decide), by rw [E.2.2.2]; exact (show 8 + (mNL (miB 188) + 11) + (rmN 188).locals ≤ (rmN 196).locals by decide), by rw [E.2.2.2]; exact (show 0 + (rmN 188).cells ≤ (rmN 196).cells by decide), by rw [E.2.2.2]; exact (show 0 + (rmN 188).slots ≤ (rmN 196).slots by decide)⟩ (Nat.le_of_ble_eq_true rfl) (fun vv s34 hq => ?_) (fun ee s34 hq => ?_))))
    rotate_left
    · obtain ⟨rfl, e35, hv, hrs34, hps34⟩ := hq; cases hv
    obtain ⟨rfl, e35, hv, hrs34, hps34⟩ := hq
    cases hv
    show WS k 104 [(0, .ref (A 179)), (1, .int (Int32.ofInt x)), (2, .int (Int32.ofInt y)), (3, .int (Int32.ofInt (iI s4 77))), (4, .int (Int32.ofInt x30))] [.int (Int32.ofInt e35)] (Wd A dT s29) 0 0
    refine z_if_ne X (t := 113) rfl rfl hrs34 (fun g36 => ?_) (fun g36 => ?_)
    ·
      refine z_load X (x := x30) rfl (List.Mem.tail _ (List.Mem.tail _ (List.Mem.tail _ (List.Mem.tail _ (List.Mem.head _))))) ?_
      exact w_iret X.1 q hRt rfl (ax_d X (show cdA 196 115 = some (.ireturn, 1, 0, 0, 0) from rfl)) (Nat.zero_le _) (Nat.zero_le _) ⟨_, rfl, Is29, Fs29, JFDB_s29, x30, rfl, ⟨by first | exact oq_fa4e5087 hs29.2.2.2.2.2.1 | omega, by first | exact oq_25953902 hs29.2.2.2.2.2.2 | omega⟩, ⟨nur_of Qs29.2.2 (by first | exact Qs29.1 | (clear g36 hps34 hps26 hps11 hps9 hps4; omega) | (clear hps34 hps26 hps11 hps9 hps4; omega) | omega) (by first | exact Qs29.2.1 | (clear g36 hps34 hps26 hps11 hps9 hps4; omega) | (clear hps34 hps26 hps11 hps9 hps4; omega) | omega) (by first | exact Or.inl ⟨by first | exact oq_2ceb37f9 g36 hps34 | (clear g36 hps34 hps26 hps11 hps9 hps4; omega) | (clear hps34 hps26 hps11 hps9 hps4; omega) | omega, by first | exact oq_21c6441c g36 hps34 | (clear g36 hps34 hps26 hps11 hps9 hps4; omega) | (clear hps34 hps26 hps11 hps9 hps4; omega) | omega, by first | exact rfl | (clear g36 hps34 hps26 hps11 hps9 hps4; omega) | (clear hps34 hps26 hps11 hps9 hps4; omega) | omega⟩ | exact Or.inr ⟨by first | (clear g36 hps34 hps26 hps11 hps9 hps4; omega) | (clear hps34 hps26 hps11 hps9 hps4; omega) | omega, by first | (clear g36 hps34 hps26 hps11 hps9 hps4; omega) | (clear hps34 hps26 hps11 hps9 hps4; omega) | omega⟩), by first | exact hs29.1 | omega, by first | exact hs29.2.1 | omega⟩⟩
    ·
      refine z_aload_n X (x := A 179) rfl (List.Mem.head _) (z_const X rfl (z_load_n X (x := (iI s4 77)) rfl (List.Mem.tail _ (List.Mem.tail _ (List.Mem.tail _ (List.Mem.head _)))) (zcV_v0 X E 179 (As := [.int (Int32.ofInt 2), .int (Int32.ofInt (iI s4 77))]) (st := []) rfl rfl rfl rfl (k_wrong2 G Is29 (by first | exact ⟨by decide, by decide⟩ | omega) (by first | exact ⟨oq_ca54ea22 hs29.2.2.2.2.1.1, hs29.2.2.2.2.1.2⟩ | omega)) rfl (Nat.le_of_ble_eq_true rfl) (fun s37 Is37 Fs37 hps37 => ?_))))
      have Gs37 := fm_tq Fs29 Fs37 rfl rfl
      have JFDB_s37 : FDB B N s37 := FDB_fm Fs37 (by decide) JFDB_s29
      have ws37_77 : iI s37 77 = iI s29 77 := fm_iq Fs37 rfl
      have ws37_75 : iI s37 75 = iI s29 75 := fm_iq Fs37 rfl
      have b39 := bi_79 Is37
      refine z_load X (x := x30) rfl (List.Mem.tail _ (List.Mem.tail _ (List.Mem.tail _ (List.Mem.tail _ (List.Mem.head _))))) ?_
      exact w_iret X.1 q hRt rfl (ax_d X (show cdA 196 115 = some (.ireturn, 1, 0, 0, 0) from rfl)) (Nat.zero_le _) (Nat.zero_le _) ⟨_, rfl, Is37, Gs37, JFDB_s37, x30, rfl, ⟨by first | exact oq_fa4e5087 hs29.2.2.2.2.2.1 | omega, by first | exact oq_25953902 hs29.2.2.2.2.2.2 | omega⟩, ⟨nur_of Qs29.2.2 (by first | exact Qs29.1 | (clear hps37 hps34 hps26 hps11 hps9 hps4; omega) | (clear hps34 hps26 hps11 hps9 hps4; omega) | omega) (by first | exact oq_1aa5be9e ws37_77 Qs29.2.1 | (clear hps37 hps34 hps26 hps11 hps9 hps4; omega) | (clear hps34 hps26 hps11 hps9 hps4; omega) | omega) (by first | exact Or.inl ⟨by first | (clear hps37 hps34 hps26 hps11 hps9 hps4; omega) | (clear hps34 hps26 hps11 hps9 hps4; omega) | omega, by first | (clear hps37 hps34 hps26 hps11 hps9 hps4; omega) | (clear hps34 hps26 hps11 hps9 hps4; omega) | omega, by first | (clear hps37 hps34 hps26 hps11 hps9 hps4; omega) | (clear hps34 hps26 hps11 hps9 hps4; omega) | omega⟩ | exact Or.inr ⟨by first | exact oq_5a456c6a g36 hps34 | (clear hps37 hps34 hps26 hps11 hps9 hps4; omega) | (clear hps34 hps26 hps11 hps9 hps4; omega) | omega, by first | exact hps37 | (clear hps37 hps34 hps26 hps11 hps9 hps4; omega) | (clear hps34 hps26 hps11 hps9 hps4; omega) | omega⟩), by first | exact oq_9272904e ws37_77 hs29.1 | omega, by first | exact oq_8dc46605 ws37_77 hs29.2.1 hs29.1 | omega⟩⟩
set_option maxRecDepth 4000 in
theorem k_isTold2 (G : GX l s0 D tys a0 dT) (I : Bd s) {x : Int} (p0 : rng x) : CT l s0 D A dT 198 (rmN 198) [.ref (A 179), .int (Int32.ofInt x)] s (fun o t => Bd t ∧ Fm [] [] s t ∧ ∃ e, o = .inl (some (.int (Int32.ofInt e))) ∧ rng e ∧ ((e = 1 ∧ HAS 165 (iI s 91) x s) ∨ (e = 0 ∧ NHS 165 (iI s 91) x s))) := by
  refine ct_of G (by decide) (Nat.le_of_ble_eq_true rfl) (fun k X E hRt hXt q => ?_)
  show WS k 0 [(0, .ref (A 179)), (1, .int (Int32.ofInt x))] [] _ 0 0
  have F : Fm [] [] s s := fm_rf _ _ s
  have aw0_165 : SAM 165 s s := sam_rf
  have b1 := bi_91 I
  have L2 : ∀ (n : Nat) (t : PS) (x1 c : Int), Bd t → Fm [] [] s t → (NHS 165 c x1 s) → (x1 = x ∧ rng x1 ∧ 0 ≤ c ∧ c ≤ 24 ∧ iI t 91 = iI s 91) → (24 - c : Int).toNat < n → (∀ (t' : PS) (c' : Int), Bd t' → Fm [] [] s t' → (NHS 165 c' x1 s) → (iI s 91 ≤ c') → WS k 28 [(0, .ref (A 179)), (1, .int (Int32.ofInt x1)), (2, .int (Int32.ofInt c'))] [] (Wd A dT t') 0 0) → WS k 2 [(0, .ref (A 179)), (1, .int (Int32.ofInt x1)), (2, .int (Int32.ofInt c))] [] (Wd A dT t) 0 0 := by
    intro n
    induction n with
    | zero =>
      intro t x1 c I F hq hi hm kx
      exact absurd hm (Nat.not_lt_zero _)
    | succ n ih =>
      intro t x1 c I F hq hi hm kx
      have b1001 := bi_91 I
      refine z_load_n X (x := c) rfl (List.Mem.tail _ (List.Mem.tail _ (List.Mem.head _))) (z_aload_n X (x := A 179) rfl (List.Mem.head _) (z_getI X 179 rfl (c518_ok rfl) rfl rfl ?_))
      have b1002 := bi_91 I
      refine z_icmp_ge X (t := 28) rfl rfl ⟨by first | exact oq_fa4e5087 hi.2.2.1 | omega, by first | exact oq_5bcd337f hi.2.2.2.1 | omega⟩ (rng_to _) (fun g1003 => ?_) (fun g1003 => ?_)
      ·
        refine WS_pq [0, 1, 2] (lv' := [(0, .ref (A 179)), (1, .int (Int32.ofInt x1)), (2, .int (Int32.ofInt c))]) rfl ?_
        exact kx _ c I F hq (by first | exact oq_acf76229 g1003 hi.2.2.2.2 | omega)
      ·
        refine z_aload_n X (x := A 179) rfl (List.Mem.head _) (s_getR X 179 rfl (c518_ok rfl) rfl rfl (z_load_n X (x := c) rfl (List.Mem.tail _ (List.Mem.tail _ (List.Mem.head _))) (z_ald X 188 rfl (c518_ok rfl) rfl (by first | exact hi.2.2.1 | omega) (show c < 24 by first | exact oq_8ff7beb9 g1003 b1002.2 | omega) (cbig_ok rfl) ?_)))
        have b1004 := bc_165 I (show (c).toNat < 24 by first | exact oq_9e668fc9 g1003 b1002.2 | omega)
        have ar1005 : iC t 165 (c).toNat = iC s 165 (c).toNat := (sam_fm F (by decide)) _
        refine z_load_n X (x := x1) rfl (List.Mem.tail _ (List.Mem.head _)) (z_icmp_ne X (t := 22) rfl rfl (rng_to _) ⟨by first | exact hi.2.1.1 | omega, by first | exact hi.2.1.2 | omega⟩ (fun g1006 => ?_) (fun g1006 => ?_))
        ·
          refine z_inc X (x := c) (lv' := [(2, .int (Int32.ofInt (c + 1))), (0, .ref (A 179)), (1, .int (Int32.ofInt x1))]) rfl (by decide) (List.Mem.tail _ (List.Mem.tail _ (List.Mem.head _))) (fun _ h => h) (z_goto X (t := 2) rfl rfl (WS_pq [1, 2, 0] (lv' := [(0, .ref (A 179)), (1, .int (Int32.ofInt x1)), (2, .int (Int32.ofInt (c + 1)))]) rfl ?_))
          exact ih _ x1 (c + 1) I F (nhs_up hq (by first | exact hi.2.2.1 | (clear g1006; omega) | omega) (by first | exact oq_fdab8905 g1006 ar1005 | (clear g1006; omega) | omega)) (by first | exact ⟨hi.1, And.intro (hi.2.1.1) (hi.2.1.2), oq_54f49eb5 hi.2.2.1, oq_41473be0 g1003 b1002.2, hi.2.2.2.2⟩ | omega) (by first | exact qk_me hm (by decide) (oq_9dea93e6 g1003 b1002.2) | exact oq_a3f4dfcf g1003 hm hi.2.2.2.2 b1.2 | omega) kx
        ·
          refine z_const X rfl ?_
          exact w_iret X.1 q hRt (nar_ret (by first | exact Or.inr (by decide) | omega)) (ax_d X (show cdA 198 21 = some (.ireturn, 1, 0, 0, 0) from rfl)) (Nat.zero_le _) (Nat.zero_le _) ⟨_, rfl, I, F, 1, rfl, (by decide), Or.inl ⟨by decide, hs_of c (by first | exact hi.2.2.1 | omega) (by first | exact oq_9d1a6c71 g1003 hi.2.2.2.2 | omega) (by first | exact oq_18cd9504 g1006 ar1005 hi.1 | omega)⟩⟩
  refine z_const X rfl (z_store_n X (lv' := [(2, .int (Int32.ofInt 0)), (0, .ref (A 179)), (1, .int (Int32.ofInt x))]) rfl (by decide) (fun _ h => h) (WS_pq [1, 2, 0] (lv' := [(0, .ref (A 179)), (1, .int (Int32.ofInt x)), (2, .int (Int32.ofInt 0))]) rfl (L2 ((24 - 0 : Int).toNat + 1) s x 0 I F nhs_0 (by first | exact ⟨by decide, And.intro (p0.1) (p0.2), by decide, by decide, by decide⟩ | exact And.intro (rfl) (And.intro (And.intro (p0.1) (p0.2)) (And.intro (oq_0fe6b7e2) (And.intro (oq_60c9248f) (rfl)))) | omega) (Nat.lt_succ_self _) ?_)))
  intro s2 x3 Is2 Fs2 Qs2 hs2
  have b4 := bi_91 Is2
  refine z_const X rfl ?_
  exact w_iret X.1 q hRt (nar_ret (by first | exact Or.inl (by decide) | omega)) (ax_d X (show cdA 198 29 = some (.ireturn, 1, 0, 0, 0) from rfl)) (Nat.zero_le _) (Nat.zero_le _) ⟨_, rfl, Is2, Fs2, 0, rfl, (by decide), Or.inr ⟨by decide, nhs_le Qs2 (by first | exact hs2 | omega)⟩⟩
set_option maxRecDepth 4000 in
theorem k_beside2 (G : GX l s0 D tys a0 dT) (I : Bd s) {x y : Int} (p0 : 0 ≤ x ∧ x ≤ 127) (p1 : 0 ≤ y ∧ y ≤ 5) : CT l s0 D A dT 190 (rmN 190) [.int (Int32.ofInt x), .int (Int32.ofInt y)] s (fun o t => s = t ∧ ∃ e, o = .inl (some (.int (Int32.ofInt e))) ∧ rng e ∧ (e = besT x y ∧ -1 ≤ e ∧ e ≤ 127)) := by
  refine ct_of G (by decide) (Nat.le_of_ble_eq_true rfl) (fun k X E hRt hXt q => ?_)
  show WS k 0 [(0, .int (Int32.ofInt x)), (1, .int (Int32.ofInt y))] [] _ 0 0
  have F : Fm [] [] s s := fm_rf _ _ s
  refine z_load_n X (x := x) rfl (List.Mem.head _) (z_bipush X rfl (z_mod X rfl (by first | exact p0.1 | omega) ⟨by first | exact oq_fa4e5087 p0.1 | omega, by first | exact oq_07d346ce p0.2 | omega⟩ (by decide) (by decide) (z_store_n X (lv' := [(2, .int (Int32.ofInt (x % 8))), (0, .int (Int32.ofInt x)), (1, .int (Int32.ofInt y))]) rfl (by decide) (fun _ h => h) (z_load_n X (x := x) rfl (List.Mem.tail _ (List.Mem.head _)) (z_bipush X rfl (z_quot X rfl (by first | exact p0.1 | omega) ⟨by first | exact oq_fa4e5087 p0.1 | omega, by first | exact oq_07d346ce p0.2 | omega⟩ (by decide) (by decide) (z_bipush X rfl (z_mod X rfl (by first | exact oq_064ec12a p0.1 | omega) ⟨by first | exact oq_e9761868 p0.1 | omega, by first | exact oq_9e7a8b87 p0.2 | omega⟩ (by decide) (by decide) (z_store_n X (lv' := [(3, .int (Int32.ofInt ((x / 8) % 8))), (2, .int (Int32.ofInt (x % 8))), (0, .int (Int32.ofInt x)), (1, .int (Int32.ofInt y))]) rfl (by decide) (fun _ h => h) (z_load_n X (x := x) rfl (List.Mem.tail _ (List.Mem.tail _ (List.Mem.head _))) (z_bipush X rfl ?_)))))))))))
  refine z_quot X rfl (by first | exact p0.1 | omega) ⟨by first | exact oq_fa4e5087 p0.1 | omega, by first | exact oq_07d346ce p0.2 | omega⟩ (by decide) (by decide) (z_store X (lv' := [(4, .int (Int32.ofInt (x / 64))), (3, .int (Int32.ofInt ((x / 8) % 8))), (2, .int (Int32.ofInt (x % 8))), (0, .int (Int32.ofInt x)), (1, .int (Int32.ofInt y))]) rfl (by decide) (fun _ h => h) (z_load_n X (x := y) rfl (List.Mem.tail _ (List.Mem.tail _ (List.Mem.tail _ (List.Mem.tail _ (List.Mem.head _))))) ?_))
  rcases (show y = 0 ∨ y = 1 ∨ y = 2 ∨ y = 3 ∨ y = 4 ∨ y = 5 by first | exact oq_a7961805 p1.2 p1.1 | omega) with gs | gs | gs | gs | gs | gs
  ·
    rw [gs]
    refine w_tabIn X.1 (dflt := 105) (lo := 0) (hi := 4) (offs := #[36, 50, 62, 77, 90]) (len := 36) (off := 36) (t := 56) (ax_d X (show cdA 190 20 = some (.tableswitch 105 0 4 #[36, 50, 62, 77, 90], 36, 0, 0, 0) from rfl)) (by decide) (by decide) (by decide) (by decide) (z_load_n X (x := (x % 8)) rfl (List.Mem.tail _ (List.Mem.tail _ (List.Mem.head _))) (z_bipush X rfl ?_))
    have N1 : ∀ e2 : Int, ((((x % 8) ≠ 7) ∧ e2 = (x + 1)) ∨ (((x % 8) = 7) ∧ e2 = (-1))) → WS k 69 [(4, .int (Int32.ofInt (x / 64))), (3, .int (Int32.ofInt ((x / 8) % 8))), (2, .int (Int32.ofInt (x % 8))), (0, .int (Int32.ofInt x)), (1, .int (Int32.ofInt 0))] [.int (Int32.ofInt e2)] (Wd A dT s) 0 0 := by
      intro e2 he2
      exact w_iret X.1 q hRt rfl (ax_d X (show cdA 190 69 = some (.ireturn, 1, 0, 0, 0) from rfl)) (Nat.zero_le _) (Nat.zero_le _) ⟨_, rfl, rfl, e2, rfl, ⟨by first | exact oq_65317318 he2 p0.1 | omega, by first | exact oq_2ebfdaed he2 p0.2 | omega⟩, ⟨bes_of ⟨Or.inl ⟨gs, by first | exact oq_3fb6b19c he2 | (clear he2; omega) | omega⟩, by first | exact oq_bb285237 he2 p0.1 | (clear he2; omega) | omega, by first | exact oq_e9a7177c he2 p0.2 | (clear he2; omega) | omega⟩, by first | exact oq_bb285237 he2 p0.1 | omega, by first | exact oq_e9a7177c he2 p0.2 | (clear he2; omega) | omega⟩⟩
    refine z_icmp_ne X (t := 66) rfl rfl ⟨by first | exact oq_e86162eb | omega, by first | exact oq_70086759 | omega⟩ (by decide) (fun g3 => ?_) (fun g3 => ?_)
    ·
      exact z_load_n X (x := x) rfl (List.Mem.tail _ (List.Mem.tail _ (List.Mem.tail _ (List.Mem.head _)))) (z_const X rfl (z_add X rfl (N1 _ (Or.inl ⟨g3, rfl⟩))))
    ·
      exact z_const X rfl (z_goto X (t := 69) rfl rfl (N1 _ (Or.inr (⟨g3, rfl⟩))))
  ·
    rw [gs]
    refine w_tabIn X.1 (dflt := 105) (lo := 0) (hi := 4) (offs := #[36, 50, 62, 77, 90]) (len := 36) (off := 50) (t := 70) (ax_d X (show cdA 190 20 = some (.tableswitch 105 0 4 #[36, 50, 62, 77, 90], 36, 0, 0, 0) from rfl)) (by decide) (by decide) (by decide) (by decide) (z_load_n X (x := (x % 8)) rfl (List.Mem.tail _ (List.Mem.tail _ (List.Mem.head _))) ?_)
    have N4 : ∀ e5 : Int, ((((x % 8) ≠ 0) ∧ e5 = (x - 1)) ∨ (((x % 8) = 0) ∧ e5 = (-1))) → WS k 81 [(4, .int (Int32.ofInt (x / 64))), (3, .int (Int32.ofInt ((x / 8) % 8))), (2, .int (Int32.ofInt (x % 8))), (0, .int (Int32.ofInt x)), (1, .int (Int32.ofInt 1))] [.int (Int32.ofInt e5)] (Wd A dT s) 0 0 := by
      intro e5 he5
      exact w_iret X.1 q hRt rfl (ax_d X (show cdA 190 81 = some (.ireturn, 1, 0, 0, 0) from rfl)) (Nat.zero_le _) (Nat.zero_le _) ⟨_, rfl, rfl, e5, rfl, ⟨by first | exact oq_df67f89d he5 p0.1 | omega, by first | exact oq_7f998bdb he5 p0.2 | omega⟩, ⟨bes_of ⟨Or.inr (Or.inl ⟨gs, by first | exact oq_5b6a57a1 he5 | (clear he5; omega) | omega⟩), by first | exact oq_53d086ff he5 p0.1 | (clear he5; omega) | omega, by first | exact oq_162ebe1b he5 p0.2 | (clear he5; omega) | omega⟩, by first | exact oq_53d086ff he5 p0.1 | omega, by first | exact oq_162ebe1b he5 p0.2 | omega⟩⟩
    refine z_if_ne X (t := 78) rfl rfl ⟨by first | exact oq_e86162eb | omega, by first | exact oq_70086759 | omega⟩ (fun g6 => ?_) (fun g6 => ?_)
    ·
      exact z_load_n X (x := x) rfl (List.Mem.tail _ (List.Mem.tail _ (List.Mem.tail _ (List.Mem.head _)))) (z_const X rfl (z_sub X rfl (N4 _ (Or.inl ⟨g6, rfl⟩))))
    ·
      exact z_const X rfl (z_goto X (t := 81) rfl rfl (N4 _ (Or.inr (⟨g6, rfl⟩))))
  ·
    rw [gs]
    refine w_tabIn X.1 (dflt := 105) (lo := 0) (hi := 4) (offs := #[36, 50, 62, 77, 90]) (len := 36) (off := 62) (t := 82) (ax_d X (show cdA 190 20 = some (.tableswitch 105 0 4 #[36, 50, 62, 77, 90], 36, 0, 0, 0) from rfl)) (by decide) (by decide) (by decide) (by decide) (z_load_n X (x := ((x / 8) % 8)) rfl (List.Mem.tail _ (List.Mem.head _)) (z_bipush X rfl ?_))
    have N7 : ∀ e8 : Int, (((((x / 8) % 8) ≠ 7) ∧ e8 = (x + 8)) ∨ ((((x / 8) % 8) = 7) ∧ e8 = (-1))) → WS k 96 [(4, .int (Int32.ofInt (x / 64))), (3, .int (Int32.ofInt ((x / 8) % 8))), (2, .int (Int32.ofInt (x % 8))), (0, .int (Int32.ofInt x)), (1, .int (Int32.ofInt 2))] [.int (Int32.ofInt e8)] (Wd A dT s) 0 0 := by
      intro e8 he8
      exact w_iret X.1 q hRt rfl (ax_d X (show cdA 190 96 = some (.ireturn, 1, 0, 0, 0) from rfl)) (Nat.zero_le _) (Nat.zero_le _) ⟨_, rfl, rfl, e8, rfl, ⟨by first | exact oq_3827edd4 he8 p0.1 | omega, by first | exact oq_5c62bb30 he8 p0.2 | omega⟩, ⟨bes_of ⟨Or.inr (Or.inr (Or.inl ⟨gs, by first | exact oq_aef22ce3 he8 | (clear he8; omega) | omega⟩)), by first | exact oq_595830be he8 p0.1 | (clear he8; omega) | omega, by first | exact oq_1023ce0a he8 p0.2 | (clear he8; omega) | omega⟩, by first | exact oq_595830be he8 p0.1 | omega, by first | exact oq_1023ce0a he8 p0.2 | (clear he8; omega) | omega⟩⟩
    refine z_icmp_ne X (t := 92) rfl rfl ⟨by first | exact oq_452e8fda | omega, by first | exact oq_267eaf70 | omega⟩ (by decide) (fun g9 => ?_) (fun g9 => ?_)
    ·
      exact z_load_n X (x := x) rfl (List.Mem.tail _ (List.Mem.tail _ (List.Mem.tail _ (List.Mem.head _)))) (z_bipush X rfl (z_add X rfl (N7 _ (Or.inl ⟨g9, rfl⟩))))
    ·
      exact z_const X rfl (z_goto X (t := 96) rfl rfl (N7 _ (Or.inr (⟨g9, rfl⟩))))
  ·
    rw [gs]
    refine w_tabIn X.1 (dflt := 105) (lo := 0) (hi := 4) (offs := #[36, 50, 62, 77, 90]) (len := 36) (off := 77) (t := 97) (ax_d X (show cdA 190 20 = some (.tableswitch 105 0 4 #[36, 50, 62, 77, 90], 36, 0, 0, 0) from rfl)) (by decide) (by decide) (by decide) (by decide) (z_load_n X (x := ((x / 8) % 8)) rfl (List.Mem.tail _ (List.Mem.head _)) ?_)
    have N10 : ∀ e11 : Int, (((((x / 8) % 8) ≠ 0) ∧ e11 = (x - 8)) ∨ ((((x / 8) % 8) = 0) ∧ e11 = (-1))) → WS k 109 [(4, .int (Int32.ofInt (x / 64))), (3, .int (Int32.ofInt ((x / 8) % 8))), (2, .int (Int32.ofInt (x % 8))), (0, .int (Int32.ofInt x)), (1, .int (Int32.ofInt 3))] [.int (Int32.ofInt e11)] (Wd A dT s) 0 0 := by
      intro e11 he11
      exact w_iret X.1 q hRt rfl (ax_d X (show cdA 190 109 = some (.ireturn, 1, 0, 0, 0) from rfl)) (Nat.zero_le _) (Nat.zero_le _) ⟨_, rfl, rfl, e11, rfl, ⟨by first | exact oq_53853fa1 he11 p0.1 | omega, by first | exact oq_82f5c072 he11 p0.2 | omega⟩, ⟨bes_of ⟨Or.inr (Or.inr (Or.inr (Or.inl ⟨gs, by first | exact oq_a05c7f98 he11 | (clear he11; omega) | omega⟩))), by first | exact oq_5738a837 he11 p0.1 | (clear he11; omega) | omega, by first | exact oq_c6958ea2 he11 p0.2 | (clear he11; omega) | omega⟩, by first | exact oq_5738a837 he11 p0.1 | (clear he11; omega) | omega, by first | exact oq_c6958ea2 he11 p0.2 | omega⟩⟩
    refine z_if_ne X (t := 105) rfl rfl ⟨by first | exact oq_452e8fda | omega, by first | exact oq_267eaf70 | omega⟩ (fun g12 => ?_) (fun g12 => ?_)
    ·
      exact z_load_n X (x := x) rfl (List.Mem.tail _ (List.Mem.tail _ (List.Mem.tail _ (List.Mem.head _)))) (z_bipush X rfl (z_sub X rfl (N10 _ (Or.inl ⟨g12, rfl⟩))))
    ·
      exact z_const X rfl (z_goto X (t := 109) rfl rfl (N10 _ (Or.inr (⟨g12, rfl⟩))))
  ·
    rw [gs]
    refine w_tabIn X.1 (dflt := 105) (lo := 0) (hi := 4) (offs := #[36, 50, 62, 77, 90]) (len := 36) (off := 90) (t := 110) (ax_d X (show cdA 190 20 = some (.tableswitch 105 0 4 #[36, 50, 62, 77, 90], 36, 0, 0, 0) from rfl)) (by decide) (by decide) (by decide) (by decide) (z_load X (x := (x / 64)) rfl (List.Mem.head _) (z_const X rfl ?_))
    have N13 : ∀ e14 : Int, ((((x / 64) ≠ 1) ∧ e14 = (x + 64)) ∨ (((x / 64) = 1) ∧ e14 = (-1))) → WS k 124 [(4, .int (Int32.ofInt (x / 64))), (3, .int (Int32.ofInt ((x / 8) % 8))), (2, .int (Int32.ofInt (x % 8))), (0, .int (Int32.ofInt x)), (1, .int (Int32.ofInt 4))] [.int (Int32.ofInt e14)] (Wd A dT s) 0 0 := by
      intro e14 he14
      exact w_iret X.1 q hRt rfl (ax_d X (show cdA 190 124 = some (.ireturn, 1, 0, 0, 0) from rfl)) (Nat.zero_le _) (Nat.zero_le _) ⟨_, rfl, rfl, e14, rfl, ⟨by first | exact oq_dec29307 he14 p0.1 | omega, by first | exact oq_dc234b30 he14 p0.2 | omega⟩, ⟨bes_of ⟨Or.inr (Or.inr (Or.inr (Or.inr (Or.inl ⟨gs, by first | exact oq_53fad64c he14 | (clear he14; omega) | omega⟩)))), by first | exact oq_ef6a2c96 he14 p0.1 | (clear he14; omega) | omega, by first | exact oq_3dcb4c51 he14 p0.2 | (clear he14; omega) | omega⟩, by first | exact oq_ef6a2c96 he14 p0.1 | omega, by first | exact oq_3dcb4c51 he14 p0.2 | omega⟩⟩
    refine z_icmp_ne X (t := 120) rfl rfl ⟨by first | exact oq_e5b8e207 p0.1 | omega, by first | exact oq_874c0b28 p0.2 | omega⟩ (by decide) (fun g15 => ?_) (fun g15 => ?_)
    ·
      exact z_load_n X (x := x) rfl (List.Mem.tail _ (List.Mem.tail _ (List.Mem.tail _ (List.Mem.head _)))) (z_bipush X rfl (z_add X rfl (N13 _ (Or.inl ⟨g15, rfl⟩))))
    ·
      exact z_const X rfl (z_goto X (t := 124) rfl rfl (N13 _ (Or.inr (⟨g15, rfl⟩))))
  ·
    rw [gs]
    refine w_tabOut X.1 (dflt := 105) (lo := 0) (hi := 4) (offs := #[36, 50, 62, 77, 90]) (len := 36) (t := 125) (ax_d X (show cdA 190 20 = some (.tableswitch 105 0 4 #[36, 50, 62, 77, 90], 36, 0, 0, 0) from rfl)) (by decide) (by decide) (z_load X (x := (x / 64)) rfl (List.Mem.head _) ?_)
    have N16 : ∀ e17 : Int, ((((x / 64) ≠ 0) ∧ e17 = (x - 64)) ∨ (((x / 64) = 0) ∧ e17 = (-1))) → WS k 138 [(4, .int (Int32.ofInt (x / 64))), (3, .int (Int32.ofInt ((x / 8) % 8))), (2, .int (Int32.ofInt (x % 8))), (0, .int (Int32.ofInt x)), (1, .int (Int32.ofInt 5))] [.int (Int32.ofInt e17)] (Wd A dT s) 0 0 := by
      intro e17 he17
      exact w_iret X.1 q hRt rfl (ax_d X (show cdA 190 138 = some (.ireturn, 1, 0, 0, 0) from rfl)) (Nat.zero_le _) (Nat.zero_le _) ⟨_, rfl, rfl, e17, rfl, ⟨by first | exact oq_4c7d79ae he17 p0.1 | omega, by first | exact oq_47817d89 he17 p0.2 | omega⟩, ⟨bes_of ⟨Or.inr (Or.inr (Or.inr (Or.inr (Or.inr (⟨gs, by first | exact oq_76e15fc8 he17 | (clear he17; omega) | omega⟩))))), by first | exact oq_7252d58d he17 p0.1 | (clear he17; omega) | omega, by first | exact oq_3527817e he17 p0.2 | (clear he17; omega) | omega⟩, by first | exact oq_7252d58d he17 p0.1 | omega, by first | exact oq_3527817e he17 p0.2 | omega⟩⟩
    refine z_if_ne X (t := 134) rfl rfl ⟨by first | exact oq_e5b8e207 p0.1 | omega, by first | exact oq_874c0b28 p0.2 | omega⟩ (fun g18 => ?_) (fun g18 => ?_)
    ·
      exact z_load_n X (x := x) rfl (List.Mem.tail _ (List.Mem.tail _ (List.Mem.tail _ (List.Mem.head _)))) (z_bipush X rfl (z_sub X rfl (N16 _ (Or.inl ⟨g18, rfl⟩))))
    ·
      exact z_const X rfl (z_goto X (t := 138) rfl rfl (N16 _ (Or.inr (⟨g18, rfl⟩))))
set_option maxRecDepth 4000 in
theorem k_move2 (G : GX l s0 D tys a0 dT) {B : Nat → Int} {N : Int} {a : WyA} (hA : AGx 165 91 a s) (ha : 1 ≤ a.1 ∧ a.1 ≤ 24) (I : Bd s) (jTD : TD s) (jFDB : FDB B N s) (p0 : iI s 77 ≤ 380) (p1 : iI s 77 < N) (p2 : iI s 79 = 0) : CT l s0 D A dT 199 (rmN 199) [.ref (A 179)] s (fun o t => Bd t ∧ Fm [77, 79, 80, 91] [165] s t ∧ TD t ∧ FDB B N t ∧ o = .inl none ∧ (iI s 77 ≤ iI t 77 ∧ (iI t 77 ≤ iI s 77 + 1 ∨ iI t 77 ≤ N) ∧ 1 ≤ iI t 91 ∧ (iI t 79 ≠ 0 ∨ iI s 77 < iI t 77) ∧ ((iI t 79 = 0 ∧ MMR B N (iI s 77) a t) ∨ (iI t 79 ≠ 0 ∧ mvT B N (iI s 77) a = none)))) := by
  refine ct_of G (by decide) (Nat.le_of_ble_eq_true rfl) (fun k X E hRt hXt q => ?_)
  show WS k 0 [(0, .ref (A 179))] [] _ 0 0
  have F : Fm [77, 79, 80, 91] [165] s s := fm_rf _ _ s
  have aw0_165 : SAM 165 s s := sam_rf
  have hN := jFDB.2.1
  have hW := jFDB.2.2
  have hA0 := hA.1
  have b1 := bi_77 I
  have b2 := bi_75 I
  have b3 := bi_79 I
  have b4 := bi_91 I
  have L140 : ∀ (n : Nat) (t : PS) (lt stp tm kk : Int), Bd t → Fm [77, 79, 80, 91] [165] s t → TD t → FDB B N t → (MMQ B N (iI s 77) a stp tm kk t) → ((0 ≤ lt ∧ lt ≤ 400) ∧ (0 ≤ stp ∧ stp ≤ 5) ∧ 0 ≤ tm ∧ tm ≤ 100000 ∧ 0 ≤ kk ∧ kk ≤ 100000 ∧ 1 ≤ iI t 91 ∧ iI s 77 ≤ iI t 77 ∧ (iI t 77 ≤ iI s 77 + 1 ∨ iI t 77 ≤ N)) → (tm - kk : Int).toNat < n → (∀ (t' : PS) (kk' : Int), Bd t' → Fm [77, 79, 80, 91] [165] s t' → TD t' → FDB B N t' → (MMQ B N (iI s 77) a stp tm kk' t') → ((tm ≤ kk' ∨ iI t' 79 ≠ 0) ∧ 1 ≤ iI t' 91 ∧ iI s 77 ≤ iI t' 77 ∧ (iI t' 77 ≤ iI s 77 + 1 ∨ iI t' 77 ≤ N)) → WS k 245 [(0, .ref (A 179)), (1, .int (Int32.ofInt lt)), (3, .int (Int32.ofInt stp)), (4, .int (Int32.ofInt tm)), (5, .int (Int32.ofInt kk'))] [] (Wd A dT t') 0 0) → WS k 140 [(0, .ref (A 179)), (1, .int (Int32.ofInt lt)), (3, .int (Int32.ofInt stp)), (4, .int (Int32.ofInt tm)), (5, .int (Int32.ofInt kk))] [] (Wd A dT t) 0 0 := by
    intro n
    induction n with
    | zero =>
      intro t lt stp tm kk I F jjTD jjFDB hq hi hm kx
      exact absurd hm (Nat.not_lt_zero _)
    | succ n ih =>
      intro t lt stp tm kk I F jjTD jjFDB hq hi hm kx
      have b1001 := bi_77 I
      have b1002 := bi_75 I
      have b1003 := bi_79 I
      have b1004 := bi_91 I
      have hN := jjFDB.2.1
      have hW := jjFDB.2.2
      refine z_load X (x := kk) rfl (List.Mem.tail _ (List.Mem.tail _ (List.Mem.tail _ (List.Mem.tail _ (List.Mem.head _))))) (z_load X (x := tm) rfl (List.Mem.tail _ (List.Mem.tail _ (List.Mem.tail _ (List.Mem.head _)))) (z_icmp_ge X (t := 245) rfl rfl ⟨by first | exact oq_fa4e5087 hi.2.2.2.2.1 | omega, by first | exact oq_25953902 hi.2.2.2.2.2.1 | omega⟩ ⟨by first | exact oq_fa4e5087 hi.2.2.1 | omega, by first | exact oq_25953902 hi.2.2.2.1 | omega⟩ (fun g1005 => ?_) (fun g1005 => ?_)))
      ·
        refine WS_pq [0, 1, 2, 3, 4] (lv' := [(0, .ref (A 179)), (1, .int (Int32.ofInt lt)), (3, .int (Int32.ofInt stp)), (4, .int (Int32.ofInt tm)), (5, .int (Int32.ofInt kk))]) rfl ?_
        exact kx _ kk I F jjTD jjFDB hq (by first | exact ⟨Or.inl (g1005), hi.2.2.2.2.2.2.1, hi.2.2.2.2.2.2.2.1, hi.2.2.2.2.2.2.2.2⟩ | omega)
      ·
        refine z_aload_n X (x := A 179) rfl (List.Mem.head _) (z_getI X 179 rfl (c518_ok rfl) rfl rfl ?_)
        have b1006 := bi_79 I
        refine z_if_ne X (t := 245) rfl rfl (rng_to _) (fun g1007 => ?_) (fun g1007 => ?_)
        ·
          refine WS_pq [0, 1, 2, 3, 4] (lv' := [(0, .ref (A 179)), (1, .int (Int32.ofInt lt)), (3, .int (Int32.ofInt stp)), (4, .int (Int32.ofInt tm)), (5, .int (Int32.ofInt kk))]) rfl ?_
          exact kx _ kk I F jjTD jjFDB hq (by first | exact ⟨Or.inr (g1007), hi.2.2.2.2.2.2.1, hi.2.2.2.2.2.2.2.1, hi.2.2.2.2.2.2.2.2⟩ | omega)
        ·
          obtain ⟨⟨a1, m1, m2, m3⟩, mh⟩ := mmq_in hq (by first | exact g1007 | omega)
          have hA1 := m2.1
          refine z_aload_n X (x := A 179) rfl (List.Mem.head _) (s_getR X 179 rfl (c518_ok rfl) rfl rfl (z_aload_n X (x := A 179) rfl (List.Mem.head _) (z_getI X 179 rfl (c518_ok rfl) rfl rfl ?_)))
          have b1008 := bi_91 I
          refine z_const X rfl (z_sub X rfl ?_)
          have hT1009 := jjTD (((iI t 91) - 1) : Int).toNat (by first | exact oq_90a21754 hi.2.2.2.2.2.2.1 | omega)
          refine z_ald X 188 rfl (c518_ok rfl) rfl (by first | exact oq_02aa5459 hi.2.2.2.2.2.2.1 | omega) (show ((iI t 91) - 1) < 24 by first | exact oq_19cb6f5b b1008.2 | omega) (cbig_ok rfl) ?_
          have b1010 := bc_165 I (show (((iI t 91) - 1)).toNat < 24 by first | exact oq_f976b25c b1008.2 | omega)
          have ar1011 : iC t 165 (((iI t 91) - 1)).toNat = iC t 165 (((iI t 91) - 1)).toNat := (sam_rf (a := 165) (s := t)) _
          refine z_load_n X (x := stp) rfl (List.Mem.tail _ (List.Mem.tail _ (List.Mem.head _))) (z_callS X (rm := rmN 190) (As := [.int (Int32.ofInt (iC t 165 (((iI t 91) - 1)).toNat)), .int (Int32.ofInt stp)]) (st := []) rfl rfl (by rw [E.1, E.2.1, E.2.2.1]; exact k_beside2 G I (by first | exact And.intro (hT1009.1) (hT1009.2) | omega) (by first | exact ⟨hi.2.1.1, hi.2.1.2⟩ | omega)) ⟨by rw [E.2.2.2]; exact (show (rmN 190).frames + 1 ≤ (rmN 199).frames by decide), by rw [E.2.2.2]; exact (show 8 + (mNL (miB 190) + 11) + (rmN 190).locals ≤ (rmN 199).locals by decide), by rw [E.2.2.2]; exact (show 0 + (rmN 190).cells ≤ (rmN 199).cells by decide), by rw [E.2.2.2]; exact (show 0 + (rmN 190).slots ≤ (rmN 199).slots by decide)⟩ (Nat.le_of_ble_eq_true rfl) (fun vv s1012 hq => ?_) (fun ee s1012 hq => ?_))
          rotate_left
          · obtain ⟨rfl, e1013, hv, hrs1012, hps1012⟩ := hq; cases hv
          obtain ⟨rfl, e1013, hv, hrs1012, hps1012⟩ := hq
          cases hv
          show WS k 169 [(0, .ref (A 179)), (1, .int (Int32.ofInt lt)), (3, .int (Int32.ofInt stp)), (4, .int (Int32.ofInt tm)), (5, .int (Int32.ofInt kk))] [.int (Int32.ofInt e1013)] (Wd A dT t) 0 0
          have hcc : iC t 165 (iI t 91 - 1).toNat = a1.2 (a1.1 - 1).toNat := by rw [hA1]; exact ag_at m2 (by first | exact oq_02aa5459 hi.2.2.2.2.2.2.1 | omega) (by first | exact oq_e3802055 hA1 | omega)
          have hnn : e1013 = besT (iC t 165 (iI t 91 - 1).toNat) stp := hps1012.1
          refine z_store X (lv' := [(6, .int (Int32.ofInt e1013)), (0, .ref (A 179)), (1, .int (Int32.ofInt lt)), (3, .int (Int32.ofInt stp)), (4, .int (Int32.ofInt tm)), (5, .int (Int32.ofInt kk))]) rfl (by decide) (fun _ h => h) (z_load X (x := e1013) rfl (List.Mem.head _) (z_const X rfl (z_icmp_ne X (t := 186) rfl rfl hrs1012 (by decide) (fun g1014 => ?_) (fun g1014 => ?_))))
          ·
            refine z_aload_n X (x := A 179) rfl (List.Mem.tail _ (List.Mem.head _)) (z_getI X 179 rfl (c518_ok rfl) rfl rfl ?_)
            have b1015 := bi_91 I
            refine z_bipush X rfl (z_icmp_eq X (t := 204) rfl rfl (rng_to _) (by decide) (fun g1016 => ?_) (fun g1016 => ?_))
            ·
              refine z_aload_n X (x := A 179) rfl (List.Mem.tail _ (List.Mem.head _)) (z_const X rfl (z_load_n X (x := lt) rfl (List.Mem.tail _ (List.Mem.tail _ (List.Mem.head _))) (zcV_v0 X E 179 (As := [.int (Int32.ofInt 4), .int (Int32.ofInt lt)]) (st := []) rfl rfl rfl rfl (k_wrong2 G I (by first | exact ⟨by decide, by decide⟩ | omega) (by first | exact ⟨oq_ca54ea22 hi.1.1, hi.1.2⟩ | omega)) rfl (Nat.le_of_ble_eq_true rfl) (fun s1017 Is1017 Fs1017 hps1017 => ?_))))
              have Gs1017 := fm_tq F Fs1017 rfl rfl
              have JTD_s1017 : TD s1017 := TD_fm Fs1017 (by decide) jjTD
              have JFDB_s1017 : FDB B N s1017 := FDB_fm Fs1017 (by decide) jjFDB
              have ws1017_77 : iI s1017 77 = iI t 77 := fm_iq Fs1017 rfl
              have ws1017_75 : iI s1017 75 = iI t 75 := fm_iq Fs1017 rfl
              have b1019 := bi_79 Is1017
              have ws1017_91 : iI s1017 91 = iI t 91 := fm_iq Fs1017 rfl
              have aws1017_165 : SAM 165 t s1017 := sam_ts (sam_rf (a := 165) (s := t)) (sam_fm Fs1017 (by decide))
              refine z_aload_n X (x := A 179) rfl (List.Mem.tail _ (List.Mem.head _)) (z_getI X 179 rfl (c518_ok rfl) rfl rfl ?_)
              have b1020 := bi_79 Is1017
              refine z_if_eq X (t := 218) rfl rfl (rng_to _) (fun g1021 => ?_) (fun g1021 => ?_)
              ·
                exfalso
                omega
              ·
                exact w_vret X.1 q hRt (ax_d X (show cdA 199 217 = some (.return_, 1, 0, 0, 0) from rfl)) (Nat.zero_le _) (Nat.zero_le _) ⟨_, rfl, Is1017, Gs1017, JTD_s1017, JFDB_s1017, rfl, ⟨by first | exact oq_9272904e ws1017_77 hi.2.2.2.2.2.2.2.1 | omega, by first | exact oq_5338757c ws1017_77 hi.2.2.2.2.2.2.2.2 | omega, by first | exact oq_238e3abb ws1017_91 g1016 | omega, Or.inl (by first | exact g1021 | omega), Or.inr ⟨by first | exact g1021 | omega, mmq_no mh m1 (by first | exact g1005 | (clear g1021 hps1017 g1014; omega) | (clear hps1017 g1014; omega) | omega) (ext_no2 hcc hnn (by first | exact g1014 | (clear g1021 hps1017 g1014; omega) | (clear hps1017 g1014; omega) | omega) (by first | exact oq_ae33e6fb g1016 hA1 m3.2 | (clear g1021 hps1017 g1014; omega) | (clear hps1017 g1014; omega) | omega))⟩⟩⟩
            ·
              refine z_aload_n X (x := A 179) rfl (List.Mem.tail _ (List.Mem.head _)) (z_load X (x := e1013) rfl (List.Mem.head _) (zcV_i0 X E 179 (As := [.int (Int32.ofInt e1013)]) (st := []) rfl rfl rfl rfl (k_isTold2 G I (by first | exact ⟨oq_97ee2c2a hps1012.2.1, oq_07d346ce hps1012.2.2⟩ | omega)) rfl (Nat.le_of_ble_eq_true rfl) (fun s1022 e1023 Is1022 Fs1022 hrs1022 hps1022 => ?_)))
              have Gs1022 := fm_tq F Fs1022 rfl rfl
              have JTD_s1022 : TD s1022 := TD_fm Fs1022 (by decide) jjTD
              have JFDB_s1022 : FDB B N s1022 := FDB_fm Fs1022 (by decide) jjFDB
              have ws1022_77 : iI s1022 77 = iI t 77 := fm_iq Fs1022 rfl
              have ws1022_75 : iI s1022 75 = iI t 75 := fm_iq Fs1022 rfl
              have ws1022_79 : iI s1022 79 = iI t 79 := fm_iq Fs1022 rfl
              have ws1022_91 : iI s1022 91 = iI t 91 := fm_iq Fs1022 rfl
              have aws1022_165 : SAM 165 t s1022 := sam_ts (sam_rf (a := 165) (s := t)) (sam_fm Fs1022 (by decide))
              refine z_if_eq X (t := 210) rfl rfl hrs1022 (fun g1024 => ?_) (fun g1024 => ?_)
              ·
                refine z_aload_n X (x := A 179) rfl (List.Mem.tail _ (List.Mem.head _)) (z_getI X 179 rfl (c518_ok rfl) rfl rfl ?_)
                have b1025 := bi_79 Is1022
                refine z_if_eq X (t := 218) rfl rfl (rng_to _) (fun g1026 => ?_) (fun g1026 => ?_)
                ·
                  refine z_aload_n X (x := A 179) rfl (List.Mem.tail _ (List.Mem.head _)) (s_getR X 179 rfl (c518_ok rfl) rfl rfl (z_aload_n X (x := A 179) rfl (List.Mem.tail _ (List.Mem.head _)) (z_getI X 179 rfl (c518_ok rfl) rfl rfl ?_)))
                  have b1027 := bi_91 Is1022
                  refine z_load X (x := e1013) rfl (List.Mem.head _) (z_ast X 188 rfl (c518_ok rfl) rfl (by first | exact b1027.1 | omega) (show (iI s1022 91) < 24 by first | exact oq_f7e8fb92 ws1022_91 g1016 b1015.2 | omega) (cbig_ok rfl) (wd_gen (fun s1028 hs1028 => ?_)))
                  have Is1028 : Bd s1028 := eqB hs1028 (bd_C Is1022 (show ((-2147483648) : Int) ≤ e1013 ∧ e1013 ≤ 2147483647 by first | exact ⟨oq_97ee2c2a hps1012.2.1, oq_07d346ce hps1012.2.2⟩ | omega) hrs1012)
                  have Fs1028 := eqF hs1028 (fm_C Gs1022 (inl_ok (a := 165) rfl))
                  have ws1028_77 : iI s1028 77 = iI s1022 77 := eqI hs1028 rfl
                  have ws1028_75 : iI s1028 75 = iI s1022 75 := eqI hs1028 rfl
                  have ws1028_79 : iI s1028 79 = iI s1022 79 := eqI hs1028 rfl
                  have ws1028_91 : iI s1028 91 = iI s1022 91 := eqI hs1028 rfl
                  have aws1028_165 : UPD 165 ((iI s1022 91)) e1013 t s1028 := by rw [hs1028]; exact upd_put aws1022_165 hrs1012
                  have fs1028 : Fm [] [165] s1022 s1028 := by rw [hs1028]; exact fm_C (fm_rf _ _ _) (show 165 ∈ _ by decide)
                  have JFDB_s1028 : FDB B N s1028 := FDB_fm fs1028 (by decide) JFDB_s1022
                  refine z_aload_n X (x := A 179) rfl (List.Mem.tail _ (List.Mem.head _)) (w_dup X.1 (ax_d X (show cdA 199 230 = some (.dup, 1, 0, 0, 0) from rfl)) rfl (z_getI X 179 rfl (c518_ok rfl) rfl rfl ?_))
                  have b1029 := bi_91 Is1028
                  refine z_const X rfl (z_add X rfl (s_putI X 179 rfl (c518_ok rfl) rfl rfl (by decide) rfl rfl rfl (wd_gen (fun s1030 hs1030 => ?_))))
                  have Is1030 : Bd s1030 := eqB hs1030 (bd_I Is1028 (show (0 : Int) ≤ ((iI s1028 91) + 1) ∧ ((iI s1028 91) + 1) ≤ 24 by first | exact ⟨oq_54f49eb5 b1029.1, oq_6a454d4a ws1028_91 ws1022_91 g1016 b1015.2⟩ | omega) ⟨by first | exact oq_74de1e16 b1029.1 | omega, by first | exact oq_3a454424 b1029.2 | omega⟩)
                  have Fs1030 := eqF hs1030 (fm_I Fs1028 (inl_ok (a := 91) rfl))
                  have vs1030 : iI s1030 91 = ((iI s1028 91) + 1) := eqI hs1030 (iI_u ⟨by first | exact oq_74de1e16 b1029.1 | omega, by first | exact oq_3a454424 b1029.2 | omega⟩)
                  have ws1030_77 : iI s1030 77 = iI s1028 77 := eqI hs1030 rfl
                  have ws1030_75 : iI s1030 75 = iI s1028 75 := eqI hs1030 rfl
                  have ws1030_79 : iI s1030 79 = iI s1028 79 := eqI hs1030 rfl
                  have aws1030_165 : UPD 165 ((iI s1022 91)) e1013 t s1030 := by rw [hs1030]; exact aws1028_165
                  have fs1030 : Fm [91] [] s1028 s1030 := by rw [hs1030]; exact fm_I (fm_rf _ _ _) (show 91 ∈ _ by decide)
                  have JFDB_s1030 : FDB B N s1030 := FDB_fm fs1030 (by decide) JFDB_s1028
                  have JTD_s1030 : TD s1030 := by
                    rw [hs1030, ws1028_91, hs1028]
                    exact TD_up JTD_s1022 rfl (by first | exact And.intro (b1027.1) (oq_6ffcc3e7 ws1022_91 g1016 b1015.2) | (clear hps1022 g1016 g1014; omega) | (clear g1016 g1014; omega) | omega) (by first | exact And.intro (oq_7a1025bf g1014 hps1012.2.1) (hps1012.2.2) | (clear hps1022 g1016 g1014; omega) | (clear g1016 g1014; omega) | omega)
                  refine z_inc X (x := kk) (lv' := [(5, .int (Int32.ofInt (kk + 1))), (6, .int (Int32.ofInt e1013)), (0, .ref (A 179)), (1, .int (Int32.ofInt lt)), (3, .int (Int32.ofInt stp)), (4, .int (Int32.ofInt tm))]) rfl (by decide) (List.Mem.tail _ (List.Mem.tail _ (List.Mem.tail _ (List.Mem.tail _ (List.Mem.tail _ (List.Mem.head _)))))) (fun _ h => h) (z_goto X (t := 140) rfl rfl (WS_pq [2, 3, 4, 5, 0] (lv' := [(0, .ref (A 179)), (1, .int (Int32.ofInt lt)), (3, .int (Int32.ofInt stp)), (4, .int (Int32.ofInt tm)), (5, .int (Int32.ofInt (kk + 1)))]) rfl ?_))
                  exact ih _ lt stp tm (kk + 1) Is1030 Fs1030 JTD_s1030 JFDB_s1030 (mmq_up mh m1 m3 (by first | exact g1005 | (clear hps1022 g1016 g1014; omega) | (clear g1016 g1014; omega) | omega) (ext_yes hcc hnn (by first | exact g1014 | (clear hps1022 g1016 g1014; omega) | (clear g1016 g1014; omega) | omega) (by first | exact oq_4e05af70 g1016 b1015.2 hA1 | (clear hps1022 g1016 g1014; omega) | (clear g1016 g1014; omega) | omega) (by first | exact oq_2a6e3b50 m3.1 | (clear hps1022 g1016 g1014; omega) | (clear g1016 g1014; omega) | omega) m2 (ho_0 hps1022 (by first | exact g1024 | (clear hps1022 g1016 g1014; omega) | (clear g1016 g1014; omega) | omega)) (upd_ix aws1030_165 (by first | exact ws1022_91 | (clear hps1022 g1016 g1014; omega) | (clear g1016 g1014; omega) | omega)) (by first | exact oq_cae9ec4a vs1030 ws1028_91 ws1022_91 | (clear hps1022 g1016 g1014; omega) | (clear g1016 g1014; omega) | omega)) (by first | exact oq_cef987ba vs1030 ws1028_91 ws1022_91 g1016 b1015.2 | (clear hps1022 g1016 g1014; omega) | (clear g1016 g1014; omega) | omega) (by first | exact oq_cd9cbf39 ws1030_79 ws1028_79 g1026 | (clear hps1022 g1016 g1014; omega) | (clear g1016 g1014; omega) | omega) (by first | exact oq_878618b1 ws1030_77 ws1028_77 ws1022_77 | (clear hps1022 g1016 g1014; omega) | (clear g1016 g1014; omega) | omega)) (by first | exact ⟨And.intro (hi.1.1) (hi.1.2), And.intro (hi.2.1.1) (hi.2.1.2), hi.2.2.1, hi.2.2.2.1, oq_54f49eb5 hi.2.2.2.2.1, oq_52ebc553 g1005 hi.2.2.2.1, oq_23ac7970 vs1030 b1029.1, oq_47978b2f ws1030_77 ws1028_77 ws1022_77 hi.2.2.2.2.2.2.2.1, oq_25e396f8 ws1030_77 ws1028_77 ws1022_77 hi.2.2.2.2.2.2.2.2⟩ | omega) (by first | exact qk_me hm (by decide) (oq_901836cd g1005) | exact oq_43ef8f85 g1005 hm | omega) kx
                ·
                  exfalso
                  omega
              ·
                refine z_aload_n X (x := A 179) rfl (List.Mem.tail _ (List.Mem.head _)) (z_const X rfl (z_load_n X (x := lt) rfl (List.Mem.tail _ (List.Mem.tail _ (List.Mem.head _))) (zcV_v0 X E 179 (As := [.int (Int32.ofInt 4), .int (Int32.ofInt lt)]) (st := []) rfl rfl rfl rfl (k_wrong2 G Is1022 (by first | exact ⟨by decide, by decide⟩ | omega) (by first | exact ⟨oq_ca54ea22 hi.1.1, hi.1.2⟩ | omega)) rfl (Nat.le_of_ble_eq_true rfl) (fun s1031 Is1031 Fs1031 hps1031 => ?_))))
                have Gs1031 := fm_tq Gs1022 Fs1031 rfl rfl
                have JTD_s1031 : TD s1031 := TD_fm Fs1031 (by decide) JTD_s1022
                have JFDB_s1031 : FDB B N s1031 := FDB_fm Fs1031 (by decide) JFDB_s1022
                have ws1031_77 : iI s1031 77 = iI s1022 77 := fm_iq Fs1031 rfl
                have ws1031_75 : iI s1031 75 = iI s1022 75 := fm_iq Fs1031 rfl
                have b1033 := bi_79 Is1031
                have ws1031_91 : iI s1031 91 = iI s1022 91 := fm_iq Fs1031 rfl
                have aws1031_165 : SAM 165 t s1031 := sam_ts aws1022_165 (sam_fm Fs1031 (by decide))
                refine z_aload_n X (x := A 179) rfl (List.Mem.tail _ (List.Mem.head _)) (z_getI X 179 rfl (c518_ok rfl) rfl rfl ?_)
                have b1034 := bi_79 Is1031
                refine z_if_eq X (t := 218) rfl rfl (rng_to _) (fun g1035 => ?_) (fun g1035 => ?_)
                ·
                  exfalso
                  omega
                ·
                  exact w_vret X.1 q hRt (ax_d X (show cdA 199 217 = some (.return_, 1, 0, 0, 0) from rfl)) (Nat.zero_le _) (Nat.zero_le _) ⟨_, rfl, Is1031, Gs1031, JTD_s1031, JFDB_s1031, rfl, ⟨by first | exact oq_2954f754 ws1031_77 ws1022_77 hi.2.2.2.2.2.2.2.1 | omega, by first | exact oq_3a225677 ws1031_77 ws1022_77 hi.2.2.2.2.2.2.2.2 | omega, by first | exact oq_48a46d4a ws1031_91 ws1022_91 hi.2.2.2.2.2.2.1 | omega, Or.inl (by first | exact g1035 | omega), Or.inr ⟨by first | exact g1035 | omega, mmq_no mh m1 (by first | exact g1005 | (clear g1035 hps1031 g1024 hps1022 g1016 g1014; omega) | (clear hps1031 g1024 hps1022 g1016 g1014; omega) | omega) (ext_no3 hcc hnn (by first | exact g1014 | (clear g1035 hps1031 g1024 hps1022 g1016 g1014; omega) | (clear hps1031 g1024 hps1022 g1016 g1014; omega) | omega) (by first | exact oq_4e05af70 g1016 b1015.2 hA1 | (clear g1035 hps1031 g1024 hps1022 g1016 g1014; omega) | (clear hps1031 g1024 hps1022 g1016 g1014; omega) | omega) m2 (ho_1 hps1022 (by first | exact g1024 | (clear g1035 hps1031 g1024 hps1022 g1016 g1014; omega) | (clear hps1031 g1024 hps1022 g1016 g1014; omega) | omega)))⟩⟩⟩
          ·
            refine z_aload_n X (x := A 179) rfl (List.Mem.tail _ (List.Mem.head _)) (z_const X rfl (z_load_n X (x := lt) rfl (List.Mem.tail _ (List.Mem.tail _ (List.Mem.head _))) (zcV_v0 X E 179 (As := [.int (Int32.ofInt 3), .int (Int32.ofInt lt)]) (st := []) rfl rfl rfl rfl (k_wrong2 G I (by first | exact ⟨by decide, by decide⟩ | omega) (by first | exact ⟨oq_ca54ea22 hi.1.1, hi.1.2⟩ | omega)) rfl (Nat.le_of_ble_eq_true rfl) (fun s1036 Is1036 Fs1036 hps1036 => ?_))))
            have Gs1036 := fm_tq F Fs1036 rfl rfl
            have JTD_s1036 : TD s1036 := TD_fm Fs1036 (by decide) jjTD
            have JFDB_s1036 : FDB B N s1036 := FDB_fm Fs1036 (by decide) jjFDB
            have ws1036_77 : iI s1036 77 = iI t 77 := fm_iq Fs1036 rfl
            have ws1036_75 : iI s1036 75 = iI t 75 := fm_iq Fs1036 rfl
            have b1038 := bi_79 Is1036
            have ws1036_91 : iI s1036 91 = iI t 91 := fm_iq Fs1036 rfl
            have aws1036_165 : SAM 165 t s1036 := sam_ts (sam_rf (a := 165) (s := t)) (sam_fm Fs1036 (by decide))
            refine z_goto X (t := 210) rfl rfl (z_aload_n X (x := A 179) rfl (List.Mem.tail _ (List.Mem.head _)) (z_getI X 179 rfl (c518_ok rfl) rfl rfl ?_))
            have b1039 := bi_79 Is1036
            refine z_if_eq X (t := 218) rfl rfl (rng_to _) (fun g1040 => ?_) (fun g1040 => ?_)
            ·
              exfalso
              omega
            ·
              exact w_vret X.1 q hRt (ax_d X (show cdA 199 217 = some (.return_, 1, 0, 0, 0) from rfl)) (Nat.zero_le _) (Nat.zero_le _) ⟨_, rfl, Is1036, Gs1036, JTD_s1036, JFDB_s1036, rfl, ⟨by first | exact oq_9272904e ws1036_77 hi.2.2.2.2.2.2.2.1 | omega, by first | exact oq_5338757c ws1036_77 hi.2.2.2.2.2.2.2.2 | omega, by first | exact oq_fed65c02 ws1036_91 hi.2.2.2.2.2.2.1 | omega, Or.inl (by first | exact g1040 | omega), Or.inr ⟨by first | exact g1040 | omega, mmq_no mh m1 (by first | exact g1005 | (clear g1040 hps1036; omega) | (clear hps1036; omega) | omega) (ext_no1 hcc hnn (by first | exact g1014 | (clear g1040 hps1036; omega) | (clear hps1036; omega) | omega))⟩⟩⟩
  refine z_aload_n X (x := A 179) rfl (List.Mem.head _) (z_getI X 179 rfl (c518_ok rfl) rfl rfl ?_)
  have b5 := bi_77 I
  refine z_store_n X (lv' := [(1, .int (Int32.ofInt (iI s 77))), (0, .ref (A 179))]) rfl (by decide) (fun _ h => h) (z_aload_n X (x := A 179) rfl (List.Mem.tail _ (List.Mem.head _)) (z_aload_n X (x := A 179) rfl (List.Mem.tail _ (List.Mem.head _)) (z_getI X 179 rfl (c518_ok rfl) rfl rfl ?_)))
  have b6 := bi_77 I
  refine z_callV X 179 (rm := rmN 192) (As := [.int (Int32.ofInt (iI s 77))]) (st := []) rfl rfl (by decide) rfl (by rw [E.1, E.2.1, E.2.2.1]; exact k_byteAt2 G I jFDB (by first | exact ⟨b6.1, oq_5a8480eb b6.2⟩ | omega)) ⟨by rw [E.2.2.2]; exact (show (rmN 192).frames + 1 ≤ (rmN 199).frames by decide), by rw [E.2.2.2]; exact (show 8 + (mNL (miB 192) + 11) + (rmN 192).locals ≤ (rmN 199).locals by decide), by rw [E.2.2.2]; exact (show 0 + (rmN 192).cells ≤ (rmN 199).cells by decide), by rw [E.2.2.2]; exact (show 0 + (rmN 192).slots ≤ (rmN 199).slots by decide)⟩ (Nat.le_of_ble_eq_true rfl) (fun vv s7 hq => ?_) (fun ee s7 hq => ?_)
  rotate_left
  · obtain ⟨rfl, e8, hv, hrs7, hps7⟩ := hq; cases hv
  obtain ⟨rfl, e8, hv, hrs7, hps7⟩ := hq
  cases hv
  show WS k 13 [(1, .int (Int32.ofInt (iI s 77))), (0, .ref (A 179))] [.int (Int32.ofInt e8)] (Wd A dT s) 0 0
  have hcb : e8 = B (iI s 77).toNat := by first | exact oq_1c2ab888 hps7 p1 | (clear hps7; omega) | omega
  refine z_store_n X (lv' := [(2, .int (Int32.ofInt e8)), (1, .int (Int32.ofInt (iI s 77))), (0, .ref (A 179))]) rfl (by decide) (fun _ h => h) (z_load_n X (x := e8) rfl (List.Mem.head _) (z_bipush X rfl ?_))
  have N9 : ∀ e10 : Int, (((e8 ≠ 114) ∧ (e8 ≠ 108) ∧ (e8 ≠ 100) ∧ (e8 ≠ 117) ∧ (e8 ≠ 99) ∧ (e8 ≠ 115) ∧ e10 = (-1)) ∨ ((e8 ≠ 114) ∧ (e8 ≠ 108) ∧ (e8 ≠ 100) ∧ (e8 ≠ 117) ∧ (e8 ≠ 99) ∧ (e8 = 115) ∧ e10 = 5) ∨ ((e8 ≠ 114) ∧ (e8 ≠ 108) ∧ (e8 ≠ 100) ∧ (e8 ≠ 117) ∧ (e8 = 99) ∧ e10 = 4) ∨ ((e8 ≠ 114) ∧ (e8 ≠ 108) ∧ (e8 ≠ 100) ∧ (e8 = 117) ∧ e10 = 3) ∨ ((e8 ≠ 114) ∧ (e8 ≠ 108) ∧ (e8 = 100) ∧ e10 = 2) ∨ ((e8 ≠ 114) ∧ (e8 = 108) ∧ e10 = 1) ∨ ((e8 = 114) ∧ e10 = 0)) → WS k 75 [(2, .int (Int32.ofInt e8)), (1, .int (Int32.ofInt (iI s 77))), (0, .ref (A 179))] [.int (Int32.ofInt e10)] (Wd A dT s) 0 0 := by
    intro e10 he10
    have re10 : (-1) ≤ e10 ∧ e10 ≤ 5 := by first | exact And.intro (oq_a6b956a9 he10) (oq_373480d1 he10) | (clear he10 hps7; omega) | (clear hps7; omega) | omega
    have hd : e10 = dirT e8 := dir_of (by first | exact oq_8fb76a4f re10.2 re10.1 he10 | (clear he10 hps7; omega) | (clear hps7; omega) | omega)
    clear he10
    refine z_store_n X (lv' := [(3, .int (Int32.ofInt e10)), (2, .int (Int32.ofInt e8)), (1, .int (Int32.ofInt (iI s 77))), (0, .ref (A 179))]) rfl (by decide) (fun _ h => h) (z_load_n X (x := e10) rfl (List.Mem.head _) (z_const X rfl (z_icmp_ne X (t := 91) rfl rfl ⟨by first | exact oq_97ee2c2a re10.1 | omega, by first | exact oq_a3dd55e5 re10.2 | omega⟩ (by decide) (fun g11 => ?_) (fun g11 => ?_))))
    ·
      have hdy : dirT (B (iI s 77).toNat) = e10 := by rw [← hcb]; omega
      refine z_aload_n X (x := A 179) rfl (List.Mem.tail _ (List.Mem.tail _ (List.Mem.tail _ (List.Mem.head _)))) (w_dup X.1 (ax_d X (show cdA 199 92 = some (.dup, 1, 0, 0, 0) from rfl)) rfl (z_getI X 179 rfl (c518_ok rfl) rfl rfl ?_))
      have b12 := bi_77 I
      refine z_const X rfl (z_add X rfl (s_putI X 179 rfl (c518_ok rfl) rfl rfl (by decide) rfl rfl rfl (wd_gen (fun s13 hs13 => ?_))))
      have Is13 : Bd s13 := eqB hs13 (bd_I I (show (0 : Int) ≤ ((iI s 77) + 1) ∧ ((iI s 77) + 1) ≤ 400 by first | exact ⟨oq_54f49eb5 b12.1, oq_19ab3065 p0⟩ | omega) ⟨by first | exact oq_74de1e16 b12.1 | omega, by first | exact oq_964ce197 b12.2 | omega⟩)
      have Fs13 := eqF hs13 (fm_I F (inl_ok (a := 77) rfl))
      have vs13 : iI s13 77 = ((iI s 77) + 1) := eqI hs13 (iI_u ⟨by first | exact oq_74de1e16 b12.1 | omega, by first | exact oq_964ce197 b12.2 | omega⟩)
      have ws13_75 : iI s13 75 = iI s 75 := eqI hs13 rfl
      have ws13_79 : iI s13 79 = iI s 79 := eqI hs13 rfl
      have ws13_91 : iI s13 91 = iI s 91 := eqI hs13 rfl
      have aws13_165 : SAM 165 s s13 := by rw [hs13]; exact aw0_165
      have fs13 : Fm [77] [] s s13 := by rw [hs13]; exact fm_I (fm_rf _ _ _) (show 77 ∈ _ by decide)
      have JTD_s13 : TD s13 := TD_fm fs13 (by decide) jTD
      have JFDB_s13 : FDB B N s13 := FDB_fm fs13 (by decide) jFDB
      refine z_aload_n X (x := A 179) rfl (List.Mem.tail _ (List.Mem.tail _ (List.Mem.tail _ (List.Mem.head _)))) (zcV_v1 X E 179 (As := []) (st := []) rfl rfl rfl rfl (k_blanks2 G Is13 JFDB_s13 (by first | exact oq_d73dfa11 vs13 p0 | omega)) rfl (Nat.le_of_ble_eq_true rfl) (fun s14 Is14 Fs14 JFDB_s14 hps14 => ?_))
      have hps14p := And.intro hps14.1 (hps14.2.1)
      have Gs14 := fm_tq Fs13 Fs14 rfl rfl
      have JTD_s14 : TD s14 := TD_fm Fs14 (by decide) JTD_s13
      have JFDB_s14 : FDB B N s14 := FDB_fm Fs14 (by decide) JFDB_s13
      have b16 := bi_77 Is14
      have ws14_75 : iI s14 75 = iI s13 75 := fm_iq Fs14 rfl
      have ws14_79 : iI s14 79 = iI s13 79 := fm_iq Fs14 rfl
      have ws14_91 : iI s14 91 = iI s13 91 := fm_iq Fs14 rfl
      have aws14_165 : SAM 165 s s14 := sam_ts aws13_165 (sam_fm Fs14 (by decide))
      have hr1 : iI s14 77 = sk B N (iI s 77 + 1) := by rw [hps14.1, show iI s13 77 = iI s 77 + 1 by first | exact vs13 | (clear hps14 g11 he10 hps7; omega) | (clear g11 he10 hps7; omega) | omega]
      have hl1 := sk_le (B := B) (N := N) (p := iI s 77 + 1)
      have hss : sk B N (iI s14 77) = iI s14 77 := by rw [hr1]; exact sk_sk
      refine z_load_n X (x := e10) rfl (List.Mem.head _) (z_const X rfl (z_icmp_ge X (t := 134) rfl rfl ⟨by first | exact oq_97ee2c2a re10.1 | omega, by first | exact oq_a3dd55e5 re10.2 | omega⟩ (by decide) (fun g17 => ?_) (fun g17 => ?_)))
      ·
        refine z_const X rfl (z_store X (lv' := [(4, .int (Int32.ofInt 1)), (3, .int (Int32.ofInt e10)), (2, .int (Int32.ofInt e8)), (1, .int (Int32.ofInt (iI s 77))), (0, .ref (A 179))]) rfl (by decide) (fun _ h => h) (z_const X rfl (z_store X (lv' := [(5, .int (Int32.ofInt 0)), (4, .int (Int32.ofInt 1)), (3, .int (Int32.ofInt e10)), (2, .int (Int32.ofInt e8)), (1, .int (Int32.ofInt (iI s 77))), (0, .ref (A 179))]) rfl (by decide) (fun _ h => h) (WS_pq [5, 4, 2, 1, 0] (lv' := [(0, .ref (A 179)), (1, .int (Int32.ofInt (iI s 77))), (3, .int (Int32.ofInt e10)), (4, .int (Int32.ofInt 1)), (5, .int (Int32.ofInt 0))]) rfl (L140 ((1 - 0 : Int).toNat + 1) s14 (iI s 77) e10 1 0 Is14 Gs14 JTD_s14 JFDB_s14 (mmq_0 (by first | exact oq_de8dffce ws14_79 ws13_79 b3.1 p2 | (clear hps14 g11 he10 hps7; omega) | (clear g11 he10 hps7; omega) | omega) (ag_sam hA aws14_165 (by first | exact oq_1aa5be9e ws14_91 ws13_91 | (clear hps14 g11 he10 hps7; omega) | (clear g11 he10 hps7; omega) | omega)) ha (by rw [show e10 = dirT (B (iI s 77).toNat) by first | exact oq_18d11be6 hdy | (clear hps14 g11 he10 hps7; omega) | (clear g11 he10 hps7; omega) | omega, show sk B N (iI s14 77) = iI s14 77 by first | exact hss | (clear hps14 g11 he10 hps7; omega) | (clear g11 he10 hps7; omega) | omega]; exact mv_one (r := iI s14 77) (by first | exact oq_ffbdfade g17 hdy | (clear hps14 g11 he10 hps7; omega) | (clear g11 he10 hps7; omega) | omega) hr1 (by first | exact Or.inl (oq_2b69aaa7 g17 hdy) | (clear hps14 g11 he10 hps7; omega) | (clear g11 he10 hps7; omega) | omega)) (by first | exact oq_c818af81 hl1 hr1 | (clear hps14 g11 he10 hps7; omega) | (clear g11 he10 hps7; omega) | omega)) (by first | exact ⟨And.intro (b12.1) (b12.2), And.intro (oq_26933c77 g17) (re10.2), by decide, by decide, by decide, by decide, by first | exact oq_cecd4c3f ws14_91 ws13_91 hA0 ha.1 | (clear hps14 g11 he10 hps7; omega) | (clear g11 he10 hps7; omega) | omega, oq_00e34026 hps14.2.1 vs13, oq_eb11129c hps14.2.2 vs13⟩ | omega) (Nat.lt_succ_self _) ?_)))))
        intro s18 x19 Is18 Fs18 JTD_s18 JFDB_s18 Qs18 hs18
        have b20 := bi_77 Is18
        have b21 := bi_75 Is18
        have b22 := bi_79 Is18
        have b23 := bi_91 Is18
        have hNs18 := JFDB_s18.2.1
        have hWs18 := JFDB_s18.2.2
        exact w_vret X.1 q hRt (ax_d X (show cdA 199 245 = some (.return_, 1, 0, 0, 0) from rfl)) (Nat.zero_le _) (Nat.zero_le _) ⟨_, rfl, Is18, Fs18, JTD_s18, JFDB_s18, rfl, ⟨by first | exact hs18.2.2.1 | omega, by first | exact hs18.2.2.2 | omega, by first | exact hs18.2.1 | omega, mmq_lt Qs18, mmq_end Qs18 (by first | exact hs18.1 | (clear hps14 g11 he10 hps7; omega) | (clear g11 he10 hps7; omega) | omega)⟩⟩
      ·
        refine z_aload_n X (x := A 179) rfl (List.Mem.tail _ (List.Mem.tail _ (List.Mem.tail _ (List.Mem.head _)))) (z_aload_n X (x := A 179) rfl (List.Mem.tail _ (List.Mem.tail _ (List.Mem.tail _ (List.Mem.head _)))) (z_getI X 179 rfl (c518_ok rfl) rfl rfl ?_))
        have b24 := bi_77 Is14
        refine z_callV X 179 (rm := rmN 192) (As := [.int (Int32.ofInt (iI s14 77))]) (st := []) rfl rfl (by decide) rfl (by rw [E.1, E.2.1, E.2.2.1]; exact k_byteAt2 G Is14 JFDB_s14 (by first | exact ⟨b24.1, oq_5a8480eb b24.2⟩ | omega)) ⟨by rw [E.2.2.2]; exact (show (rmN 192).frames + 1 ≤ (rmN 199).frames by decide), by rw [E.2.2.2]; exact (show 8 + (mNL (miB 192) + 11) + (rmN 192).locals ≤ (rmN 199).locals by decide), by rw [E.2.2.2]; exact (show 0 + (rmN 192).cells ≤ (rmN 199).cells by decide), by rw [E.2.2.2]; exact (show 0 + (rmN 192).slots ≤ (rmN 199).slots by decide)⟩ (Nat.le_of_ble_eq_true rfl) (fun vv s25 hq => ?_) (fun ee s25 hq => ?_)
        rotate_left
        · obtain ⟨rfl, e26, hv, hrs25, hps25⟩ := hq; cases hv
        obtain ⟨rfl, e26, hv, hrs25, hps25⟩ := hq
        cases hv
        show WS k 118 [(3, .int (Int32.ofInt e10)), (2, .int (Int32.ofInt e8)), (1, .int (Int32.ofInt (iI s 77))), (0, .ref (A 179))] [.int (Int32.ofInt e26)] (Wd A dT s14) 0 0
        refine z_callS X (rm := rmN 195) (As := [.int (Int32.ofInt e26)]) (st := []) rfl rfl (by rw [E.1, E.2.1, E.2.2.1]; exact k_isDigit2 G Is14 (by first | exact ⟨oq_1b38bc36 hps25, oq_eabbb498 hps25⟩ | omega)) ⟨by rw [E.2.2.2]; exact (show (rmN 195).frames + 1 ≤ (rmN 199).frames by decide), by rw [E.2.2.2]; exact (show 8 + (mNL (miB 195) + 11) + (rmN 195).locals ≤ (rmN 199).locals by decide), by rw [E.2.2.2]; exact (show 0 + (rmN 195).cells ≤ (rmN 199).cells by decide), by rw [E.2.2.2]; exact (show 0 + (rmN 195).slots ≤ (rmN 199).slots by decide)⟩ (Nat.le_of_ble_eq_true rfl) (fun vv s27 hq => ?_) (fun ee s27 hq => ?_)
        rotate_left
        · obtain ⟨rfl, e28, hv, hrs27, hps27⟩ := hq; cases hv
        obtain ⟨rfl, e28, hv, hrs27, hps27⟩ := hq
        cases hv
        show WS k 121 [(3, .int (Int32.ofInt e10)), (2, .int (Int32.ofInt e8)), (1, .int (Int32.ofInt (iI s 77))), (0, .ref (A 179))] [.int (Int32.ofInt e28)] (Wd A dT s14) 0 0
        refine z_if_eq X (t := 134) rfl rfl hrs27 (fun g29 => ?_) (fun g29 => ?_)
        ·
          refine z_const X rfl (z_store X (lv' := [(4, .int (Int32.ofInt 1)), (3, .int (Int32.ofInt e10)), (2, .int (Int32.ofInt e8)), (1, .int (Int32.ofInt (iI s 77))), (0, .ref (A 179))]) rfl (by decide) (fun _ h => h) (z_const X rfl (z_store X (lv' := [(5, .int (Int32.ofInt 0)), (4, .int (Int32.ofInt 1)), (3, .int (Int32.ofInt e10)), (2, .int (Int32.ofInt e8)), (1, .int (Int32.ofInt (iI s 77))), (0, .ref (A 179))]) rfl (by decide) (fun _ h => h) (WS_pq [5, 4, 2, 1, 0] (lv' := [(0, .ref (A 179)), (1, .int (Int32.ofInt (iI s 77))), (3, .int (Int32.ofInt e10)), (4, .int (Int32.ofInt 1)), (5, .int (Int32.ofInt 0))]) rfl (L140 ((1 - 0 : Int).toNat + 1) s14 (iI s 77) e10 1 0 Is14 Gs14 JTD_s14 JFDB_s14 (mmq_0 (by first | exact oq_de8dffce ws14_79 ws13_79 b3.1 p2 | (clear hps27 hps25 hps14 g11 he10 hps7; omega) | (clear hps25 hps14 g11 he10 hps7; omega) | omega) (ag_sam hA aws14_165 (by first | exact oq_1aa5be9e ws14_91 ws13_91 | (clear hps27 hps25 hps14 g11 he10 hps7; omega) | (clear hps25 hps14 g11 he10 hps7; omega) | omega)) ha (by rw [show e10 = dirT (B (iI s 77).toNat) by first | exact oq_18d11be6 hdy | (clear hps27 hps25 hps14 g11 he10 hps7; omega) | (clear hps25 hps14 g11 he10 hps7; omega) | omega, show sk B N (iI s14 77) = iI s14 77 by first | exact hss | (clear hps27 hps25 hps14 g11 he10 hps7; omega) | (clear hps25 hps14 g11 he10 hps7; omega) | omega]; exact mv_one (r := iI s14 77) (by first | exact oq_562c9b2d hdy g11 re10.1 | (clear hps27 hps25 hps14 g11 he10 hps7; omega) | (clear hps25 hps14 g11 he10 hps7; omega) | omega) hr1 (by first | exact Or.inr (oq_408a0309 g29 hps27 hps25) | (clear hps27 hps25 hps14 g11 he10 hps7; omega) | (clear hps25 hps14 g11 he10 hps7; omega) | omega)) (by first | exact oq_c818af81 hl1 hr1 | (clear hps27 hps25 hps14 g11 he10 hps7; omega) | (clear hps25 hps14 g11 he10 hps7; omega) | omega)) (by first | exact ⟨And.intro (b12.1) (b12.2), oq_752b3116 g17 g11 re10.1, by decide, by decide, by decide, by decide, by first | exact oq_cecd4c3f ws14_91 ws13_91 hA0 ha.1 | (clear hps27 hps25 hps14 g11 he10 hps7; omega) | (clear hps25 hps14 g11 he10 hps7; omega) | omega, oq_00e34026 hps14.2.1 vs13, oq_eb11129c hps14.2.2 vs13⟩ | omega) (Nat.lt_succ_self _) ?_)))))
          intro s30 x31 Is30 Fs30 JTD_s30 JFDB_s30 Qs30 hs30
          have b32 := bi_77 Is30
          have b33 := bi_75 Is30
          have b34 := bi_79 Is30
          have b35 := bi_91 Is30
          have hNs30 := JFDB_s30.2.1
          have hWs30 := JFDB_s30.2.2
          exact w_vret X.1 q hRt (ax_d X (show cdA 199 245 = some (.return_, 1, 0, 0, 0) from rfl)) (Nat.zero_le _) (Nat.zero_le _) ⟨_, rfl, Is30, Fs30, JTD_s30, JFDB_s30, rfl, ⟨by first | exact hs30.2.2.1 | omega, by first | exact hs30.2.2.2 | omega, by first | exact hs30.2.1 | omega, mmq_lt Qs30, mmq_end Qs30 (by first | exact hs30.1 | (clear hps27 hps25 hps14 g11 he10 hps7; omega) | (clear hps25 hps14 g11 he10 hps7; omega) | omega)⟩⟩
        ·
          refine z_aload_n X (x := A 179) rfl (List.Mem.tail _ (List.Mem.tail _ (List.Mem.tail _ (List.Mem.head _)))) (z_const X rfl (z_bipush X rfl (zcV_i1 X E 179 (As := [.int (Int32.ofInt 1), .int (Int32.ofInt 7)]) (st := []) rfl rfl rfl rfl (k_number2 G Is14 JFDB_s14 (by first | exact ⟨by decide, by decide⟩ | omega) (by first | exact ⟨by decide, by decide⟩ | omega) (by first | exact oq_f8620e62 hps14.2.2 vs13 b2.2 hN p1 | (clear g29 hps27 hps25 hps14 g11 he10 hps7; omega) | (clear hps27 hps25 hps14 g11 he10 hps7; omega) | omega)) rfl (Nat.le_of_ble_eq_true rfl) (fun s36 e37 Is36 Fs36 JFDB_s36 hrs36 hps36 => ?_))))
          have hps36p := And.intro hps36.1 (hps36.2.1)
          have Gs36 := fm_tq Gs14 Fs36 rfl rfl
          have JTD_s36 : TD s36 := TD_fm Fs36 (by decide) JTD_s14
          have JFDB_s36 : FDB B N s36 := FDB_fm Fs36 (by decide) JFDB_s14
          have b38 := bi_77 Is36
          have ws36_75 : iI s36 75 = iI s14 75 := fm_iq Fs36 rfl
          have b39 := bi_79 Is36
          have ws36_91 : iI s36 91 = iI s14 91 := fm_iq Fs36 rfl
          have aws36_165 : SAM 165 s s36 := sam_ts aws14_165 (sam_fm Fs36 (by decide))
          have hnu := hps36.1
          unfold NUR at hnu
          rw [hss] at hnu
          have hl3 := nmE_le (B := B) (N := N) (p := iI s14 77) (v := 0)
          have hv0 := nmV_nn (B := B) (N := N) (p := iI s14 77)
          have hv1 := nmV_mx (B := B) (N := N) (p := iI s14 77)
          refine z_goto X (t := 135) rfl rfl (z_store X (lv' := [(4, .int (Int32.ofInt e37)), (3, .int (Int32.ofInt e10)), (2, .int (Int32.ofInt e8)), (1, .int (Int32.ofInt (iI s 77))), (0, .ref (A 179))]) rfl (by decide) (fun _ h => h) (z_const X rfl (z_store X (lv' := [(5, .int (Int32.ofInt 0)), (4, .int (Int32.ofInt e37)), (3, .int (Int32.ofInt e10)), (2, .int (Int32.ofInt e8)), (1, .int (Int32.ofInt (iI s 77))), (0, .ref (A 179))]) rfl (by decide) (fun _ h => h) (WS_pq [5, 4, 2, 1, 0] (lv' := [(0, .ref (A 179)), (1, .int (Int32.ofInt (iI s 77))), (3, .int (Int32.ofInt e10)), (4, .int (Int32.ofInt e37)), (5, .int (Int32.ofInt 0))]) rfl (L140 ((e37 - 0 : Int).toNat + 1) s36 (iI s 77) e10 e37 0 Is36 Gs36 JTD_s36 JFDB_s36 (by rcases hnu.2.2 with z | z | z; exact absurd (by first | exact oq_de8dffce ws14_79 ws13_79 b3.1 p2 | (clear hps36 g29 hps27 hps25 hps14 g11 he10 hps7; omega) | (clear g29 hps27 hps25 hps14 g11 he10 hps7; omega) | omega) z.1; exact mmq_0 (by first | exact z.2.1 | (clear hps36 g29 hps27 hps25 hps14 g11 he10 hps7; omega) | (clear g29 hps27 hps25 hps14 g11 he10 hps7; omega) | omega) (ag_sam hA aws36_165 (by first | exact oq_878618b1 ws36_91 ws14_91 ws13_91 | (clear hps36 g29 hps27 hps25 hps14 g11 he10 hps7; omega) | (clear g29 hps27 hps25 hps14 g11 he10 hps7; omega) | omega)) ha (by rw [show e10 = dirT (B (iI s 77).toNat) by first | exact oq_18d11be6 hdy | (clear hps36 g29 hps27 hps25 hps14 g11 he10 hps7; omega) | (clear g29 hps27 hps25 hps14 g11 he10 hps7; omega) | omega, show e37 = nmV B N (iI s14 77) 0 from hnu.1, show iI s36 77 = nmE B N (iI s14 77) 0 from hnu.2.1]; exact mv_many (r := iI s14 77) (by first | exact oq_562c9b2d hdy g11 re10.1 | (clear hps36 g29 hps27 hps25 hps14 g11 he10 hps7; omega) | (clear g29 hps27 hps25 hps14 g11 he10 hps7; omega) | omega) hr1 (by first | exact oq_4356a933 g17 hdy | (clear hps36 g29 hps27 hps25 hps14 g11 he10 hps7; omega) | (clear g29 hps27 hps25 hps14 g11 he10 hps7; omega) | omega) (by first | exact z.2.2.1 | (clear hps36 g29 hps27 hps25 hps14 g11 he10 hps7; omega) | (clear g29 hps27 hps25 hps14 g11 he10 hps7; omega) | omega) (by first | exact z.2.2.2.1 | (clear hps36 g29 hps27 hps25 hps14 g11 he10 hps7; omega) | (clear g29 hps27 hps25 hps14 g11 he10 hps7; omega) | omega) (by first | exact z.2.2.2.2.1 | (clear hps36 g29 hps27 hps25 hps14 g11 he10 hps7; omega) | (clear g29 hps27 hps25 hps14 g11 he10 hps7; omega) | omega) (by first | exact oq_bc50f9f9 z.2.2.2.2.2.1 hnu.1 | (clear hps36 g29 hps27 hps25 hps14 g11 he10 hps7; omega) | (clear g29 hps27 hps25 hps14 g11 he10 hps7; omega) | omega) (by first | exact oq_3e5e2bff z.2.2.2.2.2.2 hnu.1 | (clear hps36 g29 hps27 hps25 hps14 g11 he10 hps7; omega) | (clear g29 hps27 hps25 hps14 g11 he10 hps7; omega) | omega)) (by first | exact oq_db134fd6 hps36p.2 hl1 hr1 | (clear hps36 g29 hps27 hps25 hps14 g11 he10 hps7; omega) | (clear g29 hps27 hps25 hps14 g11 he10 hps7; omega) | omega); exact Or.inl ⟨z.2.1, mv_num (r := iI s14 77) (by first | exact oq_562c9b2d hdy g11 re10.1 | (clear hps36 g29 hps27 hps25 hps14 g11 he10 hps7; omega) | (clear g29 hps27 hps25 hps14 g11 he10 hps7; omega) | omega) hr1 (by first | exact oq_4356a933 g17 hdy | (clear hps36 g29 hps27 hps25 hps14 g11 he10 hps7; omega) | (clear g29 hps27 hps25 hps14 g11 he10 hps7; omega) | omega) (by first | exact oq_a6991198 g29 hps27 hps25 | (clear hps36 g29 hps27 hps25 hps14 g11 he10 hps7; omega) | (clear g29 hps27 hps25 hps14 g11 he10 hps7; omega) | omega) (by first | exact oq_9855c2d5 g29 hps27 hps25 | (clear hps36 g29 hps27 hps25 hps14 g11 he10 hps7; omega) | (clear g29 hps27 hps25 hps14 g11 he10 hps7; omega) | omega) (by first | exact oq_2de8c4c0 g29 hps27 hps25 | (clear hps36 g29 hps27 hps25 hps14 g11 he10 hps7; omega) | (clear g29 hps27 hps25 hps14 g11 he10 hps7; omega) | omega) (by first | exact oq_b195b3e5 z.2.2 hnu.1 g29 hps27 hps25 | (clear hps36 g29 hps27 hps25 hps14 g11 he10 hps7; omega) | (clear g29 hps27 hps25 hps14 g11 he10 hps7; omega) | omega)⟩) (by first | exact And.intro (And.intro (b12.1) (b12.2)) (And.intro (And.intro (oq_7a1025bf g11 re10.1) (re10.2)) (And.intro (oq_c0cb98a4 hv0 hnu.1) (And.intro (oq_0d237996 hv1 hnu.1) (And.intro (oq_0fe6b7e2) (And.intro (oq_844ef9a0) (And.intro (oq_5a04fd0e ws36_91 ws14_91 ws13_91 hA0 ha.1) (And.intro (oq_c8bb10d5 hps36p.2 hl1 hr1) (Or.inr (oq_ae23040e hps36.2.2 hps14.2.2 vs13 p1))))))))) | (clear hps36 g29 hps27 hps25 hps14 g11 he10 hps7; omega) | (clear g29 hps27 hps25 hps14 g11 he10 hps7; omega) | omega) (Nat.lt_succ_self _) ?_)))))
          intro s40 x41 Is40 Fs40 JTD_s40 JFDB_s40 Qs40 hs40
          have b42 := bi_77 Is40
          have b43 := bi_75 Is40
          have b44 := bi_79 Is40
          have b45 := bi_91 Is40
          have hNs40 := JFDB_s40.2.1
          have hWs40 := JFDB_s40.2.2
          exact w_vret X.1 q hRt (ax_d X (show cdA 199 245 = some (.return_, 1, 0, 0, 0) from rfl)) (Nat.zero_le _) (Nat.zero_le _) ⟨_, rfl, Is40, Fs40, JTD_s40, JFDB_s40, rfl, ⟨by first | exact hs40.2.2.1 | omega, by first | exact hs40.2.2.2 | omega, by first | exact hs40.2.1 | omega, mmq_lt Qs40, mmq_end Qs40 (by first | exact hs40.1 | (clear hps36 g29 hps27 hps25 hps14 g11 he10 hps7; omega) | (clear g29 hps27 hps25 hps14 g11 he10 hps7; omega) | omega)⟩⟩
    ·
      have hdn : dirT (B (iI s 77).toNat) = -1 := by rw [← hcb]; omega
      refine z_aload_n X (x := A 179) rfl (List.Mem.tail _ (List.Mem.tail _ (List.Mem.tail _ (List.Mem.head _)))) (z_const X rfl (z_aload_n X (x := A 179) rfl (List.Mem.tail _ (List.Mem.tail _ (List.Mem.tail _ (List.Mem.head _)))) (z_getI X 179 rfl (c518_ok rfl) rfl rfl ?_)))
      have b46 := bi_77 I
      refine zcV_v0 X E 179 (As := [.int (Int32.ofInt 1), .int (Int32.ofInt (iI s 77))]) (st := []) rfl rfl rfl rfl (k_wrong2 G I (by first | exact ⟨by decide, by decide⟩ | omega) (by first | exact ⟨oq_ca54ea22 b46.1, b46.2⟩ | omega)) rfl (Nat.le_of_ble_eq_true rfl) (fun s47 Is47 Fs47 hps47 => ?_)
      have Gs47 := fm_tq F Fs47 rfl rfl
      have JTD_s47 : TD s47 := TD_fm Fs47 (by decide) jTD
      have JFDB_s47 : FDB B N s47 := FDB_fm Fs47 (by decide) jFDB
      have ws47_77 : iI s47 77 = iI s 77 := fm_iq Fs47 rfl
      have ws47_75 : iI s47 75 = iI s 75 := fm_iq Fs47 rfl
      have b49 := bi_79 Is47
      have ws47_91 : iI s47 91 = iI s 91 := fm_iq Fs47 rfl
      have aws47_165 : SAM 165 s s47 := sam_ts aw0_165 (sam_fm Fs47 (by decide))
      exact w_vret X.1 q hRt (ax_d X (show cdA 199 90 = some (.return_, 1, 0, 0, 0) from rfl)) (Nat.zero_le _) (Nat.zero_le _) ⟨_, rfl, Is47, Gs47, JTD_s47, JFDB_s47, rfl, ⟨by first | exact oq_fa711800 ws47_77 | omega, by first | exact Or.inl (oq_2dcd477e ws47_77) | omega, by first | exact oq_372f911e ws47_91 hA0 ha.1 | (clear hps47 he10 hps7; omega) | (clear he10 hps7; omega) | omega, Or.inl (by first | exact hps47 | omega), Or.inr ⟨by first | exact hps47 | omega, mv_dir hdn⟩⟩⟩
  refine z_icmp_ne X (t := 24) rfl rfl hrs7 (by decide) (fun g50 => ?_) (fun g50 => ?_)
  ·
    refine z_load_n X (x := e8) rfl (List.Mem.head _) (z_bipush X rfl (z_icmp_ne X (t := 34) rfl rfl hrs7 (by decide) (fun g51 => ?_) (fun g51 => ?_)))
    ·
      refine z_load_n X (x := e8) rfl (List.Mem.head _) (z_bipush X rfl (z_icmp_ne X (t := 44) rfl rfl hrs7 (by decide) (fun g52 => ?_) (fun g52 => ?_)))
      ·
        refine z_load_n X (x := e8) rfl (List.Mem.head _) (z_bipush X rfl (z_icmp_ne X (t := 54) rfl rfl hrs7 (by decide) (fun g53 => ?_) (fun g53 => ?_)))
        ·
          refine z_load_n X (x := e8) rfl (List.Mem.head _) (z_bipush X rfl (z_icmp_ne X (t := 64) rfl rfl hrs7 (by decide) (fun g54 => ?_) (fun g54 => ?_)))
          ·
            refine z_load_n X (x := e8) rfl (List.Mem.head _) (z_bipush X rfl (z_icmp_ne X (t := 74) rfl rfl hrs7 (by decide) (fun g55 => ?_) (fun g55 => ?_)))
            ·
              exact z_const X rfl (N9 _ (Or.inl ⟨g50, g51, g52, g53, g54, g55, rfl⟩))
            ·
              exact z_const X rfl (z_goto X (t := 75) rfl rfl (N9 _ (Or.inr (Or.inl ⟨g50, g51, g52, g53, g54, g55, rfl⟩))))
          ·
            exact z_const X rfl (z_goto X (t := 75) rfl rfl (N9 _ (Or.inr (Or.inr (Or.inl ⟨g50, g51, g52, g53, g54, rfl⟩)))))
        ·
          exact z_const X rfl (z_goto X (t := 75) rfl rfl (N9 _ (Or.inr (Or.inr (Or.inr (Or.inl ⟨g50, g51, g52, g53, rfl⟩))))))
      ·
        exact z_const X rfl (z_goto X (t := 75) rfl rfl (N9 _ (Or.inr (Or.inr (Or.inr (Or.inr (Or.inl ⟨g50, g51, g52, rfl⟩)))))))
    ·
      exact z_const X rfl (z_goto X (t := 75) rfl rfl (N9 _ (Or.inr (Or.inr (Or.inr (Or.inr (Or.inr (Or.inl ⟨g50, g51, rfl⟩))))))))
  ·
    exact z_const X rfl (z_goto X (t := 75) rfl rfl (N9 _ (Or.inr (Or.inr (Or.inr (Or.inr (Or.inr (Or.inr (⟨g50, rfl⟩)))))))))
set_option maxRecDepth 4000 in
theorem c10_take2 (G : GX l s0 D tys a0 dT) (I : Bd s) {x : Int} (p0 : rng x) (p1 : iI s 0 ≤ 196) : CT l s0 D A dT 127 (rmN 127) [.ref (A 1), .int (Int32.ofInt x)] s (fun o t => Bd t ∧ Fm [0] [0] s t ∧ o = .inl none ∧ (iI t 0 = iI s 0 + 4 ∧ FDP 0 (fun i => byT x (24 - 8 * i)) (iI s 0) (iI t 0) s t)) := by
  refine ct_ofX G (by decide) (Nat.le_of_ble_eq_true rfl) (fun k X E ET hRt hXt q => ?_)
  show WS k 0 [(0, .ref (A 1)), (1, .int (Int32.ofInt x))] [] _ 0 0
  have F : Fm [0] [0] s s := fm_rf _ _ s
  have b1 := bi_0 I
  have L3 : ∀ (n : Nat) (t : PS) (xv c : Int), Bd t → Fm [0] [0] s t → (FDP 0 (fun i => byT x (24 - 8 * i)) (iI s 0) (iI t 0) s t) → (xv = x ∧ 0 ≤ iI t 0 - iI s 0 ∧ iI t 0 - iI s 0 ≤ 4 ∧ c = 24 - 8 * (iI t 0 - iI s 0)) → (c + 8 : Int).toNat < n → (∀ (t' : PS) (c' : Int), Bd t' → Fm [0] [0] s t' → (FDP 0 (fun i => byT x (24 - 8 * i)) (iI s 0) (iI t' 0) s t') → (iI t' 0 = iI s 0 + 4) → WS k 49 [(0, .ref (A 1)), (1, .int (Int32.ofInt xv)), (2, .int (Int32.ofInt c'))] [] (Wd A dT t') 0 0) → WS k 3 [(0, .ref (A 1)), (1, .int (Int32.ofInt xv)), (2, .int (Int32.ofInt c))] [] (Wd A dT t) 0 0 := by
    intro n
    induction n with
    | zero =>
      intro t xv c I F hq hi hm kx
      exact absurd hm (Nat.not_lt_zero _)
    | succ n ih =>
      intro t xv c I F hq hi hm kx
      have b1001 := bi_0 I
      refine z_load_n X (x := c) rfl (List.Mem.tail _ (List.Mem.tail _ (List.Mem.head _))) (z_if_lt X (t := 49) rfl rfl ⟨by first | exact oq_f5cb42c4 hi.2.2.2 hi.2.2.1 | omega, by first | exact oq_d89f13d3 hi.2.2.2 hi.2.1 | omega⟩ (fun g1002 => ?_) (fun g1002 => ?_))
      ·
        refine WS_pq [0, 1, 2] (lv' := [(0, .ref (A 1)), (1, .int (Int32.ofInt xv)), (2, .int (Int32.ofInt c))]) rfl ?_
        exact kx _ c I F hq (by first | exact oq_ea6689cf g1002 hi.2.2.2 hi.2.2.1 | omega)
      ·
        refine z_aload_n X (x := A 1) rfl (List.Mem.head _) (z_getI X 1 rfl (c518_ok rfl) rfl rfl ?_)
        have b1003 := bi_0 I
        refine z_sipush X rfl (z_icmp_ge X (t := 49) rfl rfl (rng_to _) (by decide) (fun g1004 => ?_) (fun g1004 => ?_))
        ·
          refine WS_pq [0, 1, 2] (lv' := [(0, .ref (A 1)), (1, .int (Int32.ofInt xv)), (2, .int (Int32.ofInt c))]) rfl ?_
          exact kx _ c I F hq (by first | exact oq_4fc289d0 hi.2.2.1 p1 g1004 | omega)
        ·
          refine z_aload_n X (x := A 1) rfl (List.Mem.head _) (s_getR X 1 rfl (c518_ok rfl) rfl rfl (z_aload_n X (x := A 1) rfl (List.Mem.head _) (z_getI X 1 rfl (c518_ok rfl) rfl rfl ?_)))
          have b1005 := bi_0 I
          refine z_load_n X (x := xv) rfl (List.Mem.tail _ (List.Mem.head _)) (z_load_n X (x := c) rfl (List.Mem.tail _ (List.Mem.tail _ (List.Mem.head _))) (z_byU X rfl rfl rfl (fun e1006 he1006 ie1006 je1006 => ?_)))
          show WS k 32 [(0, .ref (A 1)), (1, .int (Int32.ofInt xv)), (2, .int (Int32.ofInt c))] [.int (Int32.ofInt e1006), .int (Int32.ofInt (iI t 0)), .ref (A 2)] (Wd A dT t) 0 0
          refine z_ast X 2 rfl (c518_ok rfl) rfl (by first | exact b1005.1 | omega) (show (iI t 0) < 200 by first | exact g1004 | omega) (cbig_ok rfl) (wd_gen (fun s1007 hs1007 => ?_))
          have Is1007 : Bd s1007 := eqB hs1007 (bd_C I (show (0 : Int) ≤ e1006 ∧ e1006 ≤ 255 by first | exact And.intro (ie1006) (je1006) | omega) ⟨by first | exact oq_fa4e5087 ie1006 | omega, by first | exact oq_4567a937 je1006 | omega⟩)
          have Fs1007 := eqF hs1007 (fm_C F (inl_ok (a := 0) rfl))
          have ws1007_0 : iI s1007 0 = iI t 0 := eqI hs1007 rfl
          refine z_aload_n X (x := A 1) rfl (List.Mem.head _) (w_dup X.1 (ax_d X (show cdA 127 34 = some (.dup, 1, 0, 0, 0) from rfl)) rfl (z_getI X 1 rfl (c518_ok rfl) rfl rfl ?_))
          have b1008 := bi_0 Is1007
          refine z_const X rfl (z_add X rfl (s_putI X 1 rfl (c518_ok rfl) rfl rfl (by decide) rfl rfl rfl (wd_gen (fun s1009 hs1009 => ?_))))
          have Is1009 : Bd s1009 := eqB hs1009 (bd_I Is1007 (show (0 : Int) ≤ ((iI s1007 0) + 1) ∧ ((iI s1007 0) + 1) ≤ 200 by first | exact ⟨oq_54f49eb5 b1008.1, oq_c35a0598 ws1007_0 g1004⟩ | omega) ⟨by first | exact oq_74de1e16 b1008.1 | omega, by first | exact oq_bb8d498d b1008.2 | omega⟩)
          have Fs1009 := eqF hs1009 (fm_I Fs1007 (inl_ok (a := 0) rfl))
          have vs1009 : iI s1009 0 = ((iI s1007 0) + 1) := eqI hs1009 (iI_u ⟨by first | exact oq_74de1e16 b1008.1 | omega, by first | exact oq_bb8d498d b1008.2 | omega⟩)
          refine z_inc X (x := c) (lv' := [(2, .int (Int32.ofInt (c + (-8)))), (0, .ref (A 1)), (1, .int (Int32.ofInt xv))]) rfl (by decide) (List.Mem.tail _ (List.Mem.tail _ (List.Mem.head _))) (fun _ h => h) (z_goto X (t := 3) rfl rfl (WS_pq [1, 2, 0] (lv' := [(0, .ref (A 1)), (1, .int (Int32.ofInt xv)), (2, .int (Int32.ofInt (c + (-8))))]) rfl ?_))
          exact ih _ xv (c + (-8)) Is1009 Fs1009 (fdp_eq (fdp_sam (t := s1007) (by rw [hs1007]; exact fdp_up hq (by first | exact b1005.1 | omega) (by first | exact oq_e3e79d0c hi.2.1 | omega) ⟨by first | exact oq_fa4e5087 ie1006 | omega, by first | exact oq_4567a937 je1006 | omega⟩ (by show e1006 = byT x (24 - 8 * (iI t 0 - iI s 0)); rw [show 24 - 8 * (iI t 0 - iI s 0) = c by first | exact oq_dc168fc6 hi.2.2.2 | omega, show x = xv by first | exact oq_18d11be6 hi.1 | omega]; exact he1006)) (by rw [hs1009]; exact sam_rf)) rfl (by first | exact oq_e09667dd vs1009 ws1007_0 | omega)) (by first | exact ⟨hi.1, oq_8fa37b92 vs1009 ws1007_0 hi.2.1, oq_62cc9666 vs1009 ws1007_0 g1002 hi.2.2.2, oq_770cdc6a vs1009 hi.2.2.2 ws1007_0⟩ | omega) (by first | exact qk_me hm (by decide) (oq_8b83adc9 g1002) | exact oq_6d73997a g1002 hm | omega) kx
  refine z_bipush X rfl (z_store_n X (lv' := [(2, .int (Int32.ofInt 24)), (0, .ref (A 1)), (1, .int (Int32.ofInt x))]) rfl (by decide) (fun _ h => h) (WS_pq [1, 2, 0] (lv' := [(0, .ref (A 1)), (1, .int (Int32.ofInt x)), (2, .int (Int32.ofInt 24))]) rfl (L3 ((24 + 8 : Int).toNat + 1) s x 24 I F fdp_0 (by first | exact ⟨by decide, by decide, by decide, by decide⟩ | exact And.intro (rfl) (And.intro (oq_6b3a8341) (And.intro (oq_4fa968a3) (oq_6a272da9))) | omega) (Nat.lt_succ_self _) ?_)))
  intro s2 x3 Is2 Fs2 Qs2 hs2
  have b4 := bi_0 Is2
  exact w_vret X.1 q hRt (ax_d X (show cdA 127 49 = some (.return_, 1, 0, 0, 0) from rfl)) (Nat.zero_le _) (Nat.zero_le _) ⟨_, rfl, Is2, Fs2, rfl, ⟨by first | exact hs2 | omega, Qs2⟩⟩
set_option maxRecDepth 4000 in
theorem c10_takeAll2 (G : GX l s0 D tys a0 dT) (I : Bd s) {x1 x2 x3 x4 x5 : Int} (p0 : rng x1) (p1 : rng x2) (p2 : rng x3) (p3 : rng x4) (p4 : rng x5) : CT l s0 D A dT 126 (rmN 126) [.ref (A 1), .int (Int32.ofInt x1), .int (Int32.ofInt x2), .int (Int32.ofInt x3), .int (Int32.ofInt x4), .int (Int32.ofInt x5)] s (fun o t => Bd t ∧ Fm [0] [0] s t ∧ ∃ e, o = .inl (some (.int (Int32.ofInt e))) ∧ rng e ∧ ((iI s 0 ≤ 180 ∧ iI t 0 = iI s 0 + 20 ∧ e = iI t 0 ∧ FDP 0 (fvT x1 x2 x3 x4 x5) (iI s 0) (iI t 0) s t) ∨ (180 < iI s 0 ∧ iI t 0 = iI s 0 ∧ e = -1 ∧ SAM 0 s t))) := by
  refine ct_ofX G (by decide) (Nat.le_of_ble_eq_true rfl) (fun k X E ET hRt hXt q => ?_)
  show WS k 0 [(0, .ref (A 1)), (1, .int (Int32.ofInt x1)), (2, .int (Int32.ofInt x2)), (3, .int (Int32.ofInt x3)), (4, .int (Int32.ofInt x4)), (5, .int (Int32.ofInt x5))] [] _ 0 0
  have F : Fm [0] [0] s s := fm_rf _ _ s
  have fd00 : FDP 0 (fvT x1 x2 x3 x4 x5) (iI s 0) (iI s 0) s s := fdp_0
  have b1 := bi_0 I
  refine z_aload_n X (x := A 1) rfl (List.Mem.head _) (z_getI X 1 rfl (c518_ok rfl) rfl rfl ?_)
  have b2 := bi_0 I
  refine z_bipush X rfl (z_add X rfl (z_sipush X rfl (z_icmp_le X (t := 15) rfl rfl ⟨by first | exact oq_0de1c162 b2.1 | omega, by first | exact oq_ed776728 b2.2 | omega⟩ (by decide) (fun g3 => ?_) (fun g3 => ?_))))
  ·
    refine z_aload_n X (x := A 1) rfl (List.Mem.head _) (z_load_n X (x := x1) rfl (List.Mem.tail _ (List.Mem.head _)) (zcV_v0 X E 1 (As := [.int (Int32.ofInt x1)]) (st := []) rfl rfl rfl rfl (c10_take2 G I (by first | exact ⟨p0.1, p0.2⟩ | omega) (by first | exact oq_07cf5768 g3 | omega)) rfl (Nat.le_of_ble_eq_true rfl) (fun s4 Is4 Fs4 hps4 => ?_)))
    have Gs4 := fm_tq F Fs4 rfl rfl
    have b6 := bi_0 Is4
    have fds4 : FDP 0 (fvT x1 x2 x3 x4 x5) (iI s 0) (iI s4 0) s s4 := fdp_ts fd00 hps4.2 (by first | exact oq_15ec32ab | omega) (by first | exact oq_ef8a2437 hps4.1 | omega) (fun i h1 h2 => by show byT x1 (24 - 8 * (i - (iI s 0 - iI s 0))) = _; rw [show iI s 0 - iI s 0 = 0 by first | exact oq_48b4411c | omega]; exact fv_0 (by first | exact oq_29780a03 h1 | omega) (by first | exact oq_5a699c61 h2 hps4.1 | omega))
    refine z_aload_n X (x := A 1) rfl (List.Mem.head _) (z_load_n X (x := x2) rfl (List.Mem.tail _ (List.Mem.tail _ (List.Mem.head _))) (zcV_v0 X E 1 (As := [.int (Int32.ofInt x2)]) (st := []) rfl rfl rfl rfl (c10_take2 G Is4 (by first | exact ⟨p1.1, p1.2⟩ | omega) (by first | exact oq_3dd1fc40 hps4.1 g3 | omega)) rfl (Nat.le_of_ble_eq_true rfl) (fun s7 Is7 Fs7 hps7 => ?_)))
    have Gs7 := fm_tq Gs4 Fs7 rfl rfl
    have b9 := bi_0 Is7
    have fds7 : FDP 0 (fvT x1 x2 x3 x4 x5) (iI s 0) (iI s7 0) s s7 := fdp_ts fds4 hps7.2 (by first | exact oq_ef8a2437 hps4.1 | omega) (by first | exact oq_ef8a2437 hps7.1 | omega) (fun i h1 h2 => by show byT x2 (24 - 8 * (i - (iI s4 0 - iI s 0))) = _; rw [show iI s4 0 - iI s 0 = 4 by first | exact oq_ce21e504 hps4.1 | omega]; exact fv_1 (by first | exact oq_a845282e h1 hps4.1 | omega) (by first | exact oq_8c317f69 h2 hps7.1 hps4.1 | omega))
    refine z_aload_n X (x := A 1) rfl (List.Mem.head _) (z_load_n X (x := x3) rfl (List.Mem.tail _ (List.Mem.tail _ (List.Mem.tail _ (List.Mem.head _)))) (zcV_v0 X E 1 (As := [.int (Int32.ofInt x3)]) (st := []) rfl rfl rfl rfl (c10_take2 G Is7 (by first | exact ⟨p2.1, p2.2⟩ | omega) (by first | exact oq_456275d4 hps7.1 hps4.1 g3 | omega)) rfl (Nat.le_of_ble_eq_true rfl) (fun s10 Is10 Fs10 hps10 => ?_)))
    have Gs10 := fm_tq Gs7 Fs10 rfl rfl
    have b12 := bi_0 Is10
    have fds10 : FDP 0 (fvT x1 x2 x3 x4 x5) (iI s 0) (iI s10 0) s s10 := fdp_ts fds7 hps10.2 (by first | exact oq_8ec8c3b1 hps7.1 hps4.1 | omega) (by first | exact oq_ef8a2437 hps10.1 | omega) (fun i h1 h2 => by show byT x3 (24 - 8 * (i - (iI s7 0 - iI s 0))) = _; rw [show iI s7 0 - iI s 0 = 8 by first | exact oq_ccb38cc5 hps7.1 hps4.1 | omega]; exact fv_2 (by first | exact oq_765015ee h1 hps7.1 hps4.1 | omega) (by first | exact oq_411587a1 h2 hps10.1 hps7.1 hps4.1 | omega))
    refine z_aload_n X (x := A 1) rfl (List.Mem.head _) (z_load X (x := x4) rfl (List.Mem.tail _ (List.Mem.tail _ (List.Mem.tail _ (List.Mem.tail _ (List.Mem.head _))))) (zcV_v0 X E 1 (As := [.int (Int32.ofInt x4)]) (st := []) rfl rfl rfl rfl (c10_take2 G Is10 (by first | exact ⟨p3.1, p3.2⟩ | omega) (by first | exact oq_3237836e hps10.1 hps7.1 hps4.1 g3 | omega)) rfl (Nat.le_of_ble_eq_true rfl) (fun s13 Is13 Fs13 hps13 => ?_)))
    have Gs13 := fm_tq Gs10 Fs13 rfl rfl
    have b15 := bi_0 Is13
    have fds13 : FDP 0 (fvT x1 x2 x3 x4 x5) (iI s 0) (iI s13 0) s s13 := fdp_ts fds10 hps13.2 (by first | exact oq_64beb647 hps10.1 hps7.1 hps4.1 | omega) (by first | exact oq_ef8a2437 hps13.1 | omega) (fun i h1 h2 => by show byT x4 (24 - 8 * (i - (iI s10 0 - iI s 0))) = _; rw [show iI s10 0 - iI s 0 = 12 by first | exact oq_34d18b70 hps10.1 hps7.1 hps4.1 | omega]; exact fv_3 (by first | exact oq_12b11a34 h1 hps10.1 hps7.1 hps4.1 | omega) (by first | exact oq_8b45353f h2 hps13.1 hps10.1 hps7.1 hps4.1 | omega))
    refine z_aload_n X (x := A 1) rfl (List.Mem.head _) (z_load X (x := x5) rfl (List.Mem.tail _ (List.Mem.tail _ (List.Mem.tail _ (List.Mem.tail _ (List.Mem.tail _ (List.Mem.head _)))))) (zcV_v0 X E 1 (As := [.int (Int32.ofInt x5)]) (st := []) rfl rfl rfl rfl (c10_take2 G Is13 (by first | exact ⟨p4.1, p4.2⟩ | omega) (by first | exact oq_b36db626 hps13.1 hps10.1 hps7.1 hps4.1 g3 | omega)) rfl (Nat.le_of_ble_eq_true rfl) (fun s16 Is16 Fs16 hps16 => ?_)))
    have Gs16 := fm_tq Gs13 Fs16 rfl rfl
    have b18 := bi_0 Is16
    have fds16 : FDP 0 (fvT x1 x2 x3 x4 x5) (iI s 0) (iI s16 0) s s16 := fdp_ts fds13 hps16.2 (by first | exact oq_3519cf58 hps13.1 hps10.1 hps7.1 hps4.1 | omega) (by first | exact oq_ef8a2437 hps16.1 | omega) (fun i h1 h2 => by show byT x5 (24 - 8 * (i - (iI s13 0 - iI s 0))) = _; rw [show iI s13 0 - iI s 0 = 16 by first | exact oq_60868675 hps13.1 hps10.1 hps7.1 hps4.1 | omega]; exact fv_4 (by first | exact oq_5a0c7237 h1 hps13.1 hps10.1 hps7.1 hps4.1 | omega) (by first | exact oq_1430306a h2 hps16.1 hps13.1 hps10.1 hps7.1 hps4.1 | omega))
    refine z_aload_n X (x := A 1) rfl (List.Mem.head _) (z_getI X 1 rfl (c518_ok rfl) rfl rfl ?_)
    have b19 := bi_0 Is16
    exact w_iret X.1 q hRt rfl (ax_d X (show cdA 126 46 = some (.ireturn, 1, 0, 0, 0) from rfl)) (Nat.zero_le _) (Nat.zero_le _) ⟨_, rfl, Is16, Gs16, (iI s16 0), rfl, (rng_to _), Or.inl ⟨by first | exact oq_f65ea7aa g3 | omega, by first | exact oq_a1893312 hps16.1 hps13.1 hps10.1 hps7.1 hps4.1 | omega, by first | exact rfl | omega, fds16⟩⟩
  ·
    refine z_const X rfl ?_
    exact w_iret X.1 q hRt rfl (ax_d X (show cdA 126 14 = some (.ireturn, 1, 0, 0, 0) from rfl)) (Nat.zero_le _) (Nat.zero_le _) ⟨_, rfl, I, F, (-1), rfl, (by decide), Or.inr ⟨by first | exact oq_4a84d32d g3 | omega, by first | exact rfl | omega, by decide, sam_rf⟩⟩
set_option maxRecDepth 4000 in
theorem cs_feed2 (G : GX l s0 D tys a0 dT) (I : Bd s) {x1 x2 x3 x4 x5 : Int} (p0 : rng x1) (p1 : rng x2) (p2 : rng x3) (p3 : rng x4) (p4 : rng x5) : CT l s0 D A dT 135 (rmN 135) [.ref (A 0), .int (Int32.ofInt x1), .int (Int32.ofInt x2), .int (Int32.ofInt x3), .int (Int32.ofInt x4), .int (Int32.ofInt x5)] s (fun o t => Bd t ∧ Fm [0] [0] s t ∧ ∃ e, o = .inl (some (.int (Int32.ofInt e))) ∧ rng e ∧ ((iI s 0 ≤ 180 ∧ iI t 0 = iI s 0 + 20 ∧ e = iI t 0 ∧ FDP 0 (fvT x1 x2 x3 x4 x5) (iI s 0) (iI t 0) s t) ∨ (180 < iI s 0 ∧ iI t 0 = iI s 0 ∧ e = -1 ∧ SAM 0 s t))) := by
  refine ct_ofX G (by decide) (Nat.le_of_ble_eq_true rfl) (fun k X E ET hRt hXt q => ?_)
  show WS k 0 [(0, .ref (A 0)), (1, .int (Int32.ofInt x1)), (2, .int (Int32.ofInt x2)), (3, .int (Int32.ofInt x3)), (4, .int (Int32.ofInt x4)), (5, .int (Int32.ofInt x5))] [] _ 0 0
  have F : Fm [0] [0] s s := fm_rf _ _ s
  have b1 := bi_0 I
  refine z_aload_n X (x := A 0) rfl (List.Mem.head _) (s_getR X 0 rfl (c518_ok rfl) rfl rfl (z_load_n X (x := x1) rfl (List.Mem.tail _ (List.Mem.head _)) (z_load_n X (x := x2) rfl (List.Mem.tail _ (List.Mem.tail _ (List.Mem.head _))) (z_load_n X (x := x3) rfl (List.Mem.tail _ (List.Mem.tail _ (List.Mem.tail _ (List.Mem.head _)))) (z_load X (x := x4) rfl (List.Mem.tail _ (List.Mem.tail _ (List.Mem.tail _ (List.Mem.tail _ (List.Mem.head _))))) (z_load X (x := x5) rfl (List.Mem.tail _ (List.Mem.tail _ (List.Mem.tail _ (List.Mem.tail _ (List.Mem.tail _ (List.Mem.head _)))))) (zcV_i0 X E 1 (As := [.int (Int32.ofInt x1), .int (Int32.ofInt x2), .int (Int32.ofInt x3), .int (Int32.ofInt x4), .int (Int32.ofInt x5)]) (st := []) rfl rfl rfl rfl (c10_takeAll2 G I (by first | exact ⟨p0.1, p0.2⟩ | omega) (by first | exact ⟨p1.1, p1.2⟩ | omega) (by first | exact ⟨p2.1, p2.2⟩ | omega) (by first | exact ⟨p3.1, p3.2⟩ | omega) (by first | exact ⟨p4.1, p4.2⟩ | omega)) rfl (Nat.le_of_ble_eq_true rfl) (fun s2 e3 Is2 Fs2 hrs2 hps2 => ?_))))))))
  have Gs2 := fm_tq F Fs2 rfl rfl
  have b4 := bi_0 Is2
  exact w_iret X.1 q hRt rfl (ax_d X (show cdA 135 14 = some (.ireturn, 1, 0, 0, 0) from rfl)) (Nat.zero_le _) (Nat.zero_le _) ⟨_, rfl, Is2, Gs2, e3, rfl, hrs2, hps2⟩
set_option maxRecDepth 4000 in
theorem k_feed2 (G : GX l s0 D tys a0 dT) (I : Bd s) {x1 x2 x3 x4 x5 : Int} (p0 : rng x1) (p1 : rng x2) (p2 : rng x3) (p3 : rng x4) (p4 : rng x5) : CT l s0 D A dT 191 (rmN 191) [.ref (A 179), .int (Int32.ofInt x1), .int (Int32.ofInt x2), .int (Int32.ofInt x3), .int (Int32.ofInt x4), .int (Int32.ofInt x5)] s (fun o t => Bd t ∧ Fm [73, 74] [157] s t ∧ ∃ e, o = .inl (some (.int (Int32.ofInt e))) ∧ rng e ∧ ((iI s 74 ≤ 180 ∧ iI t 74 = iI s 74 + 20 ∧ e = iI t 74 ∧ FDP 157 (fvT x1 x2 x3 x4 x5) (iI s 74) (iI t 74) s t) ∨ (180 < iI s 74 ∧ iI t 74 = iI s 74 ∧ e = -1 ∧ SAM 157 s t))) := by
  refine ct_of G (by decide) (Nat.le_of_ble_eq_true rfl) (fun k X E hRt hXt q => ?_)
  show WS k 0 [(0, .ref (A 179)), (1, .int (Int32.ofInt x1)), (2, .int (Int32.ofInt x2)), (3, .int (Int32.ofInt x3)), (4, .int (Int32.ofInt x4)), (5, .int (Int32.ofInt x5))] [] _ 0 0
  have F : Fm [73, 74] [157] s s := fm_rf _ _ s
  have aw0_157 : SAM 157 s s := sam_rf
  have b1 := bi_74 I
  have L23 : ∀ (n : Nat) (t : PS) (x1v x2v x3v x4v x5v c : Int), Bd t → Fm [73, 74] [157] s t → (FDP 157 (fvT x1 x2 x3 x4 x5) (iI s 74) (iI t 74) s t) → ((x1v = x1 ∧ x2v = x2 ∧ x3v = x3 ∧ x4v = x4 ∧ x5v = x5) ∧ 0 ≤ c ∧ c ≤ 20 ∧ iI t 74 = iI s 74 + c ∧ iI s 74 ≤ 180) → (20 - c : Int).toNat < n → (∀ (t' : PS) (c' : Int), Bd t' → Fm [73, 74] [157] s t' → (FDP 157 (fvT x1 x2 x3 x4 x5) (iI s 74) (iI t' 74) s t') → (iI t' 74 = iI s 74 + 20 ∧ iI s 74 ≤ 180) → WS k 120 [(0, .ref (A 179)), (1, .int (Int32.ofInt x1v)), (2, .int (Int32.ofInt x2v)), (3, .int (Int32.ofInt x3v)), (4, .int (Int32.ofInt x4v)), (5, .int (Int32.ofInt x5v)), (6, .int (Int32.ofInt c'))] [] (Wd A dT t') 0 0) → WS k 23 [(0, .ref (A 179)), (1, .int (Int32.ofInt x1v)), (2, .int (Int32.ofInt x2v)), (3, .int (Int32.ofInt x3v)), (4, .int (Int32.ofInt x4v)), (5, .int (Int32.ofInt x5v)), (6, .int (Int32.ofInt c))] [] (Wd A dT t) 0 0 := by
    intro n
    induction n with
    | zero =>
      intro t x1v x2v x3v x4v x5v c I F hq hi hm kx
      exact absurd hm (Nat.not_lt_zero _)
    | succ n ih =>
      intro t x1v x2v x3v x4v x5v c I F hq hi hm kx
      have b1001 := bi_74 I
      refine z_load X (x := c) rfl (List.Mem.tail _ (List.Mem.tail _ (List.Mem.tail _ (List.Mem.tail _ (List.Mem.tail _ (List.Mem.tail _ (List.Mem.head _))))))) (z_bipush X rfl (z_icmp_ge X (t := 120) rfl rfl ⟨by first | exact oq_fa4e5087 hi.2.1 | omega, by first | exact oq_d1028203 hi.2.2.1 | omega⟩ (by decide) (fun g1002 => ?_) (fun g1002 => ?_)))
      ·
        refine WS_pq [0, 1, 2, 3, 4, 5, 6] (lv' := [(0, .ref (A 179)), (1, .int (Int32.ofInt x1v)), (2, .int (Int32.ofInt x2v)), (3, .int (Int32.ofInt x3v)), (4, .int (Int32.ofInt x4v)), (5, .int (Int32.ofInt x5v)), (6, .int (Int32.ofInt c))]) rfl ?_
        exact kx _ c I F hq (by first | exact ⟨oq_17475ac8 hi.2.2.2.1 hi.2.2.1 g1002, hi.2.2.2.2⟩ | omega)
      ·
        refine z_load X (x := c) rfl (List.Mem.tail _ (List.Mem.tail _ (List.Mem.tail _ (List.Mem.tail _ (List.Mem.tail _ (List.Mem.tail _ (List.Mem.head _))))))) (z_const X rfl ?_)
        have N1003 : ∀ e1004 : Int, (((4 ≤ c) ∧ (8 ≤ c) ∧ (12 ≤ c) ∧ (16 ≤ c) ∧ e1004 = x5v) ∨ ((4 ≤ c) ∧ (8 ≤ c) ∧ (12 ≤ c) ∧ (c < 16) ∧ e1004 = x4v) ∨ ((4 ≤ c) ∧ (8 ≤ c) ∧ (c < 12) ∧ e1004 = x3v) ∨ ((4 ≤ c) ∧ (c < 8) ∧ e1004 = x2v) ∨ ((c < 4) ∧ e1004 = x1v)) → WS k 76 [(0, .ref (A 179)), (1, .int (Int32.ofInt x1v)), (2, .int (Int32.ofInt x2v)), (3, .int (Int32.ofInt x3v)), (4, .int (Int32.ofInt x4v)), (5, .int (Int32.ofInt x5v)), (6, .int (Int32.ofInt c))] [.int (Int32.ofInt e1004)] (Wd A dT t) 0 0 := by
          intro e1004 he1004
          refine z_store X (lv' := [(7, .int (Int32.ofInt e1004)), (0, .ref (A 179)), (1, .int (Int32.ofInt x1v)), (2, .int (Int32.ofInt x2v)), (3, .int (Int32.ofInt x3v)), (4, .int (Int32.ofInt x4v)), (5, .int (Int32.ofInt x5v)), (6, .int (Int32.ofInt c))]) rfl (by decide) (fun _ h => h) (z_aload_n X (x := A 179) rfl (List.Mem.tail _ (List.Mem.head _)) (s_getR X 179 rfl (c518_ok rfl) rfl rfl (z_aload_n X (x := A 179) rfl (List.Mem.tail _ (List.Mem.head _)) (z_getI X 179 rfl (c518_ok rfl) rfl rfl ?_))))
          have b1005 := bi_74 I
          refine z_load X (x := e1004) rfl (List.Mem.head _) (z_bipush X rfl (z_bipush X rfl (z_load X (x := c) rfl (List.Mem.tail _ (List.Mem.tail _ (List.Mem.tail _ (List.Mem.tail _ (List.Mem.tail _ (List.Mem.tail _ (List.Mem.tail _ (List.Mem.head _)))))))) (z_const X rfl (z_mod X rfl (by first | exact hi.2.1 | omega) ⟨by first | exact oq_fa4e5087 hi.2.1 | omega, by first | exact oq_c3313697 g1002 | omega⟩ (by decide) (by decide) (z_mul X rfl (z_sub X rfl ?_)))))))
          have hsel : e1004 = selT x1 x2 x3 x4 x5 c := by unfold selT; repeat' split; all_goals omega
          refine z_byS X (by first | exact And.intro (oq_472595fc) (oq_cfee6d5b) | (clear he1004; omega) | omega) rfl rfl rfl (fun e1006 he1006 ie1006 je1006 => ?_)
          show WS k 103 [(7, .int (Int32.ofInt e1004)), (0, .ref (A 179)), (1, .int (Int32.ofInt x1v)), (2, .int (Int32.ofInt x2v)), (3, .int (Int32.ofInt x3v)), (4, .int (Int32.ofInt x4v)), (5, .int (Int32.ofInt x5v)), (6, .int (Int32.ofInt c))] [.int (Int32.ofInt e1006), .int (Int32.ofInt (iI t 74)), .ref (A 180)] (Wd A dT t) 0 0
          refine z_ast X 180 rfl (c518_ok rfl) rfl (by first | exact b1005.1 | omega) (show (iI t 74) < 200 by first | exact oq_ae322fb4 hi.2.2.2.1 hi.2.2.2.2 g1002 | omega) (cbig_ok rfl) (wd_gen (fun s1007 hs1007 => ?_))
          have Is1007 : Bd s1007 := eqB hs1007 (bd_C I (show (0 : Int) ≤ e1006 ∧ e1006 ≤ 255 by first | exact And.intro (ie1006) (je1006) | (clear he1004; omega) | omega) ⟨by first | exact oq_fa4e5087 ie1006 | (clear he1004; omega) | omega, by first | exact oq_4567a937 je1006 | (clear he1004; omega) | omega⟩)
          have Fs1007 := eqF hs1007 (fm_C F (inl_ok (a := 157) rfl))
          have ws1007_74 : iI s1007 74 = iI t 74 := eqI hs1007 rfl
          refine z_aload_n X (x := A 179) rfl (List.Mem.tail _ (List.Mem.head _)) (w_dup X.1 (ax_d X (show cdA 191 105 = some (.dup, 1, 0, 0, 0) from rfl)) rfl (z_getI X 179 rfl (c518_ok rfl) rfl rfl ?_))
          have b1008 := bi_74 Is1007
          refine z_const X rfl (z_add X rfl (s_putI X 179 rfl (c518_ok rfl) rfl rfl (by decide) rfl rfl rfl (wd_gen (fun s1009 hs1009 => ?_))))
          have Is1009 : Bd s1009 := eqB hs1009 (bd_I Is1007 (show (0 : Int) ≤ ((iI s1007 74) + 1) ∧ ((iI s1007 74) + 1) ≤ 200 by first | exact ⟨oq_54f49eb5 b1008.1, oq_e59c0308 ws1007_74 hi.2.2.2.1 hi.2.2.2.2 g1002⟩ | omega) ⟨by first | exact oq_74de1e16 b1008.1 | omega, by first | exact oq_bb8d498d b1008.2 | omega⟩)
          have Fs1009 := eqF hs1009 (fm_I Fs1007 (inl_ok (a := 74) rfl))
          have vs1009 : iI s1009 74 = ((iI s1007 74) + 1) := eqI hs1009 (iI_u ⟨by first | exact oq_74de1e16 b1008.1 | omega, by first | exact oq_bb8d498d b1008.2 | omega⟩)
          refine z_inc X (x := c) (lv' := [(6, .int (Int32.ofInt (c + 1))), (7, .int (Int32.ofInt e1004)), (0, .ref (A 179)), (1, .int (Int32.ofInt x1v)), (2, .int (Int32.ofInt x2v)), (3, .int (Int32.ofInt x3v)), (4, .int (Int32.ofInt x4v)), (5, .int (Int32.ofInt x5v))]) rfl (by decide) (List.Mem.tail _ (List.Mem.tail _ (List.Mem.tail _ (List.Mem.tail _ (List.Mem.tail _ (List.Mem.tail _ (List.Mem.tail _ (List.Mem.head _)))))))) (fun _ h => h) (z_goto X (t := 23) rfl rfl (WS_pq [2, 3, 4, 5, 6, 7, 0] (lv' := [(0, .ref (A 179)), (1, .int (Int32.ofInt x1v)), (2, .int (Int32.ofInt x2v)), (3, .int (Int32.ofInt x3v)), (4, .int (Int32.ofInt x4v)), (5, .int (Int32.ofInt x5v)), (6, .int (Int32.ofInt (c + 1)))]) rfl ?_))
          exact ih _ x1v x2v x3v x4v x5v (c + 1) Is1009 Fs1009 (fdp_eq (fdp_sam (t := s1007) (by rw [hs1007]; exact fdp_up hq (by first | exact b1005.1 | (clear he1004; omega) | omega) (by first | exact oq_4ca4feb0 hi.2.2.2.1 hi.2.1 | (clear he1004; omega) | omega) ⟨by first | exact oq_fa4e5087 ie1006 | (clear he1004; omega) | omega, by first | exact oq_4567a937 je1006 | (clear he1004; omega) | omega⟩ (by rw [he1006]; show byT e1004 (24 - (8 * (c % 4))) = byT (selT x1 x2 x3 x4 x5 (iI t 74 - iI s 74)) (24 - 8 * ((iI t 74 - iI s 74) % 4)); rw [show iI t 74 - iI s 74 = c by first | exact oq_2b15cb4b hi.2.2.2.1 | (clear he1004; omega) | omega, ← hsel])) (by rw [hs1009]; exact sam_rf)) rfl (by first | exact oq_e09667dd vs1009 ws1007_74 | (clear he1004; omega) | omega)) (by first | exact ⟨And.intro (hi.1.1) (And.intro (hi.1.2.1) (And.intro (hi.1.2.2.1) (And.intro (hi.1.2.2.2.1) (hi.1.2.2.2.2)))), oq_54f49eb5 hi.2.1, oq_34835694 g1002, oq_cb7deedc vs1009 hi.2.2.2.1 ws1007_74, hi.2.2.2.2⟩ | omega) (by first | exact qk_me hm (by decide) (oq_53ce64b9 g1002) | exact oq_8e4f7fcc g1002 hm | omega) kx
        refine z_icmp_ge X (t := 40) rfl rfl ⟨by first | exact oq_fa4e5087 hi.2.1 | omega, by first | exact oq_c3313697 g1002 | omega⟩ (by decide) (fun g1010 => ?_) (fun g1010 => ?_)
        ·
          refine z_load X (x := c) rfl (List.Mem.tail _ (List.Mem.tail _ (List.Mem.tail _ (List.Mem.tail _ (List.Mem.tail _ (List.Mem.tail _ (List.Mem.head _))))))) (z_bipush X rfl (z_icmp_ge X (t := 51) rfl rfl ⟨by first | exact oq_866185f5 g1010 | omega, by first | exact oq_c3313697 g1002 | omega⟩ (by decide) (fun g1011 => ?_) (fun g1011 => ?_)))
          ·
            refine z_load X (x := c) rfl (List.Mem.tail _ (List.Mem.tail _ (List.Mem.tail _ (List.Mem.tail _ (List.Mem.tail _ (List.Mem.tail _ (List.Mem.head _))))))) (z_bipush X rfl (z_icmp_ge X (t := 62) rfl rfl ⟨by first | exact oq_ebc40354 g1011 | omega, by first | exact oq_c3313697 g1002 | omega⟩ (by decide) (fun g1012 => ?_) (fun g1012 => ?_)))
            ·
              refine z_load X (x := c) rfl (List.Mem.tail _ (List.Mem.tail _ (List.Mem.tail _ (List.Mem.tail _ (List.Mem.tail _ (List.Mem.tail _ (List.Mem.head _))))))) (z_bipush X rfl (z_icmp_ge X (t := 74) rfl rfl ⟨by first | exact oq_f1d511b8 g1012 | omega, by first | exact oq_c3313697 g1002 | omega⟩ (by decide) (fun g1013 => ?_) (fun g1013 => ?_)))
              ·
                exact z_load X (x := x5v) rfl (List.Mem.tail _ (List.Mem.tail _ (List.Mem.tail _ (List.Mem.tail _ (List.Mem.tail _ (List.Mem.head _)))))) (N1003 _ (Or.inl ⟨g1010, g1011, g1012, g1013, rfl⟩))
              ·
                exact z_load X (x := x4v) rfl (List.Mem.tail _ (List.Mem.tail _ (List.Mem.tail _ (List.Mem.tail _ (List.Mem.head _))))) (z_goto X (t := 76) rfl rfl (N1003 _ (Or.inr (Or.inl ⟨g1010, g1011, g1012, g1013, rfl⟩))))
            ·
              exact z_load_n X (x := x3v) rfl (List.Mem.tail _ (List.Mem.tail _ (List.Mem.tail _ (List.Mem.head _)))) (z_goto X (t := 76) rfl rfl (N1003 _ (Or.inr (Or.inr (Or.inl ⟨g1010, g1011, g1012, rfl⟩)))))
          ·
            exact z_load_n X (x := x2v) rfl (List.Mem.tail _ (List.Mem.tail _ (List.Mem.head _))) (z_goto X (t := 76) rfl rfl (N1003 _ (Or.inr (Or.inr (Or.inr (Or.inl ⟨g1010, g1011, rfl⟩))))))
        ·
          exact z_load_n X (x := x1v) rfl (List.Mem.tail _ (List.Mem.head _)) (z_goto X (t := 76) rfl rfl (N1003 _ (Or.inr (Or.inr (Or.inr (Or.inr (⟨g1010, rfl⟩)))))))
  refine z_aload_n X (x := A 179) rfl (List.Mem.head _) (z_const X rfl (s_putI X 179 rfl (c518_ok rfl) rfl rfl (by decide) rfl rfl rfl (wd_gen (fun s2 hs2 => ?_))))
  have Is2 : Bd s2 := eqB hs2 (bd_I I (show (0 : Int) ≤ 0 ∧ 0 ≤ 3 by first | exact ⟨by decide, by decide⟩ | omega) (by decide))
  have Fs2 := eqF hs2 (fm_I F (inl_ok (a := 73) rfl))
  have vs2 : iI s2 73 = 0 := eqI hs2 (iI_u (by decide))
  have ws2_74 : iI s2 74 = iI s 74 := eqI hs2 rfl
  have aws2_157 : SAM 157 s s2 := by rw [hs2]; exact aw0_157
  refine z_aload_n X (x := A 179) rfl (List.Mem.head _) (z_getI X 179 rfl (c518_ok rfl) rfl rfl ?_)
  have b3 := bi_74 Is2
  refine z_bipush X rfl (z_add X rfl (z_sipush X rfl (z_icmp_le X (t := 20) rfl rfl ⟨by first | exact oq_0de1c162 b3.1 | omega, by first | exact oq_ed776728 b3.2 | omega⟩ (by decide) (fun g4 => ?_) (fun g4 => ?_))))
  ·
    refine z_const X rfl (z_store X (lv' := [(6, .int (Int32.ofInt 0)), (0, .ref (A 179)), (1, .int (Int32.ofInt x1)), (2, .int (Int32.ofInt x2)), (3, .int (Int32.ofInt x3)), (4, .int (Int32.ofInt x4)), (5, .int (Int32.ofInt x5))]) rfl (by decide) (fun _ h => h) (WS_pq [1, 2, 3, 4, 5, 6, 0] (lv' := [(0, .ref (A 179)), (1, .int (Int32.ofInt x1)), (2, .int (Int32.ofInt x2)), (3, .int (Int32.ofInt x3)), (4, .int (Int32.ofInt x4)), (5, .int (Int32.ofInt x5)), (6, .int (Int32.ofInt 0))]) rfl (L23 ((20 - 0 : Int).toNat + 1) s2 x1 x2 x3 x4 x5 0 Is2 Fs2 (fdp_eq (fdp_sam (fdp_0 (z := iI s 74)) aws2_157) rfl (by first | exact oq_18d11be6 ws2_74 | omega)) (by first | exact ⟨And.intro (by decide) (And.intro (by decide) (And.intro (by decide) (And.intro (by decide) (by decide)))), by decide, by decide, oq_ec17a77e ws2_74, oq_2ec15ebf ws2_74 g4⟩ | exact And.intro (And.intro (rfl) (And.intro (rfl) (And.intro (rfl) (And.intro (rfl) (rfl))))) (And.intro (oq_0fe6b7e2) (And.intro (oq_bfc944d3) (And.intro (oq_ec17a77e ws2_74) (oq_9bfe9b9e g4 ws2_74)))) | omega) (Nat.lt_succ_self _) ?_)))
    intro s5 x6 Is5 Fs5 Qs5 hs5
    have b7 := bi_74 Is5
    refine z_aload_n X (x := A 179) rfl (List.Mem.head _) (z_getI X 179 rfl (c518_ok rfl) rfl rfl ?_)
    have b8 := bi_74 Is5
    exact w_iret X.1 q hRt rfl (ax_d X (show cdA 191 124 = some (.ireturn, 1, 0, 0, 0) from rfl)) (Nat.zero_le _) (Nat.zero_le _) ⟨_, rfl, Is5, Fs5, (iI s5 74), rfl, (rng_to _), Or.inl ⟨by first | exact hs5.2 | omega, by first | exact hs5.1 | omega, by first | exact rfl | omega, fdp_eq (fdp_sam Qs5 sam_rf) (by first | exact rfl | omega) (by first | exact rfl | omega)⟩⟩
  ·
    refine z_const X rfl ?_
    exact w_iret X.1 q hRt rfl (ax_d X (show cdA 191 19 = some (.ireturn, 1, 0, 0, 0) from rfl)) (Nat.zero_le _) (Nat.zero_le _) ⟨_, rfl, Is2, Fs2, (-1), rfl, (by decide), Or.inr ⟨by first | exact oq_dae52d74 ws2_74 g4 | omega, by first | exact ws2_74 | omega, by decide, aws2_157⟩⟩
set_option maxRecDepth 4000 in
theorem cs_needStream2 (G : GX l s0 D tys a0 dT) (I : Bd s) {v : Int} (p0 : rng v) : CT l s0 D A dT 180 (rmN 180) [.ref (A 0), .int (Int32.ofInt v)] s (fun o t => Bd t ∧ Fm [] [] s t ∧ ((o = .inl none ∧ (0 ≤ v ∧ v < iI s 9)) ∨ ∃ x : Nat, o = .inr (exN x) ∧ (x = 1 ∧ (v < 0 ∨ iI s 9 ≤ v)))) := by
  refine ct_ofX G (by decide) (Nat.le_of_ble_eq_true rfl) (fun k X E ET hRt hXt q => ?_)
  show WS k 0 [(0, .ref (A 0)), (1, .int (Int32.ofInt v))] [] _ 0 0
  have F : Fm [] [] s s := fm_rf _ _ s
  have b1 := bi_9 I
  refine z_load_n X (x := v) rfl (List.Mem.tail _ (List.Mem.head _)) (z_if_lt X (t := 15) rfl rfl ⟨by first | exact p0.1 | omega, by first | exact p0.2 | omega⟩ (fun g2 => ?_) (fun g2 => ?_))
  ·
    exact z_throw G X E ET hXt q (st := []) rfl (by decide) (by decide) (Nat.le_of_ble_eq_true rfl) (show 0 + 1 ≤ 1 by decide) (show 0 + 6 ≤ 6 by decide) (show 0 + 1 ≤ 1 by decide) (show 0 + 6 ≤ 6 by decide) ⟨_, rfl, I, F, Or.inr ⟨1, rfl, by first | exact And.intro (rfl) (Or.inl (g2)) | omega⟩⟩
  ·
    refine z_load_n X (x := v) rfl (List.Mem.tail _ (List.Mem.head _)) (z_aload_n X (x := A 0) rfl (List.Mem.head _) (s_getR X 0 rfl (c518_ok rfl) rfl rfl (z_getI X 3 rfl (c518_ok rfl) rfl rfl ?_)))
    have b3 := bi_9 I
    refine z_icmp_lt X (t := 26) rfl rfl ⟨by first | exact p0.1 | omega, by first | exact p0.2 | omega⟩ (rng_to _) (fun g4 => ?_) (fun g4 => ?_)
    ·
      exact w_vret X.1 q hRt (ax_d X (show cdA 180 26 = some (.return_, 1, 0, 0, 0) from rfl)) (Nat.zero_le _) (Nat.zero_le _) ⟨_, rfl, I, F, Or.inl ⟨rfl, by first | exact ⟨g2, g4⟩ | omega⟩⟩
    ·
      exact z_throw G X E ET hXt q (st := []) rfl (by decide) (by decide) (Nat.le_of_ble_eq_true rfl) (show 0 + 1 ≤ 1 by decide) (show 0 + 6 ≤ 6 by decide) (show 0 + 1 ≤ 1 by decide) (show 0 + 6 ≤ 6 by decide) ⟨_, rfl, I, F, Or.inr ⟨1, rfl, by first | exact And.intro (rfl) (Or.inr (g4)) | omega⟩⟩
set_option maxRecDepth 4000 in
theorem cs_needQuarter2 (G : GX l s0 D tys a0 dT) (I : Bd s) {v : Int} (p0 : rng v) : CT l s0 D A dT 183 (rmN 183) [.ref (A 0), .int (Int32.ofInt v)] s (fun o t => Bd t ∧ Fm [] [] s t ∧ ((o = .inl none ∧ (0 ≤ v ∧ v ≤ 23)) ∨ ∃ x : Nat, o = .inr (exN x) ∧ (x = 0 ∧ (v < 0 ∨ 23 < v)))) := by
  refine ct_ofX G (by decide) (Nat.le_of_ble_eq_true rfl) (fun k X E ET hRt hXt q => ?_)
  show WS k 0 [(0, .ref (A 0)), (1, .int (Int32.ofInt v))] [] _ 0 0
  have F : Fm [] [] s s := fm_rf _ _ s
  refine z_aload_n X (x := A 0) rfl (List.Mem.head _) (z_load_n X (x := v) rfl (List.Mem.tail _ (List.Mem.head _)) (z_const X rfl (z_bipush X rfl (z_callV X 0 (rm := rmN 184) (As := [.int (Int32.ofInt v), .int (Int32.ofInt 0), .int (Int32.ofInt 23)]) (st := []) rfl rfl (by decide) rfl (by rw [E.1, E.2.1, E.2.2.1]; exact cs_needWithin2 G I (by first | exact ⟨p0.1, p0.2⟩ | omega) (by first | exact ⟨by decide, by decide⟩ | omega) (by first | exact ⟨by decide, by decide⟩ | omega)) ⟨by rw [E.2.2.2]; exact (show (rmN 184).frames + 1 ≤ (rmN 183).frames by decide), by rw [E.2.2.2]; exact (show 8 + (mNL (miB 184) + 11) + (rmN 184).locals ≤ (rmN 183).locals by decide), by rw [E.2.2.2]; exact (show 0 + 1 ≤ 1 by decide), by rw [E.2.2.2]; exact (show 0 + 6 ≤ 6 by decide)⟩ (Nat.le_of_ble_eq_true rfl) (fun vv s1 hq => ?_) (fun ee s1 hq => ?_)))))
  rotate_left
  · obtain ⟨Is1, Fs1, (⟨hv, hps1⟩ | ⟨xx, hv, hps1⟩)⟩ := hq
    · cases hv
    · cases hv
      have Gs1 := fm_tq F Fs1 rfl rfl
      exact x_out X.1 q (fun x hx => (hXt x hx).elim) (show 1 ≤ 1 by decide) (show 6 ≤ 6 by decide) ⟨_, rfl, Is1, Gs1, Or.inr ⟨xx, rfl, by first | exact And.intro (hps1.1) (hps1.2) | omega⟩⟩
  obtain ⟨Is1, Fs1, (⟨hv, hps1⟩ | ⟨xx, hv, hps1⟩)⟩ := hq
  rotate_left
  · cases hv
  cases hv
  have Gs1 := fm_tq F Fs1 rfl rfl
  show WS k 8 [(0, .ref (A 0)), (1, .int (Int32.ofInt v))] [] (Wd A dT s1) 1 6
  exact w_vret X.1 q hRt (ax_d X (show cdA 183 8 = some (.return_, 1, 0, 0, 0) from rfl)) (show 1 ≤ 1 by decide) (show 6 ≤ 6 by decide) ⟨_, rfl, Is1, Gs1, Or.inl ⟨rfl, by first | exact ⟨hps1.1, hps1.2⟩ | omega⟩⟩
end M87c
