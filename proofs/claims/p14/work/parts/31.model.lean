theorem oq_31e518ae {a0 : Int} (h0 : a0 ≤ 1) (h1 : 0 ≤ a0) : (a0 = 0 ∨ a0 = 1) := by omega
theorem oq_fa4e5087 {a0 : Int} (h0 : 0 ≤ a0) : (-2147483648) ≤ a0 := by omega
theorem oq_22e1e6b0 {a0 : Int} (h0 : a0 ≤ 1) : a0 ≤ 2147483647 := by omega
theorem oq_eb048f71 {a0 a1 a2 a3 : Int} (h0 : a0 ≤ 1) (h1 : 0 ≤ a0) (h2 : ((a1 < a2 ∧ a0 = 0) ∨ ((a2 ≤ a1 ∧ (a3 < a1 ∧ a0 = 0)) ∨ (a2 ≤ a1 ∧ (a1 ≤ a3 ∧ a0 = 1))))) : ((a0 = 1 ∧ (a2 ≤ a1 ∧ a1 ≤ a3)) ∨ (a0 = 0 ∧ (a1 < a2 ∨ a3 < a1))) := by omega
theorem oq_08c8a296 {a0 a1 : Int} (h0 : a0 ≤ 1) (h1 : 0 ≤ a0) (h2 : ((a1 < 48 ∧ a0 = 0) ∨ ((48 ≤ a1 ∧ (57 < a1 ∧ a0 = 0)) ∨ (48 ≤ a1 ∧ (a1 ≤ 57 ∧ a0 = 1))))) : ((a0 = 1 ∧ (48 ≤ a1 ∧ a1 ≤ 57)) ∨ (a0 = 0 ∧ (a1 < 48 ∨ 57 < a1))) := by omega
theorem oq_bde653e9 {a0 : Int} (h0 : (a0 = 0 ∨ a0 = 1)) : (-2147483648) ≤ a0 := by omega
theorem oq_4ad2cb8b {a0 : Int} (h0 : (a0 = 0 ∨ a0 = 1)) : a0 ≤ 2147483647 := by omega
theorem oq_eedb2150 {a0 a1 : Int} (h0 : a0 ≤ 1) (h1 : 0 ≤ a0) (h2 : ((a1 = 0 ∧ a0 = 0) ∨ (a1 ≠ 0 ∧ a0 = 1))) (h3 : 0 ≤ a1) : ((a0 = 0 ∧ a1 = 0) ∨ (a0 = 1 ∧ a1 ≠ 0)) := by omega
theorem oq_3734ab87 {a0 a1 : Int} (h0 : a0 = 0) : (a0 = 1 → a1 = 1) := by omega
theorem oq_03aa4181 {a0 a1 : Int}  : (a0 = 0 → a1 = a1) := by omega
theorem oq_438aa68f {a0 a1 : Int} (h0 : a0 ≤ 1) (h1 : ((a1 = 0 ∧ a0 = 0) ∨ (a1 ≠ 0 ∧ a0 = 1))) (h2 : 0 ≤ a1) (h3 : a1 ≠ 0) : (a0 = 0 ∨ a0 = 1) := by omega
theorem oq_3ad403e6 {a0 a1 : Int} (h0 : a0 ≤ 1) (h1 : ((a1 = 0 ∧ a0 = 0) ∨ (a1 ≠ 0 ∧ a0 = 1))) (h2 : 0 ≤ a1) (h3 : a1 ≠ 0) : ((a0 = 0 ∧ a1 = 0) ∨ (a0 = 1 ∧ a1 ≠ 0)) := by omega
theorem oq_22e5e821 {a0 a1 a2 : Int} (h0 : a0 ≤ 1) (h1 : ((a1 = 0 ∧ a0 = 0) ∨ (a1 ≠ 0 ∧ a0 = 1))) (h2 : 0 ≤ a1) (h3 : a1 ≠ 0) : (a2 = 1 → a0 = 1) := by omega
theorem oq_0da2dd66 {a0 a1 : Int} (h0 : a0 ≠ 0) : (a0 = 0 → a1 = a1) := by omega
theorem oq_2a6e3b50 {a0 : Int} (h0 : 1 ≤ a0) : 0 ≤ a0 := by omega
theorem oq_9462313e {a0 : Int} (h0 : 1 ≤ a0) : (-2147483648) ≤ a0 := by omega
theorem oq_c5520c83 {a0 : Int} (h0 : a0 ≤ 3) : a0 ≤ 2147483647 := by omega
theorem oq_4f030bbc {a0 a1 a2 : Int} (h0 : a0 ≤ 1) (h1 : ((a1 = 0 ∧ a0 = 0) ∨ (a1 ≠ 0 ∧ a0 = 1))) (h2 : a1 = a2) (h3 : 1 ≤ a2) : (a0 = 0 ∨ a0 = 1) := by omega
theorem oq_e232e10b {a0 a1 a2 : Int} (h0 : a0 ≤ 1) (h1 : ((a1 = 0 ∧ a0 = 0) ∨ (a1 ≠ 0 ∧ a0 = 1))) (h2 : a1 = a2) (h3 : 1 ≤ a2) : ((a0 = 0 ∧ a1 = 0) ∨ (a0 = 1 ∧ a1 ≠ 0)) := by omega
theorem oq_b3466af9 {a0 a1 a2 a3 : Int} (h0 : a0 ≤ 1) (h1 : ((a1 = 0 ∧ a0 = 0) ∨ (a1 ≠ 0 ∧ a0 = 1))) (h2 : a1 = a2) (h3 : 1 ≤ a2) : (a3 = 1 → a0 = 1) := by omega
theorem oq_6f3bd9cf {a0 a1 a2 : Int} (h0 : a0 ≠ 0) : (a0 = 0 → a1 = a2) := by omega
theorem oq_f7e7bb0e {a0 : Int} (h0 : a0 ≤ 9) : a0 ≤ 2147483647 := by omega
theorem oq_97ee2c2a {a0 : Int} (h0 : (-1) ≤ a0) : (-2147483648) ≤ a0 := by omega
theorem oq_5a8480eb {a0 : Int} (h0 : a0 ≤ 400) : a0 ≤ 2147483647 := by omega
theorem oq_ed8779e6 {a0 a1 a2 : Int} (h0 : a0 = a1) (h1 : a1 = a2) (h2 : 1 ≤ a2) : a0 ≠ 0 := by omega
theorem oq_e9a2ed3a {a0 a1 a2 a3 a4 a5 : Int} (h0 : ((a0 < a1 ∧ ((0 ≤ a2 ∧ a2 ≤ 1) ∧ (a2 ≠ 0 ∧ ((0 ≤ a3 ∧ a3 ≤ 255) ∧ a4 = a3)))) ∨ ((a0 < a1 ∧ ((0 ≤ a2 ∧ a2 ≤ 1) ∧ (a2 = 0 ∧ ((0 ≤ a5 ∧ a5 ≤ 255) ∧ a4 = a5)))) ∨ (a1 ≤ a0 ∧ a4 = (-1))))) : (-2147483648) ≤ a4 := by omega
theorem oq_bae66a67 {a0 a1 a2 a3 a4 a5 : Int} (h0 : ((a0 < a1 ∧ ((0 ≤ a2 ∧ a2 ≤ 1) ∧ (a2 ≠ 0 ∧ ((0 ≤ a3 ∧ a3 ≤ 255) ∧ a4 = a3)))) ∨ ((a0 < a1 ∧ ((0 ≤ a2 ∧ a2 ≤ 1) ∧ (a2 = 0 ∧ ((0 ≤ a5 ∧ a5 ≤ 255) ∧ a4 = a5)))) ∨ (a1 ≤ a0 ∧ a4 = (-1))))) : a4 ≤ 2147483647 := by omega
theorem oq_736808e1 {a0 a1 a2 a3 a4 a5 : Int} (h0 : ((a0 < a1 ∧ ((0 ≤ a2 ∧ a2 ≤ 1) ∧ (a2 ≠ 0 ∧ ((0 ≤ a3 ∧ a3 ≤ 255) ∧ a4 = a3)))) ∨ ((a0 < a1 ∧ ((0 ≤ a2 ∧ a2 ≤ 1) ∧ (a2 = 0 ∧ ((0 ≤ a5 ∧ a5 ≤ 255) ∧ a4 = a5)))) ∨ (a1 ≤ a0 ∧ a4 = (-1))))) : ((a1 ≤ a0 ∧ a4 = (-1)) ∨ (a0 < a1 ∧ (0 ≤ a4 ∧ a4 ≤ 255))) := by omega
theorem oq_6fca3d72 {a0 a1 : Int} (h0 : a0 < a1) (h1 : a1 ≤ 200) : a0 < 200 := by omega
theorem oq_b70289d5 {a0 a1 : Int} (h0 : a0 < a1) (h1 : a1 ≤ 200) : (a0 : Int).toNat < 200 := by omega
theorem oq_52af2b96 {a0 : Int} (h0 : a0 ≤ 200) : a0 ≤ 2147483647 := by omega
theorem oq_d5af8cc9 {a0 a1 a2 a3 a4 a5 : Int} (h0 : a0 = a1) (h1 : a2 = a3) (h2 : a1 = a4) (h3 : a5 = a2) (h4 : a4 = a5) : a0 = a3 := by omega
theorem oq_264718cb {a0 a1 a2 a3 : Int} (h0 : a0 = a1) (h1 : a1 = a2) (h2 : a2 = a3) (h3 : a3 = 0) : a0 = 0 := by omega
theorem oq_cd9cbf39 {a0 a1 a2 : Int} (h0 : a0 = a1) (h1 : a1 = a2) (h2 : a2 = 0) : a0 = 0 := by omega
theorem oq_e5e5d3d6 {a0 a1 : Int} (h0 : a0 = a1) (h1 : a1 = 0) : a0 = 0 := by omega
theorem oq_0d446a69 {a0 a1 a2 a3 : Int} (h0 : a0 = 0) (h1 : (a1 = 1 → a0 = 1)) (h2 : a1 ≤ 1) (h3 : ((a2 ≠ 0 ∧ a1 = 0) ∨ (a2 = 0 ∧ a1 = 1))) (h4 : ((a2 = 1 ∧ (0 ≤ a3 ∧ a3 ≤ 100000)) ∨ (a2 = 0 ∧ (a3 < 0 ∨ 100000 < a3)))) : 0 ≤ a3 := by omega
theorem oq_b2047f00 {a0 a1 a2 a3 : Int} (h0 : a0 = 0) (h1 : (a1 = 1 → a0 = 1)) (h2 : a1 ≤ 1) (h3 : ((a2 ≠ 0 ∧ a1 = 0) ∨ (a2 = 0 ∧ a1 = 1))) (h4 : ((a2 = 1 ∧ (0 ≤ a3 ∧ a3 ≤ 100000)) ∨ (a2 = 0 ∧ (a3 < 0 ∨ 100000 < a3)))) : a3 ≤ 100000 := by omega
theorem oq_63ad3ecb {a0 a1 a2 a3 : Int} (h0 : a0 = 0) (h1 : (a1 = 1 → a0 = 1)) (h2 : a1 ≤ 1) (h3 : ((a2 ≠ 0 ∧ a1 = 0) ∨ (a2 = 0 ∧ a1 = 1))) (h4 : ((a2 = 1 ∧ (0 ≤ a3 ∧ a3 ≤ 9)) ∨ (a2 = 0 ∧ (a3 < 0 ∨ 9 < a3)))) : 0 ≤ a3 := by omega
theorem oq_98d377b2 {a0 a1 a2 a3 : Int} (h0 : a0 = 0) (h1 : (a1 = 1 → a0 = 1)) (h2 : a1 ≤ 1) (h3 : ((a2 ≠ 0 ∧ a1 = 0) ∨ (a2 = 0 ∧ a1 = 1))) (h4 : ((a2 = 1 ∧ (0 ≤ a3 ∧ a3 ≤ 9)) ∨ (a2 = 0 ∧ (a3 < 0 ∨ 9 < a3)))) : a3 ≤ 9 := by omega
theorem oq_d2f74293 {a0 a1 a2 a3 : Int} (h0 : a0 = 0) (h1 : (a1 = 1 → a0 = 1)) (h2 : a1 ≤ 1) (h3 : ((a2 ≠ 0 ∧ a1 = 0) ∨ (a2 = 0 ∧ a1 = 1))) (h4 : ((a2 = 1 ∧ (0 ≤ a3 ∧ a3 ≤ 127)) ∨ (a2 = 0 ∧ (a3 < 0 ∨ 127 < a3)))) : 0 ≤ a3 := by omega
theorem oq_bb641c4c {a0 a1 a2 a3 : Int} (h0 : a0 = 0) (h1 : (a1 = 1 → a0 = 1)) (h2 : a1 ≤ 1) (h3 : ((a2 ≠ 0 ∧ a1 = 0) ∨ (a2 = 0 ∧ a1 = 1))) (h4 : ((a2 = 1 ∧ (0 ≤ a3 ∧ a3 ≤ 127)) ∨ (a2 = 0 ∧ (a3 < 0 ∨ 127 < a3)))) : a3 < 128 := by omega
theorem oq_48be0e30 {a0 a1 a2 a3 : Int} (h0 : a0 = 0) (h1 : (a1 = 1 → a0 = 1)) (h2 : a1 ≤ 1) (h3 : ((a2 ≠ 0 ∧ a1 = 0) ∨ (a2 = 0 ∧ a1 = 1))) (h4 : ((a2 = 1 ∧ (0 ≤ a3 ∧ a3 ≤ 127)) ∨ (a2 = 0 ∧ (a3 < 0 ∨ 127 < a3)))) : (a3 : Int).toNat < 128 := by omega
theorem oq_65cab3da {a0 a1 : Int} (h0 : a0 = 0) (h1 : (1 = 1 → a0 = 1)) : 0 ≤ a1 := by omega
theorem oq_28d92795 {a0 a1 : Int} (h0 : a0 ≠ 0) (h1 : ((a0 = 1 ∧ (0 ≤ a1 ∧ a1 ≤ 7)) ∨ (a0 = 0 ∧ (a1 < 0 ∨ 7 < a1)))) : 0 ≤ a1 := by omega
theorem oq_246a8e49 {a0 a1 : Int} (h0 : a0 ≠ 0) (h1 : ((a0 = 1 ∧ (0 ≤ a1 ∧ a1 ≤ 7)) ∨ (a0 = 0 ∧ (a1 < 0 ∨ 7 < a1)))) : a1 < 8 := by omega
theorem oq_9a20133a {a0 a1 : Int} (h0 : a0 ≠ 0) (h1 : ((a0 = 1 ∧ (0 ≤ a1 ∧ a1 ≤ 7)) ∨ (a0 = 0 ∧ (a1 < 0 ∨ 7 < a1)))) : (a1 : Int).toNat < 8 := by omega
theorem oq_859d1a00 {a0 a1 a2 a3 : Int} (h0 : a0 = 0) (h1 : (a1 = 1 → a0 = 1)) (h2 : a1 ≤ 1) (h3 : ((a2 ≠ 0 ∧ a1 = 0) ∨ (a2 = 0 ∧ a1 = 1))) (h4 : ((a2 = 1 ∧ (0 ≤ a3 ∧ a3 ≤ 7)) ∨ (a2 = 0 ∧ (a3 < 0 ∨ 7 < a3)))) : 0 ≤ a3 := by omega
theorem oq_dcc08218 {a0 a1 a2 a3 : Int} (h0 : a0 = 0) (h1 : (a1 = 1 → a0 = 1)) (h2 : a1 ≤ 1) (h3 : ((a2 ≠ 0 ∧ a1 = 0) ∨ (a2 = 0 ∧ a1 = 1))) (h4 : ((a2 = 1 ∧ (0 ≤ a3 ∧ a3 ≤ 7)) ∨ (a2 = 0 ∧ (a3 < 0 ∨ 7 < a3)))) : a3 < 8 := by omega
theorem oq_6129a798 {a0 a1 a2 a3 : Int} (h0 : a0 = 0) (h1 : (a1 = 1 → a0 = 1)) (h2 : a1 ≤ 1) (h3 : ((a2 ≠ 0 ∧ a1 = 0) ∨ (a2 = 0 ∧ a1 = 1))) (h4 : ((a2 = 1 ∧ (0 ≤ a3 ∧ a3 ≤ 7)) ∨ (a2 = 0 ∧ (a3 < 0 ∨ 7 < a3)))) : (a3 : Int).toNat < 8 := by omega
theorem oq_b7ca64e0 {a0 a1 a2 a3 : Int} (h0 : a0 = 0) (h1 : (a1 = 1 → a0 = 1)) (h2 : a1 ≤ 1) (h3 : ((a2 ≠ 0 ∧ a1 = 0) ∨ (a2 = 0 ∧ a1 = 1))) (h4 : ((a2 = 1 ∧ (0 ≤ a3 ∧ a3 ≤ 24)) ∨ (a2 = 0 ∧ (a3 < 0 ∨ 24 < a3)))) : 0 ≤ a3 := by omega
theorem oq_240b5d14 {a0 a1 a2 a3 : Int} (h0 : a0 = 0) (h1 : (a1 = 1 → a0 = 1)) (h2 : a1 ≤ 1) (h3 : ((a2 ≠ 0 ∧ a1 = 0) ∨ (a2 = 0 ∧ a1 = 1))) (h4 : ((a2 = 1 ∧ (0 ≤ a3 ∧ a3 ≤ 24)) ∨ (a2 = 0 ∧ (a3 < 0 ∨ 24 < a3)))) : a3 ≤ 24 := by omega
theorem oq_c74211cc {a0 a1 : Int} (h0 : a0 = 0) (h1 : (1 = 1 → a0 = 1)) : 1 ≤ a1 := by omega
theorem oq_3ff45f06 {a0 a1 : Int} (h0 : a0 = 0) (h1 : (1 = 1 → a0 = 1)) : a1 ≤ 8 := by omega
theorem oq_62abe554 {a0 a1 a2 a3 : Int} (h0 : ((a0 ≠ 0 ∧ ((1 ≤ a1 ∧ a1 ≤ 8) ∧ a2 = a1)) ∨ (a0 = 0 ∧ ((1 ≤ a3 ∧ a3 ≤ 24) ∧ a2 = a3)))) : (-2147483648) ≤ a2 := by omega
theorem oq_c46c61bd {a0 a1 a2 a3 : Int} (h0 : ((a0 ≠ 0 ∧ ((1 ≤ a1 ∧ a1 ≤ 8) ∧ a2 = a1)) ∨ (a0 = 0 ∧ ((1 ≤ a3 ∧ a3 ≤ 24) ∧ a2 = a3)))) : a2 ≤ 2147483647 := by omega
theorem oq_7a39abe9 {a0 a1 a2 : Int} (h0 : a0 = 0) (h1 : a1 = 0) (h2 : ((a1 = 1 ∧ (0 ≤ a0 ∧ a0 ≤ 1)) ∨ (a1 = 0 ∧ (a0 < 0 ∨ 1 < a0)))) : 1 ≤ a2 := by omega
theorem oq_fc8cbade {a0 a1 a2 : Int} (h0 : a0 = 0) (h1 : a1 = 0) (h2 : ((a1 = 1 ∧ (0 ≤ a0 ∧ a0 ≤ 1)) ∨ (a1 = 0 ∧ (a0 < 0 ∨ 1 < a0)))) : a2 ≤ 24 := by omega
theorem oq_ebc40354 {a0 : Int} (h0 : 8 ≤ a0) : (-2147483648) ≤ a0 := by omega
theorem oq_5bcd337f {a0 : Int} (h0 : a0 ≤ 24) : a0 ≤ 2147483647 := by omega
theorem oq_e8d47ac5 {a0 a1 a2 a3 a4 : Int} (h0 : a0 = 0) (h1 : (a1 = 1 → a0 = 1)) (h2 : a1 ≤ 1) (h3 : ((a2 ≠ 0 ∧ a1 = 0) ∨ (a2 = 0 ∧ a1 = 1))) (h4 : ((a2 = 1 ∧ (1 ≤ a3 ∧ a3 ≤ a4)) ∨ (a2 = 0 ∧ (a3 < 1 ∨ a4 < a3)))) : 1 ≤ a3 := by omega
theorem oq_71db95f9 {a0 a1 a2 a3 a4 : Int} (h0 : a0 = 0) (h1 : (a1 = 1 → a0 = 1)) (h2 : a1 ≤ 1) (h3 : ((a2 ≠ 0 ∧ a1 = 0) ∨ (a2 = 0 ∧ a1 = 1))) (h4 : ((a2 = 1 ∧ (1 ≤ a3 ∧ a3 ≤ a4)) ∨ (a2 = 0 ∧ (a3 < 1 ∨ a4 < a3)))) (h5 : a4 ≤ 24) : a3 ≤ 24 := by omega
theorem oq_e4aca38c {a0 : Int} (h0 : (a0 = 0 ∨ a0 = 1)) : 0 ≤ a0 := by omega
theorem oq_14617724 {a0 : Int} (h0 : (a0 = 0 ∨ a0 = 1)) : a0 ≤ 1 := by omega
theorem oq_fac8de0c {a0 : Int} (h0 : a0 ≤ 6) (h1 : a0 ≠ 6) : a0 < 6 := by omega
theorem oq_c2c3ef0b {a0 : Int} (h0 : a0 < 0) : a0 ≤ 16777215 := by omega
theorem oq_54f49eb5 {a0 : Int} (h0 : 0 ≤ a0) : 0 ≤ (a0 + 1) := by omega
theorem oq_6c19c907 {a0 a1 : Int} (h0 : a0 = a1) (h1 : a1 ≤ 6) (h2 : a1 ≠ 6) : (a0 + 1) ≤ 6 := by omega
theorem oq_74de1e16 {a0 : Int} (h0 : 0 ≤ a0) : (-2147483648) ≤ (a0 + 1) := by omega
theorem oq_5fe14c36 {a0 : Int} (h0 : a0 ≤ 6) : (a0 + 1) ≤ 2147483647 := by omega
theorem oq_c1e961c7 {a0 : Int} (h0 : 0 ≤ a0) : (-2147483648) ≤ (a0 - 1) := by omega
theorem oq_b383b26c {a0 : Int} (h0 : a0 ≤ 6) : (a0 - 1) ≤ 2147483647 := by omega
theorem oq_a8b2581c {a0 a1 a2 : Int} (h0 : a0 = 0) (h1 : (a1 = 1 → a0 = 1)) (h2 : a1 ≤ 1) (h3 : ((a2 < 16777216 ∧ a1 = 0) ∨ (16777216 ≤ a2 ∧ a1 = 1))) : a2 ≤ 16777215 := by omega
/-! The model: methods without loops -/
theorem fm_ts {L M L' M' : List Nat} {s t u : PS} (h : Fm L M s t) (g : Fm L' M' t u) (h1 : ∀ k ∈ L', k ∈ L) (h2 : ∀ k ∈ M', k ∈ M) : Fm L M s u :=
  ⟨fun k hk => (g.1 k (fun q => hk (h1 k q))).trans (h.1 k hk), fun a ha => (g.2.1 a (fun q => ha (h2 a q))).trans (h.2.1 a ha), g.2.2.1.trans h.2.2.1, fl_ts h.2.2.2 g.2.2.2 h1 h2⟩
section M31
variable {l : Launch} {s0 : State} {D : va_G} {tys : List (ClassId × FieldType)} {a0 : Array Value} {A : Nat → Nat} {dT : Nat → ClassId} {s : PS}
theorem k_in (G : GX l s0 D tys a0 dT) (I : Bd s) {x y z : Int} (p0 : rng x) (p1 : rng y) (p2 : rng z) : CT l s0 D A dT 188 (rmN 188) [.int (Int32.ofInt x), .int (Int32.ofInt y), .int (Int32.ofInt z)] s (fun o t => Bd t ∧ Fm [] [] s t ∧ ∃ e, o = .inl (some (.int (Int32.ofInt e))) ∧ rng e ∧ ((e = 1 ∧ y ≤ x ∧ x ≤ z) ∨ (e = 0 ∧ (x < y ∨ z < x)))) := by
  refine ct_of G (by decide) (Nat.le_of_ble_eq_true rfl) (fun k X E hRt hXt q => ?_)
  show WS k 0 [(0, .int (Int32.ofInt x)), (1, .int (Int32.ofInt y)), (2, .int (Int32.ofInt z))] [] _ 0 0
  have F : Fm [] [] s s := fm_rf _ _ s
  refine z_load_n X (x := x) rfl (List.Mem.head _) (z_load_n X (x := y) rfl (List.Mem.tail _ (List.Mem.head _)) ?_)
  have N1 : ∀ e2 : Int, (((x < y) ∧ e2 = 0) ∨ ((y ≤ x) ∧ (z < x) ∧ e2 = 0) ∨ ((y ≤ x) ∧ (x ≤ z) ∧ e2 = 1)) → WS k 15 [(0, .int (Int32.ofInt x)), (1, .int (Int32.ofInt y)), (2, .int (Int32.ofInt z))] [.int (Int32.ofInt e2)] (Wd A dT s) 0 0 := by
    intro e2 he2
    have re2 : 0 ≤ e2 ∧ e2 ≤ 1 := by first | (clear he2; omega) | omega
    exact w_iret X.1 q hRt (nar_ret (by first | exact oq_31e518ae re2.2 re2.1 | omega)) (ax_d X (show cdA 188 15 = some (.ireturn, 1, 0, 0, 0) from rfl)) (Nat.zero_le _) (Nat.zero_le _) ⟨_, rfl, I, F, e2, rfl, ⟨by first | exact oq_fa4e5087 re2.1 | omega, by first | exact oq_22e1e6b0 re2.2 | omega⟩, by first | exact oq_eb048f71 re2.2 re2.1 he2 | omega⟩
  refine z_icmp_lt X (t := 14) rfl rfl ⟨by first | exact p0.1 | omega, by first | exact p0.2 | omega⟩ ⟨by first | exact p1.1 | omega, by first | exact p1.2 | omega⟩ (fun g3 => ?_) (fun g3 => ?_)
  ·
    exact z_const X rfl (N1 _ (Or.inl ⟨g3, rfl⟩))
  ·
    refine z_load_n X (x := x) rfl (List.Mem.head _) (z_load_n X (x := z) rfl (List.Mem.tail _ (List.Mem.tail _ (List.Mem.head _))) (z_icmp_gt X (t := 14) rfl rfl ⟨by first | exact p0.1 | omega, by first | exact p0.2 | omega⟩ ⟨by first | exact p2.1 | omega, by first | exact p2.2 | omega⟩ (fun g4 => ?_) (fun g4 => ?_)))
    ·
      exact z_const X rfl (N1 _ (Or.inr (Or.inl ⟨g3, g4, rfl⟩)))
    ·
      exact z_const X rfl (z_goto X (t := 15) rfl rfl (N1 _ (Or.inr (Or.inr (⟨g3, g4, rfl⟩)))))
theorem k_bad (G : GX l s0 D tys a0 dT) (I : Bd s) {x y : Int} (p0 : x = 0 ∨ x = 1) (p1 : 1 ≤ y ∧ y ≤ 3) : CT l s0 D A dT 187 (rmN 187) [.ref (A 179), .int (Int32.ofInt x), .int (Int32.ofInt y)] s (fun o t => Bd t ∧ Fm [73] [] s t ∧ ∃ e, o = .inl (some (.int (Int32.ofInt e))) ∧ rng e ∧ (((e = 0 ∧ iI t 73 = 0) ∨ (e = 1 ∧ iI t 73 ≠ 0)) ∧ (x = 1 → e = 1) ∧ (x = 0 → iI t 73 = iI s 73))) := by
  refine ct_of G (by decide) (Nat.le_of_ble_eq_true rfl) (fun k X E hRt hXt q => ?_)
  show WS k 0 [(0, .ref (A 179)), (1, .int (Int32.ofInt x)), (2, .int (Int32.ofInt y))] [] _ 0 0
  have F : Fm [73] [] s s := fm_rf _ _ s
  have b1 := bi_73 I
  refine z_load_n X (x := x) rfl (List.Mem.tail _ (List.Mem.head _)) (z_if_eq X (t := 16) rfl rfl ⟨by first | exact oq_bde653e9 p0 | omega, by first | exact oq_4ad2cb8b p0 | omega⟩ (fun g2 => ?_) (fun g2 => ?_))
  ·
    refine z_aload_n X (x := A 179) rfl (List.Mem.head _) (z_getI X 179 rfl (c518_ok rfl) rfl rfl ?_)
    have b3 := bi_73 I
    have N4 : ∀ e5 : Int, ((((iI s 73) = 0) ∧ e5 = 0) ∨ (((iI s 73) ≠ 0) ∧ e5 = 1)) → WS k 28 [(0, .ref (A 179)), (1, .int (Int32.ofInt x)), (2, .int (Int32.ofInt y))] [.int (Int32.ofInt e5)] (Wd A dT s) 0 0 := by
      intro e5 he5
      have re5 : 0 ≤ e5 ∧ e5 ≤ 1 := by first | (clear he5 p0; omega) | (clear p0; omega) | omega
      exact w_iret X.1 q hRt (nar_ret (by first | exact oq_31e518ae re5.2 re5.1 | omega)) (ax_d X (show cdA 187 28 = some (.ireturn, 1, 0, 0, 0) from rfl)) (Nat.zero_le _) (Nat.zero_le _) ⟨_, rfl, I, F, e5, rfl, ⟨by first | exact oq_fa4e5087 re5.1 | omega, by first | exact oq_22e1e6b0 re5.2 | omega⟩, by first | exact ⟨oq_eedb2150 re5.2 re5.1 he5 b3.1, oq_3734ab87 g2, oq_03aa4181⟩ | omega⟩
    refine z_if_eq X (t := 27) rfl rfl (rng_to _) (fun g6 => ?_) (fun g6 => ?_)
    ·
      exact z_const X rfl (N4 _ (Or.inl ⟨g6, rfl⟩))
    ·
      exact z_const X rfl (z_goto X (t := 28) rfl rfl (N4 _ (Or.inr (⟨g6, rfl⟩))))
  ·
    refine z_aload_n X (x := A 179) rfl (List.Mem.head _) (z_getI X 179 rfl (c518_ok rfl) rfl rfl ?_)
    have b7 := bi_73 I
    refine z_if_ne X (t := 16) rfl rfl (rng_to _) (fun g8 => ?_) (fun g8 => ?_)
    ·
      refine z_aload_n X (x := A 179) rfl (List.Mem.head _) (z_getI X 179 rfl (c518_ok rfl) rfl rfl ?_)
      have b9 := bi_73 I
      have N10 : ∀ e11 : Int, ((((iI s 73) = 0) ∧ e11 = 0) ∨ (((iI s 73) ≠ 0) ∧ e11 = 1)) → WS k 28 [(0, .ref (A 179)), (1, .int (Int32.ofInt x)), (2, .int (Int32.ofInt y))] [.int (Int32.ofInt e11)] (Wd A dT s) 0 0 := by
        intro e11 he11
        have re11 : 0 ≤ e11 ∧ e11 ≤ 1 := by first | (clear he11 g8 g2 p0; omega) | (clear g8 g2 p0; omega) | omega
        exact w_iret X.1 q hRt (nar_ret (by first | exact oq_438aa68f re11.2 he11 b9.1 g8 | omega)) (ax_d X (show cdA 187 28 = some (.ireturn, 1, 0, 0, 0) from rfl)) (Nat.zero_le _) (Nat.zero_le _) ⟨_, rfl, I, F, e11, rfl, ⟨by first | exact oq_fa4e5087 re11.1 | omega, by first | exact oq_22e1e6b0 re11.2 | omega⟩, by first | exact ⟨oq_3ad403e6 re11.2 he11 b9.1 g8, oq_22e5e821 re11.2 he11 b9.1 g8, oq_0da2dd66 g2⟩ | omega⟩
      refine z_if_eq X (t := 27) rfl rfl (rng_to _) (fun g12 => ?_) (fun g12 => ?_)
      ·
        exact z_const X rfl (N10 _ (Or.inl ⟨g12, rfl⟩))
      ·
        exact z_const X rfl (z_goto X (t := 28) rfl rfl (N10 _ (Or.inr (⟨g12, rfl⟩))))
    ·
      refine z_aload_n X (x := A 179) rfl (List.Mem.head _) (z_load_n X (x := y) rfl (List.Mem.tail _ (List.Mem.tail _ (List.Mem.head _))) (s_putI X 179 rfl (c518_ok rfl) rfl rfl (by decide) rfl rfl rfl (wd_gen (fun s13 hs13 => ?_))))
      have Is13 : Bd s13 := eqB hs13 (bd_I I (show (0 : Int) ≤ y ∧ y ≤ 3 by first | exact ⟨oq_2a6e3b50 p1.1, p1.2⟩ | omega) ⟨by first | exact oq_9462313e p1.1 | omega, by first | exact oq_c5520c83 p1.2 | omega⟩)
      have Fs13 := eqF hs13 (fm_I F (inl_ok (a := 73) rfl))
      have vs13 : iI s13 73 = y := eqI hs13 (iI_u ⟨by first | exact oq_9462313e p1.1 | omega, by first | exact oq_c5520c83 p1.2 | omega⟩)
      refine z_aload_n X (x := A 179) rfl (List.Mem.head _) (z_getI X 179 rfl (c518_ok rfl) rfl rfl ?_)
      have b14 := bi_73 Is13
      have N15 : ∀ e16 : Int, ((((iI s13 73) = 0) ∧ e16 = 0) ∨ (((iI s13 73) ≠ 0) ∧ e16 = 1)) → WS k 28 [(0, .ref (A 179)), (1, .int (Int32.ofInt x)), (2, .int (Int32.ofInt y))] [.int (Int32.ofInt e16)] (Wd A dT s13) 0 0 := by
        intro e16 he16
        have re16 : 0 ≤ e16 ∧ e16 ≤ 1 := by first | (clear he16 g2 p0; omega) | (clear g2 p0; omega) | omega
        exact w_iret X.1 q hRt (nar_ret (by first | exact oq_4f030bbc re16.2 he16 vs13 p1.1 | omega)) (ax_d X (show cdA 187 28 = some (.ireturn, 1, 0, 0, 0) from rfl)) (Nat.zero_le _) (Nat.zero_le _) ⟨_, rfl, Is13, Fs13, e16, rfl, ⟨by first | exact oq_fa4e5087 re16.1 | omega, by first | exact oq_22e1e6b0 re16.2 | omega⟩, by first | exact ⟨oq_e232e10b re16.2 he16 vs13 p1.1, oq_b3466af9 re16.2 he16 vs13 p1.1, oq_6f3bd9cf g2⟩ | omega⟩
      refine z_if_eq X (t := 27) rfl rfl (rng_to _) (fun g17 => ?_) (fun g17 => ?_)
      ·
        exact z_const X rfl (N15 _ (Or.inl ⟨g17, rfl⟩))
      ·
        exact z_const X rfl (z_goto X (t := 28) rfl rfl (N15 _ (Or.inr (⟨g17, rfl⟩))))
theorem k_fault (G : GX l s0 D tys a0 dT) (I : Bd s)  : CT l s0 D A dT 215 (rmN 215) [.ref (A 179)] s (fun o t => Bd t ∧ Fm [73] [] s t ∧ ∃ e, o = .inl (some (.int (Int32.ofInt e))) ∧ rng e ∧ (True)) := by
  refine ct_of G (by decide) (Nat.le_of_ble_eq_true rfl) (fun k X E hRt hXt q => ?_)
  show WS k 0 [(0, .ref (A 179))] [] _ 0 0
  have F : Fm [73] [] s s := fm_rf _ _ s
  refine z_aload_n X (x := A 179) rfl (List.Mem.head _) (z_const X rfl (s_putI X 179 rfl (c518_ok rfl) rfl rfl (by decide) rfl rfl rfl (wd_gen (fun s1 hs1 => ?_))))
  have Is1 : Bd s1 := eqB hs1 (bd_I I (show (0 : Int) ≤ 0 ∧ 0 ≤ 3 by first | exact ⟨by decide, by decide⟩ | omega) (by decide))
  have Fs1 := eqF hs1 (fm_I F (inl_ok (a := 73) rfl))
  have vs1 : iI s1 73 = 0 := eqI hs1 (iI_u (by decide))
  refine z_aload_n X (x := A 179) rfl (List.Mem.head _) (z_getI X 179 rfl (c518_ok rfl) rfl rfl ?_)
  have b2 := bi_76 Is1
  exact w_iret X.1 q hRt rfl (ax_d X (show cdA 215 9 = some (.ireturn, 1, 0, 0, 0) from rfl)) (Nat.zero_le _) (Nat.zero_le _) ⟨_, rfl, Is1, Fs1, (iI s1 76), rfl, (rng_to _), trivial⟩
theorem k_busy (G : GX l s0 D tys a0 dT) (I : Bd s) {x : Int} (p0 : rng x) : CT l s0 D A dT 268 (rmN 268) [.ref (A 179), .int (Int32.ofInt x)] s (fun o t => Bd t ∧ Fm [73, 96] [] s t ∧ ∃ e, o = .inl (some (.int (Int32.ofInt e))) ∧ rng e ∧ (True)) := by
  refine ct_of G (by decide) (Nat.le_of_ble_eq_true rfl) (fun k X E hRt hXt q => ?_)
  show WS k 0 [(0, .ref (A 179)), (1, .int (Int32.ofInt x))] [] _ 0 0
  have F : Fm [73, 96] [] s s := fm_rf _ _ s
  have b1 := bi_73 I
  refine z_aload_n X (x := A 179) rfl (List.Mem.head _) (z_const X rfl (s_putI X 179 rfl (c518_ok rfl) rfl rfl (by decide) rfl rfl rfl (wd_gen (fun s2 hs2 => ?_))))
  have Is2 : Bd s2 := eqB hs2 (bd_I I (show (0 : Int) ≤ 0 ∧ 0 ≤ 3 by first | exact ⟨by decide, by decide⟩ | omega) (by decide))
  have Fs2 := eqF hs2 (fm_I F (inl_ok (a := 73) rfl))
  have vs2 : iI s2 73 = 0 := eqI hs2 (iI_u (by decide))
  refine z_aload_n X (x := A 179) rfl (List.Mem.head _) (z_load_n X (x := x) rfl (List.Mem.tail _ (List.Mem.head _)) (z_const X rfl (z_ldc X rfl (zcS_i0 X E (As := [.int (Int32.ofInt x), .int (Int32.ofInt 0), .int (Int32.ofInt 100000)]) (st := [.ref (A 179)]) rfl rfl (k_in G Is2 (by first | exact ⟨p0.1, p0.2⟩ | omega) (by first | exact ⟨by decide, by decide⟩ | omega) (by first | exact ⟨by decide, by decide⟩ | omega)) rfl (Nat.le_of_ble_eq_true rfl) (fun s3 e4 Is3 Fs3 hrs3 hps3 => ?_)))))
  have Gs3 := fm_tq Fs2 Fs3 rfl rfl
  have ws3_73 : iI s3 73 = iI s2 73 := fm_iq Fs3 rfl
  have N5 : ∀ e6 : Int, (((e4 ≠ 0) ∧ e6 = 0) ∨ ((e4 = 0) ∧ e6 = 1)) → WS k 21 [(0, .ref (A 179)), (1, .int (Int32.ofInt x))] [.int (Int32.ofInt e6), .ref (A 179)] (Wd A dT s3) 0 0 := by
    intro e6 he6
    have re6 : 0 ≤ e6 ∧ e6 ≤ 1 := by first | (clear he6 hps3; omega) | (clear hps3; omega) | omega
    refine z_const X rfl (zcV_i0 X E 179 (As := [.int (Int32.ofInt e6), .int (Int32.ofInt 1)]) (st := []) rfl rfl rfl rfl (k_bad G Is3 (by first | exact oq_31e518ae re6.2 re6.1 | omega) (by first | exact ⟨by decide, by decide⟩ | omega)) rfl (Nat.le_of_ble_eq_true rfl) (fun s7 e8 Is7 Fs7 hrs7 hps7 => ?_))
    have Gs7 := fm_tq Gs3 Fs7 rfl rfl
    have b9 := bi_73 Is7
    refine z_if_eq X (t := 30) rfl rfl hrs7 (fun g10 => ?_) (fun g10 => ?_)
    ·
      refine z_aload_n X (x := A 179) rfl (List.Mem.head _) (z_getI X 179 rfl (c518_ok rfl) rfl rfl ?_)
      have b11 := bi_96 Is7
      refine z_store_n X (lv' := [(2, .int (Int32.ofInt (iI s7 96))), (0, .ref (A 179)), (1, .int (Int32.ofInt x))]) rfl (by decide) (fun _ h => h) (z_aload_n X (x := A 179) rfl (List.Mem.tail _ (List.Mem.head _)) (z_load_n X (x := x) rfl (List.Mem.tail _ (List.Mem.tail _ (List.Mem.head _))) (s_putI X 179 rfl (c518_ok rfl) rfl rfl (by decide) rfl rfl rfl (wd_gen (fun s12 hs12 => ?_)))))
      have Is12 : Bd s12 := eqB hs12 (bd_I Is7 (show (0 : Int) ≤ x ∧ x ≤ 100000 by first | exact ⟨oq_0d446a69 g10 hps7.2.1 re6.2 he6 hps3, oq_b2047f00 g10 hps7.2.1 re6.2 he6 hps3⟩ | omega) ⟨by first | exact p0.1 | omega, by first | exact p0.2 | omega⟩)
      have Fs12 := eqF hs12 (fm_I Gs7 (inl_ok (a := 96) rfl))
      have vs12 : iI s12 96 = x := eqI hs12 (iI_u ⟨by first | exact p0.1 | omega, by first | exact p0.2 | omega⟩)
      have ws12_73 : iI s12 73 = iI s7 73 := eqI hs12 rfl
      exact z_load_n X (x := (iI s7 96)) rfl (List.Mem.head _) (w_iret X.1 q hRt rfl (ax_d X (show cdA 268 41 = some (.ireturn, 1, 0, 0, 0) from rfl)) (Nat.zero_le _) (Nat.zero_le _) ⟨_, rfl, Is12, Fs12, (iI s7 96), rfl, (rng_to _), trivial⟩)
    ·
      refine z_const X rfl ?_
      exact w_iret X.1 q hRt rfl (ax_d X (show cdA 268 29 = some (.ireturn, 1, 0, 0, 0) from rfl)) (Nat.zero_le _) (Nat.zero_le _) ⟨_, rfl, Is7, Gs7, 0, rfl, (by decide), trivial⟩
  refine z_if_ne X (t := 20) rfl rfl hrs3 (fun g13 => ?_) (fun g13 => ?_)
  ·
    exact z_const X rfl (N5 _ (Or.inl ⟨g13, rfl⟩))
  ·
    exact z_const X rfl (z_goto X (t := 21) rfl rfl (N5 _ (Or.inr (⟨g13, rfl⟩))))
theorem k_length (G : GX l s0 D tys a0 dT) (I : Bd s) {x : Int} (p0 : rng x) : CT l s0 D A dT 244 (rmN 244) [.ref (A 179), .int (Int32.ofInt x)] s (fun o t => Bd t ∧ Fm [73, 95] [] s t ∧ ∃ e, o = .inl (some (.int (Int32.ofInt e))) ∧ rng e ∧ (True)) := by
  refine ct_of G (by decide) (Nat.le_of_ble_eq_true rfl) (fun k X E hRt hXt q => ?_)
  show WS k 0 [(0, .ref (A 179)), (1, .int (Int32.ofInt x))] [] _ 0 0
  have F : Fm [73, 95] [] s s := fm_rf _ _ s
  have b1 := bi_73 I
  refine z_aload_n X (x := A 179) rfl (List.Mem.head _) (z_const X rfl (s_putI X 179 rfl (c518_ok rfl) rfl rfl (by decide) rfl rfl rfl (wd_gen (fun s2 hs2 => ?_))))
  have Is2 : Bd s2 := eqB hs2 (bd_I I (show (0 : Int) ≤ 0 ∧ 0 ≤ 3 by first | exact ⟨by decide, by decide⟩ | omega) (by decide))
  have Fs2 := eqF hs2 (fm_I F (inl_ok (a := 73) rfl))
  have vs2 : iI s2 73 = 0 := eqI hs2 (iI_u (by decide))
  refine z_aload_n X (x := A 179) rfl (List.Mem.head _) (z_load_n X (x := x) rfl (List.Mem.tail _ (List.Mem.head _)) (z_const X rfl (z_bipush X rfl (zcS_i0 X E (As := [.int (Int32.ofInt x), .int (Int32.ofInt 0), .int (Int32.ofInt 9)]) (st := [.ref (A 179)]) rfl rfl (k_in G Is2 (by first | exact ⟨p0.1, p0.2⟩ | omega) (by first | exact ⟨by decide, by decide⟩ | omega) (by first | exact ⟨by decide, by decide⟩ | omega)) rfl (Nat.le_of_ble_eq_true rfl) (fun s3 e4 Is3 Fs3 hrs3 hps3 => ?_)))))
  have Gs3 := fm_tq Fs2 Fs3 rfl rfl
  have ws3_73 : iI s3 73 = iI s2 73 := fm_iq Fs3 rfl
  have N5 : ∀ e6 : Int, (((e4 ≠ 0) ∧ e6 = 0) ∨ ((e4 = 0) ∧ e6 = 1)) → WS k 21 [(0, .ref (A 179)), (1, .int (Int32.ofInt x))] [.int (Int32.ofInt e6), .ref (A 179)] (Wd A dT s3) 0 0 := by
    intro e6 he6
    have re6 : 0 ≤ e6 ∧ e6 ≤ 1 := by first | (clear he6 hps3; omega) | (clear hps3; omega) | omega
    refine z_const X rfl (zcV_i0 X E 179 (As := [.int (Int32.ofInt e6), .int (Int32.ofInt 1)]) (st := []) rfl rfl rfl rfl (k_bad G Is3 (by first | exact oq_31e518ae re6.2 re6.1 | omega) (by first | exact ⟨by decide, by decide⟩ | omega)) rfl (Nat.le_of_ble_eq_true rfl) (fun s7 e8 Is7 Fs7 hrs7 hps7 => ?_))
    have Gs7 := fm_tq Gs3 Fs7 rfl rfl
    have b9 := bi_73 Is7
    refine z_if_eq X (t := 30) rfl rfl hrs7 (fun g10 => ?_) (fun g10 => ?_)
    ·
      refine z_aload_n X (x := A 179) rfl (List.Mem.head _) (z_getI X 179 rfl (c518_ok rfl) rfl rfl ?_)
      have b11 := bi_95 Is7
      refine z_store_n X (lv' := [(2, .int (Int32.ofInt (iI s7 95))), (0, .ref (A 179)), (1, .int (Int32.ofInt x))]) rfl (by decide) (fun _ h => h) (z_aload_n X (x := A 179) rfl (List.Mem.tail _ (List.Mem.head _)) (z_load_n X (x := x) rfl (List.Mem.tail _ (List.Mem.tail _ (List.Mem.head _))) (s_putI X 179 rfl (c518_ok rfl) rfl rfl (by decide) rfl rfl rfl (wd_gen (fun s12 hs12 => ?_)))))
      have Is12 : Bd s12 := eqB hs12 (bd_I Is7 (show (0 : Int) ≤ x ∧ x ≤ 9 by first | exact ⟨oq_63ad3ecb g10 hps7.2.1 re6.2 he6 hps3, oq_98d377b2 g10 hps7.2.1 re6.2 he6 hps3⟩ | omega) ⟨by first | exact p0.1 | omega, by first | exact p0.2 | omega⟩)
      have Fs12 := eqF hs12 (fm_I Gs7 (inl_ok (a := 95) rfl))
      have vs12 : iI s12 95 = x := eqI hs12 (iI_u ⟨by first | exact p0.1 | omega, by first | exact p0.2 | omega⟩)
      have ws12_73 : iI s12 73 = iI s7 73 := eqI hs12 rfl
      exact z_load_n X (x := (iI s7 95)) rfl (List.Mem.head _) (w_iret X.1 q hRt rfl (ax_d X (show cdA 244 41 = some (.ireturn, 1, 0, 0, 0) from rfl)) (Nat.zero_le _) (Nat.zero_le _) ⟨_, rfl, Is12, Fs12, (iI s7 95), rfl, (rng_to _), trivial⟩)
    ·
      refine z_const X rfl ?_
      exact w_iret X.1 q hRt rfl (ax_d X (show cdA 244 29 = some (.ireturn, 1, 0, 0, 0) from rfl)) (Nat.zero_le _) (Nat.zero_le _) ⟨_, rfl, Is7, Gs7, 0, rfl, (by decide), trivial⟩
  refine z_if_ne X (t := 20) rfl rfl hrs3 (fun g13 => ?_) (fun g13 => ?_)
  ·
    exact z_const X rfl (N5 _ (Or.inl ⟨g13, rfl⟩))
  ·
    exact z_const X rfl (z_goto X (t := 21) rfl rfl (N5 _ (Or.inr (⟨g13, rfl⟩))))
theorem k_clear (G : GX l s0 D tys a0 dT) (I : Bd s)  : CT l s0 D A dT 259 (rmN 259) [.ref (A 179)] s (fun o t => Bd t ∧ Fm [73, 97] [] s t ∧ ∃ e, o = .inl (some (.int (Int32.ofInt e))) ∧ rng e ∧ (True)) := by
  refine ct_of G (by decide) (Nat.le_of_ble_eq_true rfl) (fun k X E hRt hXt q => ?_)
  show WS k 0 [(0, .ref (A 179))] [] _ 0 0
  have F : Fm [73, 97] [] s s := fm_rf _ _ s
  have b1 := bi_73 I
  refine z_aload_n X (x := A 179) rfl (List.Mem.head _) (z_const X rfl (s_putI X 179 rfl (c518_ok rfl) rfl rfl (by decide) rfl rfl rfl (wd_gen (fun s2 hs2 => ?_))))
  have Is2 : Bd s2 := eqB hs2 (bd_I I (show (0 : Int) ≤ 0 ∧ 0 ≤ 3 by first | exact ⟨by decide, by decide⟩ | omega) (by decide))
  have Fs2 := eqF hs2 (fm_I F (inl_ok (a := 73) rfl))
  have vs2 : iI s2 73 = 0 := eqI hs2 (iI_u (by decide))
  refine z_aload_n X (x := A 179) rfl (List.Mem.head _) (z_getI X 179 rfl (c518_ok rfl) rfl rfl ?_)
  have b3 := bi_97 Is2
  refine z_store_n X (lv' := [(1, .int (Int32.ofInt (iI s2 97))), (0, .ref (A 179))]) rfl (by decide) (fun _ h => h) (z_aload_n X (x := A 179) rfl (List.Mem.tail _ (List.Mem.head _)) (z_const X rfl (s_putI X 179 rfl (c518_ok rfl) rfl rfl (by decide) rfl rfl rfl (wd_gen (fun s4 hs4 => ?_)))))
  have Is4 : Bd s4 := eqB hs4 (bd_I Is2 (show (0 : Int) ≤ 0 ∧ 0 ≤ 8 by first | exact ⟨by decide, by decide⟩ | omega) (by decide))
  have Fs4 := eqF hs4 (fm_I Fs2 (inl_ok (a := 97) rfl))
  have vs4 : iI s4 97 = 0 := eqI hs4 (iI_u (by decide))
  have ws4_73 : iI s4 73 = iI s2 73 := eqI hs4 rfl
  exact z_load_n X (x := (iI s2 97)) rfl (List.Mem.head _) (w_iret X.1 q hRt rfl (ax_d X (show cdA 259 16 = some (.ireturn, 1, 0, 0, 0) from rfl)) (Nat.zero_le _) (Nat.zero_le _) ⟨_, rfl, Is4, Fs4, (iI s2 97), rfl, (rng_to _), trivial⟩)
theorem k_ill (G : GX l s0 D tys a0 dT) (I : Bd s) {x y : Int} (p0 : rng x) (p1 : rng y) : CT l s0 D A dT 274 (rmN 274) [.ref (A 179), .int (Int32.ofInt x), .int (Int32.ofInt y)] s (fun o t => Bd t ∧ Fm [73] [398] s t ∧ ∃ e, o = .inl (some (.int (Int32.ofInt e))) ∧ rng e ∧ (True)) := by
  refine ct_of G (by decide) (Nat.le_of_ble_eq_true rfl) (fun k X E hRt hXt q => ?_)
  show WS k 0 [(0, .ref (A 179)), (1, .int (Int32.ofInt x)), (2, .int (Int32.ofInt y))] [] _ 0 0
  have F : Fm [73] [398] s s := fm_rf _ _ s
  have b1 := bi_73 I
  refine z_aload_n X (x := A 179) rfl (List.Mem.head _) (z_const X rfl (s_putI X 179 rfl (c518_ok rfl) rfl rfl (by decide) rfl rfl rfl (wd_gen (fun s2 hs2 => ?_))))
  have Is2 : Bd s2 := eqB hs2 (bd_I I (show (0 : Int) ≤ 0 ∧ 0 ≤ 3 by first | exact ⟨by decide, by decide⟩ | omega) (by decide))
  have Fs2 := eqF hs2 (fm_I F (inl_ok (a := 73) rfl))
  have vs2 : iI s2 73 = 0 := eqI hs2 (iI_u (by decide))
  refine z_aload_n X (x := A 179) rfl (List.Mem.head _) (z_load_n X (x := x) rfl (List.Mem.tail _ (List.Mem.head _)) (z_const X rfl (z_bipush X rfl (zcS_i0 X E (As := [.int (Int32.ofInt x), .int (Int32.ofInt 0), .int (Int32.ofInt 7)]) (st := [.ref (A 179)]) rfl rfl (k_in G Is2 (by first | exact ⟨p0.1, p0.2⟩ | omega) (by first | exact ⟨by decide, by decide⟩ | omega) (by first | exact ⟨by decide, by decide⟩ | omega)) rfl (Nat.le_of_ble_eq_true rfl) (fun s3 e4 Is3 Fs3 hrs3 hps3 => ?_)))))
  have Gs3 := fm_tq Fs2 Fs3 rfl rfl
  have ws3_73 : iI s3 73 = iI s2 73 := fm_iq Fs3 rfl
  have N5 : ∀ e6 : Int, (((e4 ≠ 0) ∧ e6 = 0) ∨ ((e4 = 0) ∧ e6 = 1)) → WS k 21 [(0, .ref (A 179)), (1, .int (Int32.ofInt x)), (2, .int (Int32.ofInt y))] [.int (Int32.ofInt e6), .ref (A 179)] (Wd A dT s3) 0 0 := by
    intro e6 he6
    have re6 : 0 ≤ e6 ∧ e6 ≤ 1 := by first | (clear he6 hps3; omega) | (clear hps3; omega) | omega
    refine z_const X rfl (zcV_i0 X E 179 (As := [.int (Int32.ofInt e6), .int (Int32.ofInt 1)]) (st := []) rfl rfl rfl rfl (k_bad G Is3 (by first | exact oq_31e518ae re6.2 re6.1 | omega) (by first | exact ⟨by decide, by decide⟩ | omega)) rfl (Nat.le_of_ble_eq_true rfl) (fun s7 e8 Is7 Fs7 hrs7 hps7 => ?_))
    have Gs7 := fm_tq Gs3 Fs7 rfl rfl
    have b9 := bi_73 Is7
    refine z_if_ne X (t := 51) rfl rfl hrs7 (fun g10 => ?_) (fun g10 => ?_)
    ·
      refine z_const X rfl ?_
      exact w_iret X.1 q hRt rfl (ax_d X (show cdA 274 52 = some (.ireturn, 1, 0, 0, 0) from rfl)) (Nat.zero_le _) (Nat.zero_le _) ⟨_, rfl, Is7, Gs7, 0, rfl, (by decide), trivial⟩
    ·
      refine z_aload_n X (x := A 179) rfl (List.Mem.head _) (z_load_n X (x := y) rfl (List.Mem.tail _ (List.Mem.tail _ (List.Mem.head _))) (z_const X rfl (z_bipush X rfl (zcS_i0 X E (As := [.int (Int32.ofInt y), .int (Int32.ofInt 0), .int (Int32.ofInt 24)]) (st := [.ref (A 179)]) rfl rfl (k_in G Is7 (by first | exact ⟨p1.1, p1.2⟩ | omega) (by first | exact ⟨by decide, by decide⟩ | omega) (by first | exact ⟨by decide, by decide⟩ | omega)) rfl (Nat.le_of_ble_eq_true rfl) (fun s11 e12 Is11 Fs11 hrs11 hps11 => ?_)))))
      have Gs11 := fm_tq Gs7 Fs11 rfl rfl
      have ws11_73 : iI s11 73 = iI s7 73 := fm_iq Fs11 rfl
      have N13 : ∀ e14 : Int, (((e12 ≠ 0) ∧ e14 = 0) ∨ ((e12 = 0) ∧ e14 = 1)) → WS k 44 [(0, .ref (A 179)), (1, .int (Int32.ofInt x)), (2, .int (Int32.ofInt y))] [.int (Int32.ofInt e14), .ref (A 179)] (Wd A dT s11) 0 0 := by
        intro e14 he14
        have re14 : 0 ≤ e14 ∧ e14 ≤ 1 := by first | (clear he14 hps11 hps7 he6 hps3; omega) | (clear hps11 hps7 he6 hps3; omega) | omega
        refine z_const X rfl (zcV_i0 X E 179 (As := [.int (Int32.ofInt e14), .int (Int32.ofInt 2)]) (st := []) rfl rfl rfl rfl (k_bad G Is11 (by first | exact oq_31e518ae re14.2 re14.1 | omega) (by first | exact ⟨by decide, by decide⟩ | omega)) rfl (Nat.le_of_ble_eq_true rfl) (fun s15 e16 Is15 Fs15 hrs15 hps15 => ?_))
        have Gs15 := fm_tq Gs11 Fs15 rfl rfl
        have b17 := bi_73 Is15
        refine z_if_eq X (t := 53) rfl rfl hrs15 (fun g18 => ?_) (fun g18 => ?_)
        ·
          refine z_aload_n X (x := A 179) rfl (List.Mem.head _) (s_getR X 179 rfl (c518_ok rfl) rfl rfl (z_load_n X (x := x) rfl (List.Mem.tail _ (List.Mem.head _)) (z_ald X 453 rfl (c518_ok rfl) rfl (by first | exact oq_859d1a00 g10 hps7.2.1 re6.2 he6 hps3 | omega) (show x < 8 by first | exact oq_dcc08218 g10 hps7.2.1 re6.2 he6 hps3 | omega) (cbig_ok rfl) ?_)))
          have b19 := bc_398 Is15 (show (x).toNat < 8 by first | exact oq_6129a798 g10 hps7.2.1 re6.2 he6 hps3 | omega)
          refine z_store_n X (lv' := [(3, .int (Int32.ofInt (iC s15 398 (x).toNat))), (0, .ref (A 179)), (1, .int (Int32.ofInt x)), (2, .int (Int32.ofInt y))]) rfl (by decide) (fun _ h => h) (z_aload_n X (x := A 179) rfl (List.Mem.tail _ (List.Mem.head _)) (s_getR X 179 rfl (c518_ok rfl) rfl rfl (z_load_n X (x := x) rfl (List.Mem.tail _ (List.Mem.tail _ (List.Mem.head _))) (z_load_n X (x := y) rfl (List.Mem.tail _ (List.Mem.tail _ (List.Mem.tail _ (List.Mem.head _)))) (z_ast X 453 rfl (c518_ok rfl) rfl (by first | exact oq_859d1a00 g10 hps7.2.1 re6.2 he6 hps3 | omega) (show x < 8 by first | exact oq_dcc08218 g10 hps7.2.1 re6.2 he6 hps3 | omega) (cbig_ok rfl) (wd_gen (fun s20 hs20 => ?_)))))))
          have Is20 : Bd s20 := eqB hs20 (bd_C Is15 (show (0 : Int) ≤ y ∧ y ≤ 24 by first | exact ⟨oq_b7ca64e0 g18 hps15.2.1 re14.2 he14 hps11, oq_240b5d14 g18 hps15.2.1 re14.2 he14 hps11⟩ | omega) ⟨by first | exact p1.1 | omega, by first | exact p1.2 | omega⟩)
          have Fs20 := eqF hs20 (fm_C Gs15 (inl_ok (a := 398) rfl))
          have ws20_73 : iI s20 73 = iI s15 73 := eqI hs20 rfl
          exact z_load_n X (x := (iC s15 398 (x).toNat)) rfl (List.Mem.head _) (w_iret X.1 q hRt rfl (ax_d X (show cdA 274 68 = some (.ireturn, 1, 0, 0, 0) from rfl)) (Nat.zero_le _) (Nat.zero_le _) ⟨_, rfl, Is20, Fs20, (iC s15 398 (x).toNat), rfl, (rng_to _), trivial⟩)
        ·
          refine z_const X rfl ?_
          exact w_iret X.1 q hRt rfl (ax_d X (show cdA 274 52 = some (.ireturn, 1, 0, 0, 0) from rfl)) (Nat.zero_le _) (Nat.zero_le _) ⟨_, rfl, Is15, Gs15, 0, rfl, (by decide), trivial⟩
      refine z_if_ne X (t := 43) rfl rfl hrs11 (fun g21 => ?_) (fun g21 => ?_)
      ·
        exact z_const X rfl (N13 _ (Or.inl ⟨g21, rfl⟩))
      ·
        exact z_const X rfl (z_goto X (t := 44) rfl rfl (N13 _ (Or.inr (⟨g21, rfl⟩))))
  refine z_if_ne X (t := 20) rfl rfl hrs3 (fun g22 => ?_) (fun g22 => ?_)
  ·
    exact z_const X rfl (N5 _ (Or.inl ⟨g22, rfl⟩))
  ·
    exact z_const X rfl (z_goto X (t := 21) rfl rfl (N5 _ (Or.inr (⟨g22, rfl⟩))))
theorem k_hours (G : GX l s0 D tys a0 dT) (I : Bd s) {x y : Int} (p0 : rng x) (p1 : rng y) : CT l s0 D A dT 273 (rmN 273) [.ref (A 179), .int (Int32.ofInt x), .int (Int32.ofInt y)] s (fun o t => Bd t ∧ Fm [73, 102, 103] [] s t ∧ ∃ e, o = .inl (some (.int (Int32.ofInt e))) ∧ rng e ∧ (True)) := by
  refine ct_of G (by decide) (Nat.le_of_ble_eq_true rfl) (fun k X E hRt hXt q => ?_)
  show WS k 0 [(0, .ref (A 179)), (1, .int (Int32.ofInt x)), (2, .int (Int32.ofInt y))] [] _ 0 0
  have F : Fm [73, 102, 103] [] s s := fm_rf _ _ s
  have b1 := bi_73 I
  refine z_aload_n X (x := A 179) rfl (List.Mem.head _) (z_const X rfl (s_putI X 179 rfl (c518_ok rfl) rfl rfl (by decide) rfl rfl rfl (wd_gen (fun s2 hs2 => ?_))))
  have Is2 : Bd s2 := eqB hs2 (bd_I I (show (0 : Int) ≤ 0 ∧ 0 ≤ 3 by first | exact ⟨by decide, by decide⟩ | omega) (by decide))
  have Fs2 := eqF hs2 (fm_I F (inl_ok (a := 73) rfl))
  have vs2 : iI s2 73 = 0 := eqI hs2 (iI_u (by decide))
  refine z_aload_n X (x := A 179) rfl (List.Mem.head _) (z_load_n X (x := x) rfl (List.Mem.tail _ (List.Mem.head _)) (z_const X rfl (z_const X rfl (zcS_i0 X E (As := [.int (Int32.ofInt x), .int (Int32.ofInt 0), .int (Int32.ofInt 1)]) (st := [.ref (A 179)]) rfl rfl (k_in G Is2 (by first | exact ⟨p0.1, p0.2⟩ | omega) (by first | exact ⟨by decide, by decide⟩ | omega) (by first | exact ⟨by decide, by decide⟩ | omega)) rfl (Nat.le_of_ble_eq_true rfl) (fun s3 e4 Is3 Fs3 hrs3 hps3 => ?_)))))
  have Gs3 := fm_tq Fs2 Fs3 rfl rfl
  have ws3_73 : iI s3 73 = iI s2 73 := fm_iq Fs3 rfl
  refine z_if_eq X (t := 34) rfl rfl hrs3 (fun g5 => ?_) (fun g5 => ?_)
  ·
    refine z_const X rfl (z_goto X (t := 39) rfl rfl (z_const X rfl (zcV_i0 X E 179 (As := [.int (Int32.ofInt 1), .int (Int32.ofInt 1)]) (st := []) rfl rfl rfl rfl (k_bad G Is3 (by first | exact Or.inr (by decide) | omega) (by first | exact ⟨by decide, by decide⟩ | omega)) rfl (Nat.le_of_ble_eq_true rfl) (fun s6 e7 Is6 Fs6 hrs6 hps6 => ?_))))
    have Gs6 := fm_tq Gs3 Fs6 rfl rfl
    have b8 := bi_73 Is6
    refine z_if_eq X (t := 48) rfl rfl hrs6 (fun g9 => ?_) (fun g9 => ?_)
    ·
      refine z_load_n X (x := x) rfl (List.Mem.tail _ (List.Mem.head _)) ?_
      have N10 : ∀ e11 : Int, (((x ≠ 0) ∧ ((1 : Int) ≤ iI s6 103 ∧ iI s6 103 ≤ 8) ∧ e11 = (iI s6 103)) ∨ ((x = 0) ∧ ((1 : Int) ≤ iI s6 102 ∧ iI s6 102 ≤ 24) ∧ e11 = (iI s6 102))) → WS k 63 [(0, .ref (A 179)), (1, .int (Int32.ofInt x)), (2, .int (Int32.ofInt y))] [.int (Int32.ofInt e11)] (Wd A dT s6) 0 0 := by
        intro e11 he11
        refine z_store_n X (lv' := [(3, .int (Int32.ofInt e11)), (0, .ref (A 179)), (1, .int (Int32.ofInt x)), (2, .int (Int32.ofInt y))]) rfl (by decide) (fun _ h => h) (z_load_n X (x := x) rfl (List.Mem.tail _ (List.Mem.tail _ (List.Mem.head _))) (z_if_ne X (t := 76) rfl rfl ⟨by first | exact p0.1 | omega, by first | exact p0.2 | omega⟩ (fun g12 => ?_) (fun g12 => ?_)))
        ·
          refine z_aload_n X (x := A 179) rfl (List.Mem.tail _ (List.Mem.head _)) (z_load_n X (x := y) rfl (List.Mem.tail _ (List.Mem.tail _ (List.Mem.tail _ (List.Mem.head _)))) (s_putI X 179 rfl (c518_ok rfl) rfl rfl (by decide) rfl rfl rfl (wd_gen (fun s13 hs13 => ?_))))
          have Is13 : Bd s13 := eqB hs13 (bd_I Is6 (show (1 : Int) ≤ y ∧ y ≤ 8 by first | exact ⟨oq_c74211cc g9 hps6.2.1, oq_3ff45f06 g9 hps6.2.1⟩ | omega) ⟨by first | exact p1.1 | omega, by first | exact p1.2 | omega⟩)
          have Fs13 := eqF hs13 (fm_I Gs6 (inl_ok (a := 103) rfl))
          have vs13 : iI s13 103 = y := eqI hs13 (iI_u ⟨by first | exact p1.1 | omega, by first | exact p1.2 | omega⟩)
          have ws13_73 : iI s13 73 = iI s6 73 := eqI hs13 rfl
          refine z_load_n X (x := e11) rfl (List.Mem.head _) ?_
          exact w_iret X.1 q hRt rfl (ax_d X (show cdA 273 82 = some (.ireturn, 1, 0, 0, 0) from rfl)) (Nat.zero_le _) (Nat.zero_le _) ⟨_, rfl, Is13, Fs13, e11, rfl, ⟨by first | exact oq_62abe554 he11 | omega, by first | exact oq_c46c61bd he11 | omega⟩, trivial⟩
        ·
          refine z_aload_n X (x := A 179) rfl (List.Mem.tail _ (List.Mem.head _)) (z_load_n X (x := y) rfl (List.Mem.tail _ (List.Mem.tail _ (List.Mem.tail _ (List.Mem.head _)))) (s_putI X 179 rfl (c518_ok rfl) rfl rfl (by decide) rfl rfl rfl (wd_gen (fun s14 hs14 => ?_))))
          have Is14 : Bd s14 := eqB hs14 (bd_I Is6 (show (1 : Int) ≤ y ∧ y ≤ 24 by first | exact ⟨oq_7a39abe9 g12 g5 hps3, oq_fc8cbade g12 g5 hps3⟩ | omega) ⟨by first | exact p1.1 | omega, by first | exact p1.2 | omega⟩)
          have Fs14 := eqF hs14 (fm_I Gs6 (inl_ok (a := 102) rfl))
          have vs14 : iI s14 102 = y := eqI hs14 (iI_u ⟨by first | exact p1.1 | omega, by first | exact p1.2 | omega⟩)
          have ws14_73 : iI s14 73 = iI s6 73 := eqI hs14 rfl
          refine z_goto X (t := 81) rfl rfl (z_load_n X (x := e11) rfl (List.Mem.head _) ?_)
          exact w_iret X.1 q hRt rfl (ax_d X (show cdA 273 82 = some (.ireturn, 1, 0, 0, 0) from rfl)) (Nat.zero_le _) (Nat.zero_le _) ⟨_, rfl, Is14, Fs14, e11, rfl, ⟨by first | exact oq_62abe554 he11 | omega, by first | exact oq_c46c61bd he11 | omega⟩, trivial⟩
      refine z_if_ne X (t := 59) rfl rfl ⟨by first | exact p0.1 | omega, by first | exact p0.2 | omega⟩ (fun g15 => ?_) (fun g15 => ?_)
      ·
        refine z_aload_n X (x := A 179) rfl (List.Mem.head _) (z_getI X 179 rfl (c518_ok rfl) rfl rfl ?_)
        have b16 := bi_103 Is6
        exact N10 _ (Or.inl ⟨g15, b16, rfl⟩)
      ·
        refine z_aload_n X (x := A 179) rfl (List.Mem.head _) (z_getI X 179 rfl (c518_ok rfl) rfl rfl ?_)
        have b17 := bi_102 Is6
        exact z_goto X (t := 63) rfl rfl (N10 _ (Or.inr (⟨g15, b17, rfl⟩)))
    ·
      refine z_const X rfl ?_
      exact w_iret X.1 q hRt rfl (ax_d X (show cdA 273 47 = some (.ireturn, 1, 0, 0, 0) from rfl)) (Nat.zero_le _) (Nat.zero_le _) ⟨_, rfl, Is6, Gs6, 0, rfl, (by decide), trivial⟩
  ·
    refine z_load_n X (x := y) rfl (List.Mem.tail _ (List.Mem.tail _ (List.Mem.head _))) (z_const X rfl (z_load_n X (x := x) rfl (List.Mem.tail _ (List.Mem.head _)) ?_))
    have N18 : ∀ e19 : Int, (((x ≠ 0) ∧ e19 = 8) ∨ ((x = 0) ∧ e19 = 24)) → WS k 28 [(0, .ref (A 179)), (1, .int (Int32.ofInt x)), (2, .int (Int32.ofInt y))] [.int (Int32.ofInt e19), .int (Int32.ofInt 1), .int (Int32.ofInt y), .ref (A 179)] (Wd A dT s3) 0 0 := by
      intro e19 he19
      have re19 : 8 ≤ e19 ∧ e19 ≤ 24 := by first | (clear he19 g5 hps3; omega) | (clear g5 hps3; omega) | omega
      refine zcS_i0 X E (As := [.int (Int32.ofInt y), .int (Int32.ofInt 1), .int (Int32.ofInt e19)]) (st := [.ref (A 179)]) rfl rfl (k_in G Is3 (by first | exact ⟨p1.1, p1.2⟩ | omega) (by first | exact ⟨by decide, by decide⟩ | omega) (by first | exact ⟨oq_ebc40354 re19.1, oq_5bcd337f re19.2⟩ | omega)) rfl (Nat.le_of_ble_eq_true rfl) (fun s20 e21 Is20 Fs20 hrs20 hps20 => ?_)
      have Gs20 := fm_tq Gs3 Fs20 rfl rfl
      have ws20_73 : iI s20 73 = iI s3 73 := fm_iq Fs20 rfl
      have N22 : ∀ e23 : Int, (((e21 ≠ 0) ∧ e23 = 0) ∨ ((e21 = 0) ∧ e23 = 1)) → WS k 39 [(0, .ref (A 179)), (1, .int (Int32.ofInt x)), (2, .int (Int32.ofInt y))] [.int (Int32.ofInt e23), .ref (A 179)] (Wd A dT s20) 0 0 := by
        intro e23 he23
        have re23 : 0 ≤ e23 ∧ e23 ≤ 1 := by first | (clear he23 hps20 he19 g5 hps3; omega) | (clear hps20 he19 g5 hps3; omega) | omega
        refine z_const X rfl (zcV_i0 X E 179 (As := [.int (Int32.ofInt e23), .int (Int32.ofInt 1)]) (st := []) rfl rfl rfl rfl (k_bad G Is20 (by first | exact oq_31e518ae re23.2 re23.1 | omega) (by first | exact ⟨by decide, by decide⟩ | omega)) rfl (Nat.le_of_ble_eq_true rfl) (fun s24 e25 Is24 Fs24 hrs24 hps24 => ?_))
        have Gs24 := fm_tq Gs20 Fs24 rfl rfl
        have b26 := bi_73 Is24
        refine z_if_eq X (t := 48) rfl rfl hrs24 (fun g27 => ?_) (fun g27 => ?_)
        ·
          refine z_load_n X (x := x) rfl (List.Mem.tail _ (List.Mem.head _)) ?_
          have N28 : ∀ e29 : Int, (((x ≠ 0) ∧ ((1 : Int) ≤ iI s24 103 ∧ iI s24 103 ≤ 8) ∧ e29 = (iI s24 103)) ∨ ((x = 0) ∧ ((1 : Int) ≤ iI s24 102 ∧ iI s24 102 ≤ 24) ∧ e29 = (iI s24 102))) → WS k 63 [(0, .ref (A 179)), (1, .int (Int32.ofInt x)), (2, .int (Int32.ofInt y))] [.int (Int32.ofInt e29)] (Wd A dT s24) 0 0 := by
            intro e29 he29
            refine z_store_n X (lv' := [(3, .int (Int32.ofInt e29)), (0, .ref (A 179)), (1, .int (Int32.ofInt x)), (2, .int (Int32.ofInt y))]) rfl (by decide) (fun _ h => h) (z_load_n X (x := x) rfl (List.Mem.tail _ (List.Mem.tail _ (List.Mem.head _))) (z_if_ne X (t := 76) rfl rfl ⟨by first | exact p0.1 | omega, by first | exact p0.2 | omega⟩ (fun g30 => ?_) (fun g30 => ?_)))
            ·
              refine z_aload_n X (x := A 179) rfl (List.Mem.tail _ (List.Mem.head _)) (z_load_n X (x := y) rfl (List.Mem.tail _ (List.Mem.tail _ (List.Mem.tail _ (List.Mem.head _)))) (s_putI X 179 rfl (c518_ok rfl) rfl rfl (by decide) rfl rfl rfl (wd_gen (fun s31 hs31 => ?_))))
              have Is31 : Bd s31 := eqB hs31 (bd_I Is24 (show (1 : Int) ≤ y ∧ y ≤ 8 by first | exact ⟨oq_e8d47ac5 g27 hps24.2.1 re23.2 he23 hps20, by first | (clear g30 he29 hps24 he23 hps20 he19 g5 hps3; omega) | (clear he29 hps24 he23 hps20 he19 g5 hps3; omega) | omega⟩ | omega) ⟨by first | exact p1.1 | omega, by first | exact p1.2 | omega⟩)
              have Fs31 := eqF hs31 (fm_I Gs24 (inl_ok (a := 103) rfl))
              have vs31 : iI s31 103 = y := eqI hs31 (iI_u ⟨by first | exact p1.1 | omega, by first | exact p1.2 | omega⟩)
              have ws31_73 : iI s31 73 = iI s24 73 := eqI hs31 rfl
              refine z_load_n X (x := e29) rfl (List.Mem.head _) ?_
              exact w_iret X.1 q hRt rfl (ax_d X (show cdA 273 82 = some (.ireturn, 1, 0, 0, 0) from rfl)) (Nat.zero_le _) (Nat.zero_le _) ⟨_, rfl, Is31, Fs31, e29, rfl, ⟨by first | exact oq_62abe554 he29 | omega, by first | exact oq_c46c61bd he29 | omega⟩, trivial⟩
            ·
              refine z_aload_n X (x := A 179) rfl (List.Mem.tail _ (List.Mem.head _)) (z_load_n X (x := y) rfl (List.Mem.tail _ (List.Mem.tail _ (List.Mem.tail _ (List.Mem.head _)))) (s_putI X 179 rfl (c518_ok rfl) rfl rfl (by decide) rfl rfl rfl (wd_gen (fun s32 hs32 => ?_))))
              have Is32 : Bd s32 := eqB hs32 (bd_I Is24 (show (1 : Int) ≤ y ∧ y ≤ 24 by first | exact ⟨oq_e8d47ac5 g27 hps24.2.1 re23.2 he23 hps20, oq_71db95f9 g27 hps24.2.1 re23.2 he23 hps20 re19.2⟩ | omega) ⟨by first | exact p1.1 | omega, by first | exact p1.2 | omega⟩)
              have Fs32 := eqF hs32 (fm_I Gs24 (inl_ok (a := 102) rfl))
              have vs32 : iI s32 102 = y := eqI hs32 (iI_u ⟨by first | exact p1.1 | omega, by first | exact p1.2 | omega⟩)
              have ws32_73 : iI s32 73 = iI s24 73 := eqI hs32 rfl
              refine z_goto X (t := 81) rfl rfl (z_load_n X (x := e29) rfl (List.Mem.head _) ?_)
              exact w_iret X.1 q hRt rfl (ax_d X (show cdA 273 82 = some (.ireturn, 1, 0, 0, 0) from rfl)) (Nat.zero_le _) (Nat.zero_le _) ⟨_, rfl, Is32, Fs32, e29, rfl, ⟨by first | exact oq_62abe554 he29 | omega, by first | exact oq_c46c61bd he29 | omega⟩, trivial⟩
          refine z_if_ne X (t := 59) rfl rfl ⟨by first | exact p0.1 | omega, by first | exact p0.2 | omega⟩ (fun g33 => ?_) (fun g33 => ?_)
          ·
            refine z_aload_n X (x := A 179) rfl (List.Mem.head _) (z_getI X 179 rfl (c518_ok rfl) rfl rfl ?_)
            have b34 := bi_103 Is24
            exact N28 _ (Or.inl ⟨g33, b34, rfl⟩)
          ·
            refine z_aload_n X (x := A 179) rfl (List.Mem.head _) (z_getI X 179 rfl (c518_ok rfl) rfl rfl ?_)
            have b35 := bi_102 Is24
            exact z_goto X (t := 63) rfl rfl (N28 _ (Or.inr (⟨g33, b35, rfl⟩)))
        ·
          refine z_const X rfl ?_
          exact w_iret X.1 q hRt rfl (ax_d X (show cdA 273 47 = some (.ireturn, 1, 0, 0, 0) from rfl)) (Nat.zero_le _) (Nat.zero_le _) ⟨_, rfl, Is24, Gs24, 0, rfl, (by decide), trivial⟩
      refine z_if_ne X (t := 38) rfl rfl hrs20 (fun g36 => ?_) (fun g36 => ?_)
      ·
        exact z_const X rfl (N22 _ (Or.inl ⟨g36, rfl⟩))
      ·
        exact z_const X rfl (z_goto X (t := 39) rfl rfl (N22 _ (Or.inr (⟨g36, rfl⟩))))
    refine z_if_ne X (t := 26) rfl rfl ⟨by first | exact p0.1 | omega, by first | exact p0.2 | omega⟩ (fun g37 => ?_) (fun g37 => ?_)
    ·
      exact z_bipush X rfl (N18 _ (Or.inl ⟨g37, rfl⟩))
    ·
      exact z_bipush X rfl (z_goto X (t := 28) rfl rfl (N18 _ (Or.inr (⟨g37, rfl⟩))))
theorem k_storm (G : GX l s0 D tys a0 dT) (I : Bd s) {x y : Int} (p0 : rng x) (p1 : y = 0 ∨ y = 1) : CT l s0 D A dT 279 (rmN 279) [.ref (A 179), .int (Int32.ofInt x), .int (Int32.ofInt y)] s (fun o t => Bd t ∧ Fm [73] [399] s t ∧ ∃ e, o = .inl (some (.int (Int32.ofInt e))) ∧ rng e ∧ (True)) := by
  refine ct_of G (by decide) (Nat.le_of_ble_eq_true rfl) (fun k X E hRt hXt q => ?_)
  show WS k 0 [(0, .ref (A 179)), (1, .int (Int32.ofInt x)), (2, .int (Int32.ofInt y))] [] _ 0 0
  have F : Fm [73] [399] s s := fm_rf _ _ s
  have b1 := bi_73 I
  refine z_aload_n X (x := A 179) rfl (List.Mem.head _) (z_const X rfl (s_putI X 179 rfl (c518_ok rfl) rfl rfl (by decide) rfl rfl rfl (wd_gen (fun s2 hs2 => ?_))))
  have Is2 : Bd s2 := eqB hs2 (bd_I I (show (0 : Int) ≤ 0 ∧ 0 ≤ 3 by first | exact ⟨by decide, by decide⟩ | omega) (by decide))
  have Fs2 := eqF hs2 (fm_I F (inl_ok (a := 73) rfl))
  have vs2 : iI s2 73 = 0 := eqI hs2 (iI_u (by decide))
  refine z_aload_n X (x := A 179) rfl (List.Mem.head _) (z_load_n X (x := x) rfl (List.Mem.tail _ (List.Mem.head _)) (z_const X rfl (z_bipush X rfl (zcS_i0 X E (As := [.int (Int32.ofInt x), .int (Int32.ofInt 0), .int (Int32.ofInt 127)]) (st := [.ref (A 179)]) rfl rfl (k_in G Is2 (by first | exact ⟨p0.1, p0.2⟩ | omega) (by first | exact ⟨by decide, by decide⟩ | omega) (by first | exact ⟨by decide, by decide⟩ | omega)) rfl (Nat.le_of_ble_eq_true rfl) (fun s3 e4 Is3 Fs3 hrs3 hps3 => ?_)))))
  have Gs3 := fm_tq Fs2 Fs3 rfl rfl
  have ws3_73 : iI s3 73 = iI s2 73 := fm_iq Fs3 rfl
  have N5 : ∀ e6 : Int, (((e4 ≠ 0) ∧ e6 = 0) ∨ ((e4 = 0) ∧ e6 = 1)) → WS k 21 [(0, .ref (A 179)), (1, .int (Int32.ofInt x)), (2, .int (Int32.ofInt y))] [.int (Int32.ofInt e6), .ref (A 179)] (Wd A dT s3) 0 0 := by
    intro e6 he6
    have re6 : 0 ≤ e6 ∧ e6 ≤ 1 := by first | (clear he6 hps3 p1; omega) | (clear hps3 p1; omega) | omega
    refine z_const X rfl (zcV_i0 X E 179 (As := [.int (Int32.ofInt e6), .int (Int32.ofInt 1)]) (st := []) rfl rfl rfl rfl (k_bad G Is3 (by first | exact oq_31e518ae re6.2 re6.1 | omega) (by first | exact ⟨by decide, by decide⟩ | omega)) rfl (Nat.le_of_ble_eq_true rfl) (fun s7 e8 Is7 Fs7 hrs7 hps7 => ?_))
    have Gs7 := fm_tq Gs3 Fs7 rfl rfl
    have b9 := bi_73 Is7
    refine z_if_eq X (t := 30) rfl rfl hrs7 (fun g10 => ?_) (fun g10 => ?_)
    ·
      refine z_aload_n X (x := A 179) rfl (List.Mem.head _) (s_getR X 179 rfl (c518_ok rfl) rfl rfl (z_load_n X (x := x) rfl (List.Mem.tail _ (List.Mem.head _)) (z_zald X 454 rfl (c518_ok rfl) rfl (by first | exact oq_d2f74293 g10 hps7.2.1 re6.2 he6 hps3 | omega) (show x < 128 by first | exact oq_bb641c4c g10 hps7.2.1 re6.2 he6 hps3 | omega) (cbig_ok rfl) ?_)))
      have b11 := bc_399 Is7 (show (x).toNat < 128 by first | exact oq_48be0e30 g10 hps7.2.1 re6.2 he6 hps3 | omega)
      refine z_store_n X (lv' := [(3, .int (Int32.ofInt (iC s7 399 (x).toNat))), (0, .ref (A 179)), (1, .int (Int32.ofInt x)), (2, .int (Int32.ofInt y))]) rfl (by decide) (fun _ h => h) (z_aload_n X (x := A 179) rfl (List.Mem.tail _ (List.Mem.head _)) (s_getR X 179 rfl (c518_ok rfl) rfl rfl (z_load_n X (x := x) rfl (List.Mem.tail _ (List.Mem.tail _ (List.Mem.head _))) (z_load_n X (x := y) rfl (List.Mem.tail _ (List.Mem.tail _ (List.Mem.tail _ (List.Mem.head _)))) (z_zast X 454 rfl (c518_ok rfl) rfl (by first | exact oq_d2f74293 g10 hps7.2.1 re6.2 he6 hps3 | omega) (show x < 128 by first | exact oq_bb641c4c g10 hps7.2.1 re6.2 he6 hps3 | omega) (cbig_ok rfl) (by first | exact p1 | omega) (wd_gen (fun s12 hs12 => ?_)))))))
      have Is12 : Bd s12 := eqB hs12 (bd_C Is7 (show (0 : Int) ≤ y ∧ y ≤ 1 by first | exact ⟨oq_e4aca38c p1, oq_14617724 p1⟩ | omega) ⟨by first | exact oq_bde653e9 p1 | omega, by first | exact oq_4ad2cb8b p1 | omega⟩)
      have Fs12 := eqF hs12 (fm_C Gs7 (inl_ok (a := 399) rfl))
      have ws12_73 : iI s12 73 = iI s7 73 := eqI hs12 rfl
      refine z_load_n X (x := (iC s7 399 (x).toNat)) rfl (List.Mem.head _) ?_
      exact w_iret X.1 q hRt (nar_ret (by first | exact oq_31e518ae b11.2 b11.1 | omega)) (ax_d X (show cdA 279 45 = some (.ireturn, 1, 0, 0, 0) from rfl)) (Nat.zero_le _) (Nat.zero_le _) ⟨_, rfl, Is12, Fs12, (iC s7 399 (x).toNat), rfl, (rng_to _), trivial⟩
    ·
      refine z_const X rfl ?_
      exact w_iret X.1 q hRt (nar_ret (by first | exact Or.inl (by decide) | omega)) (ax_d X (show cdA 279 29 = some (.ireturn, 1, 0, 0, 0) from rfl)) (Nat.zero_le _) (Nat.zero_le _) ⟨_, rfl, Is7, Gs7, 0, rfl, (by decide), trivial⟩
  refine z_if_ne X (t := 20) rfl rfl hrs3 (fun g13 => ?_) (fun g13 => ?_)
  ·
    exact z_const X rfl (N5 _ (Or.inl ⟨g13, rfl⟩))
  ·
    exact z_const X rfl (z_goto X (t := 21) rfl rfl (N5 _ (Or.inr (⟨g13, rfl⟩))))
theorem k_configure (G : GX l s0 D tys a0 dT) (I : Bd s) {x : Int} (p0 : rng x) : CT l s0 D A dT 264 (rmN 264) [.ref (A 179), .int (Int32.ofInt x)] s (fun o t => Bd t ∧ Fm [73, 99] [237] s t ∧ ∃ e, o = .inl (some (.int (Int32.ofInt e))) ∧ rng e ∧ (True)) := by
  refine ct_of G (by decide) (Nat.le_of_ble_eq_true rfl) (fun k X E hRt hXt q => ?_)
  show WS k 0 [(0, .ref (A 179)), (1, .int (Int32.ofInt x))] [] _ 0 0
  have F : Fm [73, 99] [237] s s := fm_rf _ _ s
  have b1 := bi_73 I
  have b2 := bi_99 I
  refine z_aload_n X (x := A 179) rfl (List.Mem.head _) (z_const X rfl (s_putI X 179 rfl (c518_ok rfl) rfl rfl (by decide) rfl rfl rfl (wd_gen (fun s3 hs3 => ?_))))
  have Is3 : Bd s3 := eqB hs3 (bd_I I (show (0 : Int) ≤ 0 ∧ 0 ≤ 3 by first | exact ⟨by decide, by decide⟩ | omega) (by decide))
  have Fs3 := eqF hs3 (fm_I F (inl_ok (a := 73) rfl))
  have vs3 : iI s3 73 = 0 := eqI hs3 (iI_u (by decide))
  have ws3_99 : iI s3 99 = iI s 99 := eqI hs3 rfl
  refine z_aload_n X (x := A 179) rfl (List.Mem.head _) (z_load_n X (x := x) rfl (List.Mem.tail _ (List.Mem.head _)) (z_if_lt X (t := 17) rfl rfl ⟨by first | exact p0.1 | omega, by first | exact p0.2 | omega⟩ (fun g4 => ?_) (fun g4 => ?_)))
  ·
    refine z_const X rfl (z_goto X (t := 22) rfl rfl (z_const X rfl (zcV_i0 X E 179 (As := [.int (Int32.ofInt 1), .int (Int32.ofInt 1)]) (st := []) rfl rfl rfl rfl (k_bad G Is3 (by first | exact Or.inr (by decide) | omega) (by first | exact ⟨by decide, by decide⟩ | omega)) rfl (Nat.le_of_ble_eq_true rfl) (fun s5 e6 Is5 Fs5 hrs5 hps5 => ?_))))
    have Gs5 := fm_tq Fs3 Fs5 rfl rfl
    have b7 := bi_73 Is5
    have ws5_99 : iI s5 99 = iI s3 99 := fm_iq Fs5 rfl
    refine z_if_eq X (t := 31) rfl rfl hrs5 (fun g8 => ?_) (fun g8 => ?_)
    ·
      refine z_aload_n X (x := A 179) rfl (List.Mem.head _) (z_getI X 179 rfl (c518_ok rfl) rfl rfl ?_)
      have b9 := bi_99 Is5
      refine z_bipush X rfl (z_icmp_ne X (t := 42) rfl rfl (rng_to _) (by decide) (fun g10 => ?_) (fun g10 => ?_))
      ·
        refine z_aload_n X (x := A 179) rfl (List.Mem.head _) (s_getR X 179 rfl (c518_ok rfl) rfl rfl (z_aload_n X (x := A 179) rfl (List.Mem.head _) (z_getI X 179 rfl (c518_ok rfl) rfl rfl ?_)))
        have b11 := bi_99 Is5
        refine z_load_n X (x := x) rfl (List.Mem.tail _ (List.Mem.head _)) (z_ast X 265 rfl (c518_ok rfl) rfl (by first | exact b11.1 | omega) (show (iI s5 99) < 6 by first | exact oq_fac8de0c b11.2 g10 | omega) (cbig_ok rfl) (wd_gen (fun s12 hs12 => ?_)))
        have Is12 : Bd s12 := eqB hs12 (bd_C Is5 (show (0 : Int) ≤ x ∧ x ≤ 16777215 by first | exact ⟨oq_65cab3da g8 hps5.2.1, oq_c2c3ef0b g4⟩ | omega) ⟨by first | exact p0.1 | omega, by first | exact p0.2 | omega⟩)
        have Fs12 := eqF hs12 (fm_C Gs5 (inl_ok (a := 237) rfl))
        have ws12_73 : iI s12 73 = iI s5 73 := eqI hs12 rfl
        have ws12_99 : iI s12 99 = iI s5 99 := eqI hs12 rfl
        refine z_aload_n X (x := A 179) rfl (List.Mem.head _) (w_dup X.1 (ax_d X (show cdA 264 53 = some (.dup, 1, 0, 0, 0) from rfl)) rfl (z_getI X 179 rfl (c518_ok rfl) rfl rfl ?_))
        have b13 := bi_99 Is12
        refine z_const X rfl (z_add X rfl (s_putI X 179 rfl (c518_ok rfl) rfl rfl (by decide) rfl rfl rfl (wd_gen (fun s14 hs14 => ?_))))
        have Is14 : Bd s14 := eqB hs14 (bd_I Is12 (show (0 : Int) ≤ ((iI s12 99) + 1) ∧ ((iI s12 99) + 1) ≤ 6 by first | exact ⟨oq_54f49eb5 b13.1, oq_6c19c907 ws12_99 b11.2 g10⟩ | omega) ⟨by first | exact oq_74de1e16 b13.1 | omega, by first | exact oq_5fe14c36 b13.2 | omega⟩)
        have Fs14 := eqF hs14 (fm_I Fs12 (inl_ok (a := 99) rfl))
        have vs14 : iI s14 99 = ((iI s12 99) + 1) := eqI hs14 (iI_u ⟨by first | exact oq_74de1e16 b13.1 | omega, by first | exact oq_5fe14c36 b13.2 | omega⟩)
        have ws14_73 : iI s14 73 = iI s12 73 := eqI hs14 rfl
        refine z_aload_n X (x := A 179) rfl (List.Mem.head _) (z_getI X 179 rfl (c518_ok rfl) rfl rfl ?_)
        have b15 := bi_99 Is14
        refine z_const X rfl (z_sub X rfl ?_)
        exact w_iret X.1 q hRt rfl (ax_d X (show cdA 264 68 = some (.ireturn, 1, 0, 0, 0) from rfl)) (Nat.zero_le _) (Nat.zero_le _) ⟨_, rfl, Is14, Fs14, ((iI s14 99) - 1), rfl, ⟨by first | exact oq_c1e961c7 b15.1 | omega, by first | exact oq_b383b26c b15.2 | omega⟩, trivial⟩
      ·
        refine z_const X rfl ?_
        exact w_iret X.1 q hRt rfl (ax_d X (show cdA 264 41 = some (.ireturn, 1, 0, 0, 0) from rfl)) (Nat.zero_le _) (Nat.zero_le _) ⟨_, rfl, Is5, Gs5, (-1), rfl, (by decide), trivial⟩
    ·
      refine z_const X rfl ?_
      exact w_iret X.1 q hRt rfl (ax_d X (show cdA 264 30 = some (.ireturn, 1, 0, 0, 0) from rfl)) (Nat.zero_le _) (Nat.zero_le _) ⟨_, rfl, Is5, Gs5, 0, rfl, (by decide), trivial⟩
  ·
    refine z_load_n X (x := x) rfl (List.Mem.tail _ (List.Mem.head _)) (z_ldcw X rfl ?_)
    have N16 : ∀ e17 : Int, (((x < 16777216) ∧ e17 = 0) ∨ ((16777216 ≤ x) ∧ e17 = 1)) → WS k 22 [(0, .ref (A 179)), (1, .int (Int32.ofInt x))] [.int (Int32.ofInt e17), .ref (A 179)] (Wd A dT s3) 0 0 := by
      intro e17 he17
      have re17 : 0 ≤ e17 ∧ e17 ≤ 1 := by first | (clear he17; omega) | omega
      refine z_const X rfl (zcV_i0 X E 179 (As := [.int (Int32.ofInt e17), .int (Int32.ofInt 1)]) (st := []) rfl rfl rfl rfl (k_bad G Is3 (by first | exact oq_31e518ae re17.2 re17.1 | omega) (by first | exact ⟨by decide, by decide⟩ | omega)) rfl (Nat.le_of_ble_eq_true rfl) (fun s18 e19 Is18 Fs18 hrs18 hps18 => ?_))
      have Gs18 := fm_tq Fs3 Fs18 rfl rfl
      have b20 := bi_73 Is18
      have ws18_99 : iI s18 99 = iI s3 99 := fm_iq Fs18 rfl
      refine z_if_eq X (t := 31) rfl rfl hrs18 (fun g21 => ?_) (fun g21 => ?_)
      ·
        refine z_aload_n X (x := A 179) rfl (List.Mem.head _) (z_getI X 179 rfl (c518_ok rfl) rfl rfl ?_)
        have b22 := bi_99 Is18
        refine z_bipush X rfl (z_icmp_ne X (t := 42) rfl rfl (rng_to _) (by decide) (fun g23 => ?_) (fun g23 => ?_))
        ·
          refine z_aload_n X (x := A 179) rfl (List.Mem.head _) (s_getR X 179 rfl (c518_ok rfl) rfl rfl (z_aload_n X (x := A 179) rfl (List.Mem.head _) (z_getI X 179 rfl (c518_ok rfl) rfl rfl ?_)))
          have b24 := bi_99 Is18
          refine z_load_n X (x := x) rfl (List.Mem.tail _ (List.Mem.head _)) (z_ast X 265 rfl (c518_ok rfl) rfl (by first | exact b24.1 | omega) (show (iI s18 99) < 6 by first | exact oq_fac8de0c b24.2 g23 | omega) (cbig_ok rfl) (wd_gen (fun s25 hs25 => ?_)))
          have Is25 : Bd s25 := eqB hs25 (bd_C Is18 (show (0 : Int) ≤ x ∧ x ≤ 16777215 by first | exact ⟨g4, oq_a8b2581c g21 hps18.2.1 re17.2 he17⟩ | omega) ⟨by first | exact p0.1 | omega, by first | exact p0.2 | omega⟩)
          have Fs25 := eqF hs25 (fm_C Gs18 (inl_ok (a := 237) rfl))
          have ws25_73 : iI s25 73 = iI s18 73 := eqI hs25 rfl
          have ws25_99 : iI s25 99 = iI s18 99 := eqI hs25 rfl
          refine z_aload_n X (x := A 179) rfl (List.Mem.head _) (w_dup X.1 (ax_d X (show cdA 264 53 = some (.dup, 1, 0, 0, 0) from rfl)) rfl (z_getI X 179 rfl (c518_ok rfl) rfl rfl ?_))
          have b26 := bi_99 Is25
          refine z_const X rfl (z_add X rfl (s_putI X 179 rfl (c518_ok rfl) rfl rfl (by decide) rfl rfl rfl (wd_gen (fun s27 hs27 => ?_))))
          have Is27 : Bd s27 := eqB hs27 (bd_I Is25 (show (0 : Int) ≤ ((iI s25 99) + 1) ∧ ((iI s25 99) + 1) ≤ 6 by first | exact ⟨oq_54f49eb5 b26.1, oq_6c19c907 ws25_99 b24.2 g23⟩ | omega) ⟨by first | exact oq_74de1e16 b26.1 | omega, by first | exact oq_5fe14c36 b26.2 | omega⟩)
          have Fs27 := eqF hs27 (fm_I Fs25 (inl_ok (a := 99) rfl))
          have vs27 : iI s27 99 = ((iI s25 99) + 1) := eqI hs27 (iI_u ⟨by first | exact oq_74de1e16 b26.1 | omega, by first | exact oq_5fe14c36 b26.2 | omega⟩)
          have ws27_73 : iI s27 73 = iI s25 73 := eqI hs27 rfl
          refine z_aload_n X (x := A 179) rfl (List.Mem.head _) (z_getI X 179 rfl (c518_ok rfl) rfl rfl ?_)
          have b28 := bi_99 Is27
          refine z_const X rfl (z_sub X rfl ?_)
          exact w_iret X.1 q hRt rfl (ax_d X (show cdA 264 68 = some (.ireturn, 1, 0, 0, 0) from rfl)) (Nat.zero_le _) (Nat.zero_le _) ⟨_, rfl, Is27, Fs27, ((iI s27 99) - 1), rfl, ⟨by first | exact oq_c1e961c7 b28.1 | omega, by first | exact oq_b383b26c b28.2 | omega⟩, trivial⟩
        ·
          refine z_const X rfl ?_
          exact w_iret X.1 q hRt rfl (ax_d X (show cdA 264 41 = some (.ireturn, 1, 0, 0, 0) from rfl)) (Nat.zero_le _) (Nat.zero_le _) ⟨_, rfl, Is18, Gs18, (-1), rfl, (by decide), trivial⟩
      ·
        refine z_const X rfl ?_
        exact w_iret X.1 q hRt rfl (ax_d X (show cdA 264 30 = some (.ireturn, 1, 0, 0, 0) from rfl)) (Nat.zero_le _) (Nat.zero_le _) ⟨_, rfl, Is18, Gs18, 0, rfl, (by decide), trivial⟩
    refine z_icmp_lt X (t := 21) rfl rfl ⟨by first | exact p0.1 | omega, by first | exact p0.2 | omega⟩ (by decide) (fun g29 => ?_) (fun g29 => ?_)
    ·
      exact z_const X rfl (N16 _ (Or.inl ⟨g29, rfl⟩))
    ·
      exact z_const X rfl (z_goto X (t := 22) rfl rfl (N16 _ (Or.inr (⟨g29, rfl⟩))))
end M31
