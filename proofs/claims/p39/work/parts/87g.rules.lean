theorem oq_52d7a5f2 {a0 a1 a2 : Int} (h0 : (a0 ≤ a1 ∨ (a2 < 97 ∨ 122 < a2))) : (¬ ((a1 < a0 ∧ (97 ≤ a2 ∧ a2 ≤ 122)))) := by omega
theorem oq_1afc2d8d {a0 a1 a2 : Int} (h0 : (¬ ((a0 < a1 ∧ (97 ≤ a2 ∧ a2 ≤ 122))))) : (a1 ≤ a0 ∨ (a2 < 97 ∨ 122 < a2)) := by omega
theorem oq_e0157141 {a0 a1 : Int} (h0 : (¬ (a0 = a1))) (h1 : a1 ≤ a0) : (a1 + 1) ≤ a0 := by omega
theorem oq_7f43687c {a0 : Int} (h0 : a0 = 0) : a0 ≠ 9 := by omega
theorem oq_c4f7dcbe {a0 : Int} (h0 : a0 ≤ 999) : (¬ (999 < a0)) := by omega
theorem oq_753421c4 {a0 : Int} (h0 : a0 < 6) : (¬ (6 ≤ a0)) := by omega
theorem oq_7cc13a9e {a0 : Int}  : (a0 - a0) ≤ 6 := by omega
theorem oq_b728b332 {a0 : Int}  : ((a0 - a0) : Int).toNat = 0 := by omega
theorem oq_f1164398 {a0 a1 : Int} (h0 : a0 = a1) (h1 : a1 ≠ 0) : a0 ≠ 0 := by omega
theorem oq_bb4ee608 {a0 a1 : Int} (h0 : ((a0 = 0 ∧ a1 = 1) ∨ (a0 ≠ 0 ∧ a1 = a0))) (h1 : a0 = 0) : a1 = 1 := by omega
theorem oq_7ddc24af {a0 a1 : Int} (h0 : a0 = a1) (h1 : a0 ≠ 0) : a1 ≠ 0 := by omega
theorem oq_865e80c9 {a0 a1 : Int} (h0 : ((a0 = 0 ∧ a1 = 1) ∨ (a0 ≠ 0 ∧ a1 = a0))) : a1 ≠ 0 := by omega
theorem oq_63ed8481 {a0 a1 : Int} (h0 : a0 = a1) (h1 : a0 ≠ 0) : (¬ (a1 = 0)) := by omega
theorem oq_200e3d34 {a0 : Int} (h0 : a0 = 1) : a0 ≠ 0 := by omega
theorem oq_0eda04d6 {a0 a1 a2 : Int} (h0 : a0 = a1) (h1 : a1 = a2) (h2 : a2 ≠ 0) : a0 ≠ 0 := by omega
theorem oq_c83cf5ac {a0 : Int} (h0 : a0 = 3) : a0 ≠ 0 := by omega
theorem oq_3820d822 {a0 : Int} (h0 : a0 = 6) : 6 ≤ a0 := by omega
theorem oq_85fecb36 {a0 a1 : Int} (h0 : a0 = a1) (h1 : a1 = 3) : a0 ≠ 0 := by omega
theorem oq_57cf871a {a0 : Int} (h0 : a0 ≠ 6) (h1 : a0 ≤ 6) : a0 < 6 := by omega
theorem oq_bebd6b56 {a0 a1 a2 : Int} (h0 : a0 = a1) (h1 : a1 = a2) (h2 : a2 = 3) : a0 ≠ 0 := by omega
theorem oq_58135180 {a0 a1 a2 a3 : Int} (h0 : a0 = a1) (h1 : a1 = a2) (h2 : a2 = a3) (h3 : a3 = 3) : a0 ≠ 0 := by omega
theorem oq_5d54bdf4 {a0 a1 : Int} (h0 : a0 ≤ 999) (h1 : a0 = a1) : a1 ≤ 999 := by omega
theorem oq_941838ef {a0 a1 : Int} (h0 : (a0 < 0 ∨ 999 < a0)) (h1 : 0 ≤ a1) (h2 : a0 = a1) : 999 < a1 := by omega
theorem oq_afee10a7 {a0 : Int} (h0 : a0 ≠ 267347) (h1 : a0 ≠ 6476969) : (¬ ((a0 = 6476969 ∨ a0 = 267347))) := by omega
theorem oq_cd2e02de {a0 : Int} (h0 : (a0 = 6476969 ∨ a0 = 267347)) : a0 ≠ 0 := by omega
theorem oq_46b4b3a3 {a0 a1 : Int} (h0 : a0 = a1) (h1 : a1 ≠ 0) (h2 : a0 = 0) : (¬ (a0 = a1)) := by omega
theorem oq_0f86e900 {a0 a1 : Int} (h0 : a0 = a1) (h1 : a1 = 3) : a0 = 3 := by omega
theorem oq_6a63d7a5 {a0 a1 a2 : Int} (h0 : ((a0 = 0 ∧ a1 = 1) ∨ (a0 ≠ 0 ∧ a1 = a0))) (h1 : a2 = 0) (h2 : a0 = a2) : a1 = 1 := by omega
theorem oq_1f6b3751 {a0 a1 : Int} (h0 : a0 = a1) (h1 : (¬ (a1 = 0))) : a0 ≠ 0 := by omega
theorem oq_dd0832a4  : (0 : Int) < (0 + 1) := by omega
theorem oq_ea1615f9 {n0 n1 : Nat} (h0 : n0 < (n1 + 1)) : n0 < ((n1 + 1) + 1) := by omega
theorem oq_6af353b5 {n0 : Nat}  : (n0 + 1) < ((n0 + 1) + 1) := by omega
theorem oq_48b85e60 {a1 a2 : Int} {n0 : Nat} (h0 : ((n0 : Nat) : Int) < 0) : (a1 + ((n0 : Nat) : Int)) < a2 := by omega
theorem oq_804032b0 {a1 : Int} {n0 : Nat} (h0 : ((n0 : Nat) : Int) < 0) : 97 ≤ a1 := by omega
theorem oq_4325ccbb {a1 : Int} {n0 : Nat} (h0 : ((n0 : Nat) : Int) < 0) : a1 ≤ 122 := by omega
theorem oq_0bb9eb65 {a1 : Int} {n0 : Nat} (h0 : (¬ (((n0 : Nat) : Int) = a1))) (h1 : ((n0 : Nat) : Int) < (a1 + 1)) : ((n0 : Nat) : Int) < a1 := by omega
theorem oq_fbcfb2d7 {a0 a1 : Int}  : (a0 + (a1 + 1)) = ((a0 + a1) + 1) := by omega
theorem oq_c30340c4 {a0 : Int} (h0 : 0 ≤ a0) : ((a0 + 1) : Int).toNat = ((a0 : Int).toNat + 1) := by omega
theorem oq_e14e69fc {a0 : Int} (h0 : a0 < 6) : a0 ≤ 6 := by omega
theorem oq_94c0d625 {a0 : Int} (h0 : 0 ≤ a0) : (((a0 : Int).toNat : Nat) : Int) = a0 := by omega
theorem oq_1f0d5a1c {a0 : Int} (h0 : 6 ≤ a0) : (¬ ((a0 + 1) ≤ 6)) := by omega
theorem oq_ee3e227f {a0 : Int} (h0 : (¬ (a0 = 6))) (h1 : 6 ≤ a0) : (¬ (a0 ≤ 6)) := by omega
theorem oq_bf615b4b {a0 a1 : Int}  : ((a0 + a1) - a0) = a1 := by omega
theorem oq_c52cd419 {a0 : Int} (h0 : 6 < a0) : (¬ (a0 ≤ 6)) := by omega
theorem oq_fd0b8ed9 {a0 : Int} {n1 : Nat}  : a0 ≤ (a0 + ((n1 : Nat) : Int)) := by omega
theorem oq_a8fdfb76 {a1 a2 : Int} {n0 : Nat} (h0 : ((n0 : Nat) : Int) < (a1 - a2)) : (a2 + ((n0 : Nat) : Int)) < a1 := by omega
theorem oq_7955800a {a2 a3 : Int} {n0 n1 : Nat} (h0 : n0 < n1) (h1 : ((a2 - a3) : Int).toNat = n1) : ((n0 : Nat) : Int) < (a2 - a3) := by omega
theorem oq_8a50e89b {a0 a1 : Int} {n2 : Nat} (h0 : ((a0 - a1) : Int).toNat = n2) (h1 : (a0 - a1) ≤ 6) : n2 ≤ 6 := by omega
theorem oq_0271441b {n0 : Nat}  : (n0 = 0 ∨ (n0 = 1 ∨ (n0 = 2 ∨ (n0 = 3 ∨ 4 ≤ n0)))) := by omega
theorem oq_8ff33762 {n0 : Nat} (h0 : 4 ≤ n0) : n0 = ((n0 - 1) + 1) := by omega
theorem oq_943fcf09 {a2 a3 : Int} {n0 n1 : Nat} (h0 : n0 < (n1 + 1)) (h1 : ((a2 - a3) : Int).toNat = (n1 + 1)) : ((n0 : Nat) : Int) < (a2 - a3) := by omega
theorem oq_ac107921 {n0 : Nat} (h0 : (n0 + 1) ≤ 6) : n0 ≤ 5 := by omega
theorem oq_b3cf261e {n0 : Nat} (h0 : 4 ≤ (n0 + 1)) : 3 ≤ n0 := by omega
theorem oq_401988cf {a0 a1 a2 : Int} (h0 : ((a0 = 0 ∧ a1 = 1) ∨ (a0 ≠ 0 ∧ a1 = a0))) (h1 : a0 = a2) (h2 : 0 ≤ a2) : ((a2 = 0 ∧ a1 = 1) ∨ (a2 ≠ 0 ∧ a1 = a2)) := by omega
theorem oq_262a3980 {a0 a1 a2 a3 a4 a5 : Int} (h0 : a0 = a1) (h1 : ((a2 ≤ a3 ∧ a0 = (-1)) ∨ (a3 < a2 ∧ (a0 = a4 ∧ (0 ≤ a0 ∧ a0 ≤ 255))))) (h2 : a5 ≤ 200) (h3 : a5 = a2) (h4 : 0 ≤ a1) : (a3 + 1) ≤ 400 := by omega
theorem oq_5b88fec4 {a0 a1 a2 a3 a4 : Int} (h0 : a0 = a1) (h1 : ((a2 ≤ a3 ∧ a0 = (-1)) ∨ (a3 < a2 ∧ (a0 = a4 ∧ (0 ≤ a0 ∧ a0 ≤ 255))))) (h2 : 0 ≤ a1) : a3 < a2 := by omega
theorem oq_d97797e7 {a0 a1 a2 a3 a4 : Int} (h0 : a0 = a1) (h1 : ((a2 ≤ a3 ∧ a0 = (-1)) ∨ (a3 < a2 ∧ (a0 = a4 ∧ (0 ≤ a0 ∧ a0 ≤ 255))))) (h2 : 0 ≤ a1) : a4 = a1 := by omega
theorem oq_cbd16470 {a0 a1 a2 a3 : Int} (h0 : a0 < 97) (h1 : ((a1 ≤ a2 ∧ a0 = (-1)) ∨ (a2 < a1 ∧ (a0 = a3 ∧ (0 ≤ a0 ∧ a0 ≤ 255))))) : (a1 ≤ a2 ∨ (a3 < 97 ∨ 122 < a3)) := by omega
theorem oq_6e0e2d35 {a0 a1 a2 a3 : Int} (h0 : 122 < a0) (h1 : ((a1 ≤ a2 ∧ a0 = (-1)) ∨ (a2 < a1 ∧ (a0 = a3 ∧ (0 ≤ a0 ∧ a0 ≤ 255))))) : 122 < a3 := by omega
theorem oq_8db530a4 {a0 a1 a2 a3 a4 : Int} (h0 : 97 ≤ a0) (h1 : ((a1 ≤ a2 ∧ a0 = (-1)) ∨ (a2 < a1 ∧ (a0 = a3 ∧ (0 ≤ a0 ∧ a0 ≤ 255))))) (h2 : a4 = a1) (h3 : a4 ≤ 200) : (a2 + 1) ≤ 400 := by omega
theorem oq_80349c40 {a0 a1 a2 a3 : Int} (h0 : 97 ≤ a0) (h1 : ((a1 ≤ a2 ∧ a0 = (-1)) ∨ (a2 < a1 ∧ (a0 = a3 ∧ (0 ≤ a0 ∧ a0 ≤ 255))))) : a2 < a1 := by omega
theorem oq_085cd7f1 {a0 a1 a2 a3 : Int} (h0 : 97 ≤ a0) (h1 : ((a1 ≤ a2 ∧ a0 = (-1)) ∨ (a2 < a1 ∧ (a0 = a3 ∧ (0 ≤ a0 ∧ a0 ≤ 255))))) : 97 ≤ a3 := by omega
theorem oq_416e080d {a0 a1 a2 a3 a4 : Int} (h0 : a0 ≤ 122) (h1 : ((a1 ≤ a2 ∧ a0 = (-1)) ∨ (a2 < a1 ∧ (a0 = a3 ∧ (0 ≤ a0 ∧ a0 ≤ 255))))) (h2 : 97 ≤ a4) (h3 : ((a1 ≤ a2 ∧ a4 = (-1)) ∨ (a2 < a1 ∧ (a4 = a3 ∧ (0 ≤ a4 ∧ a4 ≤ 255))))) : a3 ≤ 122 := by omega
theorem oq_f4f58af8 {a0 a1 a2 a3 a4 : Int} (h0 : a0 < 97) (h1 : ((a1 ≤ (a2 + a3) ∧ a0 = (-1)) ∨ ((a2 + a3) < a1 ∧ (a0 = a4 ∧ (0 ≤ a0 ∧ a0 ≤ 255))))) : (a1 ≤ (a2 + a3) ∨ (a4 < 97 ∨ 122 < a4)) := by omega
theorem oq_2fc2e26e {a0 a1 a2 a3 a4 : Int} (h0 : 122 < a0) (h1 : ((a1 ≤ (a2 + a3) ∧ a0 = (-1)) ∨ ((a2 + a3) < a1 ∧ (a0 = a4 ∧ (0 ≤ a0 ∧ a0 ≤ 255))))) : 122 < a4 := by omega
theorem oq_5990e04c {a0 a1 a2 a3 a4 : Int} (h0 : 97 ≤ a0) (h1 : ((a1 ≤ (a2 + a3) ∧ a0 = (-1)) ∨ ((a2 + a3) < a1 ∧ (a0 = a4 ∧ (0 ≤ a0 ∧ a0 ≤ 255))))) : (a2 + a3) < a1 := by omega
theorem oq_4eeb8a82 {a0 a1 a2 a3 a4 : Int} (h0 : 97 ≤ a0) (h1 : ((a1 ≤ (a2 + a3) ∧ a0 = (-1)) ∨ ((a2 + a3) < a1 ∧ (a0 = a4 ∧ (0 ≤ a0 ∧ a0 ≤ 255))))) : 97 ≤ a4 := by omega
theorem oq_678a5568 {a0 a1 a2 a3 a4 a5 : Int} (h0 : a0 ≤ 122) (h1 : ((a1 ≤ (a2 + a3) ∧ a0 = (-1)) ∨ ((a2 + a3) < a1 ∧ (a0 = a4 ∧ (0 ≤ a0 ∧ a0 ≤ 255))))) (h2 : 97 ≤ a5) (h3 : ((a1 ≤ (a2 + a3) ∧ a5 = (-1)) ∨ ((a2 + a3) < a1 ∧ (a5 = a4 ∧ (0 ≤ a5 ∧ a5 ≤ 255))))) : a4 ≤ 122 := by omega
theorem oq_e3748d73 {a0 a1 a2 a3 a4 a5 a6 : Int} (h0 : ((a0 ≤ (a1 + a2) ∧ a3 = (-1)) ∨ ((a1 + a2) < a0 ∧ (a3 = a4 ∧ (0 ≤ a3 ∧ a3 ≤ 255))))) (h1 : 0 ≤ a1) (h2 : 97 ≤ a5) (h3 : ((a0 ≤ (a1 + a2) ∧ a5 = (-1)) ∨ ((a1 + a2) < a0 ∧ (a5 = a4 ∧ (0 ≤ a5 ∧ a5 ≤ 255))))) (h4 : a6 = a0) (h5 : a6 ≤ 200) : (a2 + 1) ≤ 200 := by omega
theorem oq_ffb65fd4 {a0 a1 a2 a3 a4 a5 a6 : Int} {n7 : Nat} (h0 : ((a0 ≤ (a1 + a2) ∧ a3 = (-1)) ∨ ((a1 + a2) < a0 ∧ (a3 = a4 ∧ (0 ≤ a3 ∧ a3 ≤ 255))))) (h1 : 0 ≤ a1) (h2 : 97 ≤ a5) (h3 : ((a0 ≤ (a1 + a2) ∧ a5 = (-1)) ∨ ((a1 + a2) < a0 ∧ (a5 = a4 ∧ (0 ≤ a5 ∧ a5 ≤ 255))))) (h4 : a6 = a0) (h5 : a6 ≤ 200) (h6 : ((200 - a2) : Int).toNat < (n7 + 1)) : ((200 - (a2 + 1)) : Int).toNat < n7 := by omega
theorem oq_1d5b7f80 {a0 a1 a2 a3 a4 a5 a6 : Int} (h0 : ((a0 ≤ (a1 + a2) ∧ a3 = (-1)) ∨ ((a1 + a2) < a0 ∧ (a3 = a4 ∧ (0 ≤ a3 ∧ a3 ≤ 255))))) (h1 : a5 ≤ 122) (h2 : ((a0 ≤ (a1 + a2) ∧ a5 = (-1)) ∨ ((a1 + a2) < a0 ∧ (a5 = a4 ∧ (0 ≤ a5 ∧ a5 ≤ 255))))) (h3 : 97 ≤ a6) (h4 : ((a0 ≤ (a1 + a2) ∧ a6 = (-1)) ∨ ((a1 + a2) < a0 ∧ (a6 = a4 ∧ (0 ≤ a6 ∧ a6 ≤ 255))))) : a4 ≤ 122 := by omega
theorem oq_0f41b1c0 {a0 a1 a2 a3 a4 a5 a6 a7 : Int} (h0 : ((a0 ≤ (a1 + a2) ∧ a3 = (-1)) ∨ ((a1 + a2) < a0 ∧ (a3 = a4 ∧ (0 ≤ a3 ∧ a3 ≤ 255))))) (h1 : ((a0 ≤ (a1 + a2) ∧ a5 = (-1)) ∨ ((a1 + a2) < a0 ∧ (a5 = a4 ∧ (0 ≤ a5 ∧ a5 ≤ 255))))) (h2 : 97 ≤ a6) (h3 : ((a0 ≤ (a1 + a2) ∧ a6 = (-1)) ∨ ((a1 + a2) < a0 ∧ (a6 = a4 ∧ (0 ≤ a6 ∧ a6 ≤ 255))))) : ((((27 * a7) + a3) - 97) + 1) = ((((27 * a7) + a4) - 97) + 1) := by omega
theorem oq_d0f38564 {a0 a1 a2 a3 a4 a5 a6 : Int} (h0 : ((a0 ≤ (a1 + a2) ∧ a3 = (-1)) ∨ ((a1 + a2) < a0 ∧ (a3 = a4 ∧ (0 ≤ a3 ∧ a3 ≤ 255))))) (h1 : a2 < 6) (h2 : a5 ≤ 122) (h3 : ((a0 ≤ (a1 + a2) ∧ a5 = (-1)) ∨ ((a1 + a2) < a0 ∧ (a5 = a4 ∧ (0 ≤ a5 ∧ a5 ≤ 255))))) (h4 : (a2 ≤ 5 → a6 < 14348907)) : ((((27 * a6) + a3) - 97) + 1) < 387420489 := by omega
theorem oq_f07152f7 {a0 : Int} {n1 : Nat} (h0 : a0 < 6) (h1 : ((200 - a0) : Int).toNat < (n1 + 1)) : ((200 - (a0 + 1)) : Int).toNat < n1 := by omega
theorem oq_68fa478d {a0 a1 a2 : Int} (h0 : ((a0 ≤ 6 ∧ a1 = a2) ∨ (6 < a0 ∧ a1 = (-1)))) : ((6 < a0 ∧ a1 = (-1)) ∨ (a0 ≤ 6 ∧ a1 = a2)) := by omega
theorem oq_896be9ba {a0 a1 : Int} (h0 : a0 = a1) (h1 : 0 ≤ a1) (h2 : a1 = 0) : a0 = 0 := by omega
theorem oq_36ffebf8 {a0 a1 a2 : Int} (h0 : a0 ≠ a1) (h1 : a1 = 454132) (h2 : a0 = a2) : a2 ≠ 454132 := by omega
theorem oq_b2e77b94 {a0 a1 a2 : Int} (h0 : a0 ≠ a1) (h1 : a1 = 1960084) (h2 : a0 = a2) : a2 ≠ 1960084 := by omega
theorem oq_139b4624 {a0 a1 a2 : Int} (h0 : a0 ≠ a1) (h1 : a1 = 311436) (h2 : a0 = a2) : a2 ≠ 311436 := by omega
theorem oq_d7d949b8 {a0 a1 a2 : Int} (h0 : a0 ≠ a1) (h1 : a1 = 1837433) (h2 : a0 = a2) : a2 ≠ 1837433 := by omega
theorem oq_322223e3 {a0 a1 a2 : Int} (h0 : a0 ≠ a1) (h1 : a1 = 1701829) (h2 : a0 = a2) : a2 ≠ 1701829 := by omega
theorem oq_8ab79d5b {a0 a1 a2 : Int} (h0 : a0 ≠ a1) (h1 : a1 = 9176) (h2 : a0 = a2) : a2 ≠ 9176 := by omega
theorem oq_7d2bfae4 {a0 a1 a2 : Int} (h0 : a0 ≠ a1) (h1 : a1 = 234466237) (h2 : a0 = a2) : a2 ≠ 234466237 := by omega
theorem oq_34989d14 {a0 a1 a2 : Int} (h0 : a0 = a1) (h1 : a1 = 234466237) (h2 : a0 = a2) : a2 = 234466237 := by omega
theorem oq_1c5f6fc5 {a0 a1 a2 : Int} (h0 : a0 = a1) (h1 : a1 = 9176) (h2 : a0 = a2) : a2 = 9176 := by omega
theorem oq_049e38f0 {a0 a1 a2 : Int} (h0 : a0 = a1) (h1 : a1 = 1701829) (h2 : a0 = a2) : a2 = 1701829 := by omega
theorem oq_a8b6477c {a0 a1 a2 : Int} (h0 : a0 = a1) (h1 : a1 = 1837433) (h2 : a0 = a2) : a2 = 1837433 := by omega
theorem oq_17e7632b {a0 a1 a2 : Int} (h0 : a0 = a1) (h1 : a1 = 311436) (h2 : a0 = a2) : a2 = 311436 := by omega
theorem oq_55114d9c {a0 a1 a2 : Int} (h0 : a0 = a1) (h1 : a1 = 1960084) (h2 : a0 = a2) : a2 = 1960084 := by omega
theorem oq_9206599d {a0 a1 a2 : Int} (h0 : a0 = a1) (h1 : a1 = 454132) (h2 : a0 = a2) : a2 = 454132 := by omega
theorem oq_93a04f11 {a0 a1 a2 a3 a4 : Int} (h0 : a0 = a1) (h1 : (a1 = a2 ∨ a1 ≤ (a3 + 1))) (h2 : a4 = a3) (h3 : a4 ≤ 200) (h4 : a2 ≤ 202) : a0 ≤ 202 := by omega
theorem oq_5ff460d6 {a0 : Int} {n1 : Nat} (h0 : (a0 + (((n1 + 1) : Nat) : Int)) = 7) : a0 ≤ 6 := by omega
theorem oq_089b1e2e {a0 a1 a2 a3 a4 : Int} (h0 : (a0 = a1 ∨ a0 ≤ (a2 + 1))) (h1 : (a1 = a3 ∨ a1 ≤ 202)) (h2 : a4 = a2) (h3 : a4 ≤ 200) (h4 : a3 ≤ 202) : a0 ≤ 203 := by omega
theorem oq_4ed86b7a {a0 a1 a2 a3 a4 a5 a6 : Int} (h0 : (a0 ≠ 0 → a1 = a0)) (h1 : a2 = a3) (h2 : 0 ≤ a0) (h3 : a3 = a4) (h4 : (a5 ≠ 0 → a0 ≠ 0)) (h5 : a4 = (a6 + 1)) (h6 : ((a6 = 6 ∧ a5 = 3) ∨ (a6 ≠ 6 ∧ a5 = 0))) : (a2 = 7 → a1 ≠ 0) := by omega
theorem oq_394b29e1 {a0 a1 : Int} (h0 : (a0 = a1 ∨ a0 ≤ 202)) (h1 : a1 ≤ 202) : a0 ≤ 202 := by omega
theorem oq_34715ffd {a0 a1 a2 a3 a4 : Int} (h0 : a0 = 0) (h1 : a1 = 0) (h2 : (a1 = 1 ∨ a0 = 1)) : (a2 = 0 → a3 ≤ a4) := by omega
theorem oq_5bc28900 {a0 a1 a2 a3 : Int} (h0 : a0 = 40) (h1 : ((a1 ≤ a2 ∧ a0 = (-1)) ∨ (a2 < a1 ∧ (a0 = a3 ∧ (0 ≤ a0 ∧ a0 ≤ 255))))) : a2 < a1 := by omega
theorem oq_215d9a8d {a0 a1 a2 a3 : Int} (h0 : a0 = 40) (h1 : ((a1 ≤ a2 ∧ a0 = (-1)) ∨ (a2 < a1 ∧ (a0 = a3 ∧ (0 ≤ a0 ∧ a0 ≤ 255))))) : a3 = 40 := by omega
theorem oq_1acbb97d {a0 a1 a2 a3 a4 : Int} (h0 : a0 = 40) (h1 : ((a1 ≤ a2 ∧ a0 = (-1)) ∨ (a2 < a1 ∧ (a0 = a3 ∧ (0 ≤ a0 ∧ a0 ≤ 255))))) (h2 : a4 = a1) (h3 : a4 ≤ 200) : a2 ≤ 380 := by omega
theorem oq_55179b65 {a0 a1 a2 : Int} {n3 : Nat} (h0 : a0 = a1) (h1 : a1 = a2) (h2 : (a2 + (((n3 + 1) : Nat) : Int)) = 7) : a0 ≤ 7 := by omega
theorem oq_c5023ad9 {a0 a1 a2 a3 a4 a5 : Int} (h0 : a0 = (a1 + 1)) (h1 : a2 = 40) (h2 : ((a3 ≤ a1 ∧ a2 = (-1)) ∨ (a1 < a3 ∧ (a2 = a4 ∧ (0 ≤ a2 ∧ a2 ≤ 255))))) (h3 : a5 = a3) (h4 : a5 ≤ 200) : a0 ≤ 202 := by omega
theorem oq_be8ad988 {a0 a1 a2 a3 a4 : Int} (h0 : a0 = a1) (h1 : a1 = a2) (h2 : a3 = a2) (h3 : (a3 = a4 ∨ a3 ≤ 202)) (h4 : a4 ≤ 203) : (a0 = a4 ∨ a0 ≤ 202) := by omega
theorem oq_55aac509 {a0 a1 a2 : Int} (h0 : ((a0 = 0 ∧ a1 = 1) ∨ (a0 ≠ 0 ∧ a1 = a0))) (h1 : a0 = a2) (h2 : 0 ≤ a2) (h3 : a2 = 0) : a1 = 1 := by omega
theorem oq_4bb86d13 {a0 a1 a2 a3 a4 a5 : Int} (h0 : a0 = a1) (h1 : (a1 = a2 ∨ a1 ≤ a3)) (h2 : a4 = a3) (h3 : a4 ≤ 200) (h4 : (a2 = a5 ∨ a2 ≤ 202)) (h5 : a5 ≤ 203) : (a0 = a5 ∨ a0 ≤ 202) := by omega
theorem oq_d4704861 {a0 a1 a2 a3 : Int} (h0 : (a0 = a1 ∨ a0 ≤ a2)) (h1 : a3 ≤ 200) (h2 : a3 = a2) (h3 : a1 ≤ 203) : a0 ≤ 390 := by omega
theorem oq_5e26f630 {a0 a1 a2 a3 a4 a5 : Int} (h0 : a0 = a1) (h1 : a2 = a1) (h2 : (a2 = a3 ∨ a2 ≤ a4)) (h3 : a5 ≤ 200) (h4 : a5 = a4) (h5 : a3 ≤ 203) : a0 ≤ 390 := by omega
theorem oq_9b165878 {a0 a1 a2 : Int} (h0 : ((a0 ≠ a1 ∧ a2 = 0) ∨ (a0 = a1 ∧ a2 = 1))) : 0 ≤ a2 := by omega
theorem oq_44589019 {a0 a1 a2 : Int} (h0 : ((a0 ≠ a1 ∧ a2 = 0) ∨ (a0 = a1 ∧ a2 = 1))) : a2 ≤ 1 := by omega
theorem oq_246079da {a0 : Int} (h0 : a0 ≠ 0) (h1 : a0 ≤ 1) (h2 : 0 ≤ a0) : a0 = 1 := by omega
theorem oq_2559bc3a {a0 a1 a2 a3 a4 a5 a6 : Int} (h0 : (a0 = a1 ∨ a0 ≤ a2)) (h1 : a1 = a3) (h2 : a4 = a3) (h3 : (a4 = a5 ∨ a4 ≤ a2)) (h4 : a6 ≤ 200) (h5 : a6 = a2) (h6 : a5 ≤ 203) : (a0 = a5 ∨ a0 ≤ 202) := by omega
theorem oq_9c7ad4b3 {a0 a1 a2 a3 a4 a5 : Int} (h0 : a0 = a1) (h1 : a2 = a1) (h2 : (a2 = a3 ∨ a2 ≤ a4)) (h3 : a5 ≤ 200) (h4 : a5 = a4) (h5 : a3 ≤ 203) : (a0 = a3 ∨ a0 ≤ 202) := by omega
theorem oq_dcfa6a4e {a0 a1 : Int} (h0 : a0 ≠ (-1)) (h1 : ((a0 = (-1) ∧ a1 = 0) ∨ (0 ≤ a0 ∧ (a0 ≤ 6 ∧ a1 = ((-1) - a0))))) : a1 ≠ 0 := by omega
theorem oq_0a79a2a4 {a0 a1 a2 a3 a4 : Int} (h0 : a0 < a1) (h1 : (a2 = a3 ∨ a2 ≤ a1)) (h2 : a3 = a0) (h3 : a4 ≤ 200) (h4 : a4 = a1) : a2 ≤ 202 := by omega
theorem oq_19458209 {a0 a1 a2 a3 a4 a5 : Int} (h0 : a0 < a1) (h1 : (a2 = a3 ∨ a2 ≤ a1)) (h2 : a3 = a0) (h3 : a4 = a1) : (a5 = 0 → a2 ≤ a4) := by omega
theorem oq_196ab154 {a0 a1 a2 a3 a4 a5 a6 : Int} (h0 : (a0 = a1 ∨ a0 ≤ a2)) (h1 : a3 ≠ 0) (h2 : ((a3 = 1 ∧ (48 ≤ a4 ∧ a4 ≤ 57)) ∨ (a3 = 0 ∧ (a4 < 48 ∨ 57 < a4)))) (h3 : ((a2 ≤ a1 ∧ a4 = (-1)) ∨ (a1 < a2 ∧ (a4 = a5 ∧ (0 ≤ a4 ∧ a4 ≤ 255))))) (h4 : a6 ≤ 200) (h5 : a6 = a2) : a0 ≤ 202 := by omega
theorem oq_4182761d {a0 a1 a2 a3 a4 a5 a6 a7 : Int} (h0 : (a0 = a1 ∨ a0 ≤ a2)) (h1 : a3 ≠ 0) (h2 : ((a3 = 1 ∧ (48 ≤ a4 ∧ a4 ≤ 57)) ∨ (a3 = 0 ∧ (a4 < 48 ∨ 57 < a4)))) (h3 : ((a2 ≤ a1 ∧ a4 = (-1)) ∨ (a1 < a2 ∧ (a4 = a5 ∧ (0 ≤ a4 ∧ a4 ≤ 255))))) (h4 : a6 = a2) : (a7 = 0 → a0 ≤ a6) := by omega
theorem oq_edb91460 {a0 a1 a2 a3 : Int} (h0 : a0 = 42) (h1 : ((a1 ≤ a2 ∧ a0 = (-1)) ∨ (a2 < a1 ∧ (a0 = a3 ∧ (0 ≤ a0 ∧ a0 ≤ 255))))) : a2 < a1 := by omega
theorem oq_8d3d81fb {a0 a1 a2 a3 : Int} (h0 : a0 = 42) (h1 : ((a1 ≤ a2 ∧ a0 = (-1)) ∨ (a2 < a1 ∧ (a0 = a3 ∧ (0 ≤ a0 ∧ a0 ≤ 255))))) : a3 = 42 := by omega
theorem oq_a84e098a {a0 a1 a2 a3 a4 a5 a6 a7 : Int} (h0 : (a0 = a1 ∨ a0 ≤ a2)) (h1 : a3 = 42) (h2 : (a1 = a4 ∨ a1 ≤ 202)) (h3 : a4 = (a5 + 1)) (h4 : ((a2 ≤ a5 ∧ a3 = (-1)) ∨ (a5 < a2 ∧ (a3 = a6 ∧ (0 ≤ a3 ∧ a3 ≤ 255))))) (h5 : a7 = a2) (h6 : a7 ≤ 200) : a0 ≤ 202 := by omega
theorem oq_2b9bddb8 {a0 a1 a2 a3 a4 a5 a6 a7 : Int} (h0 : a0 = a1) (h1 : (a2 = a3 ∨ a2 ≤ a4)) (h2 : 0 ≤ a1) (h3 : (a1 = 0 → a3 ≤ a5)) (h4 : a5 = a6) (h5 : a6 = a4) (h6 : a6 = a7) : (a0 = 0 → a2 ≤ a7) := by omega
theorem oq_501c653d {a0 a1 a2 a3 a4 a5 a6 a7 a8 a9 a10 : Int} {n11 : Nat} (h0 : a0 = a1) (h1 : a2 ≤ a3) (h2 : a4 = 42) (h3 : a1 = a5) (h4 : a6 ≤ a2) (h5 : a5 = a7) (h6 : a6 = (a8 + 1)) (h7 : ((a9 ≤ a8 ∧ a4 = (-1)) ∨ (a8 < a9 ∧ (a4 = a10 ∧ (0 ≤ a4 ∧ a4 ≤ 255))))) (h8 : a7 = a9) (h9 : ((a7 - a8) : Int).toNat < (n11 + 1)) : ((a0 - a3) : Int).toNat < n11 := by omega
theorem oq_2e2b9c0a {a0 a1 a2 a3 : Int} (h0 : a0 = 47) (h1 : ((a1 ≤ a2 ∧ a0 = (-1)) ∨ (a2 < a1 ∧ (a0 = a3 ∧ (0 ≤ a0 ∧ a0 ≤ 255))))) : a2 < a1 := by omega
theorem oq_41b4bb4a {a0 a1 a2 a3 : Int} (h0 : a0 = 47) (h1 : ((a1 ≤ a2 ∧ a0 = (-1)) ∨ (a2 < a1 ∧ (a0 = a3 ∧ (0 ≤ a0 ∧ a0 ≤ 255))))) : a3 = 47 := by omega
theorem oq_4df917b2 {a0 a1 a2 a3 a4 a5 a6 a7 a8 : Int} (h0 : (a0 = a1 ∨ a0 ≤ a2)) (h1 : (a1 = a3 ∨ a1 ≤ 202)) (h2 : a3 = (a4 + 1)) (h3 : ((a2 ≤ a4 ∧ a5 = (-1)) ∨ (a4 < a2 ∧ (a5 = a6 ∧ (0 ≤ a5 ∧ a5 ≤ 255))))) (h4 : a7 = 47) (h5 : ((a2 ≤ a4 ∧ a7 = (-1)) ∨ (a4 < a2 ∧ (a7 = a6 ∧ (0 ≤ a7 ∧ a7 ≤ 255))))) (h6 : a8 = a2) (h7 : a8 ≤ 200) : a0 ≤ 202 := by omega
theorem oq_eecb4c2c {a0 a1 a2 a3 a4 a5 a6 a7 a8 a9 a10 a11 : Int} {n12 : Nat} (h0 : a0 = a1) (h1 : a2 ≤ a3) (h2 : a1 = a4) (h3 : a5 ≤ a2) (h4 : a4 = a6) (h5 : a5 = (a7 + 1)) (h6 : ((a8 ≤ a7 ∧ a9 = (-1)) ∨ (a7 < a8 ∧ (a9 = a10 ∧ (0 ≤ a9 ∧ a9 ≤ 255))))) (h7 : a11 = 47) (h8 : ((a8 ≤ a7 ∧ a11 = (-1)) ∨ (a7 < a8 ∧ (a11 = a10 ∧ (0 ≤ a11 ∧ a11 ≤ 255))))) (h9 : a6 = a8) (h10 : ((a6 - a7) : Int).toNat < (n12 + 1)) : ((a0 - a3) : Int).toNat < n12 := by omega
theorem oq_c3ae77b9 {a0 a1 a2 a3 a4 : Int} (h0 : (a0 = a1 ∨ a0 ≤ a2)) (h1 : (a1 = a3 ∨ a1 ≤ 202)) (h2 : a4 ≤ 200) (h3 : a4 = a2) (h4 : a3 ≤ 203) : (a0 = a3 ∨ a0 ≤ 202) := by omega
theorem oq_288de3fc {a0 a1 a2 : Int} (h0 : a0 = a1) (h1 : (a2 ≠ 0 → a1 ≠ 0)) (h2 : 0 ≤ a2) : (a2 ≠ 0 → a0 ≠ 0) := by omega
theorem oq_66bfb5eb {a0 a1 a2 a3 a4 a5 : Int} (h0 : a0 = a1) (h1 : (a2 = a3 ∨ a2 ≤ a4)) (h2 : (a1 = 0 → a3 ≤ a5)) (h3 : a5 = a4) : (a0 = 0 → a2 ≤ a5) := by omega
theorem oq_3778b6f4 {a0 a1 a2 a3 : Int} (h0 : a0 = 43) (h1 : ((a1 ≤ a2 ∧ a0 = (-1)) ∨ (a2 < a1 ∧ (a0 = a3 ∧ (0 ≤ a0 ∧ a0 ≤ 255))))) : a2 < a1 := by omega
theorem oq_fa8eb491 {a0 a1 a2 a3 : Int} (h0 : a0 = 43) (h1 : ((a1 ≤ a2 ∧ a0 = (-1)) ∨ (a2 < a1 ∧ (a0 = a3 ∧ (0 ≤ a0 ∧ a0 ≤ 255))))) : a3 = 43 := by omega
theorem oq_8e0bf474 {a0 a1 a2 a3 a4 a5 a6 a7 : Int} (h0 : (a0 = a1 ∨ a0 ≤ a2)) (h1 : a3 = 43) (h2 : (a1 = a4 ∨ a1 ≤ 202)) (h3 : a4 = (a5 + 1)) (h4 : ((a2 ≤ a5 ∧ a3 = (-1)) ∨ (a5 < a2 ∧ (a3 = a6 ∧ (0 ≤ a3 ∧ a3 ≤ 255))))) (h5 : a7 = a2) (h6 : a7 ≤ 200) : a0 ≤ 202 := by omega
theorem oq_690a712c {a0 a1 a2 a3 a4 a5 a6 a7 a8 a9 a10 : Int} {n11 : Nat} (h0 : a0 = a1) (h1 : a2 ≤ a3) (h2 : a4 = 43) (h3 : a1 = a5) (h4 : a6 ≤ a2) (h5 : a5 = a7) (h6 : a6 = (a8 + 1)) (h7 : ((a9 ≤ a8 ∧ a4 = (-1)) ∨ (a8 < a9 ∧ (a4 = a10 ∧ (0 ≤ a4 ∧ a4 ≤ 255))))) (h8 : a7 = a9) (h9 : ((a7 - a8) : Int).toNat < (n11 + 1)) : ((a0 - a3) : Int).toNat < n11 := by omega
theorem oq_aa094844 {a0 a1 a2 a3 : Int} (h0 : a0 = 45) (h1 : ((a1 ≤ a2 ∧ a0 = (-1)) ∨ (a2 < a1 ∧ (a0 = a3 ∧ (0 ≤ a0 ∧ a0 ≤ 255))))) : a2 < a1 := by omega
theorem oq_f7d94962 {a0 a1 a2 a3 : Int} (h0 : a0 = 45) (h1 : ((a1 ≤ a2 ∧ a0 = (-1)) ∨ (a2 < a1 ∧ (a0 = a3 ∧ (0 ≤ a0 ∧ a0 ≤ 255))))) : a3 = 45 := by omega
theorem oq_9a2d6c70 {a0 a1 a2 a3 a4 a5 a6 a7 a8 : Int} (h0 : (a0 = a1 ∨ a0 ≤ a2)) (h1 : (a1 = a3 ∨ a1 ≤ 202)) (h2 : a3 = (a4 + 1)) (h3 : ((a2 ≤ a4 ∧ a5 = (-1)) ∨ (a4 < a2 ∧ (a5 = a6 ∧ (0 ≤ a5 ∧ a5 ≤ 255))))) (h4 : a7 = 45) (h5 : ((a2 ≤ a4 ∧ a7 = (-1)) ∨ (a4 < a2 ∧ (a7 = a6 ∧ (0 ≤ a7 ∧ a7 ≤ 255))))) (h6 : a8 = a2) (h7 : a8 ≤ 200) : a0 ≤ 202 := by omega
theorem oq_95135382 {a0 a1 a2 a3 a4 a5 a6 a7 a8 a9 a10 a11 : Int} {n12 : Nat} (h0 : a0 = a1) (h1 : a2 ≤ a3) (h2 : a1 = a4) (h3 : a5 ≤ a2) (h4 : a4 = a6) (h5 : a5 = (a7 + 1)) (h6 : ((a8 ≤ a7 ∧ a9 = (-1)) ∨ (a7 < a8 ∧ (a9 = a10 ∧ (0 ≤ a9 ∧ a9 ≤ 255))))) (h7 : a11 = 45) (h8 : ((a8 ≤ a7 ∧ a11 = (-1)) ∨ (a7 < a8 ∧ (a11 = a10 ∧ (0 ≤ a11 ∧ a11 ≤ 255))))) (h9 : a6 = a8) (h10 : ((a6 - a7) : Int).toNat < (n12 + 1)) : ((a0 - a3) : Int).toNat < n12 := by omega
theorem oq_71dea3bf {a0 a1 a2 a3 : Int} (h0 : ((a0 ≠ 60 ∧ (a0 ≠ 62 ∧ (a1 ≠ a2 ∧ a3 = 0))) ∨ ((a0 ≠ 60 ∧ (a0 ≠ 62 ∧ (a1 = a2 ∧ a3 = 1))) ∨ ((a0 ≠ 60 ∧ (a0 = 62 ∧ (a1 ≤ a2 ∧ a3 = 0))) ∨ ((a0 ≠ 60 ∧ (a0 = 62 ∧ (a2 < a1 ∧ a3 = 1))) ∨ ((a0 = 60 ∧ (a2 ≤ a1 ∧ a3 = 0)) ∨ (a0 = 60 ∧ (a1 < a2 ∧ a3 = 1)))))))) : 0 ≤ a3 := by omega
theorem oq_709cdbad {a0 a1 a2 a3 : Int} (h0 : ((a0 ≠ 60 ∧ (a0 ≠ 62 ∧ (a1 ≠ a2 ∧ a3 = 0))) ∨ ((a0 ≠ 60 ∧ (a0 ≠ 62 ∧ (a1 = a2 ∧ a3 = 1))) ∨ ((a0 ≠ 60 ∧ (a0 = 62 ∧ (a1 ≤ a2 ∧ a3 = 0))) ∨ ((a0 ≠ 60 ∧ (a0 = 62 ∧ (a2 < a1 ∧ a3 = 1))) ∨ ((a0 = 60 ∧ (a2 ≤ a1 ∧ a3 = 0)) ∨ (a0 = 60 ∧ (a1 < a2 ∧ a3 = 1)))))))) : a3 ≤ 1 := by omega
theorem oq_1884aeba {a0 a1 a2 a3 : Int} (h0 : (a0 = a1 ∨ a0 ≤ a2)) (h1 : a3 ≤ 200) (h2 : a3 = a2) (h3 : a1 ≤ 203) : a0 ≤ 203 := by omega
theorem oq_44cf98cc {a0 a1 a2 a3 a4 : Int} (h0 : (a0 = a1 ∨ a0 ≤ 202)) (h1 : (a1 = a2 ∨ a1 ≤ a3)) (h2 : a4 ≤ 200) (h3 : a4 = a3) (h4 : a2 ≤ 203) : a0 ≤ 390 := by omega
theorem oq_997e57a5 {a0 a1 a2 : Int} (h0 : a0 ≠ a1) (h1 : a1 = 10631) (h2 : a0 = a2) : a2 ≠ 10631 := by omega
theorem oq_d3d55e74 {a0 a1 a2 a3 a4 a5 a6 : Int} (h0 : (a0 = a1 ∨ a0 ≤ a2)) (h1 : (a1 = a3 ∨ a1 ≤ 202)) (h2 : (a3 = a4 ∨ a3 ≤ a2)) (h3 : a5 = 0) (h4 : a6 ≤ 200) (h5 : a6 = a2) (h6 : (a5 = 0 → a4 ≤ 202)) : a0 ≤ 202 := by omega
theorem oq_f087e6ac {a0 a1 a2 a3 a4 a5 a6 a7 : Int} (h0 : a0 = a1) (h1 : (a1 = a2 ∨ a1 ≤ a3)) (h2 : (a2 = a4 ∨ a2 ≤ 202)) (h3 : (a4 = a5 ∨ a4 ≤ a3)) (h4 : a6 = 0) (h5 : a7 ≤ 200) (h6 : a7 = a3) (h7 : (a6 = 0 → a5 ≤ 202)) : a0 ≤ 202 := by omega
theorem oq_26896f29 {a0 a1 a2 a3 : Int} (h0 : a0 = 91) (h1 : ((a1 ≤ a2 ∧ a0 = (-1)) ∨ (a2 < a1 ∧ (a0 = a3 ∧ (0 ≤ a0 ∧ a0 ≤ 255))))) : a2 < a1 := by omega
theorem oq_8d07bc46 {a0 a1 a2 a3 : Int} (h0 : a0 = 91) (h1 : ((a1 ≤ a2 ∧ a0 = (-1)) ∨ (a2 < a1 ∧ (a0 = a3 ∧ (0 ≤ a0 ∧ a0 ≤ 255))))) : a3 = 91 := by omega
theorem oq_d63e14ee {a0 a1 a2 a3 a4 : Int} (h0 : a0 = 91) (h1 : ((a1 ≤ a2 ∧ a0 = (-1)) ∨ (a2 < a1 ∧ (a0 = a3 ∧ (0 ≤ a0 ∧ a0 ≤ 255))))) (h2 : a4 ≤ 200) (h3 : a4 = a1) : a2 ≤ 380 := by omega
theorem oq_47dd1e41 {a0 a1 : Int} {n2 : Nat} (h0 : a0 = a1) (h1 : (a1 + (((n2 + 1) : Nat) : Int)) = 7) : a0 ≤ 7 := by omega
theorem oq_8975a2ee {a0 a1 a2 a3 a4 a5 : Int} (h0 : a0 = (a1 + 1)) (h1 : a2 = 91) (h2 : ((a3 ≤ a1 ∧ a2 = (-1)) ∨ (a1 < a3 ∧ (a2 = a4 ∧ (0 ≤ a2 ∧ a2 ≤ 255))))) (h3 : a5 ≤ 200) (h4 : a5 = a3) : a0 ≤ 203 := by omega
theorem oq_be7d2080 {a0 a1 a2 a3 a4 a5 a6 : Int} (h0 : a0 = (a1 + 1)) (h1 : a2 = 91) (h2 : ((a3 ≤ a1 ∧ a2 = (-1)) ∨ (a1 < a3 ∧ (a2 = a4 ∧ (0 ≤ a2 ∧ a2 ≤ 255))))) (h3 : a5 ≤ 200) (h4 : a5 = a3) : (a6 = 0 → a0 ≤ 202) := by omega
theorem oq_ddb06230 {a0 a1 a2 a3 a4 a5 a6 : Int} (h0 : (a0 = a1 ∨ a0 ≤ 203)) (h1 : a1 = (a2 + 1)) (h2 : a3 = 91) (h3 : ((a4 ≤ a2 ∧ a3 = (-1)) ∨ (a2 < a4 ∧ (a3 = a5 ∧ (0 ≤ a3 ∧ a3 ≤ 255))))) (h4 : a6 ≤ 200) (h5 : a6 = a4) : a0 ≤ 380 := by omega
theorem oq_f573a3fd {a0 a1 a2 a3 a4 a5 a6 a7 a8 a9 : Int} (h0 : a0 = a1) (h1 : (a1 = a2 ∨ a1 ≤ (a3 + 1))) (h2 : (a2 = a4 ∨ a2 ≤ 203)) (h3 : a4 = (a5 + 1)) (h4 : a6 = 91) (h5 : ((a3 ≤ a7 ∧ a6 = (-1)) ∨ (a7 < a3 ∧ (a6 = a8 ∧ (0 ≤ a6 ∧ a6 ≤ 255))))) (h6 : a5 = a7) (h7 : a9 ≤ 200) (h8 : a9 = a3) : a0 ≤ 203 := by omega
theorem oq_e53ffc29 {a0 a1 a2 a3 a4 a5 : Int} (h0 : a0 = a1) (h1 : a2 = a3) (h2 : (a1 = 0 → a3 ≤ a4)) (h3 : 0 ≤ a1) (h4 : a5 = a4) : (a0 = 0 → a2 ≤ a5) := by omega
theorem oq_0de7544f {a0 a1 a2 a3 a4 : Int} {n5 : Nat} (h0 : 0 ≤ a0) (h1 : ((a1 = 6 ∧ ((a2 = 0 ∧ a0 = 3) ∨ (a2 ≠ 0 ∧ a0 = a2))) ∨ (a1 ≠ 6 ∧ a0 = a2))) (h2 : a1 = a3) (h3 : a2 = a4) (h4 : a4 = 0) (h5 : (a3 + (((n5 + 1) : Nat) : Int)) = 7) : ((a3 = 6 ∧ a0 = 3) ∨ (a3 ≠ 6 ∧ a0 = 0)) := by omega
theorem oq_209c67c7 {a0 a1 a2 : Int} (h0 : a0 = a1) (h1 : a1 = 10631) (h2 : a0 = a2) : a2 = 10631 := by omega
theorem oq_c21dae55 {a0 a1 a2 a3 a4 : Int} (h0 : a0 ≤ a1) (h1 : a0 = (a2 + 3)) (h2 : a3 = a2) (h3 : a4 ≤ 200) (h4 : a4 = a1) : a3 ≤ 380 := by omega
theorem oq_a1591a1d {a0 a1 a2 a3 a4 a5 : Int} (h0 : a0 = (a1 + 3)) (h1 : a2 ≤ a3) (h2 : a2 = (a4 + 3)) (h3 : a1 = a4) (h4 : a5 ≤ 200) (h5 : a5 = a3) : a0 ≤ 203 := by omega
theorem oq_64603fa7 {a0 a1 a2 a3 a4 a5 a6 : Int} (h0 : a0 = (a1 + 3)) (h1 : a2 ≤ a3) (h2 : a2 = (a4 + 3)) (h3 : a1 = a4) (h4 : a5 ≤ 200) (h5 : a5 = a3) : (a6 = 0 → a0 ≤ 202) := by omega
theorem oq_c71d19b3 {a0 a1 a2 a3 a4 a5 a6 a7 : Int} (h0 : a0 = a1) (h1 : (a1 = a2 ∨ a1 ≤ 203)) (h2 : a2 = (a3 + 3)) (h3 : a4 ≤ a5) (h4 : a4 = (a6 + 3)) (h5 : a3 = a6) (h6 : a7 ≤ 200) (h7 : a7 = a5) : a0 ≤ 203 := by omega
theorem oq_0836bdf8 {a0 a1 a2 a3 : Int} (h0 : a0 = (a1 + 3)) (h1 : a2 = (a3 + 3)) (h2 : a1 = a3) : a0 = a2 := by omega
theorem oq_5ad92592 {a0 a1 a2 a3 a4 : Int} (h0 : (a0 = a1 ∨ a0 ≤ a2)) (h1 : a3 = a2) (h2 : a3 ≤ 200) (h3 : (a1 = a4 ∨ a1 ≤ 203)) (h4 : a4 ≤ 203) : a0 ≤ 203 := by omega
theorem oq_183a93b1 {a0 a1 a2 a3 a4 a5 a6 : Int} (h0 : (a0 = a1 ∨ a0 ≤ a2)) (h1 : a3 = 0) (h2 : a4 = a2) (h3 : a4 = a5) (h4 : (a3 = 0 → a1 ≤ a5)) : (a6 = 0 → a0 ≤ a5) := by omega
theorem oq_b5fc2391 {a0 a1 a2 a3 a4 : Int} (h0 : (a0 = a1 ∨ a0 ≤ a2)) (h1 : a3 = a2) (h2 : a3 ≤ 200) (h3 : (a1 = a4 ∨ a1 ≤ 203)) (h4 : a4 ≤ 203) : a0 ≤ 390 := by omega
theorem oq_deb1667f {a0 a1 a2 a3 a4 a5 : Int} (h0 : (a0 = a1 ∨ a0 ≤ a2)) (h1 : (a1 = a3 ∨ a1 ≤ a2)) (h2 : a4 = a2) (h3 : a4 ≤ 200) (h4 : (a3 = a5 ∨ a3 ≤ 203)) (h5 : a5 ≤ 203) : a0 ≤ 203 := by omega
theorem oq_cb25a427 {a0 a1 a2 a3 a4 a5 a6 a7 : Int} (h0 : (a0 = a1 ∨ a0 ≤ a2)) (h1 : (a1 = a3 ∨ a1 ≤ a2)) (h2 : a4 = 0) (h3 : a5 = a2) (h4 : a5 ≤ 200) (h5 : a5 = a6) (h6 : (a4 = 0 → a3 ≤ a6)) : (a7 = 0 → a0 ≤ 202) := by omega
theorem oq_5ec18757 {a0 a1 a2 : Int} (h0 : ((a0 = 0 ∧ a1 = 0) ∨ ((a0 ≠ 0 ∧ (a2 = 0 ∧ a1 = 0)) ∨ (a0 ≠ 0 ∧ (a2 ≠ 0 ∧ a1 = 1))))) : 0 ≤ a1 := by omega
theorem oq_1480badc {a0 a1 a2 : Int} (h0 : ((a0 = 0 ∧ a1 = 0) ∨ ((a0 ≠ 0 ∧ (a2 = 0 ∧ a1 = 0)) ∨ (a0 ≠ 0 ∧ (a2 ≠ 0 ∧ a1 = 1))))) : a1 ≤ 1 := by omega
theorem oq_c3ce2265 {a0 a1 a2 : Int} (h0 : a0 = a1) (h1 : a1 = 1111) (h2 : a0 = a2) : a2 = 1111 := by omega
theorem oq_128baec7 {a0 a1 a2 : Int} (h0 : ((a0 ≠ 0 ∧ a1 = 1) ∨ ((a0 = 0 ∧ (a2 = 0 ∧ a1 = 0)) ∨ (a0 = 0 ∧ (a2 ≠ 0 ∧ a1 = 1))))) : 0 ≤ a1 := by omega
theorem oq_3e604e9c {a0 a1 a2 : Int} (h0 : ((a0 ≠ 0 ∧ a1 = 1) ∨ ((a0 = 0 ∧ (a2 = 0 ∧ a1 = 0)) ∨ (a0 = 0 ∧ (a2 ≠ 0 ∧ a1 = 1))))) : a1 ≤ 1 := by omega
theorem oq_3068fdfc {a0 a1 a2 : Int} (h0 : a0 = a1) (h1 : a1 = 423) (h2 : a0 = a2) : a2 = 423 := by omega

theorem oq_31c66126 {a0 a1 a2 a3 : Int} (h0 : a0 = a1) (h1 : (a1 = a2 ∨ a1 ≤ a3)) (h2 : a2 ≤ a1) : (a0 = a2 ∨ a0 ≤ (a3 + 1)) := by omega
theorem oq_6f4768c0 {a0 a1 a2 a3 a4 a5 a6 : Int} (h0 : a0 = (a1 + 1)) (h1 : a2 = a3) (h2 : ((a4 ≤ a1 ∧ a2 = (-1)) ∨ (a1 < a4 ∧ (a2 = a5 ∧ (0 ≤ a2 ∧ a2 ≤ 255))))) (h3 : 0 ≤ a3) : (a0 = a6 ∨ a0 ≤ (a4 + 1)) := by omega
theorem oq_f2231ef5 {a0 a1 a2 a3 a4 : Int} (h0 : a0 = a1) (h1 : a1 = a2) (h2 : ((a3 = 0 ∧ a2 = 3) ∨ (a3 ≠ 0 ∧ a2 = a3))) (h3 : a4 = 6) (h4 : 0 ≤ a3) : ((a4 = 6 ∧ ((a3 = 0 ∧ a0 = 3) ∨ (a3 ≠ 0 ∧ a0 = a3))) ∨ (a4 ≠ 6 ∧ a0 = a3)) := by omega
theorem oq_8ed2a1e1 {a0 a1 a2 a3 a4 a5 a6 : Int} (h0 : a0 = (a1 + 1)) (h1 : ((a2 ≤ a1 ∧ a3 = (-1)) ∨ (a1 < a2 ∧ (a3 = a4 ∧ (0 ≤ a3 ∧ a3 ≤ 255))))) (h2 : 97 ≤ a5) (h3 : ((a2 ≤ a1 ∧ a5 = (-1)) ∨ (a1 < a2 ∧ (a5 = a4 ∧ (0 ≤ a5 ∧ a5 ≤ 255))))) : (a0 = a6 ∨ a0 ≤ a2) := by omega
theorem oq_d17636fc {a0 a1 a2 a3 a4 : Int} (h0 : ((a0 ≤ a1 ∧ a2 = (-1)) ∨ (a1 < a0 ∧ (a2 = a3 ∧ (0 ≤ a2 ∧ a2 ≤ 255))))) (h1 : 97 ≤ a4) (h2 : ((a0 ≤ a1 ∧ a4 = (-1)) ∨ (a1 < a0 ∧ (a4 = a3 ∧ (0 ≤ a4 ∧ a4 ≤ 255))))) : 0 < (a0 - a1) := by omega
theorem oq_ccada5ac {a0 a1 a2 a3 a4 a5 a6 a7 a8 a9 : Int} (h0 : ((a0 ≠ 0 ∧ a1 = ((27 * a2) + a0)) ∨ (a0 = 0 ∧ a1 = a2))) (h1 : ((a3 ≠ 0 ∧ a2 = ((27 * a4) + a3)) ∨ (a3 = 0 ∧ a2 = a4))) (h2 : ((a5 ≠ 0 ∧ a4 = ((27 * a6) + a5)) ∨ (a5 = 0 ∧ a4 = a6))) (h3 : ((a7 ≠ 0 ∧ a6 = ((27 * ((27 * a8) + a9)) + a7)) ∨ (a7 = 0 ∧ a6 = ((27 * a8) + a9)))) (h4 : a0 ≤ 26) (h5 : a3 ≤ 26) (h6 : a5 ≤ 26) (h7 : a7 ≤ 26) (h8 : a9 ≤ 26) (h9 : a8 ≤ 26) : a1 ≤ 2147483647 := by omega
theorem oq_87b68bb9 {a0 a1 : Int} (h0 : a0 < 6) (h1 : a1 ≤ 400) : (a1 + a0) ≤ 2147483647 := by omega
theorem oq_a32421e0 {a0 a1 a2 a3 a4 a5 a6 a7 : Int} (h0 : ((a0 ≤ (a1 + a2) ∧ a3 = (-1)) ∨ ((a1 + a2) < a0 ∧ (a3 = a4 ∧ (0 ≤ a3 ∧ a3 ≤ 255))))) (h1 : ((a0 ≤ (a1 + a2) ∧ a5 = (-1)) ∨ ((a1 + a2) < a0 ∧ (a5 = a4 ∧ (0 ≤ a5 ∧ a5 ≤ 255))))) (h2 : 97 ≤ a6) (h3 : ((a0 ≤ (a1 + a2) ∧ a6 = (-1)) ∨ ((a1 + a2) < a0 ∧ (a6 = a4 ∧ (0 ≤ a6 ∧ a6 ≤ 255))))) (h4 : 0 ≤ a7) : 0 ≤ ((((27 * a7) + a3) - 97) + 1) := by omega
theorem oq_e7138d84 {a0 a1 a2 : Int} (h0 : ((a0 ≤ 6 ∧ a1 = a2) ∨ (6 < a0 ∧ a1 = (-1)))) (h1 : 0 ≤ a2) : (-2147483648) ≤ a1 := by omega
theorem oq_6ef3e61a {a0 a1 a2 : Int} (h0 : ((a0 ≤ 6 ∧ a1 = a2) ∨ (6 < a0 ∧ a1 = (-1)))) (h1 : a2 < 387420489) : a1 ≤ 2147483647 := by omega
theorem oq_ac662587 {a0 a1 a2 a3 a4 : Int} (h0 : a0 ≠ 0) (h1 : ((a0 = 1 ∧ (a1 ≤ a2 ∧ a2 ≤ a3)) ∨ (a0 = 0 ∧ (a2 < a1 ∨ a3 < a2)))) (h2 : 0 ≤ a4) (h3 : a4 = 0) : ((a1 ≤ a2 ∧ (a2 ≤ a3 ∧ a4 = 0)) ∨ ((a2 < a1 ∨ a3 < a2) ∧ a4 = 2)) := by omega
theorem oq_bd4be526 {a0 a1 a2 a3 a4 a5 : Int} (h0 : ((a0 = 0 ∧ a1 = 2) ∨ (a0 ≠ 0 ∧ a1 = a0))) (h1 : a2 = 0) (h2 : ((a2 = 1 ∧ (a3 ≤ a4 ∧ a4 ≤ a5)) ∨ (a2 = 0 ∧ (a4 < a3 ∨ a5 < a4)))) (h3 : 0 ≤ a0) (h4 : a0 = 0) : ((a3 ≤ a4 ∧ (a4 ≤ a5 ∧ a1 = 0)) ∨ ((a4 < a3 ∨ a5 < a4) ∧ a1 = 2)) := by omega
theorem oq_45e7c035 {a0 a1 a2 a3 a4 : Int} (h0 : a0 = a1) (h1 : (a1 = a2 ∨ a1 ≤ a3)) (h2 : a4 < a3) (h3 : a2 ≤ a4) : (a0 = a2 ∨ a0 ≤ a3) := by omega
theorem oq_5c910f19 {a0 a1 a2 : Int} (h0 : a0 < a1) (h1 : a2 = a0) : a2 ≤ a1 := by omega
theorem oq_43551d26 {a0 a1 a2 a3 a4 a5 : Int} (h0 : a0 = 0) (h1 : ((a0 = 1 ∧ (48 ≤ a1 ∧ a1 ≤ 57)) ∨ (a0 = 0 ∧ (a1 < 48 ∨ 57 < a1)))) (h2 : ((a2 ≤ a3 ∧ a1 = (-1)) ∨ (a3 < a2 ∧ (a1 = a4 ∧ (0 ≤ a1 ∧ a1 ≤ 255))))) (h3 : a4 ≤ 57) (h4 : 48 ≤ a4) (h5 : a3 < a2) : a5 = 0 := by omega
theorem oq_06eed5c1 {a0 a1 a2 a3 a4 a5 a6 : Int} (h0 : a0 = 0) (h1 : ((a0 = 1 ∧ (48 ≤ a1 ∧ a1 ≤ 57)) ∨ (a0 = 0 ∧ (a1 < 48 ∨ 57 < a1)))) (h2 : ((a2 ≤ a3 ∧ a1 = (-1)) ∨ (a3 < a2 ∧ (a1 = a4 ∧ (0 ≤ a1 ∧ a1 ≤ 255))))) (h3 : a4 ≤ 57) (h4 : 48 ≤ a4) (h5 : a3 < a2) : a5 = a6 := by omega
theorem oq_df0ffcf0 {a0 a1 a2 a3 a4 a5 a6 a7 a8 : Int} (h0 : a0 = 0) (h1 : ((a0 = 1 ∧ (48 ≤ a1 ∧ a1 ≤ 57)) ∨ (a0 = 0 ∧ (a1 < 48 ∨ 57 < a1)))) (h2 : ((a2 ≤ a3 ∧ a1 = (-1)) ∨ (a3 < a2 ∧ (a1 = a4 ∧ (0 ≤ a1 ∧ a1 ≤ 255))))) (h3 : a4 ≤ 57) (h4 : 48 ≤ a4) (h5 : a3 < a2) : ((a5 ≤ a6 ∧ (a6 ≤ a7 ∧ a8 = 0)) ∨ ((a6 < a5 ∨ a7 < a6) ∧ a8 = 2)) := by omega
theorem oq_c76e9237 {a0 : Int} (h0 : a0 ≤ 202) : a0 ≤ 203 := by omega
theorem oq_3e96a778 {a0 a2 : Int} {n1 : Nat} (h0 : (a0 + (((n1 + 1) : Nat) : Int)) = 7) (h1 : a2 = (a0 + 1)) : (a2 + ((n1 : Nat) : Int)) = 7 := by omega
theorem oq_38d7ef60 {a0 a1 a2 : Int} (h0 : a0 = (a1 + 1)) (h1 : ((a1 = 6 ∧ a2 = 3) ∨ (a1 ≠ 6 ∧ a2 = 0))) : (a0 = 7 → a2 ≠ 0) := by omega
theorem oq_93a1c4d4 {a0 a1 : Int} (h0 : (a0 = a1 ∨ a0 ≤ 202)) (h1 : a1 ≤ 202) : a0 ≤ 380 := by omega
theorem oq_6126d2ac {a0 a1 a2 a4 : Int} {n3 : Nat} (h0 : a0 = a1) (h1 : (a2 + (((n3 + 1) : Nat) : Int)) = 7) (h2 : a1 = a4) (h3 : a4 = (a2 + 1)) : (a0 + ((n3 : Nat) : Int)) = 7 := by omega
theorem oq_b9a55545 {a0 a1 a2 a3 a4 a5 : Int} (h0 : 0 ≤ a0) (h1 : ((a1 = 6 ∧ ((a2 = 0 ∧ a0 = 3) ∨ (a2 ≠ 0 ∧ a0 = a2))) ∨ (a1 ≠ 6 ∧ a0 = a2))) (h2 : a1 = a3) (h3 : a2 = a4) (h4 : 0 ≤ a4) (h5 : a3 = a5) (h6 : a4 = 0) : ((a5 = 6 ∧ a0 = 3) ∨ (a5 ≠ 6 ∧ a0 = 0)) := by omega
theorem oq_6867a2fe {a0 a1 a2 a3 : Int} (h0 : a0 = (a1 + 1)) (h1 : a2 ≤ a3) (h2 : a3 ≤ a1) : a2 ≤ a0 := by omega
theorem oq_67d4e76f {a0 a1 a2 a3 : Int} (h0 : 0 ≤ a0) (h1 : ((a1 = 0 ∧ a0 = 1) ∨ (a1 ≠ 0 ∧ a0 = a1))) : (a0 = 0 → a2 ≤ a3) := by omega
theorem oq_c70f5ad6 {a0 a1 a2 a3 a4 : Int} (h0 : a0 ≤ a1) (h1 : a2 ≤ a3) (h2 : a0 = a4) (h3 : a3 = a4) : a2 ≤ a1 := by omega
theorem oq_7572678d {a0 a1 a2 : Int} (h0 : a0 ≠ 0) (h1 : a0 ≤ 1) (h2 : 0 ≤ a0) (h3 : ((a1 ≠ a2 ∧ a0 = 0) ∨ (a1 = a2 ∧ a0 = 1))) : (a0 = 0 ∨ a0 = 1) := by omega
theorem oq_e09988bd {a0 a1 a2 a3 a4 : Int} (h0 : a0 ≠ 0) (h1 : 0 ≤ a1) (h2 : ((a2 ≠ a3 ∧ a1 = 0) ∨ (a2 = a3 ∧ a1 = 1))) (h3 : a3 = 267347) (h4 : 0 ≤ a0) (h5 : ((a2 ≠ a4 ∧ a0 = 0) ∨ (a2 = a4 ∧ a0 = 1))) (h6 : a4 = 6476969) : (a1 = 0 ∨ a1 = 1) := by omega
theorem oq_522344b2 {a0 a1 a2 a3 : Int} (h0 : a0 ≤ a1) (h1 : a2 = a3) (h2 : a1 = a3) : a0 ≤ a2 := by omega
theorem oq_80c2fca8 {a0 a1 : Int} (h0 : a0 ≠ (-1)) (h1 : ((a0 = (-1) ∧ a1 = 0) ∨ (0 ≤ a0 ∧ (a0 ≤ 6 ∧ a1 = ((-1) - a0))))) : 0 ≤ a0 := by omega
theorem oq_85c01340 {a0 a1 : Int} (h0 : ((a0 = (-1) ∧ a1 = 0) ∨ (0 ≤ a0 ∧ (a0 ≤ 6 ∧ a1 = ((-1) - a0))))) : a0 < 7 := by omega
theorem oq_ce47e515 {a0 a1 : Int} (h0 : ((a0 = (-1) ∧ a1 = 0) ∨ (0 ≤ a0 ∧ (a0 ≤ 6 ∧ a1 = ((-1) - a0))))) : (a0 : Int).toNat < 7 := by omega
theorem oq_68db3181 {a0 a1 a2 a3 a4 : Int} (h0 : a0 ≤ a1) (h1 : a2 ≤ a3) (h2 : a2 = a4) (h3 : a1 = a4) : a0 ≤ a3 := by omega
theorem oq_b74d6776 {a0 a1 a2 a3 : Int} (h0 : a0 = (a1 + 1)) (h1 : a2 = 0) (h2 : (a2 = 0 → a1 ≤ a3)) (h3 : a3 ≤ 200) : a0 ≤ 203 := by omega
theorem oq_2b041bab {a0 a1 a2 : Int} {n3 : Nat} (h0 : a0 = a1) (h1 : (a2 + ((n3 : Nat) : Int)) = 7) (h2 : a1 = a2) : (a0 + ((n3 : Nat) : Int)) = 7 := by omega
theorem oq_097bc645 {a0 a1 a2 a3 a4 a5 : Int} (h0 : a0 = a1) (h1 : a2 = 0) (h2 : (a3 ≠ 0 → a2 ≠ 0)) (h3 : a1 = a4) (h4 : 0 ≤ a3) (h5 : (a4 = 7 → a3 ≠ 0)) : (a0 = 7 → a5 ≠ 0) := by omega
theorem oq_a8509ff0 {a0 a1 a2 a3 a4 a5 : Int} (h0 : a0 ≠ 42) (h1 : ((a1 ≤ a2 ∧ a0 = (-1)) ∨ (a2 < a1 ∧ (a0 = a3 ∧ (0 ≤ a0 ∧ a0 ≤ 255))))) (h2 : a4 = 42) (h3 : ((a1 ≤ a2 ∧ a4 = (-1)) ∨ (a2 < a1 ∧ (a4 = a3 ∧ (0 ≤ a4 ∧ a4 ≤ 255))))) : a5 ≤ 390 := by omega
theorem oq_93076f9e {a0 a1 a2 a3 a4 : Int} (h0 : a0 ≤ a1) (h1 : a2 ≤ a0) (h2 : a2 = (a3 + 1)) (h3 : a4 ≤ a3) : a4 ≤ a1 := by omega
theorem oq_8aa9e37b {a0 a1 a2 a3 a4 a5 a6 : Int} (h0 : a0 ≠ 42) (h1 : ((a1 ≤ a2 ∧ a0 = (-1)) ∨ (a2 < a1 ∧ (a0 = a3 ∧ (0 ≤ a0 ∧ a0 ≤ 255))))) (h2 : a4 = 42) (h3 : ((a1 ≤ a2 ∧ a4 = (-1)) ∨ (a2 < a1 ∧ (a4 = a3 ∧ (0 ≤ a4 ∧ a4 ≤ 255))))) : (a5 = a6 ∨ a5 ≤ 202) := by omega
theorem oq_fa23e6f1 {a0 a1 a2 a3 a4 a5 a6 : Int} (h0 : a0 ≠ 42) (h1 : ((a1 ≤ a2 ∧ a0 = (-1)) ∨ (a2 < a1 ∧ (a0 = a3 ∧ (0 ≤ a0 ∧ a0 ≤ 255))))) (h2 : a4 = 42) (h3 : ((a1 ≤ a2 ∧ a4 = (-1)) ∨ (a2 < a1 ∧ (a4 = a3 ∧ (0 ≤ a4 ∧ a4 ≤ 255))))) : (a5 ≠ 0 → a6 ≠ 0) := by omega
theorem oq_681f6ab4 {a0 a1 a2 a3 a4 a5 a6 a7 : Int} (h0 : a0 ≠ 42) (h1 : ((a1 ≤ a2 ∧ a0 = (-1)) ∨ (a2 < a1 ∧ (a0 = a3 ∧ (0 ≤ a0 ∧ a0 ≤ 255))))) (h2 : a4 = 42) (h3 : ((a1 ≤ a2 ∧ a4 = (-1)) ∨ (a2 < a1 ∧ (a4 = a3 ∧ (0 ≤ a4 ∧ a4 ≤ 255))))) : (a5 = 0 → a6 ≤ a7) := by omega
theorem oq_c0de89c2 {a0 a1 a2 a3 a4 a5 : Int} (h0 : a0 ≠ 42) (h1 : ((a1 ≤ a2 ∧ a0 = (-1)) ∨ (a2 < a1 ∧ (a0 = a3 ∧ (0 ≤ a0 ∧ a0 ≤ 255))))) (h2 : a4 = 42) (h3 : ((a1 ≤ a2 ∧ a4 = (-1)) ∨ (a2 < a1 ∧ (a4 = a3 ∧ (0 ≤ a4 ∧ a4 ≤ 255))))) : (-2147483648) ≤ a5 := by omega
theorem oq_33e9068f {a0 a1 a2 a3 a4 a5 : Int} (h0 : a0 ≠ 42) (h1 : ((a1 ≤ a2 ∧ a0 = (-1)) ∨ (a2 < a1 ∧ (a0 = a3 ∧ (0 ≤ a0 ∧ a0 ≤ 255))))) (h2 : a4 = 42) (h3 : ((a1 ≤ a2 ∧ a4 = (-1)) ∨ (a2 < a1 ∧ (a4 = a3 ∧ (0 ≤ a4 ∧ a4 ≤ 255))))) : a5 ≤ 2147483647 := by omega
theorem oq_aae77179 {a0 a1 a2 a3 a4 a5 a6 a7 : Int} (h0 : a0 = a1) (h1 : a2 ≤ a3) (h2 : a1 = a4) (h3 : a5 ≤ a2) (h4 : a4 = a6) (h5 : a5 = (a7 + 1)) : (a0 - a3) < (a6 - a7) := by omega
theorem oq_eacc1e78 {a0 a1 a2 a3 a4 a5 : Int} (h0 : a0 ≠ 42) (h1 : ((a1 ≤ a2 ∧ a0 = (-1)) ∨ (a2 < a1 ∧ (a0 = a3 ∧ (0 ≤ a0 ∧ a0 ≤ 255))))) (h2 : a4 = 42) (h3 : ((a1 ≤ a2 ∧ a4 = (-1)) ∨ (a2 < a1 ∧ (a4 = a3 ∧ (0 ≤ a4 ∧ a4 ≤ 255))))) : 0 < (a5 - a2) := by omega
theorem oq_d255e8ca {a0 a1 a2 a3 : Int} (h0 : (a0 = a1 ∨ a0 ≤ 202)) (h1 : a1 = (a2 + 1)) (h2 : (a2 = a3 ∨ a2 ≤ 202)) (h3 : a3 ≤ 203) : a0 ≤ 390 := by omega
theorem oq_64020fb0 {a0 a1 a2 a3 a4 a5 : Int} (h0 : a0 = 42) (h1 : ((a1 ≤ a2 ∧ a0 = (-1)) ∨ (a2 < a1 ∧ (a0 = a3 ∧ (0 ≤ a0 ∧ a0 ≤ 255))))) (h2 : a4 = 47) (h3 : ((a1 ≤ a2 ∧ a4 = (-1)) ∨ (a2 < a1 ∧ (a4 = a3 ∧ (0 ≤ a4 ∧ a4 ≤ 255))))) : a5 ≤ 390 := by omega
theorem oq_8dbd7f30 {a0 a1 a2 a3 a4 a5 a6 : Int} (h0 : a0 = 42) (h1 : ((a1 ≤ a2 ∧ a0 = (-1)) ∨ (a2 < a1 ∧ (a0 = a3 ∧ (0 ≤ a0 ∧ a0 ≤ 255))))) (h2 : a4 = 47) (h3 : ((a1 ≤ a2 ∧ a4 = (-1)) ∨ (a2 < a1 ∧ (a4 = a3 ∧ (0 ≤ a4 ∧ a4 ≤ 255))))) : (a5 = a6 ∨ a5 ≤ 202) := by omega
theorem oq_cd9278e8 {a0 a1 a2 a3 a4 a5 a6 : Int} (h0 : a0 = 42) (h1 : ((a1 ≤ a2 ∧ a0 = (-1)) ∨ (a2 < a1 ∧ (a0 = a3 ∧ (0 ≤ a0 ∧ a0 ≤ 255))))) (h2 : a4 = 47) (h3 : ((a1 ≤ a2 ∧ a4 = (-1)) ∨ (a2 < a1 ∧ (a4 = a3 ∧ (0 ≤ a4 ∧ a4 ≤ 255))))) : (a5 ≠ 0 → a6 ≠ 0) := by omega
theorem oq_1a68ba24 {a0 a1 a2 a3 a4 a5 a6 a7 : Int} (h0 : a0 = 42) (h1 : ((a1 ≤ a2 ∧ a0 = (-1)) ∨ (a2 < a1 ∧ (a0 = a3 ∧ (0 ≤ a0 ∧ a0 ≤ 255))))) (h2 : a4 = 47) (h3 : ((a1 ≤ a2 ∧ a4 = (-1)) ∨ (a2 < a1 ∧ (a4 = a3 ∧ (0 ≤ a4 ∧ a4 ≤ 255))))) : (a5 = 0 → a6 ≤ a7) := by omega
theorem oq_8500a080 {a0 a1 a2 a3 a4 a5 : Int} (h0 : a0 = 42) (h1 : ((a1 ≤ a2 ∧ a0 = (-1)) ∨ (a2 < a1 ∧ (a0 = a3 ∧ (0 ≤ a0 ∧ a0 ≤ 255))))) (h2 : a4 = 47) (h3 : ((a1 ≤ a2 ∧ a4 = (-1)) ∨ (a2 < a1 ∧ (a4 = a3 ∧ (0 ≤ a4 ∧ a4 ≤ 255))))) : 0 < (a5 - a2) := by omega
theorem oq_6d5be915 {a0 a1 a2 a3 a4 a5 : Int} (h0 : a0 ≠ 43) (h1 : ((a1 ≤ a2 ∧ a0 = (-1)) ∨ (a2 < a1 ∧ (a0 = a3 ∧ (0 ≤ a0 ∧ a0 ≤ 255))))) (h2 : a4 = 43) (h3 : ((a1 ≤ a2 ∧ a4 = (-1)) ∨ (a2 < a1 ∧ (a4 = a3 ∧ (0 ≤ a4 ∧ a4 ≤ 255))))) : a5 ≤ 390 := by omega
theorem oq_5b7d1403 {a0 a1 a2 a3 a4 a5 a6 : Int} (h0 : a0 ≠ 43) (h1 : ((a1 ≤ a2 ∧ a0 = (-1)) ∨ (a2 < a1 ∧ (a0 = a3 ∧ (0 ≤ a0 ∧ a0 ≤ 255))))) (h2 : a4 = 43) (h3 : ((a1 ≤ a2 ∧ a4 = (-1)) ∨ (a2 < a1 ∧ (a4 = a3 ∧ (0 ≤ a4 ∧ a4 ≤ 255))))) : (a5 = a6 ∨ a5 ≤ 202) := by omega
theorem oq_160137c6 {a0 a1 a2 a3 a4 a5 a6 : Int} (h0 : a0 ≠ 43) (h1 : ((a1 ≤ a2 ∧ a0 = (-1)) ∨ (a2 < a1 ∧ (a0 = a3 ∧ (0 ≤ a0 ∧ a0 ≤ 255))))) (h2 : a4 = 43) (h3 : ((a1 ≤ a2 ∧ a4 = (-1)) ∨ (a2 < a1 ∧ (a4 = a3 ∧ (0 ≤ a4 ∧ a4 ≤ 255))))) : (a5 ≠ 0 → a6 ≠ 0) := by omega
theorem oq_4a4c0d46 {a0 a1 a2 a3 a4 a5 a6 a7 : Int} (h0 : a0 ≠ 43) (h1 : ((a1 ≤ a2 ∧ a0 = (-1)) ∨ (a2 < a1 ∧ (a0 = a3 ∧ (0 ≤ a0 ∧ a0 ≤ 255))))) (h2 : a4 = 43) (h3 : ((a1 ≤ a2 ∧ a4 = (-1)) ∨ (a2 < a1 ∧ (a4 = a3 ∧ (0 ≤ a4 ∧ a4 ≤ 255))))) : (a5 = 0 → a6 ≤ a7) := by omega
theorem oq_ddf92a5b {a0 a1 a2 a3 a4 a5 : Int} (h0 : a0 ≠ 43) (h1 : ((a1 ≤ a2 ∧ a0 = (-1)) ∨ (a2 < a1 ∧ (a0 = a3 ∧ (0 ≤ a0 ∧ a0 ≤ 255))))) (h2 : a4 = 43) (h3 : ((a1 ≤ a2 ∧ a4 = (-1)) ∨ (a2 < a1 ∧ (a4 = a3 ∧ (0 ≤ a4 ∧ a4 ≤ 255))))) : 0 < (a5 - a2) := by omega
theorem oq_5505896c {a0 a1 a2 a3 a4 a5 : Int} (h0 : a0 = 43) (h1 : ((a1 ≤ a2 ∧ a0 = (-1)) ∨ (a2 < a1 ∧ (a0 = a3 ∧ (0 ≤ a0 ∧ a0 ≤ 255))))) (h2 : a4 = 45) (h3 : ((a1 ≤ a2 ∧ a4 = (-1)) ∨ (a2 < a1 ∧ (a4 = a3 ∧ (0 ≤ a4 ∧ a4 ≤ 255))))) : a5 ≤ 390 := by omega
theorem oq_2b5aa823 {a0 a1 a2 a3 a4 a5 a6 : Int} (h0 : a0 = 43) (h1 : ((a1 ≤ a2 ∧ a0 = (-1)) ∨ (a2 < a1 ∧ (a0 = a3 ∧ (0 ≤ a0 ∧ a0 ≤ 255))))) (h2 : a4 = 45) (h3 : ((a1 ≤ a2 ∧ a4 = (-1)) ∨ (a2 < a1 ∧ (a4 = a3 ∧ (0 ≤ a4 ∧ a4 ≤ 255))))) : (a5 = a6 ∨ a5 ≤ 202) := by omega
theorem oq_817ab47d {a0 a1 a2 a3 a4 a5 a6 : Int} (h0 : a0 = 43) (h1 : ((a1 ≤ a2 ∧ a0 = (-1)) ∨ (a2 < a1 ∧ (a0 = a3 ∧ (0 ≤ a0 ∧ a0 ≤ 255))))) (h2 : a4 = 45) (h3 : ((a1 ≤ a2 ∧ a4 = (-1)) ∨ (a2 < a1 ∧ (a4 = a3 ∧ (0 ≤ a4 ∧ a4 ≤ 255))))) : (a5 ≠ 0 → a6 ≠ 0) := by omega
theorem oq_f9ebf227 {a0 a1 a2 a3 a4 a5 a6 a7 : Int} (h0 : a0 = 43) (h1 : ((a1 ≤ a2 ∧ a0 = (-1)) ∨ (a2 < a1 ∧ (a0 = a3 ∧ (0 ≤ a0 ∧ a0 ≤ 255))))) (h2 : a4 = 45) (h3 : ((a1 ≤ a2 ∧ a4 = (-1)) ∨ (a2 < a1 ∧ (a4 = a3 ∧ (0 ≤ a4 ∧ a4 ≤ 255))))) : (a5 = 0 → a6 ≤ a7) := by omega
theorem oq_a5ea012a {a0 a1 a2 a3 a4 a5 : Int} (h0 : a0 = 43) (h1 : ((a1 ≤ a2 ∧ a0 = (-1)) ∨ (a2 < a1 ∧ (a0 = a3 ∧ (0 ≤ a0 ∧ a0 ≤ 255))))) (h2 : a4 = 45) (h3 : ((a1 ≤ a2 ∧ a4 = (-1)) ∨ (a2 < a1 ∧ (a4 = a3 ∧ (0 ≤ a4 ∧ a4 ≤ 255))))) : 0 < (a5 - a2) := by omega
theorem oq_030aea91 {a0 : Int} (h0 : a0 ≤ 202) : (a0 + 1) ≤ 400 := by omega
theorem oq_eb11e9a5 {a0 a1 : Int} (h0 : a0 = (a1 + 1)) (h1 : a1 ≤ 202) : a0 ≤ 203 := by omega
theorem oq_59527f56 {a0 a1 a2 a3 a4 : Int} (h0 : a0 = a1) (h1 : a1 = a2) (h2 : a3 = 0) (h3 : (a2 = 7 → a3 ≠ 0)) : (a0 = 7 → a4 ≠ 0) := by omega
theorem oq_eaa54609 {a0 a1 : Int} {n2 : Nat} (h0 : a0 = a1) (h1 : (a1 + (((n2 + 1) : Nat) : Int)) = 7) : (a0 + (((n2 + 1) : Nat) : Int)) = 7 := by omega
theorem oq_c953247b {a0 a1 a2 a3 : Int} (h0 : a0 = a1) (h1 : a2 = 0) (h2 : (a1 = 7 → a2 ≠ 0)) : (a0 = 7 → a3 ≠ 0) := by omega
theorem oq_cde5fb8b {a0 a1 a2 a3 : Int} (h0 : a0 ≤ a1) (h1 : a2 ≤ a3) (h2 : a1 ≤ a2) : a0 ≤ a3 := by omega
theorem oq_05338a64 {a0 : Int} (h0 : a0 = 60) : (-2147483648) ≤ a0 := by omega
theorem oq_84af290c {a0 : Int} (h0 : a0 = 60) : a0 ≤ 2147483647 := by omega
theorem oq_62e77286 {a0 : Int} (h0 : a0 = 62) : (-2147483648) ≤ a0 := by omega
theorem oq_45200378 {a0 : Int} (h0 : a0 = 62) : a0 ≤ 2147483647 := by omega
theorem oq_1786f639 {a0 : Int} (h0 : a0 = 61) : (-2147483648) ≤ a0 := by omega
theorem oq_9de8a7d6 {a0 : Int} (h0 : a0 = 61) : a0 ≤ 2147483647 := by omega
theorem oq_2658fcab {a0 a1 a2 a3 a4 : Int} (h0 : a0 = a1) (h1 : a1 = a2) (h2 : a3 = a4) (h3 : a2 = a3) : a0 = a4 := by omega
theorem oq_841e4d52 {a0 a1 a2 a3 a4 : Int} (h0 : a0 = a1) (h1 : a2 ≤ a3) (h2 : a3 ≤ a4) (h3 : a4 ≤ a1) : a2 ≤ a0 := by omega
theorem oq_4fdfb4aa {a0 a2 a3 : Int} {n1 : Nat} (h0 : (a0 + (((n1 + 1) : Nat) : Int)) = 7) (h1 : a2 = (a3 + 1)) (h2 : a3 = a0) : (a2 + ((n1 : Nat) : Int)) = 7 := by omega
theorem oq_3a71b695 {a0 a1 a2 a3 a4 : Int} (h0 : ((a0 = 6 ∧ ((a1 = 0 ∧ a2 = 3) ∨ (a1 ≠ 0 ∧ a2 = a1))) ∨ (a0 ≠ 6 ∧ a2 = a1))) (h1 : a3 = (a0 + 1)) (h2 : a1 = a4) (h3 : a4 = 0) : (a3 = 7 → a2 ≠ 0) := by omega
theorem oq_72416b87 {a0 a1 a2 a3 a4 : Int} (h0 : a0 = a1) (h1 : a1 = a2) (h2 : a2 = (a3 + 1)) (h3 : a3 = a4) (h4 : 0 ≤ a4) : 0 ≤ (a0 - 1) := by omega
theorem oq_a5539f03 {a0 a1 a2 a3 a4 a5 : Int} (h0 : a0 = (a1 - 1)) (h1 : a2 = a3) (h2 : a4 = (a2 + 1)) (h3 : a1 = a5) (h4 : a5 = a4) : a0 = a3 := by omega
theorem oq_a0f29d8a {a0 a1 a2 a3 a4 a5 : Int} (h0 : a0 = a1) (h1 : a2 ≤ a3) (h2 : a4 ≤ a1) (h3 : a5 ≤ a4) (h4 : a5 = (a3 + 1)) : a2 ≤ a0 := by omega
theorem oq_e14a4589 {a0 a1 a2 a3 a4 a5 a6 : Int} (h0 : a0 = a1) (h1 : a2 ≤ a1) (h2 : a3 ≤ a2) (h3 : a3 = (a4 + 1)) (h4 : a5 ≤ a4) : (a6 = 0 → a5 < a0) := by omega
theorem oq_f92f5a7c {a0 a1 a2 a3 : Int} (h0 : a0 = a1) (h1 : a1 = (a2 + 1)) (h2 : a2 = a3) (h3 : 0 ≤ a3) : 0 ≤ (a0 - 1) := by omega
theorem oq_82d75f38 {a0 a1 a2 a3 a4 : Int} (h0 : a0 = (a1 - 1)) (h1 : a2 = a3) (h2 : a4 = (a2 + 1)) (h3 : a1 = a4) : a0 = a3 := by omega
theorem oq_af08c243 {a0 a1 a2 a3 a4 : Int} (h0 : a0 = a1) (h1 : a2 ≤ a3) (h2 : a4 ≤ a1) (h3 : a4 = (a3 + 3)) : a2 ≤ a0 := by omega
theorem oq_dbc0ca79 {a0 a1 a2 a3 a4 a5 a6 : Int} (h0 : a0 = a1) (h1 : a2 = a3) (h2 : 0 ≤ a1) (h3 : (a1 = 0 → a3 ≤ a4)) (h4 : a4 = a5) (h5 : a5 = a6) : (a0 = 0 → a2 ≤ a6) := by omega
theorem oq_9d0a7132 {a0 a1 a2 a3 a4 a5 : Int} (h0 : a0 = a1) (h1 : a2 ≤ a1) (h2 : a2 = (a3 + 3)) (h3 : a4 ≤ a3) : (a5 = 0 → a4 < a0) := by omega
theorem oq_dbd39218 {a0 a1 a2 a3 : Int} (h0 : a0 ≤ a1) (h1 : (a2 = 0 → a3 < a0)) (h2 : 0 ≤ a2) : (a2 = 0 → a3 < a1) := by omega
theorem oq_55278851 {a0 a1 a2 a4 : Int} {n3 : Nat} (h0 : a0 = a1) (h1 : (a2 + ((n3 : Nat) : Int)) = 7) (h2 : a1 = a4) (h3 : a4 = a2) : (a0 + ((n3 : Nat) : Int)) = 7 := by omega
theorem oq_aee6e230 {a0 a1 a2 a3 a4 a5 a6 : Int} (h0 : a0 = a1) (h1 : a1 = a2) (h2 : a3 = 0) (h3 : (a4 ≠ 0 → a3 ≠ 0)) (h4 : a2 = a5) (h5 : 0 ≤ a4) (h6 : (a5 = 7 → a4 ≠ 0)) : (a0 = 7 → a6 ≠ 0) := by omega
theorem oq_161ca6a3 {a0 a1 a2 a3 a4 : Int} (h0 : a0 ≤ a1) (h1 : a2 ≤ a3) (h2 : a3 ≤ a4) (h3 : a4 ≤ a0) : a2 ≤ a1 := by omega
theorem oq_fe22fbe9 {a0 a1 a2 a3 a4 a5 : Int} (h0 : (a0 = 0 → a1 < a2)) (h1 : (a2 = a1 ∨ a2 ≤ 203)) (h2 : a0 = a3) (h3 : a3 = a4) (h4 : a4 = 0) : (a2 = a5 ∨ a2 ≤ 203) := by omega
theorem oq_346a0835 {a0 a1 a2 a3 a4 a5 a6 a7 a8 : Int} (h0 : (a0 = 0 → a1 < a2)) (h1 : a0 = a3) (h2 : a4 ≤ a1) (h3 : a3 = a5) (h4 : a6 ≤ a4) (h5 : a5 = 0) (h6 : a7 ≤ a6) : (a8 = 0 → a7 < a2) := by omega
theorem oq_d64112c4 {a0 a1 a2 a3 a4 a5 a6 : Int} (h0 : (a0 = 0 → a1 < a2)) (h1 : a0 = a3) (h2 : a4 ≤ a1) (h3 : a3 = a5) (h4 : a6 ≤ a4) (h5 : a5 = 0) : (204 - a2) < (204 - a6) := by omega
theorem oq_a3e7b886 {a0 a1 : Int} (h0 : (a0 = a1 ∨ a0 ≤ 203)) (h1 : a1 ≤ 203) : 0 < (204 - a0) := by omega
/-! The reading of rules, as a function of the bytes: codes, where it ends, or a fault -/
/-- where the word that begins at p ends; its letters as a number to the base 27 (7 letters and more: -1) -/
def wdT (B : Nat → Int) (N : Int) : Nat → Int → Int
  | 0, p => p
  | f + 1, p => if p < N ∧ 97 ≤ B p.toNat ∧ B p.toNat ≤ 122 then wdT B N f (p + 1) else p
def wdE (B : Nat → Int) (N p : Int) : Int := wdT B N (N - p).toNat p
def whP (B : Nat → Int) (p : Int) : Nat → Int
  | 0 => 0
  | n + 1 => 27 * whP B p n + B (p + n).toNat - 96
def whV (B : Nat → Int) (N p : Int) : Int := if wdE B N p - p ≤ 6 then whP B p (wdE B N p - p).toNat else -1
theorem wd_let {B : Nat → Int} {N p : Int} (h : p < N) (h1 : 97 ≤ B p.toNat) (h2 : B p.toNat ≤ 122) : wdE B N p = wdE B N (p + 1) := by
  unfold wdE
  have e : (N - p).toNat = (N - (p + 1)).toNat + 1 := by first | exact oq_03f997cb h | omega
  rw [e]
  show (if p < N ∧ 97 ≤ B p.toNat ∧ B p.toNat ≤ 122 then _ else _) = _
  rw [if_pos ⟨h, h1, h2⟩]
theorem wd_stop {B : Nat → Int} {N p : Int} (h : N ≤ p ∨ B p.toNat < 97 ∨ 122 < B p.toNat) : wdE B N p = p := by
  unfold wdE
  cases e : (N - p).toNat with
  | zero => rfl
  | succ f =>
    show (if p < N ∧ 97 ≤ B p.toNat ∧ B p.toNat ≤ 122 then _ else _) = _
    rw [if_neg (by first | exact oq_52d7a5f2 h | omega)]
theorem wd_lo {B : Nat → Int} {N : Int} : ∀ (f : Nat) {p : Int}, (N - p).toNat ≤ f → p ≤ wdE B N p ∧ (wdE B N p ≤ N ∨ wdE B N p = p)
  | 0, p, h => by rw [wd_stop (Or.inl (by omega))]; omega
  | f + 1, p, h => by
    by_cases q : p < N ∧ 97 ≤ B p.toNat ∧ B p.toNat ≤ 122
    · rw [wd_let q.1 q.2.1 q.2.2]
      have := wd_lo (B := B) (N := N) f (p := p + 1) (by first | exact oq_e452e043 h | omega)
      omega
    · rw [wd_stop (by first | exact oq_1afc2d8d q | omega)]; omega
theorem wd_le {B : Nat → Int} {N p : Int} : p ≤ wdE B N p := (wd_lo _ (Nat.le_refl _)).1
theorem wd_gt {B : Nat → Int} {N p : Int} (h : p < N) (h1 : 97 ≤ B p.toNat) (h2 : B p.toNat ≤ 122) : p < wdE B N p := by
  rw [wd_let h h1 h2]
  have := wd_le (B := B) (N := N) (p := p + 1)
  omega
/-- the letters of a word are letters -/
theorem wd_in {B : Nat → Int} {N : Int} : ∀ (f : Nat) {p q : Int}, (N - p).toNat ≤ f → p ≤ q → q < wdE B N p → q < N ∧ 97 ≤ B q.toNat ∧ B q.toNat ≤ 122
  | 0, p, q, h, h1, h2 => by rw [wd_stop (Or.inl (by omega))] at h2; omega
  | f + 1, p, q, h, h1, h2 => by
    by_cases z : p < N ∧ 97 ≤ B p.toNat ∧ B p.toNat ≤ 122
    · by_cases e : q = p
      · rw [e]; exact z
      · rw [wd_let z.1 z.2.1 z.2.2] at h2
        exact wd_in f (p := p + 1) (by first | exact oq_e452e043 h | omega) (by first | exact oq_e0157141 e h1 | omega) h2
    · rw [wd_stop (by first | exact oq_1afc2d8d z | omega)] at h2; omega
/-- a sign at p; a digit at p -/
abbrev chT (B : Nat → Int) (N p c : Int) : Prop := p < N ∧ B p.toNat = c
abbrev dgP (B : Nat → Int) (N p : Int) : Prop := p < N ∧ 48 ≤ B p.toNat ∧ B p.toNat ≤ 57
/-- the code of the name at p; 0: there is none -/
def nmC (B : Nat → Int) (N p : Int) : Int :=
  if whV B N p = 454132 then -1 else if whV B N p = 1960084 then -2 else if whV B N p = 311436 then -3 else if whV B N p = 1837433 then -4
  else if whV B N p = 1701829 then -5 else if whV B N p = 9176 then -6 else if whV B N p = 234466237 then -7 else 0
def opC (B : Nat → Int) (p : Int) : Int := if B p.toNat = 42 then -11 else if B p.toNat = 47 then -12 else if B p.toNat = 43 then -9 else if B p.toNat = 45 then -10 else if B p.toNat = 60 then -15 else if B p.toNat = 62 then -16 else -17
/-- what a reading comes to: a fault (0: none), codes, where it ends -/
abbrev Rd : Type := Int × List Int × Int
def bnd (r : Rd) (g : List Int → Int → Rd) : Rd := if r.1 = 0 then g r.2.1 r.2.2 else r
/-- modes: 0 a unit, 1 a product, 2 its rest, 3 a sum, 4 its rest, 5 a test, 6 both, 7 its rest, 8 either, 9 its rest; o: how many are open -/
def PG (B : Nat → Int) (N : Int) : Nat → Nat → List Int → Int → Int → Rd
  | 0, _, _, p, _ => (9, [], p)
  | f + 1, m, a, p, o =>
    if m = 0 then
      (if dgP B N p then (if 999 < nmV B N p 0 then (2, [], p) else (0, [nmV B N p 0], sk B N (nmE B N p 0)))
       else if chT B N p 40 then
         (if 6 ≤ o then (3, [], p) else bnd (PG B N f 3 [] (sk B N (p + 1)) (o + 1)) (fun c q => if chT B N q 41 then (0, c, sk B N (q + 1)) else (1, [], q)))
       else if whV B N p = 6476969 ∨ whV B N p = 267347 then
         (if ¬ chT B N (sk B N (wdE B N p)) 40 then (1, [], sk B N (wdE B N p))
          else if 6 ≤ o then (3, [], sk B N (wdE B N p))
          else bnd (PG B N f 3 [] (sk B N (sk B N (wdE B N p) + 1)) (o + 1)) (fun c q => if ¬ chT B N q 44 then (1, [], q) else bnd (PG B N f 3 [] (sk B N (q + 1)) (o + 1)) (fun d r => if chT B N r 41 then (0, c ++ d ++ [if whV B N p = 6476969 then -13 else -14], sk B N (r + 1)) else (1, [], r))))
       else if nmC B N p = 0 then (1, [], p) else (0, [nmC B N p], sk B N (wdE B N p)))
    else if m = 1 then bnd (PG B N f 0 [] p o) (fun c q => PG B N f 2 c q o)
    else if m = 2 then (if chT B N p 42 ∨ chT B N p 47 then bnd (PG B N f 0 [] (sk B N (p + 1)) o) (fun c q => PG B N f 2 (a ++ c ++ [opC B p]) q o) else (0, a, p))
    else if m = 3 then bnd (PG B N f 1 [] p o) (fun c q => PG B N f 4 c q o)
    else if m = 4 then (if chT B N p 43 ∨ chT B N p 45 then bnd (PG B N f 1 [] (sk B N (p + 1)) o) (fun c q => PG B N f 4 (a ++ c ++ [opC B p]) q o) else (0, a, p))
    else if m = 5 then
      (if whV B N p = 10631 then (if 6 ≤ o then (3, [], p) else bnd (PG B N f 5 [] (sk B N (wdE B N p)) (o + 1)) (fun c q => (0, c ++ [-8], q)))
       else if chT B N p 91 then (if 6 ≤ o then (3, [], p) else bnd (PG B N f 8 [] (sk B N (p + 1)) (o + 1)) (fun c q => if chT B N q 93 then (0, c, sk B N (q + 1)) else (1, [], q)))
       else bnd (PG B N f 3 [] p o) (fun c q => if chT B N q 60 ∨ chT B N q 62 ∨ chT B N q 61 then bnd (PG B N f 3 [] (sk B N (q + 1)) o) (fun d r => (0, c ++ d ++ [opC B q], r)) else (1, [], q)))
    else if m = 6 then bnd (PG B N f 5 [] p o) (fun c q => PG B N f 7 c q o)
    else if m = 7 then (if whV B N p = 1111 then bnd (PG B N f 5 [] (sk B N (wdE B N p)) o) (fun c q => PG B N f 7 (a ++ c ++ [-18]) q o) else (0, a, p))
    else if m = 8 then bnd (PG B N f 6 [] p o) (fun c q => PG B N f 9 c q o)
    else (if whV B N p = 423 then bnd (PG B N f 6 [] (sk B N (wdE B N p)) o) (fun c q => PG B N f 9 (a ++ c ++ [-19]) q o) else (0, a, p))
/-- more steps do not change what a reading comes to -/
def RdL (r s : Rd) : Prop := r.1 ≠ 9 → s = r
theorem rl_rf {r : Rd} : RdL r r := fun _ => rfl
theorem rl_bnd {r s : Rd} {g h : List Int → Int → Rd} (h1 : RdL r s) (h2 : ∀ c q, RdL (g c q) (h c q)) : RdL (bnd r g) (bnd s h) := by
  intro z
  unfold bnd at z ⊢
  by_cases e : r.1 = 0
  · rw [if_pos e] at z ⊢
    rw [h1 (by first | exact oq_7f43687c e | omega), if_pos e]
    exact h2 _ _ z
  · rw [if_neg e] at z ⊢
    rw [h1 z, if_neg e]
theorem rl_if {p : Prop} [Decidable p] {a b c d : Rd} (h1 : RdL a c) (h2 : RdL b d) : RdL (if p then a else b) (if p then c else d) := by
  by_cases e : p
  · rw [if_pos e, if_pos e]; exact h1
  · rw [if_neg e, if_neg e]; exact h2
theorem pg_mono {B : Nat → Int} {N : Int} : ∀ (f m : Nat) (a : List Int) (p o : Int), RdL (PG B N f m a p o) (PG B N (f + 1) m a p o)
  | 0, m, a, p, o => fun z => absurd rfl z
  | f + 1, m, a, p, o => by
    have ih := pg_mono (B := B) (N := N) f
    exact rl_if (rl_if (rl_if rl_rf rl_rf) (rl_if (rl_if rl_rf (rl_bnd (ih _ _ _ _) (fun _ _ => rl_rf))) (rl_if (rl_if rl_rf (rl_if rl_rf (rl_bnd (ih _ _ _ _) (fun _ _ => rl_if rl_rf (rl_bnd (ih _ _ _ _) (fun _ _ => rl_rf)))))) rl_rf))) (rl_if (rl_bnd (ih _ _ _ _) (fun _ _ => ih _ _ _ _)) (rl_if (rl_if (rl_bnd (ih _ _ _ _) (fun _ _ => ih _ _ _ _)) rl_rf) (rl_if (rl_bnd (ih _ _ _ _) (fun _ _ => ih _ _ _ _)) (rl_if (rl_if (rl_bnd (ih _ _ _ _) (fun _ _ => ih _ _ _ _)) rl_rf) (rl_if (rl_if (rl_if rl_rf (rl_bnd (ih _ _ _ _) (fun _ _ => rl_rf))) (rl_if (rl_if rl_rf (rl_bnd (ih _ _ _ _) (fun _ _ => rl_rf))) (rl_bnd (ih _ _ _ _) (fun _ _ => rl_if (rl_bnd (ih _ _ _ _) (fun _ _ => rl_rf)) rl_rf)))) (rl_if (rl_bnd (ih _ _ _ _) (fun _ _ => ih _ _ _ _)) (rl_if (rl_if (rl_bnd (ih _ _ _ _) (fun _ _ => ih _ _ _ _)) rl_rf) (rl_if (rl_bnd (ih _ _ _ _) (fun _ _ => ih _ _ _ _)) (rl_if (rl_bnd (ih _ _ _ _) (fun _ _ => ih _ _ _ _)) rl_rf)))))))))
/-- the reading from p on comes to r -/
def PGR (B : Nat → Int) (N : Int) (m : Nat) (a : List Int) (p o : Int) (r : Rd) : Prop := r.1 ≠ 9 ∧ ∃ f, PG B N f m a p o = r
theorem pg_add {B : Nat → Int} {N : Int} {m : Nat} {a : List Int} {p o : Int} {r : Rd} {f : Nat} (h : PG B N f m a p o = r) (hr : r.1 ≠ 9) : ∀ k, PG B N (f + k) m a p o = r
  | 0 => h
  | k + 1 => by
    have ih := pg_add h hr k
    have := pg_mono (B := B) (N := N) (f + k) m a p o (by rw [ih]; exact hr)
    rw [show f + (k + 1) = f + k + 1 from rfl, this, ih]
theorem pgr_un {B : Nat → Int} {N : Int} {m : Nat} {a : List Int} {p o : Int} {r s : Rd} (h : PGR B N m a p o r) (g : PGR B N m a p o s) : r = s := by
  obtain ⟨h0, f, h1⟩ := h
  obtain ⟨g0, k, g1⟩ := g
  rw [← pg_add h1 h0 k, ← pg_add g1 g0 f, Nat.add_comm]
/-- a reading that goes on with another one -/
theorem pgr_b {B : Nat → Int} {N : Int} {m m1 : Nat} {a a1 : List Int} {p o p1 o1 : Int} {r s : Rd} {g : Nat → List Int → Int → Rd} (h : PGR B N m1 a1 p1 o1 r) (e : ∀ f, PG B N (f + 1) m a p o = bnd (PG B N f m1 a1 p1 o1) (g f)) (hr : r.1 ≠ 0 → s = r) (hg : r.1 = 0 → s.1 ≠ 9 ∧ ∃ f, ∀ k, g (f + k) r.2.1 r.2.2 = s) : PGR B N m a p o s := by
  obtain ⟨h0, f, h1⟩ := h
  by_cases z : r.1 = 0
  · obtain ⟨s0, k, s1⟩ := hg z
    refine ⟨s0, f + k + 1, ?_⟩
    rw [e, pg_add h1 h0 k]
    unfold bnd
    rw [if_pos z, show f + k = k + f from Nat.add_comm _ _, s1 f]
  · refine ⟨by rw [hr z]; exact h0, f + 1, ?_⟩
    rw [e, h1]
    unfold bnd
    rw [if_neg z, hr z]
theorem pgr_0 {B : Nat → Int} {N : Int} {m : Nat} {a : List Int} {p o : Int} {s : Rd} (hs : s.1 ≠ 9) (e : ∀ f, PG B N (f + 1) m a p o = s) : PGR B N m a p o s := ⟨hs, 1, e 0⟩
theorem pgr_bad {B : Nat → Int} {N : Int} {m : Nat} {a : List Int} {p o : Int} {m1 : Nat} {a1 : List Int} {p1 o1 : Int} {r1 : Rd} {g : Nat → List Int → Int → Rd} (h : PGR B N m1 a1 p1 o1 r1) (z : r1.1 ≠ 0) (e : ∀ f, PG B N (f + 1) m a p o = bnd (PG B N f m1 a1 p1 o1) (g f)) : PGR B N m a p o r1 := pgr_b h e (fun _ => rfl) (fun q => absurd q z)
theorem pgr_go {B : Nat → Int} {N : Int} {m : Nat} {a : List Int} {p o : Int} {m1 : Nat} {a1 : List Int} {p1 o1 : Int} {r1 : Rd} {m2 : Nat} {F : List Int → List Int} {o2 : Int} {r : Rd} (h : PGR B N m1 a1 p1 o1 r1) (z : r1.1 = 0) (h2 : PGR B N m2 (F r1.2.1) r1.2.2 o2 r) (e : ∀ f, PG B N (f + 1) m a p o = bnd (PG B N f m1 a1 p1 o1) (fun c q => PG B N f m2 (F c) q o2)) : PGR B N m a p o r := by
  obtain ⟨h0, f, h1⟩ := h2
  exact pgr_b (g := fun f c q => PG B N f m2 (F c) q o2) h e (fun q => absurd z q) (fun _ => ⟨h0, f, fun k => pg_add h1 h0 k⟩)
theorem pgr_fin {B : Nat → Int} {N : Int} {m : Nat} {a : List Int} {p o : Int} {m1 : Nat} {a1 : List Int} {p1 o1 : Int} {r1 : Rd} {g : List Int → Int → Rd} (h : PGR B N m1 a1 p1 o1 r1) (z : r1.1 = 0) (hs : (g r1.2.1 r1.2.2).1 ≠ 9) (e : ∀ f, PG B N (f + 1) m a p o = bnd (PG B N f m1 a1 p1 o1) g) : PGR B N m a p o (g r1.2.1 r1.2.2) := pgr_b (g := fun _ => g) h e (fun q => absurd z q) (fun _ => ⟨hs, 0, fun _ => rfl⟩)
theorem pgr_2 {B : Nat → Int} {N : Int} {m : Nat} {a : List Int} {p o : Int} {m1 : Nat} {a1 : List Int} {p1 o1 : Int} {r1 : Rd} {m2 : Nat} {a2 : List Int} {p2 o2 : Int} {r2 s : Rd} {g : Nat → List Int → Int → Rd} {g2 : List Int → Int → Rd} (h : PGR B N m1 a1 p1 o1 r1) (z : r1.1 = 0) (h2 : PGR B N m2 a2 p2 o2 r2) (e : ∀ f, PG B N (f + 1) m a p o = bnd (PG B N f m1 a1 p1 o1) (g f)) (e2 : ∀ f, g f r1.2.1 r1.2.2 = bnd (PG B N f m2 a2 p2 o2) g2) (es : s = bnd r2 g2) (hs : s.1 ≠ 9) : PGR B N m a p o s := by
  obtain ⟨h0, f, h1⟩ := h2
  refine pgr_b h e (fun q => absurd z q) (fun _ => ⟨hs, f, fun k => ?_⟩)
  rw [e2, pg_add h1 h0 k, es]
theorem pg_0 {B : Nat → Int} {N : Int} {a : List Int} {p o : Int} {f : Nat} : PG B N (f + 1) 0 a p o = (if dgP B N p then (if 999 < nmV B N p 0 then (2, [], p) else (0, [nmV B N p 0], sk B N (nmE B N p 0)))
       else if chT B N p 40 then
         (if 6 ≤ o then (3, [], p) else bnd (PG B N f 3 [] (sk B N (p + 1)) (o + 1)) (fun c q => if chT B N q 41 then (0, c, sk B N (q + 1)) else (1, [], q)))
       else if whV B N p = 6476969 ∨ whV B N p = 267347 then
         (if ¬ chT B N (sk B N (wdE B N p)) 40 then (1, [], sk B N (wdE B N p))
          else if 6 ≤ o then (3, [], sk B N (wdE B N p))
          else bnd (PG B N f 3 [] (sk B N (sk B N (wdE B N p) + 1)) (o + 1)) (fun c q => if ¬ chT B N q 44 then (1, [], q) else bnd (PG B N f 3 [] (sk B N (q + 1)) (o + 1)) (fun d r => if chT B N r 41 then (0, c ++ d ++ [if whV B N p = 6476969 then -13 else -14], sk B N (r + 1)) else (1, [], r))))
       else if nmC B N p = 0 then (1, [], p) else (0, [nmC B N p], sk B N (wdE B N p))) := rfl
theorem pg_1 {B : Nat → Int} {N : Int} {a : List Int} {p o : Int} {f : Nat} : PG B N (f + 1) 1 a p o = bnd (PG B N f 0 [] p o) (fun c q => PG B N f 2 c q o) := rfl
theorem pg_2 {B : Nat → Int} {N : Int} {a : List Int} {p o : Int} {f : Nat} : PG B N (f + 1) 2 a p o = (if chT B N p 42 ∨ chT B N p 47 then bnd (PG B N f 0 [] (sk B N (p + 1)) o) (fun c q => PG B N f 2 (a ++ c ++ [opC B p]) q o) else (0, a, p)) := rfl
theorem pg_3 {B : Nat → Int} {N : Int} {a : List Int} {p o : Int} {f : Nat} : PG B N (f + 1) 3 a p o = bnd (PG B N f 1 [] p o) (fun c q => PG B N f 4 c q o) := rfl
theorem pg_4 {B : Nat → Int} {N : Int} {a : List Int} {p o : Int} {f : Nat} : PG B N (f + 1) 4 a p o = (if chT B N p 43 ∨ chT B N p 45 then bnd (PG B N f 1 [] (sk B N (p + 1)) o) (fun c q => PG B N f 4 (a ++ c ++ [opC B p]) q o) else (0, a, p)) := rfl
theorem pg_5 {B : Nat → Int} {N : Int} {a : List Int} {p o : Int} {f : Nat} : PG B N (f + 1) 5 a p o = (if whV B N p = 10631 then (if 6 ≤ o then (3, [], p) else bnd (PG B N f 5 [] (sk B N (wdE B N p)) (o + 1)) (fun c q => (0, c ++ [-8], q)))
       else if chT B N p 91 then (if 6 ≤ o then (3, [], p) else bnd (PG B N f 8 [] (sk B N (p + 1)) (o + 1)) (fun c q => if chT B N q 93 then (0, c, sk B N (q + 1)) else (1, [], q)))
       else bnd (PG B N f 3 [] p o) (fun c q => if chT B N q 60 ∨ chT B N q 62 ∨ chT B N q 61 then bnd (PG B N f 3 [] (sk B N (q + 1)) o) (fun d r => (0, c ++ d ++ [opC B q], r)) else (1, [], q))) := rfl
theorem pg_6 {B : Nat → Int} {N : Int} {a : List Int} {p o : Int} {f : Nat} : PG B N (f + 1) 6 a p o = bnd (PG B N f 5 [] p o) (fun c q => PG B N f 7 c q o) := rfl
theorem pg_7 {B : Nat → Int} {N : Int} {a : List Int} {p o : Int} {f : Nat} : PG B N (f + 1) 7 a p o = (if whV B N p = 1111 then bnd (PG B N f 5 [] (sk B N (wdE B N p)) o) (fun c q => PG B N f 7 (a ++ c ++ [-18]) q o) else (0, a, p)) := rfl
theorem pg_8 {B : Nat → Int} {N : Int} {a : List Int} {p o : Int} {f : Nat} : PG B N (f + 1) 8 a p o = bnd (PG B N f 6 [] p o) (fun c q => PG B N f 9 c q o) := rfl
theorem pg_9 {B : Nat → Int} {N : Int} {a : List Int} {p o : Int} {f : Nat} : PG B N (f + 1) 9 a p o = (if whV B N p = 423 then bnd (PG B N f 6 [] (sk B N (wdE B N p)) o) (fun c q => PG B N f 9 (a ++ c ++ [-19]) q o) else (0, a, p)) := rfl
theorem pu_num {B : Nat → Int} {N : Int} {a : List Int} {p o : Int} (h : dgP B N p) (h1 : nmV B N p 0 ≤ 999) : PGR B N 0 a p o (0, [nmV B N p 0], sk B N (nmE B N p 0)) := pgr_0 (by show (0 : Int) ≠ 9; decide) (fun f => by rw [pg_0, if_pos h, if_neg (by first | exact oq_c4f7dcbe h1 | omega)])
theorem pu_big {B : Nat → Int} {N : Int} {a : List Int} {p o : Int} (h : dgP B N p) (h1 : 999 < nmV B N p 0) : PGR B N 0 a p o (2, [], p) := pgr_0 (by show (2 : Int) ≠ 9; decide) (fun f => by rw [pg_0, if_pos h, if_pos h1])
theorem pu_p3 {B : Nat → Int} {N : Int} {a : List Int} {p o : Int} (h : chT B N p 40) (ho : 6 ≤ o) : PGR B N 0 a p o (3, [], p) := pgr_0 (by show (3 : Int) ≠ 9; decide) (fun f => by rw [pg_0, if_neg (by omega), if_pos h, if_pos ho])
theorem pu_pe {B : Nat → Int} {N : Int} {a : List Int} {p o : Int} (h : chT B N p 40) (ho : o < 6) : ∀ f, PG B N (f + 1) 0 a p o = bnd (PG B N f 3 [] (sk B N (p + 1)) (o + 1)) (fun c q => if chT B N q 41 then (0, c, sk B N (q + 1)) else (1, [], q)) := fun f => by rw [pg_0, if_neg (by omega), if_pos h, if_neg (by first | exact oq_753421c4 ho | omega)]
theorem pu_pb {B : Nat → Int} {N : Int} {a : List Int} {p o : Int} {r : Rd} (h : chT B N p 40) (ho : o < 6) (hr : PGR B N 3 [] (sk B N (p + 1)) (o + 1) r) (z : r.1 ≠ 0) : PGR B N 0 a p o r := pgr_bad (g := fun _ c q => if chT B N q 41 then (0, c, sk B N (q + 1)) else (1, [], q)) hr z (pu_pe h ho)
theorem pu_py {B : Nat → Int} {N : Int} {a : List Int} {p o : Int} {r : Rd} (h : chT B N p 40) (ho : o < 6) (hr : PGR B N 3 [] (sk B N (p + 1)) (o + 1) r) (z : r.1 = 0) (hc : chT B N r.2.2 41) : PGR B N 0 a p o (0, r.2.1, sk B N (r.2.2 + 1)) := by
  have e := pgr_fin (a := a) (g := fun c q => if chT B N q 41 then (0, c, sk B N (q + 1)) else (1, [], q)) hr z (by show (if chT B N r.2.2 41 then _ else _ : Rd).1 ≠ 9; rw [if_pos hc]; show (0 : Int) ≠ 9; decide) (pu_pe h ho)
  rwa [if_pos hc] at e
theorem pu_pn {B : Nat → Int} {N : Int} {a : List Int} {p o : Int} {r : Rd} (h : chT B N p 40) (ho : o < 6) (hr : PGR B N 3 [] (sk B N (p + 1)) (o + 1) r) (z : r.1 = 0) (hc : ¬ chT B N r.2.2 41) : PGR B N 0 a p o (1, [], r.2.2) := by
  have e := pgr_fin (a := a) (g := fun c q => if chT B N q 41 then (0, c, sk B N (q + 1)) else (1, [], q)) hr z (by show (if chT B N r.2.2 41 then _ else _ : Rd).1 ≠ 9; rw [if_neg hc]; show (1 : Int) ≠ 9; decide) (pu_pe h ho)
  rwa [if_neg hc] at e
theorem pu_nam {B : Nat → Int} {N : Int} {a : List Int} {p o : Int} (hd : ¬ dgP B N p) (hc : ¬ chT B N p 40) (hw : ¬ (whV B N p = 6476969 ∨ whV B N p = 267347)) (h : nmC B N p ≠ 0) : PGR B N 0 a p o (0, [nmC B N p], sk B N (wdE B N p)) := pgr_0 (by show (0 : Int) ≠ 9; decide) (fun f => by rw [pg_0, if_neg hd, if_neg hc, if_neg hw, if_neg h])
theorem pu_no {B : Nat → Int} {N : Int} {a : List Int} {p o : Int} (hd : ¬ dgP B N p) (hc : ¬ chT B N p 40) (hw : ¬ (whV B N p = 6476969 ∨ whV B N p = 267347)) (h : nmC B N p = 0) : PGR B N 0 a p o (1, [], p) := pgr_0 (by show (1 : Int) ≠ 9; decide) (fun f => by rw [pg_0, if_neg hd, if_neg hc, if_neg hw, if_pos h])
theorem pu_t1 {B : Nat → Int} {N : Int} {a : List Int} {p o : Int} (hd : ¬ dgP B N p) (hc : ¬ chT B N p 40) (hw : whV B N p = 6476969 ∨ whV B N p = 267347) (h : ¬ chT B N (sk B N (wdE B N p)) 40) : PGR B N 0 a p o (1, [], sk B N (wdE B N p)) := pgr_0 (by show (1 : Int) ≠ 9; decide) (fun f => by rw [pg_0, if_neg hd, if_neg hc, if_pos hw, if_pos h])
theorem pu_t3 {B : Nat → Int} {N : Int} {a : List Int} {p o : Int} (hd : ¬ dgP B N p) (hc : ¬ chT B N p 40) (hw : whV B N p = 6476969 ∨ whV B N p = 267347) (h : chT B N (sk B N (wdE B N p)) 40) (ho : 6 ≤ o) : PGR B N 0 a p o (3, [], sk B N (wdE B N p)) := pgr_0 (by show (3 : Int) ≠ 9; decide) (fun f => by rw [pg_0, if_neg hd, if_neg hc, if_pos hw, if_neg (fun q => q h), if_pos ho])
theorem rp_end {B : Nat → Int} {N : Int} {a : List Int} {p o : Int} (h : ¬ (chT B N p 42 ∨ chT B N p 47)) : PGR B N 2 a p o (0, a, p) := pgr_0 (by show (0 : Int) ≠ 9; decide) (fun f => by rw [pg_2, if_neg h])
theorem rp_bad {B : Nat → Int} {N : Int} {a : List Int} {p o : Int} {r1 : Rd} (h : chT B N p 42 ∨ chT B N p 47) (h1 : PGR B N 0 [] (sk B N (p + 1)) o r1) (z : r1.1 ≠ 0) : PGR B N 2 a p o r1 := pgr_bad (g := fun f c q => PG B N f 2 (a ++ c ++ [opC B p]) q o) h1 z (fun f => by rw [pg_2, if_pos h])
theorem rp_go {B : Nat → Int} {N : Int} {a : List Int} {p o : Int} {r1 r : Rd} (h : chT B N p 42 ∨ chT B N p 47) (h1 : PGR B N 0 [] (sk B N (p + 1)) o r1) (z : r1.1 = 0) (h2 : PGR B N 2 (a ++ r1.2.1 ++ [opC B p]) r1.2.2 o r) : PGR B N 2 a p o r := pgr_go (F := fun c => a ++ c ++ [opC B p]) h1 z h2 (fun f => by rw [pg_2, if_pos h])
theorem wp_bad {B : Nat → Int} {N : Int} {a : List Int} {p o : Int} {r1 : Rd} (h1 : PGR B N 0 [] p o r1) (z : r1.1 ≠ 0) : PGR B N 1 a p o r1 := pgr_bad (g := fun f c q => PG B N f 2 c q o) h1 z (fun f => pg_1)
theorem wp_go {B : Nat → Int} {N : Int} {a : List Int} {p o : Int} {r1 r : Rd} (h1 : PGR B N 0 [] p o r1) (z : r1.1 = 0) (h2 : PGR B N 2 r1.2.1 r1.2.2 o r) : PGR B N 1 a p o r := pgr_go (F := fun c => c) h1 z h2 (fun f => pg_1)
theorem rs_end {B : Nat → Int} {N : Int} {a : List Int} {p o : Int} (h : ¬ (chT B N p 43 ∨ chT B N p 45)) : PGR B N 4 a p o (0, a, p) := pgr_0 (by show (0 : Int) ≠ 9; decide) (fun f => by rw [pg_4, if_neg h])
theorem rs_bad {B : Nat → Int} {N : Int} {a : List Int} {p o : Int} {r1 : Rd} (h : chT B N p 43 ∨ chT B N p 45) (h1 : PGR B N 1 [] (sk B N (p + 1)) o r1) (z : r1.1 ≠ 0) : PGR B N 4 a p o r1 := pgr_bad (g := fun f c q => PG B N f 4 (a ++ c ++ [opC B p]) q o) h1 z (fun f => by rw [pg_4, if_pos h])
theorem rs_go {B : Nat → Int} {N : Int} {a : List Int} {p o : Int} {r1 r : Rd} (h : chT B N p 43 ∨ chT B N p 45) (h1 : PGR B N 1 [] (sk B N (p + 1)) o r1) (z : r1.1 = 0) (h2 : PGR B N 4 (a ++ r1.2.1 ++ [opC B p]) r1.2.2 o r) : PGR B N 4 a p o r := pgr_go (F := fun c => a ++ c ++ [opC B p]) h1 z h2 (fun f => by rw [pg_4, if_pos h])
theorem ws_bad {B : Nat → Int} {N : Int} {a : List Int} {p o : Int} {r1 : Rd} (h1 : PGR B N 1 [] p o r1) (z : r1.1 ≠ 0) : PGR B N 3 a p o r1 := pgr_bad (g := fun f c q => PG B N f 4 c q o) h1 z (fun f => pg_3)
theorem ws_go {B : Nat → Int} {N : Int} {a : List Int} {p o : Int} {r1 r : Rd} (h1 : PGR B N 1 [] p o r1) (z : r1.1 = 0) (h2 : PGR B N 4 r1.2.1 r1.2.2 o r) : PGR B N 3 a p o r := pgr_go (F := fun c => c) h1 z h2 (fun f => pg_3)
theorem rb_end {B : Nat → Int} {N : Int} {a : List Int} {p o : Int} (h : whV B N p ≠ 1111) : PGR B N 7 a p o (0, a, p) := pgr_0 (by show (0 : Int) ≠ 9; decide) (fun f => by rw [pg_7, if_neg h])
theorem rb_bad {B : Nat → Int} {N : Int} {a : List Int} {p o : Int} {r1 : Rd} (h : whV B N p = 1111) (h1 : PGR B N 5 [] (sk B N (wdE B N p)) o r1) (z : r1.1 ≠ 0) : PGR B N 7 a p o r1 := pgr_bad (g := fun f c q => PG B N f 7 (a ++ c ++ [-18]) q o) h1 z (fun f => by rw [pg_7, if_pos h])
theorem rb_go {B : Nat → Int} {N : Int} {a : List Int} {p o : Int} {r1 r : Rd} (h : whV B N p = 1111) (h1 : PGR B N 5 [] (sk B N (wdE B N p)) o r1) (z : r1.1 = 0) (h2 : PGR B N 7 (a ++ r1.2.1 ++ [-18]) r1.2.2 o r) : PGR B N 7 a p o r := pgr_go (F := fun c => a ++ c ++ [-18]) h1 z h2 (fun f => by rw [pg_7, if_pos h])
theorem wb_bad {B : Nat → Int} {N : Int} {a : List Int} {p o : Int} {r1 : Rd} (h1 : PGR B N 5 [] p o r1) (z : r1.1 ≠ 0) : PGR B N 6 a p o r1 := pgr_bad (g := fun f c q => PG B N f 7 c q o) h1 z (fun f => pg_6)
theorem wb_go {B : Nat → Int} {N : Int} {a : List Int} {p o : Int} {r1 r : Rd} (h1 : PGR B N 5 [] p o r1) (z : r1.1 = 0) (h2 : PGR B N 7 r1.2.1 r1.2.2 o r) : PGR B N 6 a p o r := pgr_go (F := fun c => c) h1 z h2 (fun f => pg_6)
theorem re_end {B : Nat → Int} {N : Int} {a : List Int} {p o : Int} (h : whV B N p ≠ 423) : PGR B N 9 a p o (0, a, p) := pgr_0 (by show (0 : Int) ≠ 9; decide) (fun f => by rw [pg_9, if_neg h])
theorem re_bad {B : Nat → Int} {N : Int} {a : List Int} {p o : Int} {r1 : Rd} (h : whV B N p = 423) (h1 : PGR B N 6 [] (sk B N (wdE B N p)) o r1) (z : r1.1 ≠ 0) : PGR B N 9 a p o r1 := pgr_bad (g := fun f c q => PG B N f 9 (a ++ c ++ [-19]) q o) h1 z (fun f => by rw [pg_9, if_pos h])
theorem re_go {B : Nat → Int} {N : Int} {a : List Int} {p o : Int} {r1 r : Rd} (h : whV B N p = 423) (h1 : PGR B N 6 [] (sk B N (wdE B N p)) o r1) (z : r1.1 = 0) (h2 : PGR B N 9 (a ++ r1.2.1 ++ [-19]) r1.2.2 o r) : PGR B N 9 a p o r := pgr_go (F := fun c => a ++ c ++ [-19]) h1 z h2 (fun f => by rw [pg_9, if_pos h])
theorem we_bad {B : Nat → Int} {N : Int} {a : List Int} {p o : Int} {r1 : Rd} (h1 : PGR B N 6 [] p o r1) (z : r1.1 ≠ 0) : PGR B N 8 a p o r1 := pgr_bad (g := fun f c q => PG B N f 9 c q o) h1 z (fun f => pg_8)
theorem we_go {B : Nat → Int} {N : Int} {a : List Int} {p o : Int} {r1 r : Rd} (h1 : PGR B N 6 [] p o r1) (z : r1.1 = 0) (h2 : PGR B N 9 r1.2.1 r1.2.2 o r) : PGR B N 8 a p o r := pgr_go (F := fun c => c) h1 z h2 (fun f => pg_8)
/-- tests -/
theorem pt_n3 {B : Nat → Int} {N : Int} {a : List Int} {p o : Int} (h : whV B N p = 10631) (ho : 6 ≤ o) : PGR B N 5 a p o (3, [], p) := pgr_0 (by show (3 : Int) ≠ 9; decide) (fun f => by rw [pg_5, if_pos h, if_pos ho])
theorem pt_nb {B : Nat → Int} {N : Int} {a : List Int} {p o : Int} {r : Rd} (h : whV B N p = 10631) (ho : o < 6) (hr : PGR B N 5 [] (sk B N (wdE B N p)) (o + 1) r) (z : r.1 ≠ 0) : PGR B N 5 a p o r := pgr_bad (g := fun _ c q => (0, c ++ [-8], q)) hr z (fun f => by rw [pg_5, if_pos h, if_neg (by first | exact oq_753421c4 ho | omega)])
theorem pt_ny {B : Nat → Int} {N : Int} {a : List Int} {p o : Int} {r : Rd} (h : whV B N p = 10631) (ho : o < 6) (hr : PGR B N 5 [] (sk B N (wdE B N p)) (o + 1) r) (z : r.1 = 0) : PGR B N 5 a p o (0, r.2.1 ++ [-8], r.2.2) := pgr_fin (g := fun c q => (0, c ++ [-8], q)) hr z (by show (0 : Int) ≠ 9; decide) (fun f => by rw [pg_5, if_pos h, if_neg (by first | exact oq_753421c4 ho | omega)])
theorem pt_b3 {B : Nat → Int} {N : Int} {a : List Int} {p o : Int} (h : whV B N p ≠ 10631) (hc : chT B N p 91) (ho : 6 ≤ o) : PGR B N 5 a p o (3, [], p) := pgr_0 (by show (3 : Int) ≠ 9; decide) (fun f => by rw [pg_5, if_neg h, if_pos hc, if_pos ho])
theorem pt_be {B : Nat → Int} {N : Int} {a : List Int} {p o : Int} (h : whV B N p ≠ 10631) (hc : chT B N p 91) (ho : o < 6) : ∀ f, PG B N (f + 1) 5 a p o = bnd (PG B N f 8 [] (sk B N (p + 1)) (o + 1)) (fun c q => if chT B N q 93 then (0, c, sk B N (q + 1)) else (1, [], q)) := fun f => by rw [pg_5, if_neg h, if_pos hc, if_neg (by first | exact oq_753421c4 ho | omega)]
theorem pt_bb {B : Nat → Int} {N : Int} {a : List Int} {p o : Int} {r : Rd} (h : whV B N p ≠ 10631) (hc : chT B N p 91) (ho : o < 6) (hr : PGR B N 8 [] (sk B N (p + 1)) (o + 1) r) (z : r.1 ≠ 0) : PGR B N 5 a p o r := pgr_bad (g := fun _ c q => if chT B N q 93 then (0, c, sk B N (q + 1)) else (1, [], q)) hr z (pt_be h hc ho)
theorem pt_by {B : Nat → Int} {N : Int} {a : List Int} {p o : Int} {r : Rd} (h : whV B N p ≠ 10631) (hc : chT B N p 91) (ho : o < 6) (hr : PGR B N 8 [] (sk B N (p + 1)) (o + 1) r) (z : r.1 = 0) (hd : chT B N r.2.2 93) : PGR B N 5 a p o (0, r.2.1, sk B N (r.2.2 + 1)) := by
  have e := pgr_fin (a := a) (g := fun c q => if chT B N q 93 then (0, c, sk B N (q + 1)) else (1, [], q)) hr z (by show (if chT B N r.2.2 93 then _ else _ : Rd).1 ≠ 9; rw [if_pos hd]; show (0 : Int) ≠ 9; decide) (pt_be h hc ho)
  rwa [if_pos hd] at e
theorem pt_bn {B : Nat → Int} {N : Int} {a : List Int} {p o : Int} {r : Rd} (h : whV B N p ≠ 10631) (hc : chT B N p 91) (ho : o < 6) (hr : PGR B N 8 [] (sk B N (p + 1)) (o + 1) r) (z : r.1 = 0) (hd : ¬ chT B N r.2.2 93) : PGR B N 5 a p o (1, [], r.2.2) := by
  have e := pgr_fin (a := a) (g := fun c q => if chT B N q 93 then (0, c, sk B N (q + 1)) else (1, [], q)) hr z (by show (if chT B N r.2.2 93 then _ else _ : Rd).1 ≠ 9; rw [if_neg hd]; show (1 : Int) ≠ 9; decide) (pt_be h hc ho)
  rwa [if_neg hd] at e
abbrev rlT (B : Nat → Int) (N q : Int) : Prop := chT B N q 60 ∨ chT B N q 62 ∨ chT B N q 61
def gT5 (B : Nat → Int) (N o : Int) (f : Nat) (c : List Int) (q : Int) : Rd := if rlT B N q then bnd (PG B N f 3 [] (sk B N (q + 1)) o) (fun d r => (0, c ++ d ++ [opC B q], r)) else (1, [], q)
theorem pt_se {B : Nat → Int} {N : Int} {a : List Int} {p o : Int} (h : whV B N p ≠ 10631) (hc : ¬ chT B N p 91) : ∀ f, PG B N (f + 1) 5 a p o = bnd (PG B N f 3 [] p o) (gT5 B N o f) := fun f => by rw [pg_5, if_neg h, if_neg hc]; rfl
theorem pt_sb {B : Nat → Int} {N : Int} {a : List Int} {p o : Int} {r : Rd} (h : whV B N p ≠ 10631) (hc : ¬ chT B N p 91) (hr : PGR B N 3 [] p o r) (z : r.1 ≠ 0) : PGR B N 5 a p o r := pgr_bad hr z (pt_se h hc)
theorem pt_sn {B : Nat → Int} {N : Int} {a : List Int} {p o : Int} {r : Rd} (h : whV B N p ≠ 10631) (hc : ¬ chT B N p 91) (hr : PGR B N 3 [] p o r) (z : r.1 = 0) (hd : ¬ rlT B N r.2.2) : PGR B N 5 a p o (1, [], r.2.2) := pgr_b hr (pt_se h hc) (fun q => absurd z q) (fun _ => ⟨(by show (1 : Int) ≠ 9; decide), 0, fun k => if_neg hd⟩)
theorem pt_s2 {B : Nat → Int} {N : Int} {a : List Int} {p o : Int} {r r2 s : Rd} (h : whV B N p ≠ 10631) (hc : ¬ chT B N p 91) (hr : PGR B N 3 [] p o r) (z : r.1 = 0) (hd : rlT B N r.2.2) (h2 : PGR B N 3 [] (sk B N (r.2.2 + 1)) o r2) (es : s = bnd r2 (fun d q => (0, r.2.1 ++ d ++ [opC B r.2.2], q))) : PGR B N 5 a p o s := pgr_2 hr z h2 (pt_se h hc) (fun f => if_pos hd) es (by
  rw [es]; unfold bnd; split
  · show (0 : Int) ≠ 9; decide
  · exact h2.1)
/-- the lesser or the greater of two -/
def gT0 (B : Nat → Int) (N p o : Int) (f : Nat) (c : List Int) (q : Int) : Rd := if ¬ chT B N q 44 then (1, [], q) else bnd (PG B N f 3 [] (sk B N (q + 1)) (o + 1)) (fun d r => if chT B N r 41 then (0, c ++ d ++ [if whV B N p = 6476969 then -13 else -14], sk B N (r + 1)) else (1, [], r))
theorem pu_te {B : Nat → Int} {N : Int} {a : List Int} {p o : Int} (hd : ¬ dgP B N p) (hc : ¬ chT B N p 40) (hw : whV B N p = 6476969 ∨ whV B N p = 267347) (h : chT B N (sk B N (wdE B N p)) 40) (ho : o < 6) : ∀ f, PG B N (f + 1) 0 a p o = bnd (PG B N f 3 [] (sk B N (sk B N (wdE B N p) + 1)) (o + 1)) (gT0 B N p o f) := fun f => by rw [pg_0, if_neg hd, if_neg hc, if_pos hw, if_neg (fun q => q h), if_neg (by first | exact oq_753421c4 ho | omega)]; rfl
theorem pu_tb {B : Nat → Int} {N : Int} {a : List Int} {p o : Int} {r : Rd} (hd : ¬ dgP B N p) (hc : ¬ chT B N p 40) (hw : whV B N p = 6476969 ∨ whV B N p = 267347) (h : chT B N (sk B N (wdE B N p)) 40) (ho : o < 6) (hr : PGR B N 3 [] (sk B N (sk B N (wdE B N p) + 1)) (o + 1) r) (z : r.1 ≠ 0) : PGR B N 0 a p o r := pgr_bad hr z (pu_te hd hc hw h ho)
theorem pu_tn {B : Nat → Int} {N : Int} {a : List Int} {p o : Int} {r : Rd} (hd : ¬ dgP B N p) (hc : ¬ chT B N p 40) (hw : whV B N p = 6476969 ∨ whV B N p = 267347) (h : chT B N (sk B N (wdE B N p)) 40) (ho : o < 6) (hr : PGR B N 3 [] (sk B N (sk B N (wdE B N p) + 1)) (o + 1) r) (z : r.1 = 0) (hk : ¬ chT B N r.2.2 44) : PGR B N 0 a p o (1, [], r.2.2) := pgr_b hr (pu_te hd hc hw h ho) (fun q => absurd z q) (fun _ => ⟨(by show (1 : Int) ≠ 9; decide), 0, fun k => if_pos hk⟩)
theorem pu_t2 {B : Nat → Int} {N : Int} {a : List Int} {p o : Int} {r r2 s : Rd} (hd : ¬ dgP B N p) (hc : ¬ chT B N p 40) (hw : whV B N p = 6476969 ∨ whV B N p = 267347) (h : chT B N (sk B N (wdE B N p)) 40) (ho : o < 6) (hr : PGR B N 3 [] (sk B N (sk B N (wdE B N p) + 1)) (o + 1) r) (z : r.1 = 0) (hk : chT B N r.2.2 44) (h2 : PGR B N 3 [] (sk B N (r.2.2 + 1)) (o + 1) r2) (es : s = bnd r2 (fun d q => if chT B N q 41 then (0, r.2.1 ++ d ++ [if whV B N p = 6476969 then -13 else -14], sk B N (q + 1)) else (1, [], q))) : PGR B N 0 a p o s := pgr_2 hr z h2 (pu_te hd hc hw h ho) (fun f => if_neg (fun q => q hk)) es (by
  rw [es]; unfold bnd
  by_cases y : r2.1 = 0
  · rw [if_pos y]
    dsimp only
    by_cases x : chT B N r2.2.2 41
    · rw [if_pos x]; show (0 : Int) ≠ 9; decide
    · rw [if_neg x]; show (1 : Int) ≠ 9; decide
  · rw [if_neg y]; exact h2.1)
/-! What the model's reading of rules comes to -/
/-- letters at p, if the word there is none of nothing -/
theorem wh_let {B : Nat → Int} {N p : Int} (h : whV B N p ≠ 0) : p < N ∧ 97 ≤ B p.toNat ∧ B p.toNat ≤ 122 := by
  by_cases q : p < N ∧ 97 ≤ B p.toNat ∧ B p.toNat ≤ 122
  · exact q
  · exfalso
    apply h
    unfold whV
    rw [wd_stop (by first | exact oq_1afc2d8d q | omega), if_pos (by first | exact oq_7cc13a9e | omega), show (p - p).toNat = 0 by first | exact oq_b728b332 | omega]
    rfl
theorem nm_wh {B : Nat → Int} {N p : Int} (h : nmC B N p ≠ 0) : whV B N p ≠ 0 ∧ whV B N p ≠ 6476969 ∧ whV B N p ≠ 267347 := by
  unfold nmC at h
  refine ⟨fun q => ?_, fun q => ?_, fun q => ?_⟩ <;> · rw [q] at h; exact h (by decide)
/-- the reading from p on, by mode m with o open, is over in state t: its fault, or where it goes on -/
def OUm (B : Nat → Int) (N : Int) (m : Nat) (p o : Int) (t : PS) : Prop := ∃ r : Rd, PGR B N m [] p o r ∧ ((iI t 79 = 0 ∧ r.1 = 0 ∧ sk B N (iI t 77) = r.2.2) ∨ (iI t 79 ≠ 0 ∧ iI t 79 = r.1))
theorem ou_ok {B : Nat → Int} {N : Int} {m : Nat} {p o q : Int} {c : List Int} {t : PS} (h : PGR B N m [] p o (0, c, q)) (hf : iI t 79 = 0) (hq : sk B N (iI t 77) = q) : OUm B N m p o t := ⟨_, h, Or.inl ⟨hf, rfl, hq⟩⟩
theorem ou_no {B : Nat → Int} {N : Int} {m : Nat} {p o k q : Int} {c : List Int} {t : PS} (h : PGR B N m [] p o (k, c, q)) (hk : k ≠ 0) (hf : iI t 79 = k) : OUm B N m p o t := ⟨_, h, Or.inr ⟨by first | exact oq_f1164398 hf hk | omega, hf⟩⟩
/-- a sign is asked for: it stands there, or that is the fault -/
def SGN (B : Nat → Int) (N c : Int) (s t : PS) : Prop := (chT B N (sk B N (iI s 77)) c ∧ iI t 77 = sk B N (iI s 77) + 1 ∧ iI t 79 = iI s 79) ∨ (¬ chT B N (sk B N (iI s 77)) c ∧ iI t 77 = sk B N (iI s 77) ∧ ((iI s 79 = 0 ∧ iI t 79 = 1) ∨ (iI s 79 ≠ 0 ∧ iI t 79 = iI s 79)))
theorem sg_fa {B : Nat → Int} {N c : Int} {s t : PS} (h : SGN B N c s t) (hf : iI s 79 ≠ 0) : iI t 79 = iI s 79 := by
  rcases h with h | ⟨-, -, h⟩
  · exact h.2.2
  · omega
theorem sg_le {B : Nat → Int} {N c : Int} {s t : PS} (h : SGN B N c s t) (hf : iI t 79 = 0) : iI t 77 ≤ N := by
  rcases h with ⟨h1, h2, -⟩ | ⟨-, -, h⟩
  · have := h1.1; omega
  · omega
theorem ou_par {B : Nat → Int} {N p o : Int} {t u : PS} (h : chT B N p 40) (ho : o < 6) (h1 : OUm B N 3 (sk B N (p + 1)) (o + 1) t) (h2 : SGN B N 41 t u) : OUm B N 0 p o u := by
  obtain ⟨r, r1, r2⟩ := h1
  rcases r2 with ⟨f0, z, q⟩ | ⟨f0, z⟩
  · rcases h2 with ⟨c1, c2, c3⟩ | ⟨c1, c2, c3⟩
    · rw [q] at c1 c2
      exact ou_ok (pu_py h ho r1 z c1) (by first | exact oq_e5e5d3d6 c3 f0 | omega) (by rw [c2])
    · rw [q] at c1 c2
      exact ou_no (pu_pn h ho r1 z c1) (by decide) (by first | exact oq_bb4ee608 c3 f0 | omega)
  · exact ⟨r, pu_pb h ho r1 (by first | exact oq_7ddc24af z f0 | omega), Or.inr ⟨by rw [sg_fa h2 f0]; exact f0, by rw [sg_fa h2 f0]; exact z⟩⟩
theorem ou_two {B : Nat → Int} {N p o : Int} {t u v w : PS} (hd : ¬ dgP B N p) (hc : ¬ chT B N p 40) (hw : whV B N p = 6476969 ∨ whV B N p = 267347) (h : chT B N (sk B N (wdE B N p)) 40) (ho : o < 6) (h1 : OUm B N 3 (sk B N (sk B N (wdE B N p) + 1)) (o + 1) t) (h2 : SGN B N 44 t u) (h3 : (iI u 79 ≠ 0 ∧ iI v 79 = iI u 79) ∨ (iI u 79 = 0 ∧ OUm B N 3 (sk B N (iI u 77)) (o + 1) v)) (h4 : SGN B N 41 v w) : OUm B N 0 p o w := by
  obtain ⟨r, r1, r2⟩ := h1
  rcases r2 with ⟨f0, z, q⟩ | ⟨f0, z⟩
  · rcases h2 with ⟨c1, c2, c3⟩ | ⟨c1, c2, c3⟩
    · rw [q] at c1 c2
      rcases h3 with h3 | ⟨-, s, s1, s2⟩
      · omega
      · rw [c2] at s1
        rcases s2 with ⟨g0, y, k⟩ | ⟨g0, y⟩
        · rcases h4 with ⟨d1, d2, d3⟩ | ⟨d1, d2, d3⟩
          · rw [k] at d1 d2
            refine ⟨_, pu_t2 hd hc hw h ho r1 z c1 s1 rfl, Or.inl ?_⟩
            unfold bnd
            rw [if_pos y]
            dsimp only
            rw [if_pos d1]
            exact ⟨by first | exact oq_e5e5d3d6 d3 g0 | omega, rfl, by rw [d2]⟩
          · rw [k] at d1 d2
            refine ⟨_, pu_t2 hd hc hw h ho r1 z c1 s1 rfl, Or.inr ?_⟩
            unfold bnd
            rw [if_pos y]
            dsimp only
            rw [if_neg d1]
            exact ⟨by first | exact oq_865e80c9 d3 | omega, by omega⟩
        · refine ⟨_, pu_t2 hd hc hw h ho r1 z c1 s1 rfl, Or.inr ?_⟩
          unfold bnd
          rw [if_neg (by first | exact oq_63ed8481 y g0 | omega)]
          exact ⟨by rw [sg_fa h4 g0]; exact g0, by rw [sg_fa h4 g0]; exact y⟩
    · rw [q] at c1 c2
      have f1 : iI u 79 = 1 := by first | exact oq_bb4ee608 c3 f0 | omega
      have f2 : iI v 79 = 1 := by
        rcases h3 with h3 | h3
        · omega
        · omega
      exact ou_no (pu_tn hd hc hw h ho r1 z c1) (by decide) (by rw [sg_fa h4 (by first | exact oq_200e3d34 f2 | omega)]; exact f2)
  · have f1 := sg_fa h2 f0
    have f2 : iI v 79 = iI t 79 := by
      rcases h3 with h3 | h3
      · omega
      · omega
    have f3 := sg_fa h4 (by first | exact oq_f1164398 f2 f0 | omega)
    exact ⟨r, pu_tb hd hc hw h ho r1 (by first | exact oq_7ddc24af z f0 | omega), Or.inr ⟨by first | exact oq_0eda04d6 f3 f2 f0 | omega, by first | exact oq_878618b1 f3 f2 z | omega⟩⟩
/-- a rest that is read: whatever it comes to, the whole comes to -/
def RST (B : Nat → Int) (N : Int) (m w : Nat) (p o : Int) (t : PS) : Prop := (iI t 79 ≠ 0 ∧ OUm B N w p o t) ∨ (iI t 79 = 0 ∧ ∃ a : List Int, ∀ r, PGR B N m a (sk B N (iI t 77)) o r → PGR B N w [] p o r)
theorem rst_mv {B : Nat → Int} {N : Int} {m w : Nat} {p o : Int} {t u : PS} (h : RST B N m w p o t) (ha : sk B N (iI u 77) = sk B N (iI t 77)) (hf : iI u 79 = iI t 79) : RST B N m w p o u := by
  rcases h with ⟨f0, r, r1, r2⟩ | ⟨f0, a, g⟩
  · refine Or.inl ⟨by first | exact oq_af23a26f f0 hf | omega, r, r1, ?_⟩
    rw [hf, ha]; exact r2
  · exact Or.inr ⟨by first | exact oq_a511ac78 f0 hf | omega, a, fun r hr => g r (by rw [← ha]; exact hr)⟩
theorem ou_mv {B : Nat → Int} {N : Int} {m : Nat} {p o : Int} {t u : PS} (h : OUm B N m p o t) (ha : sk B N (iI u 77) = sk B N (iI t 77)) (hf : iI u 79 = iI t 79) : OUm B N m p o u := by
  obtain ⟨r, r1, r2⟩ := h
  exact ⟨r, r1, by rw [hf, ha]; exact r2⟩
theorem rst_fa {B : Nat → Int} {N : Int} {m w : Nat} {p o : Int} {t : PS} (h : RST B N m w p o t) (hf : iI t 79 ≠ 0) : OUm B N w p o t := by
  rcases h with h | h
  · exact h.2
  · exact absurd h.1 hf
theorem rstp_0 {B : Nat → Int} {N p o : Int} {t : PS} (h : OUm B N 0 p o t) : RST B N 2 1 p o t := by
  obtain ⟨r, r1, r2⟩ := h
  rcases r2 with ⟨f0, z, q⟩ | ⟨f0, z⟩
  · exact Or.inr ⟨f0, r.2.1, fun s hs => wp_go r1 z (by rw [← q]; exact hs)⟩
  · exact Or.inl ⟨f0, r, wp_bad r1 (by first | exact oq_7ddc24af z f0 | omega), Or.inr ⟨f0, z⟩⟩
theorem rstp_end {B : Nat → Int} {N p o : Int} {t : PS} (h : RST B N 2 1 p o t) (hf : iI t 79 = 0) (hc : ¬ (chT B N (sk B N (iI t 77)) 42 ∨ chT B N (sk B N (iI t 77)) 47)) : OUm B N 1 p o t := by
  rcases h with h | ⟨f0, a, g⟩
  · exact absurd hf h.1
  · exact ⟨_, g _ (rp_end hc), Or.inl ⟨f0, rfl, rfl⟩⟩
theorem rstp_up {B : Nat → Int} {N p o : Int} {t u : PS} (h : RST B N 2 1 p o t) (hf : iI t 79 = 0) (hc : chT B N (sk B N (iI t 77)) 42 ∨ chT B N (sk B N (iI t 77)) 47) (h1 : OUm B N 0 (sk B N ((sk B N (iI t 77)) + 1)) o u) : RST B N 2 1 p o u := by
  rcases h with h | ⟨f0, a, g⟩
  · exact absurd hf h.1
  · obtain ⟨r, r1, r2⟩ := h1
    rcases r2 with ⟨e0, z, q⟩ | ⟨e0, z⟩
    · exact Or.inr ⟨e0, a ++ r.2.1 ++ [opC B (sk B N (iI t 77))], fun s hs => g s (rp_go hc r1 z (by rw [← q]; exact hs))⟩
    · exact Or.inl ⟨e0, r, g r (rp_bad hc r1 (by first | exact oq_7ddc24af z e0 | omega)), Or.inr ⟨e0, z⟩⟩
theorem rsts_0 {B : Nat → Int} {N p o : Int} {t : PS} (h : OUm B N 1 p o t) : RST B N 4 3 p o t := by
  obtain ⟨r, r1, r2⟩ := h
  rcases r2 with ⟨f0, z, q⟩ | ⟨f0, z⟩
  · exact Or.inr ⟨f0, r.2.1, fun s hs => ws_go r1 z (by rw [← q]; exact hs)⟩
  · exact Or.inl ⟨f0, r, ws_bad r1 (by first | exact oq_7ddc24af z f0 | omega), Or.inr ⟨f0, z⟩⟩
theorem rsts_end {B : Nat → Int} {N p o : Int} {t : PS} (h : RST B N 4 3 p o t) (hf : iI t 79 = 0) (hc : ¬ (chT B N (sk B N (iI t 77)) 43 ∨ chT B N (sk B N (iI t 77)) 45)) : OUm B N 3 p o t := by
  rcases h with h | ⟨f0, a, g⟩
  · exact absurd hf h.1
  · exact ⟨_, g _ (rs_end hc), Or.inl ⟨f0, rfl, rfl⟩⟩
theorem rsts_up {B : Nat → Int} {N p o : Int} {t u : PS} (h : RST B N 4 3 p o t) (hf : iI t 79 = 0) (hc : chT B N (sk B N (iI t 77)) 43 ∨ chT B N (sk B N (iI t 77)) 45) (h1 : OUm B N 1 (sk B N ((sk B N (iI t 77)) + 1)) o u) : RST B N 4 3 p o u := by
  rcases h with h | ⟨f0, a, g⟩
  · exact absurd hf h.1
  · obtain ⟨r, r1, r2⟩ := h1
    rcases r2 with ⟨e0, z, q⟩ | ⟨e0, z⟩
    · exact Or.inr ⟨e0, a ++ r.2.1 ++ [opC B (sk B N (iI t 77))], fun s hs => g s (rs_go hc r1 z (by rw [← q]; exact hs))⟩
    · exact Or.inl ⟨e0, r, g r (rs_bad hc r1 (by first | exact oq_7ddc24af z e0 | omega)), Or.inr ⟨e0, z⟩⟩
theorem rstb_0 {B : Nat → Int} {N p o : Int} {t : PS} (h : OUm B N 5 p o t) : RST B N 7 6 p o t := by
  obtain ⟨r, r1, r2⟩ := h
  rcases r2 with ⟨f0, z, q⟩ | ⟨f0, z⟩
  · exact Or.inr ⟨f0, r.2.1, fun s hs => wb_go r1 z (by rw [← q]; exact hs)⟩
  · exact Or.inl ⟨f0, r, wb_bad r1 (by first | exact oq_7ddc24af z f0 | omega), Or.inr ⟨f0, z⟩⟩
theorem rstb_end {B : Nat → Int} {N p o : Int} {t : PS} (h : RST B N 7 6 p o t) (hf : iI t 79 = 0) (hc : ¬ (whV B N (sk B N (iI t 77)) = 1111)) : OUm B N 6 p o t := by
  rcases h with h | ⟨f0, a, g⟩
  · exact absurd hf h.1
  · exact ⟨_, g _ (rb_end hc), Or.inl ⟨f0, rfl, rfl⟩⟩
theorem rstb_up {B : Nat → Int} {N p o : Int} {t u : PS} (h : RST B N 7 6 p o t) (hf : iI t 79 = 0) (hc : whV B N (sk B N (iI t 77)) = 1111) (h1 : OUm B N 5 (sk B N (wdE B N (sk B N (iI t 77)))) o u) : RST B N 7 6 p o u := by
  rcases h with h | ⟨f0, a, g⟩
  · exact absurd hf h.1
  · obtain ⟨r, r1, r2⟩ := h1
    rcases r2 with ⟨e0, z, q⟩ | ⟨e0, z⟩
    · exact Or.inr ⟨e0, a ++ r.2.1 ++ [-18], fun s hs => g s (rb_go hc r1 z (by rw [← q]; exact hs))⟩
    · exact Or.inl ⟨e0, r, g r (rb_bad hc r1 (by first | exact oq_7ddc24af z e0 | omega)), Or.inr ⟨e0, z⟩⟩
theorem rste_0 {B : Nat → Int} {N p o : Int} {t : PS} (h : OUm B N 6 p o t) : RST B N 9 8 p o t := by
  obtain ⟨r, r1, r2⟩ := h
  rcases r2 with ⟨f0, z, q⟩ | ⟨f0, z⟩
  · exact Or.inr ⟨f0, r.2.1, fun s hs => we_go r1 z (by rw [← q]; exact hs)⟩
  · exact Or.inl ⟨f0, r, we_bad r1 (by first | exact oq_7ddc24af z f0 | omega), Or.inr ⟨f0, z⟩⟩
theorem rste_end {B : Nat → Int} {N p o : Int} {t : PS} (h : RST B N 9 8 p o t) (hf : iI t 79 = 0) (hc : ¬ (whV B N (sk B N (iI t 77)) = 423)) : OUm B N 8 p o t := by
  rcases h with h | ⟨f0, a, g⟩
  · exact absurd hf h.1
  · exact ⟨_, g _ (re_end hc), Or.inl ⟨f0, rfl, rfl⟩⟩
theorem rste_up {B : Nat → Int} {N p o : Int} {t u : PS} (h : RST B N 9 8 p o t) (hf : iI t 79 = 0) (hc : whV B N (sk B N (iI t 77)) = 423) (h1 : OUm B N 6 (sk B N (wdE B N (sk B N (iI t 77)))) o u) : RST B N 9 8 p o u := by
  rcases h with h | ⟨f0, a, g⟩
  · exact absurd hf h.1
  · obtain ⟨r, r1, r2⟩ := h1
    rcases r2 with ⟨e0, z, q⟩ | ⟨e0, z⟩
    · exact Or.inr ⟨e0, a ++ r.2.1 ++ [-19], fun s hs => g s (re_go hc r1 z (by rw [← q]; exact hs))⟩
    · exact Or.inl ⟨e0, r, g r (re_bad hc r1 (by first | exact oq_7ddc24af z e0 | omega)), Or.inr ⟨e0, z⟩⟩
/-- tests -/
theorem ou_not {B : Nat → Int} {N p o : Int} {t : PS} (h : whV B N p = 10631) (ho : o < 6) (h1 : OUm B N 5 (sk B N (wdE B N p)) (o + 1) t) : OUm B N 5 p o t := by
  obtain ⟨r, r1, r2⟩ := h1
  rcases r2 with ⟨f0, z, q⟩ | ⟨f0, z⟩
  · exact ou_ok (pt_ny h ho r1 z) f0 q
  · exact ⟨r, pt_nb h ho r1 (by first | exact oq_7ddc24af z f0 | omega), Or.inr ⟨f0, z⟩⟩
theorem ou_brk {B : Nat → Int} {N p o : Int} {t u : PS} (h : whV B N p ≠ 10631) (hc : chT B N p 91) (ho : o < 6) (h1 : OUm B N 8 (sk B N (p + 1)) (o + 1) t) (h2 : SGN B N 93 t u) : OUm B N 5 p o u := by
  obtain ⟨r, r1, r2⟩ := h1
  rcases r2 with ⟨f0, z, q⟩ | ⟨f0, z⟩
  · rcases h2 with ⟨c1, c2, c3⟩ | ⟨c1, c2, c3⟩
    · rw [q] at c1 c2
      exact ou_ok (pt_by h hc ho r1 z c1) (by first | exact oq_e5e5d3d6 c3 f0 | omega) (by rw [c2])
    · rw [q] at c1 c2
      exact ou_no (pt_bn h hc ho r1 z c1) (by decide) (by first | exact oq_bb4ee608 c3 f0 | omega)
  · exact ⟨r, pt_bb h hc ho r1 (by first | exact oq_7ddc24af z f0 | omega), Or.inr ⟨by rw [sg_fa h2 f0]; exact f0, by rw [sg_fa h2 f0]; exact z⟩⟩
theorem ou_sb {B : Nat → Int} {N p o : Int} {t u : PS} (h : whV B N p ≠ 10631) (hc : ¬ chT B N p 91) (h1 : OUm B N 3 p o t) (f0 : iI t 79 ≠ 0) (hu : iI u 79 = iI t 79) : OUm B N 5 p o u := by
  obtain ⟨r, r1, r2⟩ := h1
  rcases r2 with r2 | ⟨-, z⟩
  · exact absurd r2.1 f0
  · exact ⟨r, pt_sb h hc r1 (by first | exact oq_7ddc24af z f0 | omega), Or.inr ⟨by first | exact oq_f1164398 hu f0 | omega, by first | exact oq_27118732 z hu | omega⟩⟩
theorem ou_sn {B : Nat → Int} {N p o : Int} {t u : PS} (h : whV B N p ≠ 10631) (hc : ¬ chT B N p 91) (h1 : OUm B N 3 p o t) (f0 : iI t 79 = 0) (hd : ¬ rlT B N (sk B N (iI t 77))) (hu : iI u 79 = 1) : OUm B N 5 p o u := by
  obtain ⟨r, r1, r2⟩ := h1
  rcases r2 with ⟨-, z, q⟩ | r2
  · rw [q] at hd
    exact ou_no (pt_sn h hc r1 z hd) (by decide) hu
  · exact absurd f0 r2.1
theorem ou_s2 {B : Nat → Int} {N p o : Int} {t u : PS} (h : whV B N p ≠ 10631) (hc : ¬ chT B N p 91) (h1 : OUm B N 3 p o t) (f0 : iI t 79 = 0) (hd : rlT B N (sk B N (iI t 77))) (h2 : OUm B N 3 (sk B N (sk B N (iI t 77) + 1)) o u) : OUm B N 5 p o u := by
  obtain ⟨r, r1, r2⟩ := h1
  obtain ⟨s, s1, s2⟩ := h2
  rcases r2 with ⟨-, z, q⟩ | r2
  · rw [q] at hd s1
    refine ⟨_, pt_s2 h hc r1 z hd s1 rfl, ?_⟩
    unfold bnd
    rcases s2 with ⟨g0, y, k⟩ | ⟨g0, y⟩
    · rw [if_pos y]; exact Or.inl ⟨g0, rfl, k⟩
    · rw [if_neg (by first | exact oq_63ed8481 y g0 | omega)]; exact Or.inr ⟨g0, y⟩
  · exact absurd f0 r2.1
/-- how the methods that read tell of it: with a fault ahead of it nothing is read -/
def PFm (B : Nat → Int) (N : Int) (m : Nat) (s t : PS) : Prop := (iI s 79 ≠ 0 ∧ iI t 79 = iI s 79) ∨ (iI s 79 = 0 ∧ OUm B N m (sk B N (iI s 77)) (iI s 78) t)
theorem pf_fa {B : Nat → Int} {N : Int} {m : Nat} {s t : PS} (h : PFm B N m s t) (hf : iI s 79 ≠ 0) : iI t 79 = iI s 79 := by
  rcases h with h | h
  · exact h.2
  · exact absurd h.1 hf
theorem pf_ou {B : Nat → Int} {N : Int} {m : Nat} {s t : PS} (h : PFm B N m s t) (hf : iI s 79 = 0) : OUm B N m (sk B N (iI s 77)) (iI s 78) t := by
  rcases h with h | h
  · exact absurd hf h.1
  · exact h.2
theorem ou_parF {B : Nat → Int} {N p o : Int} {a b c : PS} (h : chT B N p 40) (o6 : o ≤ 6) (ho : (o = 6 ∧ iI a 79 = 3) ∨ (o ≠ 6 ∧ iI a 79 = 0)) (hA : iI a 77 = p + 1) (hP : iI a 78 = o + 1) (h1 : PFm B N 3 a b) (h2 : SGN B N 41 b c) : OUm B N 0 p o c := by
  rcases ho with ⟨q, f⟩ | ⟨q, f⟩
  · have f1 := pf_fa h1 (by first | exact oq_c83cf5ac f | omega)
    exact ou_no (pu_p3 h (by first | exact oq_3820d822 q | omega)) (by decide) (by rw [sg_fa h2 (by first | exact oq_85fecb36 f1 f | omega)]; omega)
  · have h3 := pf_ou h1 f
    rw [hA, hP] at h3
    exact ou_par h (by first | exact oq_57cf871a q o6 | omega) h3 h2
theorem ou_twoF {B : Nat → Int} {N p o : Int} {a b c d e : PS} (hd : ¬ dgP B N p) (hc : ¬ chT B N p 40) (hw : whV B N p = 6476969 ∨ whV B N p = 267347) (h : chT B N (sk B N (wdE B N p)) 40) (o6 : o ≤ 6) (ho : (o = 6 ∧ iI a 79 = 3) ∨ (o ≠ 6 ∧ iI a 79 = 0)) (hA : iI a 77 = sk B N (wdE B N p) + 1) (hP : iI a 78 = o + 1) (h1 : PFm B N 3 a b) (h2 : SGN B N 44 b c) (hPc : iI c 78 = o + 1) (h3 : PFm B N 3 c d) (h4 : SGN B N 41 d e) : OUm B N 0 p o e := by
  rcases ho with ⟨q, f⟩ | ⟨q, f⟩
  · have f1 := pf_fa h1 (by first | exact oq_c83cf5ac f | omega)
    have f2 := sg_fa h2 (by first | exact oq_85fecb36 f1 f | omega)
    have f3 := pf_fa h3 (by first | exact oq_bebd6b56 f2 f1 f | omega)
    exact ou_no (pu_t3 hd hc hw h (by first | exact oq_3820d822 q | omega)) (by decide) (by rw [sg_fa h4 (by first | exact oq_58135180 f3 f2 f1 f | omega)]; omega)
  · have g1 := pf_ou h1 f
    rw [hA, hP] at g1
    refine ou_two hd hc hw h (by first | exact oq_57cf871a q o6 | omega) g1 h2 ?_ h4
    rcases h3 with h3 | h3
    · exact Or.inl h3
    · rw [hPc] at h3; exact Or.inr h3
theorem ou_num {B : Nat → Int} {N p o e : Int} {t : PS} (h : dgP B N p) (he : e = nmV B N p 0) (ha : iI t 77 = nmE B N p 0) (hf : (0 ≤ e ∧ e ≤ 999 ∧ iI t 79 = 0) ∨ ((e < 0 ∨ 999 < e) ∧ iI t 79 = 2)) : OUm B N 0 p o t := by
  have n0 := nmV_nn (B := B) (N := N) (p := p)
  rcases hf with ⟨h1, h2, h3⟩ | ⟨h1, h2⟩
  · exact ou_ok (pu_num h (by first | exact oq_5d54bdf4 h2 he | omega)) h3 (by rw [ha])
  · exact ou_no (pu_big h (by first | exact oq_941838ef h1 n0 he | omega)) (by decide) h2
theorem ou_nam {B : Nat → Int} {N p o : Int} {t : PS} (h : nmC B N p ≠ 0) (ha : iI t 77 = wdE B N p) (hf : iI t 79 = 0) : OUm B N 0 p o t := by
  have h1 := nm_wh h
  have h2 := wh_let h1.1
  exact ou_ok (pu_nam (by omega) (by omega) (by first | exact oq_afee10a7 h1.2.2 h1.2.1 | omega) h) hf (by rw [ha])
theorem ou_nop {B : Nat → Int} {N p o : Int} {t : PS} (hd : ¬ dgP B N p) (hc : ¬ chT B N p 40) (hw : ¬ (whV B N p = 6476969 ∨ whV B N p = 267347)) (h : nmC B N p = 0) (hf : iI t 79 = 1) : OUm B N 0 p o t := ou_no (pu_no hd hc hw h) (by decide) hf
theorem ou_nop2 {B : Nat → Int} {N p o : Int} {t : PS} (hw : whV B N p = 6476969 ∨ whV B N p = 267347) (h : ¬ chT B N (sk B N (wdE B N p)) 40) (hf : iI t 79 = 1) : OUm B N 0 p o t := by
  have h2 := wh_let (show whV B N p ≠ 0 by first | exact oq_cd2e02de hw | omega)
  exact ou_no (pu_t1 (by omega) (by omega) hw h) (by decide) hf
/-- a loop over a rest: s ahead of the whole, t at the loop's head -/
def PRm (B : Nat → Int) (N : Int) (m w : Nat) (s t : PS) : Prop := (iI s 79 ≠ 0 ∧ iI t 79 = iI s 79) ∨ (iI s 79 = 0 ∧ RST B N m w (sk B N (iI s 77)) (iI s 78) t)
theorem prm_mv {B : Nat → Int} {N : Int} {m w : Nat} {s t u : PS} (h : PRm B N m w s t) (ha : sk B N (iI u 77) = sk B N (iI t 77)) (hf : iI u 79 = iI t 79) : PRm B N m w s u := by
  rcases h with h | h
  · exact Or.inl ⟨h.1, by first | exact oq_27118732 h.2 hf | omega⟩
  · exact Or.inr ⟨h.1, rst_mv h.2 ha hf⟩
theorem prm_fa {B : Nat → Int} {N : Int} {m w : Nat} {s t : PS} (h : PRm B N m w s t) (hf : iI t 79 ≠ 0) : PFm B N w s t := by
  rcases h with h | h
  · exact Or.inl h
  · exact Or.inr ⟨h.1, rst_fa h.2 hf⟩
theorem prmp_0 {B : Nat → Int} {N : Int} {s t : PS} (h : PFm B N 0 s t) : PRm B N 2 1 s t := by
  rcases h with h | h
  · exact Or.inl h
  · exact Or.inr ⟨h.1, rstp_0 h.2⟩
theorem prmp_end {B : Nat → Int} {N : Int} {s t : PS} (h : PRm B N 2 1 s t) (hf : iI t 79 = 0) (hc : ¬ (chT B N (sk B N (iI t 77)) 42 ∨ chT B N (sk B N (iI t 77)) 47)) : PFm B N 1 s t := by
  rcases h with h | h
  · exact absurd h.2 (by first | exact oq_46b4b3a3 h.2 h.1 hf | omega)
  · exact Or.inr ⟨h.1, rstp_end h.2 hf hc⟩
theorem prmp_up {B : Nat → Int} {N : Int} {s t a u : PS} (h : PRm B N 2 1 s t) (hf : iI t 79 = 0) (hc : chT B N (sk B N (iI t 77)) 42 ∨ chT B N (sk B N (iI t 77)) 47) (hA : sk B N (iI a 77) = sk B N ((sk B N (iI t 77)) + 1)) (hF : iI a 79 = 0) (hO : iI a 78 = iI s 78) (h1 : PFm B N 0 a u) : PRm B N 2 1 s u := by
  rcases h with h | h
  · exact absurd h.2 (by first | exact oq_46b4b3a3 h.2 h.1 hf | omega)
  · have h2 := pf_ou h1 hF
    rw [hA, hO] at h2
    exact Or.inr ⟨h.1, rstp_up h.2 hf hc h2⟩
theorem prms_0 {B : Nat → Int} {N : Int} {s t : PS} (h : PFm B N 1 s t) : PRm B N 4 3 s t := by
  rcases h with h | h
  · exact Or.inl h
  · exact Or.inr ⟨h.1, rsts_0 h.2⟩
theorem prms_end {B : Nat → Int} {N : Int} {s t : PS} (h : PRm B N 4 3 s t) (hf : iI t 79 = 0) (hc : ¬ (chT B N (sk B N (iI t 77)) 43 ∨ chT B N (sk B N (iI t 77)) 45)) : PFm B N 3 s t := by
  rcases h with h | h
  · exact absurd h.2 (by first | exact oq_46b4b3a3 h.2 h.1 hf | omega)
  · exact Or.inr ⟨h.1, rsts_end h.2 hf hc⟩
theorem prms_up {B : Nat → Int} {N : Int} {s t a u : PS} (h : PRm B N 4 3 s t) (hf : iI t 79 = 0) (hc : chT B N (sk B N (iI t 77)) 43 ∨ chT B N (sk B N (iI t 77)) 45) (hA : sk B N (iI a 77) = sk B N ((sk B N (iI t 77)) + 1)) (hF : iI a 79 = 0) (hO : iI a 78 = iI s 78) (h1 : PFm B N 1 a u) : PRm B N 4 3 s u := by
  rcases h with h | h
  · exact absurd h.2 (by first | exact oq_46b4b3a3 h.2 h.1 hf | omega)
  · have h2 := pf_ou h1 hF
    rw [hA, hO] at h2
    exact Or.inr ⟨h.1, rsts_up h.2 hf hc h2⟩
theorem prmb_0 {B : Nat → Int} {N : Int} {s t : PS} (h : PFm B N 5 s t) : PRm B N 7 6 s t := by
  rcases h with h | h
  · exact Or.inl h
  · exact Or.inr ⟨h.1, rstb_0 h.2⟩
theorem prmb_end {B : Nat → Int} {N : Int} {s t : PS} (h : PRm B N 7 6 s t) (hf : iI t 79 = 0) (hc : ¬ (whV B N (sk B N (iI t 77)) = 1111)) : PFm B N 6 s t := by
  rcases h with h | h
  · exact absurd h.2 (by first | exact oq_46b4b3a3 h.2 h.1 hf | omega)
  · exact Or.inr ⟨h.1, rstb_end h.2 hf hc⟩
theorem prmb_up {B : Nat → Int} {N : Int} {s t a u : PS} (h : PRm B N 7 6 s t) (hf : iI t 79 = 0) (hc : whV B N (sk B N (iI t 77)) = 1111) (hA : sk B N (iI a 77) = sk B N (wdE B N (sk B N (iI t 77)))) (hF : iI a 79 = 0) (hO : iI a 78 = iI s 78) (h1 : PFm B N 5 a u) : PRm B N 7 6 s u := by
  rcases h with h | h
  · exact absurd h.2 (by first | exact oq_46b4b3a3 h.2 h.1 hf | omega)
  · have h2 := pf_ou h1 hF
    rw [hA, hO] at h2
    exact Or.inr ⟨h.1, rstb_up h.2 hf hc h2⟩
theorem prme_0 {B : Nat → Int} {N : Int} {s t : PS} (h : PFm B N 6 s t) : PRm B N 9 8 s t := by
  rcases h with h | h
  · exact Or.inl h
  · exact Or.inr ⟨h.1, rste_0 h.2⟩
theorem prme_end {B : Nat → Int} {N : Int} {s t : PS} (h : PRm B N 9 8 s t) (hf : iI t 79 = 0) (hc : ¬ (whV B N (sk B N (iI t 77)) = 423)) : PFm B N 8 s t := by
  rcases h with h | h
  · exact absurd h.2 (by first | exact oq_46b4b3a3 h.2 h.1 hf | omega)
  · exact Or.inr ⟨h.1, rste_end h.2 hf hc⟩
theorem prme_up {B : Nat → Int} {N : Int} {s t a u : PS} (h : PRm B N 9 8 s t) (hf : iI t 79 = 0) (hc : whV B N (sk B N (iI t 77)) = 423) (hA : sk B N (iI a 77) = sk B N (wdE B N (sk B N (iI t 77)))) (hF : iI a 79 = 0) (hO : iI a 78 = iI s 78) (h1 : PFm B N 6 a u) : PRm B N 9 8 s u := by
  rcases h with h | h
  · exact absurd h.2 (by first | exact oq_46b4b3a3 h.2 h.1 hf | omega)
  · have h2 := pf_ou h1 hF
    rw [hA, hO] at h2
    exact Or.inr ⟨h.1, rste_up h.2 hf hc h2⟩
theorem ou_notF {B : Nat → Int} {N p o : Int} {a b : PS} (h : whV B N p = 10631) (o6 : o ≤ 6) (ho : (o = 6 ∧ iI a 79 = 3) ∨ (o ≠ 6 ∧ iI a 79 = 0)) (hA : iI a 77 = wdE B N p) (hP : iI a 78 = o + 1) (h1 : PFm B N 5 a b) : OUm B N 5 p o b := by
  rcases ho with ⟨q, f⟩ | ⟨q, f⟩
  · have f1 := pf_fa h1 (by first | exact oq_c83cf5ac f | omega)
    exact ou_no (pt_n3 h (by first | exact oq_3820d822 q | omega)) (by decide) (by first | exact oq_0f86e900 f1 f | omega)
  · have h3 := pf_ou h1 f
    rw [hA, hP] at h3
    exact ou_not h (by first | exact oq_57cf871a q o6 | omega) h3
theorem ou_brkF {B : Nat → Int} {N p o : Int} {a b c : PS} (h : whV B N p ≠ 10631) (hc : chT B N p 91) (o6 : o ≤ 6) (ho : (o = 6 ∧ iI a 79 = 3) ∨ (o ≠ 6 ∧ iI a 79 = 0)) (hA : iI a 77 = p + 1) (hP : iI a 78 = o + 1) (h1 : PFm B N 8 a b) (h2 : SGN B N 93 b c) : OUm B N 5 p o c := by
  rcases ho with ⟨q, f⟩ | ⟨q, f⟩
  · have f1 := pf_fa h1 (by first | exact oq_c83cf5ac f | omega)
    exact ou_no (pt_b3 h hc (by first | exact oq_3820d822 q | omega)) (by decide) (by rw [sg_fa h2 (by first | exact oq_85fecb36 f1 f | omega)]; omega)
  · have h3 := pf_ou h1 f
    rw [hA, hP] at h3
    exact ou_brk h hc (by first | exact oq_57cf871a q o6 | omega) h3 h2
theorem ou_cmpF {B : Nat → Int} {N p o : Int} {s a b c d : PS} (h : whV B N p ≠ 10631) (hc : ¬ chT B N p 91) (h1 : PFm B N 3 s a) (hs : iI s 79 = 0) (hp : sk B N (iI s 77) = p) (ho : iI s 78 = o) (hb : iI b 77 = sk B N (iI a 77)) (hbf : iI b 79 = iI a 79) (hc1 : (rlT B N (iI b 77) ∧ iI c 79 = iI b 79) ∨ (¬ rlT B N (iI b 77) ∧ ((iI b 79 = 0 ∧ iI c 79 = 1) ∨ (iI b 79 ≠ 0 ∧ iI c 79 = iI b 79)))) (hcA : iI c 77 = iI b 77 + 1) (hcO : iI c 78 = o) (h2 : PFm B N 3 c d) : OUm B N 5 p o d := by
  have g1 := pf_ou h1 hs
  rw [hp, ho] at g1
  by_cases f : iI a 79 = 0
  · rcases hc1 with ⟨r, q⟩ | ⟨r, q⟩
    · rw [hb] at r hcA
      have g2 := pf_ou h2 (by first | exact oq_01c429aa q f hbf | omega)
      rw [hcA, hcO] at g2
      exact ou_s2 h hc g1 f r g2
    · rw [hb] at r
      have f1 : iI c 79 = 1 := by first | exact oq_6a63d7a5 q f hbf | omega
      have f2 := pf_fa h2 (by first | exact oq_200e3d34 f1 | omega)
      exact ou_sn h hc g1 f r (by first | exact oq_5597108e f2 f1 | omega)
  · have f1 : iI c 79 = iI a 79 := by
      rcases hc1 with ⟨-, q⟩ | ⟨-, q⟩
      · omega
      · omega
    have f2 := pf_fa h2 (by first | exact oq_1f6b3751 f1 f | omega)
    exact ou_sb h hc g1 f (by first | exact oq_1aa5be9e f2 f1 | omega)
/-- words of one number have one length -/
theorem whP_lo {B : Nat → Int} {p : Int} : ∀ n : Nat, (∀ i : Nat, i < n + 1 → 97 ≤ B (p + i).toNat) → (27 : Int) ^ n ≤ whP B p (n + 1)
  | 0, h => by
    have := h 0 (by first | exact oq_dd0832a4 | omega)
    show (1 : Int) ≤ 27 * 0 + B (p + (0 : Nat)).toNat - 96
    omega
  | n + 1, h => by
    have h1 := whP_lo (B := B) (p := p) n (fun i hi => h i (by first | exact oq_ea1615f9 hi | omega))
    have h2 := h (n + 1) (by first | exact oq_6af353b5 | omega)
    have e : (27 : Int) ^ (n + 1) = 27 * 27 ^ n := by rw [Int.pow_succ, Int.mul_comm]
    show (27 : Int) ^ (n + 1) ≤ 27 * whP B p (n + 1) + B (p + ((n + 1 : Nat) : Int)).toNat - 96
    rw [e]
    omega
/-- a unit where ways meet: behind the word, behind the sign that opens, ahead of the one that shuts -/
def UQ1 (B : Nat → Int) (N p : Int) (t : PS) (il im : Int) : Prop := ¬ dgP B N p ∧ nmC B N p = 0 ∧ ((il = 0 ∧ im = 0 ∧ iI t 77 = p ∧ ¬ (whV B N p = 6476969 ∨ whV B N p = 267347)) ∨ ((il = 1 ∨ im = 1) ∧ iI t 77 = wdE B N p ∧ (whV B N p = 6476969 ∨ whV B N p = 267347)))
def UQ2 (B : Nat → Int) (N p : Int) (t : PS) (il im : Int) : Prop := ¬ dgP B N p ∧ ((il = 0 ∧ im = 0 ∧ chT B N p 40 ∧ iI t 77 = p + 1) ∨ ((il = 1 ∨ im = 1) ∧ (whV B N p = 6476969 ∨ whV B N p = 267347) ∧ chT B N (sk B N (wdE B N p)) 40 ∧ iI t 77 = sk B N (wdE B N p) + 1))
def UQ3 (B : Nat → Int) (N p o : Int) (t : PS) : Prop := ∀ u, SGN B N 41 t u → OUm B N 0 p o u
theorem wh_no {B : Nat → Int} {N p : Int} (hw : whV B N p = 6476969 ∨ whV B N p = 267347) : ¬ chT B N p 40 := fun q => by
  have z := wh_let (show whV B N p ≠ 0 by first | exact oq_cd2e02de hw | omega)
  omega
/-- the number of a word of letters x1 .. x6 (0: no more) -/
def wdH (x1 x2 x3 x4 x5 x6 : Int) : Int := (fun v : Int => (fun v : Int => (fun v : Int => if x6 = 0 then v else 27 * v + x6) (if x5 = 0 then v else 27 * v + x5)) (if x4 = 0 then v else 27 * v + x4)) (if x3 = 0 then 27 * x1 + x2 else 27 * (27 * x1 + x2) + x3)
theorem whP_bd {B : Nat → Int} {p : Int} : ∀ n : Nat, (∀ i : Nat, i < n → 97 ≤ B (p + i).toNat ∧ B (p + i).toNat ≤ 122) → 0 ≤ whP B p n ∧ whP B p n < 27 ^ n
  | 0, _ => ⟨Int.le_refl 0, by show (0 : Int) < 27 ^ 0; decide⟩
  | n + 1, h => by
    have h1 := whP_bd (B := B) (p := p) n (fun i hi => h i (by first | exact oq_9165f1af hi | omega))
    have h2 := h n (by first | exact oq_626cdfd6 | omega)
    have e : (27 : Int) ^ (n + 1) = 27 * 27 ^ n := by rw [Int.pow_succ, Int.mul_comm]
    show 0 ≤ 27 * whP B p n + B (p + n).toNat - 96 ∧ 27 * whP B p n + B (p + n).toNat - 96 < 27 ^ (n + 1)
    rw [e]
    omega
/-- n letters stand at p: v is their number, as the model makes it -/
def WHQ (B : Nat → Int) (N p n v : Int) : Prop := (∀ i : Nat, (i : Int) < n → p + i < N ∧ 97 ≤ B (p + i).toNat ∧ B (p + i).toNat ≤ 122) ∧ wdE B N (p + n) = wdE B N p ∧ v = whP B p (if n ≤ 6 then n else 6).toNat
theorem whq_0 {B : Nat → Int} {N p : Int} : WHQ B N p 0 0 := ⟨fun i hi => by first | exact And.intro (oq_48b85e60 hi) (And.intro (oq_804032b0 hi) (oq_4325ccbb hi)) | omega, by rw [Int.add_zero], rfl⟩
theorem whq_rng {B : Nat → Int} {N p n v : Int} (h : WHQ B N p n v) (h0 : 0 ≤ n) : 0 ≤ v ∧ (n ≤ 5 → v < 14348907) ∧ v < 387420489 := by
  obtain ⟨h1, -, h3⟩ := h
  have a := whP_bd (B := B) (p := p) (if n ≤ 6 then n else 6).toNat (fun i hi => (h1 i (by split at hi <;> omega)).2)
  rw [← h3] at a
  have m : ∀ k : Nat, k ≤ 6 → (27 : Int) ^ k ≤ 387420489 := by decide
  have m5 : ∀ k : Nat, k ≤ 5 → (27 : Int) ^ k ≤ 14348907 := by decide
  refine ⟨a.1, fun q => ?_, ?_⟩
  · have := m5 (if n ≤ 6 then n else 6).toNat (by split <;> omega)
    omega
  · have := m (if n ≤ 6 then n else 6).toNat (by split <;> omega)
    omega
theorem whq_up {B : Nat → Int} {N p n v e c : Int} (h : WHQ B N p n v) (h0 : 0 ≤ n) (hl : p + n < N) (hc : c = B (p + n).toNat) (c1 : 97 ≤ c) (c2 : c ≤ 122) (he : (n < 6 ∧ e = 27 * v + c - 97 + 1) ∨ (6 ≤ n ∧ e = v)) : WHQ B N p (n + 1) e := by
  obtain ⟨h1, h2, h3⟩ := h
  refine ⟨fun i hi => ?_, ?_, ?_⟩
  · by_cases z : (i : Int) = n
    · rw [z, ← hc]; exact ⟨hl, c1, c2⟩
    · exact h1 i (by first | exact oq_0bb9eb65 z hi | omega)
  · rw [← h2, show p + (n + 1) = p + n + 1 by first | exact oq_fbcfb2d7 | omega, ← wd_let hl (by rw [← hc]; exact c1) (by rw [← hc]; exact c2)]
  · rcases he with ⟨q, he⟩ | ⟨q, he⟩
    · rw [if_pos (by first | exact oq_5bf54478 q | omega), show (n + 1).toNat = n.toNat + 1 by first | exact oq_c30340c4 h0 | omega]
      show e = 27 * whP B p n.toNat + B (p + n.toNat).toNat - 96
      rw [if_pos (by first | exact oq_e14e69fc q | omega)] at h3
      rw [he, h3, show ((n.toNat : Nat) : Int) = n by first | exact oq_94c0d625 h0 | omega, ← hc]
      omega
    · rw [if_neg (by first | exact oq_1f0d5a1c q | omega), he, h3]
      by_cases z : n = 6
      · rw [z]; rfl
      · rw [if_neg (by first | exact oq_ee3e227f z q | omega)]
theorem whq_end {B : Nat → Int} {N p n v e : Int} (h : WHQ B N p n v) (h0 : 0 ≤ n) (hs : N ≤ p + n ∨ B (p + n).toNat < 97 ∨ 122 < B (p + n).toNat) (he : (6 < n ∧ e = -1) ∨ (n ≤ 6 ∧ e = v)) : e = whV B N p := by
  obtain ⟨-, h2, h3⟩ := h
  rw [wd_stop hs] at h2
  unfold whV
  rw [← h2, show p + n - p = n by first | exact oq_bf615b4b | omega]
  rcases he with ⟨q, he⟩ | ⟨q, he⟩
  · rw [if_neg (by first | exact oq_c52cd419 q | omega)]; exact he
  · rw [if_pos q, he, h3, if_pos q]
theorem wh_not {B : Nat → Int} {N p : Int} (h : whV B N p = 10631) : wdE B N p = p + 3 := by
  have h0 := wd_le (B := B) (N := N) (p := p)
  have hl : ∀ i : Nat, (i : Int) < wdE B N p - p → 97 ≤ B (p + i).toNat ∧ B (p + i).toNat ≤ 122 := fun i hi => (wd_in (B := B) (N := N) (p := p) _ (Nat.le_refl _) (q := p + i) (by first | exact oq_fd0b8ed9 | omega) (by first | exact oq_a8fdfb76 hi | omega)).2
  unfold whV at h
  by_cases c : wdE B N p - p ≤ 6
  · rw [if_pos c] at h
    generalize hn : (wdE B N p - p).toNat = n at h
    have hb := whP_bd (B := B) (p := p) n (fun i hi => hl i (by first | exact oq_7955800a hi hn | omega))
    rw [h] at hb
    have n6 : n ≤ 6 := by first | exact oq_8a50e89b hn c | omega
    rcases (show n = 0 ∨ n = 1 ∨ n = 2 ∨ n = 3 ∨ 4 ≤ n by first | exact oq_0271441b | omega) with e | e | e | e | e
    · rw [e] at hb; exact absurd hb.2 (by decide)
    · rw [e] at hb; exact absurd hb.2 (by decide)
    · rw [e] at hb; exact absurd hb.2 (by decide)
    · omega
    · obtain ⟨m, rfl⟩ : ∃ m, n = m + 1 := ⟨n - 1, by first | exact oq_8ff33762 e | omega⟩
      have ha := whP_lo (B := B) (p := p) m (fun i hi => (hl i (by first | exact oq_943fcf09 hi hn | omega)).1)
      rw [h] at ha
      have mm : ∀ k : Nat, k ≤ 5 → 3 ≤ k → (19683 : Int) ≤ 27 ^ k := by decide
      have := mm m (by first | exact oq_ac107921 n6 | omega) (by first | exact oq_b3cf261e e | omega)
      omega
  · rw [if_neg c] at h
    exact absurd h (by decide)
theorem nmc_0 {B : Nat → Int} {N p : Int} (h : whV B N p = 454132) : nmC B N p = -1 := by unfold nmC; rw [h]; rfl
theorem nmc_1 {B : Nat → Int} {N p : Int} (h : whV B N p = 1960084) : nmC B N p = -2 := by unfold nmC; rw [h]; rfl
theorem nmc_2 {B : Nat → Int} {N p : Int} (h : whV B N p = 311436) : nmC B N p = -3 := by unfold nmC; rw [h]; rfl
theorem nmc_3 {B : Nat → Int} {N p : Int} (h : whV B N p = 1837433) : nmC B N p = -4 := by unfold nmC; rw [h]; rfl
theorem nmc_4 {B : Nat → Int} {N p : Int} (h : whV B N p = 1701829) : nmC B N p = -5 := by unfold nmC; rw [h]; rfl
theorem nmc_5 {B : Nat → Int} {N p : Int} (h : whV B N p = 9176) : nmC B N p = -6 := by unfold nmC; rw [h]; rfl
theorem nmc_6 {B : Nat → Int} {N p : Int} (h : whV B N p = 234466237) : nmC B N p = -7 := by unfold nmC; rw [h]; rfl
theorem nmc_n {B : Nat → Int} {N p : Int} (h0 : whV B N p ≠ 454132) (h1 : whV B N p ≠ 1960084) (h2 : whV B N p ≠ 311436) (h3 : whV B N p ≠ 1837433) (h4 : whV B N p ≠ 1701829) (h5 : whV B N p ≠ 9176) (h6 : whV B N p ≠ 234466237) : nmC B N p = 0 := by unfold nmC; rw [if_neg h0, if_neg h1, if_neg h2, if_neg h3, if_neg h4, if_neg h5, if_neg h6]
section M87g
variable {l : Launch} {s0 : State} {D : va_G} {tys : List (ClassId × FieldType)} {a0 : Array Value} {A : Nat → Nat} {dT : Nat → ClassId} {s : PS}
set_option maxRecDepth 4000 in
theorem k_wrong3 (G : GX l s0 D tys a0 dT) (I : Bd s) {x y : Int} (p0 : 1 ≤ x ∧ x ≤ 9) (p1 : -1 ≤ y ∧ y ≤ 400) : CT l s0 D A dT 194 (rmN 194) [.ref (A 179), .int (Int32.ofInt x), .int (Int32.ofInt y)] s (fun o t => Bd t ∧ Fm [79, 80] [] s t ∧ o = .inl none ∧ ((iI s 79 = 0 ∧ iI t 79 = x) ∨ (iI s 79 ≠ 0 ∧ iI t 79 = iI s 79))) := by
  refine ct_of G (by decide) (Nat.le_of_ble_eq_true rfl) (fun k X E hRt hXt q => ?_)
  show WS k 0 [(0, .ref (A 179)), (1, .int (Int32.ofInt x)), (2, .int (Int32.ofInt y))] [] _ 0 0
  have F : Fm [79, 80] [] s s := fm_rf _ _ s
  have b1 := bi_79 I
  refine z_aload_n X (x := A 179) rfl (List.Mem.head _) (z_getI X 179 rfl (c518_ok rfl) rfl rfl ?_)
  have b2 := bi_79 I
  refine z_if_ne X (t := 17) rfl rfl (rng_to _) (fun g3 => ?_) (fun g3 => ?_)
  ·
    exact w_vret X.1 q hRt (ax_d X (show cdA 194 17 = some (.return_, 1, 0, 0, 0) from rfl)) (Nat.zero_le _) (Nat.zero_le _) ⟨_, rfl, I, F, rfl, by first | exact Or.inr (And.intro (g3) (by decide)) | exact Or.inr (And.intro (g3) (rfl)) | omega⟩
  ·
    refine z_aload_n X (x := A 179) rfl (List.Mem.head _) (z_load_n X (x := x) rfl (List.Mem.tail _ (List.Mem.head _)) (s_putI X 179 rfl (c518_ok rfl) rfl rfl (by decide) rfl rfl rfl (wd_gen (fun s4 hs4 => ?_))))
    have Is4 : Bd s4 := eqB hs4 (bd_I I (show (0 : Int) ≤ x ∧ x ≤ 9 by first | exact ⟨oq_2a6e3b50 p0.1, p0.2⟩ | omega) ⟨by first | exact oq_9462313e p0.1 | omega, by first | exact oq_f7e7bb0e p0.2 | omega⟩)
    have Fs4 := eqF hs4 (fm_I F (inl_ok (a := 79) rfl))
    have vs4 : iI s4 79 = x := eqI hs4 (iI_u ⟨by first | exact oq_9462313e p0.1 | omega, by first | exact oq_f7e7bb0e p0.2 | omega⟩)
    refine z_aload_n X (x := A 179) rfl (List.Mem.head _) (z_load_n X (x := y) rfl (List.Mem.tail _ (List.Mem.tail _ (List.Mem.head _))) (s_putI X 179 rfl (c518_ok rfl) rfl rfl (by decide) rfl rfl rfl (wd_gen (fun s5 hs5 => ?_))))
    have Is5 : Bd s5 := eqB hs5 (bd_I Is4 (show ((-1) : Int) ≤ y ∧ y ≤ 400 by first | exact ⟨p1.1, p1.2⟩ | omega) ⟨by first | exact oq_97ee2c2a p1.1 | omega, by first | exact oq_5a8480eb p1.2 | omega⟩)
    have Fs5 := eqF hs5 (fm_I Fs4 (inl_ok (a := 80) rfl))
    have vs5 : iI s5 80 = y := eqI hs5 (iI_u ⟨by first | exact oq_97ee2c2a p1.1 | omega, by first | exact oq_5a8480eb p1.2 | omega⟩)
    have ws5_79 : iI s5 79 = iI s4 79 := eqI hs5 rfl
    exact w_vret X.1 q hRt (ax_d X (show cdA 194 17 = some (.return_, 1, 0, 0, 0) from rfl)) (Nat.zero_le _) (Nat.zero_le _) ⟨_, rfl, Is5, Fs5, rfl, by first | exact Or.inl (And.intro (g3) (oq_1aa5be9e ws5_79 vs4)) | omega⟩
set_option maxRecDepth 4000 in
theorem k_sign3 (G : GX l s0 D tys a0 dT) {B : Nat → Int} {N : Int} (I : Bd s) (jFDB : FDB B N s) {x : Int} (p0 : 0 ≤ x ∧ x ≤ 255) (p1 : iI s 77 ≤ 380) : CT l s0 D A dT 204 (rmN 204) [.ref (A 179), .int (Int32.ofInt x)] s (fun o t => Bd t ∧ Fm [77, 79, 80] [] s t ∧ FDB B N t ∧ o = .inl none ∧ (SGN B N x s t ∧ iI s 77 ≤ iI t 77 ∧ (iI t 77 = iI s 77 ∨ iI t 77 ≤ N + 1))) := by
  refine ct_of G (by decide) (Nat.le_of_ble_eq_true rfl) (fun k X E hRt hXt q => ?_)
  show WS k 0 [(0, .ref (A 179)), (1, .int (Int32.ofInt x))] [] _ 0 0
  have F : Fm [77, 79, 80] [] s s := fm_rf _ _ s
  have hN := jFDB.2.1
  have hW := jFDB.2.2
  have b1 := bi_77 I
  have b2 := bi_75 I
  have b3 := bi_79 I
  refine z_aload_n X (x := A 179) rfl (List.Mem.head _) (zcV_v1 X E 179 (As := []) (st := []) rfl rfl rfl rfl (k_blanks2 G I jFDB (by first | exact oq_f72601a2 p1 | omega)) rfl (Nat.le_of_ble_eq_true rfl) (fun s4 Is4 Fs4 JFDB_s4 hps4 => ?_))
  have hps4p := And.intro hps4.1 (hps4.2.1)
  have Gs4 := fm_tq F Fs4 rfl rfl
  have JFDB_s4 : FDB B N s4 := FDB_fm Fs4 (by decide) jFDB
  have b6 := bi_77 Is4
  have ws4_75 : iI s4 75 = iI s 75 := fm_iq Fs4 rfl
  have ws4_79 : iI s4 79 = iI s 79 := fm_iq Fs4 rfl
  refine z_aload_n X (x := A 179) rfl (List.Mem.head _) (z_aload_n X (x := A 179) rfl (List.Mem.head _) (z_getI X 179 rfl (c518_ok rfl) rfl rfl ?_))
  have b7 := bi_77 Is4
  refine z_callV X 179 (rm := rmN 192) (As := [.int (Int32.ofInt (iI s4 77))]) (st := []) rfl rfl (by decide) rfl (by rw [E.1, E.2.1, E.2.2.1]; exact k_byteAt2 G Is4 JFDB_s4 (by first | exact ⟨b7.1, oq_5a8480eb b7.2⟩ | omega)) ⟨by rw [E.2.2.2]; exact (show (rmN 192).frames + 1 ≤ (rmN 204).frames by decide), by rw [E.2.2.2]; exact (show 8 + (mNL (miB 192) + 11) + (rmN 192).locals ≤ (rmN 204).locals by decide), by rw [E.2.2.2]; exact (show 0 + (rmN 192).cells ≤ (rmN 204).cells by decide), by rw [E.2.2.2]; exact (show 0 + (rmN 192).slots ≤ (rmN 204).slots by decide)⟩ (Nat.le_of_ble_eq_true rfl) (fun vv s8 hq => ?_) (fun ee s8 hq => ?_)
  rotate_left
  · obtain ⟨rfl, e9, hv, hrs8, hps8⟩ := hq; cases hv
  obtain ⟨rfl, e9, hv, hrs8, hps8⟩ := hq
  cases hv
  show WS k 12 [(0, .ref (A 179)), (1, .int (Int32.ofInt x))] [.int (Int32.ofInt e9)] (Wd A dT s4) 0 0
  refine z_load_n X (x := x) rfl (List.Mem.tail _ (List.Mem.head _)) (z_icmp_ne X (t := 29) rfl rfl hrs8 ⟨by first | exact oq_fa4e5087 p0.1 | omega, by first | exact oq_4567a937 p0.2 | omega⟩ (fun g10 => ?_) (fun g10 => ?_))
  ·
    refine z_aload_n X (x := A 179) rfl (List.Mem.head _) (z_const X rfl (z_aload_n X (x := A 179) rfl (List.Mem.head _) (z_getI X 179 rfl (c518_ok rfl) rfl rfl ?_)))
    have b11 := bi_77 Is4
    refine zcV_v0 X E 179 (As := [.int (Int32.ofInt 1), .int (Int32.ofInt (iI s4 77))]) (st := []) rfl rfl rfl rfl (k_wrong3 G Is4 (by first | exact ⟨by decide, by decide⟩ | omega) (by first | exact ⟨oq_ca54ea22 b11.1, b11.2⟩ | omega)) rfl (Nat.le_of_ble_eq_true rfl) (fun s12 Is12 Fs12 hps12 => ?_)
    have Gs12 := fm_tq Gs4 Fs12 rfl rfl
    have JFDB_s12 : FDB B N s12 := FDB_fm Fs12 (by decide) JFDB_s4
    have ws12_77 : iI s12 77 = iI s4 77 := fm_iq Fs12 rfl
    have ws12_75 : iI s12 75 = iI s4 75 := fm_iq Fs12 rfl
    have b14 := bi_79 Is12
    exact w_vret X.1 q hRt (ax_d X (show cdA 204 38 = some (.return_, 1, 0, 0, 0) from rfl)) (Nat.zero_le _) (Nat.zero_le _) ⟨_, rfl, Is12, Gs12, JFDB_s12, rfl, ⟨by first | exact Or.inl ⟨by rw [← hps4.1]; exact ⟨by first | (clear hps12 g10 hps8 hps4; omega) | (clear g10 hps8 hps4; omega) | omega, by first | (clear hps12 g10 hps8 hps4; omega) | (clear g10 hps8 hps4; omega) | omega⟩, by rw [← hps4.1]; omega, by first | (clear hps12 g10 hps8 hps4; omega) | (clear g10 hps8 hps4; omega) | omega⟩ | exact Or.inr ⟨by rw [← hps4.1]; omega, by rw [← hps4.1]; omega, by first | exact oq_401988cf hps12 ws4_79 b3.1 | (clear hps12 g10 hps8 hps4; omega) | (clear g10 hps8 hps4; omega) | omega⟩, by first | exact oq_9272904e ws12_77 hps4.2.1 | omega, by first | exact oq_31c66126 ws12_77 hps4.2.2 hps4.2.1 | omega⟩⟩
  ·
    refine z_aload_n X (x := A 179) rfl (List.Mem.head _) (w_dup X.1 (ax_d X (show cdA 204 17 = some (.dup, 1, 0, 0, 0) from rfl)) rfl (z_getI X 179 rfl (c518_ok rfl) rfl rfl ?_))
    have b15 := bi_77 Is4
    refine z_const X rfl (z_add X rfl (s_putI X 179 rfl (c518_ok rfl) rfl rfl (by decide) rfl rfl rfl (wd_gen (fun s16 hs16 => ?_))))
    have Is16 : Bd s16 := eqB hs16 (bd_I Is4 (show (0 : Int) ≤ ((iI s4 77) + 1) ∧ ((iI s4 77) + 1) ≤ 400 by first | exact ⟨oq_54f49eb5 b15.1, by first | exact oq_262a3980 g10 hps8 b2.2 hN p0.1 | (clear hps8 hps4; omega) | (clear hps4; omega) | omega⟩ | omega) ⟨by first | exact oq_74de1e16 b15.1 | omega, by first | exact oq_964ce197 b15.2 | omega⟩)
    have Fs16 := eqF hs16 (fm_I Gs4 (inl_ok (a := 77) rfl))
    have vs16 : iI s16 77 = ((iI s4 77) + 1) := eqI hs16 (iI_u ⟨by first | exact oq_74de1e16 b15.1 | omega, by first | exact oq_964ce197 b15.2 | omega⟩)
    have ws16_75 : iI s16 75 = iI s4 75 := eqI hs16 rfl
    have ws16_79 : iI s16 79 = iI s4 79 := eqI hs16 rfl
    have fs16 : Fm [77] [] s4 s16 := by rw [hs16]; exact fm_I (fm_rf _ _ _) (show 77 ∈ _ by decide)
    have JFDB_s16 : FDB B N s16 := FDB_fm fs16 (by decide) JFDB_s4
    refine z_goto X (t := 38) rfl rfl ?_
    exact w_vret X.1 q hRt (ax_d X (show cdA 204 38 = some (.return_, 1, 0, 0, 0) from rfl)) (Nat.zero_le _) (Nat.zero_le _) ⟨_, rfl, Is16, Fs16, JFDB_s16, rfl, ⟨by first | exact Or.inl ⟨by rw [← hps4.1]; exact ⟨by first | exact oq_5b88fec4 g10 hps8 p0.1 | (clear hps8 hps4; omega) | (clear hps4; omega) | omega, by first | exact oq_d97797e7 g10 hps8 p0.1 | (clear hps8 hps4; omega) | (clear hps4; omega) | omega⟩, by rw [← hps4.1]; omega, by first | exact oq_1aa5be9e ws16_79 ws4_79 | (clear hps8 hps4; omega) | (clear hps4; omega) | omega⟩ | exact Or.inr ⟨by rw [← hps4.1]; omega, by rw [← hps4.1]; omega, by first | (clear hps8 hps4; omega) | (clear hps4; omega) | omega⟩, by first | exact oq_d12e8ac3 vs16 hps4.2.1 | omega, by first | exact oq_6f4768c0 vs16 g10 hps8 p0.1 | omega⟩⟩
set_option maxRecDepth 4000 in
theorem k_opens3 (G : GX l s0 D tys a0 dT) (I : Bd s) {x : Int} (p0 : 1 ≤ x ∧ x ≤ 3) (p1 : iI s 77 ≤ 380) (p2 : iI s 78 ≤ 7) : CT l s0 D A dT 205 (rmN 205) [.ref (A 179), .int (Int32.ofInt x)] s (fun o t => Bd t ∧ Fm [77, 79, 80, 78] [] s t ∧ o = .inl none ∧ (iI t 77 = iI s 77 + x ∧ iI t 78 = iI s 78 + 1 ∧ ((iI s 78 = 6 ∧ ((iI s 79 = 0 ∧ iI t 79 = 3) ∨ (iI s 79 ≠ 0 ∧ iI t 79 = iI s 79))) ∨ (iI s 78 ≠ 6 ∧ iI t 79 = iI s 79)))) := by
  refine ct_of G (by decide) (Nat.le_of_ble_eq_true rfl) (fun k X E hRt hXt q => ?_)
  show WS k 0 [(0, .ref (A 179)), (1, .int (Int32.ofInt x))] [] _ 0 0
  have F : Fm [77, 79, 80, 78] [] s s := fm_rf _ _ s
  have b1 := bi_77 I
  have b2 := bi_78 I
  have b3 := bi_79 I
  refine z_aload_n X (x := A 179) rfl (List.Mem.head _) (z_getI X 179 rfl (c518_ok rfl) rfl rfl ?_)
  have b4 := bi_78 I
  refine z_bipush X rfl (z_icmp_ne X (t := 18) rfl rfl (rng_to _) (by decide) (fun g5 => ?_) (fun g5 => ?_))
  ·
    refine z_aload_n X (x := A 179) rfl (List.Mem.head _) (w_dup X.1 (ax_d X (show cdA 205 19 = some (.dup, 1, 0, 0, 0) from rfl)) rfl (z_getI X 179 rfl (c518_ok rfl) rfl rfl ?_))
    have b6 := bi_78 I
    refine z_const X rfl (z_add X rfl (s_putI X 179 rfl (c518_ok rfl) rfl rfl (by decide) rfl rfl rfl (wd_gen (fun s7 hs7 => ?_))))
    have Is7 : Bd s7 := eqB hs7 (bd_I I (show (0 : Int) ≤ ((iI s 78) + 1) ∧ ((iI s 78) + 1) ≤ 8 by first | exact ⟨oq_54f49eb5 b6.1, oq_18969492 p2⟩ | omega) ⟨by first | exact oq_74de1e16 b6.1 | omega, by first | exact oq_3762dfb5 b6.2 | omega⟩)
    have Fs7 := eqF hs7 (fm_I F (inl_ok (a := 78) rfl))
    have vs7 : iI s7 78 = ((iI s 78) + 1) := eqI hs7 (iI_u ⟨by first | exact oq_74de1e16 b6.1 | omega, by first | exact oq_3762dfb5 b6.2 | omega⟩)
    have ws7_77 : iI s7 77 = iI s 77 := eqI hs7 rfl
    have ws7_79 : iI s7 79 = iI s 79 := eqI hs7 rfl
    refine z_aload_n X (x := A 179) rfl (List.Mem.head _) (w_dup X.1 (ax_d X (show cdA 205 29 = some (.dup, 1, 0, 0, 0) from rfl)) rfl (z_getI X 179 rfl (c518_ok rfl) rfl rfl ?_))
    have b8 := bi_77 Is7
    refine z_load_n X (x := x) rfl (List.Mem.tail _ (List.Mem.head _)) (z_add X rfl (s_putI X 179 rfl (c518_ok rfl) rfl rfl (by decide) rfl rfl rfl (wd_gen (fun s9 hs9 => ?_))))
    have Is9 : Bd s9 := eqB hs9 (bd_I Is7 (show (0 : Int) ≤ ((iI s7 77) + x) ∧ ((iI s7 77) + x) ≤ 400 by first | exact ⟨oq_c3299dea p0.1 b8.1, oq_69d89cff p0.2 ws7_77 p1⟩ | omega) ⟨by first | exact oq_96c994d3 p0.1 b8.1 | omega, by first | exact oq_99fe3e62 p0.2 b8.2 | omega⟩)
    have Fs9 := eqF hs9 (fm_I Fs7 (inl_ok (a := 77) rfl))
    have vs9 : iI s9 77 = ((iI s7 77) + x) := eqI hs9 (iI_u ⟨by first | exact oq_96c994d3 p0.1 b8.1 | omega, by first | exact oq_99fe3e62 p0.2 b8.2 | omega⟩)
    have ws9_78 : iI s9 78 = iI s7 78 := eqI hs9 rfl
    have ws9_79 : iI s9 79 = iI s7 79 := eqI hs9 rfl
    exact w_vret X.1 q hRt (ax_d X (show cdA 205 38 = some (.return_, 1, 0, 0, 0) from rfl)) (Nat.zero_le _) (Nat.zero_le _) ⟨_, rfl, Is9, Fs9, rfl, by first | exact ⟨oq_f1381ab8 vs9 ws7_77, oq_4b8d46b3 ws9_78 vs7, Or.inr (And.intro (g5) (oq_1aa5be9e ws9_79 ws7_79))⟩ | omega⟩
  ·
    refine z_aload_n X (x := A 179) rfl (List.Mem.head _) (z_const X rfl (z_aload_n X (x := A 179) rfl (List.Mem.head _) (z_getI X 179 rfl (c518_ok rfl) rfl rfl ?_)))
    have b10 := bi_77 I
    refine zcV_v0 X E 179 (As := [.int (Int32.ofInt 3), .int (Int32.ofInt (iI s 77))]) (st := []) rfl rfl rfl rfl (k_wrong3 G I (by first | exact ⟨by decide, by decide⟩ | omega) (by first | exact ⟨oq_ca54ea22 b10.1, b10.2⟩ | omega)) rfl (Nat.le_of_ble_eq_true rfl) (fun s11 Is11 Fs11 hps11 => ?_)
    have Gs11 := fm_tq F Fs11 rfl rfl
    have ws11_77 : iI s11 77 = iI s 77 := fm_iq Fs11 rfl
    have ws11_78 : iI s11 78 = iI s 78 := fm_iq Fs11 rfl
    have b13 := bi_79 Is11
    refine z_aload_n X (x := A 179) rfl (List.Mem.head _) (w_dup X.1 (ax_d X (show cdA 205 19 = some (.dup, 1, 0, 0, 0) from rfl)) rfl (z_getI X 179 rfl (c518_ok rfl) rfl rfl ?_))
    have b14 := bi_78 Is11
    refine z_const X rfl (z_add X rfl (s_putI X 179 rfl (c518_ok rfl) rfl rfl (by decide) rfl rfl rfl (wd_gen (fun s15 hs15 => ?_))))
    have Is15 : Bd s15 := eqB hs15 (bd_I Is11 (show (0 : Int) ≤ ((iI s11 78) + 1) ∧ ((iI s11 78) + 1) ≤ 8 by first | exact ⟨oq_54f49eb5 b14.1, oq_7dbb59f7 ws11_78 g5⟩ | omega) ⟨by first | exact oq_74de1e16 b14.1 | omega, by first | exact oq_3762dfb5 b14.2 | omega⟩)
    have Fs15 := eqF hs15 (fm_I Gs11 (inl_ok (a := 78) rfl))
    have vs15 : iI s15 78 = ((iI s11 78) + 1) := eqI hs15 (iI_u ⟨by first | exact oq_74de1e16 b14.1 | omega, by first | exact oq_3762dfb5 b14.2 | omega⟩)
    have ws15_77 : iI s15 77 = iI s11 77 := eqI hs15 rfl
    have ws15_79 : iI s15 79 = iI s11 79 := eqI hs15 rfl
    refine z_aload_n X (x := A 179) rfl (List.Mem.head _) (w_dup X.1 (ax_d X (show cdA 205 29 = some (.dup, 1, 0, 0, 0) from rfl)) rfl (z_getI X 179 rfl (c518_ok rfl) rfl rfl ?_))
    have b16 := bi_77 Is15
    refine z_load_n X (x := x) rfl (List.Mem.tail _ (List.Mem.head _)) (z_add X rfl (s_putI X 179 rfl (c518_ok rfl) rfl rfl (by decide) rfl rfl rfl (wd_gen (fun s17 hs17 => ?_))))
    have Is17 : Bd s17 := eqB hs17 (bd_I Is15 (show (0 : Int) ≤ ((iI s15 77) + x) ∧ ((iI s15 77) + x) ≤ 400 by first | exact ⟨oq_c3299dea p0.1 b16.1, oq_75116c0c p0.2 ws15_77 ws11_77 p1⟩ | omega) ⟨by first | exact oq_96c994d3 p0.1 b16.1 | omega, by first | exact oq_99fe3e62 p0.2 b16.2 | omega⟩)
    have Fs17 := eqF hs17 (fm_I Fs15 (inl_ok (a := 77) rfl))
    have vs17 : iI s17 77 = ((iI s15 77) + x) := eqI hs17 (iI_u ⟨by first | exact oq_96c994d3 p0.1 b16.1 | omega, by first | exact oq_99fe3e62 p0.2 b16.2 | omega⟩)
    have ws17_78 : iI s17 78 = iI s15 78 := eqI hs17 rfl
    have ws17_79 : iI s17 79 = iI s15 79 := eqI hs17 rfl
    exact w_vret X.1 q hRt (ax_d X (show cdA 205 38 = some (.return_, 1, 0, 0, 0) from rfl)) (Nat.zero_le _) (Nat.zero_le _) ⟨_, rfl, Is17, Fs17, rfl, by first | exact ⟨oq_0f45dae9 vs17 ws11_77 ws15_77, oq_20fce6d9 ws17_78 vs15 ws11_78, oq_f2231ef5 ws17_79 ws15_79 hps11 g5 b3.1⟩ | omega⟩
set_option maxRecDepth 4000 in
theorem k_skipWord3 (G : GX l s0 D tys a0 dT) {B : Nat → Int} {N : Int} (I : Bd s) (jFDB : FDB B N s) (p0 : iI s 77 ≤ 390) : CT l s0 D A dT 203 (rmN 203) [.ref (A 179)] s (fun o t => Bd t ∧ Fm [77] [] s t ∧ FDB B N t ∧ o = .inl none ∧ (iI t 77 = wdE B N (iI s 77) ∧ iI s 77 ≤ iI t 77 ∧ (iI t 77 = iI s 77 ∨ iI t 77 ≤ N))) := by
  refine ct_of G (by decide) (Nat.le_of_ble_eq_true rfl) (fun k X E hRt hXt q => ?_)
  show WS k 0 [(0, .ref (A 179))] [] _ 0 0
  have F : Fm [77] [] s s := fm_rf _ _ s
  have hN := jFDB.2.1
  have hW := jFDB.2.2
  have b1 := bi_77 I
  have b2 := bi_75 I
  have L0 : ∀ (n : Nat) (t : PS), Bd t → Fm [77] [] s t → FDB B N t → (wdE B N (iI t 77) = wdE B N (iI s 77)) → (iI s 77 ≤ iI t 77 ∧ (iI t 77 = iI s 77 ∨ iI t 77 ≤ N)) → (N - iI t 77 : Int).toNat < n → (∀ (t' : PS), Bd t' → Fm [77] [] s t' → FDB B N t' → (wdE B N (iI s 77) = iI t' 77) → (iI s 77 ≤ iI t' 77 ∧ (iI t' 77 = iI s 77 ∨ iI t' 77 ≤ N)) → WS k 39 [(0, .ref (A 179))] [] (Wd A dT t') 0 0) → WS k 0 [(0, .ref (A 179))] [] (Wd A dT t) 0 0 := by
    intro n
    induction n with
    | zero =>
      intro t  I F jjFDB hq hi hm kx
      exact absurd hm (Nat.not_lt_zero _)
    | succ n ih =>
      intro t  I F jjFDB hq hi hm kx
      have b1001 := bi_77 I
      have b1002 := bi_75 I
      have hN := jjFDB.2.1
      have hW := jjFDB.2.2
      refine z_aload_n X (x := A 179) rfl (List.Mem.head _) (z_aload_n X (x := A 179) rfl (List.Mem.head _) (z_getI X 179 rfl (c518_ok rfl) rfl rfl ?_))
      have b1003 := bi_77 I
      refine z_callV X 179 (rm := rmN 192) (As := [.int (Int32.ofInt (iI t 77))]) (st := []) rfl rfl (by decide) rfl (by rw [E.1, E.2.1, E.2.2.1]; exact k_byteAt2 G I jjFDB (by first | exact ⟨b1003.1, oq_5a8480eb b1003.2⟩ | omega)) ⟨by rw [E.2.2.2]; exact (show (rmN 192).frames + 1 ≤ (rmN 203).frames by decide), by rw [E.2.2.2]; exact (show 8 + (mNL (miB 192) + 11) + (rmN 192).locals ≤ (rmN 203).locals by decide), by rw [E.2.2.2]; exact (show 0 + (rmN 192).cells ≤ (rmN 203).cells by decide), by rw [E.2.2.2]; exact (show 0 + (rmN 192).slots ≤ (rmN 203).slots by decide)⟩ (Nat.le_of_ble_eq_true rfl) (fun vv s1004 hq => ?_) (fun ee s1004 hq => ?_)
      rotate_left
      · obtain ⟨rfl, e1005, hv, hrs1004, hps1004⟩ := hq; cases hv
      obtain ⟨rfl, e1005, hv, hrs1004, hps1004⟩ := hq
      cases hv
      show WS k 8 [(0, .ref (A 179))] [.int (Int32.ofInt e1005)] (Wd A dT t) 0 0
      refine z_bipush X rfl (z_icmp_lt X (t := 39) rfl rfl hrs1004 (by decide) (fun g1006 => ?_) (fun g1006 => ?_))
      ·
        refine WS_pq [0] (lv' := [(0, .ref (A 179))]) rfl ?_
        exact kx _  I F jjFDB (hq.symm.trans (wd_stop (by first | exact oq_cbd16470 g1006 hps1004 | (clear hps1004; omega) | omega))) (by first | exact ⟨hi.1, hi.2⟩ | omega)
      ·
        refine z_aload_n X (x := A 179) rfl (List.Mem.head _) (z_aload_n X (x := A 179) rfl (List.Mem.head _) (z_getI X 179 rfl (c518_ok rfl) rfl rfl ?_))
        have b1007 := bi_77 I
        refine z_callV X 179 (rm := rmN 192) (As := [.int (Int32.ofInt (iI t 77))]) (st := []) rfl rfl (by decide) rfl (by rw [E.1, E.2.1, E.2.2.1]; exact k_byteAt2 G I jjFDB (by first | exact ⟨b1007.1, oq_5a8480eb b1007.2⟩ | omega)) ⟨by rw [E.2.2.2]; exact (show (rmN 192).frames + 1 ≤ (rmN 203).frames by decide), by rw [E.2.2.2]; exact (show 8 + (mNL (miB 192) + 11) + (rmN 192).locals ≤ (rmN 203).locals by decide), by rw [E.2.2.2]; exact (show 0 + (rmN 192).cells ≤ (rmN 203).cells by decide), by rw [E.2.2.2]; exact (show 0 + (rmN 192).slots ≤ (rmN 203).slots by decide)⟩ (Nat.le_of_ble_eq_true rfl) (fun vv s1008 hq => ?_) (fun ee s1008 hq => ?_)
        rotate_left
        · obtain ⟨rfl, e1009, hv, hrs1008, hps1008⟩ := hq; cases hv
        obtain ⟨rfl, e1009, hv, hrs1008, hps1008⟩ := hq
        cases hv
        show WS k 21 [(0, .ref (A 179))] [.int (Int32.ofInt e1009)] (Wd A dT t) 0 0
        refine z_bipush X rfl (z_icmp_gt X (t := 39) rfl rfl hrs1008 (by decide) (fun g1010 => ?_) (fun g1010 => ?_))
        ·
          refine WS_pq [0] (lv' := [(0, .ref (A 179))]) rfl ?_
          exact kx _  I F jjFDB (hq.symm.trans (wd_stop (by first | exact Or.inr (Or.inr (oq_6e0e2d35 g1010 hps1008)) | (clear hps1008 hps1004; omega) | (clear hps1004; omega) | omega))) (by first | exact ⟨hi.1, hi.2⟩ | omega)
        ·
          refine z_aload_n X (x := A 179) rfl (List.Mem.head _) (w_dup X.1 (ax_d X (show cdA 203 27 = some (.dup, 1, 0, 0, 0) from rfl)) rfl (z_getI X 179 rfl (c518_ok rfl) rfl rfl ?_))
          have b1011 := bi_77 I
          refine z_const X rfl (z_add X rfl (s_putI X 179 rfl (c518_ok rfl) rfl rfl (by decide) rfl rfl rfl (wd_gen (fun s1012 hs1012 => ?_))))
          have Is1012 : Bd s1012 := eqB hs1012 (bd_I I (show (0 : Int) ≤ ((iI t 77) + 1) ∧ ((iI t 77) + 1) ≤ 400 by first | exact ⟨oq_54f49eb5 b1011.1, by first | exact oq_8db530a4 g1006 hps1004 hN b1002.2 | (clear hps1008 hps1004; omega) | (clear hps1004; omega) | omega⟩ | omega) ⟨by first | exact oq_74de1e16 b1011.1 | omega, by first | exact oq_964ce197 b1011.2 | omega⟩)
          have Fs1012 := eqF hs1012 (fm_I F (inl_ok (a := 77) rfl))
          have vs1012 : iI s1012 77 = ((iI t 77) + 1) := eqI hs1012 (iI_u ⟨by first | exact oq_74de1e16 b1011.1 | omega, by first | exact oq_964ce197 b1011.2 | omega⟩)
          have ws1012_75 : iI s1012 75 = iI t 75 := eqI hs1012 rfl
          have fs1012 : Fm [77] [] t s1012 := by rw [hs1012]; exact fm_I (fm_rf _ _ _) (show 77 ∈ _ by decide)
          have JFDB_s1012 : FDB B N s1012 := FDB_fm fs1012 (by decide) jjFDB
          refine z_goto X (t := 0) rfl rfl (WS_pq [0] (lv' := [(0, .ref (A 179))]) rfl ?_)
          exact ih _  Is1012 Fs1012 JFDB_s1012 (by rw [vs1012, ← wd_let (by first | exact oq_80349c40 g1006 hps1004 | (clear hps1008 hps1004; omega) | (clear hps1004; omega) | omega) (by first | exact oq_085cd7f1 g1006 hps1004 | (clear hps1008 hps1004; omega) | (clear hps1004; omega) | omega) (by first | exact oq_416e080d g1010 hps1008 g1006 hps1004 | (clear hps1008 hps1004; omega) | (clear hps1004; omega) | omega)]; exact hq) (by first | exact ⟨oq_d12e8ac3 vs1012 hi.1, oq_8ed2a1e1 vs1012 hps1008 g1006 hps1004⟩ | omega) (by first | exact qk_me hm (oq_563dee29 vs1012) (oq_d17636fc hps1008 g1006 hps1004) | omega) kx
  refine WS_pq [0] (lv' := [(0, .ref (A 179))]) rfl (L0 ((N - iI s 77 : Int).toNat + 1) s  I F jFDB rfl (by first | exact ⟨by decide, Or.inl (by decide)⟩ | exact And.intro (oq_15ec32ab) (Or.inl (rfl)) | omega) (Nat.lt_succ_self _) ?_)
  intro s3  Is3 Fs3 JFDB_s3 Qs3 hs3
  have b4 := bi_77 Is3
  have b5 := bi_75 Is3
  have hNs3 := JFDB_s3.2.1
  have hWs3 := JFDB_s3.2.2
  exact w_vret X.1 q hRt (ax_d X (show cdA 203 39 = some (.return_, 1, 0, 0, 0) from rfl)) (Nat.zero_le _) (Nat.zero_le _) ⟨_, rfl, Is3, Fs3, JFDB_s3, rfl, by first | exact ⟨by first | exact oq_18d11be6 Qs3 | omega, hs3.1, hs3.2⟩ | omega⟩
set_option maxRecDepth 4000 in
theorem k_word3 (G : GX l s0 D tys a0 dT) (I : Bd s) {x1 x2 x3 x4 x5 x6 : Int} (p0 : 1 ≤ x1 ∧ x1 ≤ 26) (p1 : 0 ≤ x2 ∧ x2 ≤ 26) (p2 : 0 ≤ x3 ∧ x3 ≤ 26) (p3 : 0 ≤ x4 ∧ x4 ≤ 26) (p4 : 0 ≤ x5 ∧ x5 ≤ 26) (p5 : 0 ≤ x6 ∧ x6 ≤ 26) : CT l s0 D A dT 202 (rmN 202) [.int (Int32.ofInt x1), .int (Int32.ofInt x2), .int (Int32.ofInt x3), .int (Int32.ofInt x4), .int (Int32.ofInt x5), .int (Int32.ofInt x6)] s (fun o t => s = t ∧ ∃ e, o = .inl (some (.int (Int32.ofInt e))) ∧ rng e ∧ (1 ≤ e ∧ e = wdH x1 x2 x3 x4 x5 x6)) := by
  refine ct_of G (by decide) (Nat.le_of_ble_eq_true rfl) (fun k X E hRt hXt q => ?_)
  show WS k 0 [(0, .int (Int32.ofInt x1)), (1, .int (Int32.ofInt x2)), (2, .int (Int32.ofInt x3)), (3, .int (Int32.ofInt x4)), (4, .int (Int32.ofInt x5)), (5, .int (Int32.ofInt x6))] [] _ 0 0
  have F : Fm [] [] s s := fm_rf _ _ s
  refine z_bipush X rfl (z_load_n X (x := x1) rfl (List.Mem.head _) (z_mul X rfl (z_load_n X (x := x2) rfl (List.Mem.tail _ (List.Mem.head _)) (z_add X rfl (z_store X (lv' := [(6, .int (Int32.ofInt ((27 * x1) + x2))), (0, .int (Int32.ofInt x1)), (1, .int (Int32.ofInt x2)), (2, .int (Int32.ofInt x3)), (3, .int (Int32.ofInt x4)), (4, .int (Int32.ofInt x5)), (5, .int (Int32.ofInt x6))]) rfl (by decide) (fun _ h => h) (z_load_n X (x := x3) rfl (List.Mem.tail _ (List.Mem.tail _ (List.Mem.tail _ (List.Mem.head _)))) ?_))))))
  have N1 : ∀ e2 : Int, (((x3 ≠ 0) ∧ e2 = ((27 * ((27 * x1) + x2)) + x3)) ∨ ((x3 = 0) ∧ e2 = ((27 * x1) + x2))) → WS k 24 [(6, .int (Int32.ofInt ((27 * x1) + x2))), (0, .int (Int32.ofInt x1)), (1, .int (Int32.ofInt x2)), (2, .int (Int32.ofInt x3)), (3, .int (Int32.ofInt x4)), (4, .int (Int32.ofInt x5)), (5, .int (Int32.ofInt x6))] [.int (Int32.ofInt e2)] (Wd A dT s) 0 0 := by
    intro e2 he2
    refine z_store X (lv' := [(6, .int (Int32.ofInt e2)), (0, .int (Int32.ofInt x1)), (1, .int (Int32.ofInt x2)), (2, .int (Int32.ofInt x3)), (3, .int (Int32.ofInt x4)), (4, .int (Int32.ofInt x5)), (5, .int (Int32.ofInt x6))]) rfl (by decide) (fun _ h => h) (z_load_n X (x := x4) rfl (List.Mem.tail _ (List.Mem.tail _ (List.Mem.tail _ (List.Mem.tail _ (List.Mem.head _))))) ?_)
    have N3 : ∀ e4 : Int, (((x4 ≠ 0) ∧ e4 = ((27 * e2) + x4)) ∨ ((x4 = 0) ∧ e4 = e2)) → WS k 42 [(6, .int (Int32.ofInt e2)), (0, .int (Int32.ofInt x1)), (1, .int (Int32.ofInt x2)), (2, .int (Int32.ofInt x3)), (3, .int (Int32.ofInt x4)), (4, .int (Int32.ofInt x5)), (5, .int (Int32.ofInt x6))] [.int (Int32.ofInt e4)] (Wd A dT s) 0 0 := by
      intro e4 he4
      refine z_store X (lv' := [(6, .int (Int32.ofInt e4)), (0, .int (Int32.ofInt x1)), (1, .int (Int32.ofInt x2)), (2, .int (Int32.ofInt x3)), (3, .int (Int32.ofInt x4)), (4, .int (Int32.ofInt x5)), (5, .int (Int32.ofInt x6))]) rfl (by decide) (fun _ h => h) (z_load X (x := x5) rfl (List.Mem.tail _ (List.Mem.tail _ (List.Mem.tail _ (List.Mem.tail _ (List.Mem.tail _ (List.Mem.head _)))))) ?_)
      have N5 : ∀ e6 : Int, (((x5 ≠ 0) ∧ e6 = ((27 * e4) + x5)) ∨ ((x5 = 0) ∧ e6 = e4)) → WS k 62 [(6, .int (Int32.ofInt e4)), (0, .int (Int32.ofInt x1)), (1, .int (Int32.ofInt x2)), (2, .int (Int32.ofInt x3)), (3, .int (Int32.ofInt x4)), (4, .int (Int32.ofInt x5)), (5, .int (Int32.ofInt x6))] [.int (Int32.ofInt e6)] (Wd A dT s) 0 0 := by
        intro e6 he6
        refine z_store X (lv' := [(6, .int (Int32.ofInt e6)), (0, .int (Int32.ofInt x1)), (1, .int (Int32.ofInt x2)), (2, .int (Int32.ofInt x3)), (3, .int (Int32.ofInt x4)), (4, .int (Int32.ofInt x5)), (5, .int (Int32.ofInt x6))]) rfl (by decide) (fun _ h => h) (z_load X (x := x6) rfl (List.Mem.tail _ (List.Mem.tail _ (List.Mem.tail _ (List.Mem.tail _ (List.Mem.tail _ (List.Mem.tail _ (List.Mem.head _))))))) ?_)
        have N7 : ∀ e8 : Int, (((x6 ≠ 0) ∧ e8 = ((27 * e6) + x6)) ∨ ((x6 = 0) ∧ e8 = e6)) → WS k 82 [(6, .int (Int32.ofInt e6)), (0, .int (Int32.ofInt x1)), (1, .int (Int32.ofInt x2)), (2, .int (Int32.ofInt x3)), (3, .int (Int32.ofInt x4)), (4, .int (Int32.ofInt x5)), (5, .int (Int32.ofInt x6))] [.int (Int32.ofInt e8)] (Wd A dT s) 0 0 := by
          intro e8 he8
          exact w_iret X.1 q hRt rfl (ax_d X (show cdA 202 82 = some (.ireturn, 1, 0, 0, 0) from rfl)) (Nat.zero_le _) (Nat.zero_le _) ⟨_, rfl, rfl, e8, rfl, ⟨by first | exact oq_ecd050b7 he8 he6 he4 he2 p5.1 p4.1 p3.1 p2.1 p1.1 p0.1 | omega, by first | exact oq_ccada5ac he8 he6 he4 he2 p5.2 p4.2 p3.2 p2.2 p1.2 p0.2 | omega⟩, ⟨by first | exact oq_66594a1b he8 he6 he4 he2 p5.1 p4.1 p3.1 p2.1 p1.1 p0.1 | omega, by unfold wdH; dsimp only; (repeat' split) <;> omega⟩⟩
        refine z_if_ne X (t := 74) rfl rfl ⟨by first | exact oq_fa4e5087 p5.1 | omega, by first | exact oq_9e7d853b p5.2 | omega⟩ (fun g9 => ?_) (fun g9 => ?_)
        ·
          exact z_bipush X rfl (z_load X (x := e6) rfl (List.Mem.head _) (z_mul X rfl (z_load X (x := x6) rfl (List.Mem.tail _ (List.Mem.tail _ (List.Mem.tail _ (List.Mem.tail _ (List.Mem.tail _ (List.Mem.tail _ (List.Mem.head _))))))) (z_add X rfl (N7 _ (Or.inl ⟨g9, rfl⟩))))))
        ·
          exact z_load X (x := e6) rfl (List.Mem.head _) (z_goto X (t := 82) rfl rfl (N7 _ (Or.inr (⟨g9, rfl⟩))))
      refine z_if_ne X (t := 54) rfl rfl ⟨by first | exact oq_fa4e5087 p4.1 | omega, by first | exact oq_9e7d853b p4.2 | omega⟩ (fun g10 => ?_) (fun g10 => ?_)
      ·
        exact z_bipush X rfl (z_load X (x := e4) rfl (List.Mem.head _) (z_mul X rfl (z_load X (x := x5) rfl (List.Mem.tail _ (List.Mem.tail _ (List.Mem.tail _ (List.Mem.tail _ (List.Mem.tail _ (List.Mem.head _)))))) (z_add X rfl (N5 _ (Or.inl ⟨g10, rfl⟩))))))
      ·
        exact z_load X (x := e4) rfl (List.Mem.head _) (z_goto X (t := 62) rfl rfl (N5 _ (Or.inr (⟨g10, rfl⟩))))
    refine z_if_ne X (t := 35) rfl rfl ⟨by first | exact oq_fa4e5087 p3.1 | omega, by first | exact oq_9e7d853b p3.2 | omega⟩ (fun g11 => ?_) (fun g11 => ?_)
    ·
      exact z_bipush X rfl (z_load X (x := e2) rfl (List.Mem.head _) (z_mul X rfl (z_load_n X (x := x4) rfl (List.Mem.tail _ (List.Mem.tail _ (List.Mem.tail _ (List.Mem.tail _ (List.Mem.head _))))) (z_add X rfl (N3 _ (Or.inl ⟨g11, rfl⟩))))))
    ·
      exact z_load X (x := e2) rfl (List.Mem.head _) (z_goto X (t := 42) rfl rfl (N3 _ (Or.inr (⟨g11, rfl⟩))))
  refine z_if_ne X (t := 17) rfl rfl ⟨by first | exact oq_fa4e5087 p2.1 | omega, by first | exact oq_9e7d853b p2.2 | omega⟩ (fun g12 => ?_) (fun g12 => ?_)
  ·
    exact z_bipush X rfl (z_load X (x := ((27 * x1) + x2)) rfl (List.Mem.head _) (z_mul X rfl (z_load_n X (x := x3) rfl (List.Mem.tail _ (List.Mem.tail _ (List.Mem.tail _ (List.Mem.head _)))) (z_add X rfl (N1 _ (Or.inl ⟨g12, rfl⟩))))))
  ·
    exact z_load X (x := ((27 * x1) + x2)) rfl (List.Mem.head _) (z_goto X (t := 24) rfl rfl (N1 _ (Or.inr (⟨g12, rfl⟩))))
set_option maxRecDepth 4000 in
theorem k_wordHere3 (G : GX l s0 D tys a0 dT) {B : Nat → Int} {N : Int} (I : Bd s) (jFDB : FDB B N s) (p0 : iI s 77 ≤ 390) : CT l s0 D A dT 201 (rmN 201) [.ref (A 179)] s (fun o t => Bd t ∧ Fm [77] [] s t ∧ FDB B N t ∧ ∃ e, o = .inl (some (.int (Int32.ofInt e))) ∧ rng e ∧ (iI t 77 = sk B N (iI s 77) ∧ e = whV B N (iI t 77) ∧ iI s 77 ≤ iI t 77 ∧ (iI t 77 = iI s 77 ∨ iI t 77 ≤ N))) := by
  refine ct_of G (by decide) (Nat.le_of_ble_eq_true rfl) (fun k X E hRt hXt q => ?_)
  show WS k 0 [(0, .ref (A 179))] [] _ 0 0
  have F : Fm [77] [] s s := fm_rf _ _ s
  have hN := jFDB.2.1
  have hW := jFDB.2.2
  have b1 := bi_77 I
  have b2 := bi_75 I
  have L8 : ∀ (n : Nat) (t : PS) (vv nv : Int), Bd t → Fm [77] [] s t → FDB B N t → (WHQ B N (iI t 77) nv vv) → (iI t 77 = sk B N (iI s 77) ∧ iI s 77 ≤ iI t 77 ∧ (iI t 77 = iI s 77 ∨ iI t 77 ≤ N) ∧ 0 ≤ vv ∧ vv < 387420489 ∧ 0 ≤ nv ∧ nv ≤ 200) → (200 - nv : Int).toNat < n → (∀ (t' : PS) (vv' nv' : Int), Bd t' → Fm [77] [] s t' → FDB B N t' → (WHQ B N (iI t' 77) nv' vv' ∧ (N ≤ iI t' 77 + nv' ∨ B (iI t' 77 + nv').toNat < 97 ∨ 122 < B (iI t' 77 + nv').toNat)) → (iI t' 77 = sk B N (iI s 77) ∧ iI s 77 ≤ iI t' 77 ∧ (iI t' 77 = iI s 77 ∨ iI t' 77 ≤ N) ∧ 0 ≤ vv' ∧ vv' < 387420489 ∧ 0 ≤ nv' ∧ nv' ≤ 200) → WS k 75 [(0, .ref (A 179)), (1, .int (Int32.ofInt vv')), (2, .int (Int32.ofInt nv'))] [] (Wd A dT t') 0 0) → WS k 8 [(0, .ref (A 179)), (1, .int (Int32.ofInt vv)), (2, .int (Int32.ofInt nv))] [] (Wd A dT t) 0 0 := by
    intro n
    induction n with
    | zero =>
      intro t vv nv I F jjFDB hq hi hm kx
      exact absurd hm (Nat.not_lt_zero _)
    | succ n ih =>
      intro t vv nv I F jjFDB hq hi hm kx
      have b1001 := bi_77 I
      have b1002 := bi_75 I
      have hN := jjFDB.2.1
      have hW := jjFDB.2.2
      have hwb := whq_rng hq (by first | exact hi.2.2.2.2.2.1 | omega)
      refine z_aload_n X (x := A 179) rfl (List.Mem.head _) (z_aload_n X (x := A 179) rfl (List.Mem.head _) (z_getI X 179 rfl (c518_ok rfl) rfl rfl ?_))
      have b1003 := bi_77 I
      refine z_load_n X (x := nv) rfl (List.Mem.tail _ (List.Mem.tail _ (List.Mem.head _))) (z_add X rfl (z_callV X 179 (rm := rmN 192) (As := [.int (Int32.ofInt ((iI t 77) + nv))]) (st := []) rfl rfl (by decide) rfl (by rw [E.1, E.2.1, E.2.2.1]; exact k_byteAt2 G I jjFDB (by first | exact ⟨oq_d8d6a599 hi.2.2.2.2.2.1 b1003.1, oq_faec2b3d hi.2.2.2.2.2.2 b1003.2⟩ | omega)) ⟨by rw [E.2.2.2]; exact (show (rmN 192).frames + 1 ≤ (rmN 201).frames by decide), by rw [E.2.2.2]; exact (show 8 + (mNL (miB 192) + 11) + (rmN 192).locals ≤ (rmN 201).locals by decide), by rw [E.2.2.2]; exact (show 0 + (rmN 192).cells ≤ (rmN 201).cells by decide), by rw [E.2.2.2]; exact (show 0 + (rmN 192).slots ≤ (rmN 201).slots by decide)⟩ (Nat.le_of_ble_eq_true rfl) (fun vv s1004 hq => ?_) (fun ee s1004 hq => ?_)))
      rotate_left
      · obtain ⟨rfl, e1005, hv, hrs1004, hps1004⟩ := hq; cases hv
      obtain ⟨rfl, e1005, hv, hrs1004, hps1004⟩ := hq
      cases hv
      show WS k 18 [(0, .ref (A 179)), (1, .int (Int32.ofInt vv)), (2, .int (Int32.ofInt nv))] [.int (Int32.ofInt e1005)] (Wd A dT t) 0 0
      refine z_bipush X rfl (z_icmp_lt X (t := 75) rfl rfl hrs1004 (by decide) (fun g1006 => ?_) (fun g1006 => ?_))
      ·
        refine WS_pq [0, 1, 2] (lv' := [(0, .ref (A 179)), (1, .int (Int32.ofInt vv)), (2, .int (Int32.ofInt nv))]) rfl ?_
        exact kx _ vv nv I F jjFDB ⟨hq, by first | exact oq_f4f58af8 g1006 hps1004 | (clear hps1004; omega) | omega⟩ (by first | exact ⟨hi.1, hi.2.1, hi.2.2.1, hi.2.2.2.1, hi.2.2.2.2.1, hi.2.2.2.2.2.1, hi.2.2.2.2.2.2⟩ | omega)
      ·
        refine z_aload_n X (x := A 179) rfl (List.Mem.head _) (z_aload_n X (x := A 179) rfl (List.Mem.head _) (z_getI X 179 rfl (c518_ok rfl) rfl rfl ?_))
        have b1007 := bi_77 I
        refine z_load_n X (x := nv) rfl (List.Mem.tail _ (List.Mem.tail _ (List.Mem.head _))) (z_add X rfl (z_callV X 179 (rm := rmN 192) (As := [.int (Int32.ofInt ((iI t 77) + nv))]) (st := []) rfl rfl (by decide) rfl (by rw [E.1, E.2.1, E.2.2.1]; exact k_byteAt2 G I jjFDB (by first | exact ⟨oq_d8d6a599 hi.2.2.2.2.2.1 b1007.1, oq_faec2b3d hi.2.2.2.2.2.2 b1007.2⟩ | omega)) ⟨by rw [E.2.2.2]; exact (show (rmN 192).frames + 1 ≤ (rmN 201).frames by decide), by rw [E.2.2.2]; exact (show 8 + (mNL (miB 192) + 11) + (rmN 192).locals ≤ (rmN 201).locals by decide), by rw [E.2.2.2]; exact (show 0 + (rmN 192).cells ≤ (rmN 201).cells by decide), by rw [E.2.2.2]; exact (show 0 + (rmN 192).slots ≤ (rmN 201).slots by decide)⟩ (Nat.le_of_ble_eq_true rfl) (fun vv s1008 hq => ?_) (fun ee s1008 hq => ?_)))
        rotate_left
        · obtain ⟨rfl, e1009, hv, hrs1008, hps1008⟩ := hq; cases hv
        obtain ⟨rfl, e1009, hv, hrs1008, hps1008⟩ := hq
        cases hv
        show WS k 33 [(0, .ref (A 179)), (1, .int (Int32.ofInt vv)), (2, .int (Int32.ofInt nv))] [.int (Int32.ofInt e1009)] (Wd A dT t) 0 0
        refine z_bipush X rfl (z_icmp_gt X (t := 75) rfl rfl hrs1008 (by decide) (fun g1010 => ?_) (fun g1010 => ?_))
        ·
          refine WS_pq [0, 1, 2] (lv' := [(0, .ref (A 179)), (1, .int (Int32.ofInt vv)), (2, .int (Int32.ofInt nv))]) rfl ?_
          exact kx _ vv nv I F jjFDB ⟨hq, by first | exact Or.inr (Or.inr (oq_2fc2e26e g1010 hps1008)) | (clear hps1008 hps1004; omega) | (clear hps1004; omega) | omega⟩ (by first | exact ⟨hi.1, hi.2.1, hi.2.2.1, hi.2.2.2.1, hi.2.2.2.2.1, hi.2.2.2.2.2.1, hi.2.2.2.2.2.2⟩ | omega)
        ·
          refine z_load_n X (x := nv) rfl (List.Mem.tail _ (List.Mem.tail _ (List.Mem.head _))) (z_bipush X rfl (z_icmp_ge X (t := 67) rfl rfl ⟨by first | exact oq_fa4e5087 hi.2.2.2.2.2.1 | omega, by first | exact oq_52af2b96 hi.2.2.2.2.2.2 | omega⟩ (by decide) (fun g1011 => ?_) (fun g1011 => ?_)))
          ·
            refine z_load_n X (x := vv) rfl (List.Mem.tail _ (List.Mem.head _)) (z_store_n X (lv' := [(1, .int (Int32.ofInt vv)), (0, .ref (A 179)), (2, .int (Int32.ofInt nv))]) rfl (by decide) (fun _ h => h) (z_inc X (x := nv) (lv' := [(2, .int (Int32.ofInt (nv + 1))), (1, .int (Int32.ofInt vv)), (0, .ref (A 179))]) rfl (by decide) (List.Mem.tail _ (List.Mem.tail _ (List.Mem.head _))) (fun _ h => h) (z_goto X (t := 8) rfl rfl (WS_pq [2, 1, 0] (lv' := [(0, .ref (A 179)), (1, .int (Int32.ofInt vv)), (2, .int (Int32.ofInt (nv + 1)))]) rfl ?_))))
            exact ih _ vv (nv + 1) I F jjFDB (whq_up hq (by first | exact hi.2.2.2.2.2.1 | (clear hps1008 hps1004; omega) | (clear hps1004; omega) | omega) (by first | exact oq_5990e04c g1006 hps1004 | (clear hps1008 hps1004; omega) | (clear hps1004; omega) | omega) (c := B (iI t 77 + nv).toNat) rfl (by first | exact oq_4eeb8a82 g1006 hps1004 | (clear hps1008 hps1004; omega) | (clear hps1004; omega) | omega) (by first | exact oq_678a5568 g1010 hps1008 g1006 hps1004 | (clear hps1008 hps1004; omega) | (clear hps1004; omega) | omega) (by first | exact Or.inr (And.intro (g1011) (rfl)) | (clear hps1008 hps1004; omega) | (clear hps1004; omega) | omega)) (by first | exact ⟨hi.1, hi.2.1, hi.2.2.1, hi.2.2.2.1, hi.2.2.2.2.1, oq_ef1a1f20 g1011, by first | exact oq_e3748d73 hps1008 b1007.1 g1006 hps1004 hN b1002.2 | (clear hps1008 hps1004; omega) | (clear hps1004; omega) | omega⟩ | omega) (by first | exact oq_ffb65fd4 hps1008 b1007.1 g1006 hps1004 hN b1002.2 hm | (clear hps1008 hps1004; omega) | (clear hps1004; omega) | omega) kx
          ·
            refine z_bipush X rfl (z_load_n X (x := vv) rfl (List.Mem.tail _ (List.Mem.head _)) (z_mul X rfl (z_aload_n X (x := A 179) rfl (List.Mem.head _) (z_aload_n X (x := A 179) rfl (List.Mem.head _) (z_getI X 179 rfl (c518_ok rfl) rfl rfl ?_)))))
            have b1012 := bi_77 I
            refine z_load_n X (x := nv) rfl (List.Mem.tail _ (List.Mem.tail _ (List.Mem.head _))) (z_add X rfl (z_callV X 179 (rm := rmN 192) (As := [.int (Int32.ofInt ((iI t 77) + nv))]) (st := [.int (Int32.ofInt (27 * vv))]) rfl rfl (by decide) rfl (by rw [E.1, E.2.1, E.2.2.1]; exact k_byteAt2 G I jjFDB (by first | exact ⟨oq_d8d6a599 hi.2.2.2.2.2.1 b1012.1, oq_87b68bb9 g1011 b1012.2⟩ | omega)) ⟨by rw [E.2.2.2]; exact (show (rmN 192).frames + 1 ≤ (rmN 201).frames by decide), by rw [E.2.2.2]; exact (show 8 + (mNL (miB 192) + 11) + (rmN 192).locals ≤ (rmN 201).locals by decide), by rw [E.2.2.2]; exact (show 0 + (rmN 192).cells ≤ (rmN 201).cells by decide), by rw [E.2.2.2]; exact (show 0 + (rmN 192).slots ≤ (rmN 201).slots by decide)⟩ (Nat.le_of_ble_eq_true rfl) (fun vv s1013 hq => ?_) (fun ee s1013 hq => ?_)))
            rotate_left
            · obtain ⟨rfl, e1014, hv, hrs1013, hps1013⟩ := hq; cases hv
            obtain ⟨rfl, e1014, hv, hrs1013, hps1013⟩ := hq
            cases hv
            show WS k 58 [(0, .ref (A 179)), (1, .int (Int32.ofInt vv)), (2, .int (Int32.ofInt nv))] [.int (Int32.ofInt e1014), .int (Int32.ofInt (27 * vv))] (Wd A dT t) 0 0
            refine z_add X rfl (z_bipush X rfl (z_sub X rfl (z_const X rfl (z_add X rfl (z_goto X (t := 68) rfl rfl (z_store_n X (lv' := [(1, .int (Int32.ofInt ((((27 * vv) + e1014) - 97) + 1))), (0, .ref (A 179)), (2, .int (Int32.ofInt nv))]) rfl (by decide) (fun _ h => h) (z_inc X (x := nv) (lv' := [(2, .int (Int32.ofInt (nv + 1))), (1, .int (Int32.ofInt ((((27 * vv) + e1014) - 97) + 1))), (0, .ref (A 179))]) rfl (by decide) (List.Mem.tail _ (List.Mem.tail _ (List.Mem.head _))) (fun _ h => h) (z_goto X (t := 8) rfl rfl (WS_pq [2, 1, 0] (lv' := [(0, .ref (A 179)), (1, .int (Int32.ofInt ((((27 * vv) + e1014) - 97) + 1))), (2, .int (Int32.ofInt (nv + 1)))]) rfl ?_)))))))))
            exact ih _ ((((27 * vv) + e1014) - 97) + 1) (nv + 1) I F jjFDB (whq_up hq (by first | exact hi.2.2.2.2.2.1 | (clear hps1013 hps1008 hps1004; omega) | (clear hps1008 hps1004; omega) | omega) (by first | exact oq_5990e04c g1006 hps1004 | (clear hps1013 hps1008 hps1004; omega) | (clear hps1008 hps1004; omega) | omega) (c := B (iI t 77 + nv).toNat) rfl (by first | exact oq_4eeb8a82 g1006 hps1004 | (clear hps1013 hps1008 hps1004; omega) | (clear hps1008 hps1004; omega) | omega) (by first | exact oq_1d5b7f80 hps1013 g1010 hps1008 g1006 hps1004 | (clear hps1013 hps1008 hps1004; omega) | (clear hps1008 hps1004; omega) | omega) (by first | exact Or.inl (And.intro (g1011) (oq_0f41b1c0 hps1013 hps1008 g1006 hps1004)) | (clear hps1013 hps1008 hps1004; omega) | (clear hps1008 hps1004; omega) | omega)) (by first | exact ⟨hi.1, hi.2.1, hi.2.2.1, oq_a32421e0 hps1013 hps1008 g1006 hps1004 hi.2.2.2.1, by first | exact oq_d0f38564 hps1013 g1011 g1010 hps1008 hwb.2.1 | (clear hps1013 hps1008 hps1004; omega) | (clear hps1008 hps1004; omega) | omega, oq_54f49eb5 hi.2.2.2.2.2.1, oq_88fcdc91 g1011⟩ | omega) (by first | exact qk_me hm (by decide) (oq_8e8d8f07 g1011) | exact oq_f07152f7 g1011 hm | omega) kx
  refine z_aload_n X (x := A 179) rfl (List.Mem.head _) (zcV_v1 X E 179 (As := []) (st := []) rfl rfl rfl rfl (k_blanks2 G I jFDB (by first | exact p0 | omega)) rfl (Nat.le_of_ble_eq_true rfl) (fun s3 Is3 Fs3 JFDB_s3 hps3 => ?_))
  have hps3p := And.intro hps3.1 (hps3.2.1)
  have Gs3 := fm_tq F Fs3 rfl rfl
  have JFDB_s3 : FDB B N s3 := FDB_fm Fs3 (by decide) jFDB
  have b5 := bi_77 Is3
  have ws3_75 : iI s3 75 = iI s 75 := fm_iq Fs3 rfl
  refine z_const X rfl (z_store_n X (lv' := [(1, .int (Int32.ofInt 0)), (0, .ref (A 179))]) rfl (by decide) (fun _ h => h) (z_const X rfl (z_store_n X (lv' := [(2, .int (Int32.ofInt 0)), (1, .int (Int32.ofInt 0)), (0, .ref (A 179))]) rfl (by decide) (fun _ h => h) (WS_pq [2, 1, 0] (lv' := [(0, .ref (A 179)), (1, .int (Int32.ofInt 0)), (2, .int (Int32.ofInt 0))]) rfl (L8 ((200 - 0 : Int).toNat + 1) s3 0 0 Is3 Gs3 JFDB_s3 whq_0 (by first | exact ⟨hps3.1, hps3.2.1, hps3.2.2, by decide, by decide, by decide, by decide⟩ | omega) (Nat.lt_succ_self _) ?_)))))
  intro s6 x7 x8 Is6 Fs6 JFDB_s6 Qs6 hs6
  have b9 := bi_77 Is6
  have b10 := bi_75 Is6
  have hNs6 := JFDB_s6.2.1
  have hWs6 := JFDB_s6.2.2
  have hxq := Qs6.2
  refine z_load_n X (x := x8) rfl (List.Mem.tail _ (List.Mem.tail _ (List.Mem.head _))) (z_bipush X rfl ?_)
  have N11 : ∀ e12 : Int, (((x8 ≤ 6) ∧ e12 = x7) ∨ ((6 < x8) ∧ e12 = (-1))) → WS k 86 [(0, .ref (A 179)), (1, .int (Int32.ofInt x7)), (2, .int (Int32.ofInt x8))] [.int (Int32.ofInt e12)] (Wd A dT s6) 0 0 := by
    intro e12 he12
    exact w_iret X.1 q hRt rfl (ax_d X (show cdA 201 86 = some (.ireturn, 1, 0, 0, 0) from rfl)) (Nat.zero_le _) (Nat.zero_le _) ⟨_, rfl, Is6, Fs6, JFDB_s6, e12, rfl, ⟨by first | exact oq_e7138d84 he12 hs6.2.2.2.1 | omega, by first | exact oq_6ef3e61a he12 hs6.2.2.2.2.1 | omega⟩, ⟨by first | exact hs6.1 | omega, whq_end Qs6.1 (by first | exact hs6.2.2.2.2.2.1 | (clear he12 hps3; omega) | (clear hps3; omega) | omega) (by first | exact hxq | (clear he12 hps3; omega) | (clear hps3; omega) | omega) (by first | exact oq_68fa478d he12 | (clear he12 hps3; omega) | (clear hps3; omega) | omega), by first | exact hs6.2.1 | omega, by first | exact hs6.2.2.1 | omega⟩⟩
  refine z_icmp_le X (t := 85) rfl rfl ⟨by first | exact oq_fa4e5087 hs6.2.2.2.2.2.1 | omega, by first | exact oq_52af2b96 hs6.2.2.2.2.2.2 | omega⟩ (by decide) (fun g13 => ?_) (fun g13 => ?_)
  ·
    exact z_load_n X (x := x7) rfl (List.Mem.tail _ (List.Mem.head _)) (N11 _ (Or.inl ⟨g13, rfl⟩))
  ·
    exact z_const X rfl (z_goto X (t := 86) rfl rfl (N11 _ (Or.inr (⟨g13, rfl⟩))))
set_option maxRecDepth 4000 in
theorem k_number3 (G : GX l s0 D tys a0 dT) {B : Nat → Int} {N : Int} (hD : dgP B N (sk B N (iI s 77))) (I : Bd s) (jFDB : FDB B N s) {x y : Int} (p0 : rng x) (p1 : rng y) (p2 : iI s 77 ≤ 390) (p3 : iI s 79 = 0) : CT l s0 D A dT 196 (rmN 196) [.ref (A 179), .int (Int32.ofInt x), .int (Int32.ofInt y)] s (fun o t => Bd t ∧ Fm [77, 79, 80] [] s t ∧ FDB B N t ∧ ∃ e, o = .inl (some (.int (Int32.ofInt e))) ∧ rng e ∧ (e = nmV B N (sk B N (iI s 77)) 0 ∧ iI t 77 = nmE B N (sk B N (iI s 77)) 0 ∧ ((x ≤ e ∧ e ≤ y ∧ iI t 79 = 0) ∨ ((e < x ∨ y < e) ∧ iI t 79 = 2)) ∧ iI s 77 ≤ iI t 77 ∧ (iI t 77 = iI s 77 ∨ iI t 77 ≤ N))) := by
  refine ct_of G (by decide) (Nat.le_of_ble_eq_true rfl) (fun k X E hRt hXt q => ?_)
  show WS k 0 [(0, .ref (A 179)), (1, .int (Int32.ofInt x)), (2, .int (Int32.ofInt y))] [] _ 0 0
  have F : Fm [77, 79, 80] [] s s := fm_rf _ _ s
  have hN := jFDB.2.1
  have hW := jFDB.2.2
  have b1 := bi_77 I
  have b2 := bi_75 I
  have b3 := bi_79 I
  have L35 : ∀ (n : Nat) (t : PS) (xv yv bv vv : Int), Bd t → Fm [77, 79, 80] [] s t → FDB B N t → (nmV B N (iI t 77) vv = nmV B N (sk B N (iI s 77)) 0 ∧ nmE B N (iI t 77) vv = nmE B N (sk B N (iI s 77)) 0) → (iI s 77 ≤ iI t 77 ∧ (iI t 77 = iI s 77 ∨ iI t 77 ≤ N) ∧ xv = x ∧ yv = y ∧ (0 ≤ bv ∧ bv ≤ 400) ∧ 0 ≤ vv ∧ vv ≤ 100000 ∧ iI t 79 = 0) → (N - iI t 77 : Int).toNat < n → (∀ (t' : PS) (vv' : Int), Bd t' → Fm [77, 79, 80] [] s t' → FDB B N t' → (vv' = nmV B N (sk B N (iI s 77)) 0 ∧ iI t' 77 = nmE B N (sk B N (iI s 77)) 0) → (iI s 77 ≤ iI t' 77 ∧ (iI t' 77 = iI s 77 ∨ iI t' 77 ≤ N) ∧ xv = x ∧ yv = y ∧ (0 ≤ bv ∧ bv ≤ 400) ∧ 0 ≤ vv' ∧ vv' ≤ 100000 ∧ iI t' 79 = 0) → WS k 97 [(0, .ref (A 179)), (1, .int (Int32.ofInt xv)), (2, .int (Int32.ofInt yv)), (3, .int (Int32.ofInt bv)), (4, .int (Int32.ofInt vv'))] [] (Wd A dT t') 0 0) → WS k 35 [(0, .ref (A 179)), (1, .int (Int32.ofInt xv)), (2, .int (Int32.ofInt yv)), (3, .int (Int32.ofInt bv)), (4, .int (Int32.ofInt vv))] [] (Wd A dT t) 0 0 := by
    intro n
    induction n with
    | zero =>
      intro t xv yv bv vv I F jjFDB hq hi hm kx
      exact absurd hm (Nat.not_lt_zero _)
    | succ n ih =>
      intro t xv yv bv vv I F jjFDB hq hi hm kx
      have b1001 := bi_77 I
      have b1002 := bi_75 I
      have b1003 := bi_79 I
      have hN := jjFDB.2.1
      have hW := jjFDB.2.2
      refine z_aload_n X (x := A 179) rfl (List.Mem.head _) (z_aload_n X (x := A 179) rfl (List.Mem.head _) (z_getI X 179 rfl (c518_ok rfl) rfl rfl ?_))
      have b1004 := bi_77 I
      refine z_callV X 179 (rm := rmN 192) (As := [.int (Int32.ofInt (iI t 77))]) (st := []) rfl rfl (by decide) rfl (by rw [E.1, E.2.1, E.2.2.1]; exact k_byteAt2 G I jjFDB (by first | exact ⟨b1004.1, oq_5a8480eb b1004.2⟩ | omega)) ⟨by rw [E.2.2.2]; exact (show (rmN 192).frames + 1 ≤ (rmN 196).frames by decide), by rw [E.2.2.2]; exact (show 8 + (mNL (miB 192) + 11) + (rmN 192).locals ≤ (rmN 196).locals by decide), by rw [E.2.2.2]; exact (show 0 + (rmN 192).cells ≤ (rmN 196).cells by decide), by rw [E.2.2.2]; exact (show 0 + (rmN 192).slots ≤ (rmN 196).slots by decide)⟩ (Nat.le_of_ble_eq_true rfl) (fun vv s1005 hq => ?_) (fun ee s1005 hq => ?_)
      rotate_left
      · obtain ⟨rfl, e1006, hv, hrs1005, hps1005⟩ := hq; cases hv
      obtain ⟨rfl, e1006, hv, hrs1005, hps1005⟩ := hq
      cases hv
      show WS k 43 [(0, .ref (A 179)), (1, .int (Int32.ofInt xv)), (2, .int (Int32.ofInt yv)), (3, .int (Int32.ofInt bv)), (4, .int (Int32.ofInt vv))] [.int (Int32.ofInt e1006)] (Wd A dT t) 0 0
      refine z_callS X (rm := rmN 195) (As := [.int (Int32.ofInt e1006)]) (st := []) rfl rfl (by rw [E.1, E.2.1, E.2.2.1]; exact k_isDigit2 G I (by first | exact ⟨oq_1b38bc36 hps1005, oq_eabbb498 hps1005⟩ | omega)) ⟨by rw [E.2.2.2]; exact (show (rmN 195).frames + 1 ≤ (rmN 196).frames by decide), by rw [E.2.2.2]; exact (show 8 + (mNL (miB 195) + 11) + (rmN 195).locals ≤ (rmN 196).locals by decide), by rw [E.2.2.2]; exact (show 0 + (rmN 195).cells ≤ (rmN 196).cells by decide), by rw [E.2.2.2]; exact (show 0 + (rmN 195).slots ≤ (rmN 196).slots by decide)⟩ (Nat.le_of_ble_eq_true rfl) (fun vv s1007 hq => ?_) (fun ee s1007 hq => ?_)
      rotate_left
      · obtain ⟨rfl, e1008, hv, hrs1007, hps1007⟩ := hq; cases hv
      obtain ⟨rfl, e1008, hv, hrs1007, hps1007⟩ := hq
      cases hv
      show WS k 46 [(0, .ref (A 179)), (1, .int (Int32.ofInt xv)), (2, .int (Int32.ofInt yv)), (3, .int (Int32.ofInt bv)), (4, .int (Int32.ofInt vv))] [.int (Int32.ofInt e1008)] (Wd A dT t) 0 0
      refine z_if_eq X (t := 97) rfl rfl hrs1007 (fun g1009 => ?_) (fun g1009 => ?_)
      ·
        refine WS_pq [0, 1, 2, 3, 4] (lv' := [(0, .ref (A 179)), (1, .int (Int32.ofInt xv)), (2, .int (Int32.ofInt yv)), (3, .int (Int32.ofInt bv)), (4, .int (Int32.ofInt vv))]) rfl ?_
        exact kx _ vv I F jjFDB ⟨(nmV_stop (by first | exact oq_408a0309 g1009 hps1007 hps1005 | (clear hps1007 hps1005; omega) | (clear hps1005; omega) | omega)).symm.trans hq.1, (nmE_stop (by first | exact oq_408a0309 g1009 hps1007 hps1005 | (clear hps1007 hps1005; omega) | (clear hps1005; omega) | omega)).symm.trans hq.2⟩ (by first | exact ⟨hi.1, hi.2.1, hi.2.2.1, hi.2.2.2.1, And.intro (hi.2.2.2.2.1.1) (hi.2.2.2.2.1.2), hi.2.2.2.2.2.1, hi.2.2.2.2.2.2.1, hi.2.2.2.2.2.2.2⟩ | omega)
      ·
        refine z_bipush X rfl (z_load X (x := vv) rfl (List.Mem.tail _ (List.Mem.tail _ (List.Mem.tail _ (List.Mem.tail _ (List.Mem.head _))))) (z_mul X rfl (z_aload_n X (x := A 179) rfl (List.Mem.head _) (z_aload_n X (x := A 179) rfl (List.Mem.head _) (z_getI X 179 rfl (c518_ok rfl) rfl rfl ?_)))))
        have b1010 := bi_77 I
        refine z_callV X 179 (rm := rmN 192) (As := [.int (Int32.ofInt (iI t 77))]) (st := [.int (Int32.ofInt (10 * vv))]) rfl rfl (by decide) rfl (by rw [E.1, E.2.1, E.2.2.1]; exact k_byteAt2 G I jjFDB (by first | exact ⟨b1010.1, oq_5a8480eb b1010.2⟩ | omega)) ⟨by rw [E.2.2.2]; exact (show (rmN 192).frames + 1 ≤ (rmN 196).frames by decide), by rw [E.2.2.2]; exact (show 8 + (mNL (miB 192) + 11) + (rmN 192).locals ≤ (rmN 196).locals by decide), by rw [E.2.2.2]; exact (show 0 + (rmN 192).cells ≤ (rmN 196).cells by decide), by rw [E.2.2.2]; exact (show 0 + (rmN 192).slots ≤ (rmN 196).slots by decide)⟩ (Nat.le_of_ble_eq_true rfl) (fun vv s1011 hq => ?_) (fun ee s1011 hq => ?_)
        rotate_left
        · obtain ⟨rfl, e1012, hv, hrs1011, hps1011⟩ := hq; cases hv
        obtain ⟨rfl, e1012, hv, hrs1011, hps1011⟩ := hq
        cases hv
        show WS k 62 [(0, .ref (A 179)), (1, .int (Int32.ofInt xv)), (2, .int (Int32.ofInt yv)), (3, .int (Int32.ofInt bv)), (4, .int (Int32.ofInt vv))] [.int (Int32.ofInt e1012), .int (Int32.ofInt (10 * vv))] (Wd A dT t) 0 0
        refine z_add X rfl (z_bipush X rfl (z_sub X rfl (z_store X (lv' := [(4, .int (Int32.ofInt (((10 * vv) + e1012) - 48))), (0, .ref (A 179)), (1, .int (Int32.ofInt xv)), (2, .int (Int32.ofInt yv)), (3, .int (Int32.ofInt bv))]) rfl (by decide) (fun _ h => h) (z_load X (x := (((10 * vv) + e1012) - 48)) rfl (List.Mem.head _) (z_ldc X rfl (z_icmp_le X (t := 80) rfl rfl ⟨by first | exact oq_f9117428 hps1011 hi.2.2.2.2.2.1 | omega, by first | exact oq_84138788 hps1011 hi.2.2.2.2.2.2.1 | omega⟩ (by decide) (fun g1013 => ?_) (fun g1013 => ?_)))))))
        ·
          refine z_load X (x := (((10 * vv) + e1012) - 48)) rfl (List.Mem.head _) (z_store X (lv' := [(4, .int (Int32.ofInt (((10 * vv) + e1012) - 48))), (0, .ref (A 179)), (1, .int (Int32.ofInt xv)), (2, .int (Int32.ofInt yv)), (3, .int (Int32.ofInt bv))]) rfl (by decide) (fun _ h => h) (z_aload_n X (x := A 179) rfl (List.Mem.tail _ (List.Mem.head _)) (w_dup X.1 (ax_d X (show cdA 196 85 = some (.dup, 1, 0, 0, 0) from rfl)) rfl (z_getI X 179 rfl (c518_ok rfl) rfl rfl ?_))))
          have b1014 := bi_77 I
          refine z_const X rfl (z_add X rfl (s_putI X 179 rfl (c518_ok rfl) rfl rfl (by decide) rfl rfl rfl (wd_gen (fun s1015 hs1015 => ?_))))
          have Is1015 : Bd s1015 := eqB hs1015 (bd_I I (show (0 : Int) ≤ ((iI t 77) + 1) ∧ ((iI t 77) + 1) ≤ 400 by first | exact ⟨oq_54f49eb5 b1014.1, by first | exact oq_8f033a95 hN b1002.2 hi.2.1 p2 | (clear hps1011 g1009 hps1007 hps1005; omega) | (clear g1009 hps1007 hps1005; omega) | omega⟩ | omega) ⟨by first | exact oq_74de1e16 b1014.1 | omega, by first | exact oq_964ce197 b1014.2 | omega⟩)
          have Fs1015 := eqF hs1015 (fm_I F (inl_ok (a := 77) rfl))
          have vs1015 : iI s1015 77 = ((iI t 77) + 1) := eqI hs1015 (iI_u ⟨by first | exact oq_74de1e16 b1014.1 | omega, by first | exact oq_964ce197 b1014.2 | omega⟩)
          have ws1015_75 : iI s1015 75 = iI t 75 := eqI hs1015 rfl
          have ws1015_79 : iI s1015 79 = iI t 79 := eqI hs1015 rfl
          have fs1015 : Fm [77] [] t s1015 := by rw [hs1015]; exact fm_I (fm_rf _ _ _) (show 77 ∈ _ by decide)
          have JFDB_s1015 : FDB B N s1015 := FDB_fm fs1015 (by decide) jjFDB
          refine z_goto X (t := 35) rfl rfl (WS_pq [1, 2, 3, 4, 0] (lv' := [(0, .ref (A 179)), (1, .int (Int32.ofInt xv)), (2, .int (Int32.ofInt yv)), (3, .int (Int32.ofInt bv)), (4, .int (Int32.ofInt (((10 * vv) + e1012) - 48)))]) rfl ?_)
          exact ih _ xv yv bv (((10 * vv) + e1012) - 48) Is1015 Fs1015 JFDB_s1015 ⟨by rw [show iI s1015 77 = iI t 77 + 1 by first | exact vs1015 | (clear hps1011 g1009 hps1007 hps1005; omega) | (clear g1009 hps1007 hps1005; omega) | omega, show (((10 * vv) + e1012) - 48) = cap (10 * vv + B (iI t 77).toNat - 48) by unfold cap; split <;> omega, ← nmV_dig (by first | exact oq_a6991198 g1009 hps1007 hps1005 | (clear hps1011 g1009 hps1007 hps1005; omega) | (clear g1009 hps1007 hps1005; omega) | omega) (by first | exact oq_8ec20a9d hps1011 g1009 hps1007 hps1005 | (clear hps1011 g1009 hps1007 hps1005; omega) | (clear g1009 hps1007 hps1005; omega) | omega) (by first | exact oq_9cb55c03 hps1011 g1009 hps1007 hps1005 | (clear hps1011 g1009 hps1007 hps1005; omega) | (clear g1009 hps1007 hps1005; omega) | omega)]; exact hq.1, by rw [show iI s1015 77 = iI t 77 + 1 by first | exact vs1015 | (clear hps1011 g1009 hps1007 hps1005; omega) | (clear g1009 hps1007 hps1005; omega) | omega, show (((10 * vv) + e1012) - 48) = cap (10 * vv + B (iI t 77).toNat - 48) by unfold cap; split <;> omega, ← nmE_dig (by first | exact oq_a6991198 g1009 hps1007 hps1005 | (clear hps1011 g1009 hps1007 hps1005; omega) | (clear g1009 hps1007 hps1005; omega) | omega) (by first | exact oq_8ec20a9d hps1011 g1009 hps1007 hps1005 | (clear hps1011 g1009 hps1007 hps1005; omega) | (clear g1009 hps1007 hps1005; omega) | omega) (by first | exact oq_9cb55c03 hps1011 g1009 hps1007 hps1005 | (clear hps1011 g1009 hps1007 hps1005; omega) | (clear g1009 hps1007 hps1005; omega) | omega)]; exact hq.2⟩ (by first | exact ⟨oq_d12e8ac3 vs1015 hi.1, oq_644c4c0f vs1015 hps1011 g1009 hps1007 hps1005, hi.2.2.1, hi.2.2.2.1, And.intro (hi.2.2.2.2.1.1) (hi.2.2.2.2.1.2), oq_e46695f2 hps1011 g1009 hps1007 hps1005 hi.2.2.2.2.2.1, g1013, oq_333640b7 ws1015_79 hi.2.2.2.2.2.2.2 b1003.1⟩ | omega) (by first | exact qk_me hm (oq_563dee29 vs1015) (oq_780de08e hps1011 g1009 hps1007 hps1005) | omega) kx
        ·
          refine z_ldc X rfl (z_goto X (t := 82) rfl rfl (z_store X (lv' := [(4, .int (Int32.ofInt 100000)), (0, .ref (A 179)), (1, .int (Int32.ofInt xv)), (2, .int (Int32.ofInt yv)), (3, .int (Int32.ofInt bv))]) rfl (by decide) (fun _ h => h) (z_aload_n X (x := A 179) rfl (List.Mem.tail _ (List.Mem.head _)) (w_dup X.1 (ax_d X (show cdA 196 85 = some (.dup, 1, 0, 0, 0) from rfl)) rfl (z_getI X 179 rfl (c518_ok rfl) rfl rfl ?_)))))
          have b1016 := bi_77 I
          refine z_const X rfl (z_add X rfl (s_putI X 179 rfl (c518_ok rfl) rfl rfl (by decide) rfl rfl rfl (wd_gen (fun s1017 hs1017 => ?_))))
          have Is1017 : Bd s1017 := eqB hs1017 (bd_I I (show (0 : Int) ≤ ((iI t 77) + 1) ∧ ((iI t 77) + 1) ≤ 400 by first | exact ⟨oq_54f49eb5 b1016.1, by first | exact oq_8f033a95 hN b1002.2 hi.2.1 p2 | (clear hps1011 g1009 hps1007 hps1005; omega) | (clear g1009 hps1007 hps1005; omega) | omega⟩ | omega) ⟨by first | exact oq_74de1e16 b1016.1 | omega, by first | exact oq_964ce197 b1016.2 | omega⟩)
          have Fs1017 := eqF hs1017 (fm_I F (inl_ok (a := 77) rfl))
          have vs1017 : iI s1017 77 = ((iI t 77) + 1) := eqI hs1017 (iI_u ⟨by first | exact oq_74de1e16 b1016.1 | omega, by first | exact oq_964ce197 b1016.2 | omega⟩)
          have ws1017_75 : iI s1017 75 = iI t 75 := eqI hs1017 rfl
          have ws1017_79 : iI s1017 79 = iI t 79 := eqI hs1017 rfl
          have fs1017 : Fm [77] [] t s1017 := by rw [hs1017]; exact fm_I (fm_rf _ _ _) (show 77 ∈ _ by decide)
          have JFDB_s1017 : FDB B N s1017 := FDB_fm fs1017 (by decide) jjFDB
          refine z_goto X (t := 35) rfl rfl (WS_pq [1, 2, 3, 4, 0] (lv' := [(0, .ref (A 179)), (1, .int (Int32.ofInt xv)), (2, .int (Int32.ofInt yv)), (3, .int (Int32.ofInt bv)), (4, .int (Int32.ofInt 100000))]) rfl ?_)
          exact ih _ xv yv bv 100000 Is1017 Fs1017 JFDB_s1017 ⟨by rw [show iI s1017 77 = iI t 77 + 1 by first | exact vs1017 | (clear hps1011 g1009 hps1007 hps1005; omega) | (clear g1009 hps1007 hps1005; omega) | omega, show 100000 = cap (10 * vv + B (iI t 77).toNat - 48) by unfold cap; split <;> omega, ← nmV_dig (by first | exact oq_a6991198 g1009 hps1007 hps1005 | (clear hps1011 g1009 hps1007 hps1005; omega) | (clear g1009 hps1007 hps1005; omega) | omega) (by first | exact oq_8ec20a9d hps1011 g1009 hps1007 hps1005 | (clear hps1011 g1009 hps1007 hps1005; omega) | (clear g1009 hps1007 hps1005; omega) | omega) (by first | exact oq_9cb55c03 hps1011 g1009 hps1007 hps1005 | (clear hps1011 g1009 hps1007 hps1005; omega) | (clear g1009 hps1007 hps1005; omega) | omega)]; exact hq.1, by rw [show iI s1017 77 = iI t 77 + 1 by first | exact vs1017 | (clear hps1011 g1009 hps1007 hps1005; omega) | (clear g1009 hps1007 hps1005; omega) | omega, show 100000 = cap (10 * vv + B (iI t 77).toNat - 48) by unfold cap; split <;> omega, ← nmE_dig (by first | exact oq_a6991198 g1009 hps1007 hps1005 | (clear hps1011 g1009 hps1007 hps1005; omega) | (clear g1009 hps1007 hps1005; omega) | omega) (by first | exact oq_8ec20a9d hps1011 g1009 hps1007 hps1005 | (clear hps1011 g1009 hps1007 hps1005; omega) | (clear g1009 hps1007 hps1005; omega) | omega) (by first | exact oq_9cb55c03 hps1011 g1009 hps1007 hps1005 | (clear hps1011 g1009 hps1007 hps1005; omega) | (clear g1009 hps1007 hps1005; omega) | omega)]; exact hq.2⟩ (by first | exact ⟨oq_d12e8ac3 vs1017 hi.1, oq_644c4c0f vs1017 hps1011 g1009 hps1007 hps1005, hi.2.2.1, hi.2.2.2.1, And.intro (hi.2.2.2.2.1.1) (hi.2.2.2.2.1.2), by decide, by decide, oq_333640b7 ws1017_79 hi.2.2.2.2.2.2.2 b1003.1⟩ | omega) (by first | exact qk_me hm (oq_563dee29 vs1017) (oq_780de08e hps1011 g1009 hps1007 hps1005) | omega) kx
  refine z_aload_n X (x := A 179) rfl (List.Mem.head _) (zcV_v1 X E 179 (As := []) (st := []) rfl rfl rfl rfl (k_blanks2 G I jFDB (by first | exact p2 | omega)) rfl (Nat.le_of_ble_eq_true rfl) (fun s4 Is4 Fs4 JFDB_s4 hps4 => ?_))
  have hps4p := And.intro hps4.1 (hps4.2.1)
  have Gs4 := fm_tq F Fs4 rfl rfl
  have JFDB_s4 : FDB B N s4 := FDB_fm Fs4 (by decide) jFDB
  have b6 := bi_77 Is4
  have ws4_75 : iI s4 75 = iI s 75 := fm_iq Fs4 rfl
  have ws4_79 : iI s4 79 = iI s 79 := fm_iq Fs4 rfl
  have hDz : iI s4 77 < N ∧ 48 ≤ B (iI s4 77).toNat ∧ B (iI s4 77).toNat ≤ 57 := by rw [hps4.1]; exact hD
  refine z_aload_n X (x := A 179) rfl (List.Mem.head _) (z_getI X 179 rfl (c518_ok rfl) rfl rfl ?_)
  have b7 := bi_77 Is4
  refine z_store_n X (lv' := [(3, .int (Int32.ofInt (iI s4 77))), (0, .ref (A 179)), (1, .int (Int32.ofInt x)), (2, .int (Int32.ofInt y))]) rfl (by decide) (fun _ h => h) (z_const X rfl (z_store X (lv' := [(4, .int (Int32.ofInt 0)), (3, .int (Int32.ofInt (iI s4 77))), (0, .ref (A 179)), (1, .int (Int32.ofInt x)), (2, .int (Int32.ofInt y))]) rfl (by decide) (fun _ h => h) (z_aload_n X (x := A 179) rfl (List.Mem.tail _ (List.Mem.tail _ (List.Mem.head _))) (z_aload_n X (x := A 179) rfl (List.Mem.tail _ (List.Mem.tail _ (List.Mem.head _))) (z_getI X 179 rfl (c518_ok rfl) rfl rfl ?_)))))
  have b8 := bi_77 Is4
  refine z_callV X 179 (rm := rmN 192) (As := [.int (Int32.ofInt (iI s4 77))]) (st := []) rfl rfl (by decide) rfl (by rw [E.1, E.2.1, E.2.2.1]; exact k_byteAt2 G Is4 JFDB_s4 (by first | exact ⟨b8.1, oq_5a8480eb b8.2⟩ | omega)) ⟨by rw [E.2.2.2]; exact (show (rmN 192).frames + 1 ≤ (rmN 196).frames by decide), by rw [E.2.2.2]; exact (show 8 + (mNL (miB 192) + 11) + (rmN 192).locals ≤ (rmN 196).locals by decide), by rw [E.2.2.2]; exact (show 0 + (rmN 192).cells ≤ (rmN 196).cells by decide), by rw [E.2.2.2]; exact (show 0 + (rmN 192).slots ≤ (rmN 196).slots by decide)⟩ (Nat.le_of_ble_eq_true rfl) (fun vv s9 hq => ?_) (fun ee s9 hq => ?_)
  rotate_left
  · obtain ⟨rfl, e10, hv, hrs9, hps9⟩ := hq; cases hv
  obtain ⟨rfl, e10, hv, hrs9, hps9⟩ := hq
  cases hv
  show WS k 20 [(4, .int (Int32.ofInt 0)), (3, .int (Int32.ofInt (iI s4 77))), (0, .ref (A 179)), (1, .int (Int32.ofInt x)), (2, .int (Int32.ofInt y))] [.int (Int32.ofInt e10)] (Wd A dT s4) 0 0
  refine z_callS X (rm := rmN 195) (As := [.int (Int32.ofInt e10)]) (st := []) rfl rfl (by rw [E.1, E.2.1, E.2.2.1]; exact k_isDigit2 G Is4 (by first | exact ⟨oq_1b38bc36 hps9, oq_eabbb498 hps9⟩ | omega)) ⟨by rw [E.2.2.2]; exact (show (rmN 195).frames + 1 ≤ (rmN 196).frames by decide), by rw [E.2.2.2]; exact (show 8 + (mNL (miB 195) + 11) + (rmN 195).locals ≤ (rmN 196).locals by decide), by rw [E.2.2.2]; exact (show 0 + (rmN 195).cells ≤ (rmN 196).cells by decide), by rw [E.2.2.2]; exact (show 0 + (rmN 195).slots ≤ (rmN 196).slots by decide)⟩ (Nat.le_of_ble_eq_true rfl) (fun vv s11 hq => ?_) (fun ee s11 hq => ?_)
  rotate_left
  · obtain ⟨rfl, e12, hv, hrs11, hps11⟩ := hq; cases hv
  obtain ⟨rfl, e12, hv, hrs11, hps11⟩ := hq
  cases hv
  show WS k 23 [(4, .int (Int32.ofInt 0)), (3, .int (Int32.ofInt (iI s4 77))), (0, .ref (A 179)), (1, .int (Int32.ofInt x)), (2, .int (Int32.ofInt y))] [.int (Int32.ofInt e12)] (Wd A dT s4) 0 0
  refine z_if_ne X (t := 35) rfl rfl hrs11 (fun g13 => ?_) (fun g13 => ?_)
  ·
    refine WS_pq [2, 3, 4, 1, 0] (lv' := [(0, .ref (A 179)), (1, .int (Int32.ofInt x)), (2, .int (Int32.ofInt y)), (3, .int (Int32.ofInt (iI s4 77))), (4, .int (Int32.ofInt 0))]) rfl (L35 ((N - iI s4 77 : Int).toNat + 1) s4 x y (iI s4 77) 0 Is4 Gs4 JFDB_s4 ⟨by rw [show iI s4 77 = sk B N (iI s 77) by first | exact hps4p.1 | (clear g13 hps11 hps9 hps4; omega) | (clear hps11 hps9 hps4; omega) | omega], by rw [show iI s4 77 = sk B N (iI s 77) by first | exact hps4p.1 | (clear g13 hps11 hps9 hps4; omega) | (clear hps11 hps9 hps4; omega) | omega]⟩ (by first | exact ⟨hps4.2.1, hps4.2.2, by decide, by decide, And.intro (b8.1) (b8.2), by decide, by decide, oq_333640b7 ws4_79 p3 b3.1⟩ | exact And.intro (hps4p.2) (And.intro (hps4.2.2) (And.intro (rfl) (And.intro (rfl) (And.intro (And.intro (b6.1) (b6.2)) (And.intro (oq_0fe6b7e2) (And.intro (oq_844ef9a0) (oq_896be9ba ws4_79 b3.1 p3))))))) | omega) (Nat.lt_succ_self _) ?_)
    intro s14 x15 Is14 Fs14 JFDB_s14 Qs14 hs14
    have b16 := bi_77 Is14
    have b17 := bi_75 Is14
    have b18 := bi_79 Is14
    have hNs14 := JFDB_s14.2.1
    have hWs14 := JFDB_s14.2.2
    have hx1 := Qs14.1
    have hx2 := Qs14.2
    refine z_load X (x := x15) rfl (List.Mem.tail _ (List.Mem.tail _ (List.Mem.tail _ (List.Mem.tail _ (List.Mem.head _))))) (z_load_n X (x := x) rfl (List.Mem.tail _ (List.Mem.head _)) (z_load_n X (x := y) rfl (List.Mem.tail _ (List.Mem.tail _ (List.Mem.head _))) (z_callS X (rm := rmN 188) (As := [.int (Int32.ofInt x15), .int (Int32.ofInt x), .int (Int32.ofInt y)]) (st := []) rfl rfl (by rw [E.1, E.2.1, E.2.2.1]; exact k_in2 G Is14 (by first | exact ⟨oq_fa4e5087 hs14.2.2.2.2.2.1, oq_25953902 hs14.2.2.2.2.2.2.1⟩ | omega) (by first | exact ⟨p0.1, p0.2⟩ | omega) (by first | exact ⟨p1.1, p1.2⟩ | omega)) ⟨by rw [E.2.2.2]; exact (show (rmN 188).frames + 1 ≤ (rmN 196).frames by decide), by rw [E.2.2.2]; exact (show 8 + (mNL (miB 188) + 11) + (rmN 188).locals ≤ (rmN 196).locals by decide), by rw [E.2.2.2]; exact (show 0 + (rmN 188).cells ≤ (rmN 196).cells by decide), by rw [E.2.2.2]; exact (show 0 + (rmN 188).slots ≤ (rmN 196).slots by decide)⟩ (Nat.le_of_ble_eq_true rfl) (fun vv s19 hq => ?_) (fun ee s19 hq => ?_))))
    rotate_left
    · obtain ⟨rfl, e20, hv, hrs19, hps19⟩ := hq; cases hv
    obtain ⟨rfl, e20, hv, hrs19, hps19⟩ := hq
    cases hv
    show WS k 104 [(0, .ref (A 179)), (1, .int (Int32.ofInt x)), (2, .int (Int32.ofInt y)), (3, .int (Int32.ofInt (iI s4 77))), (4, .int (Int32.ofInt x15))] [.int (Int32.ofInt e20)] (Wd A dT s14) 0 0
    refine z_if_ne X (t := 113) rfl rfl hrs19 (fun g21 => ?_) (fun g21 => ?_)
    ·
      refine z_load X (x := x15) rfl (List.Mem.tail _ (List.Mem.tail _ (List.Mem.tail _ (List.Mem.tail _ (List.Mem.head _))))) ?_
      exact w_iret X.1 q hRt rfl (ax_d X (show cdA 196 115 = some (.ireturn, 1, 0, 0, 0) from rfl)) (Nat.zero_le _) (Nat.zero_le _) ⟨_, rfl, Is14, Fs14, JFDB_s14, x15, rfl, ⟨by first | exact oq_fa4e5087 hs14.2.2.2.2.2.1 | omega, by first | exact oq_25953902 hs14.2.2.2.2.2.2.1 | omega⟩, ⟨by first | exact hx1 | (clear g21 hps19 g13 hps11 hps9 hps4; omega) | (clear hps19 g13 hps11 hps9 hps4; omega) | omega, by first | exact hx2 | (clear g21 hps19 g13 hps11 hps9 hps4; omega) | (clear hps19 g13 hps11 hps9 hps4; omega) | omega, by first | exact oq_ac662587 g21 hps19 b18.1 hs14.2.2.2.2.2.2.2 | omega, by first | exact hs14.1 | omega, by first | exact hs14.2.1 | omega⟩⟩
    ·
      refine z_aload_n X (x := A 179) rfl (List.Mem.head _) (z_const X rfl (z_load_n X (x := (iI s4 77)) rfl (List.Mem.tail _ (List.Mem.tail _ (List.Mem.tail _ (List.Mem.head _)))) (zcV_v0 X E 179 (As := [.int (Int32.ofInt 2), .int (Int32.ofInt (iI s4 77))]) (st := []) rfl rfl rfl rfl (k_wrong3 G Is14 (by first | exact ⟨by decide, by decide⟩ | omega) (by first | exact ⟨oq_ca54ea22 hs14.2.2.2.2.1.1, hs14.2.2.2.2.1.2⟩ | omega)) rfl (Nat.le_of_ble_eq_true rfl) (fun s22 Is22 Fs22 hps22 => ?_))))
      have Gs22 := fm_tq Fs14 Fs22 rfl rfl
      have JFDB_s22 : FDB B N s22 := FDB_fm Fs22 (by decide) JFDB_s14
      have ws22_77 : iI s22 77 = iI s14 77 := fm_iq Fs22 rfl
      have ws22_75 : iI s22 75 = iI s14 75 := fm_iq Fs22 rfl
      have b24 := bi_79 Is22
      refine z_load X (x := x15) rfl (List.Mem.tail _ (List.Mem.tail _ (List.Mem.tail _ (List.Mem.tail _ (List.Mem.head _))))) ?_
      exact w_iret X.1 q hRt rfl (ax_d X (show cdA 196 115 = some (.ireturn, 1, 0, 0, 0) from rfl)) (Nat.zero_le _) (Nat.zero_le _) ⟨_, rfl, Is22, Gs22, JFDB_s22, x15, rfl, ⟨by first | exact oq_fa4e5087 hs14.2.2.2.2.2.1 | omega, by first | exact oq_25953902 hs14.2.2.2.2.2.2.1 | omega⟩, ⟨by first | exact hx1 | (clear hps22 hps19 g13 hps11 hps9 hps4; omega) | (clear hps19 g13 hps11 hps9 hps4; omega) | omega, by first | exact oq_1aa5be9e ws22_77 hx2 | (clear hps22 hps19 g13 hps11 hps9 hps4; omega) | (clear hps19 g13 hps11 hps9 hps4; omega) | omega, by first | exact oq_bd4be526 hps22 g21 hps19 b18.1 hs14.2.2.2.2.2.2.2 | omega, by first | exact oq_9272904e ws22_77 hs14.1 | omega, by first | exact oq_45e7c035 ws22_77 hs14.2.1 hDz.1 hps4.2.1 | omega⟩⟩
  ·
    refine z_aload_n X (x := A 179) rfl (List.Mem.tail _ (List.Mem.tail _ (List.Mem.head _))) (z_const X rfl (z_aload_n X (x := A 179) rfl (List.Mem.tail _ (List.Mem.tail _ (List.Mem.head _))) (z_getI X 179 rfl (c518_ok rfl) rfl rfl ?_)))
    have b25 := bi_77 Is4
    refine zcV_v0 X E 179 (As := [.int (Int32.ofInt 1), .int (Int32.ofInt (iI s4 77))]) (st := []) rfl rfl rfl rfl (k_wrong3 G Is4 (by first | exact ⟨by decide, by decide⟩ | omega) (by first | exact ⟨oq_ca54ea22 b25.1, b25.2⟩ | omega)) rfl (Nat.le_of_ble_eq_true rfl) (fun s26 Is26 Fs26 hps26 => ?_)
    have Gs26 := fm_tq Gs4 Fs26 rfl rfl
    have JFDB_s26 : FDB B N s26 := FDB_fm Fs26 (by decide) JFDB_s4
    have ws26_77 : iI s26 77 = iI s4 77 := fm_iq Fs26 rfl
    have ws26_75 : iI s26 75 = iI s4 75 := fm_iq Fs26 rfl
    have b28 := bi_79 Is26
    refine WS_pq [2, 3, 4, 1, 0] (lv' := [(0, .ref (A 179)), (1, .int (Int32.ofInt x)), (2, .int (Int32.ofInt y)), (3, .int (Int32.ofInt (iI s4 77))), (4, .int (Int32.ofInt 0))]) rfl (L35 ((N - iI s26 77 : Int).toNat + 1) s26 x y (iI s4 77) 0 Is26 Gs26 JFDB_s26 ⟨by rw [show iI s26 77 = sk B N (iI s 77) by first | exact oq_1aa5be9e ws26_77 hps4p.1 | (clear hps26 hps11 hps9 hps4; omega) | (clear hps11 hps9 hps4; omega) | omega], by rw [show iI s26 77 = sk B N (iI s 77) by first | exact oq_1aa5be9e ws26_77 hps4p.1 | (clear hps26 hps11 hps9 hps4; omega) | (clear hps11 hps9 hps4; omega) | omega]⟩ (by first | exact ⟨oq_9272904e ws26_77 hps4.2.1, Or.inr (oq_5c910f19 hDz.1 ws26_77), by decide, by decide, And.intro (b25.1) (b25.2), by decide, by decide, oq_43551d26 g13 hps11 hps9 hDz.2.2 hDz.2.1 hDz.1⟩ | exact And.intro (oq_9272904e ws26_77 hps4p.2) (And.intro (Or.inl (oq_06eed5c1 g13 hps11 hps9 hDz.2.2 hDz.2.1 hDz.1)) (And.intro (rfl) (And.intro (rfl) (And.intro (And.intro (b25.1) (b25.2)) (And.intro (oq_0fe6b7e2) (And.intro (oq_844ef9a0) (oq_43551d26 g13 hps11 hps9 hDz.2.2 hDz.2.1 hDz.1))))))) | omega) (Nat.lt_succ_self _) ?_)
    intro s29 x30 Is29 Fs29 JFDB_s29 Qs29 hs29
    have b31 := bi_77 Is29
    have b32 := bi_75 Is29
    have b33 := bi_79 Is29
    have hNs29 := JFDB_s29.2.1
    have hWs29 := JFDB_s29.2.2
    have hx1 := Qs29.1
    have hx2 := Qs29.2
    refine z_load X (x := x30) rfl (List.Mem.tail _ (List.Mem.tail _ (List.Mem.tail _ (List.Mem.tail _ (List.Mem.head _))))) (z_load_n X (x := x) rfl (List.Mem.tail _ (List.Mem.head _)) (z_load_n X (x := y) rfl (List.Mem.tail _ (List.Mem.tail _ (List.Mem.head _))) (z_callS X (rm := rmN 188) (As := [.int (Int32.ofInt x30), .int (Int32.ofInt x), .int (Int32.ofInt y)]) (st := []) rfl rfl (by rw [E.1, E.2.1, E.2.2.1]; exact k_in2 G Is29 (by first | exact ⟨oq_fa4e5087 hs29.2.2.2.2.2.1, oq_25953902 hs29.2.2.2.2.2.2.1⟩ | omega) (by first | exact ⟨p0.1, p0.2⟩ | omega) (by first | exact ⟨p1.1, p1.2⟩ | omega)) ⟨by rw [E.2.2.2]; exact (show (rmN 188).frames + 1 ≤ (rmN 196).frames by decide), by rw [E.2.2.2]; exact (show 8 + (mNL (miB 188) + 11) + (rmN 188).locals ≤ (rmN 196).locals by decide), by rw [E.2.2.2]; exact (show 0 + (rmN 188).cells ≤ (rmN 196).cells by decide), by rw [E.2.2.2]; exact (show 0 + (rmN 188).slots ≤ (rmN 196).slots by decide)⟩ (Nat.le_of_ble_eq_true rfl) (fun vv s34 hq => ?_) (fun ee s34 hq => ?_))))
    rotate_left
    · obtain ⟨rfl, e35, hv, hrs34, hps34⟩ := hq; cases hv
    obtain ⟨rfl, e35, hv, hrs34, hps34⟩ := hq
    cases hv
    show WS k 104 [(0, .ref (A 179)), (1, .int (Int32.ofInt x)), (2, .int (Int32.ofInt y)), (3, .int (Int32.ofInt (iI s4 77))), (4, .int (Int32.ofInt x30))] [.int (Int32.ofInt e35)] (Wd A dT s29) 0 0
    refine z_if_ne X (t := 113) rfl rfl hrs34 (fun g36 => ?_) (fun g36 => ?_)
    ·
      refine z_load X (x := x30) rfl (List.Mem.tail _ (List.Mem.tail _ (List.Mem.tail _ (List.Mem.tail _ (List.Mem.head _))))) ?_
      exact w_iret X.1 q hRt rfl (ax_d X (show cdA 196 115 = some (.ireturn, 1, 0, 0, 0) from rfl)) (Nat.zero_le _) (Nat.zero_le _) ⟨_, rfl, Is29, Fs29, JFDB_s29, x30, rfl, ⟨by first | exact oq_fa4e5087 hs29.2.2.2.2.2.1 | omega, by first | exact oq_25953902 hs29.2.2.2.2.2.2.1 | omega⟩, ⟨by first | exact oq_06eed5c1 g13 hps11 hps9 hDz.2.2 hDz.2.1 hDz.1 | omega, by first | exact oq_06eed5c1 g13 hps11 hps9 hDz.2.2 hDz.2.1 hDz.1 | omega, by first | exact oq_df0ffcf0 g13 hps11 hps9 hDz.2.2 hDz.2.1 hDz.1 | omega, by first | exact hs29.1 | omega, by first | exact hs29.2.1 | omega⟩⟩
    ·
      refine z_aload_n X (x := A 179) rfl (List.Mem.head _) (z_const X rfl (z_load_n X (x := (iI s4 77)) rfl (List.Mem.tail _ (List.Mem.tail _ (List.Mem.tail _ (List.Mem.head _)))) (zcV_v0 X E 179 (As := [.int (Int32.ofInt 2), .int (Int32.ofInt (iI s4 77))]) (st := []) rfl rfl rfl rfl (k_wrong3 G Is29 (by first | exact ⟨by decide, by decide⟩ | omega) (by first | exact ⟨oq_ca54ea22 hs29.2.2.2.2.1.1, hs29.2.2.2.2.1.2⟩ | omega)) rfl (Nat.le_of_ble_eq_true rfl) (fun s37 Is37 Fs37 hps37 => ?_))))
      have Gs37 := fm_tq Fs29 Fs37 rfl rfl
      have JFDB_s37 : FDB B N s37 := FDB_fm Fs37 (by decide) JFDB_s29
      have ws37_77 : iI s37 77 = iI s29 77 := fm_iq Fs37 rfl
      have ws37_75 : iI s37 75 = iI s29 75 := fm_iq Fs37 rfl
      have b39 := bi_79 Is37
      refine z_load X (x := x30) rfl (List.Mem.tail _ (List.Mem.tail _ (List.Mem.tail _ (List.Mem.tail _ (List.Mem.head _))))) ?_
      exact w_iret X.1 q hRt rfl (ax_d X (show cdA 196 115 = some (.ireturn, 1, 0, 0, 0) from rfl)) (Nat.zero_le _) (Nat.zero_le _) ⟨_, rfl, Is37, Gs37, JFDB_s37, x30, rfl, ⟨by first | exact oq_fa4e5087 hs29.2.2.2.2.2.1 | omega, by first | exact oq_25953902 hs29.2.2.2.2.2.2.1 | omega⟩, ⟨by first | exact oq_06eed5c1 g13 hps11 hps9 hDz.2.2 hDz.2.1 hDz.1 | omega, by first | exact oq_06eed5c1 g13 hps11 hps9 hDz.2.2 hDz.2.1 hDz.1 | omega, by first | exact oq_df0ffcf0 g13 hps11 hps9 hDz.2.2 hDz.2.1 hDz.1 | omega, by first | exact oq_9272904e ws37_77 hs29.1 | omega, by first | exact oq_45e7c035 ws37_77 hs29.2.1 hDz.1 hps4.2.1 | omega⟩⟩
set_option maxRecDepth 4000 in
theorem k_nameHere3 (G : GX l s0 D tys a0 dT) {B : Nat → Int} {N : Int} (I : Bd s) (jFDB : FDB B N s) (p0 : iI s 77 ≤ 390) : CT l s0 D A dT 206 (rmN 206) [.ref (A 179)] s (fun o t => Bd t ∧ Fm [77] [] s t ∧ FDB B N t ∧ ∃ e, o = .inl (some (.int (Int32.ofInt e))) ∧ rng e ∧ (iI t 77 = sk B N (iI s 77) ∧ ((e = -1 ∧ nmC B N (iI t 77) = 0) ∨ (0 ≤ e ∧ e ≤ 6 ∧ nmC B N (iI t 77) = -1 - e)) ∧ iI s 77 ≤ iI t 77 ∧ (iI t 77 = iI s 77 ∨ iI t 77 ≤ N))) := by
  refine ct_of G (by decide) (Nat.le_of_ble_eq_true rfl) (fun k X E hRt hXt q => ?_)
  show WS k 0 [(0, .ref (A 179))] [] _ 0 0
  have F : Fm [77] [] s s := fm_rf _ _ s
  have hN := jFDB.2.1
  have hW := jFDB.2.2
  have b1 := bi_77 I
  have b2 := bi_75 I
  refine z_aload_n X (x := A 179) rfl (List.Mem.head _) (zcV_i1 X E 179 (As := []) (st := []) rfl rfl rfl rfl (k_wordHere3 G I jFDB (by first | exact p0 | omega)) rfl (Nat.le_of_ble_eq_true rfl) (fun s3 e4 Is3 Fs3 JFDB_s3 hrs3 hps3 => ?_))
  have hps3p := And.intro hps3.1 (And.intro hps3.2.1 (hps3.2.2.1))
  have Gs3 := fm_tq F Fs3 rfl rfl
  have JFDB_s3 : FDB B N s3 := FDB_fm Fs3 (by decide) jFDB
  have b5 := bi_77 Is3
  have ws3_75 : iI s3 75 = iI s 75 := fm_iq Fs3 rfl
  have hwv : e4 = whV B N (iI s3 77) := hps3.2.1
  refine z_store_n X (lv' := [(1, .int (Int32.ofInt e4)), (0, .ref (A 179))]) rfl (by decide) (fun _ h => h) (z_load_n X (x := e4) rfl (List.Mem.head _) (z_bipush X rfl (z_const X rfl (z_bipush X rfl (z_bipush X rfl (z_const X rfl (z_const X rfl (z_callS X (rm := rmN 202) (As := [.int (Int32.ofInt 23), .int (Int32.ofInt 1), .int (Int32.ofInt 25), .int (Int32.ofInt 19), .int (Int32.ofInt 0), .int (Int32.ofInt 0)]) (st := [.int (Int32.ofInt e4)]) rfl rfl (by rw [E.1, E.2.1, E.2.2.1]; exact k_word3 G Is3 (by first | exact ⟨by decide, by decide⟩ | omega) (by first | exact ⟨by decide, by decide⟩ | omega) (by first | exact ⟨by decide, by decide⟩ | omega) (by first | exact ⟨by decide, by decide⟩ | omega) (by first | exact ⟨by decide, by decide⟩ | omega) (by first | exact ⟨by decide, by decide⟩ | omega)) ⟨by rw [E.2.2.2]; exact (show (rmN 202).frames + 1 ≤ (rmN 206).frames by decide), by rw [E.2.2.2]; exact (show 8 + (mNL (miB 202) + 11) + (rmN 202).locals ≤ (rmN 206).locals by decide), by rw [E.2.2.2]; exact (show 0 + (rmN 202).cells ≤ (rmN 206).cells by decide), by rw [E.2.2.2]; exact (show 0 + (rmN 202).slots ≤ (rmN 206).slots by decide)⟩ (Nat.le_of_ble_eq_true rfl) (fun vv s6 hq => ?_) (fun ee s6 hq => ?_)))))))))
  rotate_left
  · obtain ⟨rfl, e7, hv, hrs6, hps6⟩ := hq; cases hv
  obtain ⟨rfl, e7, hv, hrs6, hps6⟩ := hq
  cases hv
  show WS k 18 [(1, .int (Int32.ofInt e4)), (0, .ref (A 179))] [.int (Int32.ofInt e7), .int (Int32.ofInt e4)] (Wd A dT s3) 0 0
  have hk8 : e7 = 454132 := by rw [hps6.2]; decide
  refine z_icmp_ne X (t := 23) rfl rfl hrs3 hrs6 (fun g9 => ?_) (fun g9 => ?_)
  ·
    refine z_load_n X (x := e4) rfl (List.Mem.head _) (z_const X rfl (z_bipush X rfl (z_bipush X rfl (z_bipush X rfl (z_bipush X rfl (z_const X rfl (z_callS X (rm := rmN 202) (As := [.int (Int32.ofInt 3), .int (Int32.ofInt 18), .int (Int32.ofInt 15), .int (Int32.ofInt 19), .int (Int32.ofInt 19), .int (Int32.ofInt 0)]) (st := [.int (Int32.ofInt e4)]) rfl rfl (by rw [E.1, E.2.1, E.2.2.1]; exact k_word3 G Is3 (by first | exact ⟨by decide, by decide⟩ | omega) (by first | exact ⟨by decide, by decide⟩ | omega) (by first | exact ⟨by decide, by decide⟩ | omega) (by first | exact ⟨by decide, by decide⟩ | omega) (by first | exact ⟨by decide, by decide⟩ | omega) (by first | exact ⟨by decide, by decide⟩ | omega)) ⟨by rw [E.2.2.2]; exact (show (rmN 202).frames + 1 ≤ (rmN 206).frames by decide), by rw [E.2.2.2]; exact (show 8 + (mNL (miB 202) + 11) + (rmN 202).locals ≤ (rmN 206).locals by decide), by rw [E.2.2.2]; exact (show 0 + (rmN 202).cells ≤ (rmN 206).cells by decide), by rw [E.2.2.2]; exact (show 0 + (rmN 202).slots ≤ (rmN 206).slots by decide)⟩ (Nat.le_of_ble_eq_true rfl) (fun vv s10 hq => ?_) (fun ee s10 hq => ?_))))))))
    rotate_left
    · obtain ⟨rfl, e11, hv, hrs10, hps10⟩ := hq; cases hv
    obtain ⟨rfl, e11, hv, hrs10, hps10⟩ := hq
    cases hv
    show WS k 37 [(1, .int (Int32.ofInt e4)), (0, .ref (A 179))] [.int (Int32.ofInt e11), .int (Int32.ofInt e4)] (Wd A dT s3) 0 0
    have hk12 : e11 = 1960084 := by rw [hps10.2]; decide
    refine z_icmp_ne X (t := 42) rfl rfl hrs3 hrs10 (fun g13 => ?_) (fun g13 => ?_)
    ·
      refine z_load_n X (x := e4) rfl (List.Mem.head _) (z_bipush X rfl (z_bipush X rfl (z_const X rfl (z_bipush X rfl (z_const X rfl (z_const X rfl (z_callS X (rm := rmN 202) (As := [.int (Int32.ofInt 15), .int (Int32.ofInt 22), .int (Int32.ofInt 5), .int (Int32.ofInt 18), .int (Int32.ofInt 0), .int (Int32.ofInt 0)]) (st := [.int (Int32.ofInt e4)]) rfl rfl (by rw [E.1, E.2.1, E.2.2.1]; exact k_word3 G Is3 (by first | exact ⟨by decide, by decide⟩ | omega) (by first | exact ⟨by decide, by decide⟩ | omega) (by first | exact ⟨by decide, by decide⟩ | omega) (by first | exact ⟨by decide, by decide⟩ | omega) (by first | exact ⟨by decide, by decide⟩ | omega) (by first | exact ⟨by decide, by decide⟩ | omega)) ⟨by rw [E.2.2.2]; exact (show (rmN 202).frames + 1 ≤ (rmN 206).frames by decide), by rw [E.2.2.2]; exact (show 8 + (mNL (miB 202) + 11) + (rmN 202).locals ≤ (rmN 206).locals by decide), by rw [E.2.2.2]; exact (show 0 + (rmN 202).cells ≤ (rmN 206).cells by decide), by rw [E.2.2.2]; exact (show 0 + (rmN 202).slots ≤ (rmN 206).slots by decide)⟩ (Nat.le_of_ble_eq_true rfl) (fun vv s14 hq => ?_) (fun ee s14 hq => ?_))))))))
      rotate_left
      · obtain ⟨rfl, e15, hv, hrs14, hps14⟩ := hq; cases hv
      obtain ⟨rfl, e15, hv, hrs14, hps14⟩ := hq
      cases hv
      show WS k 55 [(1, .int (Int32.ofInt e4)), (0, .ref (A 179))] [.int (Int32.ofInt e15), .int (Int32.ofInt e4)] (Wd A dT s3) 0 0
      have hk16 : e15 = 311436 := by rw [hps14.2]; decide
      refine z_icmp_ne X (t := 60) rfl rfl hrs3 hrs14 (fun g17 => ?_) (fun g17 => ?_)
      ·
        refine z_load_n X (x := e4) rfl (List.Mem.head _) (z_const X rfl (z_bipush X rfl (z_bipush X rfl (z_bipush X rfl (z_const X rfl (z_const X rfl (z_callS X (rm := rmN 202) (As := [.int (Int32.ofInt 3), .int (Int32.ofInt 12), .int (Int32.ofInt 9), .int (Int32.ofInt 13), .int (Int32.ofInt 2), .int (Int32.ofInt 0)]) (st := [.int (Int32.ofInt e4)]) rfl rfl (by rw [E.1, E.2.1, E.2.2.1]; exact k_word3 G Is3 (by first | exact ⟨by decide, by decide⟩ | omega) (by first | exact ⟨by decide, by decide⟩ | omega) (by first | exact ⟨by decide, by decide⟩ | omega) (by first | exact ⟨by decide, by decide⟩ | omega) (by first | exact ⟨by decide, by decide⟩ | omega) (by first | exact ⟨by decide, by decide⟩ | omega)) ⟨by rw [E.2.2.2]; exact (show (rmN 202).frames + 1 ≤ (rmN 206).frames by decide), by rw [E.2.2.2]; exact (show 8 + (mNL (miB 202) + 11) + (rmN 202).locals ≤ (rmN 206).locals by decide), by rw [E.2.2.2]; exact (show 0 + (rmN 202).cells ≤ (rmN 206).cells by decide), by rw [E.2.2.2]; exact (show 0 + (rmN 202).slots ≤ (rmN 206).slots by decide)⟩ (Nat.le_of_ble_eq_true rfl) (fun vv s18 hq => ?_) (fun ee s18 hq => ?_))))))))
        rotate_left
        · obtain ⟨rfl, e19, hv, hrs18, hps18⟩ := hq; cases hv
        obtain ⟨rfl, e19, hv, hrs18, hps18⟩ := hq
        cases hv
        show WS k 73 [(1, .int (Int32.ofInt e4)), (0, .ref (A 179))] [.int (Int32.ofInt e19), .int (Int32.ofInt e4)] (Wd A dT s3) 0 0
        have hk20 : e19 = 1837433 := by rw [hps18.2]; decide
        refine z_icmp_ne X (t := 78) rfl rfl hrs3 hrs18 (fun g21 => ?_) (fun g21 => ?_)
        ·
          refine z_load_n X (x := e4) rfl (List.Mem.head _) (z_const X rfl (z_const X rfl (z_bipush X rfl (z_bipush X rfl (z_bipush X rfl (z_const X rfl (z_callS X (rm := rmN 202) (As := [.int (Int32.ofInt 3), .int (Int32.ofInt 5), .int (Int32.ofInt 12), .int (Int32.ofInt 12), .int (Int32.ofInt 19), .int (Int32.ofInt 0)]) (st := [.int (Int32.ofInt e4)]) rfl rfl (by rw [E.1, E.2.1, E.2.2.1]; exact k_word3 G Is3 (by first | exact ⟨by decide, by decide⟩ | omega) (by first | exact ⟨by decide, by decide⟩ | omega) (by first | exact ⟨by decide, by decide⟩ | omega) (by first | exact ⟨by decide, by decide⟩ | omega) (by first | exact ⟨by decide, by decide⟩ | omega) (by first | exact ⟨by decide, by decide⟩ | omega)) ⟨by rw [E.2.2.2]; exact (show (rmN 202).frames + 1 ≤ (rmN 206).frames by decide), by rw [E.2.2.2]; exact (show 8 + (mNL (miB 202) + 11) + (rmN 202).locals ≤ (rmN 206).locals by decide), by rw [E.2.2.2]; exact (show 0 + (rmN 202).cells ≤ (rmN 206).cells by decide), by rw [E.2.2.2]; exact (show 0 + (rmN 202).slots ≤ (rmN 206).slots by decide)⟩ (Nat.le_of_ble_eq_true rfl) (fun vv s22 hq => ?_) (fun ee s22 hq => ?_))))))))
          rotate_left
          · obtain ⟨rfl, e23, hv, hrs22, hps22⟩ := hq; cases hv
          obtain ⟨rfl, e23, hv, hrs22, hps22⟩ := hq
          cases hv
          show WS k 91 [(1, .int (Int32.ofInt e4)), (0, .ref (A 179))] [.int (Int32.ofInt e23), .int (Int32.ofInt e4)] (Wd A dT s3) 0 0
          have hk24 : e23 = 1701829 := by rw [hps22.2]; decide
          refine z_icmp_ne X (t := 96) rfl rfl hrs3 hrs22 (fun g25 => ?_) (fun g25 => ?_)
          ·
            refine z_load_n X (x := e4) rfl (List.Mem.head _) (z_bipush X rfl (z_bipush X rfl (z_bipush X rfl (z_const X rfl (z_const X rfl (z_const X rfl (z_callS X (rm := rmN 202) (As := [.int (Int32.ofInt 12), .int (Int32.ofInt 15), .int (Int32.ofInt 23), .int (Int32.ofInt 0), .int (Int32.ofInt 0), .int (Int32.ofInt 0)]) (st := [.int (Int32.ofInt e4)]) rfl rfl (by rw [E.1, E.2.1, E.2.2.1]; exact k_word3 G Is3 (by first | exact ⟨by decide, by decide⟩ | omega) (by first | exact ⟨by decide, by decide⟩ | omega) (by first | exact ⟨by decide, by decide⟩ | omega) (by first | exact ⟨by decide, by decide⟩ | omega) (by first | exact ⟨by decide, by decide⟩ | omega) (by first | exact ⟨by decide, by decide⟩ | omega)) ⟨by rw [E.2.2.2]; exact (show (rmN 202).frames + 1 ≤ (rmN 206).frames by decide), by rw [E.2.2.2]; exact (show 8 + (mNL (miB 202) + 11) + (rmN 202).locals ≤ (rmN 206).locals by decide), by rw [E.2.2.2]; exact (show 0 + (rmN 202).cells ≤ (rmN 206).cells by decide), by rw [E.2.2.2]; exact (show 0 + (rmN 202).slots ≤ (rmN 206).slots by decide)⟩ (Nat.le_of_ble_eq_true rfl) (fun vv s26 hq => ?_) (fun ee s26 hq => ?_))))))))
            rotate_left
            · obtain ⟨rfl, e27, hv, hrs26, hps26⟩ := hq; cases hv
            obtain ⟨rfl, e27, hv, hrs26, hps26⟩ := hq
            cases hv
            show WS k 109 [(1, .int (Int32.ofInt e4)), (0, .ref (A 179))] [.int (Int32.ofInt e27), .int (Int32.ofInt e4)] (Wd A dT s3) 0 0
            have hk28 : e27 = 9176 := by rw [hps26.2]; decide
            refine z_icmp_ne X (t := 114) rfl rfl hrs3 hrs26 (fun g29 => ?_) (fun g29 => ?_)
            ·
              refine z_load_n X (x := e4) rfl (List.Mem.head _) (z_bipush X rfl (z_bipush X rfl (z_const X rfl (z_const X rfl (z_const X rfl (z_bipush X rfl (z_callS X (rm := rmN 202) (As := [.int (Int32.ofInt 16), .int (Int32.ofInt 9), .int (Int32.ofInt 5), .int (Int32.ofInt 3), .int (Int32.ofInt 5), .int (Int32.ofInt 19)]) (st := [.int (Int32.ofInt e4)]) rfl rfl (by rw [E.1, E.2.1, E.2.2.1]; exact k_word3 G Is3 (by first | exact ⟨by decide, by decide⟩ | omega) (by first | exact ⟨by decide, by decide⟩ | omega) (by first | exact ⟨by decide, by decide⟩ | omega) (by first | exact ⟨by decide, by decide⟩ | omega) (by first | exact ⟨by decide, by decide⟩ | omega) (by first | exact ⟨by decide, by decide⟩ | omega)) ⟨by rw [E.2.2.2]; exact (show (rmN 202).frames + 1 ≤ (rmN 206).frames by decide), by rw [E.2.2.2]; exact (show 8 + (mNL (miB 202) + 11) + (rmN 202).locals ≤ (rmN 206).locals by decide), by rw [E.2.2.2]; exact (show 0 + (rmN 202).cells ≤ (rmN 206).cells by decide), by rw [E.2.2.2]; exact (show 0 + (rmN 202).slots ≤ (rmN 206).slots by decide)⟩ (Nat.le_of_ble_eq_true rfl) (fun vv s30 hq => ?_) (fun ee s30 hq => ?_))))))))
              rotate_left
              · obtain ⟨rfl, e31, hv, hrs30, hps30⟩ := hq; cases hv
              obtain ⟨rfl, e31, hv, hrs30, hps30⟩ := hq
              cases hv
              show WS k 127 [(1, .int (Int32.ofInt e4)), (0, .ref (A 179))] [.int (Int32.ofInt e31), .int (Int32.ofInt e4)] (Wd A dT s3) 0 0
              have hk32 : e31 = 234466237 := by rw [hps30.2]; decide
              refine z_icmp_ne X (t := 135) rfl rfl hrs3 hrs30 (fun g33 => ?_) (fun g33 => ?_)
              ·
                refine z_const X rfl ?_
                exact w_iret X.1 q hRt rfl (ax_d X (show cdA 206 136 = some (.ireturn, 1, 0, 0, 0) from rfl)) (Nat.zero_le _) (Nat.zero_le _) ⟨_, rfl, Is3, Gs3, JFDB_s3, (-1), rfl, (by decide), ⟨by first | exact hps3.1 | omega, Or.inl ⟨by decide, nmc_n (by first | exact oq_36ffebf8 g9 hk8 hwv | (clear g33 g29 g25 g21 g17 g13 g9 hps3; omega) | (clear g29 g25 g21 g17 g13 g9 hps3; omega) | omega) (by first | exact oq_b2e77b94 g13 hk12 hwv | (clear g33 g29 g25 g21 g17 g13 g9 hps3; omega) | (clear g29 g25 g21 g17 g13 g9 hps3; omega) | omega) (by first | exact oq_139b4624 g17 hk16 hwv | (clear g33 g29 g25 g21 g17 g13 g9 hps3; omega) | (clear g29 g25 g21 g17 g13 g9 hps3; omega) | omega) (by first | exact oq_d7d949b8 g21 hk20 hwv | (clear g33 g29 g25 g21 g17 g13 g9 hps3; omega) | (clear g29 g25 g21 g17 g13 g9 hps3; omega) | omega) (by first | exact oq_322223e3 g25 hk24 hwv | (clear g33 g29 g25 g21 g17 g13 g9 hps3; omega) | (clear g29 g25 g21 g17 g13 g9 hps3; omega) | omega) (by first | exact oq_8ab79d5b g29 hk28 hwv | (clear g33 g29 g25 g21 g17 g13 g9 hps3; omega) | (clear g29 g25 g21 g17 g13 g9 hps3; omega) | omega) (by first | exact oq_7d2bfae4 g33 hk32 hwv | (clear g33 g29 g25 g21 g17 g13 g9 hps3; omega) | (clear g29 g25 g21 g17 g13 g9 hps3; omega) | omega)⟩, by first | exact hps3.2.2.1 | omega, by first | exact hps3.2.2.2 | omega⟩⟩
              ·
                refine z_bipush X rfl (z_goto X (t := 136) rfl rfl ?_)
                exact w_iret X.1 q hRt rfl (ax_d X (show cdA 206 136 = some (.ireturn, 1, 0, 0, 0) from rfl)) (Nat.zero_le _) (Nat.zero_le _) ⟨_, rfl, Is3, Gs3, JFDB_s3, 6, rfl, (by decide), ⟨by first | exact hps3.1 | omega, Or.inr ⟨by decide, by decide, by rw [nmc_6 (by first | exact oq_34989d14 g33 hk32 hwv | (clear g29 g25 g21 g17 g13 g9 hps3; omega) | (clear g25 g21 g17 g13 g9 hps3; omega) | omega)]; decide⟩, by first | exact hps3.2.2.1 | omega, by first | exact hps3.2.2.2 | omega⟩⟩
            ·
              refine z_const X rfl ?_
              exact w_iret X.1 q hRt rfl (ax_d X (show cdA 206 113 = some (.ireturn, 1, 0, 0, 0) from rfl)) (Nat.zero_le _) (Nat.zero_le _) ⟨_, rfl, Is3, Gs3, JFDB_s3, 5, rfl, (by decide), ⟨by first | exact hps3.1 | omega, Or.inr ⟨by decide, by decide, by rw [nmc_5 (by first | exact oq_1c5f6fc5 g29 hk28 hwv | (clear g25 g21 g17 g13 g9 hps3; omega) | (clear g21 g17 g13 g9 hps3; omega) | omega)]; decide⟩, by first | exact hps3.2.2.1 | omega, by first | exact hps3.2.2.2 | omega⟩⟩
          ·
            refine z_const X rfl ?_
            exact w_iret X.1 q hRt rfl (ax_d X (show cdA 206 95 = some (.ireturn, 1, 0, 0, 0) from rfl)) (Nat.zero_le _) (Nat.zero_le _) ⟨_, rfl, Is3, Gs3, JFDB_s3, 4, rfl, (by decide), ⟨by first | exact hps3.1 | omega, Or.inr ⟨by decide, by decide, by rw [nmc_4 (by first | exact oq_049e38f0 g25 hk24 hwv | (clear g21 g17 g13 g9 hps3; omega) | (clear g17 g13 g9 hps3; omega) | omega)]; decide⟩, by first | exact hps3.2.2.1 | omega, by first | exact hps3.2.2.2 | omega⟩⟩
        ·
          refine z_const X rfl ?_
          exact w_iret X.1 q hRt rfl (ax_d X (show cdA 206 77 = some (.ireturn, 1, 0, 0, 0) from rfl)) (Nat.zero_le _) (Nat.zero_le _) ⟨_, rfl, Is3, Gs3, JFDB_s3, 3, rfl, (by decide), ⟨by first | exact hps3.1 | omega, Or.inr ⟨by decide, by decide, by rw [nmc_3 (by first | exact oq_a8b6477c g21 hk20 hwv | (clear g17 g13 g9 hps3; omega) | (clear g13 g9 hps3; omega) | omega)]; decide⟩, by first | exact hps3.2.2.1 | omega, by first | exact hps3.2.2.2 | omega⟩⟩
      ·
        refine z_const X rfl ?_
        exact w_iret X.1 q hRt rfl (ax_d X (show cdA 206 59 = some (.ireturn, 1, 0, 0, 0) from rfl)) (Nat.zero_le _) (Nat.zero_le _) ⟨_, rfl, Is3, Gs3, JFDB_s3, 2, rfl, (by decide), ⟨by first | exact hps3.1 | omega, Or.inr ⟨by decide, by decide, by rw [nmc_2 (by first | exact oq_17e7632b g17 hk16 hwv | (clear g13 g9 hps3; omega) | (clear g9 hps3; omega) | omega)]; decide⟩, by first | exact hps3.2.2.1 | omega, by first | exact hps3.2.2.2 | omega⟩⟩
    ·
      refine z_const X rfl ?_
      exact w_iret X.1 q hRt rfl (ax_d X (show cdA 206 41 = some (.ireturn, 1, 0, 0, 0) from rfl)) (Nat.zero_le _) (Nat.zero_le _) ⟨_, rfl, Is3, Gs3, JFDB_s3, 1, rfl, (by decide), ⟨by first | exact hps3.1 | omega, Or.inr ⟨by decide, by decide, by rw [nmc_1 (by first | exact oq_55114d9c g13 hk12 hwv | (clear g9 hps3; omega) | (clear hps3; omega) | omega)]; decide⟩, by first | exact hps3.2.2.1 | omega, by first | exact hps3.2.2.2 | omega⟩⟩
  ·
    refine z_const X rfl ?_
    exact w_iret X.1 q hRt rfl (ax_d X (show cdA 206 22 = some (.ireturn, 1, 0, 0, 0) from rfl)) (Nat.zero_le _) (Nat.zero_le _) ⟨_, rfl, Is3, Gs3, JFDB_s3, 0, rfl, (by decide), ⟨by first | exact hps3.1 | omega, Or.inr ⟨by decide, by decide, by rw [nmc_0 (by first | exact oq_9206599d g9 hk8 hwv | (clear hps3; omega) | omega)]; decide⟩, by first | exact hps3.2.2.1 | omega, by first | exact hps3.2.2.2 | omega⟩⟩
set_option maxRecDepth 4000 in
theorem k_unit03 (G : GX l s0 D tys a0 dT) {B : Nat → Int} {N : Int} (I : Bd s) (jFDB : FDB B N s) (p0 : iI s 77 ≤ 203) (p1 : iI s 78 + ((0 : Nat) : Int) = 7) (p2 : iI s 78 = 7 → iI s 79 ≠ 0) : CT l s0 D A dT 207 (rkR (3 * (0))) [.ref (A 179)] s (fun o t => Bd t ∧ Fm [77, 79, 80, 78] [] s t ∧ FDB B N t ∧ ∃ e, o = .inl (some (.int (Int32.ofInt e))) ∧ rng e ∧ (iI t 78 = iI s 78 ∧ iI s 77 ≤ iI t 77 ∧ (iI t 77 = iI s 77 ∨ iI t 77 ≤ 202) ∧ (iI s 79 ≠ 0 → iI t 79 ≠ 0) ∧ (iI t 79 = 0 → iI t 77 ≤ iI s 75) ∧ PFm B N 0 s t)) := by
  refine ct_of G (by decide) (Nat.le_of_ble_eq_true rfl) (fun k X E hRt hXt q => ?_)
  show WS k 0 [(0, .ref (A 179))] [] _ 0 0
  have F : Fm [77, 79, 80, 78] [] s s := fm_rf _ _ s
  have hN := jFDB.2.1
  have hW := jFDB.2.2
  have b1 := bi_77 I
  have b2 := bi_75 I
  have b3 := bi_79 I
  have b4 := bi_78 I
  refine z_aload_n X (x := A 179) rfl (List.Mem.head _) (z_getI X 179 rfl (c518_ok rfl) rfl rfl ?_)
  have b5 := bi_79 I
  refine z_if_eq X (t := 9) rfl rfl (rng_to _) (fun g6 => ?_) (fun g6 => ?_)
  ·
    exfalso
    omega
  ·
    refine z_const X rfl ?_
    exact w_iret X.1 q hRt rfl (ax_d X (show cdA 207 8 = some (.ireturn, 1, 0, 0, 0) from rfl)) (Nat.zero_le _) (Nat.zero_le _) ⟨_, rfl, I, F, jFDB, 0, rfl, (by decide), ⟨by first | exact rfl | (clear g6 p2; omega) | (clear p2; omega) | omega, by first | exact oq_15ec32ab | (clear g6 p2; omega) | (clear p2; omega) | omega, by first | exact Or.inl (by decide) | exact Or.inl (rfl) | omega, by first | exact oq_4bed1c3e g6 b5.1 | omega, by first | exact oq_6a3c9b31 g6 b5.1 | omega, Or.inl ⟨by first | exact g6 | (clear g6 p2; omega) | (clear p2; omega) | omega, by first | exact rfl | (clear g6 p2; omega) | (clear p2; omega) | omega⟩⟩⟩
set_option maxRecDepth 4000 in
theorem k_unitS3 (G : GX l s0 D tys a0 dT) {B : Nat → Int} {N : Int} {r : Nat} (hS : ∀ {s : PS}, Bd s → FDB B N s → (iI s 77 ≤ 203) → (iI s 78 + ((r : Nat) : Int) = 7) → (iI s 78 = 7 → iI s 79 ≠ 0) → CT l s0 D A dT 209 (rkR (3 * (r) + 2)) [.ref (A 179)] s (fun o t => Bd t ∧ Fm [77, 79, 80, 78] [] s t ∧ FDB B N t ∧ ∃ e, o = .inl (some (.int (Int32.ofInt e))) ∧ rng e ∧ (iI t 78 = iI s 78 ∧ iI s 77 ≤ iI t 77 ∧ (iI t 77 = iI s 77 ∨ iI t 77 ≤ 202) ∧ (iI s 79 ≠ 0 → iI t 79 ≠ 0) ∧ (iI t 79 = 0 → iI t 77 ≤ iI s 75) ∧ PFm B N 3 s t))) (I : Bd s) (jFDB : FDB B N s) (p0 : iI s 77 ≤ 203) (p1 : iI s 78 + ((r + 1 : Nat) : Int) = 7) (p2 : iI s 78 = 7 → iI s 79 ≠ 0) : CT l s0 D A dT 207 (rkR (3 * (r + 1))) [.ref (A 179)] s (fun o t => Bd t ∧ Fm [77, 79, 80, 78] [] s t ∧ FDB B N t ∧ ∃ e, o = .inl (some (.int (Int32.ofInt e))) ∧ rng e ∧ (iI t 78 = iI s 78 ∧ iI s 77 ≤ iI t 77 ∧ (iI t 77 = iI s 77 ∨ iI t 77 ≤ 202) ∧ (iI s 79 ≠ 0 → iI t 79 ≠ 0) ∧ (iI t 79 = 0 → iI t 77 ≤ iI s 75) ∧ PFm B N 0 s t)) := by
  refine ct_of G (by decide) (Nat.le_of_ble_eq_true rfl) (fun k X E hRt hXt q => ?_)
  show WS k 0 [(0, .ref (A 179))] [] _ 0 0
  have F : Fm [77, 79, 80, 78] [] s s := fm_rf _ _ s
  have hN := jFDB.2.1
  have hW := jFDB.2.2
  have b1 := bi_77 I
  have b2 := bi_75 I
  have b3 := bi_79 I
  have b4 := bi_78 I
  have L206 : ∀ (t : PS) (v : Int), Bd t → Fm [77, 79, 80, 78] [] s t → FDB B N t → (UQ3 B N (sk B N (iI s 77)) (iI s 78) t) → (iI s 79 = 0 ∧ iI t 78 = iI s 78 + 1 ∧ iI s 77 ≤ iI t 77 ∧ iI t 77 ≤ 202 ∧ (iI t 79 = 0 → iI t 77 ≤ iI s 75) ∧ rng v) → WS k 206 [(0, .ref (A 179)), (5, .int (Int32.ofInt v))] [] (Wd A dT t) 0 0 := by
    intro t v I F jjFDB hq hi
    have b1001 := bi_77 I
    have b1002 := bi_75 I
    have b1003 := bi_79 I
    have b1004 := bi_78 I
    have hN := jjFDB.2.1
    have hW := jjFDB.2.2
    refine z_aload_n X (x := A 179) rfl (List.Mem.head _) (z_bipush X rfl (z_callV X 179 (rm := rmN 204) (As := [.int (Int32.ofInt 41)]) (st := []) rfl rfl (by decide) rfl (by rw [E.1, E.2.1, E.2.2.1]; exact k_sign3 G I jjFDB (by first | exact ⟨by decide, by decide⟩ | omega) (by first | exact oq_99d3c924 hi.2.2.2.1 | omega)) ⟨by rw [E.2.2.2]; exact (show 8 + 1 ≤ (12 + (3 * (r + 1))) from oq_0f4637ff r), by rw [E.2.2.2]; exact (show 8 + (2 + 11) + 141 ≤ (500 + 45 * (3 * (r + 1))) from oq_673d70d0 r), by rw [E.2.2.2]; exact Nat.le_refl 0, by rw [E.2.2.2]; exact Nat.le_refl 0⟩ (Nat.le_of_ble_eq_true rfl) (fun vv s1005 hq => ?_) (fun ee s1005 hq => ?_)))
    rotate_left
    · obtain ⟨Is1005, Fs1005, JFDB_s1005, hv, hps1005⟩ := hq; cases hv
    obtain ⟨Is1005, Fs1005, JFDB_s1005, hv, hps1005⟩ := hq
    have hps1005p := And.intro hps1005.1 (hps1005.2.1)
    cases hv
    have Gs1005 := fm_tq F Fs1005 rfl rfl
    have JFDB_s1005 : FDB B N s1005 := FDB_fm Fs1005 (by decide) jjFDB
    have b1007 := bi_77 Is1005
    have ws1005_75 : iI s1005 75 = iI t 75 := fm_iq Fs1005 rfl
    have b1008 := bi_79 Is1005
    have ws1005_78 : iI s1005 78 = iI t 78 := fm_iq Fs1005 rfl
    show WS k 212 [(0, .ref (A 179)), (5, .int (Int32.ofInt v))] [] (Wd A dT s1005) 0 0
    have hle : iI s1005 79 = 0 → iI s1005 77 ≤ N := fun h => sg_le hps1005.1 h
    refine z_aload_n X (x := A 179) rfl (List.Mem.head _) (w_dup X.1 (ax_d X (show cdA 207 213 = some (.dup, 1, 0, 0, 0) from rfl)) rfl (z_getI X 179 rfl (c518_ok rfl) rfl rfl ?_))
    have b1009 := bi_78 Is1005
    refine z_const X rfl (z_sub X rfl (s_putI X 179 rfl (c518_ok rfl) rfl rfl (by decide) rfl rfl rfl (wd_gen (fun s1010 hs1010 => ?_))))
    have Is1010 : Bd s1010 := eqB hs1010 (bd_I Is1005 (show (0 : Int) ≤ ((iI s1005 78) - 1) ∧ ((iI s1005 78) - 1) ≤ 8 by first | exact ⟨oq_9c6508e2 ws1005_78 hi.2.1 b4.1, oq_d7fe5c3c b1009.2⟩ | omega) ⟨by first | exact oq_c1e961c7 b1009.1 | omega, by first | exact oq_22bc6706 b1009.2 | omega⟩)
    have Fs1010 := eqF hs1010 (fm_I Gs1005 (inl_ok (a := 78) rfl))
    have vs1010 : iI s1010 78 = ((iI s1005 78) - 1) := eqI hs1010 (iI_u ⟨by first | exact oq_c1e961c7 b1009.1 | omega, by first | exact oq_22bc6706 b1009.2 | omega⟩)
    have ws1010_77 : iI s1010 77 = iI s1005 77 := eqI hs1010 rfl
    have ws1010_75 : iI s1010 75 = iI s1005 75 := eqI hs1010 rfl
    have ws1010_79 : iI s1010 79 = iI s1005 79 := eqI hs1010 rfl
    have fs1010 : Fm [78] [] s1005 s1010 := by rw [hs1010]; exact fm_I (fm_rf _ _ _) (show 78 ∈ _ by decide)
    have JFDB_s1010 : FDB B N s1010 := FDB_fm fs1010 (by decide) JFDB_s1005
    refine z_load X (x := v) rfl (List.Mem.tail _ (List.Mem.head _)) ?_
    exact w_iret X.1 q hRt rfl (ax_d X (show cdA 207 224 = some (.ireturn, 1, 0, 0, 0) from rfl)) (Nat.zero_le _) (Nat.zero_le _) ⟨_, rfl, Is1010, Fs1010, JFDB_s1010, v, rfl, ⟨by first | exact hi.2.2.2.2.2.1 | omega, by first | exact hi.2.2.2.2.2.2 | omega⟩, ⟨by first | exact oq_880c99c9 vs1010 hi.2.1 ws1005_78 | omega, by first | exact oq_6f31d0da ws1010_77 hi.2.2.1 hps1005.2.1 | omega, by first | exact Or.inr (oq_93a04f11 ws1010_77 hps1005.2.2 hN b1002.2 hi.2.2.2.1) | (clear hps1005 p2; omega) | (clear p2; omega) | omega, by first | exact oq_e013ad0f hi.1 | omega, by first | (clear hps1005 p2; omega) | (clear p2; omega) | omega, Or.inr ⟨by first | exact hi.1 | (clear hps1005 p2; omega) | (clear p2; omega) | omega, ou_mv (hq _ hps1005.1) (by rw [show iI s1010 77 = iI s1005 77 by first | exact ws1010_77 | (clear hps1005 p2; omega) | (clear p2; omega) | omega]) (by first | exact ws1010_79 | (clear hps1005 p2; omega) | (clear p2; omega) | omega)⟩⟩⟩
  have L154 : ∀ (t : PS) (il im : Int), Bd t → Fm [77, 79, 80, 78] [] s t → FDB B N t → (UQ2 B N (sk B N (iI s 77)) t il im) → (iI s 79 = 0 ∧ ((iI s 78 = 6 ∧ iI t 79 = 3) ∨ (iI s 78 ≠ 6 ∧ iI t 79 = 0)) ∧ iI t 78 = iI s 78 + 1 ∧ iI s 77 ≤ iI t 77 ∧ iI t 77 ≤ 202 ∧ (il = 0 ∨ il = 1) ∧ (im = 0 ∨ im = 1)) → WS k 154 [(0, .ref (A 179)), (3, .int (Int32.ofInt il)), (4, .int (Int32.ofInt im))] [] (Wd A dT t) 0 0 := by
    intro t il im I F jjFDB hq hi
    have b2001 := bi_77 I
    have b2002 := bi_75 I
    have b2003 := bi_79 I
    have b2004 := bi_78 I
    have hN := jjFDB.2.1
    have hW := jjFDB.2.2
    obtain ⟨hnd, hq⟩ := hq
    rcases hq with hq | hq
    ·
      obtain ⟨ha, hb_, hch, hA⟩ := hq
      refine z_aload_n X (x := A 179) rfl (List.Mem.head _) (z_callV X 179 (rm := (rkR (3 * (r) + 2))) (As := []) (st := []) rfl rfl (by decide) rfl (by rw [E.1, E.2.1, E.2.2.1]; exact hS I jjFDB (by first | exact oq_c76e9237 hi.2.2.2.2.1 | omega) (by first | exact oq_3e96a778 p1 hi.2.2.1 | omega) (by first | exact oq_38d7ef60 hi.2.2.1 hi.2.1 | omega)) ⟨by rw [E.2.2.2]; exact (show (12 + (3 * (r) + 2)) + 1 ≤ (12 + (3 * (r + 1))) from oq_11500719 r), by rw [E.2.2.2]; exact (show 8 + (4 + 11) + (500 + 45 * (3 * (r) + 2)) ≤ (500 + 45 * (3 * (r + 1))) from oq_998273a9 r), by rw [E.2.2.2]; exact Nat.le_refl 0, by rw [E.2.2.2]; exact Nat.le_refl 0⟩ (Nat.le_of_ble_eq_true rfl) (fun vv s2005 hq => ?_) (fun ee s2005 hq => ?_))
      rotate_left
      · obtain ⟨Is2005, Fs2005, JFDB_s2005, e2006, hv, hrs2005, hps2005⟩ := hq; cases hv
      obtain ⟨Is2005, Fs2005, JFDB_s2005, e2006, hv, hrs2005, hps2005⟩ := hq
      have hps2005p := And.intro hps2005.1 (And.intro hps2005.2.1 (hps2005.2.2.2.2.2))
      cases hv
      have Gs2005 := fm_tq F Fs2005 rfl rfl
      have JFDB_s2005 : FDB B N s2005 := FDB_fm Fs2005 (by decide) jjFDB
      have b2007 := bi_77 Is2005
      have ws2005_75 : iI s2005 75 = iI t 75 := fm_iq Fs2005 rfl
      have b2008 := bi_79 Is2005
      have b2009 := bi_78 Is2005
      show WS k 158 [(0, .ref (A 179)), (3, .int (Int32.ofInt il)), (4, .int (Int32.ofInt im))] [.int (Int32.ofInt e2006)] (Wd A dT s2005) 0 0
      refine z_store X (lv' := [(5, .int (Int32.ofInt e2006)), (0, .ref (A 179)), (3, .int (Int32.ofInt il)), (4, .int (Int32.ofInt im))]) rfl (by decide) (fun _ h => h) (z_load_n X (x := il) rfl (List.Mem.tail _ (List.Mem.tail _ (List.Mem.head _))) (z_if_ne X (t := 169) rfl rfl ⟨by first | exact oq_bde653e9 hi.2.2.2.2.2.1 | omega, by first | exact oq_4ad2cb8b hi.2.2.2.2.2.1 | omega⟩ (fun g2010 => ?_) (fun g2010 => ?_)))
      ·
        exfalso
        omega
      ·
        refine z_load X (x := im) rfl (List.Mem.tail _ (List.Mem.tail _ (List.Mem.tail _ (List.Mem.head _)))) (z_if_eq X (t := 206) rfl rfl ⟨by first | exact oq_bde653e9 hi.2.2.2.2.2.2 | omega, by first | exact oq_4ad2cb8b hi.2.2.2.2.2.2 | omega⟩ (fun g2011 => ?_) (fun g2011 => ?_))
        ·
          refine WS_pq [1, 0] (lv' := [(0, .ref (A 179)), (5, .int (Int32.ofInt e2006))]) rfl ?_
          exact L206 _ e2006 Is2005 Gs2005 JFDB_s2005 (fun u hu => ou_parF hch (by first | exact oq_5ff460d6 p1 | (clear hps2005 p2; omega) | (clear p2; omega) | omega) (by first | exact hi.2.1 | (clear hps2005 p2; omega) | (clear p2; omega) | omega) hA (by first | exact hi.2.2.1 | (clear hps2005 p2; omega) | (clear p2; omega) | omega) hps2005.2.2.2.2.2 hu) (by first | (clear hps2005 p2; omega) | (clear p2; omega) | omega)
        ·
          exfalso
          omega
    ·
      obtain ⟨ha, hd, hch, hA⟩ := hq
      refine z_aload_n X (x := A 179) rfl (List.Mem.head _) (z_callV X 179 (rm := (rkR (3 * (r) + 2))) (As := []) (st := []) rfl rfl (by decide) rfl (by rw [E.1, E.2.1, E.2.2.1]; exact hS I jjFDB (by first | exact oq_c76e9237 hi.2.2.2.2.1 | omega) (by first | exact oq_3e96a778 p1 hi.2.2.1 | omega) (by first | exact oq_38d7ef60 hi.2.2.1 hi.2.1 | omega)) ⟨by rw [E.2.2.2]; exact (show (12 + (3 * (r) + 2)) + 1 ≤ (12 + (3 * (r + 1))) from oq_11500719 r), by rw [E.2.2.2]; exact (show 8 + (4 + 11) + (500 + 45 * (3 * (r) + 2)) ≤ (500 + 45 * (3 * (r + 1))) from oq_998273a9 r), by rw [E.2.2.2]; exact Nat.le_refl 0, by rw [E.2.2.2]; exact Nat.le_refl 0⟩ (Nat.le_of_ble_eq_true rfl) (fun vv s2012 hq => ?_) (fun ee s2012 hq => ?_))
      rotate_left
      · obtain ⟨Is2012, Fs2012, JFDB_s2012, e2013, hv, hrs2012, hps2012⟩ := hq; cases hv
      obtain ⟨Is2012, Fs2012, JFDB_s2012, e2013, hv, hrs2012, hps2012⟩ := hq
      have hps2012p := And.intro hps2012.1 (And.intro hps2012.2.1 (hps2012.2.2.2.2.2))
      cases hv
      have Gs2012 := fm_tq F Fs2012 rfl rfl
      have JFDB_s2012 : FDB B N s2012 := FDB_fm Fs2012 (by decide) jjFDB
      have b2014 := bi_77 Is2012
      have ws2012_75 : iI s2012 75 = iI t 75 := fm_iq Fs2012 rfl
      have b2015 := bi_79 Is2012
      have b2016 := bi_78 Is2012
      show WS k 158 [(0, .ref (A 179)), (3, .int (Int32.ofInt il)), (4, .int (Int32.ofInt im))] [.int (Int32.ofInt e2013)] (Wd A dT s2012) 0 0
      refine z_store X (lv' := [(5, .int (Int32.ofInt e2013)), (0, .ref (A 179)), (3, .int (Int32.ofInt il)), (4, .int (Int32.ofInt im))]) rfl (by decide) (fun _ h => h) (z_load_n X (x := il) rfl (List.Mem.tail _ (List.Mem.tail _ (List.Mem.head _))) (z_if_ne X (t := 169) rfl rfl ⟨by first | exact oq_bde653e9 hi.2.2.2.2.2.1 | omega, by first | exact oq_4ad2cb8b hi.2.2.2.2.2.1 | omega⟩ (fun g2017 => ?_) (fun g2017 => ?_)))
      ·
        refine z_aload_n X (x := A 179) rfl (List.Mem.tail _ (List.Mem.head _)) (z_bipush X rfl (z_callV X 179 (rm := rmN 204) (As := [.int (Int32.ofInt 44)]) (st := []) rfl rfl (by decide) rfl (by rw [E.1, E.2.1, E.2.2.1]; exact k_sign3 G Is2012 JFDB_s2012 (by first | exact ⟨by decide, by decide⟩ | omega) (by first | exact oq_93a1c4d4 hps2012.2.2.1 hi.2.2.2.2.1 | omega)) ⟨by rw [E.2.2.2]; exact (show 8 + 1 ≤ (12 + (3 * (r + 1))) from oq_0f4637ff r), by rw [E.2.2.2]; exact (show 8 + (2 + 11) + 141 ≤ (500 + 45 * (3 * (r + 1))) from oq_673d70d0 r), by rw [E.2.2.2]; exact Nat.le_refl 0, by rw [E.2.2.2]; exact Nat.le_refl 0⟩ (Nat.le_of_ble_eq_true rfl) (fun vv s2018 hq => ?_) (fun ee s2018 hq => ?_)))
        rotate_left
        · obtain ⟨Is2018, Fs2018, JFDB_s2018, hv, hps2018⟩ := hq; cases hv
        obtain ⟨Is2018, Fs2018, JFDB_s2018, hv, hps2018⟩ := hq
        have hps2018p := And.intro hps2018.1 (hps2018.2.1)
        cases hv
        have Gs2018 := fm_tq Gs2012 Fs2018 rfl rfl
        have JFDB_s2018 : FDB B N s2018 := FDB_fm Fs2018 (by decide) JFDB_s2012
        have b2020 := bi_77 Is2018
        have ws2018_75 : iI s2018 75 = iI s2012 75 := fm_iq Fs2018 rfl
        have b2021 := bi_79 Is2018
        have ws2018_78 : iI s2018 78 = iI s2012 78 := fm_iq Fs2018 rfl
        show WS k 175 [(5, .int (Int32.ofInt e2013)), (0, .ref (A 179)), (3, .int (Int32.ofInt il)), (4, .int (Int32.ofInt im))] [] (Wd A dT s2018) 0 0
        have hsf := fun h => sg_fa hps2018.1 h
        refine z_aload_n X (x := A 179) rfl (List.Mem.tail _ (List.Mem.head _)) (z_callV X 179 (rm := (rkR (3 * (r) + 2))) (As := []) (st := []) rfl rfl (by decide) rfl (by rw [E.1, E.2.1, E.2.2.1]; exact hS Is2018 JFDB_s2018 (by first | exact oq_089b1e2e hps2018.2.2 hps2012.2.2.1 hN b2002.2 hi.2.2.2.2.1 | (clear hps2018 g2017 hps2012 p2; omega) | (clear g2017 hps2012 p2; omega) | omega) (by first | exact oq_6126d2ac ws2018_78 p1 hps2012.1 hi.2.2.1 | omega) (by first | exact oq_4ed86b7a hsf ws2018_78 b2015.1 hps2012p.1 hps2012.2.2.2.1 hi.2.2.1 hi.2.1 | (clear hps2018 g2017 hps2012 p2; omega) | (clear g2017 hps2012 p2; omega) | omega)) ⟨by rw [E.2.2.2]; exact (show (12 + (3 * (r) + 2)) + 1 ≤ (12 + (3 * (r + 1))) from oq_11500719 r), by rw [E.2.2.2]; exact (show 8 + (4 + 11) + (500 + 45 * (3 * (r) + 2)) ≤ (500 + 45 * (3 * (r + 1))) from oq_998273a9 r), by rw [E.2.2.2]; exact Nat.le_refl 0, by rw [E.2.2.2]; exact Nat.le_refl 0⟩ (Nat.le_of_ble_eq_true rfl) (fun vv s2022 hq => ?_) (fun ee s2022 hq => ?_))
        rotate_left
        · obtain ⟨Is2022, Fs2022, JFDB_s2022, e2023, hv, hrs2022, hps2022⟩ := hq; cases hv
        obtain ⟨Is2022, Fs2022, JFDB_s2022, e2023, hv, hrs2022, hps2022⟩ := hq
        have hps2022p := And.intro hps2022.1 (And.intro hps2022.2.1 (hps2022.2.2.2.2.2))
        cases hv
        have Gs2022 := fm_tq Gs2018 Fs2022 rfl rfl
        have JFDB_s2022 : FDB B N s2022 := FDB_fm Fs2022 (by decide) JFDB_s2018
        have b2024 := bi_77 Is2022
        have ws2022_75 : iI s2022 75 = iI s2018 75 := fm_iq Fs2022 rfl
        have b2025 := bi_79 Is2022
        have b2026 := bi_78 Is2022
        show WS k 179 [(5, .int (Int32.ofInt e2013)), (0, .ref (A 179)), (3, .int (Int32.ofInt il)), (4, .int (Int32.ofInt im))] [.int (Int32.ofInt e2023)] (Wd A dT s2022) 0 0
        refine z_store X (lv' := [(6, .int (Int32.ofInt e2023)), (5, .int (Int32.ofInt e2013)), (0, .ref (A 179)), (3, .int (Int32.ofInt il)), (4, .int (Int32.ofInt im))]) rfl (by decide) (fun _ h => h) (z_load_n X (x := il) rfl (List.Mem.tail _ (List.Mem.tail _ (List.Mem.tail _ (List.Mem.head _)))) (z_load X (x := e2023) rfl (List.Mem.head _) (z_load X (x := e2013) rfl (List.Mem.tail _ (List.Mem.head _)) ?_)))
        have N2027 : ∀ e2028 : Int, (((e2013 ≤ e2023) ∧ e2028 = 0) ∨ ((e2023 < e2013) ∧ e2028 = 1)) → WS k 194 [(6, .int (Int32.ofInt e2023)), (5, .int (Int32.ofInt e2013)), (0, .ref (A 179)), (3, .int (Int32.ofInt il)), (4, .int (Int32.ofInt im))] [.int (Int32.ofInt e2028), .int (Int32.ofInt il)] (Wd A dT s2022) 0 0 := by
          intro e2028 he2028
          have re2028 : 0 ≤ e2028 ∧ e2028 ≤ 1 := by first | exact And.intro (oq_7bcf922d he2028) (oq_4d987fa3 he2028) | (clear he2028 hps2022 hps2018 g2017 hps2012 p2; omega) | (clear hps2022 hps2018 g2017 hps2012 p2; omega) | omega
          have N2029 : ∀ e2030 : Int, (((il ≠ e2028) ∧ e2030 = e2013) ∨ ((il = e2028) ∧ e2030 = e2023)) → WS k 204 [(6, .int (Int32.ofInt e2023)), (5, .int (Int32.ofInt e2013)), (0, .ref (A 179)), (3, .int (Int32.ofInt il)), (4, .int (Int32.ofInt im))] [.int (Int32.ofInt e2030)] (Wd A dT s2022) 0 0 := by
            intro e2030 he2030
            refine z_store X (lv' := [(5, .int (Int32.ofInt e2030)), (6, .int (Int32.ofInt e2023)), (0, .ref (A 179)), (3, .int (Int32.ofInt il)), (4, .int (Int32.ofInt im))]) rfl (by decide) (fun _ h => h) (WS_pq [2, 0] (lv' := [(0, .ref (A 179)), (5, .int (Int32.ofInt e2030))]) rfl ?_)
            exact L206 _ e2030 Is2022 Gs2022 JFDB_s2022 (fun u hu => ou_twoF hnd (wh_no hd) hd hch (by first | exact oq_5ff460d6 p1 | (clear he2030 he2028 hps2022 hps2018 g2017 hps2012 p2; omega) | (clear he2028 hps2022 hps2018 g2017 hps2012 p2; omega) | omega) (by first | exact hi.2.1 | (clear he2030 he2028 hps2022 hps2018 g2017 hps2012 p2; omega) | (clear he2028 hps2022 hps2018 g2017 hps2012 p2; omega) | omega) hA (by first | exact hi.2.2.1 | (clear he2030 he2028 hps2022 hps2018 g2017 hps2012 p2; omega) | (clear he2028 hps2022 hps2018 g2017 hps2012 p2; omega) | omega) hps2012.2.2.2.2.2 hps2018.1 (by first | exact oq_52108d03 ws2018_78 hps2012p.1 hi.2.2.1 | (clear he2030 he2028 hps2022 hps2018 g2017 hps2012 p2; omega) | (clear he2028 hps2022 hps2018 g2017 hps2012 p2; omega) | omega) hps2022.2.2.2.2.2 hu) (by first | (clear he2030 he2028 hps2022 hps2018 g2017 hps2012 p2; omega) | (clear he2028 hps2022 hps2018 g2017 hps2012 p2; omega) | omega)
          refine z_icmp_ne X (t := 202) rfl rfl ⟨by first | exact oq_bde653e9 hi.2.2.2.2.2.1 | omega, by first | exact oq_4ad2cb8b hi.2.2.2.2.2.1 | omega⟩ ⟨by first | exact oq_fa4e5087 re2028.1 | omega, by first | exact oq_22e1e6b0 re2028.2 | omega⟩ (fun g2031 => ?_) (fun g2031 => ?_)
          ·
            exact z_load X (x := e2013) rfl (List.Mem.tail _ (List.Mem.head _)) (N2029 _ (Or.inl ⟨g2031, rfl⟩))
          ·
            exact z_load X (x := e2023) rfl (List.Mem.head _) (z_goto X (t := 204) rfl rfl (N2029 _ (Or.inr (⟨g2031, rfl⟩))))
        refine z_icmp_ge X (t := 193) rfl rfl hrs2022 hrs2012 (fun g2032 => ?_) (fun g2032 => ?_)
        ·
          exact z_const X rfl (N2027 _ (Or.inl ⟨g2032, rfl⟩))
        ·
          exact z_const X rfl (z_goto X (t := 194) rfl rfl (N2027 _ (Or.inr (⟨g2032, rfl⟩))))
      ·
        refine z_load X (x := im) rfl (List.Mem.tail _ (List.Mem.tail _ (List.Mem.tail _ (List.Mem.head _)))) (z_if_eq X (t := 206) rfl rfl ⟨by first | exact oq_bde653e9 hi.2.2.2.2.2.2 | omega, by first | exact oq_4ad2cb8b hi.2.2.2.2.2.2 | omega⟩ (fun g2033 => ?_) (fun g2033 => ?_))
        ·
          refine WS_pq [1, 0] (lv' := [(0, .ref (A 179)), (5, .int (Int32.ofInt e2013))]) rfl ?_
          exact L206 _ e2013 Is2012 Gs2012 JFDB_s2012 (by exfalso; omega) (by first | exact And.intro (hi.1) (And.intro (oq_4b8d46b3 hps2012p.1 hi.2.2.1) (And.intro (oq_f8a2cf0e hps2012p.2.1 hi.2.2.2.1) (And.intro (oq_394b29e1 hps2012.2.2.1 hi.2.2.2.2.1) (And.intro (oq_34715ffd g2033 g2017 ha) (And.intro (hrs2012.1) (hrs2012.2)))))) | (clear hps2012 p2; omega) | (clear p2; omega) | omega)
        ·
          refine z_aload_n X (x := A 179) rfl (List.Mem.tail _ (List.Mem.head _)) (z_bipush X rfl (z_callV X 179 (rm := rmN 204) (As := [.int (Int32.ofInt 44)]) (st := []) rfl rfl (by decide) rfl (by rw [E.1, E.2.1, E.2.2.1]; exact k_sign3 G Is2012 JFDB_s2012 (by first | exact ⟨by decide, by decide⟩ | omega) (by first | exact oq_93a1c4d4 hps2012.2.2.1 hi.2.2.2.2.1 | omega)) ⟨by rw [E.2.2.2]; exact (show 8 + 1 ≤ (12 + (3 * (r + 1))) from oq_0f4637ff r), by rw [E.2.2.2]; exact (show 8 + (2 + 11) + 141 ≤ (500 + 45 * (3 * (r + 1))) from oq_673d70d0 r), by rw [E.2.2.2]; exact Nat.le_refl 0, by rw [E.2.2.2]; exact Nat.le_refl 0⟩ (Nat.le_of_ble_eq_true rfl) (fun vv s2034 hq => ?_) (fun ee s2034 hq => ?_)))
          rotate_left
          · obtain ⟨Is2034, Fs2034, JFDB_s2034, hv, hps2034⟩ := hq; cases hv
          obtain ⟨Is2034, Fs2034, JFDB_s2034, hv, hps2034⟩ := hq
          have hps2034p := And.intro hps2034.1 (hps2034.2.1)
          cases hv
          have Gs2034 := fm_tq Gs2012 Fs2034 rfl rfl
          have JFDB_s2034 : FDB B N s2034 := FDB_fm Fs2034 (by decide) JFDB_s2012
          have b2036 := bi_77 Is2034
          have ws2034_75 : iI s2034 75 = iI s2012 75 := fm_iq Fs2034 rfl
          have b2037 := bi_79 Is2034
          have ws2034_78 : iI s2034 78 = iI s2012 78 := fm_iq Fs2034 rfl
          show WS k 175 [(5, .int (Int32.ofInt e2013)), (0, .ref (A 179)), (3, .int (Int32.ofInt il)), (4, .int (Int32.ofInt im))] [] (Wd A dT s2034) 0 0
          have hsf := fun h => sg_fa hps2034.1 h
          refine z_aload_n X (x := A 179) rfl (List.Mem.tail _ (List.Mem.head _)) (z_callV X 179 (rm := (rkR (3 * (r) + 2))) (As := []) (st := []) rfl rfl (by decide) rfl (by rw [E.1, E.2.1, E.2.2.1]; exact hS Is2034 JFDB_s2034 (by first | exact oq_089b1e2e hps2034.2.2 hps2012.2.2.1 hN b2002.2 hi.2.2.2.2.1 | (clear hps2034 g2033 hps2012 p2; omega) | (clear g2033 hps2012 p2; omega) | omega) (by first | exact oq_6126d2ac ws2034_78 p1 hps2012.1 hi.2.2.1 | omega) (by first | exact oq_4ed86b7a hsf ws2034_78 b2015.1 hps2012p.1 hps2012.2.2.2.1 hi.2.2.1 hi.2.1 | (clear hps2034 g2033 hps2012 p2; omega) | (clear g2033 hps2012 p2; omega) | omega)) ⟨by rw [E.2.2.2]; exact (show (12 + (3 * (r) + 2)) + 1 ≤ (12 + (3 * (r + 1))) from oq_11500719 r), by rw [E.2.2.2]; exact (show 8 + (4 + 11) + (500 + 45 * (3 * (r) + 2)) ≤ (500 + 45 * (3 * (r + 1))) from oq_998273a9 r), by rw [E.2.2.2]; exact Nat.le_refl 0, by rw [E.2.2.2]; exact Nat.le_refl 0⟩ (Nat.le_of_ble_eq_true rfl) (fun vv s2038 hq => ?_) (fun ee s2038 hq => ?_))
          rotate_left
          · obtain ⟨Is2038, Fs2038, JFDB_s2038, e2039, hv, hrs2038, hps2038⟩ := hq; cases hv
          obtain ⟨Is2038, Fs2038, JFDB_s2038, e2039, hv, hrs2038, hps2038⟩ := hq
          have hps2038p := And.intro hps2038.1 (And.intro hps2038.2.1 (hps2038.2.2.2.2.2))
          cases hv
          have Gs2038 := fm_tq Gs2034 Fs2038 rfl rfl
          have JFDB_s2038 : FDB B N s2038 := FDB_fm Fs2038 (by decide) JFDB_s2034
          have b2040 := bi_77 Is2038
          have ws2038_75 : iI s2038 75 = iI s2034 75 := fm_iq Fs2038 rfl
          have b2041 := bi_79 Is2038
          have b2042 := bi_78 Is2038
          show WS k 179 [(5, .int (Int32.ofInt e2013)), (0, .ref (A 179)), (3, .int (Int32.ofInt il)), (4, .int (Int32.ofInt im))] [.int (Int32.ofInt e2039)] (Wd A dT s2038) 0 0
          refine z_store X (lv' := [(6, .int (Int32.ofInt e2039)), (5, .int (Int32.ofInt e2013)), (0, .ref (A 179)), (3, .int (Int32.ofInt il)), (4, .int (Int32.ofInt im))]) rfl (by decide) (fun _ h => h) (z_load_n X (x := il) rfl (List.Mem.tail _ (List.Mem.tail _ (List.Mem.tail _ (List.Mem.head _)))) (z_load X (x := e2039) rfl (List.Mem.head _) (z_load X (x := e2013) rfl (List.Mem.tail _ (List.Mem.head _)) ?_)))
          have N2043 : ∀ e2044 : Int, (((e2013 ≤ e2039) ∧ e2044 = 0) ∨ ((e2039 < e2013) ∧ e2044 = 1)) → WS k 194 [(6, .int (Int32.ofInt e2039)), (5, .int (Int32.ofInt e2013)), (0, .ref (A 179)), (3, .int (Int32.ofInt il)), (4, .int (Int32.ofInt im))] [.int (Int32.ofInt e2044), .int (Int32.ofInt il)] (Wd A dT s2038) 0 0 := by
            intro e2044 he2044
            have re2044 : 0 ≤ e2044 ∧ e2044 ≤ 1 := by first | exact And.intro (oq_7bcf922d he2044) (oq_4d987fa3 he2044) | (clear he2044 hps2038 hps2034 g2033 hps2012 p2; omega) | (clear hps2038 hps2034 g2033 hps2012 p2; omega) | omega
            have N2045 : ∀ e2046 : Int, (((il ≠ e2044) ∧ e2046 = e2013) ∨ ((il = e2044) ∧ e2046 = e2039)) → WS k 204 [(6, .int (Int32.ofInt e2039)), (5, .int (Int32.ofInt e2013)), (0, .ref (A 179)), (3, .int (Int32.ofInt il)), (4, .int (Int32.ofInt im))] [.int (Int32.ofInt e2046)] (Wd A dT s2038) 0 0 := by
              intro e2046 he2046
              refine z_store X (lv' := [(5, .int (Int32.ofInt e2046)), (6, .int (Int32.ofInt e2039)), (0, .ref (A 179)), (3, .int (Int32.ofInt il)), (4, .int (Int32.ofInt im))]) rfl (by decide) (fun _ h => h) (WS_pq [2, 0] (lv' := [(0, .ref (A 179)), (5, .int (Int32.ofInt e2046))]) rfl ?_)
              exact L206 _ e2046 Is2038 Gs2038 JFDB_s2038 (fun u hu => ou_twoF hnd (wh_no hd) hd hch (by first | exact oq_5ff460d6 p1 | (clear he2046 he2044 hps2038 hps2034 g2033 hps2012 p2; omega) | (clear he2044 hps2038 hps2034 g2033 hps2012 p2; omega) | omega) (by first | exact hi.2.1 | (clear he2046 he2044 hps2038 hps2034 g2033 hps2012 p2; omega) | (clear he2044 hps2038 hps2034 g2033 hps2012 p2; omega) | omega) hA (by first | exact hi.2.2.1 | (clear he2046 he2044 hps2038 hps2034 g2033 hps2012 p2; omega) | (clear he2044 hps2038 hps2034 g2033 hps2012 p2; omega) | omega) hps2012.2.2.2.2.2 hps2034.1 (by first | exact oq_52108d03 ws2034_78 hps2012p.1 hi.2.2.1 | (clear he2046 he2044 hps2038 hps2034 g2033 hps2012 p2; omega) | (clear he2044 hps2038 hps2034 g2033 hps2012 p2; omega) | omega) hps2038.2.2.2.2.2 hu) (by first | (clear he2046 he2044 hps2038 hps2034 g2033 hps2012 p2; omega) | (clear he2044 hps2038 hps2034 g2033 hps2012 p2; omega) | omega)
            refine z_icmp_ne X (t := 202) rfl rfl ⟨by first | exact oq_6ab4c69f g2017 | omega, by first | exact oq_3b8a080c g2017 | omega⟩ ⟨by first | exact oq_fa4e5087 re2044.1 | omega, by first | exact oq_22e1e6b0 re2044.2 | omega⟩ (fun g2047 => ?_) (fun g2047 => ?_)
            ·
              exact z_load X (x := e2013) rfl (List.Mem.tail _ (List.Mem.head _)) (N2045 _ (Or.inl ⟨g2047, rfl⟩))
            ·
              exact z_load X (x := e2039) rfl (List.Mem.head _) (z_goto X (t := 204) rfl rfl (N2045 _ (Or.inr (⟨g2047, rfl⟩))))
          refine z_icmp_ge X (t := 193) rfl rfl hrs2038 hrs2012 (fun g2048 => ?_) (fun g2048 => ?_)
          ·
            exact z_const X rfl (N2043 _ (Or.inl ⟨g2048, rfl⟩))
          ·
            exact z_const X rfl (z_goto X (t := 194) rfl rfl (N2043 _ (Or.inr (⟨g2048, rfl⟩))))
  have L121 : ∀ (t : PS) (il im : Int), Bd t → Fm [77, 79, 80, 78] [] s t → FDB B N t → (UQ1 B N (sk B N (iI s 77)) t il im) → (iI s 79 = 0 ∧ iI t 79 = 0 ∧ iI t 78 = iI s 78 ∧ iI s 77 ≤ iI t 77 ∧ (iI t 77 = iI s 77 ∨ iI t 77 ≤ 202) ∧ (il = 0 ∨ il = 1) ∧ (im = 0 ∨ im = 1)) → WS k 121 [(0, .ref (A 179)), (3, .int (Int32.ofInt il)), (4, .int (Int32.ofInt im))] [] (Wd A dT t) 0 0 := by
    intro t il im I F jjFDB hq hi
    have b3001 := bi_77 I
    have b3002 := bi_75 I
    have b3003 := bi_79 I
    have b3004 := bi_78 I
    have hN := jjFDB.2.1
    have hW := jjFDB.2.2
    have hskp : sk B N (sk B N (iI s 77)) = (sk B N (iI s 77)) := sk_sk
    obtain ⟨hnd, hnm, hq⟩ := hq
    rcases hq with hq | hq
    ·
      obtain ⟨ha, hb_, hc, hd⟩ := hq
      refine z_aload_n X (x := A 179) rfl (List.Mem.head _) (z_callV X 179 (rm := rmN 193) (As := []) (st := []) rfl rfl (by decide) rfl (by rw [E.1, E.2.1, E.2.2.1]; exact k_blanks2 G I jjFDB (by first | exact oq_299765ef hi.2.2.2.2.1 p0 | omega)) ⟨by rw [E.2.2.2]; exact (show 7 + 1 ≤ (12 + (3 * (r + 1))) from oq_d528a8f9 r), by rw [E.2.2.2]; exact (show 8 + (1 + 11) + 121 ≤ (500 + 45 * (3 * (r + 1))) from oq_218e8e31 r), by rw [E.2.2.2]; exact Nat.le_refl 0, by rw [E.2.2.2]; exact Nat.le_refl 0⟩ (Nat.le_of_ble_eq_true rfl) (fun vv s3005 hq => ?_) (fun ee s3005 hq => ?_))
      rotate_left
      · obtain ⟨Is3005, Fs3005, JFDB_s3005, hv, hps3005⟩ := hq; cases hv
      obtain ⟨Is3005, Fs3005, JFDB_s3005, hv, hps3005⟩ := hq
      have hps3005p := And.intro hps3005.1 (hps3005.2.1)
      cases hv
      have Gs3005 := fm_tq F Fs3005 rfl rfl
      have JFDB_s3005 : FDB B N s3005 := FDB_fm Fs3005 (by decide) jjFDB
      have b3007 := bi_77 Is3005
      have ws3005_75 : iI s3005 75 = iI t 75 := fm_iq Fs3005 rfl
      have ws3005_79 : iI s3005 79 = iI t 79 := fm_iq Fs3005 rfl
      have ws3005_78 : iI s3005 78 = iI t 78 := fm_iq Fs3005 rfl
      show WS k 125 [(0, .ref (A 179)), (3, .int (Int32.ofInt il)), (4, .int (Int32.ofInt im))] [] (Wd A dT s3005) 0 0
      have hq9 : iI s3005 77 = (sk B N (iI s 77)) := by rw [hps3005.1, hc]; exact hskp
      refine z_aload_n X (x := A 179) rfl (List.Mem.head _) (z_aload_n X (x := A 179) rfl (List.Mem.head _) (z_getI X 179 rfl (c518_ok rfl) rfl rfl ?_))
      have b3008 := bi_77 Is3005
      refine z_callV X 179 (rm := rmN 192) (As := [.int (Int32.ofInt (iI s3005 77))]) (st := []) rfl rfl (by decide) rfl (by rw [E.1, E.2.1, E.2.2.1]; exact k_byteAt2 G Is3005 JFDB_s3005 (by first | exact ⟨b3008.1, oq_5a8480eb b3008.2⟩ | omega)) ⟨by rw [E.2.2.2]; exact (show 6 + 1 ≤ (12 + (3 * (r + 1))) from oq_0dc82175 r), by rw [E.2.2.2]; exact (show 8 + (2 + 11) + 100 ≤ (500 + 45 * (3 * (r + 1))) from oq_c9027365 r), by rw [E.2.2.2]; exact Nat.le_refl 0, by rw [E.2.2.2]; exact Nat.le_refl 0⟩ (Nat.le_of_ble_eq_true rfl) (fun vv s3009 hq => ?_) (fun ee s3009 hq => ?_)
      rotate_left
      · obtain ⟨rfl, e3010, hv, hrs3009, hps3009⟩ := hq; cases hv
      obtain ⟨rfl, e3010, hv, hrs3009, hps3009⟩ := hq
      cases hv
      show WS k 133 [(0, .ref (A 179)), (3, .int (Int32.ofInt il)), (4, .int (Int32.ofInt im))] [.int (Int32.ofInt e3010)] (Wd A dT s3005) 0 0
      have hby2 := hps3009
      rw [hq9] at hby2
      refine z_bipush X rfl (z_icmp_eq X (t := 149) rfl rfl hrs3009 (by decide) (fun g3011 => ?_) (fun g3011 => ?_))
      ·
        have hch : chT B N (sk B N (iI s 77)) 40 := ⟨by first | exact oq_5bc28900 g3011 hby2 | (clear hps3009 hps3005 p2; omega) | (clear hps3005 p2; omega) | omega, by first | exact oq_215d9a8d g3011 hby2 | (clear hps3009 hps3005 p2; omega) | (clear hps3005 p2; omega) | omega⟩
        refine z_aload_n X (x := A 179) rfl (List.Mem.head _) (z_const X rfl (z_callV X 179 (rm := rmN 205) (As := [.int (Int32.ofInt 1)]) (st := []) rfl rfl (by decide) rfl (by rw [E.1, E.2.1, E.2.2.1]; exact k_opens3 G Is3005 (by first | exact ⟨by decide, by decide⟩ | omega) (by first | exact oq_1acbb97d g3011 hps3009 hN b3002.2 | (clear hps3009 hps3005 p2; omega) | (clear hps3005 p2; omega) | omega) (by first | exact oq_55179b65 ws3005_78 hi.2.2.1 p1 | (clear hps3009 hps3005 p2; omega) | (clear hps3005 p2; omega) | omega)) ⟨by rw [E.2.2.2]; exact (show 7 + 1 ≤ (12 + (3 * (r + 1))) from oq_d528a8f9 r), by rw [E.2.2.2]; exact (show 8 + (2 + 11) + 122 ≤ (500 + 45 * (3 * (r + 1))) from oq_3e907fa5 r), by rw [E.2.2.2]; exact Nat.le_refl 0, by rw [E.2.2.2]; exact Nat.le_refl 0⟩ (Nat.le_of_ble_eq_true rfl) (fun vv s3012 hq => ?_) (fun ee s3012 hq => ?_)))
        rotate_left
        · obtain ⟨Is3012, Fs3012, hv, hps3012⟩ := hq; cases hv
        obtain ⟨Is3012, Fs3012, hv, hps3012⟩ := hq
        have hps3012p := And.intro hps3012.1 (hps3012.2.1)
        cases hv
        have Gs3012 := fm_tq Gs3005 Fs3012 rfl rfl
        have JFDB_s3012 : FDB B N s3012 := FDB_fm Fs3012 (by decide) JFDB_s3005
        have b3014 := bi_77 Is3012
        have ws3012_75 : iI s3012 75 = iI s3005 75 := fm_iq Fs3012 rfl
        have b3015 := bi_79 Is3012
        have b3016 := bi_78 Is3012
        show WS k 154 [(0, .ref (A 179)), (3, .int (Int32.ofInt il)), (4, .int (Int32.ofInt im))] [] (Wd A dT s3012) 0 0
        refine WS_pq [0, 1, 2] (lv' := [(0, .ref (A 179)), (3, .int (Int32.ofInt il)), (4, .int (Int32.ofInt im))]) rfl ?_
        exact L154 _ il im Is3012 Gs3012 JFDB_s3012 ⟨hnd, Or.inl ⟨by first | exact ha | (clear hps3012 hps3009 hps3005 p2; omega) | (clear hps3009 hps3005 p2; omega) | omega, by first | exact hb_ | (clear hps3012 hps3009 hps3005 p2; omega) | (clear hps3009 hps3005 p2; omega) | omega, hch, by first | exact oq_665cd23d hps3012p.1 hq9 | (clear hps3012 hps3009 hps3005 p2; omega) | (clear hps3009 hps3005 p2; omega) | omega⟩⟩ (by first | exact ⟨hi.1, oq_b9a55545 b3015.1 hps3012.2.2 ws3005_78 ws3005_79 b3003.1 hi.2.2.1 hi.2.1, oq_cae9ec4a hps3012.2.1 ws3005_78 hi.2.2.1, oq_6867a2fe hps3012.1 hi.2.2.2.1 hps3005.2.1, by first | exact oq_c5023ad9 hps3012p.1 g3011 hps3009 hN b3002.2 | (clear hps3012 hps3009 hps3005 p2; omega) | (clear hps3009 hps3005 p2; omega) | omega, hi.2.2.2.2.2.1, hi.2.2.2.2.2.2⟩ | omega)
      ·
        refine z_aload_n X (x := A 179) rfl (List.Mem.head _) (z_const X rfl (z_aload_n X (x := A 179) rfl (List.Mem.head _) (z_getI X 179 rfl (c518_ok rfl) rfl rfl ?_)))
        have b3017 := bi_77 Is3005
        refine z_callV X 179 (rm := rmN 194) (As := [.int (Int32.ofInt 1), .int (Int32.ofInt (iI s3005 77))]) (st := []) rfl rfl (by decide) rfl (by rw [E.1, E.2.1, E.2.2.1]; exact k_wrong3 G Is3005 (by first | exact ⟨by decide, by decide⟩ | omega) (by first | exact ⟨oq_ca54ea22 b3017.1, b3017.2⟩ | omega)) ⟨by rw [E.2.2.2]; exact (show 6 + 1 ≤ (12 + (3 * (r + 1))) from oq_0dc82175 r), by rw [E.2.2.2]; exact (show 8 + (3 + 11) + 100 ≤ (500 + 45 * (3 * (r + 1))) from oq_cdc25995 r), by rw [E.2.2.2]; exact Nat.le_refl 0, by rw [E.2.2.2]; exact Nat.le_refl 0⟩ (Nat.le_of_ble_eq_true rfl) (fun vv s3018 hq => ?_) (fun ee s3018 hq => ?_)
        rotate_left
        · obtain ⟨Is3018, Fs3018, hv, hps3018⟩ := hq; cases hv
        obtain ⟨Is3018, Fs3018, hv, hps3018⟩ := hq
        cases hv
        have Gs3018 := fm_tq Gs3005 Fs3018 rfl rfl
        have JFDB_s3018 : FDB B N s3018 := FDB_fm Fs3018 (by decide) JFDB_s3005
        have ws3018_77 : iI s3018 77 = iI s3005 77 := fm_iq Fs3018 rfl
        have ws3018_75 : iI s3018 75 = iI s3005 75 := fm_iq Fs3018 rfl
        have b3020 := bi_79 Is3018
        have ws3018_78 : iI s3018 78 = iI s3005 78 := fm_iq Fs3018 rfl
        show WS k 147 [(0, .ref (A 179)), (3, .int (Int32.ofInt il)), (4, .int (Int32.ofInt im))] [] (Wd A dT s3018) 0 0
        refine z_const X rfl ?_
        exact w_iret X.1 q hRt rfl (ax_d X (show cdA 207 148 = some (.ireturn, 1, 0, 0, 0) from rfl)) (Nat.zero_le _) (Nat.zero_le _) ⟨_, rfl, Is3018, Gs3018, JFDB_s3018, 0, rfl, (by decide), ⟨by first | exact oq_878618b1 ws3018_78 ws3005_78 hi.2.2.1 | omega, by first | exact oq_6f31d0da ws3018_77 hi.2.2.2.1 hps3005.2.1 | omega, by first | exact oq_be8ad988 ws3018_77 hq9 hc hi.2.2.2.2.1 p0 | (clear hps3018 g3011 hps3009 hps3005 p2; omega) | (clear g3011 hps3009 hps3005 p2; omega) | omega, by first | exact oq_e013ad0f hi.1 | omega, by first | exact oq_67d4e76f b3020.1 hps3018 | omega, Or.inr ⟨by first | exact hi.1 | (clear hps3018 g3011 hps3009 hps3005 p2; omega) | (clear g3011 hps3009 hps3005 p2; omega) | omega, ou_nop hnd (by first | (clear hps3018 g3011 hps3009 hps3005 p2; omega) | (clear g3011 hps3009 hps3005 p2; omega) | omega) hd (by first | exact hnm | (clear hps3018 g3011 hps3009 hps3005 p2; omega) | (clear g3011 hps3009 hps3005 p2; omega) | omega) (by first | exact oq_55aac509 hps3018 ws3005_79 b3003.1 hi.2.1 | (clear hps3018 g3011 hps3009 hps3005 p2; omega) | (clear g3011 hps3009 hps3005 p2; omega) | omega)⟩⟩⟩
    ·
      obtain ⟨ha, hc, hd⟩ := hq
      refine z_aload_n X (x := A 179) rfl (List.Mem.head _) (z_callV X 179 (rm := rmN 193) (As := []) (st := []) rfl rfl (by decide) rfl (by rw [E.1, E.2.1, E.2.2.1]; exact k_blanks2 G I jjFDB (by first | exact oq_299765ef hi.2.2.2.2.1 p0 | omega)) ⟨by rw [E.2.2.2]; exact (show 7 + 1 ≤ (12 + (3 * (r + 1))) from oq_d528a8f9 r), by rw [E.2.2.2]; exact (show 8 + (1 + 11) + 121 ≤ (500 + 45 * (3 * (r + 1))) from oq_218e8e31 r), by rw [E.2.2.2]; exact Nat.le_refl 0, by rw [E.2.2.2]; exact Nat.le_refl 0⟩ (Nat.le_of_ble_eq_true rfl) (fun vv s3021 hq => ?_) (fun ee s3021 hq => ?_))
      rotate_left
      · obtain ⟨Is3021, Fs3021, JFDB_s3021, hv, hps3021⟩ := hq; cases hv
      obtain ⟨Is3021, Fs3021, JFDB_s3021, hv, hps3021⟩ := hq
      have hps3021p := And.intro hps3021.1 (hps3021.2.1)
      cases hv
      have Gs3021 := fm_tq F Fs3021 rfl rfl
      have JFDB_s3021 : FDB B N s3021 := FDB_fm Fs3021 (by decide) jjFDB
      have b3023 := bi_77 Is3021
      have ws3021_75 : iI s3021 75 = iI t 75 := fm_iq Fs3021 rfl
      have ws3021_79 : iI s3021 79 = iI t 79 := fm_iq Fs3021 rfl
      have ws3021_78 : iI s3021 78 = iI t 78 := fm_iq Fs3021 rfl
      show WS k 125 [(0, .ref (A 179)), (3, .int (Int32.ofInt il)), (4, .int (Int32.ofInt im))] [] (Wd A dT s3021) 0 0
      have hq9 : iI s3021 77 = sk B N (wdE B N (sk B N (iI s 77))) := by rw [hps3021.1, hc]
      refine z_aload_n X (x := A 179) rfl (List.Mem.head _) (z_aload_n X (x := A 179) rfl (List.Mem.head _) (z_getI X 179 rfl (c518_ok rfl) rfl rfl ?_))
      have b3024 := bi_77 Is3021
      refine z_callV X 179 (rm := rmN 192) (As := [.int (Int32.ofInt (iI s3021 77))]) (st := []) rfl rfl (by decide) rfl (by rw [E.1, E.2.1, E.2.2.1]; exact k_byteAt2 G Is3021 JFDB_s3021 (by first | exact ⟨b3024.1, oq_5a8480eb b3024.2⟩ | omega)) ⟨by rw [E.2.2.2]; exact (show 6 + 1 ≤ (12 + (3 * (r + 1))) from oq_0dc82175 r), by rw [E.2.2.2]; exact (show 8 + (2 + 11) + 100 ≤ (500 + 45 * (3 * (r + 1))) from oq_c9027365 r), by rw [E.2.2.2]; exact Nat.le_refl 0, by rw [E.2.2.2]; exact Nat.le_refl 0⟩ (Nat.le_of_ble_eq_true rfl) (fun vv s3025 hq => ?_) (fun ee s3025 hq => ?_)
      rotate_left
      · obtain ⟨rfl, e3026, hv, hrs3025, hps3025⟩ := hq; cases hv
      obtain ⟨rfl, e3026, hv, hrs3025, hps3025⟩ := hq
      cases hv
      show WS k 133 [(0, .ref (A 179)), (3, .int (Int32.ofInt il)), (4, .int (Int32.ofInt im))] [.int (Int32.ofInt e3026)] (Wd A dT s3021) 0 0
      have hby2 := hps3025
      rw [hq9] at hby2
      refine z_bipush X rfl (z_icmp_eq X (t := 149) rfl rfl hrs3025 (by decide) (fun g3027 => ?_) (fun g3027 => ?_))
      ·
        have hch : chT B N (sk B N (wdE B N (sk B N (iI s 77)))) 40 := ⟨by first | exact oq_5bc28900 g3027 hby2 | (clear hps3025 hps3021 p2; omega) | (clear hps3021 p2; omega) | omega, by first | exact oq_215d9a8d g3027 hby2 | (clear hps3025 hps3021 p2; omega) | (clear hps3021 p2; omega) | omega⟩
        refine z_aload_n X (x := A 179) rfl (List.Mem.head _) (z_const X rfl (z_callV X 179 (rm := rmN 205) (As := [.int (Int32.ofInt 1)]) (st := []) rfl rfl (by decide) rfl (by rw [E.1, E.2.1, E.2.2.1]; exact k_opens3 G Is3021 (by first | exact ⟨by decide, by decide⟩ | omega) (by first | exact oq_1acbb97d g3027 hps3025 hN b3002.2 | (clear hps3025 hps3021 p2; omega) | (clear hps3021 p2; omega) | omega) (by first | exact oq_55179b65 ws3021_78 hi.2.2.1 p1 | (clear hps3025 hps3021 p2; omega) | (clear hps3021 p2; omega) | omega)) ⟨by rw [E.2.2.2]; exact (show 7 + 1 ≤ (12 + (3 * (r + 1))) from oq_d528a8f9 r), by rw [E.2.2.2]; exact (show 8 + (2 + 11) + 122 ≤ (500 + 45 * (3 * (r + 1))) from oq_3e907fa5 r), by rw [E.2.2.2]; exact Nat.le_refl 0, by rw [E.2.2.2]; exact Nat.le_refl 0⟩ (Nat.le_of_ble_eq_true rfl) (fun vv s3028 hq => ?_) (fun ee s3028 hq => ?_)))
        rotate_left
        · obtain ⟨Is3028, Fs3028, hv, hps3028⟩ := hq; cases hv
        obtain ⟨Is3028, Fs3028, hv, hps3028⟩ := hq
        have hps3028p := And.intro hps3028.1 (hps3028.2.1)
        cases hv
        have Gs3028 := fm_tq Gs3021 Fs3028 rfl rfl
        have JFDB_s3028 : FDB B N s3028 := FDB_fm Fs3028 (by decide) JFDB_s3021
        have b3030 := bi_77 Is3028
        have ws3028_75 : iI s3028 75 = iI s3021 75 := fm_iq Fs3028 rfl
        have b3031 := bi_79 Is3028
        have b3032 := bi_78 Is3028
        show WS k 154 [(0, .ref (A 179)), (3, .int (Int32.ofInt il)), (4, .int (Int32.ofInt im))] [] (Wd A dT s3028) 0 0
        refine WS_pq [0, 1, 2] (lv' := [(0, .ref (A 179)), (3, .int (Int32.ofInt il)), (4, .int (Int32.ofInt im))]) rfl ?_
        exact L154 _ il im Is3028 Gs3028 JFDB_s3028 ⟨hnd, Or.inr ⟨by first | exact ha | (clear hps3028 hps3025 hps3021 p2; omega) | (clear hps3025 hps3021 p2; omega) | omega, hd, hch, by first | exact oq_665cd23d hps3028p.1 hq9 | (clear hps3028 hps3025 hps3021 p2; omega) | (clear hps3025 hps3021 p2; omega) | omega⟩⟩ (by first | exact ⟨hi.1, oq_b9a55545 b3031.1 hps3028.2.2 ws3021_78 ws3021_79 b3003.1 hi.2.2.1 hi.2.1, oq_cae9ec4a hps3028.2.1 ws3021_78 hi.2.2.1, oq_6867a2fe hps3028.1 hi.2.2.2.1 hps3021.2.1, by first | exact oq_c5023ad9 hps3028p.1 g3027 hps3025 hN b3002.2 | (clear hps3028 hps3025 hps3021 p2; omega) | (clear hps3025 hps3021 p2; omega) | omega, hi.2.2.2.2.2.1, hi.2.2.2.2.2.2⟩ | omega)
      ·
        refine z_aload_n X (x := A 179) rfl (List.Mem.head _) (z_const X rfl (z_aload_n X (x := A 179) rfl (List.Mem.head _) (z_getI X 179 rfl (c518_ok rfl) rfl rfl ?_)))
        have b3033 := bi_77 Is3021
        refine z_callV X 179 (rm := rmN 194) (As := [.int (Int32.ofInt 1), .int (Int32.ofInt (iI s3021 77))]) (st := []) rfl rfl (by decide) rfl (by rw [E.1, E.2.1, E.2.2.1]; exact k_wrong3 G Is3021 (by first | exact ⟨by decide, by decide⟩ | omega) (by first | exact ⟨oq_ca54ea22 b3033.1, b3033.2⟩ | omega)) ⟨by rw [E.2.2.2]; exact (show 6 + 1 ≤ (12 + (3 * (r + 1))) from oq_0dc82175 r), by rw [E.2.2.2]; exact (show 8 + (3 + 11) + 100 ≤ (500 + 45 * (3 * (r + 1))) from oq_cdc25995 r), by rw [E.2.2.2]; exact Nat.le_refl 0, by rw [E.2.2.2]; exact Nat.le_refl 0⟩ (Nat.le_of_ble_eq_true rfl) (fun vv s3034 hq => ?_) (fun ee s3034 hq => ?_)
        rotate_left
        · obtain ⟨Is3034, Fs3034, hv, hps3034⟩ := hq; cases hv
        obtain ⟨Is3034, Fs3034, hv, hps3034⟩ := hq
        cases hv
        have Gs3034 := fm_tq Gs3021 Fs3034 rfl rfl
        have JFDB_s3034 : FDB B N s3034 := FDB_fm Fs3034 (by decide) JFDB_s3021
        have ws3034_77 : iI s3034 77 = iI s3021 77 := fm_iq Fs3034 rfl
        have ws3034_75 : iI s3034 75 = iI s3021 75 := fm_iq Fs3034 rfl
        have b3036 := bi_79 Is3034
        have ws3034_78 : iI s3034 78 = iI s3021 78 := fm_iq Fs3034 rfl
        show WS k 147 [(0, .ref (A 179)), (3, .int (Int32.ofInt il)), (4, .int (Int32.ofInt im))] [] (Wd A dT s3034) 0 0
        refine z_const X rfl ?_
        exact w_iret X.1 q hRt rfl (ax_d X (show cdA 207 148 = some (.ireturn, 1, 0, 0, 0) from rfl)) (Nat.zero_le _) (Nat.zero_le _) ⟨_, rfl, Is3034, Gs3034, JFDB_s3034, 0, rfl, (by decide), ⟨by first | exact oq_878618b1 ws3034_78 ws3021_78 hi.2.2.1 | omega, by first | exact oq_6f31d0da ws3034_77 hi.2.2.2.1 hps3021.2.1 | omega, by first | exact oq_4bb86d13 ws3034_77 hps3021.2.2 hN b3002.2 hi.2.2.2.2.1 p0 | (clear hps3034 g3027 hps3025 hps3021 p2; omega) | (clear g3027 hps3025 hps3021 p2; omega) | omega, by first | exact oq_e013ad0f hi.1 | omega, by first | exact oq_67d4e76f b3036.1 hps3034 | omega, Or.inr ⟨by first | exact hi.1 | (clear hps3034 g3027 hps3025 hps3021 p2; omega) | (clear g3027 hps3025 hps3021 p2; omega) | omega, ou_nop2 hd (by first | (clear hps3034 g3027 hps3025 hps3021 p2; omega) | (clear g3027 hps3025 hps3021 p2; omega) | omega) (by first | exact oq_55aac509 hps3034 ws3021_79 b3003.1 hi.2.1 | (clear hps3034 g3027 hps3025 hps3021 p2; omega) | (clear g3027 hps3025 hps3021 p2; omega) | omega)⟩⟩⟩
  refine z_aload_n X (x := A 179) rfl (List.Mem.head _) (z_getI X 179 rfl (c518_ok rfl) rfl rfl ?_)
  have b5 := bi_79 I
  refine z_if_eq X (t := 9) rfl rfl (rng_to _) (fun g6 => ?_) (fun g6 => ?_)
  ·
    refine z_aload_n X (x := A 179) rfl (List.Mem.head _) (z_callV X 179 (rm := rmN 193) (As := []) (st := []) rfl rfl (by decide) rfl (by rw [E.1, E.2.1, E.2.2.1]; exact k_blanks2 G I jFDB (by first | exact oq_2ebc9f52 p0 | omega)) ⟨by rw [E.2.2.2]; exact (show 7 + 1 ≤ (12 + (3 * (r + 1))) from oq_d528a8f9 r), by rw [E.2.2.2]; exact (show 8 + (1 + 11) + 121 ≤ (500 + 45 * (3 * (r + 1))) from oq_218e8e31 r), by rw [E.2.2.2]; exact Nat.le_refl 0, by rw [E.2.2.2]; exact Nat.le_refl 0⟩ (Nat.le_of_ble_eq_true rfl) (fun vv s7 hq => ?_) (fun ee s7 hq => ?_))
    rotate_left
    · obtain ⟨Is7, Fs7, JFDB_s7, hv, hps7⟩ := hq; cases hv
    obtain ⟨Is7, Fs7, JFDB_s7, hv, hps7⟩ := hq
    have hps7p := And.intro hps7.1 (hps7.2.1)
    cases hv
    have Gs7 := fm_tq F Fs7 rfl rfl
    have JFDB_s7 : FDB B N s7 := FDB_fm Fs7 (by decide) jFDB
    have b9 := bi_77 Is7
    have ws7_75 : iI s7 75 = iI s 75 := fm_iq Fs7 rfl
    have ws7_79 : iI s7 79 = iI s 79 := fm_iq Fs7 rfl
    have ws7_78 : iI s7 78 = iI s 78 := fm_iq Fs7 rfl
    show WS k 13 [(0, .ref (A 179))] [] (Wd A dT s7) 0 0
    obtain ⟨pz, hpz⟩ : ∃ q, q = sk B N (iI s 77) := ⟨_, rfl⟩
    have hskp : sk B N pz = pz := by rw [hpz]; exact sk_sk
    have hb : iI s7 77 = pz := by rw [hpz]; exact hps7.1
    refine z_aload_n X (x := A 179) rfl (List.Mem.head _) (z_aload_n X (x := A 179) rfl (List.Mem.head _) (z_getI X 179 rfl (c518_ok rfl) rfl rfl ?_))
    have b10 := bi_77 Is7
    refine z_callV X 179 (rm := rmN 192) (As := [.int (Int32.ofInt (iI s7 77))]) (st := []) rfl rfl (by decide) rfl (by rw [E.1, E.2.1, E.2.2.1]; exact k_byteAt2 G Is7 JFDB_s7 (by first | exact ⟨b10.1, oq_5a8480eb b10.2⟩ | omega)) ⟨by rw [E.2.2.2]; exact (show 6 + 1 ≤ (12 + (3 * (r + 1))) from oq_0dc82175 r), by rw [E.2.2.2]; exact (show 8 + (2 + 11) + 100 ≤ (500 + 45 * (3 * (r + 1))) from oq_c9027365 r), by rw [E.2.2.2]; exact Nat.le_refl 0, by rw [E.2.2.2]; exact Nat.le_refl 0⟩ (Nat.le_of_ble_eq_true rfl) (fun vv s11 hq => ?_) (fun ee s11 hq => ?_)
    rotate_left
    · obtain ⟨rfl, e12, hv, hrs11, hps11⟩ := hq; cases hv
    obtain ⟨rfl, e12, hv, hrs11, hps11⟩ := hq
    cases hv
    show WS k 21 [(0, .ref (A 179))] [.int (Int32.ofInt e12)] (Wd A dT s7) 0 0
    have hby := hps11
    rw [hb] at hby
    refine z_callS X (rm := rmN 195) (As := [.int (Int32.ofInt e12)]) (st := []) rfl rfl (by rw [E.1, E.2.1, E.2.2.1]; exact k_isDigit2 G Is7 (by first | exact ⟨oq_1b38bc36 hps11, oq_eabbb498 hps11⟩ | omega)) ⟨by rw [E.2.2.2]; exact (show 6 + 1 ≤ (12 + (3 * (r + 1))) from oq_0dc82175 r), by rw [E.2.2.2]; exact (show 8 + (1 + 11) + 100 ≤ (500 + 45 * (3 * (r + 1))) from oq_eb98a9a7 r), by rw [E.2.2.2]; exact Nat.le_refl 0, by rw [E.2.2.2]; exact Nat.le_refl 0⟩ (Nat.le_of_ble_eq_true rfl) (fun vv s13 hq => ?_) (fun ee s13 hq => ?_)
    rotate_left
    · obtain ⟨rfl, e14, hv, hrs13, hps13⟩ := hq; cases hv
    obtain ⟨rfl, e14, hv, hrs13, hps13⟩ := hq
    cases hv
    show WS k 24 [(0, .ref (A 179))] [.int (Int32.ofInt e14)] (Wd A dT s7) 0 0
    refine z_if_eq X (t := 36) rfl rfl hrs13 (fun g15 => ?_) (fun g15 => ?_)
    ·
      have hnd : ¬ dgP B N pz := by first | (clear hps13 hps11 hps7 p2; omega) | (clear hps11 hps7 p2; omega) | omega
      refine z_aload_n X (x := A 179) rfl (List.Mem.head _) (z_callV X 179 (rm := rmN 206) (As := []) (st := []) rfl rfl (by decide) rfl (by rw [E.1, E.2.1, E.2.2.1]; exact k_nameHere3 G Is7 JFDB_s7 (by first | exact oq_d4704861 hps7.2.2 b2.2 hN p0 | (clear hps13 hps11 hps7 p2; omega) | (clear hps11 hps7 p2; omega) | omega)) ⟨by rw [E.2.2.2]; exact (show 9 + 1 ≤ (12 + (3 * (r + 1))) from oq_c359dceb r), by rw [E.2.2.2]; exact (show 8 + (2 + 11) + 163 ≤ (500 + 45 * (3 * (r + 1))) from oq_4e1b90b2 r), by rw [E.2.2.2]; exact Nat.le_refl 0, by rw [E.2.2.2]; exact Nat.le_refl 0⟩ (Nat.le_of_ble_eq_true rfl) (fun vv s16 hq => ?_) (fun ee s16 hq => ?_))
      rotate_left
      · obtain ⟨Is16, Fs16, JFDB_s16, e17, hv, hrs16, hps16⟩ := hq; cases hv
      obtain ⟨Is16, Fs16, JFDB_s16, e17, hv, hrs16, hps16⟩ := hq
      have hps16p := And.intro hps16.1 (hps16.2.2.1)
      cases hv
      have Gs16 := fm_tq Gs7 Fs16 rfl rfl
      have JFDB_s16 : FDB B N s16 := FDB_fm Fs16 (by decide) JFDB_s7
      have b18 := bi_77 Is16
      have ws16_75 : iI s16 75 = iI s7 75 := fm_iq Fs16 rfl
      have ws16_79 : iI s16 79 = iI s7 79 := fm_iq Fs16 rfl
      have ws16_78 : iI s16 78 = iI s7 78 := fm_iq Fs16 rfl
      show WS k 40 [(0, .ref (A 179))] [.int (Int32.ofInt e17)] (Wd A dT s16) 0 0
      have hn1 : iI s16 77 = pz := by rw [hps16.1, hb]; exact hskp
      have hnm := hps16.2.1
      rw [hn1] at hnm
      refine z_store_n X (lv' := [(1, .int (Int32.ofInt e17)), (0, .ref (A 179))]) rfl (by decide) (fun _ h => h) (z_aload_n X (x := A 179) rfl (List.Mem.tail _ (List.Mem.head _)) (z_callV X 179 (rm := rmN 201) (As := []) (st := []) rfl rfl (by decide) rfl (by rw [E.1, E.2.1, E.2.2.1]; exact k_wordHere3 G Is16 JFDB_s16 (by first | exact oq_5e26f630 hn1 hb hps7.2.2 b2.2 hN p0 | (clear hps16 hps13 hps11 hps7 p2; omega) | (clear hps13 hps11 hps7 p2; omega) | omega)) ⟨by rw [E.2.2.2]; exact (show 8 + 1 ≤ (12 + (3 * (r + 1))) from oq_0f4637ff r), by rw [E.2.2.2]; exact (show 8 + (3 + 11) + 141 ≤ (500 + 45 * (3 * (r + 1))) from oq_78cdcaf8 r), by rw [E.2.2.2]; exact Nat.le_refl 0, by rw [E.2.2.2]; exact Nat.le_refl 0⟩ (Nat.le_of_ble_eq_true rfl) (fun vv s19 hq => ?_) (fun ee s19 hq => ?_)))
      rotate_left
      · obtain ⟨Is19, Fs19, JFDB_s19, e20, hv, hrs19, hps19⟩ := hq; cases hv
      obtain ⟨Is19, Fs19, JFDB_s19, e20, hv, hrs19, hps19⟩ := hq
      have hps19p := And.intro hps19.1 (And.intro hps19.2.1 (hps19.2.2.1))
      cases hv
      have Gs19 := fm_tq Gs16 Fs19 rfl rfl
      have JFDB_s19 : FDB B N s19 := FDB_fm Fs19 (by decide) JFDB_s16
      have b21 := bi_77 Is19
      have ws19_75 : iI s19 75 = iI s16 75 := fm_iq Fs19 rfl
      have ws19_79 : iI s19 79 = iI s16 79 := fm_iq Fs19 rfl
      have ws19_78 : iI s19 78 = iI s16 78 := fm_iq Fs19 rfl
      show WS k 45 [(1, .int (Int32.ofInt e17)), (0, .ref (A 179))] [.int (Int32.ofInt e20)] (Wd A dT s19) 0 0
      have hn2 : iI s19 77 = pz := by rw [hps19.1, hn1]; exact hskp
      have hwv : e20 = whV B N pz := by rw [hps19.2.1, hn2]
      refine z_store_n X (lv' := [(2, .int (Int32.ofInt e20)), (1, .int (Int32.ofInt e17)), (0, .ref (A 179))]) rfl (by decide) (fun _ h => h) (z_load_n X (x := e17) rfl (List.Mem.tail _ (List.Mem.head _)) (z_const X rfl (z_icmp_eq X (t := 62) rfl rfl hrs16 (by decide) (fun g22 => ?_) (fun g22 => ?_))))
      ·
        refine z_load_n X (x := e20) rfl (List.Mem.head _) (z_bipush X rfl (z_const X rfl (z_const X rfl (z_bipush X rfl (z_bipush X rfl (z_const X rfl (z_callS X (rm := rmN 202) (As := [.int (Int32.ofInt 12), .int (Int32.ofInt 5), .int (Int32.ofInt 1), .int (Int32.ofInt 19), .int (Int32.ofInt 20), .int (Int32.ofInt 0)]) (st := [.int (Int32.ofInt e20)]) rfl rfl (by rw [E.1, E.2.1, E.2.2.1]; exact k_word3 G Is19 (by first | exact ⟨by decide, by decide⟩ | omega) (by first | exact ⟨by decide, by decide⟩ | omega) (by first | exact ⟨by decide, by decide⟩ | omega) (by first | exact ⟨by decide, by decide⟩ | omega) (by first | exact ⟨by decide, by decide⟩ | omega) (by first | exact ⟨by decide, by decide⟩ | omega)) ⟨by rw [E.2.2.2]; exact (show 6 + 1 ≤ (12 + (3 * (r + 1))) from oq_0dc82175 r), by rw [E.2.2.2]; exact (show 8 + (7 + 11) + 100 ≤ (500 + 45 * (3 * (r + 1))) from oq_642991a6 r), by rw [E.2.2.2]; exact Nat.le_refl 0, by rw [E.2.2.2]; exact Nat.le_refl 0⟩ (Nat.le_of_ble_eq_true rfl) (fun vv s23 hq => ?_) (fun ee s23 hq => ?_))))))))
        rotate_left
        · obtain ⟨rfl, e24, hv, hrs23, hps23⟩ := hq; cases hv
        obtain ⟨rfl, e24, hv, hrs23, hps23⟩ := hq
        cases hv
        show WS k 75 [(2, .int (Int32.ofInt e20)), (1, .int (Int32.ofInt e17)), (0, .ref (A 179))] [.int (Int32.ofInt e24), .int (Int32.ofInt e20)] (Wd A dT s19) 0 0
        have hk25 : e24 = 6476969 := by rw [hps23.2]; decide
        have N26 : ∀ e27 : Int, (((e20 ≠ e24) ∧ e27 = 0) ∨ ((e20 = e24) ∧ e27 = 1)) → WS k 83 [(2, .int (Int32.ofInt e20)), (1, .int (Int32.ofInt e17)), (0, .ref (A 179))] [.int (Int32.ofInt e27)] (Wd A dT s19) 0 0 := by
          intro e27 he27
          have re27 : 0 ≤ e27 ∧ e27 ≤ 1 := by first | exact And.intro (oq_9b165878 he27) (oq_44589019 he27) | (clear he27 hps19 hps16 hps13 hps11 hps7 p2; omega) | (clear hps19 hps16 hps13 hps11 hps7 p2; omega) | omega
          refine z_store_n X (lv' := [(3, .int (Int32.ofInt e27)), (2, .int (Int32.ofInt e20)), (1, .int (Int32.ofInt e17)), (0, .ref (A 179))]) rfl (by decide) (fun _ h => h) (z_load_n X (x := e20) rfl (List.Mem.tail _ (List.Mem.head _)) (z_bipush X rfl (z_bipush X rfl (z_bipush X rfl (z_bipush X rfl (z_const X rfl (z_const X rfl (z_callS X (rm := rmN 202) (As := [.int (Int32.ofInt 13), .int (Int32.ofInt 15), .int (Int32.ofInt 19), .int (Int32.ofInt 20), .int (Int32.ofInt 0), .int (Int32.ofInt 0)]) (st := [.int (Int32.ofInt e20)]) rfl rfl (by rw [E.1, E.2.1, E.2.2.1]; exact k_word3 G Is19 (by first | exact ⟨by decide, by decide⟩ | omega) (by first | exact ⟨by decide, by decide⟩ | omega) (by first | exact ⟨by decide, by decide⟩ | omega) (by first | exact ⟨by decide, by decide⟩ | omega) (by first | exact ⟨by decide, by decide⟩ | omega) (by first | exact ⟨by decide, by decide⟩ | omega)) ⟨by rw [E.2.2.2]; exact (show 6 + 1 ≤ (12 + (3 * (r + 1))) from oq_0dc82175 r), by rw [E.2.2.2]; exact (show 8 + (7 + 11) + 100 ≤ (500 + 45 * (3 * (r + 1))) from oq_642991a6 r), by rw [E.2.2.2]; exact Nat.le_refl 0, by rw [E.2.2.2]; exact Nat.le_refl 0⟩ (Nat.le_of_ble_eq_true rfl) (fun vv s28 hq => ?_) (fun ee s28 hq => ?_)))))))))
          rotate_left
          · obtain ⟨rfl, e29, hv, hrs28, hps28⟩ := hq; cases hv
          obtain ⟨rfl, e29, hv, hrs28, hps28⟩ := hq
          cases hv
          show WS k 98 [(3, .int (Int32.ofInt e27)), (2, .int (Int32.ofInt e20)), (1, .int (Int32.ofInt e17)), (0, .ref (A 179))] [.int (Int32.ofInt e29), .int (Int32.ofInt e20)] (Wd A dT s19) 0 0
          have hk30 : e29 = 267347 := by rw [hps28.2]; decide
          have N31 : ∀ e32 : Int, (((e20 ≠ e29) ∧ e32 = 0) ∨ ((e20 = e29) ∧ e32 = 1)) → WS k 106 [(3, .int (Int32.ofInt e27)), (2, .int (Int32.ofInt e20)), (1, .int (Int32.ofInt e17)), (0, .ref (A 179))] [.int (Int32.ofInt e32)] (Wd A dT s19) 0 0 := by
            intro e32 he32
            have re32 : 0 ≤ e32 ∧ e32 ≤ 1 := by first | exact And.intro (oq_9b165878 he32) (oq_44589019 he32) | (clear he32 he27 hps19 hps16 hps13 hps11 hps7 p2; omega) | (clear he27 hps19 hps16 hps13 hps11 hps7 p2; omega) | omega
            refine z_store X (lv' := [(4, .int (Int32.ofInt e32)), (3, .int (Int32.ofInt e27)), (2, .int (Int32.ofInt e20)), (1, .int (Int32.ofInt e17)), (0, .ref (A 179))]) rfl (by decide) (fun _ h => h) (z_load_n X (x := e27) rfl (List.Mem.tail _ (List.Mem.head _)) (z_if_ne X (t := 117) rfl rfl ⟨by first | exact oq_fa4e5087 re27.1 | omega, by first | exact oq_22e1e6b0 re27.2 | omega⟩ (fun g33 => ?_) (fun g33 => ?_)))
            ·
              refine z_aload_n X (x := A 179) rfl (List.Mem.tail _ (List.Mem.tail _ (List.Mem.tail _ (List.Mem.tail _ (List.Mem.head _))))) (z_callV X 179 (rm := rmN 203) (As := []) (st := []) rfl rfl (by decide) rfl (by rw [E.1, E.2.1, E.2.2.1]; exact k_skipWord3 G Is19 JFDB_s19 (by first | exact oq_5e26f630 hn2 hb hps7.2.2 b2.2 hN p0 | (clear g33 he32 he27 hps19 hps16 hps13 hps11 hps7 p2; omega) | (clear he32 he27 hps19 hps16 hps13 hps11 hps7 p2; omega) | omega)) ⟨by rw [E.2.2.2]; exact (show 7 + 1 ≤ (12 + (3 * (r + 1))) from oq_d528a8f9 r), by rw [E.2.2.2]; exact (show 8 + (1 + 11) + 121 ≤ (500 + 45 * (3 * (r + 1))) from oq_218e8e31 r), by rw [E.2.2.2]; exact Nat.le_refl 0, by rw [E.2.2.2]; exact Nat.le_refl 0⟩ (Nat.le_of_ble_eq_true rfl) (fun vv s34 hq => ?_) (fun ee s34 hq => ?_))
              rotate_left
              · obtain ⟨Is34, Fs34, JFDB_s34, hv, hps34⟩ := hq; cases hv
              obtain ⟨Is34, Fs34, JFDB_s34, hv, hps34⟩ := hq
              have hps34p := And.intro hps34.1 (hps34.2.1)
              cases hv
              have Gs34 := fm_tq Gs19 Fs34 rfl rfl
              have JFDB_s34 : FDB B N s34 := FDB_fm Fs34 (by decide) JFDB_s19
              have b36 := bi_77 Is34
              have ws34_75 : iI s34 75 = iI s19 75 := fm_iq Fs34 rfl
              have ws34_79 : iI s34 79 = iI s19 79 := fm_iq Fs34 rfl
              have ws34_78 : iI s34 78 = iI s19 78 := fm_iq Fs34 rfl
              show WS k 121 [(4, .int (Int32.ofInt e32)), (3, .int (Int32.ofInt e27)), (2, .int (Int32.ofInt e20)), (1, .int (Int32.ofInt e17)), (0, .ref (A 179))] [] (Wd A dT s34) 0 0
              refine WS_pq [4, 1, 0] (lv' := [(0, .ref (A 179)), (3, .int (Int32.ofInt e27)), (4, .int (Int32.ofInt e32))]) rfl ?_
              exact L121 _ e27 e32 Is34 Gs34 JFDB_s34 ⟨by rw [← hpz]; exact hnd, by rw [← hpz]; omega, Or.inr ⟨by first | exact Or.inl (oq_246079da g33 re27.2 re27.1) | (clear hps34 g33 he32 he27 hps19 hps16 hps13 hps11 hps7 p2; omega) | (clear g33 he32 he27 hps19 hps16 hps13 hps11 hps7 p2; omega) | omega, by rw [← hpz, hps34.1, hn2], by rw [← hpz]; omega⟩⟩ (by first | exact ⟨g6, oq_ff4f6170 ws34_79 ws19_79 ws16_79 ws7_79 g6, oq_ac0e91e1 ws34_78 ws19_78 ws16_78 ws7_78, oq_c70f5ad6 hps34.2.1 hps7.2.1 hn2 hb, by first | exact oq_2559bc3a hps34.2.2 hn2 hb hps7.2.2 b2.2 hN p0 | (clear hps34 g33 he32 he27 hps19 hps16 hps13 hps11 hps7 p2; omega) | (clear g33 he32 he27 hps19 hps16 hps13 hps11 hps7 p2; omega) | omega, oq_7572678d g33 re27.2 re27.1 he27, oq_e09988bd g33 re32.1 he32 hk30 re27.1 he27 hk25⟩ | omega)
            ·
              refine z_load X (x := e32) rfl (List.Mem.head _) (z_if_eq X (t := 121) rfl rfl ⟨by first | exact oq_fa4e5087 re32.1 | omega, by first | exact oq_22e1e6b0 re32.2 | omega⟩ (fun g37 => ?_) (fun g37 => ?_))
              ·
                refine WS_pq [4, 1, 0] (lv' := [(0, .ref (A 179)), (3, .int (Int32.ofInt e27)), (4, .int (Int32.ofInt e32))]) rfl ?_
                exact L121 _ e27 e32 Is19 Gs19 JFDB_s19 ⟨by rw [← hpz]; exact hnd, by rw [← hpz]; omega, Or.inl ⟨by first | exact g33 | (clear he32 he27 hps19 hps16 hps13 hps11 hps7 p2; omega) | (clear he27 hps19 hps16 hps13 hps11 hps7 p2; omega) | omega, by first | exact g37 | (clear he32 he27 hps19 hps16 hps13 hps11 hps7 p2; omega) | (clear he27 hps19 hps16 hps13 hps11 hps7 p2; omega) | omega, by rw [← hpz]; exact hn2, by rw [← hpz]; omega⟩⟩ (by first | exact ⟨g6, oq_264718cb ws19_79 ws16_79 ws7_79 g6, oq_878618b1 ws19_78 ws16_78 ws7_78, oq_522344b2 hps7.2.1 hn2 hb, by first | exact oq_9c7ad4b3 hn2 hb hps7.2.2 b2.2 hN p0 | (clear he32 he27 hps19 hps16 hps13 hps11 hps7 p2; omega) | (clear he27 hps19 hps16 hps13 hps11 hps7 p2; omega) | omega, Or.inl (g33), Or.inl (g37)⟩ | omega)
              ·
                refine z_aload_n X (x := A 179) rfl (List.Mem.tail _ (List.Mem.tail _ (List.Mem.tail _ (List.Mem.tail _ (List.Mem.head _))))) (z_callV X 179 (rm := rmN 203) (As := []) (st := []) rfl rfl (by decide) rfl (by rw [E.1, E.2.1, E.2.2.1]; exact k_skipWord3 G Is19 JFDB_s19 (by first | exact oq_5e26f630 hn2 hb hps7.2.2 b2.2 hN p0 | (clear g37 he32 he27 hps19 hps16 hps13 hps11 hps7 p2; omega) | (clear he32 he27 hps19 hps16 hps13 hps11 hps7 p2; omega) | omega)) ⟨by rw [E.2.2.2]; exact (show 7 + 1 ≤ (12 + (3 * (r + 1))) from oq_d528a8f9 r), by rw [E.2.2.2]; exact (show 8 + (1 + 11) + 121 ≤ (500 + 45 * (3 * (r + 1))) from oq_218e8e31 r), by rw [E.2.2.2]; exact Nat.le_refl 0, by rw [E.2.2.2]; exact Nat.le_refl 0⟩ (Nat.le_of_ble_eq_true rfl) (fun vv s38 hq => ?_) (fun ee s38 hq => ?_))
                rotate_left
                · obtain ⟨Is38, Fs38, JFDB_s38, hv, hps38⟩ := hq; cases hv
                obtain ⟨Is38, Fs38, JFDB_s38, hv, hps38⟩ := hq
                have hps38p := And.intro hps38.1 (hps38.2.1)
                cases hv
                have Gs38 := fm_tq Gs19 Fs38 rfl rfl
                have JFDB_s38 : FDB B N s38 := FDB_fm Fs38 (by decide) JFDB_s19
                have b40 := bi_77 Is38
                have ws38_75 : iI s38 75 = iI s19 75 := fm_iq Fs38 rfl
                have ws38_79 : iI s38 79 = iI s19 79 := fm_iq Fs38 rfl
                have ws38_78 : iI s38 78 = iI s19 78 := fm_iq Fs38 rfl
                show WS k 121 [(4, .int (Int32.ofInt e32)), (3, .int (Int32.ofInt e27)), (2, .int (Int32.ofInt e20)), (1, .int (Int32.ofInt e17)), (0, .ref (A 179))] [] (Wd A dT s38) 0 0
                refine WS_pq [4, 1, 0] (lv' := [(0, .ref (A 179)), (3, .int (Int32.ofInt e27)), (4, .int (Int32.ofInt e32))]) rfl ?_
                exact L121 _ e27 e32 Is38 Gs38 JFDB_s38 ⟨by rw [← hpz]; exact hnd, by rw [← hpz]; omega, Or.inr ⟨by first | exact Or.inr (oq_246079da g37 re32.2 re32.1) | (clear hps38 g37 he32 he27 hps19 hps16 hps13 hps11 hps7 p2; omega) | (clear g37 he32 he27 hps19 hps16 hps13 hps11 hps7 p2; omega) | omega, by rw [← hpz, hps38.1, hn2], by rw [← hpz]; omega⟩⟩ (by first | exact ⟨g6, oq_ff4f6170 ws38_79 ws19_79 ws16_79 ws7_79 g6, oq_ac0e91e1 ws38_78 ws19_78 ws16_78 ws7_78, oq_c70f5ad6 hps38.2.1 hps7.2.1 hn2 hb, by first | exact oq_2559bc3a hps38.2.2 hn2 hb hps7.2.2 b2.2 hN p0 | (clear hps38 g37 he32 he27 hps19 hps16 hps13 hps11 hps7 p2; omega) | (clear g37 he32 he27 hps19 hps16 hps13 hps11 hps7 p2; omega) | omega, Or.inl (g33), oq_7572678d g37 re32.2 re32.1 he32⟩ | omega)
          refine z_icmp_ne X (t := 105) rfl rfl hrs19 hrs28 (fun g41 => ?_) (fun g41 => ?_)
          ·
            exact z_const X rfl (N31 _ (Or.inl ⟨g41, rfl⟩))
          ·
            exact z_const X rfl (z_goto X (t := 106) rfl rfl (N31 _ (Or.inr (⟨g41, rfl⟩))))
        refine z_icmp_ne X (t := 82) rfl rfl hrs19 hrs23 (fun g42 => ?_) (fun g42 => ?_)
        ·
          exact z_const X rfl (N26 _ (Or.inl ⟨g42, rfl⟩))
        ·
          exact z_const X rfl (z_goto X (t := 83) rfl rfl (N26 _ (Or.inr (⟨g42, rfl⟩))))
      ·
        refine z_aload_n X (x := A 179) rfl (List.Mem.tail _ (List.Mem.tail _ (List.Mem.head _))) (z_callV X 179 (rm := rmN 203) (As := []) (st := []) rfl rfl (by decide) rfl (by rw [E.1, E.2.1, E.2.2.1]; exact k_skipWord3 G Is19 JFDB_s19 (by first | exact oq_5e26f630 hn2 hb hps7.2.2 b2.2 hN p0 | (clear g22 hps19 hps16 hps13 hps11 hps7 p2; omega) | (clear hps19 hps16 hps13 hps11 hps7 p2; omega) | omega)) ⟨by rw [E.2.2.2]; exact (show 7 + 1 ≤ (12 + (3 * (r + 1))) from oq_d528a8f9 r), by rw [E.2.2.2]; exact (show 8 + (1 + 11) + 121 ≤ (500 + 45 * (3 * (r + 1))) from oq_218e8e31 r), by rw [E.2.2.2]; exact Nat.le_refl 0, by rw [E.2.2.2]; exact Nat.le_refl 0⟩ (Nat.le_of_ble_eq_true rfl) (fun vv s43 hq => ?_) (fun ee s43 hq => ?_))
        rotate_left
        · obtain ⟨Is43, Fs43, JFDB_s43, hv, hps43⟩ := hq; cases hv
        obtain ⟨Is43, Fs43, JFDB_s43, hv, hps43⟩ := hq
        have hps43p := And.intro hps43.1 (hps43.2.1)
        cases hv
        have Gs43 := fm_tq Gs19 Fs43 rfl rfl
        have JFDB_s43 : FDB B N s43 := FDB_fm Fs43 (by decide) JFDB_s19
        have b45 := bi_77 Is43
        have ws43_75 : iI s43 75 = iI s19 75 := fm_iq Fs43 rfl
        have ws43_79 : iI s43 79 = iI s19 79 := fm_iq Fs43 rfl
        have ws43_78 : iI s43 78 = iI s19 78 := fm_iq Fs43 rfl
        show WS k 55 [(2, .int (Int32.ofInt e20)), (1, .int (Int32.ofInt e17)), (0, .ref (A 179))] [] (Wd A dT s43) 0 0
        have hsw : iI s43 77 = wdE B N pz := by rw [hps43.1, hn2]
        have hwl := (wh_let (nm_wh (show nmC B N pz ≠ 0 by first | exact oq_dcfa6a4e g22 hnm | (clear hps43 g22 hps19 hps16 hps13 hps11 hps7 p2; omega) | (clear g22 hps19 hps16 hps13 hps11 hps7 p2; omega) | omega)).1).1
        refine z_aload_n X (x := A 179) rfl (List.Mem.tail _ (List.Mem.tail _ (List.Mem.head _))) (s_getR X 179 rfl (c518_ok rfl) rfl rfl (z_load_n X (x := e17) rfl (List.Mem.tail _ (List.Mem.head _)) (z_ald X 184 rfl (c518_ok rfl) rfl (by first | exact oq_80c2fca8 g22 hps16.2.1 | omega) (show e17 < 7 by first | exact oq_85c01340 hps16.2.1 | omega) (cbig_ok rfl) ?_)))
        have b46 := bc_161 Is43 (show (e17).toNat < 7 by first | exact oq_ce47e515 hps16.2.1 | omega)
        exact w_iret X.1 q hRt rfl (ax_d X (show cdA 207 61 = some (.ireturn, 1, 0, 0, 0) from rfl)) (Nat.zero_le _) (Nat.zero_le _) ⟨_, rfl, Is43, Gs43, JFDB_s43, (iC s43 161 (e17).toNat), rfl, (rng_to _), ⟨by first | exact oq_ac0e91e1 ws43_78 ws19_78 ws16_78 ws7_78 | omega, by first | exact oq_68db3181 hps7.2.1 hps43.2.1 hn2 hb | omega, by first | exact Or.inr (oq_0a79a2a4 hwl hps43.2.2 hn2 b2.2 hN) | (clear hps43 g22 hps19 hps16 hps13 hps11 hps7 p2; omega) | (clear g22 hps19 hps16 hps13 hps11 hps7 p2; omega) | omega, by first | exact oq_e013ad0f g6 | omega, by first | exact oq_19458209 hwl hps43.2.2 hn2 hN | (clear hps43 g22 hps19 hps16 hps13 hps11 hps7 p2; omega) | (clear g22 hps19 hps16 hps13 hps11 hps7 p2; omega) | omega, Or.inr ⟨by first | exact g6 | (clear hps43 g22 hps19 hps16 hps13 hps11 hps7 p2; omega) | (clear g22 hps19 hps16 hps13 hps11 hps7 p2; omega) | omega, by rw [← hpz]; exact ou_nam (by first | exact oq_dcfa6a4e g22 hnm | (clear hps43 g22 hps19 hps16 hps13 hps11 hps7 p2; omega) | (clear g22 hps19 hps16 hps13 hps11 hps7 p2; omega) | omega) hsw (by first | exact oq_ff4f6170 ws43_79 ws19_79 ws16_79 ws7_79 g6 | (clear hps43 g22 hps19 hps16 hps13 hps11 hps7 p2; omega) | (clear g22 hps19 hps16 hps13 hps11 hps7 p2; omega) | omega)⟩⟩⟩
    ·
      have hDg : dgP B N pz := ⟨by first | exact oq_a6991198 g15 hps13 hby | (clear g15 hps13 hps11 hps7 p2; omega) | (clear hps13 hps11 hps7 p2; omega) | omega, by first | exact oq_9855c2d5 g15 hps13 hby | (clear g15 hps13 hps11 hps7 p2; omega) | (clear hps13 hps11 hps7 p2; omega) | omega, by first | exact oq_2de8c4c0 g15 hps13 hby | (clear g15 hps13 hps11 hps7 p2; omega) | (clear hps13 hps11 hps7 p2; omega) | omega⟩
      refine z_aload_n X (x := A 179) rfl (List.Mem.head _) (z_const X rfl (z_sipush X rfl (z_callV X 179 (rm := rmN 196) (As := [.int (Int32.ofInt 0), .int (Int32.ofInt 999)]) (st := []) rfl rfl (by decide) rfl (by rw [E.1, E.2.1, E.2.2.1]; exact k_number3 G (by rw [hb, hskp]; exact hDg) Is7 JFDB_s7 (by first | exact ⟨by decide, by decide⟩ | omega) (by first | exact ⟨by decide, by decide⟩ | omega) (by first | exact oq_d4704861 hps7.2.2 b2.2 hN p0 | (clear g15 hps13 hps11 hps7 p2; omega) | (clear hps13 hps11 hps7 p2; omega) | omega) (by first | exact oq_e5e5d3d6 ws7_79 g6 | omega)) ⟨by rw [E.2.2.2]; exact (show 8 + 1 ≤ (12 + (3 * (r + 1))) from oq_0f4637ff r), by rw [E.2.2.2]; exact (show 8 + (5 + 11) + 141 ≤ (500 + 45 * (3 * (r + 1))) from oq_aa449917 r), by rw [E.2.2.2]; exact Nat.le_refl 0, by rw [E.2.2.2]; exact Nat.le_refl 0⟩ (Nat.le_of_ble_eq_true rfl) (fun vv s47 hq => ?_) (fun ee s47 hq => ?_))))
      rotate_left
      · obtain ⟨Is47, Fs47, JFDB_s47, e48, hv, hrs47, hps47⟩ := hq; cases hv
      obtain ⟨Is47, Fs47, JFDB_s47, e48, hv, hrs47, hps47⟩ := hq
      have hps47p := And.intro hps47.1 (And.intro hps47.2.1 (hps47.2.2.2.1))
      cases hv
      have Gs47 := fm_tq Gs7 Fs47 rfl rfl
      have JFDB_s47 : FDB B N s47 := FDB_fm Fs47 (by decide) JFDB_s7
      have b49 := bi_77 Is47
      have ws47_75 : iI s47 75 = iI s7 75 := fm_iq Fs47 rfl
      have b50 := bi_79 Is47
      have ws47_78 : iI s47 78 = iI s7 78 := fm_iq Fs47 rfl
      show WS k 35 [(0, .ref (A 179))] [.int (Int32.ofInt e48)] (Wd A dT s47) 0 0
      have hz := hps47
      rw [hb, hskp] at hz
      exact w_iret X.1 q hRt rfl (ax_d X (show cdA 207 35 = some (.ireturn, 1, 0, 0, 0) from rfl)) (Nat.zero_le _) (Nat.zero_le _) ⟨_, rfl, Is47, Gs47, JFDB_s47, e48, rfl, hrs47, ⟨by first | exact oq_1aa5be9e ws47_78 ws7_78 | omega, by first | exact oq_f8a2cf0e hps47.2.2.2.1 hps7.2.1 | omega, by first | exact Or.inr (oq_196ab154 hz.2.2.2.2 g15 hps13 hby b2.2 hN) | (clear hps47 g15 hps13 hps11 hps7 p2; omega) | (clear g15 hps13 hps11 hps7 p2; omega) | omega, by first | exact oq_e013ad0f g6 | omega, by first | exact oq_4182761d hz.2.2.2.2 g15 hps13 hby hN | (clear hps47 g15 hps13 hps11 hps7 p2; omega) | (clear g15 hps13 hps11 hps7 p2; omega) | omega, Or.inr ⟨by first | exact g6 | (clear hps47 g15 hps13 hps11 hps7 p2; omega) | (clear g15 hps13 hps11 hps7 p2; omega) | omega, by rw [← hpz]; exact ou_num hDg hz.1 hz.2.1 hz.2.2.1⟩⟩⟩
  ·
    refine z_const X rfl ?_
    exact w_iret X.1 q hRt rfl (ax_d X (show cdA 207 8 = some (.ireturn, 1, 0, 0, 0) from rfl)) (Nat.zero_le _) (Nat.zero_le _) ⟨_, rfl, I, F, jFDB, 0, rfl, (by decide), ⟨by first | exact rfl | (clear g6 p2; omega) | (clear p2; omega) | omega, by first | exact oq_15ec32ab | (clear g6 p2; omega) | (clear p2; omega) | omega, by first | exact Or.inl (by decide) | exact Or.inl (rfl) | omega, by first | exact oq_4bed1c3e g6 b5.1 | omega, by first | exact oq_6a3c9b31 g6 b5.1 | omega, Or.inl ⟨by first | exact g6 | (clear g6 p2; omega) | (clear p2; omega) | omega, by first | exact rfl | (clear g6 p2; omega) | (clear p2; omega) | omega⟩⟩⟩
set_option maxRecDepth 4000 in
theorem k_productS3 (G : GX l s0 D tys a0 dT) {B : Nat → Int} {N : Int} {r : Nat} (hU : ∀ {s : PS}, Bd s → FDB B N s → (iI s 77 ≤ 203) → (iI s 78 + ((r : Nat) : Int) = 7) → (iI s 78 = 7 → iI s 79 ≠ 0) → CT l s0 D A dT 207 (rkR (3 * (r))) [.ref (A 179)] s (fun o t => Bd t ∧ Fm [77, 79, 80, 78] [] s t ∧ FDB B N t ∧ ∃ e, o = .inl (some (.int (Int32.ofInt e))) ∧ rng e ∧ (iI t 78 = iI s 78 ∧ iI s 77 ≤ iI t 77 ∧ (iI t 77 = iI s 77 ∨ iI t 77 ≤ 202) ∧ (iI s 79 ≠ 0 → iI t 79 ≠ 0) ∧ (iI t 79 = 0 → iI t 77 ≤ iI s 75) ∧ PFm B N 0 s t))) (I : Bd s) (jFDB : FDB B N s) (p0 : iI s 77 ≤ 203) (p1 : iI s 78 + ((r : Nat) : Int) = 7) (p2 : iI s 78 = 7 → iI s 79 ≠ 0) : CT l s0 D A dT 208 (rkR (3 * (r) + 1)) [.ref (A 179)] s (fun o t => Bd t ∧ Fm [77, 79, 80, 78] [] s t ∧ FDB B N t ∧ ∃ e, o = .inl (some (.int (Int32.ofInt e))) ∧ rng e ∧ (iI t 78 = iI s 78 ∧ iI s 77 ≤ iI t 77 ∧ (iI t 77 = iI s 77 ∨ iI t 77 ≤ 202) ∧ (iI s 79 ≠ 0 → iI t 79 ≠ 0) ∧ (iI t 79 = 0 → iI t 77 ≤ iI s 75) ∧ PFm B N 1 s t)) := by
  refine ct_of G (by decide) (Nat.le_of_ble_eq_true rfl) (fun k X E hRt hXt q => ?_)
  show WS k 0 [(0, .ref (A 179))] [] _ 0 0
  have F : Fm [77, 79, 80, 78] [] s s := fm_rf _ _ s
  have hN := jFDB.2.1
  have hW := jFDB.2.2
  have b1 := bi_77 I
  have b2 := bi_75 I
  have b3 := bi_79 I
  have b4 := bi_78 I
  have L9 : ∀ (n : Nat) (t : PS) (v : Int), Bd t → Fm [77, 79, 80, 78] [] s t → FDB B N t → (sk B N (iI t 77) = iI t 77 ∧ PRm B N 2 1 s t) → (iI t 78 = iI s 78 ∧ iI s 77 ≤ iI t 77 ∧ (iI t 77 = iI s 77 ∨ iI t 77 ≤ 202) ∧ (iI s 79 ≠ 0 → iI t 79 ≠ 0) ∧ (iI t 79 = 0 → iI t 77 ≤ iI s 75) ∧ iI t 75 = iI s 75 ∧ rng v) → (iI t 75 - iI t 77 : Int).toNat < n → (∀ (t' : PS) (v' : Int), Bd t' → Fm [77, 79, 80, 78] [] s t' → FDB B N t' → (PFm B N 1 s t') → (iI t' 78 = iI s 78 ∧ iI s 77 ≤ iI t' 77 ∧ (iI t' 77 = iI s 77 ∨ iI t' 77 ≤ 202) ∧ (iI s 79 ≠ 0 → iI t' 79 ≠ 0) ∧ (iI t' 79 = 0 → iI t' 77 ≤ iI s 75) ∧ iI t' 75 = iI s 75 ∧ rng v') → WS k 97 [(0, .ref (A 179)), (1, .int (Int32.ofInt v'))] [] (Wd A dT t') 0 0) → WS k 9 [(0, .ref (A 179)), (1, .int (Int32.ofInt v))] [] (Wd A dT t) 0 0 := by
    intro n
    induction n with
    | zero =>
      intro t v I F jjFDB hq hi hm kx
      exact absurd hm (Nat.not_lt_zero _)
    | succ n ih =>
      intro t v I F jjFDB hq hi hm kx
      have b1001 := bi_77 I
      have b1002 := bi_75 I
      have b1003 := bi_79 I
      have b1004 := bi_78 I
      have hN := jjFDB.2.1
      have hW := jjFDB.2.2
      refine z_aload_n X (x := A 179) rfl (List.Mem.head _) (z_getI X 179 rfl (c518_ok rfl) rfl rfl ?_)
      have b1005 := bi_79 I
      refine z_if_ne X (t := 97) rfl rfl (rng_to _) (fun g1006 => ?_) (fun g1006 => ?_)
      ·
        refine WS_pq [0, 1] (lv' := [(0, .ref (A 179)), (1, .int (Int32.ofInt v))]) rfl ?_
        exact kx _ v I F jjFDB (by first | exact prm_fa (prm_mv hq.2 (by rw [show iI t 77 = iI t 77 by first | exact rfl | (clear g1006 p2; omega) | (clear p2; omega) | omega]) (by first | exact rfl | (clear g1006 p2; omega) | (clear p2; omega) | omega)) (by first | exact g1006 | (clear g1006 p2; omega) | (clear p2; omega) | omega) | exact prmp_end (prm_mv hq.2 (by rw [show iI t 77 = iI t 77 by first | (clear g1006 p2; omega) | (clear p2; omega) | omega]) (by first | (clear g1006 p2; omega) | (clear p2; omega) | omega)) (by first | (clear g1006 p2; omega) | (clear p2; omega) | omega) (by rw [show iI t 77 = iI t 77 by first | (clear g1006 p2; omega) | (clear p2; omega) | omega, hq.1]; omega)) (by first | exact ⟨hi.1, hi.2.1, hi.2.2.1, hi.2.2.2.1, hi.2.2.2.2.1, hi.2.2.2.2.2.1, hi.2.2.2.2.2.2.1, hi.2.2.2.2.2.2.2⟩ | omega)
      ·
        refine z_aload_n X (x := A 179) rfl (List.Mem.head _) (z_aload_n X (x := A 179) rfl (List.Mem.head _) (z_getI X 179 rfl (c518_ok rfl) rfl rfl ?_))
        have b1007 := bi_77 I
        refine z_callV X 179 (rm := rmN 192) (As := [.int (Int32.ofInt (iI t 77))]) (st := []) rfl rfl (by decide) rfl (by rw [E.1, E.2.1, E.2.2.1]; exact k_byteAt2 G I jjFDB (by first | exact ⟨b1007.1, oq_5a8480eb b1007.2⟩ | omega)) ⟨by rw [E.2.2.2]; exact (show 6 + 1 ≤ (12 + (3 * (r) + 1)) from oq_c5ba317c r), by rw [E.2.2.2]; exact (show 8 + (2 + 11) + 100 ≤ (500 + 45 * (3 * (r) + 1)) from oq_93533a98 r), by rw [E.2.2.2]; exact Nat.le_refl 0, by rw [E.2.2.2]; exact Nat.le_refl 0⟩ (Nat.le_of_ble_eq_true rfl) (fun vv s1008 hq => ?_) (fun ee s1008 hq => ?_)
        rotate_left
        · obtain ⟨rfl, e1009, hv, hrs1008, hps1008⟩ := hq; cases hv
        obtain ⟨rfl, e1009, hv, hrs1008, hps1008⟩ := hq
        cases hv
        show WS k 24 [(0, .ref (A 179)), (1, .int (Int32.ofInt v))] [.int (Int32.ofInt e1009)] (Wd A dT t) 0 0
        refine z_bipush X rfl (z_icmp_eq X (t := 42) rfl rfl hrs1008 (by decide) (fun g1010 => ?_) (fun g1010 => ?_))
        ·
          have hcd : chT B N (sk B N (iI t 77)) 42 ∨ chT B N (sk B N (iI t 77)) 47 := by rw [hq.1]; first | exact Or.inl ⟨by first | exact oq_edb91460 g1010 hps1008 | (clear hps1008 p2; omega) | (clear p2; omega) | omega, by first | exact oq_8d3d81fb g1010 hps1008 | (clear hps1008 p2; omega) | (clear p2; omega) | omega⟩ | exact Or.inr ⟨by first | (clear hps1008 p2; omega) | (clear p2; omega) | omega, by first | (clear hps1008 p2; omega) | (clear p2; omega) | omega⟩
          refine z_aload_n X (x := A 179) rfl (List.Mem.head _) (z_aload_n X (x := A 179) rfl (List.Mem.head _) (z_getI X 179 rfl (c518_ok rfl) rfl rfl ?_))
          have b1011 := bi_77 I
          refine z_callV X 179 (rm := rmN 192) (As := [.int (Int32.ofInt (iI t 77))]) (st := []) rfl rfl (by decide) rfl (by rw [E.1, E.2.1, E.2.2.1]; exact k_byteAt2 G I jjFDB (by first | exact ⟨b1011.1, oq_5a8480eb b1011.2⟩ | omega)) ⟨by rw [E.2.2.2]; exact (show 6 + 1 ≤ (12 + (3 * (r) + 1)) from oq_c5ba317c r), by rw [E.2.2.2]; exact (show 8 + (2 + 11) + 100 ≤ (500 + 45 * (3 * (r) + 1)) from oq_93533a98 r), by rw [E.2.2.2]; exact Nat.le_refl 0, by rw [E.2.2.2]; exact Nat.le_refl 0⟩ (Nat.le_of_ble_eq_true rfl) (fun vv s1012 hq => ?_) (fun ee s1012 hq => ?_)
          rotate_left
          · obtain ⟨rfl, e1013, hv, hrs1012, hps1012⟩ := hq; cases hv
          obtain ⟨rfl, e1013, hv, hrs1012, hps1012⟩ := hq
          cases hv
          show WS k 50 [(0, .ref (A 179)), (1, .int (Int32.ofInt v))] [.int (Int32.ofInt e1013)] (Wd A dT t) 0 0
          refine z_store_n X (lv' := [(2, .int (Int32.ofInt e1013)), (0, .ref (A 179)), (1, .int (Int32.ofInt v))]) rfl (by decide) (fun _ h => h) (z_aload_n X (x := A 179) rfl (List.Mem.tail _ (List.Mem.head _)) (w_dup X.1 (ax_d X (show cdA 208 52 = some (.dup, 1, 0, 0, 0) from rfl)) rfl (z_getI X 179 rfl (c518_ok rfl) rfl rfl ?_)))
          have b1014 := bi_77 I
          refine z_const X rfl (z_add X rfl (s_putI X 179 rfl (c518_ok rfl) rfl rfl (by decide) rfl rfl rfl (wd_gen (fun s1015 hs1015 => ?_))))
          have Is1015 : Bd s1015 := eqB hs1015 (bd_I I (show (0 : Int) ≤ ((iI t 77) + 1) ∧ ((iI t 77) + 1) ≤ 400 by first | exact ⟨oq_54f49eb5 b1014.1, oq_886c3d04 hi.2.2.1 p0⟩ | omega) ⟨by first | exact oq_74de1e16 b1014.1 | omega, by first | exact oq_964ce197 b1014.2 | omega⟩)
          have Fs1015 := eqF hs1015 (fm_I F (inl_ok (a := 77) rfl))
          have vs1015 : iI s1015 77 = ((iI t 77) + 1) := eqI hs1015 (iI_u ⟨by first | exact oq_74de1e16 b1014.1 | omega, by first | exact oq_964ce197 b1014.2 | omega⟩)
          have ws1015_75 : iI s1015 75 = iI t 75 := eqI hs1015 rfl
          have ws1015_79 : iI s1015 79 = iI t 79 := eqI hs1015 rfl
          have ws1015_78 : iI s1015 78 = iI t 78 := eqI hs1015 rfl
          have fs1015 : Fm [77] [] t s1015 := by rw [hs1015]; exact fm_I (fm_rf _ _ _) (show 77 ∈ _ by decide)
          have JFDB_s1015 : FDB B N s1015 := FDB_fm fs1015 (by decide) jjFDB
          refine z_aload_n X (x := A 179) rfl (List.Mem.tail _ (List.Mem.head _)) (z_callV X 179 (rm := (rkR (3 * (r)))) (As := []) (st := []) rfl rfl (by decide) rfl (by rw [E.1, E.2.1, E.2.2.1]; exact hU Is1015 JFDB_s1015 (by first | exact oq_b74d6776 vs1015 g1006 hi.2.2.2.2.1 b2.2 | omega) (by first | exact oq_2b041bab ws1015_78 p1 hi.1 | omega) (by first | exact oq_097bc645 ws1015_78 g1006 hi.2.2.2.1 hi.1 b3.1 p2 | omega)) ⟨by rw [E.2.2.2]; exact (show (12 + (3 * (r))) + 1 ≤ (12 + (3 * (r) + 1)) from oq_5e3fa304 r), by rw [E.2.2.2]; exact (show 8 + (7 + 11) + (500 + 45 * (3 * (r))) ≤ (500 + 45 * (3 * (r) + 1)) from oq_ea5e6b1c r), by rw [E.2.2.2]; exact Nat.le_refl 0, by rw [E.2.2.2]; exact Nat.le_refl 0⟩ (Nat.le_of_ble_eq_true rfl) (fun vv s1016 hq => ?_) (fun ee s1016 hq => ?_))
          rotate_left
          · obtain ⟨Is1016, Fs1016, JFDB_s1016, e1017, hv, hrs1016, hps1016⟩ := hq; cases hv
          obtain ⟨Is1016, Fs1016, JFDB_s1016, e1017, hv, hrs1016, hps1016⟩ := hq
          have hps1016p := And.intro hps1016.1 (And.intro hps1016.2.1 (hps1016.2.2.2.2.2))
          cases hv
          have Gs1016 := fm_tq Fs1015 Fs1016 rfl rfl
          have JFDB_s1016 : FDB B N s1016 := FDB_fm Fs1016 (by decide) JFDB_s1015
          have b1018 := bi_77 Is1016
          have ws1016_75 : iI s1016 75 = iI s1015 75 := fm_iq Fs1016 rfl
          have b1019 := bi_79 Is1016
          have b1020 := bi_78 Is1016
          show WS k 65 [(2, .int (Int32.ofInt e1013)), (0, .ref (A 179)), (1, .int (Int32.ofInt v))] [.int (Int32.ofInt e1017)] (Wd A dT s1016) 0 0
          refine z_store_n X (lv' := [(3, .int (Int32.ofInt e1017)), (2, .int (Int32.ofInt e1013)), (0, .ref (A 179)), (1, .int (Int32.ofInt v))]) rfl (by decide) (fun _ h => h) (z_load_n X (x := e1013) rfl (List.Mem.tail _ (List.Mem.head _)) (z_bipush X rfl (z_icmp_ne X (t := 78) rfl rfl hrs1012 (by decide) (fun g1021 => ?_) (fun g1021 => ?_))))
          ·
            refine z_load_n X (x := e1017) rfl (List.Mem.head _) (z_if_ne X (t := 86) rfl rfl hrs1016 (fun g1022 => ?_) (fun g1022 => ?_))
            ·
              refine z_load_n X (x := v) rfl (List.Mem.tail _ (List.Mem.tail _ (List.Mem.tail _ (List.Mem.head _)))) (z_load_n X (x := e1017) rfl (List.Mem.head _) (z_divany X rfl (by first | exact g1022 | (clear g1022 g1021 hps1016 hps1012 hps1008 p2; omega) | (clear g1021 hps1016 hps1012 hps1008 p2; omega) | omega) ⟨by first | exact hrs1016.1 | (clear g1022 g1021 hps1016 hps1012 hps1008 p2; omega) | (clear g1021 hps1016 hps1012 hps1008 p2; omega) | omega, by first | exact hrs1016.2 | (clear g1022 g1021 hps1016 hps1012 hps1008 p2; omega) | (clear g1021 hps1016 hps1012 hps1008 p2; omega) | omega⟩ (fun y1023 hy1023 => ?_)))
              refine z_store_n X (lv' := [(1, .int (Int32.ofInt y1023)), (3, .int (Int32.ofInt e1017)), (2, .int (Int32.ofInt e1013)), (0, .ref (A 179))]) rfl (by decide) (fun _ h => h) (z_aload_n X (x := A 179) rfl (List.Mem.tail _ (List.Mem.tail _ (List.Mem.tail _ (List.Mem.head _)))) (z_callV X 179 (rm := rmN 193) (As := []) (st := []) rfl rfl (by decide) rfl (by rw [E.1, E.2.1, E.2.2.1]; exact k_blanks2 G Is1016 JFDB_s1016 (by first | exact oq_a8509ff0 g1021 hps1012 g1010 hps1008 | omega)) ⟨by rw [E.2.2.2]; exact (show 7 + 1 ≤ (12 + (3 * (r) + 1)) from oq_4609964d r), by rw [E.2.2.2]; exact (show 8 + (1 + 11) + 121 ≤ (500 + 45 * (3 * (r) + 1)) from oq_12dd44ff r), by rw [E.2.2.2]; exact Nat.le_refl 0, by rw [E.2.2.2]; exact Nat.le_refl 0⟩ (Nat.le_of_ble_eq_true rfl) (fun vv s1024 hq => ?_) (fun ee s1024 hq => ?_)))
              rotate_left
              · obtain ⟨Is1024, Fs1024, JFDB_s1024, hv, hps1024⟩ := hq; cases hv
              obtain ⟨Is1024, Fs1024, JFDB_s1024, hv, hps1024⟩ := hq
              have hps1024p := And.intro hps1024.1 (hps1024.2.1)
              cases hv
              have Gs1024 := fm_tq Gs1016 Fs1024 rfl rfl
              have JFDB_s1024 : FDB B N s1024 := FDB_fm Fs1024 (by decide) JFDB_s1016
              have b1026 := bi_77 Is1024
              have ws1024_75 : iI s1024 75 = iI s1016 75 := fm_iq Fs1024 rfl
              have ws1024_79 : iI s1024 79 = iI s1016 79 := fm_iq Fs1024 rfl
              have ws1024_78 : iI s1024 78 = iI s1016 78 := fm_iq Fs1024 rfl
              show WS k 94 [(1, .int (Int32.ofInt y1023)), (3, .int (Int32.ofInt e1017)), (2, .int (Int32.ofInt e1013)), (0, .ref (A 179))] [] (Wd A dT s1024) 0 0
              refine z_goto X (t := 9) rfl rfl (WS_pq [3, 0] (lv' := [(0, .ref (A 179)), (1, .int (Int32.ofInt y1023))]) rfl ?_)
              exact ih _ y1023 Is1024 Gs1024 JFDB_s1024 ⟨by rw [hps1024.1]; exact sk_sk, prm_mv (prmp_up hq.2 (by first | exact g1006 | (clear hps1024 g1022 g1021 hps1016 hps1012 hps1008 p2; omega) | (clear g1022 g1021 hps1016 hps1012 hps1008 p2; omega) | omega) hcd (by rw [show iI s1015 77 = iI t 77 + 1 by first | exact vs1015 | (clear hps1024 g1022 g1021 hps1016 hps1012 hps1008 p2; omega) | (clear g1022 g1021 hps1016 hps1012 hps1008 p2; omega) | omega, hq.1]) (by first | exact oq_e5e5d3d6 ws1015_79 g1006 | (clear hps1024 g1022 g1021 hps1016 hps1012 hps1008 p2; omega) | (clear g1022 g1021 hps1016 hps1012 hps1008 p2; omega) | omega) (by first | exact oq_1aa5be9e ws1015_78 hi.1 | (clear hps1024 g1022 g1021 hps1016 hps1012 hps1008 p2; omega) | (clear g1022 g1021 hps1016 hps1012 hps1008 p2; omega) | omega) hps1016.2.2.2.2.2) (by rw [hps1024.1]; exact sk_sk) (by first | exact ws1024_79 | (clear hps1024 g1022 g1021 hps1016 hps1012 hps1008 p2; omega) | (clear g1022 g1021 hps1016 hps1012 hps1008 p2; omega) | omega)⟩ (by first | exact ⟨oq_45b593e3 ws1024_78 hi.1 hps1016.1 ws1015_78, oq_93076f9e hps1024.2.1 hps1016.2.1 vs1015 hi.2.1, oq_8aa9e37b g1021 hps1012 g1010 hps1008, oq_fa23e6f1 g1021 hps1012 g1010 hps1008, oq_681f6ab4 g1021 hps1012 g1010 hps1008, oq_45b593e3 ws1024_75 hi.2.2.2.2.2.1 ws1016_75 ws1015_75, oq_c0de89c2 g1021 hps1012 g1010 hps1008, oq_33e9068f g1021 hps1012 g1010 hps1008⟩ | omega) (by first | exact qk_me hm (oq_aae77179 ws1024_75 hps1024.2.1 ws1016_75 hps1016.2.1 ws1015_75 vs1015) (oq_eacc1e78 g1021 hps1012 g1010 hps1008) | omega) kx
            ·
              refine z_const X rfl (z_goto X (t := 89) rfl rfl (z_store_n X (lv' := [(1, .int (Int32.ofInt 0)), (3, .int (Int32.ofInt e1017)), (2, .int (Int32.ofInt e1013)), (0, .ref (A 179))]) rfl (by decide) (fun _ h => h) (z_aload_n X (x := A 179) rfl (List.Mem.tail _ (List.Mem.tail _ (List.Mem.tail _ (List.Mem.head _)))) (z_callV X 179 (rm := rmN 193) (As := []) (st := []) rfl rfl (by decide) rfl (by rw [E.1, E.2.1, E.2.2.1]; exact k_blanks2 G Is1016 JFDB_s1016 (by first | exact oq_a8509ff0 g1021 hps1012 g1010 hps1008 | omega)) ⟨by rw [E.2.2.2]; exact (show 7 + 1 ≤ (12 + (3 * (r) + 1)) from oq_4609964d r), by rw [E.2.2.2]; exact (show 8 + (1 + 11) + 121 ≤ (500 + 45 * (3 * (r) + 1)) from oq_12dd44ff r), by rw [E.2.2.2]; exact Nat.le_refl 0, by rw [E.2.2.2]; exact Nat.le_refl 0⟩ (Nat.le_of_ble_eq_true rfl) (fun vv s1027 hq => ?_) (fun ee s1027 hq => ?_)))))
              rotate_left
              · obtain ⟨Is1027, Fs1027, JFDB_s1027, hv, hps1027⟩ := hq; cases hv
              obtain ⟨Is1027, Fs1027, JFDB_s1027, hv, hps1027⟩ := hq
              have hps1027p := And.intro hps1027.1 (hps1027.2.1)
              cases hv
              have Gs1027 := fm_tq Gs1016 Fs1027 rfl rfl
              have JFDB_s1027 : FDB B N s1027 := FDB_fm Fs1027 (by decide) JFDB_s1016
              have b1029 := bi_77 Is1027
              have ws1027_75 : iI s1027 75 = iI s1016 75 := fm_iq Fs1027 rfl
              have ws1027_79 : iI s1027 79 = iI s1016 79 := fm_iq Fs1027 rfl
              have ws1027_78 : iI s1027 78 = iI s1016 78 := fm_iq Fs1027 rfl
              show WS k 94 [(1, .int (Int32.ofInt 0)), (3, .int (Int32.ofInt e1017)), (2, .int (Int32.ofInt e1013)), (0, .ref (A 179))] [] (Wd A dT s1027) 0 0
              refine z_goto X (t := 9) rfl rfl (WS_pq [3, 0] (lv' := [(0, .ref (A 179)), (1, .int (Int32.ofInt 0))]) rfl ?_)
              exact ih _ 0 Is1027 Gs1027 JFDB_s1027 ⟨by rw [hps1027.1]; exact sk_sk, prm_mv (prmp_up hq.2 (by first | exact g1006 | (clear hps1027 g1021 hps1016 hps1012 hps1008 p2; omega) | (clear g1021 hps1016 hps1012 hps1008 p2; omega) | omega) hcd (by rw [show iI s1015 77 = iI t 77 + 1 by first | exact vs1015 | (clear hps1027 g1021 hps1016 hps1012 hps1008 p2; omega) | (clear g1021 hps1016 hps1012 hps1008 p2; omega) | omega, hq.1]) (by first | exact oq_e5e5d3d6 ws1015_79 g1006 | (clear hps1027 g1021 hps1016 hps1012 hps1008 p2; omega) | (clear g1021 hps1016 hps1012 hps1008 p2; omega) | omega) (by first | exact oq_1aa5be9e ws1015_78 hi.1 | (clear hps1027 g1021 hps1016 hps1012 hps1008 p2; omega) | (clear g1021 hps1016 hps1012 hps1008 p2; omega) | omega) hps1016.2.2.2.2.2) (by rw [hps1027.1]; exact sk_sk) (by first | exact ws1027_79 | (clear hps1027 g1021 hps1016 hps1012 hps1008 p2; omega) | (clear g1021 hps1016 hps1012 hps1008 p2; omega) | omega)⟩ (by first | exact ⟨oq_45b593e3 ws1027_78 hi.1 hps1016.1 ws1015_78, oq_93076f9e hps1027.2.1 hps1016.2.1 vs1015 hi.2.1, oq_8aa9e37b g1021 hps1012 g1010 hps1008, oq_fa23e6f1 g1021 hps1012 g1010 hps1008, oq_681f6ab4 g1021 hps1012 g1010 hps1008, oq_45b593e3 ws1027_75 hi.2.2.2.2.2.1 ws1016_75 ws1015_75, by decide, by decide⟩ | omega) (by first | exact qk_me hm (oq_aae77179 ws1027_75 hps1027.2.1 ws1016_75 hps1016.2.1 ws1015_75 vs1015) (oq_eacc1e78 g1021 hps1012 g1010 hps1008) | omega) kx
          ·
            refine z_load_n X (x := v) rfl (List.Mem.tail _ (List.Mem.tail _ (List.Mem.tail _ (List.Mem.head _)))) (z_load_n X (x := e1017) rfl (List.Mem.head _) (z_mul X rfl (z_any (fun y1030 hy1030 => ?_))))
            refine z_goto X (t := 89) rfl rfl (z_store_n X (lv' := [(1, .int (Int32.ofInt y1030)), (3, .int (Int32.ofInt e1017)), (2, .int (Int32.ofInt e1013)), (0, .ref (A 179))]) rfl (by decide) (fun _ h => h) (z_aload_n X (x := A 179) rfl (List.Mem.tail _ (List.Mem.tail _ (List.Mem.tail _ (List.Mem.head _)))) (z_callV X 179 (rm := rmN 193) (As := []) (st := []) rfl rfl (by decide) rfl (by rw [E.1, E.2.1, E.2.2.1]; exact k_blanks2 G Is1016 JFDB_s1016 (by first | exact oq_d255e8ca hps1016.2.2.1 vs1015 hi.2.2.1 p0 | omega)) ⟨by rw [E.2.2.2]; exact (show 7 + 1 ≤ (12 + (3 * (r) + 1)) from oq_4609964d r), by rw [E.2.2.2]; exact (show 8 + (1 + 11) + 121 ≤ (500 + 45 * (3 * (r) + 1)) from oq_12dd44ff r), by rw [E.2.2.2]; exact Nat.le_refl 0, by rw [E.2.2.2]; exact Nat.le_refl 0⟩ (Nat.le_of_ble_eq_true rfl) (fun vv s1031 hq => ?_) (fun ee s1031 hq => ?_))))
            rotate_left
            · obtain ⟨Is1031, Fs1031, JFDB_s1031, hv, hps1031⟩ := hq; cases hv
            obtain ⟨Is1031, Fs1031, JFDB_s1031, hv, hps1031⟩ := hq
            have hps1031p := And.intro hps1031.1 (hps1031.2.1)
            cases hv
            have Gs1031 := fm_tq Gs1016 Fs1031 rfl rfl
            have JFDB_s1031 : FDB B N s1031 := FDB_fm Fs1031 (by decide) JFDB_s1016
            have b1033 := bi_77 Is1031
            have ws1031_75 : iI s1031 75 = iI s1016 75 := fm_iq Fs1031 rfl
            have ws1031_79 : iI s1031 79 = iI s1016 79 := fm_iq Fs1031 rfl
            have ws1031_78 : iI s1031 78 = iI s1016 78 := fm_iq Fs1031 rfl
            show WS k 94 [(1, .int (Int32.ofInt y1030)), (3, .int (Int32.ofInt e1017)), (2, .int (Int32.ofInt e1013)), (0, .ref (A 179))] [] (Wd A dT s1031) 0 0
            refine z_goto X (t := 9) rfl rfl (WS_pq [3, 0] (lv' := [(0, .ref (A 179)), (1, .int (Int32.ofInt y1030))]) rfl ?_)
            exact ih _ y1030 Is1031 Gs1031 JFDB_s1031 ⟨by rw [hps1031.1]; exact sk_sk, prm_mv (prmp_up hq.2 (by first | exact g1006 | (clear hps1031 hps1016 hps1012 hps1008 p2; omega) | (clear hps1016 hps1012 hps1008 p2; omega) | omega) hcd (by rw [show iI s1015 77 = iI t 77 + 1 by first | exact vs1015 | (clear hps1031 hps1016 hps1012 hps1008 p2; omega) | (clear hps1016 hps1012 hps1008 p2; omega) | omega, hq.1]) (by first | exact oq_e5e5d3d6 ws1015_79 g1006 | (clear hps1031 hps1016 hps1012 hps1008 p2; omega) | (clear hps1016 hps1012 hps1008 p2; omega) | omega) (by first | exact oq_1aa5be9e ws1015_78 hi.1 | (clear hps1031 hps1016 hps1012 hps1008 p2; omega) | (clear hps1016 hps1012 hps1008 p2; omega) | omega) hps1016.2.2.2.2.2) (by rw [hps1031.1]; exact sk_sk) (by first | exact ws1031_79 | (clear hps1031 hps1016 hps1012 hps1008 p2; omega) | (clear hps1016 hps1012 hps1008 p2; omega) | omega)⟩ (by first | exact ⟨oq_45b593e3 ws1031_78 hi.1 hps1016.1 ws1015_78, oq_93076f9e hps1031.2.1 hps1016.2.1 vs1015 hi.2.1, by first | exact Or.inr (oq_a84e098a hps1031.2.2 g1021 hps1016.2.2.1 vs1015 hps1012 hN b1002.2) | (clear hps1031 hps1016 hps1012 hps1008 p2; omega) | (clear hps1016 hps1012 hps1008 p2; omega) | omega, oq_67b737cd g1006 hi.2.2.2.1 b3.1, by first | exact oq_2b9bddb8 ws1031_79 hps1031.2.2 b1019.1 hps1016.2.2.2.2.1 ws1015_75 hN hi.2.2.2.2.2.1 | (clear hps1031 hps1016 hps1012 hps1008 p2; omega) | (clear hps1016 hps1012 hps1008 p2; omega) | omega, oq_45b593e3 ws1031_75 hi.2.2.2.2.2.1 ws1016_75 ws1015_75, hy1030.1, hy1030.2⟩ | omega) (by first | exact oq_501c653d ws1031_75 hps1031p.2 g1021 ws1016_75 hps1016p.2.1 ws1015_75 vs1015 hps1012 hN hm | (clear hps1031 hps1016 hps1012 hps1008 p2; omega) | (clear hps1016 hps1012 hps1008 p2; omega) | omega) kx
        ·
          refine z_aload_n X (x := A 179) rfl (List.Mem.head _) (z_aload_n X (x := A 179) rfl (List.Mem.head _) (z_getI X 179 rfl (c518_ok rfl) rfl rfl ?_))
          have b1034 := bi_77 I
          refine z_callV X 179 (rm := rmN 192) (As := [.int (Int32.ofInt (iI t 77))]) (st := []) rfl rfl (by decide) rfl (by rw [E.1, E.2.1, E.2.2.1]; exact k_byteAt2 G I jjFDB (by first | exact ⟨b1034.1, oq_5a8480eb b1034.2⟩ | omega)) ⟨by rw [E.2.2.2]; exact (show 6 + 1 ≤ (12 + (3 * (r) + 1)) from oq_c5ba317c r), by rw [E.2.2.2]; exact (show 8 + (2 + 11) + 100 ≤ (500 + 45 * (3 * (r) + 1)) from oq_93533a98 r), by rw [E.2.2.2]; exact Nat.le_refl 0, by rw [E.2.2.2]; exact Nat.le_refl 0⟩ (Nat.le_of_ble_eq_true rfl) (fun vv s1035 hq => ?_) (fun ee s1035 hq => ?_)
          rotate_left
          · obtain ⟨rfl, e1036, hv, hrs1035, hps1035⟩ := hq; cases hv
          obtain ⟨rfl, e1036, hv, hrs1035, hps1035⟩ := hq
          cases hv
          show WS k 37 [(0, .ref (A 179)), (1, .int (Int32.ofInt v))] [.int (Int32.ofInt e1036)] (Wd A dT t) 0 0
          refine z_bipush X rfl (z_icmp_ne X (t := 97) rfl rfl hrs1035 (by decide) (fun g1037 => ?_) (fun g1037 => ?_))
          ·
            refine WS_pq [0, 1] (lv' := [(0, .ref (A 179)), (1, .int (Int32.ofInt v))]) rfl ?_
            exact kx _ v I F jjFDB (by first | exact prm_fa (prm_mv hq.2 (by rw [show iI t 77 = iI t 77 by first | exact rfl | (clear g1037 hps1035 g1010 hps1008 p2; omega) | (clear hps1035 g1010 hps1008 p2; omega) | omega]) (by first | exact rfl | (clear g1037 hps1035 g1010 hps1008 p2; omega) | (clear hps1035 g1010 hps1008 p2; omega) | omega)) (by first | (clear g1037 hps1035 g1010 hps1008 p2; omega) | (clear hps1035 g1010 hps1008 p2; omega) | omega) | exact prmp_end (prm_mv hq.2 (by rw [show iI t 77 = iI t 77 by first | exact rfl | (clear g1037 hps1035 g1010 hps1008 p2; omega) | (clear hps1035 g1010 hps1008 p2; omega) | omega]) (by first | exact rfl | (clear g1037 hps1035 g1010 hps1008 p2; omega) | (clear hps1035 g1010 hps1008 p2; omega) | omega)) (by first | exact g1006 | (clear g1037 hps1035 g1010 hps1008 p2; omega) | (clear hps1035 g1010 hps1008 p2; omega) | omega) (by rw [show iI t 77 = iI t 77 by first | exact rfl | (clear g1037 hps1035 g1010 hps1008 p2; omega) | (clear hps1035 g1010 hps1008 p2; omega) | omega, hq.1]; omega)) (by first | exact ⟨hi.1, hi.2.1, hi.2.2.1, hi.2.2.2.1, hi.2.2.2.2.1, hi.2.2.2.2.2.1, hi.2.2.2.2.2.2.1, hi.2.2.2.2.2.2.2⟩ | omega)
          ·
            have hcd : chT B N (sk B N (iI t 77)) 42 ∨ chT B N (sk B N (iI t 77)) 47 := by rw [hq.1]; first | exact Or.inl ⟨by first | exact oq_2e2b9c0a g1037 hps1035 | (clear hps1035 g1010 hps1008 p2; omega) | (clear g1010 hps1008 p2; omega) | omega, by first | (clear hps1035 g1010 hps1008 p2; omega) | (clear g1010 hps1008 p2; omega) | omega⟩ | exact Or.inr ⟨by first | exact oq_2e2b9c0a g1037 hps1035 | (clear hps1035 g1010 hps1008 p2; omega) | (clear g1010 hps1008 p2; omega) | omega, by first | exact oq_41b4bb4a g1037 hps1035 | (clear hps1035 g1010 hps1008 p2; omega) | (clear g1010 hps1008 p2; omega) | omega⟩
            refine z_aload_n X (x := A 179) rfl (List.Mem.head _) (z_aload_n X (x := A 179) rfl (List.Mem.head _) (z_getI X 179 rfl (c518_ok rfl) rfl rfl ?_))
            have b1038 := bi_77 I
            refine z_callV X 179 (rm := rmN 192) (As := [.int (Int32.ofInt (iI t 77))]) (st := []) rfl rfl (by decide) rfl (by rw [E.1, E.2.1, E.2.2.1]; exact k_byteAt2 G I jjFDB (by first | exact ⟨b1038.1, oq_5a8480eb b1038.2⟩ | omega)) ⟨by rw [E.2.2.2]; exact (show 6 + 1 ≤ (12 + (3 * (r) + 1)) from oq_c5ba317c r), by rw [E.2.2.2]; exact (show 8 + (2 + 11) + 100 ≤ (500 + 45 * (3 * (r) + 1)) from oq_93533a98 r), by rw [E.2.2.2]; exact Nat.le_refl 0, by rw [E.2.2.2]; exact Nat.le_refl 0⟩ (Nat.le_of_ble_eq_true rfl) (fun vv s1039 hq => ?_) (fun ee s1039 hq => ?_)
            rotate_left
            · obtain ⟨rfl, e1040, hv, hrs1039, hps1039⟩ := hq; cases hv
            obtain ⟨rfl, e1040, hv, hrs1039, hps1039⟩ := hq
            cases hv
            show WS k 50 [(0, .ref (A 179)), (1, .int (Int32.ofInt v))] [.int (Int32.ofInt e1040)] (Wd A dT t) 0 0
            refine z_store_n X (lv' := [(2, .int (Int32.ofInt e1040)), (0, .ref (A 179)), (1, .int (Int32.ofInt v))]) rfl (by decide) (fun _ h => h) (z_aload_n X (x := A 179) rfl (List.Mem.tail _ (List.Mem.head _)) (w_dup X.1 (ax_d X (show cdA 208 52 = some (.dup, 1, 0, 0, 0) from rfl)) rfl (z_getI X 179 rfl (c518_ok rfl) rfl rfl ?_)))
            have b1041 := bi_77 I
            refine z_const X rfl (z_add X rfl (s_putI X 179 rfl (c518_ok rfl) rfl rfl (by decide) rfl rfl rfl (wd_gen (fun s1042 hs1042 => ?_))))
            have Is1042 : Bd s1042 := eqB hs1042 (bd_I I (show (0 : Int) ≤ ((iI t 77) + 1) ∧ ((iI t 77) + 1) ≤ 400 by first | exact ⟨oq_54f49eb5 b1041.1, oq_886c3d04 hi.2.2.1 p0⟩ | omega) ⟨by first | exact oq_74de1e16 b1041.1 | omega, by first | exact oq_964ce197 b1041.2 | omega⟩)
            have Fs1042 := eqF hs1042 (fm_I F (inl_ok (a := 77) rfl))
            have vs1042 : iI s1042 77 = ((iI t 77) + 1) := eqI hs1042 (iI_u ⟨by first | exact oq_74de1e16 b1041.1 | omega, by first | exact oq_964ce197 b1041.2 | omega⟩)
            have ws1042_75 : iI s1042 75 = iI t 75 := eqI hs1042 rfl
            have ws1042_79 : iI s1042 79 = iI t 79 := eqI hs1042 rfl
            have ws1042_78 : iI s1042 78 = iI t 78 := eqI hs1042 rfl
            have fs1042 : Fm [77] [] t s1042 := by rw [hs1042]; exact fm_I (fm_rf _ _ _) (show 77 ∈ _ by decide)
            have JFDB_s1042 : FDB B N s1042 := FDB_fm fs1042 (by decide) jjFDB
            refine z_aload_n X (x := A 179) rfl (List.Mem.tail _ (List.Mem.head _)) (z_callV X 179 (rm := (rkR (3 * (r)))) (As := []) (st := []) rfl rfl (by decide) rfl (by rw [E.1, E.2.1, E.2.2.1]; exact hU Is1042 JFDB_s1042 (by first | exact oq_b74d6776 vs1042 g1006 hi.2.2.2.2.1 b2.2 | omega) (by first | exact oq_2b041bab ws1042_78 p1 hi.1 | omega) (by first | exact oq_097bc645 ws1042_78 g1006 hi.2.2.2.1 hi.1 b3.1 p2 | omega)) ⟨by rw [E.2.2.2]; exact (show (12 + (3 * (r))) + 1 ≤ (12 + (3 * (r) + 1)) from oq_5e3fa304 r), by rw [E.2.2.2]; exact (show 8 + (7 + 11) + (500 + 45 * (3 * (r))) ≤ (500 + 45 * (3 * (r) + 1)) from oq_ea5e6b1c r), by rw [E.2.2.2]; exact Nat.le_refl 0, by rw [E.2.2.2]; exact Nat.le_refl 0⟩ (Nat.le_of_ble_eq_true rfl) (fun vv s1043 hq => ?_) (fun ee s1043 hq => ?_))
            rotate_left
            · obtain ⟨Is1043, Fs1043, JFDB_s1043, e1044, hv, hrs1043, hps1043⟩ := hq; cases hv
            obtain ⟨Is1043, Fs1043, JFDB_s1043, e1044, hv, hrs1043, hps1043⟩ := hq
            have hps1043p := And.intro hps1043.1 (And.intro hps1043.2.1 (hps1043.2.2.2.2.2))
            cases hv
            have Gs1043 := fm_tq Fs1042 Fs1043 rfl rfl
            have JFDB_s1043 : FDB B N s1043 := FDB_fm Fs1043 (by decide) JFDB_s1042
            have b1045 := bi_77 Is1043
            have ws1043_75 : iI s1043 75 = iI s1042 75 := fm_iq Fs1043 rfl
            have b1046 := bi_79 Is1043
            have b1047 := bi_78 Is1043
            show WS k 65 [(2, .int (Int32.ofInt e1040)), (0, .ref (A 179)), (1, .int (Int32.ofInt v))] [.int (Int32.ofInt e1044)] (Wd A dT s1043) 0 0
            refine z_store_n X (lv' := [(3, .int (Int32.ofInt e1044)), (2, .int (Int32.ofInt e1040)), (0, .ref (A 179)), (1, .int (Int32.ofInt v))]) rfl (by decide) (fun _ h => h) (z_load_n X (x := e1040) rfl (List.Mem.tail _ (List.Mem.head _)) (z_bipush X rfl (z_icmp_ne X (t := 78) rfl rfl hrs1039 (by decide) (fun g1048 => ?_) (fun g1048 => ?_))))
            ·
              refine z_load_n X (x := e1044) rfl (List.Mem.head _) (z_if_ne X (t := 86) rfl rfl hrs1043 (fun g1049 => ?_) (fun g1049 => ?_))
              ·
                refine z_load_n X (x := v) rfl (List.Mem.tail _ (List.Mem.tail _ (List.Mem.tail _ (List.Mem.head _)))) (z_load_n X (x := e1044) rfl (List.Mem.head _) (z_divany X rfl (by first | exact g1049 | (clear g1049 g1048 hps1043 hps1039 hps1035 g1010 hps1008 p2; omega) | (clear g1048 hps1043 hps1039 hps1035 g1010 hps1008 p2; omega) | omega) ⟨by first | exact hrs1043.1 | (clear g1049 g1048 hps1043 hps1039 hps1035 g1010 hps1008 p2; omega) | (clear g1048 hps1043 hps1039 hps1035 g1010 hps1008 p2; omega) | omega, by first | exact hrs1043.2 | (clear g1049 g1048 hps1043 hps1039 hps1035 g1010 hps1008 p2; omega) | (clear g1048 hps1043 hps1039 hps1035 g1010 hps1008 p2; omega) | omega⟩ (fun y1050 hy1050 => ?_)))
                refine z_store_n X (lv' := [(1, .int (Int32.ofInt y1050)), (3, .int (Int32.ofInt e1044)), (2, .int (Int32.ofInt e1040)), (0, .ref (A 179))]) rfl (by decide) (fun _ h => h) (z_aload_n X (x := A 179) rfl (List.Mem.tail _ (List.Mem.tail _ (List.Mem.tail _ (List.Mem.head _)))) (z_callV X 179 (rm := rmN 193) (As := []) (st := []) rfl rfl (by decide) rfl (by rw [E.1, E.2.1, E.2.2.1]; exact k_blanks2 G Is1043 JFDB_s1043 (by first | exact oq_d255e8ca hps1043.2.2.1 vs1042 hi.2.2.1 p0 | omega)) ⟨by rw [E.2.2.2]; exact (show 7 + 1 ≤ (12 + (3 * (r) + 1)) from oq_4609964d r), by rw [E.2.2.2]; exact (show 8 + (1 + 11) + 121 ≤ (500 + 45 * (3 * (r) + 1)) from oq_12dd44ff r), by rw [E.2.2.2]; exact Nat.le_refl 0, by rw [E.2.2.2]; exact Nat.le_refl 0⟩ (Nat.le_of_ble_eq_true rfl) (fun vv s1051 hq => ?_) (fun ee s1051 hq => ?_)))
                rotate_left
                · obtain ⟨Is1051, Fs1051, JFDB_s1051, hv, hps1051⟩ := hq; cases hv
                obtain ⟨Is1051, Fs1051, JFDB_s1051, hv, hps1051⟩ := hq
                have hps1051p := And.intro hps1051.1 (hps1051.2.1)
                cases hv
                have Gs1051 := fm_tq Gs1043 Fs1051 rfl rfl
                have JFDB_s1051 : FDB B N s1051 := FDB_fm Fs1051 (by decide) JFDB_s1043
                have b1053 := bi_77 Is1051
                have ws1051_75 : iI s1051 75 = iI s1043 75 := fm_iq Fs1051 rfl
                have ws1051_79 : iI s1051 79 = iI s1043 79 := fm_iq Fs1051 rfl
                have ws1051_78 : iI s1051 78 = iI s1043 78 := fm_iq Fs1051 rfl
                show WS k 94 [(1, .int (Int32.ofInt y1050)), (3, .int (Int32.ofInt e1044)), (2, .int (Int32.ofInt e1040)), (0, .ref (A 179))] [] (Wd A dT s1051) 0 0
                refine z_goto X (t := 9) rfl rfl (WS_pq [3, 0] (lv' := [(0, .ref (A 179)), (1, .int (Int32.ofInt y1050))]) rfl ?_)
                exact ih _ y1050 Is1051 Gs1051 JFDB_s1051 ⟨by rw [hps1051.1]; exact sk_sk, prm_mv (prmp_up hq.2 (by first | exact g1006 | (clear hps1051 g1049 g1048 hps1043 hps1039 hps1035 g1010 hps1008 p2; omega) | (clear g1049 g1048 hps1043 hps1039 hps1035 g1010 hps1008 p2; omega) | omega) hcd (by rw [show iI s1042 77 = iI t 77 + 1 by first | exact vs1042 | (clear hps1051 g1049 g1048 hps1043 hps1039 hps1035 g1010 hps1008 p2; omega) | (clear g1049 g1048 hps1043 hps1039 hps1035 g1010 hps1008 p2; omega) | omega, hq.1]) (by first | exact oq_e5e5d3d6 ws1042_79 g1006 | (clear hps1051 g1049 g1048 hps1043 hps1039 hps1035 g1010 hps1008 p2; omega) | (clear g1049 g1048 hps1043 hps1039 hps1035 g1010 hps1008 p2; omega) | omega) (by first | exact oq_1aa5be9e ws1042_78 hi.1 | (clear hps1051 g1049 g1048 hps1043 hps1039 hps1035 g1010 hps1008 p2; omega) | (clear g1049 g1048 hps1043 hps1039 hps1035 g1010 hps1008 p2; omega) | omega) hps1043.2.2.2.2.2) (by rw [hps1051.1]; exact sk_sk) (by first | exact ws1051_79 | (clear hps1051 g1049 g1048 hps1043 hps1039 hps1035 g1010 hps1008 p2; omega) | (clear g1049 g1048 hps1043 hps1039 hps1035 g1010 hps1008 p2; omega) | omega)⟩ (by first | exact And.intro (oq_ac0e91e1 ws1051_78 hps1043p.1 ws1042_78 hi.1) (And.intro (oq_93076f9e hps1051p.2 hps1043p.2.1 vs1042 hi.2.1) (And.intro (Or.inr (oq_4df917b2 hps1051.2.2 hps1043.2.2.1 vs1042 hps1039 g1037 hps1035 hN b1002.2)) (And.intro (oq_67b737cd g1006 hi.2.2.2.1 b3.1) (And.intro (oq_2b9bddb8 ws1051_79 hps1051.2.2 b1046.1 hps1043.2.2.2.2.1 ws1042_75 hN hi.2.2.2.2.2.1) (And.intro (oq_ac0e91e1 ws1051_75 ws1043_75 ws1042_75 hi.2.2.2.2.2.1) (And.intro (hy1050.1) (hy1050.2))))))) | (clear hps1051 g1049 g1048 hps1043 hps1039 hps1035 g1010 hps1008 p2; omega) | (clear g1049 g1048 hps1043 hps1039 hps1035 g1010 hps1008 p2; omega) | omega) (by first | exact oq_eecb4c2c ws1051_75 hps1051p.2 ws1043_75 hps1043p.2.1 ws1042_75 vs1042 hps1039 g1037 hps1035 hN hm | (clear hps1051 g1049 g1048 hps1043 hps1039 hps1035 g1010 hps1008 p2; omega) | (clear g1049 g1048 hps1043 hps1039 hps1035 g1010 hps1008 p2; omega) | omega) kx
              ·
                refine z_const X rfl (z_goto X (t := 89) rfl rfl (z_store_n X (lv' := [(1, .int (Int32.ofInt 0)), (3, .int (Int32.ofInt e1044)), (2, .int (Int32.ofInt e1040)), (0, .ref (A 179))]) rfl (by decide) (fun _ h => h) (z_aload_n X (x := A 179) rfl (List.Mem.tail _ (List.Mem.tail _ (List.Mem.tail _ (List.Mem.head _)))) (z_callV X 179 (rm := rmN 193) (As := []) (st := []) rfl rfl (by decide) rfl (by rw [E.1, E.2.1, E.2.2.1]; exact k_blanks2 G Is1043 JFDB_s1043 (by first | exact oq_d255e8ca hps1043.2.2.1 vs1042 hi.2.2.1 p0 | omega)) ⟨by rw [E.2.2.2]; exact (show 7 + 1 ≤ (12 + (3 * (r) + 1)) from oq_4609964d r), by rw [E.2.2.2]; exact (show 8 + (1 + 11) + 121 ≤ (500 + 45 * (3 * (r) + 1)) from oq_12dd44ff r), by rw [E.2.2.2]; exact Nat.le_refl 0, by rw [E.2.2.2]; exact Nat.le_refl 0⟩ (Nat.le_of_ble_eq_true rfl) (fun vv s1054 hq => ?_) (fun ee s1054 hq => ?_)))))
                rotate_left
                · obtain ⟨Is1054, Fs1054, JFDB_s1054, hv, hps1054⟩ := hq; cases hv
                obtain ⟨Is1054, Fs1054, JFDB_s1054, hv, hps1054⟩ := hq
                have hps1054p := And.intro hps1054.1 (hps1054.2.1)
                cases hv
                have Gs1054 := fm_tq Gs1043 Fs1054 rfl rfl
                have JFDB_s1054 : FDB B N s1054 := FDB_fm Fs1054 (by decide) JFDB_s1043
                have b1056 := bi_77 Is1054
                have ws1054_75 : iI s1054 75 = iI s1043 75 := fm_iq Fs1054 rfl
                have ws1054_79 : iI s1054 79 = iI s1043 79 := fm_iq Fs1054 rfl
                have ws1054_78 : iI s1054 78 = iI s1043 78 := fm_iq Fs1054 rfl
                show WS k 94 [(1, .int (Int32.ofInt 0)), (3, .int (Int32.ofInt e1044)), (2, .int (Int32.ofInt e1040)), (0, .ref (A 179))] [] (Wd A dT s1054) 0 0
                refine z_goto X (t := 9) rfl rfl (WS_pq [3, 0] (lv' := [(0, .ref (A 179)), (1, .int (Int32.ofInt 0))]) rfl ?_)
                exact ih _ 0 Is1054 Gs1054 JFDB_s1054 ⟨by rw [hps1054.1]; exact sk_sk, prm_mv (prmp_up hq.2 (by first | exact g1006 | (clear hps1054 g1048 hps1043 hps1039 hps1035 g1010 hps1008 p2; omega) | (clear g1048 hps1043 hps1039 hps1035 g1010 hps1008 p2; omega) | omega) hcd (by rw [show iI s1042 77 = iI t 77 + 1 by first | exact vs1042 | (clear hps1054 g1048 hps1043 hps1039 hps1035 g1010 hps1008 p2; omega) | (clear g1048 hps1043 hps1039 hps1035 g1010 hps1008 p2; omega) | omega, hq.1]) (by first | exact oq_e5e5d3d6 ws1042_79 g1006 | (clear hps1054 g1048 hps1043 hps1039 hps1035 g1010 hps1008 p2; omega) | (clear g1048 hps1043 hps1039 hps1035 g1010 hps1008 p2; omega) | omega) (by first | exact oq_1aa5be9e ws1042_78 hi.1 | (clear hps1054 g1048 hps1043 hps1039 hps1035 g1010 hps1008 p2; omega) | (clear g1048 hps1043 hps1039 hps1035 g1010 hps1008 p2; omega) | omega) hps1043.2.2.2.2.2) (by rw [hps1054.1]; exact sk_sk) (by first | exact ws1054_79 | (clear hps1054 g1048 hps1043 hps1039 hps1035 g1010 hps1008 p2; omega) | (clear g1048 hps1043 hps1039 hps1035 g1010 hps1008 p2; omega) | omega)⟩ (by first | exact ⟨oq_45b593e3 ws1054_78 hi.1 hps1043.1 ws1042_78, oq_93076f9e hps1054.2.1 hps1043.2.1 vs1042 hi.2.1, by first | exact Or.inr (oq_4df917b2 hps1054.2.2 hps1043.2.2.1 vs1042 hps1039 g1037 hps1035 hN b1002.2) | (clear hps1054 g1048 hps1043 hps1039 hps1035 g1010 hps1008 p2; omega) | (clear g1048 hps1043 hps1039 hps1035 g1010 hps1008 p2; omega) | omega, oq_67b737cd g1006 hi.2.2.2.1 b3.1, by first | exact oq_2b9bddb8 ws1054_79 hps1054.2.2 b1046.1 hps1043.2.2.2.2.1 ws1042_75 hN hi.2.2.2.2.2.1 | (clear hps1054 g1048 hps1043 hps1039 hps1035 g1010 hps1008 p2; omega) | (clear g1048 hps1043 hps1039 hps1035 g1010 hps1008 p2; omega) | omega, oq_45b593e3 ws1054_75 hi.2.2.2.2.2.1 ws1043_75 ws1042_75, by decide, by decide⟩ | omega) (by first | exact oq_eecb4c2c ws1054_75 hps1054p.2 ws1043_75 hps1043p.2.1 ws1042_75 vs1042 hps1039 g1037 hps1035 hN hm | (clear hps1054 g1048 hps1043 hps1039 hps1035 g1010 hps1008 p2; omega) | (clear g1048 hps1043 hps1039 hps1035 g1010 hps1008 p2; omega) | omega) kx
            ·
              refine z_load_n X (x := v) rfl (List.Mem.tail _ (List.Mem.tail _ (List.Mem.tail _ (List.Mem.head _)))) (z_load_n X (x := e1044) rfl (List.Mem.head _) (z_mul X rfl (z_any (fun y1057 hy1057 => ?_))))
              refine z_goto X (t := 89) rfl rfl (z_store_n X (lv' := [(1, .int (Int32.ofInt y1057)), (3, .int (Int32.ofInt e1044)), (2, .int (Int32.ofInt e1040)), (0, .ref (A 179))]) rfl (by decide) (fun _ h => h) (z_aload_n X (x := A 179) rfl (List.Mem.tail _ (List.Mem.tail _ (List.Mem.tail _ (List.Mem.head _)))) (z_callV X 179 (rm := rmN 193) (As := []) (st := []) rfl rfl (by decide) rfl (by rw [E.1, E.2.1, E.2.2.1]; exact k_blanks2 G Is1043 JFDB_s1043 (by first | exact oq_64020fb0 g1048 hps1039 g1037 hps1035 | omega)) ⟨by rw [E.2.2.2]; exact (show 7 + 1 ≤ (12 + (3 * (r) + 1)) from oq_4609964d r), by rw [E.2.2.2]; exact (show 8 + (1 + 11) + 121 ≤ (500 + 45 * (3 * (r) + 1)) from oq_12dd44ff r), by rw [E.2.2.2]; exact Nat.le_refl 0, by rw [E.2.2.2]; exact Nat.le_refl 0⟩ (Nat.le_of_ble_eq_true rfl) (fun vv s1058 hq => ?_) (fun ee s1058 hq => ?_))))
              rotate_left
              · obtain ⟨Is1058, Fs1058, JFDB_s1058, hv, hps1058⟩ := hq; cases hv
              obtain ⟨Is1058, Fs1058, JFDB_s1058, hv, hps1058⟩ := hq
              have hps1058p := And.intro hps1058.1 (hps1058.2.1)
              cases hv
              have Gs1058 := fm_tq Gs1043 Fs1058 rfl rfl
              have JFDB_s1058 : FDB B N s1058 := FDB_fm Fs1058 (by decide) JFDB_s1043
              have b1060 := bi_77 Is1058
              have ws1058_75 : iI s1058 75 = iI s1043 75 := fm_iq Fs1058 rfl
              have ws1058_79 : iI s1058 79 = iI s1043 79 := fm_iq Fs1058 rfl
              have ws1058_78 : iI s1058 78 = iI s1043 78 := fm_iq Fs1058 rfl
              show WS k 94 [(1, .int (Int32.ofInt y1057)), (3, .int (Int32.ofInt e1044)), (2, .int (Int32.ofInt e1040)), (0, .ref (A 179))] [] (Wd A dT s1058) 0 0
              refine z_goto X (t := 9) rfl rfl (WS_pq [3, 0] (lv' := [(0, .ref (A 179)), (1, .int (Int32.ofInt y1057))]) rfl ?_)
              exact ih _ y1057 Is1058 Gs1058 JFDB_s1058 ⟨by rw [hps1058.1]; exact sk_sk, prm_mv (prmp_up hq.2 (by first | exact g1006 | (clear hps1058 hps1043 hps1039 hps1035 g1010 hps1008 p2; omega) | (clear hps1043 hps1039 hps1035 g1010 hps1008 p2; omega) | omega) hcd (by rw [show iI s1042 77 = iI t 77 + 1 by first | exact vs1042 | (clear hps1058 hps1043 hps1039 hps1035 g1010 hps1008 p2; omega) | (clear hps1043 hps1039 hps1035 g1010 hps1008 p2; omega) | omega, hq.1]) (by first | exact oq_e5e5d3d6 ws1042_79 g1006 | (clear hps1058 hps1043 hps1039 hps1035 g1010 hps1008 p2; omega) | (clear hps1043 hps1039 hps1035 g1010 hps1008 p2; omega) | omega) (by first | exact oq_1aa5be9e ws1042_78 hi.1 | (clear hps1058 hps1043 hps1039 hps1035 g1010 hps1008 p2; omega) | (clear hps1043 hps1039 hps1035 g1010 hps1008 p2; omega) | omega) hps1043.2.2.2.2.2) (by rw [hps1058.1]; exact sk_sk) (by first | exact ws1058_79 | (clear hps1058 hps1043 hps1039 hps1035 g1010 hps1008 p2; omega) | (clear hps1043 hps1039 hps1035 g1010 hps1008 p2; omega) | omega)⟩ (by first | exact ⟨oq_45b593e3 ws1058_78 hi.1 hps1043.1 ws1042_78, oq_93076f9e hps1058.2.1 hps1043.2.1 vs1042 hi.2.1, oq_8dbd7f30 g1048 hps1039 g1037 hps1035, oq_cd9278e8 g1048 hps1039 g1037 hps1035, oq_1a68ba24 g1048 hps1039 g1037 hps1035, oq_45b593e3 ws1058_75 hi.2.2.2.2.2.1 ws1043_75 ws1042_75, hy1057.1, hy1057.2⟩ | omega) (by first | exact qk_me hm (oq_aae77179 ws1058_75 hps1058.2.1 ws1043_75 hps1043.2.1 ws1042_75 vs1042) (oq_8500a080 g1048 hps1039 g1037 hps1035) | omega) kx
  refine z_aload_n X (x := A 179) rfl (List.Mem.head _) (z_callV X 179 (rm := (rkR (3 * (r)))) (As := []) (st := []) rfl rfl (by decide) rfl (by rw [E.1, E.2.1, E.2.2.1]; exact hU I jFDB (by first | exact p0 | omega) (by first | exact p1 | omega) (by first | exact p2 | omega)) ⟨by rw [E.2.2.2]; exact (show (12 + (3 * (r))) + 1 ≤ (12 + (3 * (r) + 1)) from oq_5e3fa304 r), by rw [E.2.2.2]; exact (show 8 + (7 + 11) + (500 + 45 * (3 * (r))) ≤ (500 + 45 * (3 * (r) + 1)) from oq_ea5e6b1c r), by rw [E.2.2.2]; exact Nat.le_refl 0, by rw [E.2.2.2]; exact Nat.le_refl 0⟩ (Nat.le_of_ble_eq_true rfl) (fun vv s5 hq => ?_) (fun ee s5 hq => ?_))
  rotate_left
  · obtain ⟨Is5, Fs5, JFDB_s5, e6, hv, hrs5, hps5⟩ := hq; cases hv
  obtain ⟨Is5, Fs5, JFDB_s5, e6, hv, hrs5, hps5⟩ := hq
  have hps5p := And.intro hps5.1 (And.intro hps5.2.1 (hps5.2.2.2.2.2))
  cases hv
  have Gs5 := fm_tq F Fs5 rfl rfl
  have JFDB_s5 : FDB B N s5 := FDB_fm Fs5 (by decide) jFDB
  have b7 := bi_77 Is5
  have ws5_75 : iI s5 75 = iI s 75 := fm_iq Fs5 rfl
  have b8 := bi_79 Is5
  have b9 := bi_78 Is5
  show WS k 4 [(0, .ref (A 179))] [.int (Int32.ofInt e6)] (Wd A dT s5) 0 0
  refine z_store_n X (lv' := [(1, .int (Int32.ofInt e6)), (0, .ref (A 179))]) rfl (by decide) (fun _ h => h) (z_aload_n X (x := A 179) rfl (List.Mem.tail _ (List.Mem.head _)) (z_callV X 179 (rm := rmN 193) (As := []) (st := []) rfl rfl (by decide) rfl (by rw [E.1, E.2.1, E.2.2.1]; exact k_blanks2 G Is5 JFDB_s5 (by first | exact oq_299765ef hps5.2.2.1 p0 | omega)) ⟨by rw [E.2.2.2]; exact (show 7 + 1 ≤ (12 + (3 * (r) + 1)) from oq_4609964d r), by rw [E.2.2.2]; exact (show 8 + (1 + 11) + 121 ≤ (500 + 45 * (3 * (r) + 1)) from oq_12dd44ff r), by rw [E.2.2.2]; exact Nat.le_refl 0, by rw [E.2.2.2]; exact Nat.le_refl 0⟩ (Nat.le_of_ble_eq_true rfl) (fun vv s10 hq => ?_) (fun ee s10 hq => ?_)))
  rotate_left
  · obtain ⟨Is10, Fs10, JFDB_s10, hv, hps10⟩ := hq; cases hv
  obtain ⟨Is10, Fs10, JFDB_s10, hv, hps10⟩ := hq
  have hps10p := And.intro hps10.1 (hps10.2.1)
  cases hv
  have Gs10 := fm_tq Gs5 Fs10 rfl rfl
  have JFDB_s10 : FDB B N s10 := FDB_fm Fs10 (by decide) JFDB_s5
  have b12 := bi_77 Is10
  have ws10_75 : iI s10 75 = iI s5 75 := fm_iq Fs10 rfl
  have ws10_79 : iI s10 79 = iI s5 79 := fm_iq Fs10 rfl
  have ws10_78 : iI s10 78 = iI s5 78 := fm_iq Fs10 rfl
  show WS k 9 [(1, .int (Int32.ofInt e6)), (0, .ref (A 179))] [] (Wd A dT s10) 0 0
  refine WS_pq [1, 0] (lv' := [(0, .ref (A 179)), (1, .int (Int32.ofInt e6))]) rfl (L9 ((iI s10 75 - iI s10 77 : Int).toNat + 1) s10 e6 Is10 Gs10 JFDB_s10 ⟨by rw [hps10.1]; exact sk_sk, prm_mv (prmp_0 hps5.2.2.2.2.2) (by rw [hps10.1]; exact sk_sk) (by first | exact ws10_79 | (clear hps10 hps5 p2; omega) | (clear hps5 p2; omega) | omega)⟩ (by first | exact And.intro (oq_1aa5be9e ws10_78 hps5p.1) (And.intro (oq_f8a2cf0e hps10p.2 hps5p.2.1) (And.intro (oq_c3ae77b9 hps10.2.2 hps5.2.2.1 b2.2 hN p0) (And.intro (oq_288de3fc ws10_79 hps5.2.2.2.1 b3.1) (And.intro (oq_66bfb5eb ws10_79 hps10.2.2 hps5.2.2.2.2.1 hN) (And.intro (oq_1aa5be9e ws10_75 ws5_75) (And.intro (hrs5.1) (hrs5.2))))))) | (clear hps10 hps5 p2; omega) | (clear hps5 p2; omega) | omega) (Nat.lt_succ_self _) ?_)
  intro s13 x14 Is13 Fs13 JFDB_s13 Qs13 hs13
  have b15 := bi_77 Is13
  have b16 := bi_75 Is13
  have b17 := bi_79 Is13
  have b18 := bi_78 Is13
  have hNs13 := JFDB_s13.2.1
  have hWs13 := JFDB_s13.2.2
  refine z_load_n X (x := x14) rfl (List.Mem.tail _ (List.Mem.head _)) ?_
  exact w_iret X.1 q hRt rfl (ax_d X (show cdA 208 98 = some (.ireturn, 1, 0, 0, 0) from rfl)) (Nat.zero_le _) (Nat.zero_le _) ⟨_, rfl, Is13, Fs13, JFDB_s13, x14, rfl, ⟨by first | exact hs13.2.2.2.2.2.2.1 | omega, by first | exact hs13.2.2.2.2.2.2.2 | omega⟩, ⟨by first | exact hs13.1 | omega, by first | exact hs13.2.1 | omega, by first | exact hs13.2.2.1 | omega, by first | exact hs13.2.2.2.1 | omega, by first | exact hs13.2.2.2.2.1 | omega, Qs13⟩⟩
set_option maxRecDepth 4000 in
theorem k_sumS3 (G : GX l s0 D tys a0 dT) {B : Nat → Int} {N : Int} {r : Nat} (hU : ∀ {s : PS}, Bd s → FDB B N s → (iI s 77 ≤ 203) → (iI s 78 + ((r : Nat) : Int) = 7) → (iI s 78 = 7 → iI s 79 ≠ 0) → CT l s0 D A dT 208 (rkR (3 * (r) + 1)) [.ref (A 179)] s (fun o t => Bd t ∧ Fm [77, 79, 80, 78] [] s t ∧ FDB B N t ∧ ∃ e, o = .inl (some (.int (Int32.ofInt e))) ∧ rng e ∧ (iI t 78 = iI s 78 ∧ iI s 77 ≤ iI t 77 ∧ (iI t 77 = iI s 77 ∨ iI t 77 ≤ 202) ∧ (iI s 79 ≠ 0 → iI t 79 ≠ 0) ∧ (iI t 79 = 0 → iI t 77 ≤ iI s 75) ∧ PFm B N 1 s t))) (I : Bd s) (jFDB : FDB B N s) (p0 : iI s 77 ≤ 203) (p1 : iI s 78 + ((r : Nat) : Int) = 7) (p2 : iI s 78 = 7 → iI s 79 ≠ 0) : CT l s0 D A dT 209 (rkR (3 * (r) + 2)) [.ref (A 179)] s (fun o t => Bd t ∧ Fm [77, 79, 80, 78] [] s t ∧ FDB B N t ∧ ∃ e, o = .inl (some (.int (Int32.ofInt e))) ∧ rng e ∧ (iI t 78 = iI s 78 ∧ iI s 77 ≤ iI t 77 ∧ (iI t 77 = iI s 77 ∨ iI t 77 ≤ 202) ∧ (iI s 79 ≠ 0 → iI t 79 ≠ 0) ∧ (iI t 79 = 0 → iI t 77 ≤ iI s 75) ∧ PFm B N 3 s t)) := by
  refine ct_of G (by decide) (Nat.le_of_ble_eq_true rfl) (fun k X E hRt hXt q => ?_)
  show WS k 0 [(0, .ref (A 179))] [] _ 0 0
  have F : Fm [77, 79, 80, 78] [] s s := fm_rf _ _ s
  have hN := jFDB.2.1
  have hW := jFDB.2.2
  have b1 := bi_77 I
  have b2 := bi_75 I
  have b3 := bi_79 I
  have b4 := bi_78 I
  have L9 : ∀ (n : Nat) (t : PS) (v : Int), Bd t → Fm [77, 79, 80, 78] [] s t → FDB B N t → (sk B N (iI t 77) = iI t 77 ∧ PRm B N 4 3 s t) → (iI t 78 = iI s 78 ∧ iI s 77 ≤ iI t 77 ∧ (iI t 77 = iI s 77 ∨ iI t 77 ≤ 202) ∧ (iI s 79 ≠ 0 → iI t 79 ≠ 0) ∧ (iI t 79 = 0 → iI t 77 ≤ iI s 75) ∧ iI t 75 = iI s 75 ∧ rng v) → (iI t 75 - iI t 77 : Int).toNat < n → (∀ (t' : PS) (v' : Int), Bd t' → Fm [77, 79, 80, 78] [] s t' → FDB B N t' → (PFm B N 3 s t') → (iI t' 78 = iI s 78 ∧ iI s 77 ≤ iI t' 77 ∧ (iI t' 77 = iI s 77 ∨ iI t' 77 ≤ 202) ∧ (iI s 79 ≠ 0 → iI t' 79 ≠ 0) ∧ (iI t' 79 = 0 → iI t' 77 ≤ iI s 75) ∧ iI t' 75 = iI s 75 ∧ rng v') → WS k 89 [(0, .ref (A 179)), (1, .int (Int32.ofInt v'))] [] (Wd A dT t') 0 0) → WS k 9 [(0, .ref (A 179)), (1, .int (Int32.ofInt v))] [] (Wd A dT t) 0 0 := by
    intro n
    induction n with
    | zero =>
      intro t v I F jjFDB hq hi hm kx
      exact absurd hm (Nat.not_lt_zero _)
    | succ n ih =>
      intro t v I F jjFDB hq hi hm kx
      have b1001 := bi_77 I
      have b1002 := bi_75 I
      have b1003 := bi_79 I
      have b1004 := bi_78 I
      have hN := jjFDB.2.1
      have hW := jjFDB.2.2
      refine z_aload_n X (x := A 179) rfl (List.Mem.head _) (z_getI X 179 rfl (c518_ok rfl) rfl rfl ?_)
      have b1005 := bi_79 I
      refine z_if_ne X (t := 89) rfl rfl (rng_to _) (fun g1006 => ?_) (fun g1006 => ?_)
      ·
        refine WS_pq [0, 1] (lv' := [(0, .ref (A 179)), (1, .int (Int32.ofInt v))]) rfl ?_
        exact kx _ v I F jjFDB (by first | exact prm_fa (prm_mv hq.2 (by rw [show iI t 77 = iI t 77 by first | exact rfl | (clear g1006 p2; omega) | (clear p2; omega) | omega]) (by first | exact rfl | (clear g1006 p2; omega) | (clear p2; omega) | omega)) (by first | exact g1006 | (clear g1006 p2; omega) | (clear p2; omega) | omega) | exact prms_end (prm_mv hq.2 (by rw [show iI t 77 = iI t 77 by first | (clear g1006 p2; omega) | (clear p2; omega) | omega]) (by first | (clear g1006 p2; omega) | (clear p2; omega) | omega)) (by first | (clear g1006 p2; omega) | (clear p2; omega) | omega) (by rw [show iI t 77 = iI t 77 by first | (clear g1006 p2; omega) | (clear p2; omega) | omega, hq.1]; omega)) (by first | exact ⟨hi.1, hi.2.1, hi.2.2.1, hi.2.2.2.1, hi.2.2.2.2.1, hi.2.2.2.2.2.1, hi.2.2.2.2.2.2.1, hi.2.2.2.2.2.2.2⟩ | omega)
      ·
        refine z_aload_n X (x := A 179) rfl (List.Mem.head _) (z_aload_n X (x := A 179) rfl (List.Mem.head _) (z_getI X 179 rfl (c518_ok rfl) rfl rfl ?_))
        have b1007 := bi_77 I
        refine z_callV X 179 (rm := rmN 192) (As := [.int (Int32.ofInt (iI t 77))]) (st := []) rfl rfl (by decide) rfl (by rw [E.1, E.2.1, E.2.2.1]; exact k_byteAt2 G I jjFDB (by first | exact ⟨b1007.1, oq_5a8480eb b1007.2⟩ | omega)) ⟨by rw [E.2.2.2]; exact (show 6 + 1 ≤ (12 + (3 * (r) + 2)) from oq_44aaa93c r), by rw [E.2.2.2]; exact (show 8 + (2 + 11) + 100 ≤ (500 + 45 * (3 * (r) + 2)) from oq_3a43be2e r), by rw [E.2.2.2]; exact Nat.le_refl 0, by rw [E.2.2.2]; exact Nat.le_refl 0⟩ (Nat.le_of_ble_eq_true rfl) (fun vv s1008 hq => ?_) (fun ee s1008 hq => ?_)
        rotate_left
        · obtain ⟨rfl, e1009, hv, hrs1008, hps1008⟩ := hq; cases hv
        obtain ⟨rfl, e1009, hv, hrs1008, hps1008⟩ := hq
        cases hv
        show WS k 24 [(0, .ref (A 179)), (1, .int (Int32.ofInt v))] [.int (Int32.ofInt e1009)] (Wd A dT t) 0 0
        refine z_bipush X rfl (z_icmp_eq X (t := 42) rfl rfl hrs1008 (by decide) (fun g1010 => ?_) (fun g1010 => ?_))
        ·
          have hcd : chT B N (sk B N (iI t 77)) 43 ∨ chT B N (sk B N (iI t 77)) 45 := by rw [hq.1]; first | exact Or.inl ⟨by first | exact oq_3778b6f4 g1010 hps1008 | (clear hps1008 p2; omega) | (clear p2; omega) | omega, by first | exact oq_fa8eb491 g1010 hps1008 | (clear hps1008 p2; omega) | (clear p2; omega) | omega⟩ | exact Or.inr ⟨by first | (clear hps1008 p2; omega) | (clear p2; omega) | omega, by first | (clear hps1008 p2; omega) | (clear p2; omega) | omega⟩
          refine z_aload_n X (x := A 179) rfl (List.Mem.head _) (z_aload_n X (x := A 179) rfl (List.Mem.head _) (z_getI X 179 rfl (c518_ok rfl) rfl rfl ?_))
          have b1011 := bi_77 I
          refine z_callV X 179 (rm := rmN 192) (As := [.int (Int32.ofInt (iI t 77))]) (st := []) rfl rfl (by decide) rfl (by rw [E.1, E.2.1, E.2.2.1]; exact k_byteAt2 G I jjFDB (by first | exact ⟨b1011.1, oq_5a8480eb b1011.2⟩ | omega)) ⟨by rw [E.2.2.2]; exact (show 6 + 1 ≤ (12 + (3 * (r) + 2)) from oq_44aaa93c r), by rw [E.2.2.2]; exact (show 8 + (2 + 11) + 100 ≤ (500 + 45 * (3 * (r) + 2)) from oq_3a43be2e r), by rw [E.2.2.2]; exact Nat.le_refl 0, by rw [E.2.2.2]; exact Nat.le_refl 0⟩ (Nat.le_of_ble_eq_true rfl) (fun vv s1012 hq => ?_) (fun ee s1012 hq => ?_)
          rotate_left
          · obtain ⟨rfl, e1013, hv, hrs1012, hps1012⟩ := hq; cases hv
          obtain ⟨rfl, e1013, hv, hrs1012, hps1012⟩ := hq
          cases hv
          show WS k 50 [(0, .ref (A 179)), (1, .int (Int32.ofInt v))] [.int (Int32.ofInt e1013)] (Wd A dT t) 0 0
          refine z_store_n X (lv' := [(2, .int (Int32.ofInt e1013)), (0, .ref (A 179)), (1, .int (Int32.ofInt v))]) rfl (by decide) (fun _ h => h) (z_aload_n X (x := A 179) rfl (List.Mem.tail _ (List.Mem.head _)) (w_dup X.1 (ax_d X (show cdA 209 52 = some (.dup, 1, 0, 0, 0) from rfl)) rfl (z_getI X 179 rfl (c518_ok rfl) rfl rfl ?_)))
          have b1014 := bi_77 I
          refine z_const X rfl (z_add X rfl (s_putI X 179 rfl (c518_ok rfl) rfl rfl (by decide) rfl rfl rfl (wd_gen (fun s1015 hs1015 => ?_))))
          have Is1015 : Bd s1015 := eqB hs1015 (bd_I I (show (0 : Int) ≤ ((iI t 77) + 1) ∧ ((iI t 77) + 1) ≤ 400 by first | exact ⟨oq_54f49eb5 b1014.1, oq_886c3d04 hi.2.2.1 p0⟩ | omega) ⟨by first | exact oq_74de1e16 b1014.1 | omega, by first | exact oq_964ce197 b1014.2 | omega⟩)
          have Fs1015 := eqF hs1015 (fm_I F (inl_ok (a := 77) rfl))
          have vs1015 : iI s1015 77 = ((iI t 77) + 1) := eqI hs1015 (iI_u ⟨by first | exact oq_74de1e16 b1014.1 | omega, by first | exact oq_964ce197 b1014.2 | omega⟩)
          have ws1015_75 : iI s1015 75 = iI t 75 := eqI hs1015 rfl
          have ws1015_79 : iI s1015 79 = iI t 79 := eqI hs1015 rfl
          have ws1015_78 : iI s1015 78 = iI t 78 := eqI hs1015 rfl
          have fs1015 : Fm [77] [] t s1015 := by rw [hs1015]; exact fm_I (fm_rf _ _ _) (show 77 ∈ _ by decide)
          have JFDB_s1015 : FDB B N s1015 := FDB_fm fs1015 (by decide) jjFDB
          refine z_aload_n X (x := A 179) rfl (List.Mem.tail _ (List.Mem.head _)) (z_callV X 179 (rm := (rkR (3 * (r) + 1))) (As := []) (st := []) rfl rfl (by decide) rfl (by rw [E.1, E.2.1, E.2.2.1]; exact hU Is1015 JFDB_s1015 (by first | exact oq_b74d6776 vs1015 g1006 hi.2.2.2.2.1 b2.2 | omega) (by first | exact oq_2b041bab ws1015_78 p1 hi.1 | omega) (by first | exact oq_097bc645 ws1015_78 g1006 hi.2.2.2.1 hi.1 b3.1 p2 | omega)) ⟨by rw [E.2.2.2]; exact (show (12 + (3 * (r) + 1)) + 1 ≤ (12 + (3 * (r) + 2)) from oq_2a2b55d9 r), by rw [E.2.2.2]; exact (show 8 + (4 + 11) + (500 + 45 * (3 * (r) + 1)) ≤ (500 + 45 * (3 * (r) + 2)) from oq_6b10c96c r), by rw [E.2.2.2]; exact Nat.le_refl 0, by rw [E.2.2.2]; exact Nat.le_refl 0⟩ (Nat.le_of_ble_eq_true rfl) (fun vv s1016 hq => ?_) (fun ee s1016 hq => ?_))
          rotate_left
          · obtain ⟨Is1016, Fs1016, JFDB_s1016, e1017, hv, hrs1016, hps1016⟩ := hq; cases hv
          obtain ⟨Is1016, Fs1016, JFDB_s1016, e1017, hv, hrs1016, hps1016⟩ := hq
          have hps1016p := And.intro hps1016.1 (And.intro hps1016.2.1 (hps1016.2.2.2.2.2))
          cases hv
          have Gs1016 := fm_tq Fs1015 Fs1016 rfl rfl
          have JFDB_s1016 : FDB B N s1016 := FDB_fm Fs1016 (by decide) JFDB_s1015
          have b1018 := bi_77 Is1016
          have ws1016_75 : iI s1016 75 = iI s1015 75 := fm_iq Fs1016 rfl
          have b1019 := bi_79 Is1016
          have b1020 := bi_78 Is1016
          show WS k 65 [(2, .int (Int32.ofInt e1013)), (0, .ref (A 179)), (1, .int (Int32.ofInt v))] [.int (Int32.ofInt e1017)] (Wd A dT s1016) 0 0
          refine z_store_n X (lv' := [(3, .int (Int32.ofInt e1017)), (2, .int (Int32.ofInt e1013)), (0, .ref (A 179)), (1, .int (Int32.ofInt v))]) rfl (by decide) (fun _ h => h) (z_load_n X (x := e1013) rfl (List.Mem.tail _ (List.Mem.head _)) (z_bipush X rfl (z_icmp_ne X (t := 78) rfl rfl hrs1012 (by decide) (fun g1021 => ?_) (fun g1021 => ?_))))
          ·
            refine z_load_n X (x := v) rfl (List.Mem.tail _ (List.Mem.tail _ (List.Mem.tail _ (List.Mem.head _)))) (z_load_n X (x := e1017) rfl (List.Mem.head _) (z_sub X rfl (z_any (fun y1022 hy1022 => ?_))))
            refine z_store_n X (lv' := [(1, .int (Int32.ofInt y1022)), (3, .int (Int32.ofInt e1017)), (2, .int (Int32.ofInt e1013)), (0, .ref (A 179))]) rfl (by decide) (fun _ h => h) (z_aload_n X (x := A 179) rfl (List.Mem.tail _ (List.Mem.tail _ (List.Mem.tail _ (List.Mem.head _)))) (z_callV X 179 (rm := rmN 193) (As := []) (st := []) rfl rfl (by decide) rfl (by rw [E.1, E.2.1, E.2.2.1]; exact k_blanks2 G Is1016 JFDB_s1016 (by first | exact oq_6d5be915 g1021 hps1012 g1010 hps1008 | omega)) ⟨by rw [E.2.2.2]; exact (show 7 + 1 ≤ (12 + (3 * (r) + 2)) from oq_eb6f61dd r), by rw [E.2.2.2]; exact (show 8 + (1 + 11) + 121 ≤ (500 + 45 * (3 * (r) + 2)) from oq_fbd0a6ff r), by rw [E.2.2.2]; exact Nat.le_refl 0, by rw [E.2.2.2]; exact Nat.le_refl 0⟩ (Nat.le_of_ble_eq_true rfl) (fun vv s1023 hq => ?_) (fun ee s1023 hq => ?_)))
            rotate_left
            · obtain ⟨Is1023, Fs1023, JFDB_s1023, hv, hps1023⟩ := hq; cases hv
            obtain ⟨Is1023, Fs1023, JFDB_s1023, hv, hps1023⟩ := hq
            have hps1023p := And.intro hps1023.1 (hps1023.2.1)
            cases hv
            have Gs1023 := fm_tq Gs1016 Fs1023 rfl rfl
            have JFDB_s1023 : FDB B N s1023 := FDB_fm Fs1023 (by decide) JFDB_s1016
            have b1025 := bi_77 Is1023
            have ws1023_75 : iI s1023 75 = iI s1016 75 := fm_iq Fs1023 rfl
            have ws1023_79 : iI s1023 79 = iI s1016 79 := fm_iq Fs1023 rfl
            have ws1023_78 : iI s1023 78 = iI s1016 78 := fm_iq Fs1023 rfl
            show WS k 86 [(1, .int (Int32.ofInt y1022)), (3, .int (Int32.ofInt e1017)), (2, .int (Int32.ofInt e1013)), (0, .ref (A 179))] [] (Wd A dT s1023) 0 0
            refine z_goto X (t := 9) rfl rfl (WS_pq [3, 0] (lv' := [(0, .ref (A 179)), (1, .int (Int32.ofInt y1022))]) rfl ?_)
            exact ih _ y1022 Is1023 Gs1023 JFDB_s1023 ⟨by rw [hps1023.1]; exact sk_sk, prm_mv (prms_up hq.2 (by first | exact g1006 | (clear hps1023 g1021 hps1016 hps1012 hps1008 p2; omega) | (clear g1021 hps1016 hps1012 hps1008 p2; omega) | omega) hcd (by rw [show iI s1015 77 = iI t 77 + 1 by first | exact vs1015 | (clear hps1023 g1021 hps1016 hps1012 hps1008 p2; omega) | (clear g1021 hps1016 hps1012 hps1008 p2; omega) | omega, hq.1]) (by first | exact oq_e5e5d3d6 ws1015_79 g1006 | (clear hps1023 g1021 hps1016 hps1012 hps1008 p2; omega) | (clear g1021 hps1016 hps1012 hps1008 p2; omega) | omega) (by first | exact oq_1aa5be9e ws1015_78 hi.1 | (clear hps1023 g1021 hps1016 hps1012 hps1008 p2; omega) | (clear g1021 hps1016 hps1012 hps1008 p2; omega) | omega) hps1016.2.2.2.2.2) (by rw [hps1023.1]; exact sk_sk) (by first | exact ws1023_79 | (clear hps1023 g1021 hps1016 hps1012 hps1008 p2; omega) | (clear g1021 hps1016 hps1012 hps1008 p2; omega) | omega)⟩ (by first | exact ⟨oq_45b593e3 ws1023_78 hi.1 hps1016.1 ws1015_78, oq_93076f9e hps1023.2.1 hps1016.2.1 vs1015 hi.2.1, oq_5b7d1403 g1021 hps1012 g1010 hps1008, oq_160137c6 g1021 hps1012 g1010 hps1008, oq_4a4c0d46 g1021 hps1012 g1010 hps1008, oq_45b593e3 ws1023_75 hi.2.2.2.2.2.1 ws1016_75 ws1015_75, hy1022.1, hy1022.2⟩ | omega) (by first | exact qk_me hm (oq_aae77179 ws1023_75 hps1023.2.1 ws1016_75 hps1016.2.1 ws1015_75 vs1015) (oq_ddf92a5b g1021 hps1012 g1010 hps1008) | omega) kx
          ·
            refine z_load_n X (x := v) rfl (List.Mem.tail _ (List.Mem.tail _ (List.Mem.tail _ (List.Mem.head _)))) (z_load_n X (x := e1017) rfl (List.Mem.head _) (z_add X rfl (z_any (fun y1026 hy1026 => ?_))))
            refine z_goto X (t := 81) rfl rfl (z_store_n X (lv' := [(1, .int (Int32.ofInt y1026)), (3, .int (Int32.ofInt e1017)), (2, .int (Int32.ofInt e1013)), (0, .ref (A 179))]) rfl (by decide) (fun _ h => h) (z_aload_n X (x := A 179) rfl (List.Mem.tail _ (List.Mem.tail _ (List.Mem.tail _ (List.Mem.head _)))) (z_callV X 179 (rm := rmN 193) (As := []) (st := []) rfl rfl (by decide) rfl (by rw [E.1, E.2.1, E.2.2.1]; exact k_blanks2 G Is1016 JFDB_s1016 (by first | exact oq_d255e8ca hps1016.2.2.1 vs1015 hi.2.2.1 p0 | omega)) ⟨by rw [E.2.2.2]; exact (show 7 + 1 ≤ (12 + (3 * (r) + 2)) from oq_eb6f61dd r), by rw [E.2.2.2]; exact (show 8 + (1 + 11) + 121 ≤ (500 + 45 * (3 * (r) + 2)) from oq_fbd0a6ff r), by rw [E.2.2.2]; exact Nat.le_refl 0, by rw [E.2.2.2]; exact Nat.le_refl 0⟩ (Nat.le_of_ble_eq_true rfl) (fun vv s1027 hq => ?_) (fun ee s1027 hq => ?_))))
            rotate_left
            · obtain ⟨Is1027, Fs1027, JFDB_s1027, hv, hps1027⟩ := hq; cases hv
            obtain ⟨Is1027, Fs1027, JFDB_s1027, hv, hps1027⟩ := hq
            have hps1027p := And.intro hps1027.1 (hps1027.2.1)
            cases hv
            have Gs1027 := fm_tq Gs1016 Fs1027 rfl rfl
            have JFDB_s1027 : FDB B N s1027 := FDB_fm Fs1027 (by decide) JFDB_s1016
            have b1029 := bi_77 Is1027
            have ws1027_75 : iI s1027 75 = iI s1016 75 := fm_iq Fs1027 rfl
            have ws1027_79 : iI s1027 79 = iI s1016 79 := fm_iq Fs1027 rfl
            have ws1027_78 : iI s1027 78 = iI s1016 78 := fm_iq Fs1027 rfl
            show WS k 86 [(1, .int (Int32.ofInt y1026)), (3, .int (Int32.ofInt e1017)), (2, .int (Int32.ofInt e1013)), (0, .ref (A 179))] [] (Wd A dT s1027) 0 0
            refine z_goto X (t := 9) rfl rfl (WS_pq [3, 0] (lv' := [(0, .ref (A 179)), (1, .int (Int32.ofInt y1026))]) rfl ?_)
            exact ih _ y1026 Is1027 Gs1027 JFDB_s1027 ⟨by rw [hps1027.1]; exact sk_sk, prm_mv (prms_up hq.2 (by first | exact g1006 | (clear hps1027 hps1016 hps1012 hps1008 p2; omega) | (clear hps1016 hps1012 hps1008 p2; omega) | omega) hcd (by rw [show iI s1015 77 = iI t 77 + 1 by first | exact vs1015 | (clear hps1027 hps1016 hps1012 hps1008 p2; omega) | (clear hps1016 hps1012 hps1008 p2; omega) | omega, hq.1]) (by first | exact oq_e5e5d3d6 ws1015_79 g1006 | (clear hps1027 hps1016 hps1012 hps1008 p2; omega) | (clear hps1016 hps1012 hps1008 p2; omega) | omega) (by first | exact oq_1aa5be9e ws1015_78 hi.1 | (clear hps1027 hps1016 hps1012 hps1008 p2; omega) | (clear hps1016 hps1012 hps1008 p2; omega) | omega) hps1016.2.2.2.2.2) (by rw [hps1027.1]; exact sk_sk) (by first | exact ws1027_79 | (clear hps1027 hps1016 hps1012 hps1008 p2; omega) | (clear hps1016 hps1012 hps1008 p2; omega) | omega)⟩ (by first | exact ⟨oq_45b593e3 ws1027_78 hi.1 hps1016.1 ws1015_78, oq_93076f9e hps1027.2.1 hps1016.2.1 vs1015 hi.2.1, by first | exact Or.inr (oq_8e0bf474 hps1027.2.2 g1021 hps1016.2.2.1 vs1015 hps1012 hN b1002.2) | (clear hps1027 hps1016 hps1012 hps1008 p2; omega) | (clear hps1016 hps1012 hps1008 p2; omega) | omega, oq_67b737cd g1006 hi.2.2.2.1 b3.1, by first | exact oq_2b9bddb8 ws1027_79 hps1027.2.2 b1019.1 hps1016.2.2.2.2.1 ws1015_75 hN hi.2.2.2.2.2.1 | (clear hps1027 hps1016 hps1012 hps1008 p2; omega) | (clear hps1016 hps1012 hps1008 p2; omega) | omega, oq_45b593e3 ws1027_75 hi.2.2.2.2.2.1 ws1016_75 ws1015_75, hy1026.1, hy1026.2⟩ | omega) (by first | exact oq_690a712c ws1027_75 hps1027p.2 g1021 ws1016_75 hps1016p.2.1 ws1015_75 vs1015 hps1012 hN hm | (clear hps1027 hps1016 hps1012 hps1008 p2; omega) | (clear hps1016 hps1012 hps1008 p2; omega) | omega) kx
        ·
          refine z_aload_n X (x := A 179) rfl (List.Mem.head _) (z_aload_n X (x := A 179) rfl (List.Mem.head _) (z_getI X 179 rfl (c518_ok rfl) rfl rfl ?_))
          have b1030 := bi_77 I
          refine z_callV X 179 (rm := rmN 192) (As := [.int (Int32.ofInt (iI t 77))]) (st := []) rfl rfl (by decide) rfl (by rw [E.1, E.2.1, E.2.2.1]; exact k_byteAt2 G I jjFDB (by first | exact ⟨b1030.1, oq_5a8480eb b1030.2⟩ | omega)) ⟨by rw [E.2.2.2]; exact (show 6 + 1 ≤ (12 + (3 * (r) + 2)) from oq_44aaa93c r), by rw [E.2.2.2]; exact (show 8 + (2 + 11) + 100 ≤ (500 + 45 * (3 * (r) + 2)) from oq_3a43be2e r), by rw [E.2.2.2]; exact Nat.le_refl 0, by rw [E.2.2.2]; exact Nat.le_refl 0⟩ (Nat.le_of_ble_eq_true rfl) (fun vv s1031 hq => ?_) (fun ee s1031 hq => ?_)
          rotate_left
          · obtain ⟨rfl, e1032, hv, hrs1031, hps1031⟩ := hq; cases hv
          obtain ⟨rfl, e1032, hv, hrs1031, hps1031⟩ := hq
          cases hv
          show WS k 37 [(0, .ref (A 179)), (1, .int (Int32.ofInt v))] [.int (Int32.ofInt e1032)] (Wd A dT t) 0 0
          refine z_bipush X rfl (z_icmp_ne X (t := 89) rfl rfl hrs1031 (by decide) (fun g1033 => ?_) (fun g1033 => ?_))
          ·
            refine WS_pq [0, 1] (lv' := [(0, .ref (A 179)), (1, .int (Int32.ofInt v))]) rfl ?_
            exact kx _ v I F jjFDB (by first | exact prm_fa (prm_mv hq.2 (by rw [show iI t 77 = iI t 77 by first | exact rfl | (clear g1033 hps1031 g1010 hps1008 p2; omega) | (clear hps1031 g1010 hps1008 p2; omega) | omega]) (by first | exact rfl | (clear g1033 hps1031 g1010 hps1008 p2; omega) | (clear hps1031 g1010 hps1008 p2; omega) | omega)) (by first | (clear g1033 hps1031 g1010 hps1008 p2; omega) | (clear hps1031 g1010 hps1008 p2; omega) | omega) | exact prms_end (prm_mv hq.2 (by rw [show iI t 77 = iI t 77 by first | exact rfl | (clear g1033 hps1031 g1010 hps1008 p2; omega) | (clear hps1031 g1010 hps1008 p2; omega) | omega]) (by first | exact rfl | (clear g1033 hps1031 g1010 hps1008 p2; omega) | (clear hps1031 g1010 hps1008 p2; omega) | omega)) (by first | exact g1006 | (clear g1033 hps1031 g1010 hps1008 p2; omega) | (clear hps1031 g1010 hps1008 p2; omega) | omega) (by rw [show iI t 77 = iI t 77 by first | exact rfl | (clear g1033 hps1031 g1010 hps1008 p2; omega) | (clear hps1031 g1010 hps1008 p2; omega) | omega, hq.1]; omega)) (by first | exact ⟨hi.1, hi.2.1, hi.2.2.1, hi.2.2.2.1, hi.2.2.2.2.1, hi.2.2.2.2.2.1, hi.2.2.2.2.2.2.1, hi.2.2.2.2.2.2.2⟩ | omega)
          ·
            have hcd : chT B N (sk B N (iI t 77)) 43 ∨ chT B N (sk B N (iI t 77)) 45 := by rw [hq.1]; first | exact Or.inl ⟨by first | exact oq_aa094844 g1033 hps1031 | (clear hps1031 g1010 hps1008 p2; omega) | (clear g1010 hps1008 p2; omega) | omega, by first | (clear hps1031 g1010 hps1008 p2; omega) | (clear g1010 hps1008 p2; omega) | omega⟩ | exact Or.inr ⟨by first | exact oq_aa094844 g1033 hps1031 | (clear hps1031 g1010 hps1008 p2; omega) | (clear g1010 hps1008 p2; omega) | omega, by first | exact oq_f7d94962 g1033 hps1031 | (clear hps1031 g1010 hps1008 p2; omega) | (clear g1010 hps1008 p2; omega) | omega⟩
            refine z_aload_n X (x := A 179) rfl (List.Mem.head _) (z_aload_n X (x := A 179) rfl (List.Mem.head _) (z_getI X 179 rfl (c518_ok rfl) rfl rfl ?_))
            have b1034 := bi_77 I
            refine z_callV X 179 (rm := rmN 192) (As := [.int (Int32.ofInt (iI t 77))]) (st := []) rfl rfl (by decide) rfl (by rw [E.1, E.2.1, E.2.2.1]; exact k_byteAt2 G I jjFDB (by first | exact ⟨b1034.1, oq_5a8480eb b1034.2⟩ | omega)) ⟨by rw [E.2.2.2]; exact (show 6 + 1 ≤ (12 + (3 * (r) + 2)) from oq_44aaa93c r), by rw [E.2.2.2]; exact (show 8 + (2 + 11) + 100 ≤ (500 + 45 * (3 * (r) + 2)) from oq_3a43be2e r), by rw [E.2.2.2]; exact Nat.le_refl 0, by rw [E.2.2.2]; exact Nat.le_refl 0⟩ (Nat.le_of_ble_eq_true rfl) (fun vv s1035 hq => ?_) (fun ee s1035 hq => ?_)
            rotate_left
            · obtain ⟨rfl, e1036, hv, hrs1035, hps1035⟩ := hq; cases hv
            obtain ⟨rfl, e1036, hv, hrs1035, hps1035⟩ := hq
            cases hv
            show WS k 50 [(0, .ref (A 179)), (1, .int (Int32.ofInt v))] [.int (Int32.ofInt e1036)] (Wd A dT t) 0 0
            refine z_store_n X (lv' := [(2, .int (Int32.ofInt e1036)), (0, .ref (A 179)), (1, .int (Int32.ofInt v))]) rfl (by decide) (fun _ h => h) (z_aload_n X (x := A 179) rfl (List.Mem.tail _ (List.Mem.head _)) (w_dup X.1 (ax_d X (show cdA 209 52 = some (.dup, 1, 0, 0, 0) from rfl)) rfl (z_getI X 179 rfl (c518_ok rfl) rfl rfl ?_)))
            have b1037 := bi_77 I
            refine z_const X rfl (z_add X rfl (s_putI X 179 rfl (c518_ok rfl) rfl rfl (by decide) rfl rfl rfl (wd_gen (fun s1038 hs1038 => ?_))))
            have Is1038 : Bd s1038 := eqB hs1038 (bd_I I (show (0 : Int) ≤ ((iI t 77) + 1) ∧ ((iI t 77) + 1) ≤ 400 by first | exact ⟨oq_54f49eb5 b1037.1, oq_886c3d04 hi.2.2.1 p0⟩ | omega) ⟨by first | exact oq_74de1e16 b1037.1 | omega, by first | exact oq_964ce197 b1037.2 | omega⟩)
            have Fs1038 := eqF hs1038 (fm_I F (inl_ok (a := 77) rfl))
            have vs1038 : iI s1038 77 = ((iI t 77) + 1) := eqI hs1038 (iI_u ⟨by first | exact oq_74de1e16 b1037.1 | omega, by first | exact oq_964ce197 b1037.2 | omega⟩)
            have ws1038_75 : iI s1038 75 = iI t 75 := eqI hs1038 rfl
            have ws1038_79 : iI s1038 79 = iI t 79 := eqI hs1038 rfl
            have ws1038_78 : iI s1038 78 = iI t 78 := eqI hs1038 rfl
            have fs1038 : Fm [77] [] t s1038 := by rw [hs1038]; exact fm_I (fm_rf _ _ _) (show 77 ∈ _ by decide)
            have JFDB_s1038 : FDB B N s1038 := FDB_fm fs1038 (by decide) jjFDB
            refine z_aload_n X (x := A 179) rfl (List.Mem.tail _ (List.Mem.head _)) (z_callV X 179 (rm := (rkR (3 * (r) + 1))) (As := []) (st := []) rfl rfl (by decide) rfl (by rw [E.1, E.2.1, E.2.2.1]; exact hU Is1038 JFDB_s1038 (by first | exact oq_b74d6776 vs1038 g1006 hi.2.2.2.2.1 b2.2 | omega) (by first | exact oq_2b041bab ws1038_78 p1 hi.1 | omega) (by first | exact oq_097bc645 ws1038_78 g1006 hi.2.2.2.1 hi.1 b3.1 p2 | omega)) ⟨by rw [E.2.2.2]; exact (show (12 + (3 * (r) + 1)) + 1 ≤ (12 + (3 * (r) + 2)) from oq_2a2b55d9 r), by rw [E.2.2.2]; exact (show 8 + (4 + 11) + (500 + 45 * (3 * (r) + 1)) ≤ (500 + 45 * (3 * (r) + 2)) from oq_6b10c96c r), by rw [E.2.2.2]; exact Nat.le_refl 0, by rw [E.2.2.2]; exact Nat.le_refl 0⟩ (Nat.le_of_ble_eq_true rfl) (fun vv s1039 hq => ?_) (fun ee s1039 hq => ?_))
            rotate_left
            · obtain ⟨Is1039, Fs1039, JFDB_s1039, e1040, hv, hrs1039, hps1039⟩ := hq; cases hv
            obtain ⟨Is1039, Fs1039, JFDB_s1039, e1040, hv, hrs1039, hps1039⟩ := hq
            have hps1039p := And.intro hps1039.1 (And.intro hps1039.2.1 (hps1039.2.2.2.2.2))
            cases hv
            have Gs1039 := fm_tq Fs1038 Fs1039 rfl rfl
            have JFDB_s1039 : FDB B N s1039 := FDB_fm Fs1039 (by decide) JFDB_s1038
            have b1041 := bi_77 Is1039
            have ws1039_75 : iI s1039 75 = iI s1038 75 := fm_iq Fs1039 rfl
            have b1042 := bi_79 Is1039
            have b1043 := bi_78 Is1039
            show WS k 65 [(2, .int (Int32.ofInt e1036)), (0, .ref (A 179)), (1, .int (Int32.ofInt v))] [.int (Int32.ofInt e1040)] (Wd A dT s1039) 0 0
            refine z_store_n X (lv' := [(3, .int (Int32.ofInt e1040)), (2, .int (Int32.ofInt e1036)), (0, .ref (A 179)), (1, .int (Int32.ofInt v))]) rfl (by decide) (fun _ h => h) (z_load_n X (x := e1036) rfl (List.Mem.tail _ (List.Mem.head _)) (z_bipush X rfl (z_icmp_ne X (t := 78) rfl rfl hrs1035 (by decide) (fun g1044 => ?_) (fun g1044 => ?_))))
            ·
              refine z_load_n X (x := v) rfl (List.Mem.tail _ (List.Mem.tail _ (List.Mem.tail _ (List.Mem.head _)))) (z_load_n X (x := e1040) rfl (List.Mem.head _) (z_sub X rfl (z_any (fun y1045 hy1045 => ?_))))
              refine z_store_n X (lv' := [(1, .int (Int32.ofInt y1045)), (3, .int (Int32.ofInt e1040)), (2, .int (Int32.ofInt e1036)), (0, .ref (A 179))]) rfl (by decide) (fun _ h => h) (z_aload_n X (x := A 179) rfl (List.Mem.tail _ (List.Mem.tail _ (List.Mem.tail _ (List.Mem.head _)))) (z_callV X 179 (rm := rmN 193) (As := []) (st := []) rfl rfl (by decide) rfl (by rw [E.1, E.2.1, E.2.2.1]; exact k_blanks2 G Is1039 JFDB_s1039 (by first | exact oq_d255e8ca hps1039.2.2.1 vs1038 hi.2.2.1 p0 | omega)) ⟨by rw [E.2.2.2]; exact (show 7 + 1 ≤ (12 + (3 * (r) + 2)) from oq_eb6f61dd r), by rw [E.2.2.2]; exact (show 8 + (1 + 11) + 121 ≤ (500 + 45 * (3 * (r) + 2)) from oq_fbd0a6ff r), by rw [E.2.2.2]; exact Nat.le_refl 0, by rw [E.2.2.2]; exact Nat.le_refl 0⟩ (Nat.le_of_ble_eq_true rfl) (fun vv s1046 hq => ?_) (fun ee s1046 hq => ?_)))
              rotate_left
              · obtain ⟨Is1046, Fs1046, JFDB_s1046, hv, hps1046⟩ := hq; cases hv
              obtain ⟨Is1046, Fs1046, JFDB_s1046, hv, hps1046⟩ := hq
              have hps1046p := And.intro hps1046.1 (hps1046.2.1)
              cases hv
              have Gs1046 := fm_tq Gs1039 Fs1046 rfl rfl
              have JFDB_s1046 : FDB B N s1046 := FDB_fm Fs1046 (by decide) JFDB_s1039
              have b1048 := bi_77 Is1046
              have ws1046_75 : iI s1046 75 = iI s1039 75 := fm_iq Fs1046 rfl
              have ws1046_79 : iI s1046 79 = iI s1039 79 := fm_iq Fs1046 rfl
              have ws1046_78 : iI s1046 78 = iI s1039 78 := fm_iq Fs1046 rfl
              show WS k 86 [(1, .int (Int32.ofInt y1045)), (3, .int (Int32.ofInt e1040)), (2, .int (Int32.ofInt e1036)), (0, .ref (A 179))] [] (Wd A dT s1046) 0 0
              refine z_goto X (t := 9) rfl rfl (WS_pq [3, 0] (lv' := [(0, .ref (A 179)), (1, .int (Int32.ofInt y1045))]) rfl ?_)
              exact ih _ y1045 Is1046 Gs1046 JFDB_s1046 ⟨by rw [hps1046.1]; exact sk_sk, prm_mv (prms_up hq.2 (by first | exact g1006 | (clear hps1046 g1044 hps1039 hps1035 hps1031 g1010 hps1008 p2; omega) | (clear g1044 hps1039 hps1035 hps1031 g1010 hps1008 p2; omega) | omega) hcd (by rw [show iI s1038 77 = iI t 77 + 1 by first | exact vs1038 | (clear hps1046 g1044 hps1039 hps1035 hps1031 g1010 hps1008 p2; omega) | (clear g1044 hps1039 hps1035 hps1031 g1010 hps1008 p2; omega) | omega, hq.1]) (by first | exact oq_e5e5d3d6 ws1038_79 g1006 | (clear hps1046 g1044 hps1039 hps1035 hps1031 g1010 hps1008 p2; omega) | (clear g1044 hps1039 hps1035 hps1031 g1010 hps1008 p2; omega) | omega) (by first | exact oq_1aa5be9e ws1038_78 hi.1 | (clear hps1046 g1044 hps1039 hps1035 hps1031 g1010 hps1008 p2; omega) | (clear g1044 hps1039 hps1035 hps1031 g1010 hps1008 p2; omega) | omega) hps1039.2.2.2.2.2) (by rw [hps1046.1]; exact sk_sk) (by first | exact ws1046_79 | (clear hps1046 g1044 hps1039 hps1035 hps1031 g1010 hps1008 p2; omega) | (clear g1044 hps1039 hps1035 hps1031 g1010 hps1008 p2; omega) | omega)⟩ (by first | exact ⟨oq_45b593e3 ws1046_78 hi.1 hps1039.1 ws1038_78, oq_93076f9e hps1046.2.1 hps1039.2.1 vs1038 hi.2.1, by first | exact Or.inr (oq_9a2d6c70 hps1046.2.2 hps1039.2.2.1 vs1038 hps1035 g1033 hps1031 hN b1002.2) | (clear hps1046 g1044 hps1039 hps1035 hps1031 g1010 hps1008 p2; omega) | (clear g1044 hps1039 hps1035 hps1031 g1010 hps1008 p2; omega) | omega, oq_67b737cd g1006 hi.2.2.2.1 b3.1, by first | exact oq_2b9bddb8 ws1046_79 hps1046.2.2 b1042.1 hps1039.2.2.2.2.1 ws1038_75 hN hi.2.2.2.2.2.1 | (clear hps1046 g1044 hps1039 hps1035 hps1031 g1010 hps1008 p2; omega) | (clear g1044 hps1039 hps1035 hps1031 g1010 hps1008 p2; omega) | omega, oq_45b593e3 ws1046_75 hi.2.2.2.2.2.1 ws1039_75 ws1038_75, hy1045.1, hy1045.2⟩ | omega) (by first | exact oq_95135382 ws1046_75 hps1046p.2 ws1039_75 hps1039p.2.1 ws1038_75 vs1038 hps1035 g1033 hps1031 hN hm | (clear hps1046 g1044 hps1039 hps1035 hps1031 g1010 hps1008 p2; omega) | (clear g1044 hps1039 hps1035 hps1031 g1010 hps1008 p2; omega) | omega) kx
            ·
              refine z_load_n X (x := v) rfl (List.Mem.tail _ (List.Mem.tail _ (List.Mem.tail _ (List.Mem.head _)))) (z_load_n X (x := e1040) rfl (List.Mem.head _) (z_add X rfl (z_any (fun y1049 hy1049 => ?_))))
              refine z_goto X (t := 81) rfl rfl (z_store_n X (lv' := [(1, .int (Int32.ofInt y1049)), (3, .int (Int32.ofInt e1040)), (2, .int (Int32.ofInt e1036)), (0, .ref (A 179))]) rfl (by decide) (fun _ h => h) (z_aload_n X (x := A 179) rfl (List.Mem.tail _ (List.Mem.tail _ (List.Mem.tail _ (List.Mem.head _)))) (z_callV X 179 (rm := rmN 193) (As := []) (st := []) rfl rfl (by decide) rfl (by rw [E.1, E.2.1, E.2.2.1]; exact k_blanks2 G Is1039 JFDB_s1039 (by first | exact oq_5505896c g1044 hps1035 g1033 hps1031 | omega)) ⟨by rw [E.2.2.2]; exact (show 7 + 1 ≤ (12 + (3 * (r) + 2)) from oq_eb6f61dd r), by rw [E.2.2.2]; exact (show 8 + (1 + 11) + 121 ≤ (500 + 45 * (3 * (r) + 2)) from oq_fbd0a6ff r), by rw [E.2.2.2]; exact Nat.le_refl 0, by rw [E.2.2.2]; exact Nat.le_refl 0⟩ (Nat.le_of_ble_eq_true rfl) (fun vv s1050 hq => ?_) (fun ee s1050 hq => ?_))))
              rotate_left
              · obtain ⟨Is1050, Fs1050, JFDB_s1050, hv, hps1050⟩ := hq; cases hv
              obtain ⟨Is1050, Fs1050, JFDB_s1050, hv, hps1050⟩ := hq
              have hps1050p := And.intro hps1050.1 (hps1050.2.1)
              cases hv
              have Gs1050 := fm_tq Gs1039 Fs1050 rfl rfl
              have JFDB_s1050 : FDB B N s1050 := FDB_fm Fs1050 (by decide) JFDB_s1039
              have b1052 := bi_77 Is1050
              have ws1050_75 : iI s1050 75 = iI s1039 75 := fm_iq Fs1050 rfl
              have ws1050_79 : iI s1050 79 = iI s1039 79 := fm_iq Fs1050 rfl
              have ws1050_78 : iI s1050 78 = iI s1039 78 := fm_iq Fs1050 rfl
              show WS k 86 [(1, .int (Int32.ofInt y1049)), (3, .int (Int32.ofInt e1040)), (2, .int (Int32.ofInt e1036)), (0, .ref (A 179))] [] (Wd A dT s1050) 0 0
              refine z_goto X (t := 9) rfl rfl (WS_pq [3, 0] (lv' := [(0, .ref (A 179)), (1, .int (Int32.ofInt y1049))]) rfl ?_)
              exact ih _ y1049 Is1050 Gs1050 JFDB_s1050 ⟨by rw [hps1050.1]; exact sk_sk, prm_mv (prms_up hq.2 (by first | exact g1006 | (clear hps1050 hps1039 hps1035 hps1031 g1010 hps1008 p2; omega) | (clear hps1039 hps1035 hps1031 g1010 hps1008 p2; omega) | omega) hcd (by rw [show iI s1038 77 = iI t 77 + 1 by first | exact vs1038 | (clear hps1050 hps1039 hps1035 hps1031 g1010 hps1008 p2; omega) | (clear hps1039 hps1035 hps1031 g1010 hps1008 p2; omega) | omega, hq.1]) (by first | exact oq_e5e5d3d6 ws1038_79 g1006 | (clear hps1050 hps1039 hps1035 hps1031 g1010 hps1008 p2; omega) | (clear hps1039 hps1035 hps1031 g1010 hps1008 p2; omega) | omega) (by first | exact oq_1aa5be9e ws1038_78 hi.1 | (clear hps1050 hps1039 hps1035 hps1031 g1010 hps1008 p2; omega) | (clear hps1039 hps1035 hps1031 g1010 hps1008 p2; omega) | omega) hps1039.2.2.2.2.2) (by rw [hps1050.1]; exact sk_sk) (by first | exact ws1050_79 | (clear hps1050 hps1039 hps1035 hps1031 g1010 hps1008 p2; omega) | (clear hps1039 hps1035 hps1031 g1010 hps1008 p2; omega) | omega)⟩ (by first | exact ⟨oq_45b593e3 ws1050_78 hi.1 hps1039.1 ws1038_78, oq_93076f9e hps1050.2.1 hps1039.2.1 vs1038 hi.2.1, oq_2b5aa823 g1044 hps1035 g1033 hps1031, oq_817ab47d g1044 hps1035 g1033 hps1031, oq_f9ebf227 g1044 hps1035 g1033 hps1031, oq_45b593e3 ws1050_75 hi.2.2.2.2.2.1 ws1039_75 ws1038_75, hy1049.1, hy1049.2⟩ | omega) (by first | exact qk_me hm (oq_aae77179 ws1050_75 hps1050.2.1 ws1039_75 hps1039.2.1 ws1038_75 vs1038) (oq_a5ea012a g1044 hps1035 g1033 hps1031) | omega) kx
  refine z_aload_n X (x := A 179) rfl (List.Mem.head _) (z_callV X 179 (rm := (rkR (3 * (r) + 1))) (As := []) (st := []) rfl rfl (by decide) rfl (by rw [E.1, E.2.1, E.2.2.1]; exact hU I jFDB (by first | exact p0 | omega) (by first | exact p1 | omega) (by first | exact p2 | omega)) ⟨by rw [E.2.2.2]; exact (show (12 + (3 * (r) + 1)) + 1 ≤ (12 + (3 * (r) + 2)) from oq_2a2b55d9 r), by rw [E.2.2.2]; exact (show 8 + (4 + 11) + (500 + 45 * (3 * (r) + 1)) ≤ (500 + 45 * (3 * (r) + 2)) from oq_6b10c96c r), by rw [E.2.2.2]; exact Nat.le_refl 0, by rw [E.2.2.2]; exact Nat.le_refl 0⟩ (Nat.le_of_ble_eq_true rfl) (fun vv s5 hq => ?_) (fun ee s5 hq => ?_))
  rotate_left
  · obtain ⟨Is5, Fs5, JFDB_s5, e6, hv, hrs5, hps5⟩ := hq; cases hv
  obtain ⟨Is5, Fs5, JFDB_s5, e6, hv, hrs5, hps5⟩ := hq
  have hps5p := And.intro hps5.1 (And.intro hps5.2.1 (hps5.2.2.2.2.2))
  cases hv
  have Gs5 := fm_tq F Fs5 rfl rfl
  have JFDB_s5 : FDB B N s5 := FDB_fm Fs5 (by decide) jFDB
  have b7 := bi_77 Is5
  have ws5_75 : iI s5 75 = iI s 75 := fm_iq Fs5 rfl
  have b8 := bi_79 Is5
  have b9 := bi_78 Is5
  show WS k 4 [(0, .ref (A 179))] [.int (Int32.ofInt e6)] (Wd A dT s5) 0 0
  refine z_store_n X (lv' := [(1, .int (Int32.ofInt e6)), (0, .ref (A 179))]) rfl (by decide) (fun _ h => h) (z_aload_n X (x := A 179) rfl (List.Mem.tail _ (List.Mem.head _)) (z_callV X 179 (rm := rmN 193) (As := []) (st := []) rfl rfl (by decide) rfl (by rw [E.1, E.2.1, E.2.2.1]; exact k_blanks2 G Is5 JFDB_s5 (by first | exact oq_299765ef hps5.2.2.1 p0 | omega)) ⟨by rw [E.2.2.2]; exact (show 7 + 1 ≤ (12 + (3 * (r) + 2)) from oq_eb6f61dd r), by rw [E.2.2.2]; exact (show 8 + (1 + 11) + 121 ≤ (500 + 45 * (3 * (r) + 2)) from oq_fbd0a6ff r), by rw [E.2.2.2]; exact Nat.le_refl 0, by rw [E.2.2.2]; exact Nat.le_refl 0⟩ (Nat.le_of_ble_eq_true rfl) (fun vv s10 hq => ?_) (fun ee s10 hq => ?_)))
  rotate_left
  · obtain ⟨Is10, Fs10, JFDB_s10, hv, hps10⟩ := hq; cases hv
  obtain ⟨Is10, Fs10, JFDB_s10, hv, hps10⟩ := hq
  have hps10p := And.intro hps10.1 (hps10.2.1)
  cases hv
  have Gs10 := fm_tq Gs5 Fs10 rfl rfl
  have JFDB_s10 : FDB B N s10 := FDB_fm Fs10 (by decide) JFDB_s5
  have b12 := bi_77 Is10
  have ws10_75 : iI s10 75 = iI s5 75 := fm_iq Fs10 rfl
  have ws10_79 : iI s10 79 = iI s5 79 := fm_iq Fs10 rfl
  have ws10_78 : iI s10 78 = iI s5 78 := fm_iq Fs10 rfl
  show WS k 9 [(1, .int (Int32.ofInt e6)), (0, .ref (A 179))] [] (Wd A dT s10) 0 0
  refine WS_pq [1, 0] (lv' := [(0, .ref (A 179)), (1, .int (Int32.ofInt e6))]) rfl (L9 ((iI s10 75 - iI s10 77 : Int).toNat + 1) s10 e6 Is10 Gs10 JFDB_s10 ⟨by rw [hps10.1]; exact sk_sk, prm_mv (prms_0 hps5.2.2.2.2.2) (by rw [hps10.1]; exact sk_sk) (by first | exact ws10_79 | (clear hps10 hps5 p2; omega) | (clear hps5 p2; omega) | omega)⟩ (by first | exact And.intro (oq_1aa5be9e ws10_78 hps5p.1) (And.intro (oq_f8a2cf0e hps10p.2 hps5p.2.1) (And.intro (oq_c3ae77b9 hps10.2.2 hps5.2.2.1 b2.2 hN p0) (And.intro (oq_288de3fc ws10_79 hps5.2.2.2.1 b3.1) (And.intro (oq_66bfb5eb ws10_79 hps10.2.2 hps5.2.2.2.2.1 hN) (And.intro (oq_1aa5be9e ws10_75 ws5_75) (And.intro (hrs5.1) (hrs5.2))))))) | (clear hps10 hps5 p2; omega) | (clear hps5 p2; omega) | omega) (Nat.lt_succ_self _) ?_)
  intro s13 x14 Is13 Fs13 JFDB_s13 Qs13 hs13
  have b15 := bi_77 Is13
  have b16 := bi_75 Is13
  have b17 := bi_79 Is13
  have b18 := bi_78 Is13
  have hNs13 := JFDB_s13.2.1
  have hWs13 := JFDB_s13.2.2
  refine z_load_n X (x := x14) rfl (List.Mem.tail _ (List.Mem.head _)) ?_
  exact w_iret X.1 q hRt rfl (ax_d X (show cdA 209 90 = some (.ireturn, 1, 0, 0, 0) from rfl)) (Nat.zero_le _) (Nat.zero_le _) ⟨_, rfl, Is13, Fs13, JFDB_s13, x14, rfl, ⟨by first | exact hs13.2.2.2.2.2.2.1 | omega, by first | exact hs13.2.2.2.2.2.2.2 | omega⟩, ⟨by first | exact hs13.1 | omega, by first | exact hs13.2.1 | omega, by first | exact hs13.2.2.1 | omega, by first | exact hs13.2.2.2.1 | omega, by first | exact hs13.2.2.2.2.1 | omega, Qs13⟩⟩
theorem k_sumr3 (G : GX l s0 D tys a0 dT) {B : Nat → Int} {N : Int} (r : Nat) : (∀ {s : PS}, Bd s → FDB B N s → (iI s 77 ≤ 203) → (iI s 78 + ((r : Nat) : Int) = 7) → (iI s 78 = 7 → iI s 79 ≠ 0) → CT l s0 D A dT 207 (rkR (3 * (r))) [.ref (A 179)] s (fun o t => Bd t ∧ Fm [77, 79, 80, 78] [] s t ∧ FDB B N t ∧ ∃ e, o = .inl (some (.int (Int32.ofInt e))) ∧ rng e ∧ (iI t 78 = iI s 78 ∧ iI s 77 ≤ iI t 77 ∧ (iI t 77 = iI s 77 ∨ iI t 77 ≤ 202) ∧ (iI s 79 ≠ 0 → iI t 79 ≠ 0) ∧ (iI t 79 = 0 → iI t 77 ≤ iI s 75) ∧ PFm B N 0 s t))) ∧ (∀ {s : PS}, Bd s → FDB B N s → (iI s 77 ≤ 203) → (iI s 78 + ((r : Nat) : Int) = 7) → (iI s 78 = 7 → iI s 79 ≠ 0) → CT l s0 D A dT 208 (rkR (3 * (r) + 1)) [.ref (A 179)] s (fun o t => Bd t ∧ Fm [77, 79, 80, 78] [] s t ∧ FDB B N t ∧ ∃ e, o = .inl (some (.int (Int32.ofInt e))) ∧ rng e ∧ (iI t 78 = iI s 78 ∧ iI s 77 ≤ iI t 77 ∧ (iI t 77 = iI s 77 ∨ iI t 77 ≤ 202) ∧ (iI s 79 ≠ 0 → iI t 79 ≠ 0) ∧ (iI t 79 = 0 → iI t 77 ≤ iI s 75) ∧ PFm B N 1 s t))) ∧ (∀ {s : PS}, Bd s → FDB B N s → (iI s 77 ≤ 203) → (iI s 78 + ((r : Nat) : Int) = 7) → (iI s 78 = 7 → iI s 79 ≠ 0) → CT l s0 D A dT 209 (rkR (3 * (r) + 2)) [.ref (A 179)] s (fun o t => Bd t ∧ Fm [77, 79, 80, 78] [] s t ∧ FDB B N t ∧ ∃ e, o = .inl (some (.int (Int32.ofInt e))) ∧ rng e ∧ (iI t 78 = iI s 78 ∧ iI s 77 ≤ iI t 77 ∧ (iI t 77 = iI s 77 ∨ iI t 77 ≤ 202) ∧ (iI s 79 ≠ 0 → iI t 79 ≠ 0) ∧ (iI t 79 = 0 → iI t 77 ≤ iI s 75) ∧ PFm B N 3 s t))) := by
  induction r with
  | zero =>
    have hU : ∀ {s : PS}, Bd s → FDB B N s → (iI s 77 ≤ 203) → (iI s 78 + ((0 : Nat) : Int) = 7) → (iI s 78 = 7 → iI s 79 ≠ 0) → CT l s0 D A dT 207 (rkR (3 * (0))) [.ref (A 179)] s (fun o t => Bd t ∧ Fm [77, 79, 80, 78] [] s t ∧ FDB B N t ∧ ∃ e, o = .inl (some (.int (Int32.ofInt e))) ∧ rng e ∧ (iI t 78 = iI s 78 ∧ iI s 77 ≤ iI t 77 ∧ (iI t 77 = iI s 77 ∨ iI t 77 ≤ 202) ∧ (iI s 79 ≠ 0 → iI t 79 ≠ 0) ∧ (iI t 79 = 0 → iI t 77 ≤ iI s 75) ∧ PFm B N 0 s t)) := fun {_} I j p0 p1 p2 => k_unit03 G I j p0 p1 p2
    have hP : ∀ {s : PS}, Bd s → FDB B N s → (iI s 77 ≤ 203) → (iI s 78 + ((0 : Nat) : Int) = 7) → (iI s 78 = 7 → iI s 79 ≠ 0) → CT l s0 D A dT 208 (rkR (3 * (0) + 1)) [.ref (A 179)] s (fun o t => Bd t ∧ Fm [77, 79, 80, 78] [] s t ∧ FDB B N t ∧ ∃ e, o = .inl (some (.int (Int32.ofInt e))) ∧ rng e ∧ (iI t 78 = iI s 78 ∧ iI s 77 ≤ iI t 77 ∧ (iI t 77 = iI s 77 ∨ iI t 77 ≤ 202) ∧ (iI s 79 ≠ 0 → iI t 79 ≠ 0) ∧ (iI t 79 = 0 → iI t 77 ≤ iI s 75) ∧ PFm B N 1 s t)) := fun {_} I j p0 p1 p2 => k_productS3 (r := 0) G hU I j p0 p1 p2
    exact ⟨hU, hP, fun {_} I j p0 p1 p2 => k_sumS3 (r := 0) G hP I j p0 p1 p2⟩
  | succ r ih =>
    have hU : ∀ {s : PS}, Bd s → FDB B N s → (iI s 77 ≤ 203) → (iI s 78 + ((r + 1 : Nat) : Int) = 7) → (iI s 78 = 7 → iI s 79 ≠ 0) → CT l s0 D A dT 207 (rkR (3 * (r + 1))) [.ref (A 179)] s (fun o t => Bd t ∧ Fm [77, 79, 80, 78] [] s t ∧ FDB B N t ∧ ∃ e, o = .inl (some (.int (Int32.ofInt e))) ∧ rng e ∧ (iI t 78 = iI s 78 ∧ iI s 77 ≤ iI t 77 ∧ (iI t 77 = iI s 77 ∨ iI t 77 ≤ 202) ∧ (iI s 79 ≠ 0 → iI t 79 ≠ 0) ∧ (iI t 79 = 0 → iI t 77 ≤ iI s 75) ∧ PFm B N 0 s t)) := fun {_} I j p0 p1 p2 => k_unitS3 G ih.2.2 I j p0 p1 p2
    have hP : ∀ {s : PS}, Bd s → FDB B N s → (iI s 77 ≤ 203) → (iI s 78 + ((r + 1 : Nat) : Int) = 7) → (iI s 78 = 7 → iI s 79 ≠ 0) → CT l s0 D A dT 208 (rkR (3 * (r + 1) + 1)) [.ref (A 179)] s (fun o t => Bd t ∧ Fm [77, 79, 80, 78] [] s t ∧ FDB B N t ∧ ∃ e, o = .inl (some (.int (Int32.ofInt e))) ∧ rng e ∧ (iI t 78 = iI s 78 ∧ iI s 77 ≤ iI t 77 ∧ (iI t 77 = iI s 77 ∨ iI t 77 ≤ 202) ∧ (iI s 79 ≠ 0 → iI t 79 ≠ 0) ∧ (iI t 79 = 0 → iI t 77 ≤ iI s 75) ∧ PFm B N 1 s t)) := fun {_} I j p0 p1 p2 => k_productS3 (r := r + 1) G hU I j p0 p1 p2
    exact ⟨hU, hP, fun {_} I j p0 p1 p2 => k_sumS3 (r := r + 1) G hP I j p0 p1 p2⟩
set_option maxRecDepth 4000 in
theorem k_test03 (G : GX l s0 D tys a0 dT) {B : Nat → Int} {N : Int} (I : Bd s) (jFDB : FDB B N s) (p0 : iI s 77 ≤ 203) (p1 : iI s 78 + ((0 : Nat) : Int) = 7) (p2 : iI s 78 = 7 → iI s 79 ≠ 0) (p3 : iI s 79 = 0 → iI s 77 ≤ 202) : CT l s0 D A dT 210 (rkR (24 + 3 * (0))) [.ref (A 179)] s (fun o t => Bd t ∧ Fm [77, 79, 80, 78] [] s t ∧ FDB B N t ∧ ∃ e, o = .inl (some (.int (Int32.ofInt e))) ∧ rng e ∧ (iI t 78 = iI s 78 ∧ iI s 77 ≤ iI t 77 ∧ (iI t 77 = iI s 77 ∨ iI t 77 ≤ 203) ∧ (iI s 79 ≠ 0 → iI t 79 ≠ 0) ∧ (iI t 79 = 0 → iI t 77 ≤ iI s 75) ∧ (iI s 79 = 0 → iI s 77 < iI t 77) ∧ (e = 0 ∨ e = 1) ∧ PFm B N 5 s t)) := by
  refine ct_of G (by decide) (Nat.le_of_ble_eq_true rfl) (fun k X E hRt hXt q => ?_)
  show WS k 0 [(0, .ref (A 179))] [] _ 0 0
  have F : Fm [77, 79, 80, 78] [] s s := fm_rf _ _ s
  have hN := jFDB.2.1
  have hW := jFDB.2.2
  have b1 := bi_77 I
  have b2 := bi_75 I
  have b3 := bi_79 I
  have b4 := bi_78 I
  refine z_aload_n X (x := A 179) rfl (List.Mem.head _) (z_getI X 179 rfl (c518_ok rfl) rfl rfl ?_)
  have b5 := bi_79 I
  refine z_if_eq X (t := 9) rfl rfl (rng_to _) (fun g6 => ?_) (fun g6 => ?_)
  ·
    exfalso
    omega
  ·
    refine z_const X rfl ?_
    exact w_iret X.1 q hRt (nar_ret (by first | exact Or.inl (by decide) | omega)) (ax_d X (show cdA 210 8 = some (.ireturn, 1, 0, 0, 0) from rfl)) (Nat.zero_le _) (Nat.zero_le _) ⟨_, rfl, I, F, jFDB, 0, rfl, (by decide), ⟨by first | exact rfl | (clear g6 p3 p2; omega) | (clear p3 p2; omega) | omega, by first | exact oq_15ec32ab | (clear g6 p3 p2; omega) | (clear p3 p2; omega) | omega, by first | exact Or.inl (by decide) | exact Or.inl (rfl) | omega, by first | exact oq_4bed1c3e g6 b5.1 | omega, by first | exact oq_6a3c9b31 g6 b5.1 | omega, by first | exact oq_a49e6adf g6 b5.1 | omega, by first | exact Or.inl (by decide) | omega, Or.inl ⟨by first | exact g6 | (clear g6 p3 p2; omega) | (clear p3 p2; omega) | omega, by first | exact rfl | (clear g6 p3 p2; omega) | (clear p3 p2; omega) | omega⟩⟩⟩
set_option maxRecDepth 4000 in
theorem k_testS3 (G : GX l s0 D tys a0 dT) {B : Nat → Int} {N : Int} {r : Nat} (hT : ∀ {s : PS}, Bd s → FDB B N s → (iI s 77 ≤ 203) → (iI s 78 + ((r : Nat) : Int) = 7) → (iI s 78 = 7 → iI s 79 ≠ 0) → (iI s 79 = 0 → iI s 77 ≤ 202) → CT l s0 D A dT 210 (rkR (24 + 3 * (r))) [.ref (A 179)] s (fun o t => Bd t ∧ Fm [77, 79, 80, 78] [] s t ∧ FDB B N t ∧ ∃ e, o = .inl (some (.int (Int32.ofInt e))) ∧ rng e ∧ (iI t 78 = iI s 78 ∧ iI s 77 ≤ iI t 77 ∧ (iI t 77 = iI s 77 ∨ iI t 77 ≤ 203) ∧ (iI s 79 ≠ 0 → iI t 79 ≠ 0) ∧ (iI t 79 = 0 → iI t 77 ≤ iI s 75) ∧ (iI s 79 = 0 → iI s 77 < iI t 77) ∧ (e = 0 ∨ e = 1) ∧ PFm B N 5 s t))) (hO : ∀ {s : PS}, Bd s → FDB B N s → (iI s 77 ≤ 203) → (iI s 78 + ((r : Nat) : Int) = 7) → (iI s 78 = 7 → iI s 79 ≠ 0) → (iI s 79 = 0 → iI s 77 ≤ 202) → CT l s0 D A dT 212 (rkR (24 + 3 * (r) + 2)) [.ref (A 179)] s (fun o t => Bd t ∧ Fm [77, 79, 80, 78] [] s t ∧ FDB B N t ∧ ∃ e, o = .inl (some (.int (Int32.ofInt e))) ∧ rng e ∧ (iI t 78 = iI s 78 ∧ iI s 77 ≤ iI t 77 ∧ (iI t 77 = iI s 77 ∨ iI t 77 ≤ 203) ∧ (iI s 79 ≠ 0 → iI t 79 ≠ 0) ∧ (iI t 79 = 0 → iI t 77 ≤ iI s 75) ∧ (iI s 79 = 0 → iI s 77 < iI t 77) ∧ (e = 0 ∨ e = 1) ∧ PFm B N 8 s t))) (I : Bd s) (jFDB : FDB B N s) (p0 : iI s 77 ≤ 203) (p1 : iI s 78 + ((r + 1 : Nat) : Int) = 7) (p2 : iI s 78 = 7 → iI s 79 ≠ 0) (p3 : iI s 79 = 0 → iI s 77 ≤ 202) : CT l s0 D A dT 210 (rkR (24 + 3 * (r + 1))) [.ref (A 179)] s (fun o t => Bd t ∧ Fm [77, 79, 80, 78] [] s t ∧ FDB B N t ∧ ∃ e, o = .inl (some (.int (Int32.ofInt e))) ∧ rng e ∧ (iI t 78 = iI s 78 ∧ iI s 77 ≤ iI t 77 ∧ (iI t 77 = iI s 77 ∨ iI t 77 ≤ 203) ∧ (iI s 79 ≠ 0 → iI t 79 ≠ 0) ∧ (iI t 79 = 0 → iI t 77 ≤ iI s 75) ∧ (iI s 79 = 0 → iI s 77 < iI t 77) ∧ (e = 0 ∨ e = 1) ∧ PFm B N 5 s t)) := by
  refine ct_of G (by decide) (Nat.le_of_ble_eq_true rfl) (fun k X E hRt hXt q => ?_)
  show WS k 0 [(0, .ref (A 179))] [] _ 0 0
  have F : Fm [77, 79, 80, 78] [] s s := fm_rf _ _ s
  have hN := jFDB.2.1
  have hW := jFDB.2.2
  have b1 := bi_77 I
  have b2 := bi_75 I
  have b3 := bi_79 I
  have b4 := bi_78 I
  have L159 : ∀ (t : PS) (av cv bv : Int), Bd t → Fm [77, 79, 80, 78] [] s t → FDB B N t → (OUm B N 5 (sk B N (iI s 77)) (iI s 78) t) → (iI t 78 = iI s 78 ∧ iI s 77 ≤ iI t 77 ∧ (iI t 77 = iI s 77 ∨ iI t 77 ≤ 203) ∧ (iI s 79 ≠ 0 → iI t 79 ≠ 0) ∧ (iI t 79 = 0 → iI t 77 ≤ iI s 75) ∧ (iI s 79 = 0 → iI s 77 < iI t 77) ∧ iI s 79 = 0 ∧ rng av ∧ rng cv ∧ rng bv) → WS k 159 [(0, .ref (A 179)), (1, .int (Int32.ofInt av)), (2, .int (Int32.ofInt cv)), (3, .int (Int32.ofInt bv))] [] (Wd A dT t) 0 0 := by
    intro t av cv bv I F jjFDB hq hi
    have b1001 := bi_77 I
    have b1002 := bi_75 I
    have b1003 := bi_79 I
    have b1004 := bi_78 I
    have hN := jjFDB.2.1
    have hW := jjFDB.2.2
    refine z_load_n X (x := cv) rfl (List.Mem.tail _ (List.Mem.tail _ (List.Mem.head _))) (z_bipush X rfl ?_)
    have N1005 : ∀ e1006 : Int, (((cv ≠ 60) ∧ (cv ≠ 62) ∧ (av ≠ bv) ∧ e1006 = 0) ∨ ((cv ≠ 60) ∧ (cv ≠ 62) ∧ (av = bv) ∧ e1006 = 1) ∨ ((cv ≠ 60) ∧ (cv = 62) ∧ (av ≤ bv) ∧ e1006 = 0) ∨ ((cv ≠ 60) ∧ (cv = 62) ∧ (bv < av) ∧ e1006 = 1) ∨ ((cv = 60) ∧ (bv ≤ av) ∧ e1006 = 0) ∨ ((cv = 60) ∧ (av < bv) ∧ e1006 = 1)) → WS k 207 [(0, .ref (A 179)), (1, .int (Int32.ofInt av)), (2, .int (Int32.ofInt cv)), (3, .int (Int32.ofInt bv))] [.int (Int32.ofInt e1006)] (Wd A dT t) 0 0 := by
      intro e1006 he1006
      have re1006 : 0 ≤ e1006 ∧ e1006 ≤ 1 := by first | exact And.intro (oq_71dea3bf he1006) (oq_709cdbad he1006) | (clear he1006 p3 p2; omega) | (clear p3 p2; omega) | omega
      exact w_iret X.1 q hRt (nar_ret (by first | exact oq_31e518ae re1006.2 re1006.1 | omega)) (ax_d X (show cdA 210 207 = some (.ireturn, 1, 0, 0, 0) from rfl)) (Nat.zero_le _) (Nat.zero_le _) ⟨_, rfl, I, F, jjFDB, e1006, rfl, ⟨by first | exact oq_fa4e5087 re1006.1 | omega, by first | exact oq_22e1e6b0 re1006.2 | omega⟩, ⟨hi.1, hi.2.1, hi.2.2.1, hi.2.2.2.1, hi.2.2.2.2.1, hi.2.2.2.2.2.1, by first | exact oq_31e518ae re1006.2 re1006.1 | omega, Or.inr ⟨by first | exact hi.2.2.2.2.2.2.1 | (clear he1006 p3 p2; omega) | (clear p3 p2; omega) | omega, hq⟩⟩⟩
    refine z_icmp_ne X (t := 178) rfl rfl ⟨by first | exact hi.2.2.2.2.2.2.2.2.1.1 | omega, by first | exact hi.2.2.2.2.2.2.2.2.1.2 | omega⟩ (by decide) (fun g1007 => ?_) (fun g1007 => ?_)
    ·
      refine z_load_n X (x := cv) rfl (List.Mem.tail _ (List.Mem.tail _ (List.Mem.head _))) (z_bipush X rfl (z_icmp_ne X (t := 197) rfl rfl ⟨by first | exact hi.2.2.2.2.2.2.2.2.1.1 | omega, by first | exact hi.2.2.2.2.2.2.2.2.1.2 | omega⟩ (by decide) (fun g1008 => ?_) (fun g1008 => ?_)))
      ·
        refine z_load_n X (x := av) rfl (List.Mem.tail _ (List.Mem.head _)) (z_load_n X (x := bv) rfl (List.Mem.tail _ (List.Mem.tail _ (List.Mem.tail _ (List.Mem.head _)))) (z_icmp_ne X (t := 206) rfl rfl ⟨by first | exact hi.2.2.2.2.2.2.2.1.1 | omega, by first | exact hi.2.2.2.2.2.2.2.1.2 | omega⟩ ⟨by first | exact hi.2.2.2.2.2.2.2.2.2.1 | omega, by first | exact hi.2.2.2.2.2.2.2.2.2.2 | omega⟩ (fun g1009 => ?_) (fun g1009 => ?_)))
        ·
          exact z_const X rfl (N1005 _ (Or.inl ⟨g1007, g1008, g1009, rfl⟩))
        ·
          exact z_const X rfl (z_goto X (t := 207) rfl rfl (N1005 _ (Or.inr (Or.inl ⟨g1007, g1008, g1009, rfl⟩))))
      ·
        refine z_load_n X (x := av) rfl (List.Mem.tail _ (List.Mem.head _)) (z_load_n X (x := bv) rfl (List.Mem.tail _ (List.Mem.tail _ (List.Mem.tail _ (List.Mem.head _)))) (z_icmp_le X (t := 193) rfl rfl ⟨by first | exact hi.2.2.2.2.2.2.2.1.1 | omega, by first | exact hi.2.2.2.2.2.2.2.1.2 | omega⟩ ⟨by first | exact hi.2.2.2.2.2.2.2.2.2.1 | omega, by first | exact hi.2.2.2.2.2.2.2.2.2.2 | omega⟩ (fun g1010 => ?_) (fun g1010 => ?_)))
        ·
          exact z_const X rfl (z_goto X (t := 207) rfl rfl (N1005 _ (Or.inr (Or.inr (Or.inl ⟨g1007, g1008, g1010, rfl⟩)))))
        ·
          exact z_const X rfl (z_goto X (t := 207) rfl rfl (N1005 _ (Or.inr (Or.inr (Or.inr (Or.inl ⟨g1007, g1008, g1010, rfl⟩))))))
    ·
      refine z_load_n X (x := av) rfl (List.Mem.tail _ (List.Mem.head _)) (z_load_n X (x := bv) rfl (List.Mem.tail _ (List.Mem.tail _ (List.Mem.tail _ (List.Mem.head _)))) (z_icmp_ge X (t := 174) rfl rfl ⟨by first | exact hi.2.2.2.2.2.2.2.1.1 | omega, by first | exact hi.2.2.2.2.2.2.2.1.2 | omega⟩ ⟨by first | exact hi.2.2.2.2.2.2.2.2.2.1 | omega, by first | exact hi.2.2.2.2.2.2.2.2.2.2 | omega⟩ (fun g1011 => ?_) (fun g1011 => ?_)))
      ·
        exact z_const X rfl (z_goto X (t := 207) rfl rfl (N1005 _ (Or.inr (Or.inr (Or.inr (Or.inr (Or.inl ⟨g1007, g1011, rfl⟩)))))))
      ·
        exact z_const X rfl (z_goto X (t := 207) rfl rfl (N1005 _ (Or.inr (Or.inr (Or.inr (Or.inr (Or.inr (⟨g1007, g1011, rfl⟩))))))))
  have L144 : ∀ (t : PS) (av cv : Int), Bd t → Fm [77, 79, 80, 78] [] s t → FDB B N t → (∀ c d : PS, iI c 77 = iI t 77 + 1 → iI c 79 = iI t 79 → iI c 78 = iI t 78 → PFm B N 3 c d → OUm B N 5 (sk B N (iI s 77)) (iI s 78) d) → (iI s 79 = 0 ∧ iI t 78 = iI s 78 ∧ iI s 77 ≤ iI t 77 ∧ iI t 77 ≤ 202 ∧ rng av ∧ rng cv) → WS k 144 [(0, .ref (A 179)), (1, .int (Int32.ofInt av)), (2, .int (Int32.ofInt cv))] [] (Wd A dT t) 0 0 := by
    intro t av cv I F jjFDB hq hi
    have b2001 := bi_77 I
    have b2002 := bi_75 I
    have b2003 := bi_79 I
    have b2004 := bi_78 I
    have hN := jjFDB.2.1
    have hW := jjFDB.2.2
    refine z_aload_n X (x := A 179) rfl (List.Mem.head _) (w_dup X.1 (ax_d X (show cdA 210 145 = some (.dup, 1, 0, 0, 0) from rfl)) rfl (z_getI X 179 rfl (c518_ok rfl) rfl rfl ?_))
    have b2005 := bi_77 I
    refine z_const X rfl (z_add X rfl (s_putI X 179 rfl (c518_ok rfl) rfl rfl (by decide) rfl rfl rfl (wd_gen (fun s2006 hs2006 => ?_))))
    have Is2006 : Bd s2006 := eqB hs2006 (bd_I I (show (0 : Int) ≤ ((iI t 77) + 1) ∧ ((iI t 77) + 1) ≤ 400 by first | exact ⟨oq_54f49eb5 b2005.1, oq_030aea91 hi.2.2.2.1⟩ | omega) ⟨by first | exact oq_74de1e16 b2005.1 | omega, by first | exact oq_964ce197 b2005.2 | omega⟩)
    have Fs2006 := eqF hs2006 (fm_I F (inl_ok (a := 77) rfl))
    have vs2006 : iI s2006 77 = ((iI t 77) + 1) := eqI hs2006 (iI_u ⟨by first | exact oq_74de1e16 b2005.1 | omega, by first | exact oq_964ce197 b2005.2 | omega⟩)
    have ws2006_75 : iI s2006 75 = iI t 75 := eqI hs2006 rfl
    have ws2006_79 : iI s2006 79 = iI t 79 := eqI hs2006 rfl
    have ws2006_78 : iI s2006 78 = iI t 78 := eqI hs2006 rfl
    have fs2006 : Fm [77] [] t s2006 := by rw [hs2006]; exact fm_I (fm_rf _ _ _) (show 77 ∈ _ by decide)
    have JFDB_s2006 : FDB B N s2006 := FDB_fm fs2006 (by decide) jjFDB
    refine z_aload_n X (x := A 179) rfl (List.Mem.head _) (z_callV X 179 (rm := (rkR (3 * (r + 1) + 2))) (As := []) (st := []) rfl rfl (by decide) rfl (by rw [E.1, E.2.1, E.2.2.1]; exact (k_sumr3 G (B := B) (N := N) (r + 1)).2.2 Is2006 JFDB_s2006 (by first | exact oq_eb11e9a5 vs2006 hi.2.2.2.1 | omega) (by first | exact oq_82f073b0 ws2006_78 p1 hi.2.1 | omega) (by first | exact oq_59527f56 ws2006_78 hi.2.1 hi.1 p2 | omega)) ⟨by rw [E.2.2.2]; exact (show (12 + (3 * (r + 1) + 2)) + 1 ≤ (12 + (24 + 3 * (r + 1))) from oq_78548c36 r), by rw [E.2.2.2]; exact (show 8 + (4 + 11) + (500 + 45 * (3 * (r + 1) + 2)) ≤ (500 + 45 * (24 + 3 * (r + 1))) from oq_7957a5e4 r), by rw [E.2.2.2]; exact Nat.le_refl 0, by rw [E.2.2.2]; exact Nat.le_refl 0⟩ (Nat.le_of_ble_eq_true rfl) (fun vv s2007 hq => ?_) (fun ee s2007 hq => ?_))
    rotate_left
    · obtain ⟨Is2007, Fs2007, JFDB_s2007, e2008, hv, hrs2007, hps2007⟩ := hq; cases hv
    obtain ⟨Is2007, Fs2007, JFDB_s2007, e2008, hv, hrs2007, hps2007⟩ := hq
    cases hv
    have Gs2007 := fm_tq Fs2006 Fs2007 rfl rfl
    have JFDB_s2007 : FDB B N s2007 := FDB_fm Fs2007 (by decide) JFDB_s2006
    have b2009 := bi_77 Is2007
    have ws2007_75 : iI s2007 75 = iI s2006 75 := fm_iq Fs2007 rfl
    have b2010 := bi_79 Is2007
    have b2011 := bi_78 Is2007
    show WS k 158 [(0, .ref (A 179)), (1, .int (Int32.ofInt av)), (2, .int (Int32.ofInt cv))] [.int (Int32.ofInt e2008)] (Wd A dT s2007) 0 0
    refine z_store_n X (lv' := [(3, .int (Int32.ofInt e2008)), (0, .ref (A 179)), (1, .int (Int32.ofInt av)), (2, .int (Int32.ofInt cv))]) rfl (by decide) (fun _ h => h) (WS_pq [1, 2, 3, 0] (lv' := [(0, .ref (A 179)), (1, .int (Int32.ofInt av)), (2, .int (Int32.ofInt cv)), (3, .int (Int32.ofInt e2008))]) rfl ?_)
    exact L159 _ av cv e2008 Is2007 Gs2007 JFDB_s2007 (hq _ _ (by first | exact vs2006 | (clear hps2007 p3 p2; omega) | (clear p3 p2; omega) | omega) (by first | exact ws2006_79 | (clear hps2007 p3 p2; omega) | (clear p3 p2; omega) | omega) (by first | exact ws2006_78 | (clear hps2007 p3 p2; omega) | (clear p3 p2; omega) | omega) hps2007.2.2.2.2.2) (by first | (clear hps2007 p3 p2; omega) | (clear p3 p2; omega) | omega)
  refine z_aload_n X (x := A 179) rfl (List.Mem.head _) (z_getI X 179 rfl (c518_ok rfl) rfl rfl ?_)
  have b5 := bi_79 I
  refine z_if_eq X (t := 9) rfl rfl (rng_to _) (fun g6 => ?_) (fun g6 => ?_)
  ·
    refine z_aload_n X (x := A 179) rfl (List.Mem.head _) (z_callV X 179 (rm := rmN 201) (As := []) (st := []) rfl rfl (by decide) rfl (by rw [E.1, E.2.1, E.2.2.1]; exact k_wordHere3 G I jFDB (by first | exact oq_2ebc9f52 p0 | omega)) ⟨by rw [E.2.2.2]; exact (show 8 + 1 ≤ (12 + (24 + 3 * (r + 1))) from oq_91dbadf4 r), by rw [E.2.2.2]; exact (show 8 + (3 + 11) + 141 ≤ (500 + 45 * (24 + 3 * (r + 1))) from oq_2d8c6e6c r), by rw [E.2.2.2]; exact Nat.le_refl 0, by rw [E.2.2.2]; exact Nat.le_refl 0⟩ (Nat.le_of_ble_eq_true rfl) (fun vv s7 hq => ?_) (fun ee s7 hq => ?_))
    rotate_left
    · obtain ⟨Is7, Fs7, JFDB_s7, e8, hv, hrs7, hps7⟩ := hq; cases hv
    obtain ⟨Is7, Fs7, JFDB_s7, e8, hv, hrs7, hps7⟩ := hq
    have hps7p := And.intro hps7.1 (And.intro hps7.2.1 (hps7.2.2.1))
    cases hv
    have Gs7 := fm_tq F Fs7 rfl rfl
    have JFDB_s7 : FDB B N s7 := FDB_fm Fs7 (by decide) jFDB
    have b9 := bi_77 Is7
    have ws7_75 : iI s7 75 = iI s 75 := fm_iq Fs7 rfl
    have ws7_79 : iI s7 79 = iI s 79 := fm_iq Fs7 rfl
    have ws7_78 : iI s7 78 = iI s 78 := fm_iq Fs7 rfl
    show WS k 13 [(0, .ref (A 179))] [.int (Int32.ofInt e8)] (Wd A dT s7) 0 0
    obtain ⟨pz, hpz⟩ : ∃ q, q = sk B N (iI s 77) := ⟨_, rfl⟩
    have hskp : sk B N pz = pz := by rw [hpz]; exact sk_sk
    have hb : iI s7 77 = pz := by rw [hpz]; exact hps7.1
    have hwv : e8 = whV B N pz := by rw [hps7.2.1, hb]
    refine z_bipush X rfl (z_bipush X rfl (z_bipush X rfl (z_const X rfl (z_const X rfl (z_const X rfl (z_callS X (rm := rmN 202) (As := [.int (Int32.ofInt 14), .int (Int32.ofInt 15), .int (Int32.ofInt 20), .int (Int32.ofInt 0), .int (Int32.ofInt 0), .int (Int32.ofInt 0)]) (st := [.int (Int32.ofInt e8)]) rfl rfl (by rw [E.1, E.2.1, E.2.2.1]; exact k_word3 G Is7 (by first | exact ⟨by decide, by decide⟩ | omega) (by first | exact ⟨by decide, by decide⟩ | omega) (by first | exact ⟨by decide, by decide⟩ | omega) (by first | exact ⟨by decide, by decide⟩ | omega) (by first | exact ⟨by decide, by decide⟩ | omega) (by first | exact ⟨by decide, by decide⟩ | omega)) ⟨by rw [E.2.2.2]; exact (show 6 + 1 ≤ (12 + (24 + 3 * (r + 1))) from oq_51b017a3 r), by rw [E.2.2.2]; exact (show 8 + (7 + 11) + 100 ≤ (500 + 45 * (24 + 3 * (r + 1))) from oq_22dfea8e r), by rw [E.2.2.2]; exact Nat.le_refl 0, by rw [E.2.2.2]; exact Nat.le_refl 0⟩ (Nat.le_of_ble_eq_true rfl) (fun vv s10 hq => ?_) (fun ee s10 hq => ?_)))))))
    rotate_left
    · obtain ⟨rfl, e11, hv, hrs10, hps10⟩ := hq; cases hv
    obtain ⟨rfl, e11, hv, hrs10, hps10⟩ := hq
    cases hv
    show WS k 25 [(0, .ref (A 179))] [.int (Int32.ofInt e11), .int (Int32.ofInt e8)] (Wd A dT s7) 0 0
    have hk12 : e11 = 10631 := by rw [hps10.2]; decide
    refine z_icmp_ne X (t := 58) rfl rfl hrs7 hrs10 (fun g13 => ?_) (fun g13 => ?_)
    ·
      refine z_aload_n X (x := A 179) rfl (List.Mem.head _) (z_aload_n X (x := A 179) rfl (List.Mem.head _) (z_getI X 179 rfl (c518_ok rfl) rfl rfl ?_))
      have b14 := bi_77 Is7
      refine z_callV X 179 (rm := rmN 192) (As := [.int (Int32.ofInt (iI s7 77))]) (st := []) rfl rfl (by decide) rfl (by rw [E.1, E.2.1, E.2.2.1]; exact k_byteAt2 G Is7 JFDB_s7 (by first | exact ⟨b14.1, oq_5a8480eb b14.2⟩ | omega)) ⟨by rw [E.2.2.2]; exact (show 6 + 1 ≤ (12 + (24 + 3 * (r + 1))) from oq_51b017a3 r), by rw [E.2.2.2]; exact (show 8 + (2 + 11) + 100 ≤ (500 + 45 * (24 + 3 * (r + 1))) from oq_e45c9306 r), by rw [E.2.2.2]; exact Nat.le_refl 0, by rw [E.2.2.2]; exact Nat.le_refl 0⟩ (Nat.le_of_ble_eq_true rfl) (fun vv s15 hq => ?_) (fun ee s15 hq => ?_)
      rotate_left
      · obtain ⟨rfl, e16, hv, hrs15, hps15⟩ := hq; cases hv
      obtain ⟨rfl, e16, hv, hrs15, hps15⟩ := hq
      cases hv
      show WS k 66 [(0, .ref (A 179))] [.int (Int32.ofInt e16)] (Wd A dT s7) 0 0
      have hby := hps15
      rw [hb] at hby
      refine z_bipush X rfl (z_icmp_ne X (t := 99) rfl rfl hrs15 (by decide) (fun g17 => ?_) (fun g17 => ?_))
      ·
        have hnc : ¬ chT B N pz 91 := by first | (clear g17 hps15 g13 hps7 p3 p2; omega) | (clear hps15 g13 hps7 p3 p2; omega) | omega
        refine z_aload_n X (x := A 179) rfl (List.Mem.head _) (z_callV X 179 (rm := (rkR (3 * (r + 1) + 2))) (As := []) (st := []) rfl rfl (by decide) rfl (by rw [E.1, E.2.1, E.2.2.1]; exact (k_sumr3 G (B := B) (N := N) (r + 1)).2.2 Is7 JFDB_s7 (by first | exact oq_1884aeba hps7.2.2.2 b2.2 hN p0 | (clear g17 hps15 g13 hps7 p3 p2; omega) | (clear hps15 g13 hps7 p3 p2; omega) | omega) (by first | exact oq_eaa54609 ws7_78 p1 | omega) (by first | exact oq_c953247b ws7_78 g6 p2 | omega)) ⟨by rw [E.2.2.2]; exact (show (12 + (3 * (r + 1) + 2)) + 1 ≤ (12 + (24 + 3 * (r + 1))) from oq_78548c36 r), by rw [E.2.2.2]; exact (show 8 + (4 + 11) + (500 + 45 * (3 * (r + 1) + 2)) ≤ (500 + 45 * (24 + 3 * (r + 1))) from oq_7957a5e4 r), by rw [E.2.2.2]; exact Nat.le_refl 0, by rw [E.2.2.2]; exact Nat.le_refl 0⟩ (Nat.le_of_ble_eq_true rfl) (fun vv s18 hq => ?_) (fun ee s18 hq => ?_))
        rotate_left
        · obtain ⟨Is18, Fs18, JFDB_s18, e19, hv, hrs18, hps18⟩ := hq; cases hv
        obtain ⟨Is18, Fs18, JFDB_s18, e19, hv, hrs18, hps18⟩ := hq
        cases hv
        have Gs18 := fm_tq Gs7 Fs18 rfl rfl
        have JFDB_s18 : FDB B N s18 := FDB_fm Fs18 (by decide) JFDB_s7
        have b20 := bi_77 Is18
        have ws18_75 : iI s18 75 = iI s7 75 := fm_iq Fs18 rfl
        have b21 := bi_79 Is18
        have b22 := bi_78 Is18
        show WS k 103 [(0, .ref (A 179))] [.int (Int32.ofInt e19)] (Wd A dT s18) 0 0
        refine z_store_n X (lv' := [(1, .int (Int32.ofInt e19)), (0, .ref (A 179))]) rfl (by decide) (fun _ h => h) (z_aload_n X (x := A 179) rfl (List.Mem.tail _ (List.Mem.head _)) (z_callV X 179 (rm := rmN 193) (As := []) (st := []) rfl rfl (by decide) rfl (by rw [E.1, E.2.1, E.2.2.1]; exact k_blanks2 G Is18 JFDB_s18 (by first | exact oq_44cf98cc hps18.2.2.1 hps7.2.2.2 b2.2 hN p0 | (clear hps18 g17 hps15 g13 hps7 p3 p2; omega) | (clear g17 hps15 g13 hps7 p3 p2; omega) | omega)) ⟨by rw [E.2.2.2]; exact (show 7 + 1 ≤ (12 + (24 + 3 * (r + 1))) from oq_36eaf53c r), by rw [E.2.2.2]; exact (show 8 + (1 + 11) + 121 ≤ (500 + 45 * (24 + 3 * (r + 1))) from oq_a27e1a18 r), by rw [E.2.2.2]; exact Nat.le_refl 0, by rw [E.2.2.2]; exact Nat.le_refl 0⟩ (Nat.le_of_ble_eq_true rfl) (fun vv s23 hq => ?_) (fun ee s23 hq => ?_)))
        rotate_left
        · obtain ⟨Is23, Fs23, JFDB_s23, hv, hps23⟩ := hq; cases hv
        obtain ⟨Is23, Fs23, JFDB_s23, hv, hps23⟩ := hq
        have hps23p := And.intro hps23.1 (hps23.2.1)
        cases hv
        have Gs23 := fm_tq Gs18 Fs23 rfl rfl
        have JFDB_s23 : FDB B N s23 := FDB_fm Fs23 (by decide) JFDB_s18
        have b25 := bi_77 Is23
        have ws23_75 : iI s23 75 = iI s18 75 := fm_iq Fs23 rfl
        have ws23_79 : iI s23 79 = iI s18 79 := fm_iq Fs23 rfl
        have ws23_78 : iI s23 78 = iI s18 78 := fm_iq Fs23 rfl
        show WS k 108 [(1, .int (Int32.ofInt e19)), (0, .ref (A 179))] [] (Wd A dT s23) 0 0
        refine z_aload_n X (x := A 179) rfl (List.Mem.tail _ (List.Mem.head _)) (z_aload_n X (x := A 179) rfl (List.Mem.tail _ (List.Mem.head _)) (z_getI X 179 rfl (c518_ok rfl) rfl rfl ?_))
        have b26 := bi_77 Is23
        refine z_callV X 179 (rm := rmN 192) (As := [.int (Int32.ofInt (iI s23 77))]) (st := []) rfl rfl (by decide) rfl (by rw [E.1, E.2.1, E.2.2.1]; exact k_byteAt2 G Is23 JFDB_s23 (by first | exact ⟨b26.1, oq_5a8480eb b26.2⟩ | omega)) ⟨by rw [E.2.2.2]; exact (show 6 + 1 ≤ (12 + (24 + 3 * (r + 1))) from oq_51b017a3 r), by rw [E.2.2.2]; exact (show 8 + (2 + 11) + 100 ≤ (500 + 45 * (24 + 3 * (r + 1))) from oq_e45c9306 r), by rw [E.2.2.2]; exact Nat.le_refl 0, by rw [E.2.2.2]; exact Nat.le_refl 0⟩ (Nat.le_of_ble_eq_true rfl) (fun vv s27 hq => ?_) (fun ee s27 hq => ?_)
        rotate_left
        · obtain ⟨rfl, e28, hv, hrs27, hps27⟩ := hq; cases hv
        obtain ⟨rfl, e28, hv, hrs27, hps27⟩ := hq
        cases hv
        show WS k 116 [(1, .int (Int32.ofInt e19)), (0, .ref (A 179))] [.int (Int32.ofInt e28)] (Wd A dT s23) 0 0
        have hby3 := hps27
        refine z_store_n X (lv' := [(2, .int (Int32.ofInt e28)), (1, .int (Int32.ofInt e19)), (0, .ref (A 179))]) rfl (by decide) (fun _ h => h) (z_load_n X (x := e28) rfl (List.Mem.head _) (z_bipush X rfl (z_icmp_eq X (t := 144) rfl rfl hrs27 (by decide) (fun g29 => ?_) (fun g29 => ?_))))
        ·
          refine WS_pq [2, 1, 0] (lv' := [(0, .ref (A 179)), (1, .int (Int32.ofInt e19)), (2, .int (Int32.ofInt e28))]) rfl ?_
          exact L144 _ e19 e28 Is23 Gs23 JFDB_s23 (fun c d h1 h2 h3 h4 => by rw [← hpz]; exact ou_cmpF (s := s7) (a := s18) (b := s23) (c := c) (by first | exact oq_997e57a5 g13 hk12 hwv | (clear hps27 hps23 hps18 g17 hps15 g13 hps7 p3 p2; omega) | (clear hps23 hps18 g17 hps15 g13 hps7 p3 p2; omega) | omega) hnc hps18.2.2.2.2.2 (by first | exact oq_e5e5d3d6 ws7_79 g6 | (clear hps27 hps23 hps18 g17 hps15 g13 hps7 p3 p2; omega) | (clear hps23 hps18 g17 hps15 g13 hps7 p3 p2; omega) | omega) (by rw [show iI s7 77 = pz by first | exact hb | (clear hps27 hps23 hps18 g17 hps15 g13 hps7 p3 p2; omega) | (clear hps23 hps18 g17 hps15 g13 hps7 p3 p2; omega) | omega]; exact hskp) (by first | exact ws7_78 | (clear hps27 hps23 hps18 g17 hps15 g13 hps7 p3 p2; omega) | (clear hps23 hps18 g17 hps15 g13 hps7 p3 p2; omega) | omega) hps23.1 (by first | exact ws23_79 | (clear hps27 hps23 hps18 g17 hps15 g13 hps7 p3 p2; omega) | (clear hps23 hps18 g17 hps15 g13 hps7 p3 p2; omega) | omega) (by first | (clear hps27 hps23 hps18 g17 hps15 g13 hps7 p3 p2; omega) | (clear hps23 hps18 g17 hps15 g13 hps7 p3 p2; omega) | omega) (by first | exact h1 | (clear hps27 hps23 hps18 g17 hps15 g13 hps7 p3 p2; omega) | (clear hps23 hps18 g17 hps15 g13 hps7 p3 p2; omega) | omega) (by first | exact oq_ac0e91e1 h3 ws23_78 hps18.1 ws7_78 | (clear hps27 hps23 hps18 g17 hps15 g13 hps7 p3 p2; omega) | (clear hps23 hps18 g17 hps15 g13 hps7 p3 p2; omega) | omega) h4) (by first | exact ⟨g6, oq_d0d2714e ws23_78 ws7_78 hps18.1, oq_cde5fb8b hps7.2.2.1 hps23.2.1 hps18.2.1, by first | exact oq_d3d55e74 hps23.2.2 hps18.2.2.1 hps7.2.2.2 g6 b2.2 hN p3 | (clear hps27 hps23 hps18 g17 hps15 g13 hps7 p3 p2; omega) | (clear hps23 hps18 g17 hps15 g13 hps7 p3 p2; omega) | omega, by first | exact And.intro (hrs18.1) (hrs18.2) | (clear hps27 hps23 hps18 g17 hps15 g13 hps7 p3 p2; omega) | (clear hps23 hps18 g17 hps15 g13 hps7 p3 p2; omega) | omega, oq_05338a64 g29, oq_84af290c g29⟩ | omega)
        ·
          refine z_load_n X (x := e28) rfl (List.Mem.head _) (z_bipush X rfl (z_icmp_eq X (t := 144) rfl rfl hrs27 (by decide) (fun g30 => ?_) (fun g30 => ?_)))
          ·
            refine WS_pq [2, 1, 0] (lv' := [(0, .ref (A 179)), (1, .int (Int32.ofInt e19)), (2, .int (Int32.ofInt e28))]) rfl ?_
            exact L144 _ e19 e28 Is23 Gs23 JFDB_s23 (fun c d h1 h2 h3 h4 => by rw [← hpz]; exact ou_cmpF (s := s7) (a := s18) (b := s23) (c := c) (by first | exact oq_997e57a5 g13 hk12 hwv | (clear g29 hps27 hps23 hps18 g17 hps15 g13 hps7 p3 p2; omega) | (clear hps27 hps23 hps18 g17 hps15 g13 hps7 p3 p2; omega) | omega) hnc hps18.2.2.2.2.2 (by first | exact oq_e5e5d3d6 ws7_79 g6 | (clear g29 hps27 hps23 hps18 g17 hps15 g13 hps7 p3 p2; omega) | (clear hps27 hps23 hps18 g17 hps15 g13 hps7 p3 p2; omega) | omega) (by rw [show iI s7 77 = pz by first | exact hb | (clear g29 hps27 hps23 hps18 g17 hps15 g13 hps7 p3 p2; omega) | (clear hps27 hps23 hps18 g17 hps15 g13 hps7 p3 p2; omega) | omega]; exact hskp) (by first | exact ws7_78 | (clear g29 hps27 hps23 hps18 g17 hps15 g13 hps7 p3 p2; omega) | (clear hps27 hps23 hps18 g17 hps15 g13 hps7 p3 p2; omega) | omega) hps23.1 (by first | exact ws23_79 | (clear g29 hps27 hps23 hps18 g17 hps15 g13 hps7 p3 p2; omega) | (clear hps27 hps23 hps18 g17 hps15 g13 hps7 p3 p2; omega) | omega) (by first | (clear g29 hps27 hps23 hps18 g17 hps15 g13 hps7 p3 p2; omega) | (clear hps27 hps23 hps18 g17 hps15 g13 hps7 p3 p2; omega) | omega) (by first | exact h1 | (clear g29 hps27 hps23 hps18 g17 hps15 g13 hps7 p3 p2; omega) | (clear hps27 hps23 hps18 g17 hps15 g13 hps7 p3 p2; omega) | omega) (by first | exact oq_ac0e91e1 h3 ws23_78 hps18.1 ws7_78 | (clear g29 hps27 hps23 hps18 g17 hps15 g13 hps7 p3 p2; omega) | (clear hps27 hps23 hps18 g17 hps15 g13 hps7 p3 p2; omega) | omega) h4) (by first | exact ⟨g6, oq_d0d2714e ws23_78 ws7_78 hps18.1, oq_cde5fb8b hps7.2.2.1 hps23.2.1 hps18.2.1, by first | exact oq_d3d55e74 hps23.2.2 hps18.2.2.1 hps7.2.2.2 g6 b2.2 hN p3 | (clear g29 hps27 hps23 hps18 g17 hps15 g13 hps7 p3 p2; omega) | (clear hps27 hps23 hps18 g17 hps15 g13 hps7 p3 p2; omega) | omega, by first | exact And.intro (hrs18.1) (hrs18.2) | (clear g29 hps27 hps23 hps18 g17 hps15 g13 hps7 p3 p2; omega) | (clear hps27 hps23 hps18 g17 hps15 g13 hps7 p3 p2; omega) | omega, oq_62e77286 g30, oq_45200378 g30⟩ | omega)
          ·
            refine z_load_n X (x := e28) rfl (List.Mem.head _) (z_bipush X rfl (z_icmp_eq X (t := 144) rfl rfl hrs27 (by decide) (fun g31 => ?_) (fun g31 => ?_)))
            ·
              refine WS_pq [2, 1, 0] (lv' := [(0, .ref (A 179)), (1, .int (Int32.ofInt e19)), (2, .int (Int32.ofInt e28))]) rfl ?_
              exact L144 _ e19 e28 Is23 Gs23 JFDB_s23 (fun c d h1 h2 h3 h4 => by rw [← hpz]; exact ou_cmpF (s := s7) (a := s18) (b := s23) (c := c) (by first | exact oq_997e57a5 g13 hk12 hwv | (clear g30 g29 hps27 hps23 hps18 g17 hps15 g13 hps7 p3 p2; omega) | (clear g29 hps27 hps23 hps18 g17 hps15 g13 hps7 p3 p2; omega) | omega) hnc hps18.2.2.2.2.2 (by first | exact oq_e5e5d3d6 ws7_79 g6 | (clear g30 g29 hps27 hps23 hps18 g17 hps15 g13 hps7 p3 p2; omega) | (clear g29 hps27 hps23 hps18 g17 hps15 g13 hps7 p3 p2; omega) | omega) (by rw [show iI s7 77 = pz by first | exact hb | (clear g30 g29 hps27 hps23 hps18 g17 hps15 g13 hps7 p3 p2; omega) | (clear g29 hps27 hps23 hps18 g17 hps15 g13 hps7 p3 p2; omega) | omega]; exact hskp) (by first | exact ws7_78 | (clear g30 g29 hps27 hps23 hps18 g17 hps15 g13 hps7 p3 p2; omega) | (clear g29 hps27 hps23 hps18 g17 hps15 g13 hps7 p3 p2; omega) | omega) hps23.1 (by first | exact ws23_79 | (clear g30 g29 hps27 hps23 hps18 g17 hps15 g13 hps7 p3 p2; omega) | (clear g29 hps27 hps23 hps18 g17 hps15 g13 hps7 p3 p2; omega) | omega) (by first | (clear g30 g29 hps27 hps23 hps18 g17 hps15 g13 hps7 p3 p2; omega) | (clear g29 hps27 hps23 hps18 g17 hps15 g13 hps7 p3 p2; omega) | omega) (by first | exact h1 | (clear g30 g29 hps27 hps23 hps18 g17 hps15 g13 hps7 p3 p2; omega) | (clear g29 hps27 hps23 hps18 g17 hps15 g13 hps7 p3 p2; omega) | omega) (by first | exact oq_ac0e91e1 h3 ws23_78 hps18.1 ws7_78 | (clear g30 g29 hps27 hps23 hps18 g17 hps15 g13 hps7 p3 p2; omega) | (clear g29 hps27 hps23 hps18 g17 hps15 g13 hps7 p3 p2; omega) | omega) h4) (by first | exact ⟨g6, oq_d0d2714e ws23_78 ws7_78 hps18.1, oq_cde5fb8b hps7.2.2.1 hps23.2.1 hps18.2.1, by first | exact oq_d3d55e74 hps23.2.2 hps18.2.2.1 hps7.2.2.2 g6 b2.2 hN p3 | (clear g30 g29 hps27 hps23 hps18 g17 hps15 g13 hps7 p3 p2; omega) | (clear g29 hps27 hps23 hps18 g17 hps15 g13 hps7 p3 p2; omega) | omega, by first | exact And.intro (hrs18.1) (hrs18.2) | (clear g30 g29 hps27 hps23 hps18 g17 hps15 g13 hps7 p3 p2; omega) | (clear g29 hps27 hps23 hps18 g17 hps15 g13 hps7 p3 p2; omega) | omega, oq_1786f639 g31, oq_9de8a7d6 g31⟩ | omega)
            ·
              refine z_aload_n X (x := A 179) rfl (List.Mem.tail _ (List.Mem.tail _ (List.Mem.head _))) (z_const X rfl (z_aload_n X (x := A 179) rfl (List.Mem.tail _ (List.Mem.tail _ (List.Mem.head _))) (z_getI X 179 rfl (c518_ok rfl) rfl rfl ?_)))
              have b32 := bi_77 Is23
              refine z_callV X 179 (rm := rmN 194) (As := [.int (Int32.ofInt 1), .int (Int32.ofInt (iI s23 77))]) (st := []) rfl rfl (by decide) rfl (by rw [E.1, E.2.1, E.2.2.1]; exact k_wrong3 G Is23 (by first | exact ⟨by decide, by decide⟩ | omega) (by first | exact ⟨oq_ca54ea22 b32.1, b32.2⟩ | omega)) ⟨by rw [E.2.2.2]; exact (show 6 + 1 ≤ (12 + (24 + 3 * (r + 1))) from oq_51b017a3 r), by rw [E.2.2.2]; exact (show 8 + (3 + 11) + 100 ≤ (500 + 45 * (24 + 3 * (r + 1))) from oq_53e0fa7a r), by rw [E.2.2.2]; exact Nat.le_refl 0, by rw [E.2.2.2]; exact Nat.le_refl 0⟩ (Nat.le_of_ble_eq_true rfl) (fun vv s33 hq => ?_) (fun ee s33 hq => ?_)
              rotate_left
              · obtain ⟨Is33, Fs33, hv, hps33⟩ := hq; cases hv
              obtain ⟨Is33, Fs33, hv, hps33⟩ := hq
              cases hv
              have Gs33 := fm_tq Gs23 Fs33 rfl rfl
              have JFDB_s33 : FDB B N s33 := FDB_fm Fs33 (by decide) JFDB_s23
              have ws33_77 : iI s33 77 = iI s23 77 := fm_iq Fs33 rfl
              have ws33_75 : iI s33 75 = iI s23 75 := fm_iq Fs33 rfl
              have b35 := bi_79 Is33
              have ws33_78 : iI s33 78 = iI s23 78 := fm_iq Fs33 rfl
              show WS k 144 [(2, .int (Int32.ofInt e28)), (1, .int (Int32.ofInt e19)), (0, .ref (A 179))] [] (Wd A dT s33) 0 0
              refine WS_pq [2, 1, 0] (lv' := [(0, .ref (A 179)), (1, .int (Int32.ofInt e19)), (2, .int (Int32.ofInt e28))]) rfl ?_
              exact L144 _ e19 e28 Is33 Gs33 JFDB_s33 (fun c d h1 h2 h3 h4 => by rw [← hpz]; exact ou_cmpF (s := s7) (a := s18) (b := s23) (c := c) (by first | exact oq_997e57a5 g13 hk12 hwv | (clear hps33 g31 g30 g29 hps27 hps23 hps18 g17 hps15 g13 hps7 p3 p2; omega) | (clear g31 g30 g29 hps27 hps23 hps18 g17 hps15 g13 hps7 p3 p2; omega) | omega) hnc hps18.2.2.2.2.2 (by first | exact oq_e5e5d3d6 ws7_79 g6 | (clear hps33 g31 g30 g29 hps27 hps23 hps18 g17 hps15 g13 hps7 p3 p2; omega) | (clear g31 g30 g29 hps27 hps23 hps18 g17 hps15 g13 hps7 p3 p2; omega) | omega) (by rw [show iI s7 77 = pz by first | exact hb | (clear hps33 g31 g30 g29 hps27 hps23 hps18 g17 hps15 g13 hps7 p3 p2; omega) | (clear g31 g30 g29 hps27 hps23 hps18 g17 hps15 g13 hps7 p3 p2; omega) | omega]; exact hskp) (by first | exact ws7_78 | (clear hps33 g31 g30 g29 hps27 hps23 hps18 g17 hps15 g13 hps7 p3 p2; omega) | (clear g31 g30 g29 hps27 hps23 hps18 g17 hps15 g13 hps7 p3 p2; omega) | omega) hps23.1 (by first | exact ws23_79 | (clear hps33 g31 g30 g29 hps27 hps23 hps18 g17 hps15 g13 hps7 p3 p2; omega) | (clear g31 g30 g29 hps27 hps23 hps18 g17 hps15 g13 hps7 p3 p2; omega) | omega) (by first | (clear hps33 g31 g30 g29 hps27 hps23 hps18 g17 hps15 g13 hps7 p3 p2; omega) | (clear g31 g30 g29 hps27 hps23 hps18 g17 hps15 g13 hps7 p3 p2; omega) | omega) (by first | exact oq_665cd23d h1 ws33_77 | (clear hps33 g31 g30 g29 hps27 hps23 hps18 g17 hps15 g13 hps7 p3 p2; omega) | (clear g31 g30 g29 hps27 hps23 hps18 g17 hps15 g13 hps7 p3 p2; omega) | omega) (by first | exact oq_469c7eaf h3 ws33_78 ws23_78 hps18.1 ws7_78 | (clear hps33 g31 g30 g29 hps27 hps23 hps18 g17 hps15 g13 hps7 p3 p2; omega) | (clear g31 g30 g29 hps27 hps23 hps18 g17 hps15 g13 hps7 p3 p2; omega) | omega) h4) (by first | exact ⟨g6, oq_2658fcab ws33_78 ws23_78 ws7_78 hps18.1, oq_841e4d52 ws33_77 hps7.2.2.1 hps18.2.1 hps23.2.1, by first | exact oq_f087e6ac ws33_77 hps23.2.2 hps18.2.2.1 hps7.2.2.2 g6 b2.2 hN p3 | (clear hps33 g31 g30 g29 hps27 hps23 hps18 g17 hps15 g13 hps7 p3 p2; omega) | (clear g31 g30 g29 hps27 hps23 hps18 g17 hps15 g13 hps7 p3 p2; omega) | omega, by first | exact And.intro (hrs18.1) (hrs18.2) | (clear hps33 g31 g30 g29 hps27 hps23 hps18 g17 hps15 g13 hps7 p3 p2; omega) | (clear g31 g30 g29 hps27 hps23 hps18 g17 hps15 g13 hps7 p3 p2; omega) | omega, oq_1b38bc36 hps27, oq_eabbb498 hps27⟩ | omega)
      ·
        have hch : chT B N pz 91 := ⟨by first | exact oq_26896f29 g17 hby | (clear hps15 g13 hps7 p3 p2; omega) | (clear g13 hps7 p3 p2; omega) | omega, by first | exact oq_8d07bc46 g17 hby | (clear hps15 g13 hps7 p3 p2; omega) | (clear g13 hps7 p3 p2; omega) | omega⟩
        refine z_aload_n X (x := A 179) rfl (List.Mem.head _) (z_const X rfl (z_callV X 179 (rm := rmN 205) (As := [.int (Int32.ofInt 1)]) (st := []) rfl rfl (by decide) rfl (by rw [E.1, E.2.1, E.2.2.1]; exact k_opens3 G Is7 (by first | exact ⟨by decide, by decide⟩ | omega) (by first | exact oq_d63e14ee g17 hps15 b2.2 hN | (clear hps15 g13 hps7 p3 p2; omega) | (clear g13 hps7 p3 p2; omega) | omega) (by first | exact oq_47dd1e41 ws7_78 p1 | (clear hps15 g13 hps7 p3 p2; omega) | (clear g13 hps7 p3 p2; omega) | omega)) ⟨by rw [E.2.2.2]; exact (show 7 + 1 ≤ (12 + (24 + 3 * (r + 1))) from oq_36eaf53c r), by rw [E.2.2.2]; exact (show 8 + (2 + 11) + 122 ≤ (500 + 45 * (24 + 3 * (r + 1))) from oq_2520a5c5 r), by rw [E.2.2.2]; exact Nat.le_refl 0, by rw [E.2.2.2]; exact Nat.le_refl 0⟩ (Nat.le_of_ble_eq_true rfl) (fun vv s36 hq => ?_) (fun ee s36 hq => ?_)))
        rotate_left
        · obtain ⟨Is36, Fs36, hv, hps36⟩ := hq; cases hv
        obtain ⟨Is36, Fs36, hv, hps36⟩ := hq
        have hps36p := And.intro hps36.1 (hps36.2.1)
        cases hv
        have Gs36 := fm_tq Gs7 Fs36 rfl rfl
        have JFDB_s36 : FDB B N s36 := FDB_fm Fs36 (by decide) JFDB_s7
        have b38 := bi_77 Is36
        have ws36_75 : iI s36 75 = iI s7 75 := fm_iq Fs36 rfl
        have b39 := bi_79 Is36
        have b40 := bi_78 Is36
        show WS k 76 [(0, .ref (A 179))] [] (Wd A dT s36) 0 0
        refine z_aload_n X (x := A 179) rfl (List.Mem.head _) (z_callV X 179 (rm := (rkR (24 + 3 * (r) + 2))) (As := []) (st := []) rfl rfl (by decide) rfl (by rw [E.1, E.2.1, E.2.2.1]; exact hO Is36 JFDB_s36 (by first | exact oq_8975a2ee hps36p.1 g17 hps15 b2.2 hN | (clear hps36 hps15 g13 hps7 p3 p2; omega) | (clear hps15 g13 hps7 p3 p2; omega) | omega) (by first | exact oq_4fdfb4aa p1 hps36.2.1 ws7_78 | omega) (by first | exact oq_3a71b695 hps36.2.2 hps36.2.1 ws7_79 g6 | omega) (by first | exact oq_be7d2080 hps36p.1 g17 hps15 b2.2 hN | (clear hps36 hps15 g13 hps7 p3 p2; omega) | (clear hps15 g13 hps7 p3 p2; omega) | omega)) ⟨by rw [E.2.2.2]; exact (show (12 + (24 + 3 * (r) + 2)) + 1 ≤ (12 + (24 + 3 * (r + 1))) from oq_853f7f04 r), by rw [E.2.2.2]; exact (show 8 + (3 + 11) + (500 + 45 * (24 + 3 * (r) + 2)) ≤ (500 + 45 * (24 + 3 * (r + 1))) from oq_4ce40754 r), by rw [E.2.2.2]; exact Nat.le_refl 0, by rw [E.2.2.2]; exact Nat.le_refl 0⟩ (Nat.le_of_ble_eq_true rfl) (fun vv s41 hq => ?_) (fun ee s41 hq => ?_))
        rotate_left
        · obtain ⟨Is41, Fs41, JFDB_s41, e42, hv, hrs41, hps41⟩ := hq; cases hv
        obtain ⟨Is41, Fs41, JFDB_s41, e42, hv, hrs41, hps41⟩ := hq
        have hps41p := And.intro hps41.1 (And.intro hps41.2.1 (hps41.2.2.2.2.2.2.2))
        cases hv
        have Gs41 := fm_tq Gs36 Fs41 rfl rfl
        have JFDB_s41 : FDB B N s41 := FDB_fm Fs41 (by decide) JFDB_s36
        have b43 := bi_77 Is41
        have ws41_75 : iI s41 75 = iI s36 75 := fm_iq Fs41 rfl
        have b44 := bi_79 Is41
        have b45 := bi_78 Is41
        show WS k 80 [(0, .ref (A 179))] [.int (Int32.ofInt e42)] (Wd A dT s41) 0 0
        refine z_store_n X (lv' := [(1, .int (Int32.ofInt e42)), (0, .ref (A 179))]) rfl (by decide) (fun _ h => h) (z_aload_n X (x := A 179) rfl (List.Mem.tail _ (List.Mem.head _)) (z_bipush X rfl (z_callV X 179 (rm := rmN 204) (As := [.int (Int32.ofInt 93)]) (st := []) rfl rfl (by decide) rfl (by rw [E.1, E.2.1, E.2.2.1]; exact k_sign3 G Is41 JFDB_s41 (by first | exact ⟨by decide, by decide⟩ | omega) (by first | exact oq_ddb06230 hps41.2.2.1 hps36p.1 g17 hps15 b2.2 hN | (clear hps41 hps36 hps15 g13 hps7 p3 p2; omega) | (clear hps36 hps15 g13 hps7 p3 p2; omega) | omega)) ⟨by rw [E.2.2.2]; exact (show 8 + 1 ≤ (12 + (24 + 3 * (r + 1))) from oq_91dbadf4 r), by rw [E.2.2.2]; exact (show 8 + (2 + 11) + 141 ≤ (500 + 45 * (24 + 3 * (r + 1))) from oq_da5feea9 r), by rw [E.2.2.2]; exact Nat.le_refl 0, by rw [E.2.2.2]; exact Nat.le_refl 0⟩ (Nat.le_of_ble_eq_true rfl) (fun vv s46 hq => ?_) (fun ee s46 hq => ?_))))
        rotate_left
        · obtain ⟨Is46, Fs46, JFDB_s46, hv, hps46⟩ := hq; cases hv
        obtain ⟨Is46, Fs46, JFDB_s46, hv, hps46⟩ := hq
        have hps46p := And.intro hps46.1 (hps46.2.1)
        cases hv
        have Gs46 := fm_tq Gs41 Fs46 rfl rfl
        have JFDB_s46 : FDB B N s46 := FDB_fm Fs46 (by decide) JFDB_s41
        have b48 := bi_77 Is46
        have ws46_75 : iI s46 75 = iI s41 75 := fm_iq Fs46 rfl
        have b49 := bi_79 Is46
        have ws46_78 : iI s46 78 = iI s41 78 := fm_iq Fs46 rfl
        show WS k 87 [(1, .int (Int32.ofInt e42)), (0, .ref (A 179))] [] (Wd A dT s46) 0 0
        have hle : iI s46 79 = 0 → iI s46 77 ≤ N := fun h => sg_le hps46.1 h
        refine z_aload_n X (x := A 179) rfl (List.Mem.tail _ (List.Mem.head _)) (w_dup X.1 (ax_d X (show cdA 210 88 = some (.dup, 1, 0, 0, 0) from rfl)) rfl (z_getI X 179 rfl (c518_ok rfl) rfl rfl ?_))
        have b50 := bi_78 Is46
        refine z_const X rfl (z_sub X rfl (s_putI X 179 rfl (c518_ok rfl) rfl rfl (by decide) rfl rfl rfl (wd_gen (fun s51 hs51 => ?_))))
        have Is51 : Bd s51 := eqB hs51 (bd_I Is46 (show (0 : Int) ≤ ((iI s46 78) - 1) ∧ ((iI s46 78) - 1) ≤ 8 by first | exact ⟨oq_72416b87 ws46_78 hps41.1 hps36.2.1 ws7_78 b4.1, oq_d7fe5c3c b50.2⟩ | omega) ⟨by first | exact oq_c1e961c7 b50.1 | omega, by first | exact oq_22bc6706 b50.2 | omega⟩)
        have Fs51 := eqF hs51 (fm_I Gs46 (inl_ok (a := 78) rfl))
        have vs51 : iI s51 78 = ((iI s46 78) - 1) := eqI hs51 (iI_u ⟨by first | exact oq_c1e961c7 b50.1 | omega, by first | exact oq_22bc6706 b50.2 | omega⟩)
        have ws51_77 : iI s51 77 = iI s46 77 := eqI hs51 rfl
        have ws51_75 : iI s51 75 = iI s46 75 := eqI hs51 rfl
        have ws51_79 : iI s51 79 = iI s46 79 := eqI hs51 rfl
        have fs51 : Fm [78] [] s46 s51 := by rw [hs51]; exact fm_I (fm_rf _ _ _) (show 78 ∈ _ by decide)
        have JFDB_s51 : FDB B N s51 := FDB_fm fs51 (by decide) JFDB_s46
        refine z_load_n X (x := e42) rfl (List.Mem.head _) ?_
        exact w_iret X.1 q hRt (nar_ret (by first | exact hps41.2.2.2.2.2.2.1 | omega)) (ax_d X (show cdA 210 98 = some (.ireturn, 1, 0, 0, 0) from rfl)) (Nat.zero_le _) (Nat.zero_le _) ⟨_, rfl, Is51, Fs51, JFDB_s51, e42, rfl, hrs41, ⟨by first | exact oq_a5539f03 vs51 ws7_78 hps36.2.1 ws46_78 hps41.1 | omega, by first | exact oq_a0f29d8a ws51_77 hps7.2.2.1 hps46.2.1 hps41.2.1 hps36.1 | omega, by first | exact Or.inr (oq_f573a3fd ws51_77 hps46.2.2 hps41.2.2.1 hps36p.1 g17 hby hb b2.2 hN) | (clear hps46 hps41 hps36 hps15 g13 hps7 p3 p2; omega) | (clear hps41 hps36 hps15 g13 hps7 p3 p2; omega) | omega, by first | exact oq_e013ad0f g6 | omega, by first | exact oq_e53ffc29 ws51_79 ws51_77 hle b49.1 hN | (clear hps46 hps41 hps36 hps15 g13 hps7 p3 p2; omega) | (clear hps41 hps36 hps15 g13 hps7 p3 p2; omega) | omega, by first | exact oq_e14a4589 ws51_77 hps46.2.1 hps41.2.1 hps36.1 hps7.2.2.1 | omega, by first | exact hps41.2.2.2.2.2.2.1 | omega, Or.inr ⟨by first | exact g6 | (clear hps46 hps41 hps36 hps15 g13 hps7 p3 p2; omega) | (clear hps41 hps36 hps15 g13 hps7 p3 p2; omega) | omega, by rw [← hpz]; exact ou_mv (ou_brkF (by first | exact oq_997e57a5 g13 hk12 hwv | (clear hps46 hps41 hps36 hps15 g13 hps7 p3 p2; omega) | (clear hps41 hps36 hps15 g13 hps7 p3 p2; omega) | omega) hch (by first | exact oq_5ff460d6 p1 | (clear hps46 hps41 hps36 hps15 g13 hps7 p3 p2; omega) | (clear hps41 hps36 hps15 g13 hps7 p3 p2; omega) | omega) (by first | exact oq_0de7544f b39.1 hps36.2.2 ws7_78 ws7_79 g6 p1 | (clear hps46 hps41 hps36 hps15 g13 hps7 p3 p2; omega) | (clear hps41 hps36 hps15 g13 hps7 p3 p2; omega) | omega) (by first | exact oq_665cd23d hps36p.1 hb | (clear hps46 hps41 hps36 hps15 g13 hps7 p3 p2; omega) | (clear hps41 hps36 hps15 g13 hps7 p3 p2; omega) | omega) (by first | exact oq_665cd23d hps36p.2 ws7_78 | (clear hps46 hps41 hps36 hps15 g13 hps7 p3 p2; omega) | (clear hps41 hps36 hps15 g13 hps7 p3 p2; omega) | omega) hps41.2.2.2.2.2.2.2 hps46.1) (by rw [show iI s51 77 = iI s46 77 by first | exact ws51_77 | (clear hps46 hps41 hps36 hps15 g13 hps7 p3 p2; omega) | (clear hps41 hps36 hps15 g13 hps7 p3 p2; omega) | omega]) (by first | exact ws51_79 | (clear hps46 hps41 hps36 hps15 g13 hps7 p3 p2; omega) | (clear hps41 hps36 hps15 g13 hps7 p3 p2; omega) | omega)⟩⟩⟩
    ·
      have hl3 := wh_not (B := B) (N := N) (p := pz) (by first | exact oq_209c67c7 g13 hk12 hwv | (clear hps7 p3 p2; omega) | (clear p3 p2; omega) | omega)
      have hl4 : wdE B N pz ≤ N := by have z := (wd_lo (B := B) (N := N) (p := pz) _ (Nat.le_refl _)).2; omega
      refine z_aload_n X (x := A 179) rfl (List.Mem.head _) (z_const X rfl (z_callV X 179 (rm := rmN 205) (As := [.int (Int32.ofInt 3)]) (st := []) rfl rfl (by decide) rfl (by rw [E.1, E.2.1, E.2.2.1]; exact k_opens3 G Is7 (by first | exact ⟨by decide, by decide⟩ | omega) (by first | exact oq_c21dae55 hl4 hl3 hb b2.2 hN | (clear hps7 p3 p2; omega) | (clear p3 p2; omega) | omega) (by first | exact oq_47dd1e41 ws7_78 p1 | (clear hps7 p3 p2; omega) | (clear p3 p2; omega) | omega)) ⟨by rw [E.2.2.2]; exact (show 7 + 1 ≤ (12 + (24 + 3 * (r + 1))) from oq_36eaf53c r), by rw [E.2.2.2]; exact (show 8 + (2 + 11) + 122 ≤ (500 + 45 * (24 + 3 * (r + 1))) from oq_2520a5c5 r), by rw [E.2.2.2]; exact Nat.le_refl 0, by rw [E.2.2.2]; exact Nat.le_refl 0⟩ (Nat.le_of_ble_eq_true rfl) (fun vv s52 hq => ?_) (fun ee s52 hq => ?_)))
      rotate_left
      · obtain ⟨Is52, Fs52, hv, hps52⟩ := hq; cases hv
      obtain ⟨Is52, Fs52, hv, hps52⟩ := hq
      have hps52p := And.intro hps52.1 (hps52.2.1)
      cases hv
      have Gs52 := fm_tq Gs7 Fs52 rfl rfl
      have JFDB_s52 : FDB B N s52 := FDB_fm Fs52 (by decide) JFDB_s7
      have b54 := bi_77 Is52
      have ws52_75 : iI s52 75 = iI s7 75 := fm_iq Fs52 rfl
      have b55 := bi_79 Is52
      have b56 := bi_78 Is52
      show WS k 33 [(0, .ref (A 179))] [] (Wd A dT s52) 0 0
      refine z_aload_n X (x := A 179) rfl (List.Mem.head _) (z_callV X 179 (rm := (rkR (24 + 3 * (r)))) (As := []) (st := []) rfl rfl (by decide) rfl (by rw [E.1, E.2.1, E.2.2.1]; exact hT Is52 JFDB_s52 (by first | exact oq_a1591a1d hps52p.1 hl4 hl3 hb b2.2 hN | (clear hps52 hps7 p3 p2; omega) | (clear hps7 p3 p2; omega) | omega) (by first | exact oq_4fdfb4aa p1 hps52.2.1 ws7_78 | omega) (by first | exact oq_3a71b695 hps52.2.2 hps52.2.1 ws7_79 g6 | omega) (by first | exact oq_64603fa7 hps52p.1 hl4 hl3 hb b2.2 hN | (clear hps52 hps7 p3 p2; omega) | (clear hps7 p3 p2; omega) | omega)) ⟨by rw [E.2.2.2]; exact (show (12 + (24 + 3 * (r))) + 1 ≤ (12 + (24 + 3 * (r + 1))) from oq_02269255 r), by rw [E.2.2.2]; exact (show 8 + (4 + 11) + (500 + 45 * (24 + 3 * (r))) ≤ (500 + 45 * (24 + 3 * (r + 1))) from oq_bcf847ad r), by rw [E.2.2.2]; exact Nat.le_refl 0, by rw [E.2.2.2]; exact Nat.le_refl 0⟩ (Nat.le_of_ble_eq_true rfl) (fun vv s57 hq => ?_) (fun ee s57 hq => ?_))
      rotate_left
      · obtain ⟨Is57, Fs57, JFDB_s57, e58, hv, hrs57, hps57⟩ := hq; cases hv
      obtain ⟨Is57, Fs57, JFDB_s57, e58, hv, hrs57, hps57⟩ := hq
      have hps57p := And.intro hps57.1 (And.intro hps57.2.1 (hps57.2.2.2.2.2.2.2))
      cases hv
      have Gs57 := fm_tq Gs52 Fs57 rfl rfl
      have JFDB_s57 : FDB B N s57 := FDB_fm Fs57 (by decide) JFDB_s52
      have b59 := bi_77 Is57
      have ws57_75 : iI s57 75 = iI s52 75 := fm_iq Fs57 rfl
      have b60 := bi_79 Is57
      have b61 := bi_78 Is57
      show WS k 37 [(0, .ref (A 179))] [.int (Int32.ofInt e58)] (Wd A dT s57) 0 0
      have N62 : ∀ e63 : Int, (((e58 ≠ 0) ∧ e63 = 0) ∨ ((e58 = 0) ∧ e63 = 1)) → WS k 45 [(0, .ref (A 179))] [.int (Int32.ofInt e63)] (Wd A dT s57) 0 0 := by
        intro e63 he63
        have re63 : 0 ≤ e63 ∧ e63 ≤ 1 := by first | exact And.intro (oq_6d672f13 he63) (oq_ccfe7a71 he63) | (clear he63 hps57 hps52 hps7 p3 p2; omega) | (clear hps57 hps52 hps7 p3 p2; omega) | omega
        refine z_store_n X (lv' := [(1, .int (Int32.ofInt e63)), (0, .ref (A 179))]) rfl (by decide) (fun _ h => h) (z_aload_n X (x := A 179) rfl (List.Mem.tail _ (List.Mem.head _)) (w_dup X.1 (ax_d X (show cdA 210 47 = some (.dup, 1, 0, 0, 0) from rfl)) rfl (z_getI X 179 rfl (c518_ok rfl) rfl rfl ?_)))
        have b64 := bi_78 Is57
        refine z_const X rfl (z_sub X rfl (s_putI X 179 rfl (c518_ok rfl) rfl rfl (by decide) rfl rfl rfl (wd_gen (fun s65 hs65 => ?_))))
        have Is65 : Bd s65 := eqB hs65 (bd_I Is57 (show (0 : Int) ≤ ((iI s57 78) - 1) ∧ ((iI s57 78) - 1) ≤ 8 by first | exact ⟨oq_f92f5a7c hps57.1 hps52.2.1 ws7_78 b4.1, oq_d7fe5c3c b64.2⟩ | omega) ⟨by first | exact oq_c1e961c7 b64.1 | omega, by first | exact oq_22bc6706 b64.2 | omega⟩)
        have Fs65 := eqF hs65 (fm_I Gs57 (inl_ok (a := 78) rfl))
        have vs65 : iI s65 78 = ((iI s57 78) - 1) := eqI hs65 (iI_u ⟨by first | exact oq_c1e961c7 b64.1 | omega, by first | exact oq_22bc6706 b64.2 | omega⟩)
        have ws65_77 : iI s65 77 = iI s57 77 := eqI hs65 rfl
        have ws65_75 : iI s65 75 = iI s57 75 := eqI hs65 rfl
        have ws65_79 : iI s65 79 = iI s57 79 := eqI hs65 rfl
        have fs65 : Fm [78] [] s57 s65 := by rw [hs65]; exact fm_I (fm_rf _ _ _) (show 78 ∈ _ by decide)
        have JFDB_s65 : FDB B N s65 := FDB_fm fs65 (by decide) JFDB_s57
        refine z_load_n X (x := e63) rfl (List.Mem.head _) ?_
        exact w_iret X.1 q hRt (nar_ret (by first | exact oq_78ade64d re63.2 re63.1 he63 | omega)) (ax_d X (show cdA 210 57 = some (.ireturn, 1, 0, 0, 0) from rfl)) (Nat.zero_le _) (Nat.zero_le _) ⟨_, rfl, Is65, Fs65, JFDB_s65, e63, rfl, ⟨by first | exact oq_fa4e5087 re63.1 | omega, by first | exact oq_22e1e6b0 re63.2 | omega⟩, ⟨by first | exact oq_82d75f38 vs65 ws7_78 hps52.2.1 hps57.1 | omega, by first | exact oq_af08c243 ws65_77 hps7.2.2.1 hps57.2.1 hps52.1 | omega, by first | exact Or.inr (oq_c71d19b3 ws65_77 hps57.2.2.1 hps52p.1 hl4 hl3 hb b2.2 hN) | (clear he63 hps57 hps52 hps7 p3 p2; omega) | (clear hps57 hps52 hps7 p3 p2; omega) | omega, by first | exact oq_e013ad0f g6 | omega, by first | exact oq_dbc0ca79 ws65_79 ws65_77 b60.1 hps57.2.2.2.2.1 ws52_75 ws7_75 | omega, by first | exact oq_9d0a7132 ws65_77 hps57.2.1 hps52.1 hps7.2.2.1 | omega, by first | exact oq_78ade64d re63.2 re63.1 he63 | omega, Or.inr ⟨by first | exact g6 | (clear he63 hps57 hps52 hps7 p3 p2; omega) | (clear hps57 hps52 hps7 p3 p2; omega) | omega, by rw [← hpz]; exact ou_mv (ou_notF (by first | exact oq_209c67c7 g13 hk12 hwv | (clear he63 hps57 hps52 hps7 p3 p2; omega) | (clear hps57 hps52 hps7 p3 p2; omega) | omega) (by first | exact oq_5ff460d6 p1 | (clear he63 hps57 hps52 hps7 p3 p2; omega) | (clear hps57 hps52 hps7 p3 p2; omega) | omega) (by first | exact oq_0de7544f b55.1 hps52.2.2 ws7_78 ws7_79 g6 p1 | (clear he63 hps57 hps52 hps7 p3 p2; omega) | (clear hps57 hps52 hps7 p3 p2; omega) | omega) (by first | exact oq_0836bdf8 hps52p.1 hl3 hb | (clear he63 hps57 hps52 hps7 p3 p2; omega) | (clear hps57 hps52 hps7 p3 p2; omega) | omega) (by first | exact oq_665cd23d hps52p.2 ws7_78 | (clear he63 hps57 hps52 hps7 p3 p2; omega) | (clear hps57 hps52 hps7 p3 p2; omega) | omega) hps57.2.2.2.2.2.2.2) (by rw [show iI s65 77 = iI s57 77 by first | exact ws65_77 | (clear he63 hps57 hps52 hps7 p3 p2; omega) | (clear hps57 hps52 hps7 p3 p2; omega) | omega]) (by first | exact ws65_79 | (clear he63 hps57 hps52 hps7 p3 p2; omega) | (clear hps57 hps52 hps7 p3 p2; omega) | omega)⟩⟩⟩
      refine z_if_ne X (t := 44) rfl rfl hrs57 (fun g66 => ?_) (fun g66 => ?_)
      ·
        exact z_const X rfl (N62 _ (Or.inl ⟨g66, rfl⟩))
      ·
        exact z_const X rfl (z_goto X (t := 45) rfl rfl (N62 _ (Or.inr (⟨g66, rfl⟩))))
  ·
    refine z_const X rfl ?_
    exact w_iret X.1 q hRt (nar_ret (by first | exact Or.inl (by decide) | omega)) (ax_d X (show cdA 210 8 = some (.ireturn, 1, 0, 0, 0) from rfl)) (Nat.zero_le _) (Nat.zero_le _) ⟨_, rfl, I, F, jFDB, 0, rfl, (by decide), ⟨by first | exact rfl | (clear g6 p3 p2; omega) | (clear p3 p2; omega) | omega, by first | exact oq_15ec32ab | (clear g6 p3 p2; omega) | (clear p3 p2; omega) | omega, by first | exact Or.inl (by decide) | exact Or.inl (rfl) | omega, by first | exact oq_4bed1c3e g6 b5.1 | omega, by first | exact oq_6a3c9b31 g6 b5.1 | omega, by first | exact oq_a49e6adf g6 b5.1 | omega, by first | exact Or.inl (by decide) | omega, Or.inl ⟨by first | exact g6 | (clear g6 p3 p2; omega) | (clear p3 p2; omega) | omega, by first | exact rfl | (clear g6 p3 p2; omega) | (clear p3 p2; omega) | omega⟩⟩⟩
set_option maxRecDepth 4000 in
theorem k_andsS3 (G : GX l s0 D tys a0 dT) {B : Nat → Int} {N : Int} {r : Nat} (hT : ∀ {s : PS}, Bd s → FDB B N s → (iI s 77 ≤ 203) → (iI s 78 + ((r : Nat) : Int) = 7) → (iI s 78 = 7 → iI s 79 ≠ 0) → (iI s 79 = 0 → iI s 77 ≤ 202) → CT l s0 D A dT 210 (rkR (24 + 3 * (r))) [.ref (A 179)] s (fun o t => Bd t ∧ Fm [77, 79, 80, 78] [] s t ∧ FDB B N t ∧ ∃ e, o = .inl (some (.int (Int32.ofInt e))) ∧ rng e ∧ (iI t 78 = iI s 78 ∧ iI s 77 ≤ iI t 77 ∧ (iI t 77 = iI s 77 ∨ iI t 77 ≤ 203) ∧ (iI s 79 ≠ 0 → iI t 79 ≠ 0) ∧ (iI t 79 = 0 → iI t 77 ≤ iI s 75) ∧ (iI s 79 = 0 → iI s 77 < iI t 77) ∧ (e = 0 ∨ e = 1) ∧ PFm B N 5 s t))) (I : Bd s) (jFDB : FDB B N s) (p0 : iI s 77 ≤ 203) (p1 : iI s 78 + ((r : Nat) : Int) = 7) (p2 : iI s 78 = 7 → iI s 79 ≠ 0) (p3 : iI s 79 = 0 → iI s 77 ≤ 202) : CT l s0 D A dT 211 (rkR (24 + 3 * (r) + 1)) [.ref (A 179)] s (fun o t => Bd t ∧ Fm [77, 79, 80, 78] [] s t ∧ FDB B N t ∧ ∃ e, o = .inl (some (.int (Int32.ofInt e))) ∧ rng e ∧ (iI t 78 = iI s 78 ∧ iI s 77 ≤ iI t 77 ∧ (iI t 77 = iI s 77 ∨ iI t 77 ≤ 203) ∧ (iI s 79 ≠ 0 → iI t 79 ≠ 0) ∧ (iI t 79 = 0 → iI t 77 ≤ iI s 75) ∧ (iI s 79 = 0 → iI s 77 < iI t 77) ∧ (e = 0 ∨ e = 1) ∧ PFm B N 6 s t)) := by
  refine ct_of G (by decide) (Nat.le_of_ble_eq_true rfl) (fun k X E hRt hXt q => ?_)
  show WS k 0 [(0, .ref (A 179))] [] _ 0 0
  have F : Fm [77, 79, 80, 78] [] s s := fm_rf _ _ s
  have hN := jFDB.2.1
  have hW := jFDB.2.2
  have b1 := bi_77 I
  have b2 := bi_75 I
  have b3 := bi_79 I
  have b4 := bi_78 I
  have L5 : ∀ (n : Nat) (t : PS) (v : Int), Bd t → Fm [77, 79, 80, 78] [] s t → FDB B N t → (PRm B N 7 6 s t) → (iI t 78 = iI s 78 ∧ iI s 77 ≤ iI t 77 ∧ (iI t 77 = iI s 77 ∨ iI t 77 ≤ 203) ∧ (iI s 79 ≠ 0 → iI t 79 ≠ 0) ∧ (iI t 79 = 0 → iI t 77 ≤ iI s 75) ∧ (iI s 79 = 0 → iI s 77 < iI t 77) ∧ iI t 75 = iI s 75 ∧ (v = 0 ∨ v = 1)) → (204 - iI t 77 : Int).toNat < n → (∀ (t' : PS) (v' : Int), Bd t' → Fm [77, 79, 80, 78] [] s t' → FDB B N t' → (PFm B N 6 s t') → (iI t' 78 = iI s 78 ∧ iI s 77 ≤ iI t' 77 ∧ (iI t' 77 = iI s 77 ∨ iI t' 77 ≤ 203) ∧ (iI s 79 ≠ 0 → iI t' 79 ≠ 0) ∧ (iI t' 79 = 0 → iI t' 77 ≤ iI s 75) ∧ (iI s 79 = 0 → iI s 77 < iI t' 77) ∧ iI t' 75 = iI s 75 ∧ (v' = 0 ∨ v' = 1)) → WS k 55 [(0, .ref (A 179)), (1, .int (Int32.ofInt v'))] [] (Wd A dT t') 0 0) → WS k 5 [(0, .ref (A 179)), (1, .int (Int32.ofInt v))] [] (Wd A dT t) 0 0 := by
    intro n
    induction n with
    | zero =>
      intro t v I F jjFDB hq hi hm kx
      exact absurd hm (Nat.not_lt_zero _)
    | succ n ih =>
      intro t v I F jjFDB hq hi hm kx
      have b1001 := bi_77 I
      have b1002 := bi_75 I
      have b1003 := bi_79 I
      have b1004 := bi_78 I
      have hN := jjFDB.2.1
      have hW := jjFDB.2.2
      refine z_aload_n X (x := A 179) rfl (List.Mem.head _) (z_getI X 179 rfl (c518_ok rfl) rfl rfl ?_)
      have b1005 := bi_79 I
      refine z_if_ne X (t := 55) rfl rfl (rng_to _) (fun g1006 => ?_) (fun g1006 => ?_)
      ·
        refine WS_pq [0, 1] (lv' := [(0, .ref (A 179)), (1, .int (Int32.ofInt v))]) rfl ?_
        exact kx _ v I F jjFDB (by first | exact prm_fa hq (by first | exact g1006 | (clear g1006 p3 p2; omega) | (clear p3 p2; omega) | omega) | exact prmb_end (prm_mv hq (by rw [show iI t 77 = sk B N (iI t 77) from hpt.1]; exact sk_sk) (by first | (clear g1006 p3 p2; omega) | (clear p3 p2; omega) | omega)) (by first | (clear g1006 p3 p2; omega) | (clear p3 p2; omega) | omega) (by rw [show sk B N (iI t 77) = sk B N (iI t 77) by rw [hpt.1]; exact sk_sk]; omega)) (by first | exact ⟨hi.1, hi.2.1, hi.2.2.1, hi.2.2.2.1, hi.2.2.2.2.1, hi.2.2.2.2.2.1, hi.2.2.2.2.2.2.1, hi.2.2.2.2.2.2.2⟩ | omega)
      ·
        refine z_aload_n X (x := A 179) rfl (List.Mem.head _) (z_callV X 179 (rm := rmN 201) (As := []) (st := []) rfl rfl (by decide) rfl (by rw [E.1, E.2.1, E.2.2.1]; exact k_wordHere3 G I jjFDB (by first | exact oq_179d6548 hi.2.2.1 p0 | omega)) ⟨by rw [E.2.2.2]; exact (show 8 + 1 ≤ (12 + (24 + 3 * (r) + 1)) from oq_39e70b4f r), by rw [E.2.2.2]; exact (show 8 + (3 + 11) + 141 ≤ (500 + 45 * (24 + 3 * (r) + 1)) from oq_c22861ba r), by rw [E.2.2.2]; exact Nat.le_refl 0, by rw [E.2.2.2]; exact Nat.le_refl 0⟩ (Nat.le_of_ble_eq_true rfl) (fun vv s1007 hq => ?_) (fun ee s1007 hq => ?_))
        rotate_left
        · obtain ⟨Is1007, Fs1007, JFDB_s1007, e1008, hv, hrs1007, hps1007⟩ := hq; cases hv
        obtain ⟨Is1007, Fs1007, JFDB_s1007, e1008, hv, hrs1007, hps1007⟩ := hq
        have hps1007p := And.intro hps1007.1 (And.intro hps1007.2.1 (hps1007.2.2.1))
        cases hv
        have Gs1007 := fm_tq F Fs1007 rfl rfl
        have JFDB_s1007 : FDB B N s1007 := FDB_fm Fs1007 (by decide) jjFDB
        have b1009 := bi_77 Is1007
        have ws1007_75 : iI s1007 75 = iI t 75 := fm_iq Fs1007 rfl
        have ws1007_79 : iI s1007 79 = iI t 79 := fm_iq Fs1007 rfl
        have ws1007_78 : iI s1007 78 = iI t 78 := fm_iq Fs1007 rfl
        show WS k 16 [(0, .ref (A 179)), (1, .int (Int32.ofInt v))] [.int (Int32.ofInt e1008)] (Wd A dT s1007) 0 0
        have hwv : e1008 = whV B N (sk B N (iI t 77)) := by rw [hps1007.2.1, hps1007.1]
        refine z_const X rfl (z_bipush X rfl (z_const X rfl (z_const X rfl (z_const X rfl (z_const X rfl (z_callS X (rm := rmN 202) (As := [.int (Int32.ofInt 1), .int (Int32.ofInt 14), .int (Int32.ofInt 4), .int (Int32.ofInt 0), .int (Int32.ofInt 0), .int (Int32.ofInt 0)]) (st := [.int (Int32.ofInt e1008)]) rfl rfl (by rw [E.1, E.2.1, E.2.2.1]; exact k_word3 G Is1007 (by first | exact ⟨by decide, by decide⟩ | omega) (by first | exact ⟨by decide, by decide⟩ | omega) (by first | exact ⟨by decide, by decide⟩ | omega) (by first | exact ⟨by decide, by decide⟩ | omega) (by first | exact ⟨by decide, by decide⟩ | omega) (by first | exact ⟨by decide, by decide⟩ | omega)) ⟨by rw [E.2.2.2]; exact (show 6 + 1 ≤ (12 + (24 + 3 * (r) + 1)) from oq_daac07eb r), by rw [E.2.2.2]; exact (show 8 + (7 + 11) + 100 ≤ (500 + 45 * (24 + 3 * (r) + 1)) from oq_40ed5dd2 r), by rw [E.2.2.2]; exact Nat.le_refl 0, by rw [E.2.2.2]; exact Nat.le_refl 0⟩ (Nat.le_of_ble_eq_true rfl) (fun vv s1010 hq => ?_) (fun ee s1010 hq => ?_)))))))
        rotate_left
        · obtain ⟨rfl, e1011, hv, hrs1010, hps1010⟩ := hq; cases hv
        obtain ⟨rfl, e1011, hv, hrs1010, hps1010⟩ := hq
        cases hv
        show WS k 26 [(0, .ref (A 179)), (1, .int (Int32.ofInt v))] [.int (Int32.ofInt e1011), .int (Int32.ofInt e1008)] (Wd A dT s1007) 0 0
        have hk1012 : e1011 = 1111 := by rw [hps1010.2]; decide
        refine z_icmp_ne X (t := 55) rfl rfl hrs1007 hrs1010 (fun g1013 => ?_) (fun g1013 => ?_)
        ·
          refine WS_pq [0, 1] (lv' := [(0, .ref (A 179)), (1, .int (Int32.ofInt v))]) rfl ?_
          exact kx _ v Is1007 Gs1007 JFDB_s1007 (by first | exact prm_fa hq (by first | (clear g1013 hps1007 p3 p2; omega) | (clear hps1007 p3 p2; omega) | omega) | exact prmb_end (prm_mv hq (by rw [show iI s1007 77 = sk B N (iI t 77) from hps1007.1]; exact sk_sk) (by first | exact ws1007_79 | (clear g1013 hps1007 p3 p2; omega) | (clear hps1007 p3 p2; omega) | omega)) (by first | exact oq_e5e5d3d6 ws1007_79 g1006 | (clear g1013 hps1007 p3 p2; omega) | (clear hps1007 p3 p2; omega) | omega) (by rw [show sk B N (iI s1007 77) = sk B N (iI t 77) by rw [hps1007.1]; exact sk_sk]; omega)) (by first | exact ⟨oq_1aa5be9e ws1007_78 hi.1, oq_f8a2cf0e hps1007.2.2.1 hi.2.1, by first | exact Or.inr (oq_5ad92592 hps1007.2.2.2 hN b1002.2 hi.2.2.1 p0) | (clear g1013 hps1007 p3 p2; omega) | (clear hps1007 p3 p2; omega) | omega, oq_67b737cd g1006 hi.2.2.2.1 b3.1, by first | exact oq_183a93b1 hps1007.2.2.2 g1006 hN hi.2.2.2.2.2.2.1 hi.2.2.2.2.1 | (clear g1013 hps1007 p3 p2; omega) | (clear hps1007 p3 p2; omega) | omega, oq_dbd39218 hps1007.2.2.1 hi.2.2.2.2.2.1 b3.1, oq_1aa5be9e ws1007_75 hi.2.2.2.2.2.2.1, hi.2.2.2.2.2.2.2⟩ | omega)
        ·
          refine z_aload_n X (x := A 179) rfl (List.Mem.head _) (z_callV X 179 (rm := rmN 203) (As := []) (st := []) rfl rfl (by decide) rfl (by rw [E.1, E.2.1, E.2.2.1]; exact k_skipWord3 G Is1007 JFDB_s1007 (by first | exact oq_b5fc2391 hps1007.2.2.2 hN b1002.2 hi.2.2.1 p0 | (clear hps1007 p3 p2; omega) | (clear p3 p2; omega) | omega)) ⟨by rw [E.2.2.2]; exact (show 7 + 1 ≤ (12 + (24 + 3 * (r) + 1)) from oq_ede76fc4 r), by rw [E.2.2.2]; exact (show 8 + (1 + 11) + 121 ≤ (500 + 45 * (24 + 3 * (r) + 1)) from oq_71ab51d5 r), by rw [E.2.2.2]; exact Nat.le_refl 0, by rw [E.2.2.2]; exact Nat.le_refl 0⟩ (Nat.le_of_ble_eq_true rfl) (fun vv s1014 hq => ?_) (fun ee s1014 hq => ?_))
          rotate_left
          · obtain ⟨Is1014, Fs1014, JFDB_s1014, hv, hps1014⟩ := hq; cases hv
          obtain ⟨Is1014, Fs1014, JFDB_s1014, hv, hps1014⟩ := hq
          have hps1014p := And.intro hps1014.1 (hps1014.2.1)
          cases hv
          have Gs1014 := fm_tq Gs1007 Fs1014 rfl rfl
          have JFDB_s1014 : FDB B N s1014 := FDB_fm Fs1014 (by decide) JFDB_s1007
          have b1016 := bi_77 Is1014
          have ws1014_75 : iI s1014 75 = iI s1007 75 := fm_iq Fs1014 rfl
          have ws1014_79 : iI s1014 79 = iI s1007 79 := fm_iq Fs1014 rfl
          have ws1014_78 : iI s1014 78 = iI s1007 78 := fm_iq Fs1014 rfl
          show WS k 33 [(0, .ref (A 179)), (1, .int (Int32.ofInt v))] [] (Wd A dT s1014) 0 0
          refine z_aload_n X (x := A 179) rfl (List.Mem.head _) (z_callV X 179 (rm := (rkR (24 + 3 * (r)))) (As := []) (st := []) rfl rfl (by decide) rfl (by rw [E.1, E.2.1, E.2.2.1]; exact hT Is1014 JFDB_s1014 (by first | exact oq_deb1667f hps1014.2.2 hps1007.2.2.2 hN b1002.2 hi.2.2.1 p0 | (clear hps1014 hps1007 p3 p2; omega) | (clear hps1007 p3 p2; omega) | omega) (by first | exact oq_55278851 ws1014_78 p1 ws1007_78 hi.1 | omega) (by first | exact oq_aee6e230 ws1014_78 ws1007_78 g1006 hi.2.2.2.1 hi.1 b3.1 p2 | omega) (by first | exact oq_cb25a427 hps1014.2.2 hps1007.2.2.2 g1006 hN b1002.2 hi.2.2.2.2.2.2.1 hi.2.2.2.2.1 | (clear hps1014 hps1007 p3 p2; omega) | (clear hps1007 p3 p2; omega) | omega)) ⟨by rw [E.2.2.2]; exact (show (12 + (24 + 3 * (r))) + 1 ≤ (12 + (24 + 3 * (r) + 1)) from oq_03e50da9 r), by rw [E.2.2.2]; exact (show 8 + (4 + 11) + (500 + 45 * (24 + 3 * (r))) ≤ (500 + 45 * (24 + 3 * (r) + 1)) from oq_cc4dfda7 r), by rw [E.2.2.2]; exact Nat.le_refl 0, by rw [E.2.2.2]; exact Nat.le_refl 0⟩ (Nat.le_of_ble_eq_true rfl) (fun vv s1017 hq => ?_) (fun ee s1017 hq => ?_))
          rotate_left
          · obtain ⟨Is1017, Fs1017, JFDB_s1017, e1018, hv, hrs1017, hps1017⟩ := hq; cases hv
          obtain ⟨Is1017, Fs1017, JFDB_s1017, e1018, hv, hrs1017, hps1017⟩ := hq
          have hps1017p := And.intro hps1017.1 (And.intro hps1017.2.1 (hps1017.2.2.2.2.2.2.2))
          cases hv
          have Gs1017 := fm_tq Gs1014 Fs1017 rfl rfl
          have JFDB_s1017 : FDB B N s1017 := FDB_fm Fs1017 (by decide) JFDB_s1014
          have b1019 := bi_77 Is1017
          have ws1017_75 : iI s1017 75 = iI s1014 75 := fm_iq Fs1017 rfl
          have b1020 := bi_79 Is1017
          have b1021 := bi_78 Is1017
          show WS k 37 [(0, .ref (A 179)), (1, .int (Int32.ofInt v))] [.int (Int32.ofInt e1018)] (Wd A dT s1017) 0 0
          refine z_store_n X (lv' := [(2, .int (Int32.ofInt e1018)), (0, .ref (A 179)), (1, .int (Int32.ofInt v))]) rfl (by decide) (fun _ h => h) (z_load_n X (x := v) rfl (List.Mem.tail _ (List.Mem.tail _ (List.Mem.head _))) ?_)
          have N1022 : ∀ e1023 : Int, (((v = 0) ∧ e1023 = 0) ∨ ((v ≠ 0) ∧ (e1018 = 0) ∧ e1023 = 0) ∨ ((v ≠ 0) ∧ (e1018 ≠ 0) ∧ e1023 = 1)) → WS k 51 [(2, .int (Int32.ofInt e1018)), (0, .ref (A 179)), (1, .int (Int32.ofInt v))] [.int (Int32.ofInt e1023)] (Wd A dT s1017) 0 0 := by
            intro e1023 he1023
            have re1023 : 0 ≤ e1023 ∧ e1023 ≤ 1 := by first | exact And.intro (oq_5ec18757 he1023) (oq_1480badc he1023) | (clear he1023 hps1017 hps1014 hps1007 p3 p2; omega) | (clear hps1017 hps1014 hps1007 p3 p2; omega) | omega
            refine z_store_n X (lv' := [(1, .int (Int32.ofInt e1023)), (2, .int (Int32.ofInt e1018)), (0, .ref (A 179))]) rfl (by decide) (fun _ h => h) (z_goto X (t := 5) rfl rfl (WS_pq [2, 0] (lv' := [(0, .ref (A 179)), (1, .int (Int32.ofInt e1023))]) rfl ?_))
            exact ih _ e1023 Is1017 Gs1017 JFDB_s1017 (prmb_up hq (by first | exact g1006 | (clear he1023 hps1017 hps1014 hps1007 p3 p2; omega) | (clear hps1017 hps1014 hps1007 p3 p2; omega) | omega) (by first | exact oq_c3ce2265 g1013 hk1012 hwv | (clear he1023 hps1017 hps1014 hps1007 p3 p2; omega) | (clear hps1017 hps1014 hps1007 p3 p2; omega) | omega) (by rw [show iI s1014 77 = wdE B N (sk B N (iI t 77)) by rw [hps1014.1, hps1007.1]]) (by first | exact oq_cd9cbf39 ws1014_79 ws1007_79 g1006 | (clear he1023 hps1017 hps1014 hps1007 p3 p2; omega) | (clear hps1017 hps1014 hps1007 p3 p2; omega) | omega) (by first | exact oq_878618b1 ws1014_78 ws1007_78 hi.1 | (clear he1023 hps1017 hps1014 hps1007 p3 p2; omega) | (clear hps1017 hps1014 hps1007 p3 p2; omega) | omega) hps1017.2.2.2.2.2.2.2) (by first | exact ⟨oq_ac0e91e1 hps1017.1 ws1014_78 ws1007_78 hi.1, oq_161ca6a3 hps1017.2.1 hi.2.1 hps1007.2.2.1 hps1014.2.1, oq_fe22fbe9 hps1017.2.2.2.2.2.1 hps1017.2.2.1 ws1014_79 ws1007_79 g1006, oq_67b737cd g1006 hi.2.2.2.1 b3.1, oq_cfa0a9a6 b1020.1 hps1017.2.2.2.2.1 ws1014_75 ws1007_75 hi.2.2.2.2.2.2.1, oq_346a0835 hps1017.2.2.2.2.2.1 ws1014_79 hps1014.2.1 ws1007_79 hps1007.2.2.1 g1006 hi.2.1, oq_45b593e3 ws1017_75 hi.2.2.2.2.2.2.1 ws1014_75 ws1007_75, oq_31e518ae re1023.2 re1023.1⟩ | omega) (by first | exact qk_me hm (oq_d64112c4 hps1017.2.2.2.2.2.1 ws1014_79 hps1014.2.1 ws1007_79 hps1007.2.2.1 g1006) (oq_a3e7b886 hi.2.2.1 p0) | omega) kx
          refine z_if_eq X (t := 50) rfl rfl ⟨by first | exact oq_bde653e9 hi.2.2.2.2.2.2.2 | omega, by first | exact oq_4ad2cb8b hi.2.2.2.2.2.2.2 | omega⟩ (fun g1024 => ?_) (fun g1024 => ?_)
          ·
            exact z_const X rfl (N1022 _ (Or.inl ⟨g1024, rfl⟩))
          ·
            refine z_load_n X (x := e1018) rfl (List.Mem.head _) (z_if_eq X (t := 50) rfl rfl hrs1017 (fun g1025 => ?_) (fun g1025 => ?_))
            ·
              exact z_const X rfl (N1022 _ (Or.inr (Or.inl ⟨g1024, g1025, rfl⟩)))
            ·
              exact z_const X rfl (z_goto X (t := 51) rfl rfl (N1022 _ (Or.inr (Or.inr (⟨g1024, g1025, rfl⟩)))))
  refine z_aload_n X (x := A 179) rfl (List.Mem.head _) (z_callV X 179 (rm := (rkR (24 + 3 * (r)))) (As := []) (st := []) rfl rfl (by decide) rfl (by rw [E.1, E.2.1, E.2.2.1]; exact hT I jFDB (by first | exact p0 | omega) (by first | exact p1 | omega) (by first | exact p2 | omega) (by first | exact p3 | omega)) ⟨by rw [E.2.2.2]; exact (show (12 + (24 + 3 * (r))) + 1 ≤ (12 + (24 + 3 * (r) + 1)) from oq_03e50da9 r), by rw [E.2.2.2]; exact (show 8 + (4 + 11) + (500 + 45 * (24 + 3 * (r))) ≤ (500 + 45 * (24 + 3 * (r) + 1)) from oq_cc4dfda7 r), by rw [E.2.2.2]; exact Nat.le_refl 0, by rw [E.2.2.2]; exact Nat.le_refl 0⟩ (Nat.le_of_ble_eq_true rfl) (fun vv s5 hq => ?_) (fun ee s5 hq => ?_))
  rotate_left
  · obtain ⟨Is5, Fs5, JFDB_s5, e6, hv, hrs5, hps5⟩ := hq; cases hv
  obtain ⟨Is5, Fs5, JFDB_s5, e6, hv, hrs5, hps5⟩ := hq
  have hps5p := And.intro hps5.1 (And.intro hps5.2.1 (hps5.2.2.2.2.2.2.2))
  cases hv
  have Gs5 := fm_tq F Fs5 rfl rfl
  have JFDB_s5 : FDB B N s5 := FDB_fm Fs5 (by decide) jFDB
  have b7 := bi_77 Is5
  have ws5_75 : iI s5 75 = iI s 75 := fm_iq Fs5 rfl
  have b8 := bi_79 Is5
  have b9 := bi_78 Is5
  show WS k 4 [(0, .ref (A 179))] [.int (Int32.ofInt e6)] (Wd A dT s5) 0 0
  refine z_store_n X (lv' := [(1, .int (Int32.ofInt e6)), (0, .ref (A 179))]) rfl (by decide) (fun _ h => h) (WS_pq [1, 0] (lv' := [(0, .ref (A 179)), (1, .int (Int32.ofInt e6))]) rfl (L5 ((204 - iI s5 77 : Int).toNat + 1) s5 e6 Is5 Gs5 JFDB_s5 (prmb_0 hps5.2.2.2.2.2.2.2) (by first | exact ⟨hps5.1, hps5.2.1, hps5.2.2.1, hps5.2.2.2.1, hps5.2.2.2.2.1, hps5.2.2.2.2.2.1, ws5_75, hps5.2.2.2.2.2.2.1⟩ | omega) (Nat.lt_succ_self _) ?_))
  intro s10 x11 Is10 Fs10 JFDB_s10 Qs10 hs10
  have b12 := bi_77 Is10
  have b13 := bi_75 Is10
  have b14 := bi_79 Is10
  have b15 := bi_78 Is10
  have hNs10 := JFDB_s10.2.1
  have hWs10 := JFDB_s10.2.2
  refine z_load_n X (x := x11) rfl (List.Mem.tail _ (List.Mem.head _)) ?_
  exact w_iret X.1 q hRt (nar_ret (by first | exact hs10.2.2.2.2.2.2.2 | omega)) (ax_d X (show cdA 211 56 = some (.ireturn, 1, 0, 0, 0) from rfl)) (Nat.zero_le _) (Nat.zero_le _) ⟨_, rfl, Is10, Fs10, JFDB_s10, x11, rfl, ⟨by first | exact oq_bde653e9 hs10.2.2.2.2.2.2.2 | omega, by first | exact oq_4ad2cb8b hs10.2.2.2.2.2.2.2 | omega⟩, ⟨by first | exact hs10.1 | omega, by first | exact hs10.2.1 | omega, by first | exact hs10.2.2.1 | omega, by first | exact hs10.2.2.2.1 | omega, by first | exact hs10.2.2.2.2.1 | omega, by first | exact hs10.2.2.2.2.2.1 | omega, by first | exact hs10.2.2.2.2.2.2.2 | omega, Qs10⟩⟩
set_option maxRecDepth 4000 in
theorem k_orsS3 (G : GX l s0 D tys a0 dT) {B : Nat → Int} {N : Int} {r : Nat} (hT : ∀ {s : PS}, Bd s → FDB B N s → (iI s 77 ≤ 203) → (iI s 78 + ((r : Nat) : Int) = 7) → (iI s 78 = 7 → iI s 79 ≠ 0) → (iI s 79 = 0 → iI s 77 ≤ 202) → CT l s0 D A dT 211 (rkR (24 + 3 * (r) + 1)) [.ref (A 179)] s (fun o t => Bd t ∧ Fm [77, 79, 80, 78] [] s t ∧ FDB B N t ∧ ∃ e, o = .inl (some (.int (Int32.ofInt e))) ∧ rng e ∧ (iI t 78 = iI s 78 ∧ iI s 77 ≤ iI t 77 ∧ (iI t 77 = iI s 77 ∨ iI t 77 ≤ 203) ∧ (iI s 79 ≠ 0 → iI t 79 ≠ 0) ∧ (iI t 79 = 0 → iI t 77 ≤ iI s 75) ∧ (iI s 79 = 0 → iI s 77 < iI t 77) ∧ (e = 0 ∨ e = 1) ∧ PFm B N 6 s t))) (I : Bd s) (jFDB : FDB B N s) (p0 : iI s 77 ≤ 203) (p1 : iI s 78 + ((r : Nat) : Int) = 7) (p2 : iI s 78 = 7 → iI s 79 ≠ 0) (p3 : iI s 79 = 0 → iI s 77 ≤ 202) : CT l s0 D A dT 212 (rkR (24 + 3 * (r) + 2)) [.ref (A 179)] s (fun o t => Bd t ∧ Fm [77, 79, 80, 78] [] s t ∧ FDB B N t ∧ ∃ e, o = .inl (some (.int (Int32.ofInt e))) ∧ rng e ∧ (iI t 78 = iI s 78 ∧ iI s 77 ≤ iI t 77 ∧ (iI t 77 = iI s 77 ∨ iI t 77 ≤ 203) ∧ (iI s 79 ≠ 0 → iI t 79 ≠ 0) ∧ (iI t 79 = 0 → iI t 77 ≤ iI s 75) ∧ (iI s 79 = 0 → iI s 77 < iI t 77) ∧ (e = 0 ∨ e = 1) ∧ PFm B N 8 s t)) := by
  refine ct_of G (by decide) (Nat.le_of_ble_eq_true rfl) (fun k X E hRt hXt q => ?_)
  show WS k 0 [(0, .ref (A 179))] [] _ 0 0
  have F : Fm [77, 79, 80, 78] [] s s := fm_rf _ _ s
  have hN := jFDB.2.1
  have hW := jFDB.2.2
  have b1 := bi_77 I
  have b2 := bi_75 I
  have b3 := bi_79 I
  have b4 := bi_78 I
  have L5 : ∀ (n : Nat) (t : PS) (v : Int), Bd t → Fm [77, 79, 80, 78] [] s t → FDB B N t → (PRm B N 9 8 s t) → (iI t 78 = iI s 78 ∧ iI s 77 ≤ iI t 77 ∧ (iI t 77 = iI s 77 ∨ iI t 77 ≤ 203) ∧ (iI s 79 ≠ 0 → iI t 79 ≠ 0) ∧ (iI t 79 = 0 → iI t 77 ≤ iI s 75) ∧ (iI s 79 = 0 → iI s 77 < iI t 77) ∧ iI t 75 = iI s 75 ∧ (v = 0 ∨ v = 1)) → (204 - iI t 77 : Int).toNat < n → (∀ (t' : PS) (v' : Int), Bd t' → Fm [77, 79, 80, 78] [] s t' → FDB B N t' → (PFm B N 8 s t') → (iI t' 78 = iI s 78 ∧ iI s 77 ≤ iI t' 77 ∧ (iI t' 77 = iI s 77 ∨ iI t' 77 ≤ 203) ∧ (iI s 79 ≠ 0 → iI t' 79 ≠ 0) ∧ (iI t' 79 = 0 → iI t' 77 ≤ iI s 75) ∧ (iI s 79 = 0 → iI s 77 < iI t' 77) ∧ iI t' 75 = iI s 75 ∧ (v' = 0 ∨ v' = 1)) → WS k 56 [(0, .ref (A 179)), (1, .int (Int32.ofInt v'))] [] (Wd A dT t') 0 0) → WS k 5 [(0, .ref (A 179)), (1, .int (Int32.ofInt v))] [] (Wd A dT t) 0 0 := by
    intro n
    induction n with
    | zero =>
      intro t v I F jjFDB hq hi hm kx
      exact absurd hm (Nat.not_lt_zero _)
    | succ n ih =>
      intro t v I F jjFDB hq hi hm kx
      have b1001 := bi_77 I
      have b1002 := bi_75 I
      have b1003 := bi_79 I
      have b1004 := bi_78 I
      have hN := jjFDB.2.1
      have hW := jjFDB.2.2
      refine z_aload_n X (x := A 179) rfl (List.Mem.head _) (z_getI X 179 rfl (c518_ok rfl) rfl rfl ?_)
      have b1005 := bi_79 I
      refine z_if_ne X (t := 56) rfl rfl (rng_to _) (fun g1006 => ?_) (fun g1006 => ?_)
      ·
        refine WS_pq [0, 1] (lv' := [(0, .ref (A 179)), (1, .int (Int32.ofInt v))]) rfl ?_
        exact kx _ v I F jjFDB (by first | exact prm_fa hq (by first | exact g1006 | (clear g1006 p3 p2; omega) | (clear p3 p2; omega) | omega) | exact prme_end (prm_mv hq (by rw [show iI t 77 = sk B N (iI t 77) from hpt.1]; exact sk_sk) (by first | (clear g1006 p3 p2; omega) | (clear p3 p2; omega) | omega)) (by first | (clear g1006 p3 p2; omega) | (clear p3 p2; omega) | omega) (by rw [show sk B N (iI t 77) = sk B N (iI t 77) by rw [hpt.1]; exact sk_sk]; omega)) (by first | exact ⟨hi.1, hi.2.1, hi.2.2.1, hi.2.2.2.1, hi.2.2.2.2.1, hi.2.2.2.2.2.1, hi.2.2.2.2.2.2.1, hi.2.2.2.2.2.2.2⟩ | omega)
      ·
        refine z_aload_n X (x := A 179) rfl (List.Mem.head _) (z_callV X 179 (rm := rmN 201) (As := []) (st := []) rfl rfl (by decide) rfl (by rw [E.1, E.2.1, E.2.2.1]; exact k_wordHere3 G I jjFDB (by first | exact oq_179d6548 hi.2.2.1 p0 | omega)) ⟨by rw [E.2.2.2]; exact (show 8 + 1 ≤ (12 + (24 + 3 * (r) + 2)) from oq_b9f2246e r), by rw [E.2.2.2]; exact (show 8 + (3 + 11) + 141 ≤ (500 + 45 * (24 + 3 * (r) + 2)) from oq_ae9e04d0 r), by rw [E.2.2.2]; exact Nat.le_refl 0, by rw [E.2.2.2]; exact Nat.le_refl 0⟩ (Nat.le_of_ble_eq_true rfl) (fun vv s1007 hq => ?_) (fun ee s1007 hq => ?_))
        rotate_left
        · obtain ⟨Is1007, Fs1007, JFDB_s1007, e1008, hv, hrs1007, hps1007⟩ := hq; cases hv
        obtain ⟨Is1007, Fs1007, JFDB_s1007, e1008, hv, hrs1007, hps1007⟩ := hq
        have hps1007p := And.intro hps1007.1 (And.intro hps1007.2.1 (hps1007.2.2.1))
        cases hv
        have Gs1007 := fm_tq F Fs1007 rfl rfl
        have JFDB_s1007 : FDB B N s1007 := FDB_fm Fs1007 (by decide) jjFDB
        have b1009 := bi_77 Is1007
        have ws1007_75 : iI s1007 75 = iI t 75 := fm_iq Fs1007 rfl
        have ws1007_79 : iI s1007 79 = iI t 79 := fm_iq Fs1007 rfl
        have ws1007_78 : iI s1007 78 = iI t 78 := fm_iq Fs1007 rfl
        show WS k 16 [(0, .ref (A 179)), (1, .int (Int32.ofInt v))] [.int (Int32.ofInt e1008)] (Wd A dT s1007) 0 0
        have hwv : e1008 = whV B N (sk B N (iI t 77)) := by rw [hps1007.2.1, hps1007.1]
        refine z_bipush X rfl (z_bipush X rfl (z_const X rfl (z_const X rfl (z_const X rfl (z_const X rfl (z_callS X (rm := rmN 202) (As := [.int (Int32.ofInt 15), .int (Int32.ofInt 18), .int (Int32.ofInt 0), .int (Int32.ofInt 0), .int (Int32.ofInt 0), .int (Int32.ofInt 0)]) (st := [.int (Int32.ofInt e1008)]) rfl rfl (by rw [E.1, E.2.1, E.2.2.1]; exact k_word3 G Is1007 (by first | exact ⟨by decide, by decide⟩ | omega) (by first | exact ⟨by decide, by decide⟩ | omega) (by first | exact ⟨by decide, by decide⟩ | omega) (by first | exact ⟨by decide, by decide⟩ | omega) (by first | exact ⟨by decide, by decide⟩ | omega) (by first | exact ⟨by decide, by decide⟩ | omega)) ⟨by rw [E.2.2.2]; exact (show 6 + 1 ≤ (12 + (24 + 3 * (r) + 2)) from oq_4491863e r), by rw [E.2.2.2]; exact (show 8 + (7 + 11) + 100 ≤ (500 + 45 * (24 + 3 * (r) + 2)) from oq_c822b081 r), by rw [E.2.2.2]; exact Nat.le_refl 0, by rw [E.2.2.2]; exact Nat.le_refl 0⟩ (Nat.le_of_ble_eq_true rfl) (fun vv s1010 hq => ?_) (fun ee s1010 hq => ?_)))))))
        rotate_left
        · obtain ⟨rfl, e1011, hv, hrs1010, hps1010⟩ := hq; cases hv
        obtain ⟨rfl, e1011, hv, hrs1010, hps1010⟩ := hq
        cases hv
        show WS k 27 [(0, .ref (A 179)), (1, .int (Int32.ofInt v))] [.int (Int32.ofInt e1011), .int (Int32.ofInt e1008)] (Wd A dT s1007) 0 0
        have hk1012 : e1011 = 423 := by rw [hps1010.2]; decide
        refine z_icmp_ne X (t := 56) rfl rfl hrs1007 hrs1010 (fun g1013 => ?_) (fun g1013 => ?_)
        ·
          refine WS_pq [0, 1] (lv' := [(0, .ref (A 179)), (1, .int (Int32.ofInt v))]) rfl ?_
          exact kx _ v Is1007 Gs1007 JFDB_s1007 (by first | exact prm_fa hq (by first | (clear g1013 hps1007 p3 p2; omega) | (clear hps1007 p3 p2; omega) | omega) | exact prme_end (prm_mv hq (by rw [show iI s1007 77 = sk B N (iI t 77) from hps1007.1]; exact sk_sk) (by first | exact ws1007_79 | (clear g1013 hps1007 p3 p2; omega) | (clear hps1007 p3 p2; omega) | omega)) (by first | exact oq_e5e5d3d6 ws1007_79 g1006 | (clear g1013 hps1007 p3 p2; omega) | (clear hps1007 p3 p2; omega) | omega) (by rw [show sk B N (iI s1007 77) = sk B N (iI t 77) by rw [hps1007.1]; exact sk_sk]; omega)) (by first | exact ⟨oq_1aa5be9e ws1007_78 hi.1, oq_f8a2cf0e hps1007.2.2.1 hi.2.1, by first | exact Or.inr (oq_5ad92592 hps1007.2.2.2 hN b1002.2 hi.2.2.1 p0) | (clear g1013 hps1007 p3 p2; omega) | (clear hps1007 p3 p2; omega) | omega, oq_67b737cd g1006 hi.2.2.2.1 b3.1, by first | exact oq_183a93b1 hps1007.2.2.2 g1006 hN hi.2.2.2.2.2.2.1 hi.2.2.2.2.1 | (clear g1013 hps1007 p3 p2; omega) | (clear hps1007 p3 p2; omega) | omega, oq_dbd39218 hps1007.2.2.1 hi.2.2.2.2.2.1 b3.1, oq_1aa5be9e ws1007_75 hi.2.2.2.2.2.2.1, hi.2.2.2.2.2.2.2⟩ | omega)
        ·
          refine z_aload_n X (x := A 179) rfl (List.Mem.head _) (z_callV X 179 (rm := rmN 203) (As := []) (st := []) rfl rfl (by decide) rfl (by rw [E.1, E.2.1, E.2.2.1]; exact k_skipWord3 G Is1007 JFDB_s1007 (by first | exact oq_b5fc2391 hps1007.2.2.2 hN b1002.2 hi.2.2.1 p0 | (clear hps1007 p3 p2; omega) | (clear p3 p2; omega) | omega)) ⟨by rw [E.2.2.2]; exact (show 7 + 1 ≤ (12 + (24 + 3 * (r) + 2)) from oq_9f278ef5 r), by rw [E.2.2.2]; exact (show 8 + (1 + 11) + 121 ≤ (500 + 45 * (24 + 3 * (r) + 2)) from oq_6c94e1da r), by rw [E.2.2.2]; exact Nat.le_refl 0, by rw [E.2.2.2]; exact Nat.le_refl 0⟩ (Nat.le_of_ble_eq_true rfl) (fun vv s1014 hq => ?_) (fun ee s1014 hq => ?_))
          rotate_left
          · obtain ⟨Is1014, Fs1014, JFDB_s1014, hv, hps1014⟩ := hq; cases hv
          obtain ⟨Is1014, Fs1014, JFDB_s1014, hv, hps1014⟩ := hq
          have hps1014p := And.intro hps1014.1 (hps1014.2.1)
          cases hv
          have Gs1014 := fm_tq Gs1007 Fs1014 rfl rfl
          have JFDB_s1014 : FDB B N s1014 := FDB_fm Fs1014 (by decide) JFDB_s1007
          have b1016 := bi_77 Is1014
          have ws1014_75 : iI s1014 75 = iI s1007 75 := fm_iq Fs1014 rfl
          have ws1014_79 : iI s1014 79 = iI s1007 79 := fm_iq Fs1014 rfl
          have ws1014_78 : iI s1014 78 = iI s1007 78 := fm_iq Fs1014 rfl
          show WS k 34 [(0, .ref (A 179)), (1, .int (Int32.ofInt v))] [] (Wd A dT s1014) 0 0
          refine z_aload_n X (x := A 179) rfl (List.Mem.head _) (z_callV X 179 (rm := (rkR (24 + 3 * (r) + 1))) (As := []) (st := []) rfl rfl (by decide) rfl (by rw [E.1, E.2.1, E.2.2.1]; exact hT Is1014 JFDB_s1014 (by first | exact oq_deb1667f hps1014.2.2 hps1007.2.2.2 hN b1002.2 hi.2.2.1 p0 | (clear hps1014 hps1007 p3 p2; omega) | (clear hps1007 p3 p2; omega) | omega) (by first | exact oq_55278851 ws1014_78 p1 ws1007_78 hi.1 | omega) (by first | exact oq_aee6e230 ws1014_78 ws1007_78 g1006 hi.2.2.2.1 hi.1 b3.1 p2 | omega) (by first | exact oq_cb25a427 hps1014.2.2 hps1007.2.2.2 g1006 hN b1002.2 hi.2.2.2.2.2.2.1 hi.2.2.2.2.1 | (clear hps1014 hps1007 p3 p2; omega) | (clear hps1007 p3 p2; omega) | omega)) ⟨by rw [E.2.2.2]; exact (show (12 + (24 + 3 * (r) + 1)) + 1 ≤ (12 + (24 + 3 * (r) + 2)) from oq_137d3732 r), by rw [E.2.2.2]; exact (show 8 + (3 + 11) + (500 + 45 * (24 + 3 * (r) + 1)) ≤ (500 + 45 * (24 + 3 * (r) + 2)) from oq_58b847aa r), by rw [E.2.2.2]; exact Nat.le_refl 0, by rw [E.2.2.2]; exact Nat.le_refl 0⟩ (Nat.le_of_ble_eq_true rfl) (fun vv s1017 hq => ?_) (fun ee s1017 hq => ?_))
          rotate_left
          · obtain ⟨Is1017, Fs1017, JFDB_s1017, e1018, hv, hrs1017, hps1017⟩ := hq; cases hv
          obtain ⟨Is1017, Fs1017, JFDB_s1017, e1018, hv, hrs1017, hps1017⟩ := hq
          have hps1017p := And.intro hps1017.1 (And.intro hps1017.2.1 (hps1017.2.2.2.2.2.2.2))
          cases hv
          have Gs1017 := fm_tq Gs1014 Fs1017 rfl rfl
          have JFDB_s1017 : FDB B N s1017 := FDB_fm Fs1017 (by decide) JFDB_s1014
          have b1019 := bi_77 Is1017
          have ws1017_75 : iI s1017 75 = iI s1014 75 := fm_iq Fs1017 rfl
          have b1020 := bi_79 Is1017
          have b1021 := bi_78 Is1017
          show WS k 38 [(0, .ref (A 179)), (1, .int (Int32.ofInt v))] [.int (Int32.ofInt e1018)] (Wd A dT s1017) 0 0
          refine z_store_n X (lv' := [(2, .int (Int32.ofInt e1018)), (0, .ref (A 179)), (1, .int (Int32.ofInt v))]) rfl (by decide) (fun _ h => h) (z_load_n X (x := v) rfl (List.Mem.tail _ (List.Mem.tail _ (List.Mem.head _))) ?_)
          have N1022 : ∀ e1023 : Int, (((v ≠ 0) ∧ e1023 = 1) ∨ ((v = 0) ∧ (e1018 = 0) ∧ e1023 = 0) ∨ ((v = 0) ∧ (e1018 ≠ 0) ∧ e1023 = 1)) → WS k 52 [(2, .int (Int32.ofInt e1018)), (0, .ref (A 179)), (1, .int (Int32.ofInt v))] [.int (Int32.ofInt e1023)] (Wd A dT s1017) 0 0 := by
            intro e1023 he1023
            have re1023 : 0 ≤ e1023 ∧ e1023 ≤ 1 := by first | exact And.intro (oq_128baec7 he1023) (oq_3e604e9c he1023) | (clear he1023 hps1017 hps1014 hps1007 p3 p2; omega) | (clear hps1017 hps1014 hps1007 p3 p2; omega) | omega
            refine z_store_n X (lv' := [(1, .int (Int32.ofInt e1023)), (2, .int (Int32.ofInt e1018)), (0, .ref (A 179))]) rfl (by decide) (fun _ h => h) (z_goto X (t := 5) rfl rfl (WS_pq [2, 0] (lv' := [(0, .ref (A 179)), (1, .int (Int32.ofInt e1023))]) rfl ?_))
            exact ih _ e1023 Is1017 Gs1017 JFDB_s1017 (prme_up hq (by first | exact g1006 | (clear he1023 hps1017 hps1014 hps1007 p3 p2; omega) | (clear hps1017 hps1014 hps1007 p3 p2; omega) | omega) (by first | exact oq_3068fdfc g1013 hk1012 hwv | (clear he1023 hps1017 hps1014 hps1007 p3 p2; omega) | (clear hps1017 hps1014 hps1007 p3 p2; omega) | omega) (by rw [show iI s1014 77 = wdE B N (sk B N (iI t 77)) by rw [hps1014.1, hps1007.1]]) (by first | exact oq_cd9cbf39 ws1014_79 ws1007_79 g1006 | (clear he1023 hps1017 hps1014 hps1007 p3 p2; omega) | (clear hps1017 hps1014 hps1007 p3 p2; omega) | omega) (by first | exact oq_878618b1 ws1014_78 ws1007_78 hi.1 | (clear he1023 hps1017 hps1014 hps1007 p3 p2; omega) | (clear hps1017 hps1014 hps1007 p3 p2; omega) | omega) hps1017.2.2.2.2.2.2.2) (by first | exact ⟨oq_ac0e91e1 hps1017.1 ws1014_78 ws1007_78 hi.1, oq_161ca6a3 hps1017.2.1 hi.2.1 hps1007.2.2.1 hps1014.2.1, oq_fe22fbe9 hps1017.2.2.2.2.2.1 hps1017.2.2.1 ws1014_79 ws1007_79 g1006, oq_67b737cd g1006 hi.2.2.2.1 b3.1, oq_cfa0a9a6 b1020.1 hps1017.2.2.2.2.1 ws1014_75 ws1007_75 hi.2.2.2.2.2.2.1, oq_346a0835 hps1017.2.2.2.2.2.1 ws1014_79 hps1014.2.1 ws1007_79 hps1007.2.2.1 g1006 hi.2.1, oq_45b593e3 ws1017_75 hi.2.2.2.2.2.2.1 ws1014_75 ws1007_75, oq_31e518ae re1023.2 re1023.1⟩ | omega) (by first | exact qk_me hm (oq_d64112c4 hps1017.2.2.2.2.2.1 ws1014_79 hps1014.2.1 ws1007_79 hps1007.2.2.1 g1006) (oq_a3e7b886 hi.2.2.1 p0) | omega) kx
          refine z_if_ne X (t := 47) rfl rfl ⟨by first | exact oq_bde653e9 hi.2.2.2.2.2.2.2 | omega, by first | exact oq_4ad2cb8b hi.2.2.2.2.2.2.2 | omega⟩ (fun g1024 => ?_) (fun g1024 => ?_)
          ·
            exact z_const X rfl (z_goto X (t := 52) rfl rfl (N1022 _ (Or.inl ⟨g1024, rfl⟩)))
          ·
            refine z_load_n X (x := e1018) rfl (List.Mem.head _) (z_if_eq X (t := 51) rfl rfl hrs1017 (fun g1025 => ?_) (fun g1025 => ?_))
            ·
              exact z_const X rfl (N1022 _ (Or.inr (Or.inl ⟨g1024, g1025, rfl⟩)))
            ·
              exact z_const X rfl (z_goto X (t := 52) rfl rfl (N1022 _ (Or.inr (Or.inr (⟨g1024, g1025, rfl⟩)))))
  refine z_aload_n X (x := A 179) rfl (List.Mem.head _) (z_callV X 179 (rm := (rkR (24 + 3 * (r) + 1))) (As := []) (st := []) rfl rfl (by decide) rfl (by rw [E.1, E.2.1, E.2.2.1]; exact hT I jFDB (by first | exact p0 | omega) (by first | exact p1 | omega) (by first | exact p2 | omega) (by first | exact p3 | omega)) ⟨by rw [E.2.2.2]; exact (show (12 + (24 + 3 * (r) + 1)) + 1 ≤ (12 + (24 + 3 * (r) + 2)) from oq_137d3732 r), by rw [E.2.2.2]; exact (show 8 + (3 + 11) + (500 + 45 * (24 + 3 * (r) + 1)) ≤ (500 + 45 * (24 + 3 * (r) + 2)) from oq_58b847aa r), by rw [E.2.2.2]; exact Nat.le_refl 0, by rw [E.2.2.2]; exact Nat.le_refl 0⟩ (Nat.le_of_ble_eq_true rfl) (fun vv s5 hq => ?_) (fun ee s5 hq => ?_))
  rotate_left
  · obtain ⟨Is5, Fs5, JFDB_s5, e6, hv, hrs5, hps5⟩ := hq; cases hv
  obtain ⟨Is5, Fs5, JFDB_s5, e6, hv, hrs5, hps5⟩ := hq
  have hps5p := And.intro hps5.1 (And.intro hps5.2.1 (hps5.2.2.2.2.2.2.2))
  cases hv
  have Gs5 := fm_tq F Fs5 rfl rfl
  have JFDB_s5 : FDB B N s5 := FDB_fm Fs5 (by decide) jFDB
  have b7 := bi_77 Is5
  have ws5_75 : iI s5 75 = iI s 75 := fm_iq Fs5 rfl
  have b8 := bi_79 Is5
  have b9 := bi_78 Is5
  show WS k 4 [(0, .ref (A 179))] [.int (Int32.ofInt e6)] (Wd A dT s5) 0 0
  refine z_store_n X (lv' := [(1, .int (Int32.ofInt e6)), (0, .ref (A 179))]) rfl (by decide) (fun _ h => h) (WS_pq [1, 0] (lv' := [(0, .ref (A 179)), (1, .int (Int32.ofInt e6))]) rfl (L5 ((204 - iI s5 77 : Int).toNat + 1) s5 e6 Is5 Gs5 JFDB_s5 (prme_0 hps5.2.2.2.2.2.2.2) (by first | exact ⟨hps5.1, hps5.2.1, hps5.2.2.1, hps5.2.2.2.1, hps5.2.2.2.2.1, hps5.2.2.2.2.2.1, ws5_75, hps5.2.2.2.2.2.2.1⟩ | omega) (Nat.lt_succ_self _) ?_))
  intro s10 x11 Is10 Fs10 JFDB_s10 Qs10 hs10
  have b12 := bi_77 Is10
  have b13 := bi_75 Is10
  have b14 := bi_79 Is10
  have b15 := bi_78 Is10
  have hNs10 := JFDB_s10.2.1
  have hWs10 := JFDB_s10.2.2
  refine z_load_n X (x := x11) rfl (List.Mem.tail _ (List.Mem.head _)) ?_
  exact w_iret X.1 q hRt (nar_ret (by first | exact hs10.2.2.2.2.2.2.2 | omega)) (ax_d X (show cdA 212 57 = some (.ireturn, 1, 0, 0, 0) from rfl)) (Nat.zero_le _) (Nat.zero_le _) ⟨_, rfl, Is10, Fs10, JFDB_s10, x11, rfl, ⟨by first | exact oq_bde653e9 hs10.2.2.2.2.2.2.2 | omega, by first | exact oq_4ad2cb8b hs10.2.2.2.2.2.2.2 | omega⟩, ⟨by first | exact hs10.1 | omega, by first | exact hs10.2.1 | omega, by first | exact hs10.2.2.1 | omega, by first | exact hs10.2.2.2.1 | omega, by first | exact hs10.2.2.2.2.1 | omega, by first | exact hs10.2.2.2.2.2.1 | omega, by first | exact hs10.2.2.2.2.2.2.2 | omega, Qs10⟩⟩
end M87g
