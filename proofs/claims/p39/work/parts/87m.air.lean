theorem oq_d33d513d {n0 : Nat}  : (n0 % 2) < 2 := by omega
theorem oq_46499b33 {n0 : Nat}  : (n0 / 2) ≤ n0 := by omega
theorem oq_2a15be9d {n0 : Nat}  : (n0 % 4) < 4 := by omega
theorem oq_6d7a0b49 {n0 : Nat}  : (n0 % 256) < 256 := by omega
theorem oq_f7abf056 {n0 : Nat}  : n0 = ((256 * (n0 / 256)) + (n0 % 256)) := by omega
theorem oq_bfeb363d {n0 : Nat}  : ((256 * (n0 / 256)) + (n0 % 256)) = n0 := by omega
theorem oq_d474ea15 {a0 : Int} (h0 : (a0 % 16) ≤ 4) : (a0 % 16) ≤ 7 := by omega
theorem oq_738ea5ac {n0 n1 n2 : Nat} (h0 : n0 < 256) (h1 : n1 = ((256 * n2) + n0)) : (n1 / 256) = n2 := by omega
theorem oq_9b699e67 {n0 n1 n2 n3 n4 n5 n6 : Nat} (h0 : n0 = ((256 * n1) + n2)) (h1 : n3 = ((256 * n0) + n4)) (h2 : n5 = ((256 * n3) + n6)) : (n5 + n3) = ((256 * ((256 * (n0 + n1)) + (n4 + n2))) + (n6 + n4)) := by omega
theorem oq_f7ccc17e {n0 n1 n2 n3 n4 n5 n6 n7 n8 : Nat} (h0 : n0 = ((256 * n1) + n2)) (h1 : n3 = ((256 * n0) + n4)) (h2 : n5 = ((256 * n3) + n6)) (h3 : n7 = ((256 * n5) + n8)) : ((n7 + n5) + (n3 + n0)) = ((256 * ((n5 + n3) + (n0 + n1))) + (((n8 + n6) + n4) + n2)) := by omega
theorem oq_b0c37cbc {n0 n1 n2 n3 : Nat} (h0 : n0 ≤ 8) (h1 : n1 ≤ n2) (h2 : n3 = ((256 * n1) + n0)) : n3 ≤ ((256 * n2) + 8) := by omega
theorem oq_5e42da3a {n0 : Nat}  : (8 * (n0 + 1)) = (8 + (8 * n0)) := by omega
theorem oq_842065db {a2 : Int} {n0 n1 : Nat} (h0 : (n0 + n1) = (a2 : Int).toNat) (h1 : ((n0 : Nat) : Int) ≤ a2) : (((n0 : Nat) : Int) + ((n1 : Nat) : Int)) = a2 := by omega
theorem oq_cc0bb32b {a1 : Int} {n0 : Nat} (h0 : n0 = (a1 : Int).toNat) (h1 : 0 ≤ a1) : ((n0 : Nat) : Int) = a1 := by omega
theorem oq_15bd8e2f {a1 : Int} {n0 : Nat} (h0 : ((n0 : Nat) : Int) = a1) : n0 = (a1 : Int).toNat := by omega
theorem oq_680a9fbc {a2 : Int} {n0 n1 : Nat} (h0 : (((n0 : Nat) : Int) + ((n1 : Nat) : Int)) = a2) : (n0 + n1) = (a2 : Int).toNat := by omega
theorem oq_2097a867 {a3 : Int} {n0 n1 n2 : Nat} (h0 : (n0 < n1 ∨ (n1 + n2) ≤ n0)) (h1 : a3 < (((n1 : Nat) : Int) + ((n2 : Nat) : Int))) (h2 : ((n1 : Nat) : Int) ≤ a3) : n0 ≠ (a3 : Int).toNat := by omega
theorem oq_8716fe40 {a1 : Int} {n0 : Nat} (h0 : n0 < 0) : a1 = 0 := by omega
theorem oq_ecf5fbd0 {a2 : Int} {n0 n1 n3 : Nat} (h0 : (¬ ((n0 + n1) = (a2 : Int).toNat))) (h1 : n1 < (n3 + 1)) (h2 : a2 = (((n0 : Nat) : Int) + ((n3 : Nat) : Int))) : n1 < n3 := by omega
theorem oq_d8c45a97 {a3 : Int} {n0 n1 n2 : Nat} (h0 : (n0 < n1 ∨ (n1 + (n2 + 1)) ≤ n0)) (h1 : a3 = (((n1 : Nat) : Int) + ((n2 : Nat) : Int))) : n0 ≠ (a3 : Int).toNat := by omega
theorem oq_7f4d22dd {n0 n1 n2 : Nat} (h0 : (n0 < n1 ∨ (n1 + (n2 + 1)) ≤ n0)) : (n0 < n1 ∨ (n1 + n2) ≤ n0) := by omega
theorem oq_23736893 {a0 a1 : Int} (h0 : (a0 + 1) < a1) (h1 : 0 ≤ a0) : ((((a0 : Int).toNat : Nat) : Int) + 1) < a1 := by omega
theorem oq_15b38ff8 {a1 a2 : Int} {n0 : Nat} (h0 : (((n0 : Nat) : Int) + 1) < a1) (h1 : a1 ≤ (a2 + 1)) : ((n0 : Nat) : Int) < a2 := by omega
theorem oq_7e450c4a {a1 : Int} {n0 : Nat} (h0 : (((n0 : Nat) : Int) + 1) < a1) : ((n0 : Nat) : Int) < a1 := by omega
theorem oq_b1ef80e7 {a1 : Int} {n0 : Nat} (h0 : (((n0 : Nat) : Int) + 1) < a1) : (((n0 + 1) : Nat) : Int) < a1 := by omega
theorem oq_7142b17e {a0 a1 a2 a3 : Int} (h0 : (a0 % 64) ≤ 63) (h1 : 0 ≤ (a0 % 64)) (h2 : 0 ≤ a1) (h3 : (a2 % 64) ≤ 63) (h4 : 0 ≤ (a2 % 64)) (h5 : 0 ≤ a3) (h6 : (((a3 * 64) + (a2 % 64)) : Int).toNat = (((a1 * 64) + (a0 % 64)) : Int).toNat) : a3 = a1 := by omega
theorem oq_f319d573 {a0 a1 a2 a3 : Int} (h0 : a0 = a1) (h1 : 0 ≤ (a2 % 64)) (h2 : 0 ≤ a1) (h3 : 0 ≤ (a3 % 64)) (h4 : 0 ≤ a0) (h5 : (((a0 * 64) + (a3 % 64)) : Int).toNat = (((a1 * 64) + (a2 % 64)) : Int).toNat) : (a3 % 64) = (a2 % 64) := by omega
theorem oq_9d2ce241 {a1 : Int} {n0 : Nat} (h0 : n0 < ((a1 - 1) : Int).toNat) : (((n0 : Nat) : Int) + 1) < a1 := by omega
theorem oq_c5f8261e {a1 : Int} {n0 n2 : Nat} (h0 : n0 < ((a1 - 1) : Int).toNat) (h1 : n2 < ((a1 - 1) : Int).toNat) : (((n0 : Nat) : Int) + 1) < a1 := by omega
theorem oq_5a3927c1 {a1 : Int} {n0 : Nat} (h0 : (((n0 : Nat) : Int) + 1) < a1) : n0 < ((a1 - 1) : Int).toNat := by omega
theorem oq_15e35fec {a1 : Int} {n0 : Nat} (h0 : n0 < ((a1 - 1) : Int).toNat) : ((n0 : Nat) : Int) < a1 := by omega
theorem oq_b4ed670a {a0 a1 : Int} {n2 n3 : Nat} (h0 : (a0 % 64) ≤ 63) (h1 : 0 ≤ (a0 % 64)) (h2 : 0 ≤ a1) (h3 : (((a1 * 64) + (a0 % 64)) : Int).toNat = ((n2 * 64) + n3)) (h4 : n3 < 64) : a1 = ((n2 : Nat) : Int) := by omega
theorem oq_643b54d6 {a0 a1 : Int} {n2 n3 : Nat} (h0 : (a0 = 4 ∨ ((a0 ≤ 1 ∧ ((a1 % 64) % 8) ≠ 7) ∨ ((a0 = 2 ∨ a0 = 3) ∧ (a1 % 64) ≤ 55)))) (h1 : (a1 % 64) ≤ 63) (h2 : 0 ≤ (a1 % 64)) (h3 : a0 ≤ 4) (h4 : 0 ≤ a0) (h5 : (((a0 * 64) + (a1 % 64)) : Int).toNat = ((n2 * 64) + n3)) (h6 : n3 < 64) : (a1 % 64) = ((n3 : Nat) : Int) := by omega
theorem oq_e619193a {n0 : Nat}  : ((n0 + 1) * 64) = ((n0 * 64) + 64) := by omega
theorem oq_3d866207 {n0 : Nat}  : (((n0 : Nat) : Int) : Int).toNat = n0 := by omega
theorem oq_794b19d3 {a0 a1 : Int} (h0 : a0 = 0) (h1 : a1 ≤ (a0 + 1)) (h2 : a0 < a1) : a1 = 1 := by omega
theorem oq_3e48337e {a0 a1 : Int} (h0 : 1 ≤ a0) (h1 : a0 < a1) : (¬ (a1 = 1)) := by omega
theorem oq_78481f93 {a0 a1 : Int} (h0 : 1 ≤ a0) (h1 : a1 ≤ (a0 + 1)) : (¬ (((((a0 : Int).toNat : Nat) : Int) + 1) < a1)) := by omega
theorem oq_25c81da0 {a0 : Int} (h0 : 1 ≤ a0) : ((a0 : Int).toNat - 1) = ((a0 - 1) : Int).toNat := by omega
theorem oq_3e8f7680 {a0 a1 : Int} (h0 : (a0 + 1) < a1) (h1 : 0 ≤ a0) : (¬ (a1 = 1)) := by omega
theorem oq_b4e0ef0a {a0 : Int}  : 0 ≤ (a0 % 64) := by omega
theorem oq_ae0eed6c {a0 : Int}  : (a0 % 64) < 64 := by omega
theorem oq_4ba01ac2 {a0 a1 a2 : Int} (h0 : a0 = ((a1 * 2) + (a2 / 64))) (h1 : 0 ≤ a1) (h2 : 0 ≤ a2) : ((((a1 * 2) : Int).toNat : Nat) : Int) ≤ a0 := by omega
theorem oq_9023b3bd {a0 a1 a2 : Int} (h0 : a0 = ((a1 * 2) + (a2 / 64))) (h1 : a2 ≤ 127) : a0 < (((((a1 * 2) : Int).toNat : Nat) : Int) + ((2 : Nat) : Int)) := by omega
theorem oq_c28fd761 {a0 a2 a3 : Int} {n1 : Nat} (h0 : (a0 / 64) = ((n1 : Nat) : Int)) (h1 : a2 = ((a3 * 2) + (a0 / 64))) (h2 : 0 ≤ a3) : (((((a3 * 2) : Int).toNat : Nat) : Int) + ((n1 : Nat) : Int)) = a2 := by omega
theorem oq_4d685b7e {a0 : Int} {n1 : Nat} (h0 : (a0 % 64) = ((n1 : Nat) : Int)) : ((n1 : Nat) : Int) = (a0 % 64) := by omega
theorem oq_cd27ee0f {a0 a1 a2 a3 : Int} (h0 : a0 = ((((a1 * 7) + a2) * 2) + (a3 / 64))) (h1 : 0 ≤ a2) (h2 : 0 ≤ a1) (h3 : 0 ≤ a3) : ((((a1 * 14) : Int).toNat : Nat) : Int) ≤ a0 := by omega
theorem oq_88f8cadc {a0 a1 a2 a3 : Int} (h0 : a0 = ((((a1 * 7) + a2) * 2) + (a3 / 64))) (h1 : a2 ≤ 6) (h2 : a3 ≤ 127) : a0 < (((((a1 * 14) : Int).toNat : Nat) : Int) + ((14 : Nat) : Int)) := by omega
theorem oq_e5539e97 {a0 a1 a3 a4 : Int} {n2 : Nat} (h0 : ((a0 * 2) + (a1 / 64)) = ((n2 : Nat) : Int)) (h1 : a3 = ((((a4 * 7) + a0) * 2) + (a1 / 64))) (h2 : 0 ≤ a4) : (((((a4 * 14) : Int).toNat : Nat) : Int) + ((n2 : Nat) : Int)) = a3 := by omega
theorem oq_b5e4c05b {a0 a2 a3 a4 a5 : Int} {n1 : Nat} (h0 : (((((a0 * 14) : Int).toNat : Nat) : Int) + ((n1 : Nat) : Int)) = a2) (h1 : a2 = ((((a0 * 7) + a3) * 2) + (a4 / 64))) (h2 : a5 = ((a0 * 2) + (a4 / 64))) (h3 : a3 ≤ 6) (h4 : a4 ≤ 127) : ((a3 * 2) + (a4 / 64)) = ((n1 : Nat) : Int) := by omega
theorem oq_3ef37ae5 {a1 : Int} {n0 : Nat} (h0 : ((n0 : Nat) : Int) = (a1 % 64)) : (a1 % 64) = ((n0 : Nat) : Int) := by omega
theorem oq_768dd088 {a0 a1 a2 a3 : Int} (h0 : 0 ≤ a0) (h1 : a1 = ((((a2 * 7) + a0) * 2) + (a3 / 64))) (h2 : 0 ≤ a2) (h3 : 0 ≤ a3) : ((((a2 * 14) : Int).toNat : Nat) : Int) ≤ a1 := by omega
theorem oq_e79585e0 {a0 a1 a2 a3 : Int} (h0 : a0 ≤ 5) (h1 : a1 = ((((a2 * 7) + a0) * 2) + (a3 / 64))) (h2 : a3 ≤ 127) : a1 < (((((a2 * 14) : Int).toNat : Nat) : Int) + ((14 : Nat) : Int)) := by omega
theorem oq_791177b5 {a0 a2 a3 a4 a5 : Int} {n1 : Nat} (h0 : (((((a0 * 14) : Int).toNat : Nat) : Int) + ((n1 : Nat) : Int)) = a2) (h1 : a3 ≤ 5) (h2 : a2 = ((((a0 * 7) + a3) * 2) + (a4 / 64))) (h3 : a5 = ((a0 * 2) + (a4 / 64))) (h4 : a4 ≤ 127) : ((a3 * 2) + (a4 / 64)) = ((n1 : Nat) : Int) := by omega
theorem oq_e09c5c02 {a0 a1 a2 : Int} (h0 : 0 ≤ a0) (h1 : a1 = ((a2 * 5) + a0)) (h2 : 0 ≤ a2) : ((((a2 * 5) : Int).toNat : Nat) : Int) ≤ a1 := by omega
theorem oq_5a905f0f {a0 a1 a2 : Int} (h0 : a0 ≤ 4) (h1 : a1 = ((a2 * 5) + a0)) : a1 < (((((a2 * 5) : Int).toNat : Nat) : Int) + ((5 : Nat) : Int)) := by omega
theorem oq_18391f9c {a0 a2 a3 : Int} {n1 : Nat} (h0 : a0 = ((n1 : Nat) : Int)) (h1 : a2 = ((a3 * 5) + a0)) (h2 : 0 ≤ a3) : (((((a3 * 5) : Int).toNat : Nat) : Int) + ((n1 : Nat) : Int)) = a2 := by omega
theorem oq_cb93dbf3 {a0 a2 a3 : Int} {n1 : Nat} (h0 : (((((a0 * 5) : Int).toNat : Nat) : Int) + ((n1 : Nat) : Int)) = a2) (h1 : a3 ≤ 4) (h2 : a2 = ((a0 * 5) + a3)) : a3 = ((n1 : Nat) : Int) := by omega
theorem oq_29281fa3 {a0 a1 : Int} (h0 : 0 ≤ a0) (h1 : a1 = (a0 * 2)) : a1 = (((((a0 * 2) : Int).toNat : Nat) : Int) + ((0 : Nat) : Int)) := by omega
theorem oq_16d3d0a4 {a0 a1 : Int} (h0 : 0 ≤ a0) (h1 : a1 = ((a0 * 2) + 1)) : a1 = (((((a0 * 2) : Int).toNat : Nat) : Int) + ((1 : Nat) : Int)) := by omega
theorem oq_a9acc992 {a0 a1 a2 : Int} (h0 : 0 ≤ a0) (h1 : 0 ≤ a1) (h2 : a2 = ((a1 * 14) + a0)) : a2 = (((((a1 * 14) : Int).toNat : Nat) : Int) + (((a0 : Int).toNat : Nat) : Int)) := by omega
theorem oq_0104ac9c {a0 a1 a2 : Int} (h0 : 0 ≤ a0) (h1 : 0 ≤ a1) (h2 : a2 = ((a1 * 5) + a0)) : a2 = (((((a1 * 5) : Int).toNat : Nat) : Int) + (((a0 : Int).toNat : Nat) : Int)) := by omega
theorem oq_c10613b9 {a0 a1 : Int} (h0 : a0 ≤ 11) (h1 : a1 = (a0 + 1)) : a1 ≤ 12 := by omega
theorem oq_a61b69af {a1 : Int} {n0 : Nat} (h0 : ((n0 : Nat) : Int) < a1) : (((n0 - 1) : Nat) : Int) < a1 := by omega
theorem oq_5442521c {a1 : Int} {n0 n2 : Nat} (h0 : ((n0 : Nat) : Int) = a1) : ((2 * n0) + (n2 / 64)) = (((a1 * 2) : Int).toNat + (n2 / 64)) := by omega
theorem oq_2643a78a {n0 : Nat} (h0 : n0 < 128) : (n0 / 64) < 2 := by omega
theorem oq_58130c71 {n0 : Nat}  : (n0 % 64) < 64 := by omega
theorem oq_c002547e {a1 : Int} {n0 n2 n3 : Nat} (h0 : ((n0 : Nat) : Int) = a1) : (((14 * n0) + (2 * n2)) + (n3 / 64)) = (((a1 * 14) : Int).toNat + ((2 * n2) + (n3 / 64))) := by omega
theorem oq_e1c9121e {n0 n1 : Nat} (h0 : n0 < 128) (h1 : n1 < 7) : ((2 * n1) + (n0 / 64)) < 14 := by omega
theorem oq_f3bf3f5c {a1 : Int} {n0 n2 : Nat} (h0 : ((n0 : Nat) : Int) = a1) : ((5 * n0) + n2) = (((a1 * 5) : Int).toNat + n2) := by omega
theorem oq_c22bbba0 {a1 a2 : Int} {n0 : Nat} (h0 : (¬ (((n0 : Nat) : Int) = a1))) (h1 : ((n0 : Nat) : Int) < a2) (h2 : a2 = (a1 + 1)) : ((n0 : Nat) : Int) < a1 := by omega
theorem oq_bbbf5d6d {a1 : Int} {n0 : Nat} (h0 : ((n0 : Nat) : Int) < a1) : n0 < (a1 : Int).toNat := by omega
theorem oq_f6e7d09f {a2 : Int} {n0 n1 : Nat} (h0 : ((n0 : Nat) : Int) < 24) (h1 : ((n1 : Nat) : Int) < a2) : ((24 * n1) + n0) < (24 * (a2 : Int).toNat) := by omega
theorem oq_5e70a15f {a1 : Int} {n0 : Nat} (h0 : (((n0 : Nat) : Int) + 1) < a1) (h1 : a1 ≤ 24) : ((n0 : Nat) : Int) < 24 := by omega
theorem oq_7c9b289d {a1 : Int} {n0 : Nat} (h0 : (((n0 : Nat) : Int) + 1) < a1) (h1 : a1 ≤ 24) : (((n0 + 1) : Nat) : Int) < 24 := by omega
theorem oq_5a4ac7c7 {a1 : Int} {n0 : Nat} (h0 : ((n0 : Nat) : Int) < a1) (h1 : a1 ≤ 24) : ((n0 : Nat) : Int) < 24 := by omega
theorem oq_8d9a5bde {a1 : Int} {n0 : Nat} (h0 : ((n0 : Nat) : Int) < a1) (h1 : a1 ≤ 24) : (((n0 - 1) : Nat) : Int) < 24 := by omega
theorem oq_6d751eb6 {a2 : Int} {n0 n1 : Nat} (h0 : n0 < 128) (h1 : ((n1 : Nat) : Int) < a2) : ((2 * n1) + (n0 / 64)) < ((a2 * 2) : Int).toNat := by omega
theorem oq_0a67afb5 {a3 : Int} {n0 n1 n2 : Nat} (h0 : n0 < 128) (h1 : n1 < 7) (h2 : ((n2 : Nat) : Int) < a3) : (((14 * n2) + (2 * n1)) + (n0 / 64)) < ((a3 * 14) : Int).toNat := by omega
theorem oq_a74f4594 {a2 : Int} {n0 n1 : Nat} (h0 : n0 < 5) (h1 : ((n1 : Nat) : Int) < a2) : ((5 * n1) + n0) < ((a2 * 5) : Int).toNat := by omega
theorem oq_fd50c8c4 {n0 n1 : Nat} (h0 : (n0 + n1) < 64) : n0 < 64 := by omega
theorem oq_47b07cfc {n0 : Nat} (h0 : (n0 = 1 ∨ n0 = 3)) : (((n0 : Nat) : Int) = 1 ∨ ((n0 : Nat) : Int) = 3) := by omega
theorem oq_6e02dada {n0 : Nat}  : 64 ≤ (64 + ((n0 : Nat) : Int)) := by omega
theorem oq_c5645ccc {n0 : Nat} (h0 : n0 < 64) : (64 + ((n0 : Nat) : Int)) < 128 := by omega
theorem oq_1ff8b924 {n0 : Nat}  : (((64 + ((n0 : Nat) : Int)) - 64) : Int).toNat = n0 := by omega
theorem oq_146530dc {n0 : Nat} (h0 : 64 ≤ (64 + ((n0 : Nat) : Int))) : (((64 + ((n0 : Nat) : Int)) - 64) : Int).toNat = n0 := by omega
theorem oq_9581d30e {n0 : Nat} (h0 : (¬ ((n0 = 1 ∨ n0 = 3)))) : (¬ ((((n0 : Nat) : Int) = 1 ∨ ((n0 : Nat) : Int) = 3))) := by omega
theorem oq_405b1b8c {n0 : Nat} (h0 : n0 < 64) : ((n0 : Nat) : Int) < 64 := by omega
theorem oq_c70b3307 {n0 : Nat} (h0 : 0 ≤ ((n0 : Nat) : Int)) : (((n0 : Nat) : Int) : Int).toNat = n0 := by omega
theorem oq_074254ef {n0 : Nat} (h0 : n0 = 4) : ((n0 : Nat) : Int) = 4 := by omega
theorem oq_8c0be685 {n0 n1 : Nat} (h0 : n0 < 2) (h1 : (n0 = 4 ∨ ((n0 ≤ 1 ∧ (n1 % 8) ≠ 7) ∨ ((n0 = 2 ∨ n0 = 3) ∧ n1 ≤ 55)))) (h2 : n1 < 64) : (1 + n1) < 64 := by omega
theorem oq_626769f6 {n0 : Nat} (h0 : n0 < 2) : (n0 = 0 ∨ n0 = 1) := by omega
theorem oq_6813eb3f {n0 n1 : Nat} (h0 : (¬ (n0 < 2))) (h1 : (¬ (n0 = 4))) (h2 : (n0 = 4 ∨ ((n0 ≤ 1 ∧ (n1 % 8) ≠ 7) ∨ ((n0 = 2 ∨ n0 = 3) ∧ n1 ≤ 55)))) (h3 : n0 < 5) : (8 + n1) < 64 := by omega
theorem oq_dec95026 {n0 : Nat} (h0 : (¬ (n0 < 2))) (h1 : (¬ (n0 = 4))) (h2 : n0 < 5) : (n0 = 2 ∨ n0 = 3) := by omega
theorem oq_577e9a79 {a0 : Int} (h0 : a0 < 320) : (a0 / 64) < 5 := by omega
theorem oq_1062f8c2 {n0 n1 : Nat} (h0 : n0 < 64) : (((n1 * 64) + n0) / 64) = n1 := by omega
theorem oq_e6a3d0a2 {n0 : Nat} (h0 : n0 < 64) : (((4 * 64) + n0) / 64) = 4 := by omega
theorem oq_47f7a4c2 {n0 : Nat} (h0 : n0 < 64) : (((4 * 64) + n0) % 64) = n0 := by omega
theorem oq_f37db25f {a0 : Int} (h0 : a0 ≤ 64) : a0 ≤ 2147483647 := by omega
theorem oq_856dcfa5 {a0 a1 : Int}  : ((a0 - a1) = (-8) ∨ ((a0 - a1) = (-1) ∨ ((a0 - a1) = 1 ∨ ((a0 - a1) = 8 ∨ ((a0 - a1) = 64 ∨ ((a0 - a1) ≠ (-8) ∧ ((a0 - a1) ≠ (-1) ∧ ((a0 - a1) ≠ 1 ∧ ((a0 - a1) ≠ 8 ∧ (a0 - a1) ≠ 64))))))))) := by omega
theorem oq_e77deaf5 {a0 a1 : Int} (h0 : (a0 - a1) ≠ (-8)) : (¬ ((-8) = (a0 - a1))) := by omega
theorem oq_2a184740 {a0 a1 : Int} (h0 : (a0 - a1) ≠ (-1)) : (¬ ((-1) = (a0 - a1))) := by omega
theorem oq_2696c5a9 {a0 a1 : Int} (h0 : (a0 - a1) ≠ 1) : (¬ (1 = (a0 - a1))) := by omega
theorem oq_79ebd7dc {a0 a1 : Int} (h0 : (a0 - a1) ≠ 8) : (¬ (8 = (a0 - a1))) := by omega
theorem oq_5ced0f9e {a0 a1 : Int} (h0 : (a0 - a1) ≠ 64) : (¬ (64 = (a0 - a1))) := by omega
theorem oq_65b77893 {a0 a1 a2 : Int} (h0 : 0 ≤ a0) (h1 : 0 ≤ a1) (h2 : 0 ≤ a2) : 0 ≤ ((a2 * 5) + (((a0 / 2) * 2) + (a1 / 64))) := by omega
theorem oq_346f1327 {a0 : Int} (h0 : a0 < 4) : (¬ (4 ≤ a0)) := by omega
theorem oq_b7df0ac1 {a0 : Int} (h0 : 14 ≤ a0) (h1 : a0 ≤ 14) : 14 = a0 := by omega
theorem oq_c154c99c {a0 a1 : Int}  : (((a0 * 7) * 2) + a1) = ((a0 * 14) + a1) := by omega
theorem oq_2b038be6 {a0 : Int} {n1 : Nat} (h0 : a0 < 14) (h1 : ((14 - a0) : Int).toNat < (n1 + 1)) : ((14 - (a0 + 1)) : Int).toNat < n1 := by omega
theorem oq_6429b624 {a0 : Int} (h0 : 5 ≤ a0) (h1 : a0 ≤ 5) : 5 = a0 := by omega
theorem oq_fa9057d0 {a0 : Int} {n1 : Nat} (h0 : a0 < 5) (h1 : ((5 - a0) : Int).toNat < (n1 + 1)) : ((5 - (a0 + 1)) : Int).toNat < n1 := by omega
theorem oq_dfd957a2 {a0 a1 a2 : Int} (h0 : a0 ≤ a1) (h1 : a1 ≤ a2) (h2 : a0 = a2) : a1 = a2 := by omega
theorem oq_a0250545 {a0 a1 : Int} (h0 : 0 ≤ a0) (h1 : a0 = 0) : (a0 + a1) = a1 := by omega
theorem oq_aea23435 {a0 a1 : Int} (h0 : (a0 + 1) < a1) (h1 : a1 ≤ (a0 + 1)) : (¬ ((a0 + 1) < a1)) := by omega
theorem oq_046704fa {a0 a1 : Int} {n2 : Nat} (h0 : a0 < a1) (h1 : ((24 - a0) : Int).toNat < (n2 + 1)) (h2 : a1 ≤ 24) : ((24 - (a0 + 1)) : Int).toNat < n2 := by omega
theorem oq_38524ed1 {a0 a1 : Int} (h0 : 0 ≤ a0) (h1 : a0 = 0) : ((a0 + a1) + 1) = (a1 + 1) := by omega
theorem oq_b5180fe7 {a0 : Int} (h0 : 0 ≤ a0) : ((a0 : Int).toNat + 1) = ((a0 + 1) : Int).toNat := by omega
theorem oq_91def454 {a0 : Int}  : ((a0 + 1) - 1) = a0 := by omega
theorem oq_16d2ca9c {a0 a1 : Int} {n2 : Nat} (h0 : (a0 + 1) < a1) (h1 : ((24 - a0) : Int).toNat < (n2 + 1)) (h2 : a1 ≤ 24) : ((24 - (a0 + 1)) : Int).toNat < n2 := by omega
theorem oq_26aa4fcc {a0 : Int} (h0 : a0 = 0) : a0 ≤ 100000 := by omega
theorem oq_638bf77d {a0 : Int} (h0 : a0 ≤ 11) : (a0 * 24) ≤ 100000 := by omega
theorem oq_5c530df6 {a0 : Int} (h0 : a0 ≤ 24) : a0 ≤ 100000 := by omega
theorem oq_d9632131 {a0 a1 : Int} (h0 : (a0 + a1) ≤ 24) : (a0 + a1) ≤ ((24 : Nat) : Int) := by omega
theorem oq_c201e159 {a0 a1 : Int} (h0 : a0 ≤ 24) (h1 : a1 ≤ 11) : ((a1 * 24) + a0) ≤ ((288 : Nat) : Int) := by omega
theorem oq_bf4a3184  : (6 : Int) ≤ 6 := by omega

/-! Cells that hang together -/
/-- one step between two cells -/
def adjT (a b : Int) : Prop := ∃ d : Int, 0 ≤ d ∧ d ≤ 5 ∧ besT a d = b ∧ b ≠ -1
/-- within S c is reached from f -/
def RchT (S : Int → Prop) (f c : Int) : Prop := ∀ P : Int → Prop, P f → (∀ a b, P a → adjT a b → S b → P b) → P c
theorem rch_0 {S : Int → Prop} {f : Int} : RchT S f f := fun _ h _ => h
theorem rch_up {S : Int → Prop} {f a b : Int} (h : RchT S f a) (ha : adjT a b) (hb : S b) : RchT S f b := fun P h0 h1 => h1 a b (h P h0 h1) ha hb
theorem rch_in {S P : Int → Prop} {f c : Int} (h : RchT S f c) (h0 : P f) (h1 : ∀ a b, P a → adjT a b → S b → P b) : P c := h P h0 h1
theorem rch_ts {S : Int → Prop} {a b c : Int} (h : RchT S a b) (g : RchT S b c) : RchT S a c := fun P h0 h1 => g P (h P h0 h1) h1
/-- cells are 0 to 127; steps go both ways -/
theorem adj_rng {a b : Int} (h : adjT a b) (h0 : 0 ≤ a) (h1 : a ≤ 127) : 0 ≤ b ∧ b ≤ 127 := by
  obtain ⟨d, d0, d5, e, n⟩ := h
  unfold besT at e
  rcases (show d = 0 ∨ d = 1 ∨ d = 2 ∨ d = 3 ∨ d = 4 ∨ d = 5 by first | exact oq_a7961805 d5 d0 | omega) with q | q | q | q | q | q <;> subst q <;> simp at e <;> split at e <;> omega
theorem adj_sym {a b : Int} (h : adjT a b) (h0 : 0 ≤ a) (h1 : a ≤ 127) : adjT b a := by
  obtain ⟨d, d0, d5, e, n⟩ := h
  unfold besT at e
  rcases (show d = 0 ∨ d = 1 ∨ d = 2 ∨ d = 3 ∨ d = 4 ∨ d = 5 by first | exact oq_a7961805 d5 d0 | omega) with q | q | q | q | q | q <;> subst q <;> simp at e <;> split at e
  all_goals first | omega | skip
  · exact ⟨1, by decide, by decide, by unfold besT; simp; split <;> omega, by first | exact oq_c470344a h0 | omega⟩
  · exact ⟨0, by decide, by decide, by unfold besT; simp; split <;> omega, by first | exact oq_c470344a h0 | omega⟩
  · exact ⟨3, by decide, by decide, by unfold besT; simp; split <;> omega, by first | exact oq_c470344a h0 | omega⟩
  · exact ⟨2, by decide, by decide, by unfold besT; simp; split <;> omega, by first | exact oq_c470344a h0 | omega⟩
  · exact ⟨5, by decide, by decide, by unfold besT; simp; split <;> omega, by first | exact oq_c470344a h0 | omega⟩
  · exact ⟨4, by decide, by decide, by unfold besT; simp; split <;> omega, by first | exact oq_c470344a h0 | omega⟩
/-- S is of cells alone -/
def celT (S : Int → Prop) : Prop := ∀ c, S c → 0 ≤ c ∧ c ≤ 127
theorem rch_sym {S : Int → Prop} {a b : Int} (hS : celT S) (h : RchT S a b) (ha : S a) : RchT S b a := by
  have g : S b ∧ RchT S b a := rch_in (P := fun x => S x ∧ RchT S x a) h ⟨ha, rch_0⟩ (fun x y hx hxy hy => ⟨hy, by
    have hs := adj_sym hxy (hS x hx.1).1 (hS x hx.1).2
    exact rch_ts (rch_up rch_0 hs hx.1) hx.2⟩)
  exact g.2
/-- all of S is reached from f -/
def HngT (S : Int → Prop) : Prop := ∀ f c, S f → S c → RchT S f c
theorem hng_of {S : Int → Prop} {f : Int} (hS : celT S) (hf : S f) (h : ∀ c, S c → RchT S f c) : HngT S := fun a c ha hc => rch_ts (rch_sym hS (h a ha) hf) (h c hc)
/-- a set that hangs together, without a cell: it does iff the cells beside that one reach each other -/
theorem hng_but {S : Int → Prop} {c n : Int} (hS : celT S) (h : HngT S) (hc : S c) (hn : S n ∧ n ≠ c) (hnc : adjT c n) (hb : ∀ b, adjT c b → S b → b ≠ c → RchT (fun x => S x ∧ x ≠ c) n b) : HngT (fun x => S x ∧ x ≠ c) := by
  have hS2 : celT (fun x => S x ∧ x ≠ c) := fun x hx => hS x hx.1
  refine hng_of hS2 hn (fun x hx => ?_)
  have g : x = c ∨ RchT (fun x => S x ∧ x ≠ c) n x := rch_in (P := fun x => x = c ∨ RchT (fun x => S x ∧ x ≠ c) n x) (h c x hc hx.1) (Or.inl rfl) (fun a b ha hab hb2 => by
    by_cases e : b = c
    · exact Or.inl e
    · rcases ha with ha | ha
      · rw [ha] at hab
        exact Or.inr (hb b hab hb2 e)
      · exact Or.inr (rch_up ha hab ⟨hb2, e⟩))
  exact g.elim (fun e => absurd e hx.2) id
/-- nothing beside: then there is nothing else -/
theorem hng_one {S : Int → Prop} {c x : Int} (h : HngT S) (hc : S c) (hb : ∀ b, adjT c b → S b → b = c) (hx : S x) : x = c :=
  rch_in (P := fun x => x = c) (h c x hc hx) rfl (fun a b ha hab hb2 => by rw [ha] at hab; exact hb b hab hb2)
/-- a set that is closed under steps within S and holds f holds all that is reached -/
theorem rch_cl {S R : Int → Prop} {f c : Int} (hf : R f) (h : ∀ a b, R a → adjT a b → S b → R b) (hc : RchT S f c) : R c := rch_in hc hf h
/-! How many bits of a long are 1: the JDK's way to count them -/
/-- bits, counted -/
def pcN (n : Nat) : Nat → Nat
  | 0 => 0
  | k + 1 => pcN n k + n / 2 ^ k % 2
theorem and_sp {a b c d k : Nat} (ha : a < 2 ^ k) (hc : c < 2 ^ k) : (2 ^ k * b + a) &&& (2 ^ k * d + c) = 2 ^ k * (b &&& d) + (a &&& c) := by
  have hac : a &&& c < 2 ^ k := Nat.and_lt_two_pow a hc
  apply Nat.eq_of_testBit_eq
  intro i
  rw [Nat.testBit_and]
  by_cases h : i < k
  · rw [Nat.testBit_two_pow_mul_add _ ha, Nat.testBit_two_pow_mul_add _ hc, Nat.testBit_two_pow_mul_add _ hac, if_pos h, if_pos h, if_pos h, Nat.testBit_and]
  · rw [Nat.testBit_two_pow_mul_add _ ha, Nat.testBit_two_pow_mul_add _ hc, Nat.testBit_two_pow_mul_add _ hac, if_neg h, if_neg h, if_neg h, Nat.testBit_and]
/-- a mask of m bytes v -/
def mkB (v : Nat) : Nat → Nat
  | 0 => 0
  | m + 1 => 256 * mkB v m + v
/-- the three steps of counting within bytes -/
def p8A (m n : Nat) : Nat := n - (n / 2 &&& mkB 85 m)
def p8B (m n : Nat) : Nat := (n &&& mkB 51 m) + (n / 4 &&& mkB 51 m)
def p8C (m n : Nat) : Nat := (n + n / 16) &&& mkB 15 m
theorem p8A_b : ∀ b, b < 256 → ∀ i, i < 2 → ((128 * i + b / 2) &&& 85) = (b / 2 &&& 85) ∧ (b / 2 &&& 85) ≤ b ∧ b - (b / 2 &&& 85) < 256 := by decide +kernel
theorem p8B_b : ∀ b, b < 256 → ∀ i, i < 4 → ((64 * i + b / 4) &&& 51) = (b / 4 &&& 51) ∧ (b &&& 51) + (b / 4 &&& 51) < 256 := by decide +kernel
theorem p8C_b : ∀ b, b < 119 → ∀ i, i < 8 → (b % 16 ≤ 7) → b + (16 * i + b / 16) < 256 ∧ ((b + (16 * i + b / 16)) &&& 15) = ((b + b / 16) &&& 15) := by decide +kernel
theorem p8A_up {m q b : Nat} (hb : b < 256) : p8A (m + 1) (256 * q + b) = 256 * p8A m q + (b - (b / 2 &&& 85)) ∧ (q / 2 &&& mkB 85 m) ≤ q := by
  have h1 : (256 * q + b) / 2 = 2 ^ 8 * (q / 2) + (128 * (q % 2) + b / 2) := by omega
  have h2 := p8A_b b hb (q % 2) (by first | exact oq_d33d513d | omega)
  have h3 : (q / 2 &&& mkB 85 m) ≤ q := Nat.le_trans Nat.and_le_left (by first | exact oq_46499b33 | omega)
  refine ⟨?_, h3⟩
  unfold p8A
  show 256 * q + b - ((256 * q + b) / 2 &&& (256 * mkB 85 m + 85)) = _
  rw [h1, show 256 * mkB 85 m + 85 = 2 ^ 8 * mkB 85 m + 85 from rfl, and_sp (by omega) (by decide), h2.1]
  omega
theorem p8B_up {m q b : Nat} (hb : b < 256) : p8B (m + 1) (256 * q + b) = 256 * p8B m q + ((b &&& 51) + (b / 4 &&& 51)) := by
  have h1 : (256 * q + b) / 4 = 2 ^ 8 * (q / 4) + (64 * (q % 4) + b / 4) := by omega
  have h2 := p8B_b b hb (q % 4) (by first | exact oq_2a15be9d | omega)
  unfold p8B
  show ((256 * q + b) &&& (256 * mkB 51 m + 51)) + ((256 * q + b) / 4 &&& (256 * mkB 51 m + 51)) = _
  rw [h1, show 256 * mkB 51 m + 51 = 2 ^ 8 * mkB 51 m + 51 from rfl, show 256 * q + b = 2 ^ 8 * q + b from rfl, and_sp (by omega) (by decide), and_sp (by omega) (by decide), h2.1]
  omega
theorem p8C_up {m q b : Nat} (hb : b < 119) (hb2 : b % 16 ≤ 7) (hq : q % 16 < 8) : p8C (m + 1) (256 * q + b) = 256 * p8C m q + ((b + b / 16) &&& 15) := by
  have h1 : (256 * q + b) / 16 = 2 ^ 8 * (q / 16) + (16 * (q % 16) + b / 16) := by omega
  have h2 := p8C_b b hb (q % 16) hq hb2
  unfold p8C
  show ((256 * q + b) + (256 * q + b) / 16 &&& (256 * mkB 15 m + 15)) = _
  rw [h1, show 256 * q + b + (2 ^ 8 * (q / 16) + (16 * (q % 16) + b / 16)) = 2 ^ 8 * (q + q / 16) + (b + (16 * (q % 16) + b / 16)) by omega, show 256 * mkB 15 m + 15 = 2 ^ 8 * mkB 15 m + 15 from rfl, and_sp (by omega) (by decide), h2.2]
def fBy (b : Nat) : Nat := ((b - (b / 2 &&& 85)) &&& 51) + ((b - (b / 2 &&& 85)) / 4 &&& 51)
theorem fBy_ok : ∀ b, b < 256 → b - (b / 2 &&& 85) < 256 ∧ fBy b < 119 ∧ fBy b % 16 ≤ 4 ∧ ((fBy b + fBy b / 16) &&& 15) = pcN b 8 ∧ pcN b 8 ≤ 8 := by decide +kernel
/-- the counts of the bytes, each in its byte -/
def bsN (n : Nat) : Nat → Nat
  | 0 => 0
  | m + 1 => 256 * bsN (n / 256) m + pcN (n % 256) 8
theorem p8B_lo {m q : Nat} (hq : q < 256 ^ m) : p8B m (p8A m q) % 16 < 8 := by
  cases m with
  | zero =>
    have e : p8B 0 (p8A 0 q) = 0 := by unfold p8B; show (_ &&& 0) + (_ &&& 0) = 0; rw [Nat.and_zero, Nat.and_zero]
    rw [e]; decide
  | succ m =>
    have h := fBy_ok (q % 256) (by first | exact oq_6d7a0b49 | omega)
    rw [show q = 256 * (q / 256) + q % 256 by first | exact oq_f7abf056 | omega, (p8A_up (by first | exact oq_6d7a0b49 | omega)).1, p8B_up h.1]
    have h2 := h.2.2.1
    unfold fBy at h2
    omega
theorem cnt3 : ∀ (m n : Nat), n < 256 ^ m → p8C m (p8B m (p8A m n)) = bsN n m
  | 0, n, _ => by unfold p8C; show (_ &&& 0) = 0; rw [Nat.and_zero]
  | m + 1, n, hn => by
    have hq : n / 256 < 256 ^ m := by rw [Nat.div_lt_iff_lt_mul (by decide)]; rw [Nat.pow_succ] at hn; exact hn
    have h := fBy_ok (n % 256) (by first | exact oq_6d7a0b49 | omega)
    have ih := cnt3 m (n / 256) hq
    show _ = 256 * bsN (n / 256) m + pcN (n % 256) 8
    have h3 := p8B_lo hq
    have e : p8B (m + 1) (p8A (m + 1) n) = 256 * p8B m (p8A m (n / 256)) + fBy (n % 256) := by
      rw [show p8A (m + 1) n = p8A (m + 1) (256 * (n / 256) + n % 256) by rw [show 256 * (n / 256) + n % 256 = n by first | exact oq_bfeb363d | omega], (p8A_up (by first | exact oq_6d7a0b49 | omega)).1, p8B_up h.1]
      rfl
    rw [e, p8C_up h.2.1 (by first | exact oq_d474ea15 h.2.2.1 | omega) h3, ih, h.2.2.2.1]
theorem pcN_lo {n : Nat} : pcN n 8 = pcN (n % 256) 8 := by
  show 0 + n / 2 ^ 0 % 2 + n / 2 ^ 1 % 2 + n / 2 ^ 2 % 2 + n / 2 ^ 3 % 2 + n / 2 ^ 4 % 2 + n / 2 ^ 5 % 2 + n / 2 ^ 6 % 2 + n / 2 ^ 7 % 2 = 0 + n % 256 / 2 ^ 0 % 2 + n % 256 / 2 ^ 1 % 2 + n % 256 / 2 ^ 2 % 2 + n % 256 / 2 ^ 3 % 2 + n % 256 / 2 ^ 4 % 2 + n % 256 / 2 ^ 5 % 2 + n % 256 / 2 ^ 6 % 2 + n % 256 / 2 ^ 7 % 2
  omega
theorem pcN_sp {n : Nat} : ∀ k, pcN n (8 + k) = pcN (n % 256) 8 + pcN (n / 256) k
  | 0 => by show pcN n 8 = _ + 0; rw [pcN_lo, Nat.add_zero]
  | k + 1 => by
    show pcN n (8 + k) + n / 2 ^ (8 + k) % 2 = pcN (n % 256) 8 + (pcN (n / 256) k + n / 256 / 2 ^ k % 2)
    rw [pcN_sp k, Nat.div_div_eq_div_mul, show (256 : Nat) * 2 ^ k = 2 ^ (8 + k) by rw [Nat.pow_add]]
    omega
/-- the bytes' counts together -/
def bsT (n : Nat) : Nat → Nat
  | 0 => 0
  | m + 1 => pcN (n % 256) 8 + bsT (n / 256) m
theorem bd_1 {x r k : Nat} (h : x = 256 * r + k) (hk : k < 256) : x / 256 = r := by first | exact oq_738ea5ac hk h | omega
theorem bd_2 {x r a b : Nat} (h : x = 256 * (256 * r + b) + a) (ha : a < 256) (hb : b < 256) : x / 65536 = r := by omega
theorem bd_4 {x r a b c d : Nat} (h : x = 256 * (256 * (256 * (256 * r + d) + c) + b) + a) (ha : a < 256) (hb : b < 256) (hc : c < 256) (hd : d < 256) : x / 4294967296 = r := by omega
theorem bd_m {x r s : Nat} (h : x = 256 * r + s) (hs : s < 128) : x % 128 = s := by omega
theorem bs_a {i r1 r2 r3 k0 k1 k2 : Nat} (f0 : i = 256 * r1 + k0) (f1 : r1 = 256 * r2 + k1) (f2 : r2 = 256 * r3 + k2) : i + r1 = 256 * (256 * (r2 + r3) + (k1 + k2)) + (k0 + k1) := by first | exact oq_9b699e67 f2 f1 f0 | omega
theorem bs_2 {a b c d e k l m n : Nat} (f : a = 256 * b + k) (g : b = 256 * c + l) (h : c = 256 * d + m) (j : d = 256 * e + n) : a + b + (c + d) = 256 * (b + c + (d + e)) + (k + l + m + n) := by first | exact oq_f7ccc17e j h g f | omega
theorem rb_1 {r q k m : Nat} (f : r = 256 * q + k) (hq : q ≤ m) (hk : k ≤ 8) : r ≤ 256 * m + 8 := by first | exact oq_b0c37cbc hk hq f | omega
theorem bs_4 {i r1 r2 r3 r4 r5 r6 r7 k0 k1 k2 k3 k4 k5 k6 : Nat} (f0 : i = 256 * r1 + k0) (f1 : r1 = 256 * r2 + k1) (f2 : r2 = 256 * r3 + k2) (f3 : r3 = 256 * r4 + k3) (f4 : r4 = 256 * r5 + k4) (f5 : r5 = 256 * r6 + k5) (f6 : r6 = 256 * r7 + k6) : i + r1 + (r2 + r3) = 256 * (256 * (256 * (256 * (r4 + r5 + (r6 + r7)) + (k3 + k4 + k5 + k6)) + (k2 + k3 + k4 + k5)) + (k1 + k2 + k3 + k4)) + (k0 + k1 + k2 + k3) := by
  rw [bs_2 f0 f1 f2 f3, bs_2 f1 f2 f3 f4, bs_2 f2 f3 f4 f5, bs_2 f3 f4 f5 f6]
theorem bs_c {a r1 r2 r3 r4 r5 r6 r7 k0 k1 k2 k3 k4 k5 k6 k7 : Nat} (h : a = 256 * (r1 + r2 + (r3 + r4)) + (k0 + k1 + k2 + k3)) (g : r4 + r5 + (r6 + r7) = 256 * (r5 + r6 + (r7 + 0)) + (k4 + k5 + k6 + k7)) : a + (r4 + r5 + (r6 + r7)) = 256 * (r1 + r2 + (r3 + r4) + (r5 + r6 + (r7 + 0))) + (k0 + k1 + k2 + k3 + (k4 + k5 + k6 + k7)) := by rw [h, g]; omega
theorem bs_sum {i i1 i2 i3 k0 k1 k2 k3 k4 k5 k6 k7 r1 r2 r3 r4 r5 r6 r7 : Nat} (h0 : k0 ≤ 8) (h1 : k1 ≤ 8) (h2 : k2 ≤ 8) (h3 : k3 ≤ 8) (h4 : k4 ≤ 8) (h5 : k5 ≤ 8) (h6 : k6 ≤ 8) (h7 : k7 ≤ 8) (f0 : i = 256 * r1 + k0) (f1 : r1 = 256 * r2 + k1) (f2 : r2 = 256 * r3 + k2) (f3 : r3 = 256 * r4 + k3) (f4 : r4 = 256 * r5 + k4) (f5 : r5 = 256 * r6 + k5) (f6 : r6 = 256 * r7 + k6) (f7 : r7 = 256 * 0 + k7) (e1 : i1 = i + i / 256) (e2 : i2 = i1 + i1 / 65536) (e3 : i3 = i2 + i2 / 4294967296) : i3 % 128 = k0 + k1 + k2 + k3 + (k4 + k5 + k6 + k7) ∧ i3 < 18446744073709551616 := by
  rw [bd_1 f0 (Nat.lt_of_le_of_lt h0 (by decide))] at e1
  subst e1
  rw [bd_2 (bs_a f0 f1 f2) (by clear e2 e3 f0 f1 f2 f3 f4 f5 f6 f7; omega) (by clear e2 e3 f0 f1 f2 f3 f4 f5 f6 f7; omega)] at e2
  subst e2
  rw [bd_4 (bs_4 f0 f1 f2 f3 f4 f5 f6) (by clear e3 f0 f1 f2 f3 f4 f5 f6 f7; omega) (by clear e3 f0 f1 f2 f3 f4 f5 f6 f7; omega) (by clear e3 f0 f1 f2 f3 f4 f5 f6 f7; omega) (by clear e3 f0 f1 f2 f3 f4 f5 f6 f7; omega)] at e3
  subst e3
  have x6 := bs_c (bs_2 f0 f1 f2 f3) (bs_2 f4 f5 f6 f7)
  refine ⟨bd_m x6 (by clear x6 f0 f1 f2 f3 f4 f5 f6 f7; omega), ?_⟩
  have y7 : r7 ≤ 8 := by rw [f7, Nat.mul_zero, Nat.zero_add]; exact h7
  have y6 := rb_1 f6 y7 h6
  have y5 := rb_1 f5 y6 h5
  have y4 := rb_1 f4 y5 h4
  have y3 := rb_1 f3 y4 h3
  have y2 := rb_1 f2 y3 h2
  have y1 := rb_1 f1 y2 h1
  rw [x6]
  clear x6 f0 f1 f2 f3 f4 f5 f6 f7
  omega
theorem bc_fin (n : Nat) {i1 i2 i3 : Nat} (e1 : i1 = bsN n 8 + bsN n 8 / 256) (e2 : i2 = i1 + i1 / 65536) (e3 : i3 = i2 + i2 / 4294967296) : i3 % 128 = bsT n 8 ∧ i3 < 18446744073709551616 := by
  have h : ∀ x : Nat, pcN (x % 256) 8 ≤ 8 := fun x => (fBy_ok (x % 256) (by first | exact oq_6d7a0b49 | omega)).2.2.2.2
  have := bs_sum (h n) (h (n / 256)) (h (n / 256 / 256)) (h (n / 256 / 256 / 256)) (h (n / 256 / 256 / 256 / 256)) (h (n / 256 / 256 / 256 / 256 / 256)) (h (n / 256 / 256 / 256 / 256 / 256 / 256)) (h (n / 256 / 256 / 256 / 256 / 256 / 256 / 256)) (i := bsN n 8) (r1 := bsN (n / 256) 7) (r2 := bsN (n / 256 / 256) 6) (r3 := bsN (n / 256 / 256 / 256) 5) (r4 := bsN (n / 256 / 256 / 256 / 256) 4) (r5 := bsN (n / 256 / 256 / 256 / 256 / 256) 3) (r6 := bsN (n / 256 / 256 / 256 / 256 / 256 / 256) 2) (r7 := bsN (n / 256 / 256 / 256 / 256 / 256 / 256 / 256) 1) rfl rfl rfl rfl rfl rfl rfl rfl e1 e2 e3
  refine ⟨?_, this.2⟩
  rw [this.1]
  clear this e1 e2 e3
  show _ = pcN (n % 256) 8 + (pcN (n / 256 % 256) 8 + (pcN (n / 256 / 256 % 256) 8 + (pcN (n / 256 / 256 / 256 % 256) 8 + (pcN (n / 256 / 256 / 256 / 256 % 256) 8 + (pcN (n / 256 / 256 / 256 / 256 / 256 % 256) 8 + (pcN (n / 256 / 256 / 256 / 256 / 256 / 256 % 256) 8 + (pcN (n / 256 / 256 / 256 / 256 / 256 / 256 / 256 % 256) 8 + 0)))))))
  omega
theorem bsT_pc : ∀ (m n : Nat), bsT n m = pcN n (8 * m)
  | 0, _ => rfl
  | m + 1, n => by
    show pcN (n % 256) 8 + bsT (n / 256) m = pcN n (8 * (m + 1))
    rw [bsT_pc m (n / 256), show 8 * (m + 1) = 8 + 8 * m by first | exact oq_5e42da3a | omega, pcN_sp]
/-! Rows of longs as sets: which bits are 1 -/
/-- of array a the longs from b on, n of them, hold just the bits P; the others are as they were -/
def BQT (a b n : Nat) (P : Nat → Nat → Prop) (s t : PS) : Prop := (∀ j i : Nat, j < n → i < 64 → (bJ (gD t a (b + j)) i ↔ P j i)) ∧ ∀ j : Nat, j < b ∨ b + n ≤ j → gD t a j = gD s a j
theorem bq_sam {a b n : Nat} {P : Nat → Nat → Prop} {s t u : PS} (h : BQT a b n P s t) (g : ∀ j, gD u a j = gD t a j) : BQT a b n P s u := ⟨fun j i hj hi => by rw [g]; exact h.1 j i hj hi, fun j hj => (g j).trans (h.2 j hj)⟩
theorem bq_bas {a b n : Nat} {P : Nat → Nat → Prop} {r s t : PS} (h : BQT a b n P s t) (g : ∀ j, gD s a j = gD r a j) : BQT a b n P r t := ⟨h.1, fun j hj => (h.2 j hj).trans (g j)⟩
theorem bq_ext {a b n : Nat} {P Q : Nat → Nat → Prop} {s t : PS} (h : BQT a b n P s t) (e : ∀ j i, j < n → i < 64 → (P j i ↔ Q j i)) : BQT a b n Q s t := ⟨fun j i hj hi => (h.1 j i hj hi).trans (e j i hj hi), h.2⟩
theorem bq_up {a b n : Nat} {P Q : Nat → Nat → Prop} {s t u : PS} {i0 c : Int} (h : BQT a b n P s t) (hu : u = uD t a i0.toNat (gD t a i0.toNat ||| jshl 1 c)) (hc : 0 ≤ c ∧ c < 64) (hi : (b : Int) ≤ i0 ∧ i0 < (b : Int) + n) (e : ∀ j i : Nat, j < n → i < 64 → (Q j i ↔ P j i ∨ ((b : Int) + j = i0 ∧ (i : Int) = c))) : BQT a b n Q s u := by
  subst hu
  refine ⟨fun j i hj hi2 => ?_, fun j hj => ?_⟩
  · rw [e j i hj hi2, ← h.1 j i hj hi2]
    by_cases z : b + j = i0.toNat
    · rw [z, gD_u, jb_o hc hi2]
      constructor
      · rintro (q | q)
        · exact Or.inl q
        · exact Or.inr ⟨by first | exact oq_842065db z hi.1 | omega, by first | exact oq_cc0bb32b q hc.1 | omega⟩
      · rintro (q | q)
        · exact Or.inl q
        · exact Or.inr (by first | exact oq_15bd8e2f q.2 | omega)
    · rw [gD_n z]
      exact ⟨Or.inl, fun q => q.elim id (fun q => absurd (by first | exact oq_680a9fbc q.1 | omega) z)⟩
  · rw [gD_n (by first | exact oq_2097a867 hj hi.2 hi.1 | omega)]
    exact h.2 j hj
/-- all of them 0 up to m -/
def BZT (a b m : Nat) (s t : PS) : Prop := (∀ j : Nat, j < m → gD t a (b + j) = 0) ∧ ∀ j : Nat, j < b ∨ b + m ≤ j → gD t a j = gD s a j
theorem bz_0 {a b : Nat} {s : PS} : BZT a b 0 s s := ⟨fun j hj => by first | exact oq_8716fe40 hj | omega, fun _ _ => rfl⟩
theorem bz_up {a b m : Nat} {s t u : PS} {i0 : Int} (h : BZT a b m s t) (hu : u = uD t a i0.toNat 0) (hi : i0 = (b : Int) + m) : BZT a b (m + 1) s u := by
  subst hu
  refine ⟨fun j hj => ?_, fun j hj => ?_⟩
  · by_cases z : b + j = i0.toNat
    · rw [z, gD_u]
    · rw [gD_n z]; exact h.1 j (by first | exact oq_ecf5fbd0 z hj hi | omega)
  · rw [gD_n (by first | exact oq_d8c45a97 hj hi | omega)]; exact h.2 j (by first | exact oq_7f4d22dd hj | omega)
theorem bz_sam {a b m : Nat} {s t u : PS} (h : BZT a b m s t) (g : ∀ j, gD u a j = gD t a j) : BZT a b m s u := ⟨fun j hj => (g _).trans (h.1 j hj), fun j hj => (g j).trans (h.2 j hj)⟩
theorem bz_bq {a b n : Nat} {s t : PS} (h : BZT a b n s t) : BQT a b n (fun _ _ => False) s t := ⟨fun j i hj _ => by rw [h.1 j hj]; exact ⟨fun q => absurd q jb_z, False.elim⟩, h.2⟩
/-- the way of a cell's stream: where it goes (0 to 5; 6 alone), and of each step the kind and the lesser cell -/
def goB (a b : Int) : Int := if b - a = 1 then 0 else if b - a = -1 then 1 else if b - a = 8 then 2 else if b - a = -8 then 3 else if b - a = 64 then 4 else 5
def goK (f : Nat → Int) (n : Int) (k : Nat) : Int := if n = 1 then 6 else if (k : Int) + 1 < n then goB (f k) (f (k + 1)) else goB (f (k - 1)) (f k)
def kdK (f : Nat → Int) (k : Nat) : Int := if 4 ≤ goB (f k) (f (k + 1)) then 4 else goB (f k) (f (k + 1)) / 2 * 2 + min (f k) (f (k + 1)) / 64
def lsK (f : Nat → Int) (k : Nat) : Int := min (f k) (f (k + 1))
/-- the three rows of a stream, its first c cells told -/
def gmP (f : Nat → Int) (n c : Int) (j i : Nat) : Prop := ∃ k : Nat, (k : Int) < c ∧ goK f n k * 2 + f k / 64 = (j : Int) ∧ f k % 64 = (i : Int)
def stP (f : Nat → Int) (n c : Int) (j i : Nat) : Prop := ∃ k : Nat, (k : Int) < c ∧ (k : Int) + 1 < n ∧ kdK f k = (j : Int) ∧ lsK f k % 64 = (i : Int)
theorem gm_up {f : Nat → Int} {n c : Int} {j i : Nat} (hc : 0 ≤ c) : gmP f n (c + 1) j i ↔ gmP f n c j i ∨ (goK f n c.toNat * 2 + f c.toNat / 64 = (j : Int) ∧ f c.toNat % 64 = (i : Int)) := by
  constructor
  · rintro ⟨k, k1, k2, k3⟩
    by_cases z : k = c.toNat
    · exact Or.inr (z ▸ ⟨k2, k3⟩)
    · exact Or.inl ⟨k, by first | exact oq_d0f089f6 z k1 | omega, k2, k3⟩
  · rintro (⟨k, k1, k2, k3⟩ | q)
    · exact ⟨k, by first | exact oq_a61e8389 k1 | omega, k2, k3⟩
    · exact ⟨c.toNat, by first | exact oq_4d6510ff hc | omega, q.1, q.2⟩
theorem st_up {f : Nat → Int} {n c : Int} {j i : Nat} (hc : 0 ≤ c) (hn : c + 1 < n) : stP f n (c + 1) j i ↔ stP f n c j i ∨ (kdK f c.toNat = (j : Int) ∧ lsK f c.toNat % 64 = (i : Int)) := by
  constructor
  · rintro ⟨k, k1, k4, k2, k3⟩
    by_cases z : k = c.toNat
    · exact Or.inr (z ▸ ⟨k2, k3⟩)
    · exact Or.inl ⟨k, by first | exact oq_d0f089f6 z k1 | omega, k4, k2, k3⟩
  · rintro (⟨k, k1, k4, k2, k3⟩ | q)
    · exact ⟨k, by first | exact oq_a61e8389 k1 | omega, k4, k2, k3⟩
    · exact ⟨c.toNat, by first | exact oq_4d6510ff hc | omega, by first | exact oq_23736893 hn hc | omega, q.1, q.2⟩
theorem st_no {f : Nat → Int} {n c : Int} {j i : Nat} (hn : n ≤ c + 1) : stP f n (c + 1) j i ↔ stP f n c j i := by
  constructor
  · rintro ⟨k, k1, k4, k2, k3⟩
    exact ⟨k, by first | exact oq_15b38ff8 k4 hn | omega, k4, k2, k3⟩
  · rintro ⟨k, k1, k4, k2, k3⟩
    exact ⟨k, by first | exact oq_a61e8389 k1 | omega, k4, k2, k3⟩
/-! What is heard: counting -/
theorem sm_add {f g : Nat → Int} : ∀ n : Nat, sm (fun j => f j + g j) n = sm f n + sm g n
  | 0 => rfl
  | n + 1 => by
    show sm (fun j => f j + g j) n + (f n + g n) = sm f n + f n + (sm g n + g n)
    rw [sm_add n]; omega
theorem sm_mul {f : Nat → Int} {c : Int} : ∀ n : Nat, sm (fun j => c * f j) n = c * sm f n
  | 0 => by show (0 : Int) = c * 0; rw [Int.mul_zero]
  | n + 1 => by
    show sm (fun j => c * f j) n + c * f n = c * (sm f n + f n)
    rw [sm_mul n, Int.mul_add]
theorem sm_cat {f : Nat → Int} (m : Nat) : ∀ n : Nat, sm f (m + n) = sm f m + sm (fun j => f (m + j)) n
  | 0 => by show sm f m = sm f m + 0; omega
  | n + 1 => by
    show sm f (m + n) + f (m + n) = sm f m + (sm (fun j => f (m + j)) n + f (m + n))
    rw [sm_cat m n]; omega
theorem sm_nn {f : Nat → Int} : ∀ {n : Nat}, (∀ j, j < n → 0 ≤ f j) → 0 ≤ sm f n
  | 0, _ => Int.le_refl _
  | n + 1, h => by
    have a := sm_nn (n := n) (fun j hj => h j (by first | exact oq_9165f1af hj | omega))
    have b := h n (by first | exact oq_626cdfd6 | omega)
    show 0 ≤ sm f n + f n
    omega
theorem sm_bd {f : Nat → Int} {c : Int} : ∀ {n : Nat}, (∀ j, j < n → f j ≤ c) → sm f n ≤ (n : Int) * c
  | 0, _ => by show (0 : Int) ≤ ((0 : Nat) : Int) * c; rw [show ((0 : Nat) : Int) = 0 from rfl, Int.zero_mul]; exact Int.le_refl _
  | n + 1, h => by
    have a := sm_bd (n := n) (c := c) (fun j hj => h j (by first | exact oq_9165f1af hj | omega))
    have b := h n (by first | exact oq_626cdfd6 | omega)
    show sm f n + f n ≤ ((n + 1 : Nat) : Int) * c
    rw [show ((n + 1 : Nat) : Int) = (n : Int) + 1 from rfl, Int.add_mul, Int.one_mul]
    omega
/-- 1 where it is so, else 0 -/
noncomputable def i01 (p : Prop) : Int := @ite Int p (Classical.propDecidable p) 1 0
theorem i01_t {p : Prop} (h : p) : i01 p = 1 := by unfold i01; exact if_pos h
theorem i01_f {p : Prop} (h : ¬ p) : i01 p = 0 := by unfold i01; exact if_neg h
theorem i01_c {p q : Prop} (h : p ↔ q) : i01 p = i01 q := by rw [propext h]
theorem i01_r {p : Prop} : 0 ≤ i01 p ∧ i01 p ≤ 1 := by
  by_cases h : p
  · rw [i01_t h]; decide
  · rw [i01_f h]; decide
/-- things that are told by numbers, each by one of its own: counted either way -/
theorem cnt_inj {g : Nat → Nat} {M : Nat} {X : Nat → Prop} : ∀ {n : Nat}, (∀ k, k < n → g k < M) → (∀ k l, k < n → l < n → g k = g l → k = l) → sm (fun i => i01 ((∃ k, k < n ∧ g k = i) ∧ X i)) M = sm (fun k => i01 (X (g k))) n
  | 0, _, _ => sm_0 (fun j _ => i01_f (fun q => by obtain ⟨⟨k, hk, _⟩, _⟩ := q; omega))
  | n + 1, h1, h2 => by
    have ih := cnt_inj (g := g) (M := M) (X := X) (n := n) (fun k hk => h1 k (by first | exact oq_9165f1af hk | omega)) (fun k l hk hl e => h2 k l (by first | exact oq_9165f1af hk | omega) (by first | exact oq_9165f1af hl | omega) e)
    have e1 : i01 ((∃ k, k < n ∧ g k = g n) ∧ X (g n)) = 0 := i01_f (fun q => by
      obtain ⟨⟨k, hk, e⟩, _⟩ := q
      have := h2 k n (by first | exact oq_9165f1af hk | omega) (by first | exact oq_626cdfd6 | omega) e
      omega)
    have e2 : i01 ((∃ k, k < n + 1 ∧ g k = g n) ∧ X (g n)) = i01 (X (g n)) := i01_c ⟨fun q => q.2, fun q => ⟨⟨n, by first | exact oq_626cdfd6 | omega, rfl⟩, q⟩⟩
    have e3 := sm_up (f := fun i => i01 ((∃ k, k < n ∧ g k = i) ∧ X i)) (g := fun i => i01 ((∃ k, k < n + 1 ∧ g k = i) ∧ X i)) (i := g n) (fun j hj => i01_c ⟨fun q => ⟨by
      obtain ⟨⟨k, hk, e⟩, _⟩ := q
      refine ⟨k, ?_, e⟩
      by_cases z : k = n
      · exact absurd (by rw [← e, z]) hj
      · omega, q.2⟩, fun q => ⟨by
      obtain ⟨⟨k, hk, e⟩, _⟩ := q
      exact ⟨k, by first | exact oq_9165f1af hk | omega, e⟩, q.2⟩⟩) (h1 n (by first | exact oq_626cdfd6 | omega))
    rw [e3]
    show _ - i01 ((∃ k, k < n ∧ g k = g n) ∧ X (g n)) + i01 ((∃ k, k < n + 1 ∧ g k = g n) ∧ X (g n)) = sm (fun k => i01 (X (g k))) n + i01 (X (g n))
    rw [ih, e1, e2]; omega
/-- a way: cells one step from one another, none twice -/
def WOK (f : Nat → Int) (z : Int) : Prop := (1 ≤ z ∧ z ≤ 24) ∧ (∀ k : Nat, (k : Int) < z → 0 ≤ f k ∧ f k ≤ 127) ∧ (∀ k : Nat, (k : Int) + 1 < z → adjT (f k) (f (k + 1))) ∧ ∀ k l : Nat, (k : Int) < z → (l : Int) < z → f k = f l → k = l
theorem wok_c {f g : Nat → Int} {z : Int} (h : WOK f z) (e : ∀ k : Nat, (k : Int) < z → g k = f k) : WOK g z := by
  obtain ⟨h1, h2, h3, h4⟩ := h
  refine ⟨h1, fun k hk => by rw [e k hk]; exact h2 k hk, fun k hk => by rw [e k (by first | exact oq_7e450c4a hk | omega), e (k + 1) (by first | exact oq_b1ef80e7 hk | omega)]; exact h3 k hk, fun k l hk hl q => h4 k l hk hl (by rw [← e k hk, ← e l hl]; exact q)⟩
theorem ext_wok {d : Int} {a a' : WyA} (h : extT d a = some a') (hd : 0 ≤ d ∧ d ≤ 5) (w : WOK a.2 a.1) : WOK a'.2 a'.1 := by
  obtain ⟨w1, w2, w3, w4⟩ := w
  unfold extT at h
  by_cases c1 : besT (a.2 (a.1 - 1).toNat) d = -1
  · rw [if_pos c1] at h; cases h
  rw [if_neg c1] at h
  by_cases c2 : a.1 = 24
  · rw [if_pos c2] at h; cases h
  rw [if_neg c2] at h
  by_cases c3 : isT a.2 (besT (a.2 (a.1 - 1).toNat) d) a.1.toNat = true
  · rw [if_pos c3] at h; cases h
  rw [if_neg c3] at h
  have e := Option.some.inj h
  subst e
  obtain ⟨n, hn⟩ : ∃ n : Nat, n = a.1.toNat := ⟨_, rfl⟩
  have hl := w2 (a.1 - 1).toNat (by first | exact oq_90a21754 w1.1 | omega)
  have ha : adjT (a.2 (a.1 - 1).toNat) (besT (a.2 (a.1 - 1).toNat) d) := ⟨d, hd.1, hd.2, rfl, c1⟩
  have hr := adj_rng ha hl.1 hl.2
  have hno : ∀ k : Nat, (k : Int) < a.1 → a.2 k ≠ besT (a.2 (a.1 - 1).toNat) d := fun k hk q => c3 (isT_of (k := k) (by omega) q)
  refine ⟨by show 1 ≤ a.1 + 1 ∧ a.1 + 1 ≤ 24; omega, fun k hk => ?_, fun k hk => ?_, fun k l hk hl2 q => ?_⟩
  · replace hk : (k : Int) < a.1 + 1 := hk
    show 0 ≤ (if k = a.1.toNat then _ else a.2 k) ∧ (if k = a.1.toNat then _ else a.2 k) ≤ 127
    by_cases z : k = a.1.toNat
    · rw [if_pos z]; exact hr
    · rw [if_neg z]; exact w2 k (by omega)
  · replace hk : (k : Int) + 1 < a.1 + 1 := hk
    show adjT (if k = a.1.toNat then _ else a.2 k) (if k + 1 = a.1.toNat then _ else a.2 (k + 1))
    rw [if_neg (by omega)]
    by_cases z : k + 1 = a.1.toNat
    · rw [if_pos z, show k = (a.1 - 1).toNat by omega]; exact ha
    · rw [if_neg z]; exact w3 k (by omega)
  · replace hk : (k : Int) < a.1 + 1 := hk
    replace hl2 : (l : Int) < a.1 + 1 := hl2
    replace q : (if k = a.1.toNat then besT (a.2 (a.1 - 1).toNat) d else a.2 k) = (if l = a.1.toNat then besT (a.2 (a.1 - 1).toNat) d else a.2 l) := q
    by_cases z : k = a.1.toNat
    · by_cases y : l = a.1.toNat
      · omega
      · rw [if_pos z, if_neg y] at q
        exact absurd q.symm (hno l (by omega))
    · by_cases y : l = a.1.toNat
      · rw [if_neg z, if_pos y] at q
        exact absurd q (hno k (by omega))
      · rw [if_neg z, if_neg y] at q
        exact w4 k l (by omega) (by omega) q
theorem en_wok {d : Int} (hd : 0 ≤ d ∧ d ≤ 5) : ∀ {n : Nat} {a a' : WyA}, extN d n a = some a' → WOK a.2 a.1 → WOK a'.2 a'.1
  | 0, a, a', h, w => by
    have e : a = a' := Option.some.inj h
    rw [← e]; exact w
  | n + 1, a, a', h, w => by
    cases e : extT d a with
    | none => rw [en_none e] at h; cases h
    | some b => rw [en_step e] at h; exact en_wok hd h (ext_wok e hd w)
theorem dir_rng {c : Int} (h : dirT c ≠ -1) : 0 ≤ dirT c ∧ dirT c ≤ 5 := by
  unfold dirT at h ⊢
  by_cases c0 : c = 114
  · rw [if_pos c0]; decide
  rw [if_neg c0] at h ⊢
  by_cases c1 : c = 108
  · rw [if_pos c1]; decide
  rw [if_neg c1] at h ⊢
  by_cases c2 : c = 100
  · rw [if_pos c2]; decide
  rw [if_neg c2] at h ⊢
  by_cases c3 : c = 117
  · rw [if_pos c3]; decide
  rw [if_neg c3] at h ⊢
  by_cases c4 : c = 99
  · rw [if_pos c4]; decide
  rw [if_neg c4] at h ⊢
  by_cases c5 : c = 115
  · rw [if_pos c5]; decide
  rw [if_neg c5] at h
  exact absurd rfl h
theorem map_some {α β : Type} {o : Option α} {g : α → β} {b : β} (h : o.map g = some b) : ∃ a, o = some a ∧ g a = b := by
  cases o with
  | none => cases h
  | some a => exact ⟨a, rfl, Option.some.inj h⟩
theorem mv_wok {B : Nat → Int} {N q : Int} {a : WyA} {p : Int × WyA} (h : mvT B N q a = some p) (w : WOK a.2 a.1) : WOK p.2.2 p.2.1 := by
  unfold mvT at h
  by_cases c1 : dirT (B q.toNat) = -1
  · rw [if_pos c1] at h; cases h
  rw [if_neg c1] at h
  have hd := dir_rng c1
  by_cases c2 : dirT (B q.toNat) < 4 ∧ sk B N (q + 1) < N ∧ 48 ≤ B (sk B N (q + 1)).toNat ∧ B (sk B N (q + 1)).toNat ≤ 57
  · rw [if_pos c2] at h
    by_cases c3 : nmV B N (sk B N (q + 1)) 0 < 1 ∨ 7 < nmV B N (sk B N (q + 1)) 0
    · rw [if_pos c3] at h; cases h
    rw [if_neg c3] at h
    obtain ⟨b, h1, h2⟩ := map_some h
    rw [← h2]
    exact en_wok hd h1 w
  · rw [if_neg c2] at h
    obtain ⟨b, h1, h2⟩ := map_some h
    rw [← h2]
    exact en_wok hd h1 w
theorem wt_wok {B : Nat → Int} {N : Int} : ∀ {f : Nat} {q : Int} {a b : WyA}, wT B N f q a = some b → WOK a.2 a.1 → WOK b.2 b.1
  | 0, q, a, b, h, w => by
    replace h : (if N ≤ q then some a else none) = some b := h
    by_cases c : N ≤ q
    · rw [if_pos c] at h
      rw [← Option.some.inj h]; exact w
    · rw [if_neg c] at h; cases h
  | f + 1, q, a, b, h, w => by
    replace h : (if N ≤ q then some a else match mvT B N q a with | none => none | some p => wT B N f p.1 p.2) = some b := h
    by_cases c : N ≤ q
    · rw [if_pos c] at h
      rw [← Option.some.inj h]; exact w
    · rw [if_neg c] at h
      cases e : mvT B N q a with
      | none => rw [e] at h; cases h
      | some p => rw [e] at h; exact wt_wok h (mv_wok e w)
theorem parse_wok {B : Nat → Int} {N : Int} {a : WyA} (h : parseT B N = some a) : WOK a.2 a.1 := by
  unfold parseT at h
  by_cases c : sk B N 0 < N ∧ 48 ≤ B (sk B N 0).toNat ∧ B (sk B N 0).toNat ≤ 57
  · rw [if_pos c] at h
    by_cases c2 : 127 < nmV B N (sk B N 0) 0
    · rw [if_pos c2] at h; cases h
    rw [if_neg c2] at h
    refine wt_wok h ⟨by show (1 : Int) ≤ 1 ∧ (1 : Int) ≤ 24; decide, fun k _ => ⟨nmV_nn, by show nmV B N (sk B N 0) 0 ≤ 127; omega⟩, fun k hk => ?_, fun k l hk hl _ => ?_⟩
    · replace hk : (k : Int) + 1 < 1 := hk
      omega
    · replace hk : (k : Int) < 1 := hk
      replace hl : (l : Int) < 1 := hl
      omega
  · rw [if_neg c] at h; cases h
/-- the ends of a step, told by its kind and the bit of its lesser cell -/
def eE1 (κ j : Int) : Int := if κ = 1 ∨ κ = 3 then 64 + j else j
def eE2 (κ j : Int) : Int := if κ = 4 then 64 + j else if κ = 0 then j + 1 else if κ = 1 then 65 + j else if κ = 2 then j + 8 else 72 + j
theorem st_ends {f : Nat → Int} {z : Int} (w : WOK f z) {k : Nat} (hk : (k : Int) + 1 < z) : (0 ≤ kdK f k ∧ kdK f k ≤ 4) ∧ (0 ≤ lsK f k % 64 ∧ lsK f k % 64 ≤ 63) ∧ ((eE1 (kdK f k) (lsK f k % 64) = f k ∧ eE2 (kdK f k) (lsK f k % 64) = f (k + 1)) ∨ (eE1 (kdK f k) (lsK f k % 64) = f (k + 1) ∧ eE2 (kdK f k) (lsK f k % 64) = f k)) ∧ (kdK f k = 4 ∨ (kdK f k ≤ 1 ∧ lsK f k % 64 % 8 ≠ 7) ∨ ((kdK f k = 2 ∨ kdK f k = 3) ∧ lsK f k % 64 ≤ 55)) ∧ (kdK f k = 4 ↔ 4 ≤ goB (f k) (f (k + 1))) := by
  have r1 := w.2.1 k (by first | exact oq_7e450c4a hk | omega)
  obtain ⟨d, d0, d5, e, n⟩ := w.2.2.1 k hk
  have r2 := w.2.1 (k + 1) (by first | exact oq_b1ef80e7 hk | omega)
  generalize hx : f k = x at *
  generalize hy : f (k + 1) = y at *
  unfold besT at e
  unfold kdK lsK goB eE1 eE2
  rw [hx, hy]
  rcases (show d = 0 ∨ d = 1 ∨ d = 2 ∨ d = 3 ∨ d = 4 ∨ d = 5 by first | exact oq_a7961805 d5 d0 | omega) with q | q | q | q | q | q <;> subst q <;> simp at e <;> split at e
  all_goals omega
/-- a step's number: its kind and its bit -/
def stI (f : Nat → Int) (k : Nat) : Nat := (kdK f k * 64 + lsK f k % 64).toNat
theorem sti_lt {f : Nat → Int} {z : Int} (w : WOK f z) {k : Nat} (hk : (k : Int) + 1 < z) : stI f k < 320 := by
  have h := st_ends w hk
  unfold stI
  omega
theorem sti_inj {f : Nat → Int} {z : Int} (w : WOK f z) {k l : Nat} (hk : (k : Int) + 1 < z) (hl : (l : Int) + 1 < z) (e : stI f k = stI f l) : k = l := by
  have h := st_ends w hk
  have g := st_ends w hl
  unfold stI at e
  have e1 : kdK f k = kdK f l := by first | exact oq_7142b17e g.2.1.2 g.2.1.1 g.1.1 h.2.1.2 h.2.1.1 h.1.1 e | omega
  have e2 : lsK f k % 64 = lsK f l % 64 := by first | exact oq_f319d573 e1 g.2.1.1 g.1.1 h.2.1.1 h.1.1 e | omega
  have h3 := h.2.2.1
  have g3 := g.2.2.1
  rw [e1, e2] at h3
  have i4 := w.2.2.2
  rcases h3 with ⟨a, b⟩ | ⟨a, b⟩ <;> rcases g3 with ⟨c, d⟩ | ⟨c, d⟩
  · exact i4 k l (by first | exact oq_7e450c4a hk | omega) (by first | exact oq_7e450c4a hl | omega) (a.symm.trans c)
  · have x := i4 k (l + 1) (by first | exact oq_7e450c4a hk | omega) (by first | exact oq_b1ef80e7 hl | omega) (a.symm.trans c)
    have y := i4 (k + 1) l (by first | exact oq_b1ef80e7 hk | omega) (by first | exact oq_7e450c4a hl | omega) (b.symm.trans d)
    omega
  · have x := i4 (k + 1) l (by first | exact oq_b1ef80e7 hk | omega) (by first | exact oq_7e450c4a hl | omega) (a.symm.trans c)
    have y := i4 k (l + 1) (by first | exact oq_7e450c4a hk | omega) (by first | exact oq_b1ef80e7 hl | omega) (b.symm.trans d)
    omega
  · have x := i4 (k + 1) (l + 1) (by first | exact oq_b1ef80e7 hk | omega) (by first | exact oq_b1ef80e7 hl | omega) (a.symm.trans c)
    omega
/-- the cells of a set of two longs -/
def inL (lo hi : Int64) (c : Int) : Prop := (0 ≤ c ∧ c < 64 ∧ bJ lo c.toNat) ∨ (64 ≤ c ∧ c < 128 ∧ bJ hi (c - 64).toNat)
/-- how many bits of a long are so -/
noncomputable def bcP (x : Int64) (X : Nat → Prop) : Int := sm (fun j => i01 (bJ x j ∧ X j)) 64
/-- the steps of a way, over all kinds and bits -/
theorem st_cnt {f : Nat → Int} {z : Int} (w : WOK f z) {T : Nat → Int64} (hT : ∀ κ j : Nat, κ < 5 → j < 64 → (bJ (T κ) j ↔ stP f z z κ j)) {X : Nat → Prop} : sm (fun κ => bcP (T κ) (fun j => X (κ * 64 + j))) 5 = sm (fun k => i01 (X (stI f k))) (z - 1).toNat := by
  have h := cnt_inj (g := stI f) (M := 320) (X := X) (n := (z - 1).toNat) (fun k hk => sti_lt w (by first | exact oq_9d2ce241 hk | omega)) (fun k l hk hl e => sti_inj w (by first | exact oq_9d2ce241 hk | omega) (by first | exact oq_c5f8261e hl hk | omega) e)
  rw [← h]
  have r : ∀ κ : Nat, κ < 5 → bcP (T κ) (fun j => X (κ * 64 + j)) = sm (fun j => (fun i => i01 ((∃ k, k < (z - 1).toNat ∧ stI f k = i) ∧ X i)) (κ * 64 + j)) 64 := by
    intro κ hκ
    refine sm_eq (fun j hj => i01_c ?_)
    rw [hT κ j hκ hj]
    constructor
    · rintro ⟨⟨k, k1, k2, k3, k4⟩, hx⟩
      refine ⟨⟨k, by first | exact oq_5a3927c1 k2 | omega, ?_⟩, hx⟩
      unfold stI
      rw [k3, k4]; omega
    · rintro ⟨⟨k, k1, k2⟩, hx⟩
      have g := st_ends w (show (k : Int) + 1 < z by first | exact oq_9d2ce241 k1 | omega)
      unfold stI at k2
      exact ⟨⟨k, by first | exact oq_15e35fec k1 | omega, by first | exact oq_9d2ce241 k1 | omega, by first | exact oq_b4ed670a g.2.1.2 g.2.1.1 g.1.1 k2 hj | omega, by first | exact oq_643b54d6 g.2.2.2.1 g.2.1.2 g.2.1.1 g.1.2 g.1.1 k2 hj | omega⟩, hx⟩
  have c5 : sm (fun κ => bcP (T κ) (fun j => X (κ * 64 + j))) 5 = sm (fun κ => sm (fun j => (fun i => i01 ((∃ k, k < (z - 1).toNat ∧ stI f k = i) ∧ X i)) (κ * 64 + j)) 64) 5 := sm_eq (fun κ hκ => r κ hκ)
  rw [c5]
  generalize (fun i => i01 ((∃ k, k < (z - 1).toNat ∧ stI f k = i) ∧ X i)) = F
  have d : ∀ m : Nat, sm (fun κ => sm (fun j => F (κ * 64 + j)) 64) m = sm F (m * 64) := by
    intro m
    induction m with
    | zero => rfl
    | succ m ih =>
      show sm (fun κ => sm (fun j => F (κ * 64 + j)) 64) m + sm (fun j => F (m * 64 + j)) 64 = _
      rw [ih, show (m + 1) * 64 = m * 64 + 64 by first | exact oq_e619193a | omega, sm_cat]
  exact d 5
/-! The JDK's count of bits, over longs -/
def jN (x : Int64) : Nat := x.toBitVec.toNat
theorem jN_lt (x : Int64) : jN x < 18446744073709551616 := x.toBitVec.isLt
theorem jN_and (x y : Int64) : jN (x &&& y) = jN x &&& jN y := by unfold jN; rw [Int64.toBitVec_and, BitVec.toNat_and]
theorem jN_add {x y : Int64} (h : jN x + jN y < 18446744073709551616) : jN (x + y) = jN x + jN y := by
  unfold jN at h ⊢
  rw [Int64.toBitVec_add, BitVec.toNat_add]
  exact Nat.mod_eq_of_lt h
theorem jN_sub {x y : Int64} (h : jN y ≤ jN x) : jN (x - y) = jN x - jN y := by
  have hx := jN_lt x
  unfold jN at h hx ⊢
  rw [Int64.toBitVec_sub, BitVec.toNat_sub]
  show (18446744073709551616 - y.toBitVec.toNat + x.toBitVec.toNat) % 18446744073709551616 = _
  omega
theorem jN_ushr {x : Int64} {c : Nat} (h : c < 64) : jN (jushr x (c : Int)) = jN x / 2 ^ c := by
  have e : ((Int32.ofInt (c : Int)).toInt64.toUInt64 &&& Int64.toUInt64 63).toNat = c := by
    rw [on_of (by first | exact oq_a3593015 | omega), show ((c : Int)).toNat = c by first | exact oq_3d866207 | omega]
    exact wb_cu c h
  show (x.toUInt64 >>> ((Int32.ofInt (c : Int)).toInt64.toUInt64 &&& Int64.toUInt64 63)).toNat = x.toUInt64.toNat / 2 ^ c
  rw [UInt64.toNat_shiftRight, e, Nat.mod_eq_of_lt h, Nat.shiftRight_eq_div_pow]
theorem bJ_N {x : Int64} {i : Nat} : bJ x i ↔ jN x / 2 ^ i % 2 = 1 := by
  show (jN x).testBit i = true ↔ _
  rw [Nat.testBit_eq_decide_div_mod_eq, decide_eq_true_eq]
/-- how many bits of a long are 1 -/
noncomputable def bnN (x : Int64) : Int := sm (fun j => i01 (bJ x j)) 64
theorem bc_pc {x : Int64} : ∀ k : Nat, ((pcN (jN x) k : Nat) : Int) = sm (fun j => i01 (bJ x j)) k
  | 0 => rfl
  | k + 1 => by
    show ((pcN (jN x) k + jN x / 2 ^ k % 2 : Nat) : Int) = sm (fun j => i01 (bJ x j)) k + i01 (bJ x k)
    rw [← bc_pc k]
    by_cases h : bJ x k
    · rw [i01_t h]
      have := bJ_N.mp h
      omega
    · rw [i01_f h]
      have n1 : ¬ (jN x / 2 ^ k % 2 = 1) := fun q => h (bJ_N.mpr q)
      omega
theorem bnN_r (x : Int64) : 0 ≤ bnN x ∧ bnN x ≤ 64 := by
  refine ⟨sm_nn (fun j _ => i01_r.1), ?_⟩
  have := sm_bd (f := fun j => i01 (bJ x j)) (c := 1) (n := 64) (fun j _ => i01_r.2)
  unfold bnN
  omega
theorem lN_c1 : jN (lN 6148914691236517205) = mkB 85 8 := by decide +kernel
theorem lN_c2 : jN (lN 3689348814741910323) = mkB 51 8 := by decide +kernel
theorem lN_c3 : jN (lN 1085102592571150095) = mkB 15 8 := by decide +kernel
theorem bc_eq {x x1 x2 x3 x4 x5 x6 : Int64} (h1 : x1 = x - (jushr x 1 &&& lN 6148914691236517205)) (h2 : x2 = (x1 &&& lN 3689348814741910323) + (jushr x1 2 &&& lN 3689348814741910323)) (h3 : x3 = (x2 + jushr x2 4) &&& lN 1085102592571150095) (h4 : x4 = x3 + jushr x3 8) (h5 : x5 = x4 + jushr x4 16) (h6 : x6 = x5 + jushr x5 32) : (x6.toInt32 &&& Int32.ofInt 127) = Int32.ofInt (bnN x) := by
  obtain ⟨n, hn⟩ : ∃ n, n = jN x := ⟨_, rfl⟩
  have n0 := jN_lt x
  rw [← hn] at n0
  have sh := fun (y : Int64) (c : Nat) (h : c < 64) => jN_ushr (x := y) h
  have m1 : jN x1 = p8A 8 n := by
    have e : jN (jushr x 1 &&& lN 6148914691236517205) = (n / 2 &&& mkB 85 8) := by rw [jN_and, lN_c1, show jN (jushr x 1) = jN x / 2 from sh x 1 (by decide), ← hn]
    have l : (n / 2 &&& mkB 85 8) ≤ n := Nat.le_trans Nat.and_le_left (Nat.div_le_self _ _)
    rw [h1, jN_sub (by rw [e, ← hn]; exact l), e, ← hn]
    rfl
  have c2 : mkB 51 8 = 3689348814741910323 := by decide
  have c3 : mkB 15 8 = 1085102592571150095 := by decide
  have b2 : (jN x1 &&& mkB 51 8) + (jN x1 / 4 &&& mkB 51 8) ≤ 7378697629483820646 := by
    have a := @Nat.and_le_right (jN x1) (mkB 51 8)
    have b := @Nat.and_le_right (jN x1 / 4) (mkB 51 8)
    rw [c2] at a b ⊢
    omega
  have m2 : jN x2 = p8B 8 (p8A 8 n) := by
    have e1 : jN (x1 &&& lN 3689348814741910323) = (jN x1 &&& mkB 51 8) := by rw [jN_and, lN_c2]
    have e2 : jN (jushr x1 2 &&& lN 3689348814741910323) = (jN x1 / 4 &&& mkB 51 8) := by rw [jN_and, lN_c2, show jN (jushr x1 2) = jN x1 / 4 from sh x1 2 (by decide)]
    rw [h2, jN_add (by rw [e1, e2]; exact Nat.lt_of_le_of_lt b2 (by decide)), e1, e2, m1]
    rfl
  have b3 : jN x2 ≤ 7378697629483820646 := by
    rw [m2]
    show (p8A 8 n &&& mkB 51 8) + (p8A 8 n / 4 &&& mkB 51 8) ≤ _
    rw [← m1]; exact b2
  have m3 : jN x3 = bsN n 8 := by
    have e1 : jN (jushr x2 4) = jN x2 / 16 := sh x2 4 (by decide)
    rw [h3, jN_and, lN_c3, jN_add (by rw [e1]; omega), e1, m2, ← cnt3 8 n (Nat.lt_of_lt_of_le n0 (by decide))]
    rfl
  have fin := bc_fin n rfl rfl rfl
  obtain ⟨i1, e1⟩ : ∃ i, i = bsN n 8 + bsN n 8 / 256 := ⟨_, rfl⟩
  rw [← e1] at fin
  obtain ⟨i2, e2⟩ : ∃ i, i = i1 + i1 / 65536 := ⟨_, rfl⟩
  rw [← e2] at fin
  obtain ⟨i3, e3⟩ : ∃ i, i = i2 + i2 / 4294967296 := ⟨_, rfl⟩
  rw [← e3] at fin
  have m4 : jN x4 = i1 := by
    have q : jN (jushr x3 8) = jN x3 / 256 := sh x3 8 (by decide)
    rw [h4, jN_add (by rw [q, m3]; omega), q, m3, e1]
  have m5 : jN x5 = i2 := by
    have q : jN (jushr x4 16) = jN x4 / 65536 := sh x4 16 (by decide)
    rw [h5, jN_add (by rw [q, m4]; omega), q, m4, e2]
  have m6 : jN x6 = i3 := by
    have q : jN (jushr x5 32) = jN x5 / 4294967296 := sh x5 32 (by decide)
    rw [h6, jN_add (by rw [q, m5]; omega), q, m5, e3]
  have k1 : ((pcN n 64 : Nat) : Int) = bnN x := by rw [hn]; exact bc_pc 64
  have k2 := bnN_r x
  apply Int32.toBitVec.inj
  rw [Int32.toBitVec_and, Int64.toBitVec_toInt32, BitVec.signExtend_eq_setWidth_of_le _ (by decide)]
  apply BitVec.eq_of_toNat_eq
  rw [BitVec.toNat_and, BitVec.toNat_setWidth, ← k1, show (Int32.ofInt 127).toBitVec.toNat = 2 ^ 7 - 1 by decide, Nat.and_two_pow_sub_one_eq_mod]
  show jN x6 % 4294967296 % 128 = (Int32.ofNat (pcN n 64)).toBitVec.toNat
  rw [m6, Int32.toBitVec_ofNat', BitVec.toNat_ofNat]
  have t := bsT_pc 8 n
  rw [show (8 : Nat) * 8 = 64 from rfl] at t
  have f1 := fin.1
  rw [t] at f1
  show _ = pcN n 64 % 4294967296
  omega
/-! The class's ways as bits: what setWay lays, and how two ways meet -/
/-- arrays of longs as they were -/
def SDa (a : Nat) (s t : PS) : Prop := ∀ j : Nat, gD t a j = gD s a j
theorem sda_rf {a : Nat} {s : PS} : SDa a s s := fun _ => rfl
theorem sda_ts {a : Nat} {s t u : PS} (h : SDa a s t) (g : SDa a t u) : SDa a s u := fun j => (g j).trans (h j)
theorem sda_fm {a : Nat} {L M : List Nat} {s t : PS} (F : Fm L M s t) (h : a + 1000 ∉ M) : SDa a s t := fun _ => fm_dd F h
theorem sda_D {a b j : Nat} {s t : PS} {x : Int64} (hb : a ≠ b) (h : SDa a s t) : SDa a s (uD t b j x) := fun i => by
  show (if a = b then vp_updL (t.2.2.2.1 b) j x else t.2.2.2.1 a) i = _
  rw [if_neg hb]
  exact h i
/-- the kind of a step: its bit's row -/
def kdZ (y z : Int) : Int := if 4 ≤ z then 4 else z / 2 * 2 + y / 64
theorem kdZ_K {f : Nat → Int} {k : Nat} : kdZ (lsK f k) (goB (f k) (f (k + 1))) = kdK f k := rfl
theorem goB_r {a b : Int} : 0 ≤ goB a b ∧ goB a b ≤ 5 := by
  unfold goB
  by_cases c1 : b - a = 1
  · rw [if_pos c1]; decide
  rw [if_neg c1]
  by_cases c2 : b - a = -1
  · rw [if_pos c2]; decide
  rw [if_neg c2]
  by_cases c3 : b - a = 8
  · rw [if_pos c3]; decide
  rw [if_neg c3]
  by_cases c4 : b - a = -8
  · rw [if_pos c4]; decide
  rw [if_neg c4]
  by_cases c5 : b - a = 64
  · rw [if_pos c5]; decide
  rw [if_neg c5]; decide
theorem goB_of {a b e : Int} (h : (b - a = -8 ∧ e = 3) ∨ (b - a = -1 ∧ e = 1) ∨ (b - a = 1 ∧ e = 0) ∨ (b - a = 8 ∧ e = 2) ∨ (b - a = 64 ∧ e = 4) ∨ (b - a ≠ -8 ∧ b - a ≠ -1 ∧ b - a ≠ 1 ∧ b - a ≠ 8 ∧ b - a ≠ 64 ∧ e = 5)) : e = goB a b := by
  unfold goB
  rcases h with ⟨h, z⟩ | ⟨h, z⟩ | ⟨h, z⟩ | ⟨h, z⟩ | ⟨h, z⟩ | ⟨h1, h2, h3, h4, h5, z⟩
  · rw [h, z]; rfl
  · rw [h, z]; rfl
  · rw [h, z]; rfl
  · rw [h, z]; rfl
  · rw [h, z]; rfl
  · rw [if_neg h3, if_neg h2, if_neg h4, if_neg h1, if_neg h5, z]
/-- a stream's three rows: the first c cells of its way f (w in all) are in them -/
def WRQ (f : Nat → Int) (x w c : Int) (s t : PS) : Prop :=
  BQT 3 (x * 2).toNat 2 (fun j i => ∃ k : Nat, (k : Int) < c ∧ f k / 64 = (j : Int) ∧ f k % 64 = (i : Int)) s t ∧ BQT 4 (x * 14).toNat 14 (fun j i => gmP f w c j i) s t ∧ BQT 5 (x * 5).toNat 5 (fun j i => stP f w c j i) s t
/-- all rows of x are empty -/
def WZQ (x : Int) (s t : PS) : Prop := BZT 3 (x * 2).toNat 2 s t ∧ BZT 4 (x * 14).toNat 14 s t ∧ BZT 5 (x * 5).toNat 5 s t
theorem wrq_0 {f : Nat → Int} {x w : Int} {r s t : PS} (h : WZQ x s t) (h1 : SDa 3 r s) (h2 : SDa 4 r s) (h3 : SDa 5 r s) : WRQ f x w 0 r t := by
  refine ⟨bq_ext (bq_bas (bz_bq h.1) h1) (fun j i _ _ => ⟨False.elim, fun ⟨k, hk, _⟩ => by omega⟩), bq_ext (bq_bas (bz_bq h.2.1) h2) (fun j i _ _ => ⟨False.elim, fun ⟨k, hk, _⟩ => by omega⟩), bq_ext (bq_bas (bz_bq h.2.2) h3) (fun j i _ _ => ⟨False.elim, fun ⟨k, hk, _⟩ => by omega⟩)⟩
/-- where a cell goes, at the turn c of the laying -/
def GOQ (f : Nat → Int) (w c g : Int) : Prop := (c = 0 ∧ g = 6) ∨ (1 ≤ c ∧ (c < w → g = goB (f (c - 1).toNat) (f c.toNat)))
theorem goq_k {f : Nat → Int} {w c g : Int} (h : GOQ f w c g) (h0 : 0 ≤ c) (hc : c < w) (hl : w ≤ c + 1) : g = goK f w c.toNat := by
  unfold goK
  rcases h with ⟨h, z⟩ | ⟨h, z⟩
  · rw [if_pos (by first | exact oq_794b19d3 h hl hc | omega)]; exact z
  · rw [if_neg (by first | exact oq_3e48337e h hc | omega), if_neg (by first | exact oq_78481f93 h hl | omega), z hc, show c.toNat - 1 = (c - 1).toNat by first | exact oq_25c81da0 h | omega]
theorem gok_n {f : Nat → Int} {w c g : Int} (h0 : 0 ≤ c) (hc : c + 1 < w) (hg : g = goB (f c.toNat) (f (c + 1).toNat)) : g = goK f w c.toNat := by
  unfold goK
  rw [if_neg (by first | exact oq_3e8f7680 hc h0 | omega), if_pos (by first | exact oq_23736893 hc h0 | omega), hg, show (c + 1).toNat = c.toNat + 1 by first | exact oq_c30340c4 h0 | omega]
/-- one cell more: without a step behind it (the last), with one -/
theorem wrq_last {f : Nat → Int} {x w c g e i1 i2 : Int} {s t u v : PS} (h : WRQ f x w c s t) (hu : u = uD t 3 i1.toNat (gD t 3 i1.toNat ||| jshl 1 (e % 64))) (hv : v = uD u 4 i2.toNat (gD u 4 i2.toNat ||| jshl 1 (e % 64))) (he : e = f c.toNat) (e0 : 0 ≤ e ∧ e ≤ 127) (x0 : 0 ≤ x) (c0 : 0 ≤ c) (hg : g = goK f w c.toNat) (g0 : 0 ≤ g ∧ g ≤ 6) (h1 : i1 = x * 2 + e / 64) (h2 : i2 = (x * 7 + g) * 2 + e / 64) (hl : w ≤ c + 1) : WRQ f x w (c + 1) s v := by
  obtain ⟨m, gm, st⟩ := h
  refine ⟨?_, ?_, ?_⟩
  · refine bq_sam (bq_up (i0 := i1) (c := e % 64) m hu (by first | exact And.intro (oq_b4e0ef0a) (oq_ae0eed6c) | omega) (by first | exact And.intro (oq_4ba01ac2 h1 x0 e0.1) (oq_9023b3bd h1 e0.2) | omega) (fun j i hj hi => ?_)) (fun j => by rw [hv]; exact sda_D (by decide) sda_rf j)
    constructor
    · rintro ⟨k, k1, k2, k3⟩
      by_cases z : k = c.toNat
      · rw [z, ← he] at k2 k3
        exact Or.inr ⟨by first | exact oq_c28fd761 k2 h1 x0 | omega, by first | exact oq_4d685b7e k3 | omega⟩
      · exact Or.inl ⟨k, by first | exact oq_d0f089f6 z k1 | omega, k2, k3⟩
    · rintro (⟨k, k1, k2, k3⟩ | ⟨q1, q2⟩)
      · exact ⟨k, by first | exact oq_a61e8389 k1 | omega, k2, k3⟩
      · exact ⟨c.toNat, by first | exact oq_4d6510ff c0 | omega, by rw [← he]; omega, by rw [← he]; omega⟩
  · have gm2 := bq_sam gm (fun j => show gD u 4 j = gD t 4 j by rw [hu]; exact sda_D (by decide) sda_rf j)
    refine bq_up (i0 := i2) (c := e % 64) gm2 hv (by first | exact And.intro (oq_b4e0ef0a) (oq_ae0eed6c) | omega) (by first | exact And.intro (oq_cd27ee0f h2 g0.1 x0 e0.1) (oq_88f8cadc h2 g0.2 e0.2) | omega) (fun j i hj hi => ?_)
    rw [gm_up c0, ← hg, ← he]
    constructor
    · rintro (q | q)
      · exact Or.inl q
      · exact Or.inr ⟨by first | exact oq_e5539e97 q.1 h2 x0 | omega, by first | exact oq_4d685b7e q.2 | omega⟩
    · rintro (q | q)
      · exact Or.inl q
      · exact Or.inr ⟨by first | exact oq_b5e4c05b q.1 h2 h1 g0.2 e0.2 | omega, by first | exact oq_3ef37ae5 q.2 | omega⟩
  · refine bq_sam (bq_ext st (fun j i _ _ => (st_no hl).symm)) (fun j => by rw [hv, hu]; exact sda_D (by decide) (sda_D (by decide) sda_rf) j)
theorem wrq_more {f : Nat → Int} {x w c g e i1 i2 i3 y : Int} {s t r u v : PS} (h : WRQ f x w c s t) (hr : r = uD t 5 i3.toNat (gD t 5 i3.toNat ||| jshl 1 (y % 64))) (hu : u = uD r 3 i1.toNat (gD r 3 i1.toNat ||| jshl 1 (e % 64))) (hv : v = uD u 4 i2.toNat (gD u 4 i2.toNat ||| jshl 1 (e % 64))) (he : e = f c.toNat) (e0 : 0 ≤ e ∧ e ≤ 127) (x0 : 0 ≤ x) (c0 : 0 ≤ c) (hg : g = goB (f c.toNat) (f (c + 1).toNat)) (h1 : i1 = x * 2 + e / 64) (h2 : i2 = (x * 7 + g) * 2 + e / 64) (hy : y = lsK f c.toNat) (y0 : 0 ≤ y ∧ y ≤ 127) (h3 : i3 = x * 5 + kdZ y g) (k0 : 0 ≤ kdZ y g ∧ kdZ y g ≤ 4) (hl : c + 1 < w) : WRQ f x w (c + 1) s v := by
  obtain ⟨m, gm, st⟩ := h
  have g0 : 0 ≤ g ∧ g ≤ 5 := by rw [hg]; exact goB_r
  have ek : kdZ y g = kdK f c.toNat := by rw [hy, hg, show (c + 1).toNat = c.toNat + 1 by first | exact oq_c30340c4 c0 | omega]; exact kdZ_K
  refine ⟨?_, ?_, ?_⟩
  · have m2 := bq_sam m (fun j => show gD r 3 j = gD t 3 j by rw [hr]; exact sda_D (by decide) sda_rf j)
    refine bq_sam (bq_up (i0 := i1) (c := e % 64) m2 hu (by first | exact And.intro (oq_b4e0ef0a) (oq_ae0eed6c) | omega) (by first | exact And.intro (oq_4ba01ac2 h1 x0 e0.1) (oq_9023b3bd h1 e0.2) | omega) (fun j i hj hi => ?_)) (fun j => by rw [hv]; exact sda_D (by decide) sda_rf j)
    constructor
    · rintro ⟨k, k1, k2, k3⟩
      by_cases z : k = c.toNat
      · rw [z, ← he] at k2 k3
        exact Or.inr ⟨by first | exact oq_c28fd761 k2 h1 x0 | omega, by first | exact oq_4d685b7e k3 | omega⟩
      · exact Or.inl ⟨k, by first | exact oq_d0f089f6 z k1 | omega, k2, k3⟩
    · rintro (⟨k, k1, k2, k3⟩ | ⟨q1, q2⟩)
      · exact ⟨k, by first | exact oq_a61e8389 k1 | omega, k2, k3⟩
      · exact ⟨c.toNat, by first | exact oq_4d6510ff c0 | omega, by rw [← he]; omega, by rw [← he]; omega⟩
  · have gm2 := bq_sam gm (fun j => show gD u 4 j = gD t 4 j by rw [hu, hr]; exact sda_D (by decide) (sda_D (by decide) sda_rf) j)
    have hgk := gok_n (f := f) c0 hl hg
    refine bq_up (i0 := i2) (c := e % 64) gm2 hv (by first | exact And.intro (oq_b4e0ef0a) (oq_ae0eed6c) | omega) (by first | exact And.intro (oq_768dd088 g0.1 h2 x0 e0.1) (oq_e79585e0 g0.2 h2 e0.2) | omega) (fun j i hj hi => ?_)
    rw [gm_up c0, ← hgk, ← he]
    constructor
    · rintro (q | q)
      · exact Or.inl q
      · exact Or.inr ⟨by first | exact oq_e5539e97 q.1 h2 x0 | omega, by first | exact oq_4d685b7e q.2 | omega⟩
    · rintro (q | q)
      · exact Or.inl q
      · exact Or.inr ⟨by first | exact oq_791177b5 q.1 g0.2 h2 h1 e0.2 | omega, by first | exact oq_3ef37ae5 q.2 | omega⟩
  · refine bq_sam (bq_up (i0 := i3) (c := y % 64) st hr (by first | exact And.intro (oq_b4e0ef0a) (oq_ae0eed6c) | omega) (by first | exact And.intro (oq_e09c5c02 k0.1 h3 x0) (oq_5a905f0f k0.2 h3) | omega) (fun j i hj hi => ?_)) (fun j => by rw [hv, hu]; exact sda_D (by decide) (sda_D (by decide) sda_rf) j)
    rw [st_up c0 hl, ← ek, ← hy]
    constructor
    · rintro (q | q)
      · exact Or.inl q
      · exact Or.inr ⟨by first | exact oq_18391f9c q.1 h3 x0 | omega, by first | exact oq_4d685b7e q.2 | omega⟩
    · rintro (q | q)
      · exact Or.inl q
      · exact Or.inr ⟨by first | exact oq_cb93dbf3 q.1 k0.2 h3 | omega, by first | exact oq_3ef37ae5 q.2 | omega⟩
/-- the same, one array each: for the walker -/
def SDG (s t : PS) : Prop := SDa 4 s t
theorem sdg_rf {s : PS} : SDG s s := sda_rf
theorem sdg_ts {s t u : PS} (h : SDG s t) (g : SDG t u) : SDG s u := sda_ts h g
theorem sdg_fm {L M : List Nat} {s t : PS} (F : Fm L M s t) (h : 4 + 1000 ∉ M) : SDG s t := sda_fm F h
def SDP (s t : PS) : Prop := SDa 5 s t
theorem sdp_rf {s : PS} : SDP s s := sda_rf
theorem sdp_ts {s t u : PS} (h : SDP s t) (g : SDP t u) : SDP s u := sda_ts h g
theorem sdp_fm {L M : List Nat} {s t : PS} (F : Fm L M s t) (h : 5 + 1000 ∉ M) : SDP s t := sda_fm F h
/-- rows made empty, one after the other -/
def WZ1 (x c : Int) (s t : PS) : Prop := BZT 3 (x * 2).toNat 2 s t ∧ BZT 4 (x * 14).toNat c.toNat s t ∧ SDa 5 s t
def WZ2 (x c : Int) (s t : PS) : Prop := BZT 3 (x * 2).toNat 2 s t ∧ BZT 4 (x * 14).toNat 14 s t ∧ BZT 5 (x * 5).toNat c.toNat s t
theorem wz1_0 {x i j : Int} {s t u : PS} (h1 : t = uD s 3 i.toNat 0) (h2 : u = uD t 3 j.toNat 0) (hi : i = x * 2) (hj : j = x * 2 + 1) (x0 : 0 ≤ x) : WZ1 x 0 s u := by
  refine ⟨bz_up (bz_up bz_0 h1 (by first | exact oq_29281fa3 x0 hi | omega)) h2 (by first | exact oq_16d3d0a4 x0 hj | omega), bz_sam bz_0 (fun k => ?_), fun k => ?_⟩
  · rw [h2, h1]; exact sda_D (by decide) (sda_D (by decide) sda_rf) k
  · rw [h2, h1]; exact sda_D (by decide) (sda_D (by decide) sda_rf) k
theorem wz1_up {x c i : Int} {s t u : PS} (h : WZ1 x c s t) (hu : u = uD t 4 i.toNat 0) (hi : i = x * 14 + c) (x0 : 0 ≤ x) (c0 : 0 ≤ c) : WZ1 x (c + 1) s u := by
  refine ⟨bz_sam h.1 (fun k => by rw [hu]; exact sda_D (by decide) sda_rf k), ?_, sda_ts h.2.2 (by rw [hu]; exact sda_D (by decide) sda_rf)⟩
  rw [show (c + 1).toNat = c.toNat + 1 by first | exact oq_c30340c4 c0 | omega]
  exact bz_up h.2.1 hu (by first | exact oq_a9acc992 c0 x0 hi | omega)
theorem wz2_0 {x : Int} {s t : PS} (h : WZ1 x 14 s t) : WZ2 x 0 s t := ⟨h.1, h.2.1, bz_sam bz_0 h.2.2⟩
theorem wz2_up {x c i : Int} {s t u : PS} (h : WZ2 x c s t) (hu : u = uD t 5 i.toNat 0) (hi : i = x * 5 + c) (x0 : 0 ≤ x) (c0 : 0 ≤ c) : WZ2 x (c + 1) s u := by
  refine ⟨bz_sam h.1 (fun k => by rw [hu]; exact sda_D (by decide) sda_rf k), bz_sam h.2.1 (fun k => by rw [hu]; exact sda_D (by decide) sda_rf k), ?_⟩
  rw [show (c + 1).toNat = c.toNat + 1 by first | exact oq_c30340c4 c0 | omega]
  exact bz_up h.2.2 hu (by first | exact oq_0104ac9c c0 x0 hi | omega)
theorem kdz_r {y z : Int} (hy : 0 ≤ y ∧ y ≤ 127) (hz : 0 ≤ z ∧ z ≤ 5) : 0 ≤ kdZ y z ∧ kdZ y z ≤ 4 := by
  unfold kdZ
  by_cases c : 4 ≤ z
  · rw [if_pos c]; decide
  · rw [if_neg c]; omega
theorem gok_r {f : Nat → Int} {z : Int} {k : Nat} : 0 ≤ goK f z k ∧ goK f z k ≤ 6 := by
  unfold goK
  by_cases q1 : z = 1
  · rw [if_pos q1]; decide
  · rw [if_neg q1]
    by_cases q2 : (k : Int) + 1 < z
    · rw [if_pos q2]; have := @goB_r (f k) (f (k + 1)); omega
    · rw [if_neg q2]; have := @goB_r (f (k - 1)) (f k); omega
/-- the air of the class: every stream's rows are those of its way -/
def AIR (s : PS) : Prop := iI s 9 ≤ 12 ∧ ∀ x : Nat, (x : Int) < iI s 9 → WOK (fun k => iC s 1 (24 * x + k)) (iC s 2 x) ∧
  (∀ d : Nat, d < 128 → (bJ (gD s 3 (2 * x + d / 64)) (d % 64) ↔ ∃ k : Nat, (k : Int) < iC s 2 x ∧ iC s 1 (24 * x + k) = (d : Int))) ∧
  (∀ g d : Nat, g < 7 → d < 128 → (bJ (gD s 4 (14 * x + 2 * g + d / 64)) (d % 64) ↔ ∃ k : Nat, (k : Int) < iC s 2 x ∧ iC s 1 (24 * x + k) = (d : Int) ∧ goK (fun k => iC s 1 (24 * x + k)) (iC s 2 x) k = (g : Int))) ∧
  ∀ κ j : Nat, κ < 5 → j < 64 → (bJ (gD s 5 (5 * x + κ)) j ↔ stP (fun k => iC s 1 (24 * x + k)) (iC s 2 x) (iC s 2 x) κ j)
theorem AIR_fm {L M : List Nat} {s t : PS} (F : Fm L M s t) (h : 9 ∉ L ∧ 1 ∉ M ∧ 2 ∉ M ∧ 3 + 1000 ∉ M ∧ 4 + 1000 ∉ M ∧ 5 + 1000 ∉ M) (r : AIR s) : AIR t := by
  have e1 : iI t 9 = iI s 9 := fm_i F h.1
  have e2 : ∀ j, iC t 1 j = iC s 1 j := fun j => fm_c F h.2.1
  have e3 : ∀ j, iC t 2 j = iC s 2 j := fun j => fm_c F h.2.2.1
  have e4 : ∀ j, gD t 3 j = gD s 3 j := fun j => fm_dd F h.2.2.2.1
  have e5 : ∀ j, gD t 4 j = gD s 4 j := fun j => fm_dd F h.2.2.2.2.1
  have e6 : ∀ j, gD t 5 j = gD s 5 j := fun j => fm_dd F h.2.2.2.2.2
  refine ⟨by rw [e1]; exact r.1, fun x hx => ?_⟩
  rw [e1] at hx
  have z := r.2 x hx
  simp only [e2, e3, e4, e5, e6]
  exact z
/-- the stream that is laid last -/
theorem air_up {w : Int} {s t : PS} (h : AIR s) (hn : iI t 9 = iI s 9 + 1) (h0 : 0 ≤ iI s 9 ∧ iI s 9 ≤ 11) (hw : WRQ (fun k => iC s 15 k) (iI s 9) w w s t) (ho : WOK (fun k => iC s 15 k) w) (hs : iC t 2 (iI s 9).toNat = w) (hc : ∀ k : Nat, (k : Int) < w → iC t 1 (24 * (iI s 9).toNat + k) = iC s 15 k) (hs2 : ∀ j : Nat, j < (iI s 9).toNat → iC t 2 j = iC s 2 j) (hc2 : ∀ j : Nat, j < 24 * (iI s 9).toNat → iC t 1 j = iC s 1 j) : AIR t := by
  obtain ⟨m, gm, st⟩ := hw
  refine ⟨by first | exact oq_c10613b9 h0.2 hn | omega, fun x hx => ?_⟩
  by_cases z : (x : Int) = iI s 9
  · have ex : x = (iI s 9).toNat := by first | exact oq_15bd8e2f z | omega
    have wf : WOK (fun k => iC t 1 (24 * x + k)) w := wok_c ho (fun k hk => by rw [ex]; exact hc k hk)
    have gk : ∀ k : Nat, (k : Int) < w → goK (fun k => iC t 1 (24 * x + k)) w k = goK (fun k => iC s 15 k) w k := by
      intro k hk
      unfold goK
      by_cases q1 : w = 1
      · rw [if_pos q1, if_pos q1]
      · rw [if_neg q1, if_neg q1]
        by_cases q2 : (k : Int) + 1 < w
        · rw [if_pos q2, if_pos q2]
          show goB (iC t 1 (24 * x + k)) (iC t 1 (24 * x + (k + 1))) = _
          rw [ex, hc k hk, hc (k + 1) (by first | exact oq_b1ef80e7 q2 | omega)]
        · rw [if_neg q2, if_neg q2]
          show goB (iC t 1 (24 * x + (k - 1))) (iC t 1 (24 * x + k)) = _
          rw [ex, hc k hk, hc (k - 1) (by first | exact oq_a61b69af hk | omega)]
    rw [← ex] at hs
    rw [hs]
    refine ⟨wf, fun d hd => ?_, fun g d hg hd => ?_, fun κ j hκ hj => ?_⟩
    · rw [show 2 * x + d / 64 = (iI s 9 * 2).toNat + d / 64 by first | exact oq_5442521c z | omega, m.1 (d / 64) (d % 64) (by first | exact oq_2643a78a hd | omega) (by first | exact oq_58130c71 | omega)]
      constructor
      · rintro ⟨k, k1, k2, k3⟩
        replace k2 : iC s 15 k / 64 = ((d / 64 : Nat) : Int) := k2
        replace k3 : iC s 15 k % 64 = ((d % 64 : Nat) : Int) := k3
        exact ⟨k, k1, by rw [ex, hc k k1]; omega⟩
      · rintro ⟨k, k1, k2⟩
        rw [ex, hc k k1] at k2
        exact ⟨k, k1, by show iC s 15 k / 64 = _; rw [k2]; omega, by show iC s 15 k % 64 = _; rw [k2]; omega⟩
    · rw [show 14 * x + 2 * g + d / 64 = (iI s 9 * 14).toNat + (2 * g + d / 64) by first | exact oq_c002547e z | omega, gm.1 (2 * g + d / 64) (d % 64) (by first | exact oq_e1c9121e hd hg | omega) (by first | exact oq_58130c71 | omega)]
      constructor
      · rintro ⟨k, k1, k2, k3⟩
        have r := ho.2.1 k k1
        replace r : 0 ≤ iC s 15 k ∧ iC s 15 k ≤ 127 := r
        have gr := @gok_r (fun k => iC s 15 k) w k
        replace k2 : goK (fun k => iC s 15 k) w k * 2 + iC s 15 k / 64 = ((2 * g + d / 64 : Nat) : Int) := k2
        replace k3 : iC s 15 k % 64 = ((d % 64 : Nat) : Int) := k3
        refine ⟨k, k1, by rw [ex, hc k k1]; omega, by rw [gk k k1]; omega⟩
      · rintro ⟨k, k1, k2, k3⟩
        rw [gk k k1] at k3
        rw [ex, hc k k1] at k2
        exact ⟨k, k1, by show goK (fun k => iC s 15 k) w k * 2 + iC s 15 k / 64 = _; rw [k3]; omega, by show iC s 15 k % 64 = _; rw [k2]; omega⟩
    · rw [show 5 * x + κ = (iI s 9 * 5).toNat + κ by first | exact oq_f3bf3f5c z | omega, st.1 κ j hκ hj]
      have kl : ∀ k : Nat, (k : Int) + 1 < w → kdK (fun k => iC t 1 (24 * x + k)) k = kdK (fun k => iC s 15 k) k ∧ lsK (fun k => iC t 1 (24 * x + k)) k = lsK (fun k => iC s 15 k) k := by
        intro k hk
        unfold kdK lsK
        have a1 : iC t 1 (24 * x + k) = iC s 15 k := by rw [ex]; exact hc k (by first | exact oq_7e450c4a hk | omega)
        have a2 : iC t 1 (24 * x + (k + 1)) = iC s 15 (k + 1) := by rw [ex]; exact hc (k + 1) (by first | exact oq_b1ef80e7 hk | omega)
        simp only [a1, a2]
        exact ⟨trivial, trivial⟩
      constructor
      · rintro ⟨k, k1, k2, k3, k4⟩
        exact ⟨k, k1, k2, by rw [(kl k k2).1]; exact k3, by rw [(kl k k2).2]; exact k4⟩
      · rintro ⟨k, k1, k2, k3, k4⟩
        exact ⟨k, k1, k2, by rw [← (kl k k2).1]; exact k3, by rw [← (kl k k2).2]; exact k4⟩
  · have hx2 : (x : Int) < iI s 9 := by first | exact oq_c22bbba0 z hx hn | omega
    have r := h.2 x hx2
    have e3 := hs2 x (by first | exact oq_bbbf5d6d hx2 | omega)
    have zz := r.1.1
    have e2 : ∀ k : Nat, (k : Int) < 24 → iC t 1 (24 * x + k) = iC s 1 (24 * x + k) := fun k hk => hc2 _ (by first | exact oq_f6e7d09f hk hx2 | omega)
    have gk : ∀ k : Nat, (k : Int) < iC s 2 x → goK (fun k => iC t 1 (24 * x + k)) (iC s 2 x) k = goK (fun k => iC s 1 (24 * x + k)) (iC s 2 x) k := by
      intro k hk
      unfold goK
      by_cases q1 : iC s 2 x = 1
      · rw [if_pos q1, if_pos q1]
      · rw [if_neg q1, if_neg q1]
        by_cases q2 : (k : Int) + 1 < iC s 2 x
        · rw [if_pos q2, if_pos q2]
          show goB (iC t 1 (24 * x + k)) (iC t 1 (24 * x + (k + 1))) = _
          rw [e2 k (by first | exact oq_5e70a15f q2 zz.2 | omega), e2 (k + 1) (by first | exact oq_7c9b289d q2 zz.2 | omega)]
        · rw [if_neg q2, if_neg q2]
          show goB (iC t 1 (24 * x + (k - 1))) (iC t 1 (24 * x + k)) = _
          rw [e2 k (by first | exact oq_5a4ac7c7 hk zz.2 | omega), e2 (k - 1) (by first | exact oq_8d9a5bde hk zz.2 | omega)]
    rw [e3]
    refine ⟨wok_c r.1 (fun k hk => e2 k (by first | exact oq_5a4ac7c7 hk zz.2 | omega)), fun d hd => ?_, fun g d hg hd => ?_, fun κ j hκ hj => ?_⟩
    · rw [m.2 _ (by first | exact Or.inl (oq_6d751eb6 hd hx2) | omega), r.2.1 d hd]
      exact ⟨fun ⟨k, k1, k2⟩ => ⟨k, k1, by rw [e2 k (by first | exact oq_5a4ac7c7 k1 zz.2 | omega)]; exact k2⟩, fun ⟨k, k1, k2⟩ => ⟨k, k1, by rw [← e2 k (by first | exact oq_5a4ac7c7 k1 zz.2 | omega)]; exact k2⟩⟩
    · rw [gm.2 _ (by first | exact Or.inl (oq_0a67afb5 hd hg hx2) | omega), r.2.2.1 g d hg hd]
      exact ⟨fun ⟨k, k1, k2, k3⟩ => ⟨k, k1, by rw [e2 k (by first | exact oq_5a4ac7c7 k1 zz.2 | omega)]; exact k2, by rw [gk k k1]; exact k3⟩, fun ⟨k, k1, k2, k3⟩ => ⟨k, k1, by rw [← e2 k (by first | exact oq_5a4ac7c7 k1 zz.2 | omega)]; exact k2, by rw [← gk k k1]; exact k3⟩⟩
    · rw [st.2 _ (by first | exact Or.inl (oq_a74f4594 hκ hx2) | omega), r.2.2.2 κ j hκ hj]
      have kl : ∀ k : Nat, (k : Int) + 1 < iC s 2 x → kdK (fun k => iC t 1 (24 * x + k)) k = kdK (fun k => iC s 1 (24 * x + k)) k ∧ lsK (fun k => iC t 1 (24 * x + k)) k = lsK (fun k => iC s 1 (24 * x + k)) k := by
        intro k hk
        unfold kdK lsK
        have a1 := e2 k (by first | exact oq_5e70a15f hk zz.2 | omega)
        have a2 := e2 (k + 1) (by first | exact oq_7c9b289d hk zz.2 | omega)
        simp only [a1, a2]
        exact ⟨trivial, trivial⟩
      exact ⟨fun ⟨k, k1, k2, k3, k4⟩ => ⟨k, k1, k2, by rw [(kl k k2).1]; exact k3, by rw [(kl k k2).2]; exact k4⟩, fun ⟨k, k1, k2, k3, k4⟩ => ⟨k, k1, k2, by rw [← (kl k k2).1]; exact k3, by rw [← (kl k k2).2]; exact k4⟩⟩
/-! What a set hears, as sums over ways: f the cells, z how many, mo the mosts, lies where a cell lies -/
theorem sm_swap {F : Nat → Nat → Int} (m : Nat) : ∀ n : Nat, sm (fun j => sm (fun k => F j k) m) n = sm (fun k => sm (fun j => F j k) n) m
  | 0 => (sm_0 (fun _ _ => rfl)).symm
  | n + 1 => by
    show sm (fun j => sm (fun k => F j k) m) n + sm (fun k => F n k) m = sm (fun k => sm (fun j => F j k) n + F n k) m
    rw [sm_swap m n, sm_add]
theorem sm_mulr {f : Nat → Int} {c : Int} (n : Nat) : sm (fun j => f j * c) n = sm f n * c := by
  rw [Int.mul_comm, ← sm_mul]
  exact sm_eq (fun j _ => Int.mul_comm _ _)
abbrev WyS : Type := (Nat → Nat → Int) × (Nat → Int)
/-- a stream that comes to the set; its steps over the set's edge, within it, up or down in it -/
def viH (S : Int → Prop) (f : Nat → Int) (z : Int) : Prop := ∃ k : Nat, (k : Int) < z ∧ S (f k)
noncomputable def ovH (S : Int → Prop) (f : Nat → Int) (n : Nat) : Int := sm (fun k => i01 (¬ (S (f k) ↔ S (f (k + 1))))) n
noncomputable def inH (S : Int → Prop) (f : Nat → Int) (n : Nat) : Int := sm (fun k => i01 (S (f k) ∧ S (f (k + 1)))) n
noncomputable def clH (S : Int → Prop) (f : Nat → Int) (n : Nat) : Int := sm (fun k => i01 (S (f k) ∧ S (f (k + 1)) ∧ 4 ≤ goB (f k) (f (k + 1)))) n
/-- two streams meet in their cell k of the first, without going alike -/
def mtP (f g : Nat → Int) (z y : Int) (k : Nat) : Prop := ∃ j : Nat, (j : Int) < y ∧ g j = f k ∧ goK f z k ≠ goK g y j
noncomputable def mtW (S : Int → Prop) (f g : Nat → Int) (z y : Int) : Int := sm (fun k => i01 (S (f k) ∧ mtP f g z y k)) z.toNat
/-- the four that are heard -/
noncomputable def waH (S : Int → Prop) (w : WyS) (mo : Nat → Int) (n : Nat) : Int := sm (fun s => i01 (viH S (w.1 s) (w.2 s)) * mo s) n
noncomputable def oaH (S : Int → Prop) (w : WyS) (mo : Nat → Int) (n : Nat) : Int := sm (fun s => mo s * ovH S (w.1 s) (w.2 s - 1).toNat) n
noncomputable def caH (S : Int → Prop) (w : WyS) (mo : Nat → Int) (n : Nat) : Int := sm (fun s => mo s * clH S (w.1 s) (w.2 s - 1).toNat) n
noncomputable def crH (S : Int → Prop) (w : WyS) (mo : Nat → Int) (n : Nat) : Int := sm (fun a => sm (fun b => if a < b then mtW S (w.1 a) (w.1 b) (w.2 a) (w.2 b) * min (mo a) (mo b) else 0) n) n
/-- the model's way of adding the crossings: stream by stream, cell by cell, then the others -/
noncomputable def ckM (S : Int → Prop) (w : WyS) (mo : Nat → Int) (a k : Nat) (b : Nat) : Int := if a < b then i01 (S (w.1 a k) ∧ mtP (w.1 a) (w.1 b) (w.2 a) (w.2 b) k) * min (mo a) (mo b) else 0
theorem cr_sw {S : Int → Prop} {w : WyS} {mo : Nat → Int} {n : Nat} (a : Nat) : sm (fun k => sm (ckM S w mo a k) n) (w.2 a).toNat = sm (fun b => if a < b then mtW S (w.1 a) (w.1 b) (w.2 a) (w.2 b) * min (mo a) (mo b) else 0) n := by
  rw [sm_swap]
  refine sm_eq (fun b _ => ?_)
  show sm (fun k => if a < b then i01 (S (w.1 a k) ∧ mtP (w.1 a) (w.1 b) (w.2 a) (w.2 b) k) * min (mo a) (mo b) else 0) (w.2 a).toNat = _
  by_cases h : a < b
  · rw [if_pos h]
    unfold mtW
    rw [← sm_mulr]
    exact sm_eq (fun k _ => if_pos h)
  · rw [if_neg h]
    exact sm_0 (fun k _ => if_neg h)
theorem cr_M {S : Int → Prop} {w : WyS} {mo : Nat → Int} {n : Nat} : sm (fun a => sm (fun k => sm (ckM S w mo a k) n) (w.2 a).toNat) n = crH S w mo n := by unfold crH; exact sm_eq (fun a _ => cr_sw a)
/-- bounds -/
theorem ov_r {S : Int → Prop} {f : Nat → Int} {n : Nat} : 0 ≤ ovH S f n ∧ ovH S f n ≤ (n : Int) := by
  refine ⟨sm_nn (fun k _ => i01_r.1), ?_⟩
  have := sm_bd (f := fun k => i01 (¬ (S (f k) ↔ S (f (k + 1))))) (c := 1) (n := n) (fun k _ => i01_r.2)
  unfold ovH
  omega
theorem cl_r {S : Int → Prop} {f : Nat → Int} {n : Nat} : 0 ≤ clH S f n ∧ clH S f n ≤ (n : Int) := by
  refine ⟨sm_nn (fun k _ => i01_r.1), ?_⟩
  have := sm_bd (f := fun k => i01 (S (f k) ∧ S (f (k + 1)) ∧ 4 ≤ goB (f k) (f (k + 1)))) (c := 1) (n := n) (fun k _ => i01_r.2)
  unfold clH
  omega
theorem ov_up {S : Int → Prop} {f : Nat → Int} {n : Nat} : ovH S f (n + 1) = ovH S f n + i01 (¬ (S (f n) ↔ S (f (n + 1)))) := rfl
theorem cl_up {S : Int → Prop} {f : Nat → Int} {n : Nat} : clH S f (n + 1) = clH S f n + i01 (S (f n) ∧ S (f (n + 1)) ∧ 4 ≤ goB (f n) (f (n + 1))) := rfl
theorem vi_up {S : Int → Prop} {f : Nat → Int} {k : Nat} : (∃ j : Nat, j < k + 1 ∧ S (f j)) ↔ (∃ j : Nat, j < k ∧ S (f j)) ∨ S (f k) := by
  constructor
  · rintro ⟨j, h1, h2⟩
    by_cases e : j = k
    · exact Or.inr (e ▸ h2)
    · exact Or.inl ⟨j, by first | exact oq_dad8d58a e h1 | omega, h2⟩
  · rintro (⟨j, h1, h2⟩ | h)
    · exact ⟨j, by first | exact oq_9165f1af h1 | omega, h2⟩
    · exact ⟨k, by first | exact oq_626cdfd6 | omega, h⟩
/-! The class's ear: steps by their bits -/
theorem jb_a {x y : Int64} {i : Nat} : bJ (x &&& y) i ↔ bJ x i ∧ bJ y i := by
  unfold bJ
  rw [Int64.toBitVec_and, BitVec.getLsbD_and, Bool.and_eq_true]
theorem jb_or {x y : Int64} {i : Nat} : bJ (x ||| y) i ↔ bJ x i ∨ bJ y i := by
  unfold bJ
  rw [Int64.toBitVec_or, BitVec.getLsbD_or, Bool.or_eq_true]
theorem jb_xr {x y : Int64} {i : Nat} : bJ (x ^^^ y) i ↔ ¬ (bJ x i ↔ bJ y i) := by
  unfold bJ
  rw [Int64.toBitVec_xor, BitVec.getLsbD_xor]
  cases x.toBitVec.getLsbD i <;> cases y.toBitVec.getLsbD i <;> decide
theorem jb_u {x : Int64} {c j : Nat} (h : c + j < 64) : bJ (jushr x (c : Int)) j ↔ bJ x (c + j) := by
  rw [bJ_N, bJ_N, jN_ushr (by first | exact oq_fd50c8c4 h | omega), Nat.div_div_eq_div_mul, ← Nat.pow_add]
theorem jb_ne {x : Int64} : x ≠ 0 ↔ ∃ i, i < 64 ∧ bJ x i := by
  constructor
  · intro h
    refine Classical.byContradiction (fun q => h ?_)
    apply Int64.toBitVec.inj
    apply BitVec.eq_of_getLsbD_eq
    intro i hi
    have z : ¬ bJ x i := fun y => q ⟨i, hi, y⟩
    unfold bJ at z
    show x.toBitVec.getLsbD i = (0#64).getLsbD i
    rw [BitVec.getLsbD_zero]
    cases e : x.toBitVec.getLsbD i with
    | false => rfl
    | true => exact absurd e z
  · rintro ⟨i, -, h⟩ e
    rw [e] at h
    exact jb_z h
theorem bc_and {x y : Int64} : bnN (x &&& y) = bcP x (fun j => bJ y j) := sm_eq (fun j _ => i01_c jb_a)
/-- of a kind of step: the set at its lesser cell, and at the other one -/
def hrK (κ : Nat) (lo hi : Int64) : Int64 := if κ = 1 ∨ κ = 3 then hi else lo
def thK (κ : Nat) (lo hi : Int64) : Int64 := if κ = 4 then hi else if κ < 2 then jushr (hrK κ lo hi) 1 else jushr (hrK κ lo hi) 8
theorem hr_b {lo hi : Int64} {κ j : Nat} (hκ : κ < 5) (hj : j < 64) : bJ (hrK κ lo hi) j ↔ inL lo hi (eE1 κ j) := by
  unfold hrK eE1 inL
  by_cases c : κ = 1 ∨ κ = 3
  · rw [if_pos c, if_pos (by first | exact oq_47b07cfc c | omega)]
    constructor
    · intro h; exact Or.inr ⟨by first | exact oq_6e02dada | omega, by first | exact oq_c5645ccc hj | omega, by rw [show (64 + (j : Int) - 64).toNat = j by first | exact oq_1ff8b924 | omega]; exact h⟩
    · rintro (h | h)
      · omega
      · have := h.2.2; rwa [show (64 + (j : Int) - 64).toNat = j by first | exact oq_146530dc h.1 | omega] at this
  · rw [if_neg c, if_neg (by first | exact oq_9581d30e c | omega)]
    constructor
    · intro h; exact Or.inl ⟨by first | exact oq_a3593015 | omega, by first | exact oq_405b1b8c hj | omega, by rw [show ((j : Int)).toNat = j by first | exact oq_3d866207 | omega]; exact h⟩
    · rintro (h | h)
      · have := h.2.2; rwa [show ((j : Int)).toNat = j by first | exact oq_c70b3307 h.1 | omega] at this
      · omega
theorem th_b {lo hi : Int64} {κ j : Nat} (hκ : κ < 5) (hj : j < 64) (hv : κ = 4 ∨ (κ ≤ 1 ∧ j % 8 ≠ 7) ∨ ((κ = 2 ∨ κ = 3) ∧ j ≤ 55)) : bJ (thK κ lo hi) j ↔ inL lo hi (eE2 κ j) := by
  unfold thK
  by_cases c4 : κ = 4
  · rw [if_pos c4]
    unfold eE2 inL
    rw [if_pos (by first | exact oq_074254ef c4 | omega)]
    constructor
    · intro h; exact Or.inr ⟨by first | exact oq_6e02dada | omega, by first | exact oq_c5645ccc hj | omega, by rw [show (64 + (j : Int) - 64).toNat = j by first | exact oq_1ff8b924 | omega]; exact h⟩
    · rintro (h | h)
      · omega
      · have := h.2.2; rwa [show (64 + (j : Int) - 64).toNat = j by first | exact oq_146530dc h.1 | omega] at this
  rw [if_neg c4]
  by_cases c2 : κ < 2
  · rw [if_pos c2, show (1 : Int) = ((1 : Nat) : Int) from rfl, jb_u (by first | exact oq_8c0be685 c2 hv hj | omega), hr_b hκ (by first | exact oq_8c0be685 c2 hv hj | omega)]
    have e : eE1 κ ((1 + j : Nat) : Int) = eE2 κ j := by
      unfold eE1 eE2
      rcases (show κ = 0 ∨ κ = 1 by first | exact oq_626769f6 c2 | omega) with q | q <;> subst q <;> simp <;> omega
    rw [e]
  · rw [if_neg c2, show (8 : Int) = ((8 : Nat) : Int) from rfl, jb_u (by first | exact oq_6813eb3f c2 c4 hv hκ | omega), hr_b hκ (by first | exact oq_6813eb3f c2 c4 hv hκ | omega)]
    have e : eE1 κ ((8 + j : Nat) : Int) = eE2 κ j := by
      unfold eE1 eE2
      rcases (show κ = 2 ∨ κ = 3 by first | exact oq_dec95026 c2 c4 hκ | omega) with q | q <;> subst q <;> simp <;> omega
    rw [e]
/-- the steps of a way over the edge of a set, within it, and those that climb in it: by bits -/
theorem st_bits {f : Nat → Int} {z : Int} (w : WOK f z) {k : Nat} (hk : (k : Int) + 1 < z) {lo hi : Int64} : (bJ (hrK (stI f k / 64) lo hi) (stI f k % 64) ↔ inL lo hi (eE1 (kdK f k) (lsK f k % 64))) ∧ (bJ (thK (stI f k / 64) lo hi) (stI f k % 64) ↔ inL lo hi (eE2 (kdK f k) (lsK f k % 64))) := by
  have h := st_ends w hk
  have hs := sti_lt w hk
  have e1 : ((stI f k / 64 : Nat) : Int) = kdK f k := by unfold stI; omega
  have e2 : ((stI f k % 64 : Nat) : Int) = lsK f k % 64 := by unfold stI; omega
  rw [← e1, ← e2]
  refine ⟨hr_b (by first | exact oq_577e9a79 hs | omega) (by first | exact oq_ae0eed6c | omega), th_b (by first | exact oq_577e9a79 hs | omega) (by first | exact oq_ae0eed6c | omega) (by omega)⟩
theorem ov_bits {f : Nat → Int} {z : Int} (w : WOK f z) {T : Nat → Int64} (hT : ∀ κ j : Nat, κ < 5 → j < 64 → (bJ (T κ) j ↔ stP f z z κ j)) {lo hi : Int64} : sm (fun κ => bnN (T κ &&& (hrK κ lo hi ^^^ thK κ lo hi))) 5 = ovH (inL lo hi) f (z - 1).toNat := by
  have h := st_cnt w hT (X := fun i => bJ (hrK (i / 64) lo hi ^^^ thK (i / 64) lo hi) (i % 64))
  have e : sm (fun κ => bnN (T κ &&& (hrK κ lo hi ^^^ thK κ lo hi))) 5 = sm (fun κ => bcP (T κ) (fun j => (fun i => bJ (hrK (i / 64) lo hi ^^^ thK (i / 64) lo hi) (i % 64)) (κ * 64 + j))) 5 := by
    refine sm_eq (fun κ _ => ?_)
    rw [bc_and]
    refine sm_eq (fun j hj => ?_)
    dsimp only
    rw [show (κ * 64 + j) / 64 = κ by first | exact oq_1062f8c2 hj | omega, show (κ * 64 + j) % 64 = j by omega]
  rw [e, h]
  refine sm_eq (fun k hk => i01_c ?_)
  have b := st_bits w (show (k : Int) + 1 < z by first | exact oq_9d2ce241 hk | omega) (lo := lo) (hi := hi)
  rw [jb_xr, b.1, b.2]
  rcases (st_ends w (show (k : Int) + 1 < z by first | exact oq_9d2ce241 hk | omega)).2.2.1 with q | q
  · rw [q.1, q.2]
  · rw [q.1, q.2]; exact not_congr ⟨fun x => x.symm, fun x => x.symm⟩
theorem in_bits {f : Nat → Int} {z : Int} (w : WOK f z) {T : Nat → Int64} (hT : ∀ κ j : Nat, κ < 5 → j < 64 → (bJ (T κ) j ↔ stP f z z κ j)) {lo hi : Int64} : sm (fun κ => bnN (T κ &&& hrK κ lo hi &&& thK κ lo hi)) 5 = inH (inL lo hi) f (z - 1).toNat := by
  have h := st_cnt w hT (X := fun i => bJ (hrK (i / 64) lo hi) (i % 64) ∧ bJ (thK (i / 64) lo hi) (i % 64))
  have e : sm (fun κ => bnN (T κ &&& hrK κ lo hi &&& thK κ lo hi)) 5 = sm (fun κ => bcP (T κ) (fun j => (fun i => bJ (hrK (i / 64) lo hi) (i % 64) ∧ bJ (thK (i / 64) lo hi) (i % 64)) (κ * 64 + j))) 5 := by
    refine sm_eq (fun κ _ => sm_eq (fun j hj => i01_c ?_))
    dsimp only
    rw [show (κ * 64 + j) / 64 = κ by first | exact oq_1062f8c2 hj | omega, show (κ * 64 + j) % 64 = j by omega, jb_a, jb_a, and_assoc]
  rw [e, h]
  refine sm_eq (fun k hk => i01_c ?_)
  have b := st_bits w (show (k : Int) + 1 < z by first | exact oq_9d2ce241 hk | omega) (lo := lo) (hi := hi)
  rw [b.1, b.2]
  rcases (st_ends w (show (k : Int) + 1 < z by first | exact oq_9d2ce241 hk | omega)).2.2.1 with q | q
  · rw [q.1, q.2]
  · rw [q.1, q.2]; exact and_comm
theorem cl_bits {f : Nat → Int} {z : Int} (w : WOK f z) {T : Nat → Int64} (hT : ∀ κ j : Nat, κ < 5 → j < 64 → (bJ (T κ) j ↔ stP f z z κ j)) {lo hi : Int64} : bnN (T 4 &&& hrK 4 lo hi &&& thK 4 lo hi) = clH (inL lo hi) f (z - 1).toNat := by
  have h := st_cnt w hT (X := fun i => i / 64 = 4 ∧ bJ (hrK (i / 64) lo hi) (i % 64) ∧ bJ (thK (i / 64) lo hi) (i % 64))
  have e : sm (fun κ => bcP (T κ) (fun j => (fun i => i / 64 = 4 ∧ bJ (hrK (i / 64) lo hi) (i % 64) ∧ bJ (thK (i / 64) lo hi) (i % 64)) (κ * 64 + j))) 5 = bnN (T 4 &&& hrK 4 lo hi &&& thK 4 lo hi) := by
    have z4 : ∀ κ : Nat, κ < 4 → bcP (T κ) (fun j => (fun i => i / 64 = 4 ∧ bJ (hrK (i / 64) lo hi) (i % 64) ∧ bJ (thK (i / 64) lo hi) (i % 64)) (κ * 64 + j)) = 0 := fun κ hκ => sm_0 (fun j hj => i01_f (fun q => by have := q.2.1; omega))
    show sm _ 4 + bcP (T 4) _ = _
    rw [sm_0 z4, Int.zero_add]
    refine sm_eq (fun j hj => i01_c ?_)
    dsimp only
    rw [show (4 * 64 + j) / 64 = 4 by first | exact oq_e6a3d0a2 hj | omega, show (4 * 64 + j) % 64 = j by first | exact oq_47f7a4c2 hj | omega, jb_a, jb_a, and_assoc]
    exact ⟨fun q => ⟨q.1, q.2.2⟩, fun q => ⟨q.1, rfl, q.2⟩⟩
  rw [← e, h]
  refine sm_eq (fun k hk => i01_c ?_)
  have b := st_bits w (show (k : Int) + 1 < z by first | exact oq_9d2ce241 hk | omega) (lo := lo) (hi := hi)
  have g := st_ends w (show (k : Int) + 1 < z by first | exact oq_9d2ce241 hk | omega)
  have e1 : stI f k / 64 = 4 ↔ 4 ≤ goB (f k) (f (k + 1)) := by
    rw [← g.2.2.2.2]
    unfold stI
    constructor
    · intro q; omega
    · intro q; omega
  rw [b.1, b.2, e1]
  rcases g.2.2.1 with q | q
  · rw [q.1, q.2]; exact ⟨fun x => ⟨x.2.1, x.2.2, x.1⟩, fun x => ⟨x.2.2, x.1, x.2.1⟩⟩
  · rw [q.1, q.2]; exact ⟨fun x => ⟨x.2.2, x.2.1, x.1⟩, fun x => ⟨x.2.2, x.2.1, x.1⟩⟩
section ZE
variable {k : kx_T} {mn pc : Nat} {dT : Nat → ClassId} {lv : List (Nat × Value)} {st : List Value} {ws : va_W} {ce sl a b : Nat} {z : Int}
theorem z_ldc2E (X : AX k mn dT) {idx : Nat} (h : cdA mn pc = some (.ldc2_w idx, 3, a, b, z)) (g : WS k (pc + 3) lv (.long (lN a) :: st) ws ce sl) : WS k pc lv st ws ce sl := w_ldc2 X.1 (by rw [X.2.1.2.1]; exact (ax_r X h).2.2) (ax_d X h) g
end ZE
section M87m
variable {l : Launch} {s0 : State} {D : va_G} {tys : List (ClassId × FieldType)} {a0 : Array Value} {A : Nat → Nat} {dT : Nat → ClassId} {s : PS}
set_option maxRecDepth 4000 in
theorem j_bitL3 (G : GX l s0 D tys a0 dT) (I : Bd s) {jj : Int64}  : CT l s0 D A dT 298 (rmN 298) [.long jj] s (fun o t => s = t ∧ ∃ e, o = .inl (some (.int (Int32.ofInt e))) ∧ rng e ∧ (e = bnN jj ∧ 0 ≤ e ∧ e ≤ 64)) := by
  refine ct_ofX G (by decide) (Nat.le_of_ble_eq_true rfl) (fun k X E ET hRt hXt q => ?_)
  show WS k 0 [(0, .long jj)] [] _ 0 0
  have F : Fm [] [] s s := fm_rf _ _ s
  refine w_lload_n X.1 (ax_d X (show cdA 298 0 = some (.lload_n 0, 1, 0, 0, 0) from rfl)) (x := jj) (List.Mem.head _) (w_lload_n X.1 (ax_d X (show cdA 298 1 = some (.lload_n 0, 1, 0, 0, 0) from rfl)) (x := jj) (List.Mem.head _) (z_const X rfl (z_jushr X rfl (z_ldc2E X rfl (w_land X.1 (ax_d X (show cdA 298 7 = some (.land, 1, 0, 0, 0) from rfl)) (w_lsub X.1 (ax_d X (show cdA 298 8 = some (.lsub, 1, 0, 0, 0) from rfl)) ?_))))))
  obtain ⟨bx1, hb1⟩ : ∃ y : Int64, y = (jj - ((jushr jj 1) &&& (lN 6148914691236517205))) := ⟨_, rfl⟩
  rw [← hb1]
  refine w_lstore_n X.1 (lv' := [(0, .long bx1)]) (ax_d X (show cdA 298 9 = some (.lstore_n 0, 1, 0, 0, 0) from rfl)) (by rw [X.2.1.2.2]; decide) (fun _ h => h) (w_lload_n X.1 (ax_d X (show cdA 298 10 = some (.lload_n 0, 1, 0, 0, 0) from rfl)) (x := bx1) (List.Mem.head _) (z_ldc2E X rfl (w_land X.1 (ax_d X (show cdA 298 14 = some (.land, 1, 0, 0, 0) from rfl)) (w_lload_n X.1 (ax_d X (show cdA 298 15 = some (.lload_n 0, 1, 0, 0, 0) from rfl)) (x := bx1) (List.Mem.head _) (z_const X rfl (z_jushr X rfl (z_ldc2E X rfl (w_land X.1 (ax_d X (show cdA 298 21 = some (.land, 1, 0, 0, 0) from rfl)) (w_ladd X.1 (ax_d X (show cdA 298 22 = some (.ladd, 1, 0, 0, 0) from rfl)) ?_)))))))))
  obtain ⟨bx2, hb2⟩ : ∃ y : Int64, y = ((bx1 &&& (lN 3689348814741910323)) + ((jushr bx1 2) &&& (lN 3689348814741910323))) := ⟨_, rfl⟩
  rw [← hb2]
  refine w_lstore_n X.1 (lv' := [(0, .long bx2)]) (ax_d X (show cdA 298 23 = some (.lstore_n 0, 1, 0, 0, 0) from rfl)) (by rw [X.2.1.2.2]; decide) (fun _ h => h) (w_lload_n X.1 (ax_d X (show cdA 298 24 = some (.lload_n 0, 1, 0, 0, 0) from rfl)) (x := bx2) (List.Mem.head _) (w_lload_n X.1 (ax_d X (show cdA 298 25 = some (.lload_n 0, 1, 0, 0, 0) from rfl)) (x := bx2) (List.Mem.head _) (z_const X rfl (z_jushr X rfl (w_ladd X.1 (ax_d X (show cdA 298 28 = some (.ladd, 1, 0, 0, 0) from rfl)) (z_ldc2E X rfl (w_land X.1 (ax_d X (show cdA 298 32 = some (.land, 1, 0, 0, 0) from rfl)) ?_)))))))
  obtain ⟨bx3, hb3⟩ : ∃ y : Int64, y = ((bx2 + (jushr bx2 4)) &&& (lN 1085102592571150095)) := ⟨_, rfl⟩
  rw [← hb3]
  refine w_lstore_n X.1 (lv' := [(0, .long bx3)]) (ax_d X (show cdA 298 33 = some (.lstore_n 0, 1, 0, 0, 0) from rfl)) (by rw [X.2.1.2.2]; decide) (fun _ h => h) (w_lload_n X.1 (ax_d X (show cdA 298 34 = some (.lload_n 0, 1, 0, 0, 0) from rfl)) (x := bx3) (List.Mem.head _) (w_lload_n X.1 (ax_d X (show cdA 298 35 = some (.lload_n 0, 1, 0, 0, 0) from rfl)) (x := bx3) (List.Mem.head _) (z_bipush X rfl (z_jushr X rfl (w_ladd X.1 (ax_d X (show cdA 298 39 = some (.ladd, 1, 0, 0, 0) from rfl)) ?_)))))
  obtain ⟨bx4, hb4⟩ : ∃ y : Int64, y = (bx3 + (jushr bx3 8)) := ⟨_, rfl⟩
  rw [← hb4]
  refine w_lstore_n X.1 (lv' := [(0, .long bx4)]) (ax_d X (show cdA 298 40 = some (.lstore_n 0, 1, 0, 0, 0) from rfl)) (by rw [X.2.1.2.2]; decide) (fun _ h => h) (w_lload_n X.1 (ax_d X (show cdA 298 41 = some (.lload_n 0, 1, 0, 0, 0) from rfl)) (x := bx4) (List.Mem.head _) (w_lload_n X.1 (ax_d X (show cdA 298 42 = some (.lload_n 0, 1, 0, 0, 0) from rfl)) (x := bx4) (List.Mem.head _) (z_bipush X rfl (z_jushr X rfl (w_ladd X.1 (ax_d X (show cdA 298 46 = some (.ladd, 1, 0, 0, 0) from rfl)) ?_)))))
  obtain ⟨bx5, hb5⟩ : ∃ y : Int64, y = (bx4 + (jushr bx4 16)) := ⟨_, rfl⟩
  rw [← hb5]
  refine w_lstore_n X.1 (lv' := [(0, .long bx5)]) (ax_d X (show cdA 298 47 = some (.lstore_n 0, 1, 0, 0, 0) from rfl)) (by rw [X.2.1.2.2]; decide) (fun _ h => h) (w_lload_n X.1 (ax_d X (show cdA 298 48 = some (.lload_n 0, 1, 0, 0, 0) from rfl)) (x := bx5) (List.Mem.head _) (w_lload_n X.1 (ax_d X (show cdA 298 49 = some (.lload_n 0, 1, 0, 0, 0) from rfl)) (x := bx5) (List.Mem.head _) (z_bipush X rfl (z_jushr X rfl (w_ladd X.1 (ax_d X (show cdA 298 53 = some (.ladd, 1, 0, 0, 0) from rfl)) ?_)))))
  obtain ⟨bx6, hb6⟩ : ∃ y : Int64, y = (bx5 + (jushr bx5 32)) := ⟨_, rfl⟩
  rw [← hb6]
  refine w_lstore_n X.1 (lv' := [(0, .long bx6)]) (ax_d X (show cdA 298 54 = some (.lstore_n 0, 1, 0, 0, 0) from rfl)) (by rw [X.2.1.2.2]; decide) (fun _ h => h) (w_lload_n X.1 (ax_d X (show cdA 298 55 = some (.lload_n 0, 1, 0, 0, 0) from rfl)) (x := bx6) (List.Mem.head _) (w_l2i X.1 (ax_d X (show cdA 298 56 = some (.l2i, 1, 0, 0, 0) from rfl)) (z_bipush X rfl (w_iand X.1 (ax_d X (show cdA 298 59 = some (.iand, 1, 0, 0, 0) from rfl)) ?_))))
  rw [bc_eq hb1 hb2 hb3 hb4 hb5 hb6]
  have hbr := bnN_r jj
  exact w_iret X.1 q hRt rfl (ax_d X (show cdA 298 60 = some (.ireturn, 1, 0, 0, 0) from rfl)) (Nat.zero_le _) (Nat.zero_le _) ⟨_, rfl, rfl, (bnN jj), rfl, ⟨by first | exact oq_fa4e5087 hbr.1 | omega, by first | exact oq_f37db25f hbr.2 | omega⟩, ⟨rfl, by first | exact hbr.1 | omega, by first | exact hbr.2 | omega⟩⟩
set_option maxRecDepth 4000 in
theorem c9_goBetween3 (G : GX l s0 D tys a0 dT) (I : Bd s) {x y : Int} (p0 : 0 ≤ x ∧ x ≤ 127) (p1 : 0 ≤ y ∧ y ≤ 127) : CT l s0 D A dT 102 (rmN 102) [.int (Int32.ofInt x), .int (Int32.ofInt y)] s (fun o t => s = t ∧ ∃ e, o = .inl (some (.int (Int32.ofInt e))) ∧ rng e ∧ (e = goB x y ∧ 0 ≤ e ∧ e ≤ 5)) := by
  refine ct_ofX G (by decide) (Nat.le_of_ble_eq_true rfl) (fun k X E ET hRt hXt q => ?_)
  show WS k 0 [(0, .int (Int32.ofInt x)), (1, .int (Int32.ofInt y))] [] _ 0 0
  have F : Fm [] [] s s := fm_rf _ _ s
  refine z_load_n X (x := y) rfl (List.Mem.tail _ (List.Mem.head _)) (z_load_n X (x := x) rfl (List.Mem.head _) (z_sub X rfl ?_))
  rcases (show (y - x) = (-8) ∨ (y - x) = (-1) ∨ (y - x) = 1 ∨ (y - x) = 8 ∨ (y - x) = 64 ∨ ((y - x) ≠ (-8) ∧ (y - x) ≠ (-1) ∧ (y - x) ≠ 1 ∧ (y - x) ≠ 8 ∧ (y - x) ≠ 64) by first | exact oq_856dcfa5 | omega) with gs | gs | gs | gs | gs | gs
  ·
    rw [gs]
    refine w_lookup X.1 (dflt := 59) (ps := #[((-8), 55), ((-1), 51), (1, 49), (8, 53), (64, 57)]) (len := 49) (off := 55) (t := 58) (by rw [X.2.1.1]; decide +kernel) (by decide) (by decide) (by decide) (z_const X rfl ?_)
    exact w_iret X.1 q hRt rfl (ax_d X (show cdA 102 59 = some (.ireturn, 1, 0, 0, 0) from rfl)) (Nat.zero_le _) (Nat.zero_le _) ⟨_, rfl, rfl, 3, rfl, (by decide), ⟨goB_of (by first | exact Or.inl (And.intro (gs) (rfl)) | omega), by decide, by decide⟩⟩
  ·
    rw [gs]
    refine w_lookup X.1 (dflt := 59) (ps := #[((-8), 55), ((-1), 51), (1, 49), (8, 53), (64, 57)]) (len := 49) (off := 51) (t := 54) (by rw [X.2.1.1]; decide +kernel) (by decide) (by decide) (by decide) (z_const X rfl ?_)
    exact w_iret X.1 q hRt rfl (ax_d X (show cdA 102 55 = some (.ireturn, 1, 0, 0, 0) from rfl)) (Nat.zero_le _) (Nat.zero_le _) ⟨_, rfl, rfl, 1, rfl, (by decide), ⟨goB_of (by first | exact Or.inr (Or.inl (And.intro (gs) (rfl))) | omega), by decide, by decide⟩⟩
  ·
    rw [gs]
    refine w_lookup X.1 (dflt := 59) (ps := #[((-8), 55), ((-1), 51), (1, 49), (8, 53), (64, 57)]) (len := 49) (off := 49) (t := 52) (by rw [X.2.1.1]; decide +kernel) (by decide) (by decide) (by decide) (z_const X rfl ?_)
    exact w_iret X.1 q hRt rfl (ax_d X (show cdA 102 53 = some (.ireturn, 1, 0, 0, 0) from rfl)) (Nat.zero_le _) (Nat.zero_le _) ⟨_, rfl, rfl, 0, rfl, (by decide), ⟨goB_of (by first | exact Or.inr (Or.inr (Or.inl (And.intro (gs) (rfl)))) | omega), by decide, by decide⟩⟩
  ·
    rw [gs]
    refine w_lookup X.1 (dflt := 59) (ps := #[((-8), 55), ((-1), 51), (1, 49), (8, 53), (64, 57)]) (len := 49) (off := 53) (t := 56) (by rw [X.2.1.1]; decide +kernel) (by decide) (by decide) (by decide) (z_const X rfl ?_)
    exact w_iret X.1 q hRt rfl (ax_d X (show cdA 102 57 = some (.ireturn, 1, 0, 0, 0) from rfl)) (Nat.zero_le _) (Nat.zero_le _) ⟨_, rfl, rfl, 2, rfl, (by decide), ⟨goB_of (by first | exact Or.inr (Or.inr (Or.inr (Or.inl (And.intro (gs) (rfl))))) | omega), by decide, by decide⟩⟩
  ·
    rw [gs]
    refine w_lookup X.1 (dflt := 59) (ps := #[((-8), 55), ((-1), 51), (1, 49), (8, 53), (64, 57)]) (len := 49) (off := 57) (t := 60) (by rw [X.2.1.1]; decide +kernel) (by decide) (by decide) (by decide) (z_const X rfl ?_)
    exact w_iret X.1 q hRt rfl (ax_d X (show cdA 102 61 = some (.ireturn, 1, 0, 0, 0) from rfl)) (Nat.zero_le _) (Nat.zero_le _) ⟨_, rfl, rfl, 4, rfl, (by decide), ⟨goB_of (by first | exact Or.inr (Or.inr (Or.inr (Or.inr (Or.inl (And.intro (gs) (rfl)))))) | omega), by decide, by decide⟩⟩
  ·
    refine w_lookup X.1 (dflt := 59) (ps := #[((-8), 55), ((-1), 51), (1, 49), (8, 53), (64, 57)]) (len := 49) (off := 59) (t := 62) (by rw [X.2.1.1]; decide +kernel) (by decide) (by rw [zi ⟨by first | exact oq_449d3e35 p1.1 p0.2 | (clear gs; omega) | omega, by first | exact oq_ad754bc3 p1.2 p0.1 | (clear gs; omega) | omega⟩]; show Op.lookupswitch.offset [((-8), 55), ((-1), 51), (1, 49), (8, 53), (64, 57)] _ _ = _; rw [Op.lookupswitch.offset_cons, if_neg (by first | exact oq_e77deaf5 gs.1 | (clear gs; omega) | omega), Op.lookupswitch.offset_cons, if_neg (by first | exact oq_2a184740 gs.2.1 | (clear gs; omega) | omega), Op.lookupswitch.offset_cons, if_neg (by first | exact oq_2696c5a9 gs.2.2.1 | (clear gs; omega) | omega), Op.lookupswitch.offset_cons, if_neg (by first | exact oq_79ebd7dc gs.2.2.2.1 | (clear gs; omega) | omega), Op.lookupswitch.offset_cons, if_neg (by first | exact oq_5ced0f9e gs.2.2.2.2 | (clear gs; omega) | omega)]; rfl) (by decide) (z_const X rfl ?_)
    exact w_iret X.1 q hRt rfl (ax_d X (show cdA 102 63 = some (.ireturn, 1, 0, 0, 0) from rfl)) (Nat.zero_le _) (Nat.zero_le _) ⟨_, rfl, rfl, 5, rfl, (by decide), ⟨goB_of (by first | exact Or.inr (Or.inr (Or.inr (Or.inr (Or.inr (And.intro (gs.1) (And.intro (gs.2.1) (And.intro (gs.2.2.1) (And.intro (gs.2.2.2.1) (And.intro (gs.2.2.2.2) (rfl)))))))))) | (clear gs; omega) | omega), by decide, by decide⟩⟩
set_option maxRecDepth 4000 in
theorem c9_setStep3 (G : GX l s0 D tys a0 dT) (I : Bd s) {x y z : Int} (p0 : 0 ≤ x ∧ x ≤ 11) (p1 : 0 ≤ y ∧ y ≤ 127) (p2 : 0 ≤ z ∧ z ≤ 5) : CT l s0 D A dT 109 (rmN 109) [.ref (A 3), .int (Int32.ofInt x), .int (Int32.ofInt y), .int (Int32.ofInt z)] s (fun o t => Bd t ∧ Fm [] [1005] s t ∧ o = .inl none ∧ (t = uD s 5 (x * 5 + kdZ y z).toNat (gD s 5 (x * 5 + kdZ y z).toNat ||| jshl 1 (y % 64)))) := by
  refine ct_ofX G (by decide) (Nat.le_of_ble_eq_true rfl) (fun k X E ET hRt hXt q => ?_)
  show WS k 0 [(0, .ref (A 3)), (1, .int (Int32.ofInt x)), (2, .int (Int32.ofInt y)), (3, .int (Int32.ofInt z))] [] _ 0 0
  have F : Fm [] [1005] s s := fm_rf _ _ s
  refine z_load_n X (x := z) rfl (List.Mem.tail _ (List.Mem.tail _ (List.Mem.tail _ (List.Mem.head _)))) (z_const X rfl (z_icmp_lt X (t := 9) rfl rfl ⟨by first | exact oq_fa4e5087 p2.1 | omega, by first | exact oq_a3dd55e5 p2.2 | omega⟩ (by decide) (fun g1 => ?_) (fun g1 => ?_)))
  ·
    refine z_load_n X (x := z) rfl (List.Mem.tail _ (List.Mem.tail _ (List.Mem.tail _ (List.Mem.head _)))) (z_const X rfl (z_quot X rfl (by first | exact p2.1 | omega) ⟨by first | exact oq_fa4e5087 p2.1 | omega, by first | exact oq_f46e1d28 g1 | omega⟩ (by decide) (by decide) (z_const X rfl (z_mul X rfl (z_load_n X (x := y) rfl (List.Mem.tail _ (List.Mem.tail _ (List.Mem.head _))) (z_bipush X rfl (z_quot X rfl (by first | exact p1.1 | omega) ⟨by first | exact oq_fa4e5087 p1.1 | omega, by first | exact oq_07d346ce p1.2 | omega⟩ (by decide) (by decide) (z_add X rfl (z_store X (lv' := [(4, .int (Int32.ofInt (((z / 2) * 2) + (y / 64)))), (0, .ref (A 3)), (1, .int (Int32.ofInt x)), (2, .int (Int32.ofInt y)), (3, .int (Int32.ofInt z))]) rfl (by decide) (fun _ h => h) (z_aload_n X (x := A 3) rfl (List.Mem.tail _ (List.Mem.head _)) (s_getR X 3 rfl (c518_ok rfl) rfl rfl ?_)))))))))))
    refine z_load_n X (x := x) rfl (List.Mem.tail _ (List.Mem.tail _ (List.Mem.head _))) (z_const X rfl (z_mul X rfl (z_load X (x := (((z / 2) * 2) + (y / 64))) rfl (List.Mem.head _) (z_add X rfl (w_dup2_11 X.1 (ax_d X (show cdA 109 31 = some (.dup2, 1, 0, 0, 0) from rfl)) rfl rfl (z_lalE X 8 rfl (by decide) rfl (by first | exact oq_65b77893 p2.1 p1.1 p0.1 | omega) (show ((x * 5) + (((z / 2) * 2) + (y / 64))) < 60 by first | exact oq_87ebc822 g1 p1.2 p0.2 | omega) (by decide) (w_lconst X.1 (ax_d X (show cdA 109 33 = some (.lconst 1, 1, 0, 0, 0) from rfl)) (z := (1 : Int64)) (by decide) (z_load_n X (x := y) rfl (List.Mem.tail _ (List.Mem.tail _ (List.Mem.tail _ (List.Mem.head _)))) (z_bipush X rfl (z_and63 X rfl (by first | exact And.intro (p1.1) (p1.2) | omega) (z_jshl X rfl ?_)))))))))))
    refine w_lor X.1 (ax_d X (show cdA 109 39 = some (.lor, 1, 0, 0, 0) from rfl)) (z_last X 8 rfl (c518_ok rfl) rfl (by first | exact oq_65b77893 p2.1 p1.1 p0.1 | omega) (show ((x * 5) + (((z / 2) * 2) + (y / 64))) < 60 by first | exact oq_87ebc822 g1 p1.2 p0.2 | omega) (cbig_ok rfl) (wd_gen (fun s2 hs2 => ?_)))
    have Is2 : Bd s2 := eqB hs2 (bd_D I)
    have Fs2 : Fm [] [1005] s s2 := by rw [hs2]; exact fm_D F (show 5 + 1000 ∈ _ by decide)
    exact w_vret X.1 q hRt (ax_d X (show cdA 109 41 = some (.return_, 1, 0, 0, 0) from rfl)) (Nat.zero_le _) (Nat.zero_le _) ⟨_, rfl, Is2, Fs2, rfl, by rw [hs2, show kdZ y z = (((z / 2) * 2) + (y / 64)) by unfold kdZ; first | (rw [if_pos (by omega)]) | (rw [if_neg (by first | exact oq_346f1327 g1 | omega)])]⟩
  ·
    refine z_const X rfl (z_goto X (t := 19) rfl rfl (z_store X (lv' := [(4, .int (Int32.ofInt 4)), (0, .ref (A 3)), (1, .int (Int32.ofInt x)), (2, .int (Int32.ofInt y)), (3, .int (Int32.ofInt z))]) rfl (by decide) (fun _ h => h) (z_aload_n X (x := A 3) rfl (List.Mem.tail _ (List.Mem.head _)) (s_getR X 3 rfl (c518_ok rfl) rfl rfl (z_load_n X (x := x) rfl (List.Mem.tail _ (List.Mem.tail _ (List.Mem.head _))) (z_const X rfl (z_mul X rfl (z_load X (x := 4) rfl (List.Mem.head _) (z_add X rfl (w_dup2_11 X.1 (ax_d X (show cdA 109 31 = some (.dup2, 1, 0, 0, 0) from rfl)) rfl rfl (z_lalE X 8 rfl (by decide) rfl (by first | exact oq_733cd31a p0.1 | omega) (show ((x * 5) + 4) < 60 by first | exact oq_23e13238 p0.2 | omega) (by decide) ?_)))))))))))
    refine w_lconst X.1 (ax_d X (show cdA 109 33 = some (.lconst 1, 1, 0, 0, 0) from rfl)) (z := (1 : Int64)) (by decide) (z_load_n X (x := y) rfl (List.Mem.tail _ (List.Mem.tail _ (List.Mem.tail _ (List.Mem.head _)))) (z_bipush X rfl (z_and63 X rfl (by first | exact And.intro (p1.1) (p1.2) | omega) (z_jshl X rfl (w_lor X.1 (ax_d X (show cdA 109 39 = some (.lor, 1, 0, 0, 0) from rfl)) (z_last X 8 rfl (c518_ok rfl) rfl (by first | exact oq_733cd31a p0.1 | omega) (show ((x * 5) + 4) < 60 by first | exact oq_23e13238 p0.2 | omega) (cbig_ok rfl) (wd_gen (fun s3 hs3 => ?_))))))))
    have Is3 : Bd s3 := eqB hs3 (bd_D I)
    have Fs3 : Fm [] [1005] s s3 := by rw [hs3]; exact fm_D F (show 5 + 1000 ∈ _ by decide)
    exact w_vret X.1 q hRt (ax_d X (show cdA 109 41 = some (.return_, 1, 0, 0, 0) from rfl)) (Nat.zero_le _) (Nat.zero_le _) ⟨_, rfl, Is3, Fs3, rfl, by rw [hs3, show kdZ y z = 4 by unfold kdZ; first | (rw [if_pos (by first | exact g1 | omega)]) | (rw [if_neg (by omega)])]⟩
set_option maxRecDepth 4000 in
theorem c9_wipe3 (G : GX l s0 D tys a0 dT) (I : Bd s) {x : Int} (p0 : 0 ≤ x ∧ x ≤ 11) : CT l s0 D A dT 108 (rmN 108) [.ref (A 3), .int (Int32.ofInt x)] s (fun o t => Bd t ∧ Fm [] [1003, 1004, 1005] s t ∧ o = .inl none ∧ (WZQ x s t)) := by
  refine ct_ofX G (by decide) (Nat.le_of_ble_eq_true rfl) (fun k X E ET hRt hXt q => ?_)
  show WS k 0 [(0, .ref (A 3)), (1, .int (Int32.ofInt x))] [] _ 0 0
  have F : Fm [] [1003, 1004, 1005] s s := fm_rf _ _ s
  have L22 : ∀ (n : Nat) (t : PS) (xv c : Int), Bd t → Fm [] [1003, 1004, 1005] s t → (WZ1 xv c s t) → ((0 ≤ xv ∧ xv ≤ 11) ∧ 0 ≤ c ∧ c ≤ 14) → (14 - c : Int).toNat < n → (∀ (t' : PS) (c' : Int), Bd t' → Fm [] [1003, 1004, 1005] s t' → (WZ1 xv 14 s t') → ((0 ≤ xv ∧ xv ≤ 11) ∧ 0 ≤ c' ∧ c' ≤ 14) → WS k 48 [(0, .ref (A 3)), (1, .int (Int32.ofInt xv)), (2, .int (Int32.ofInt c'))] [] (Wd A dT t') 0 0) → WS k 22 [(0, .ref (A 3)), (1, .int (Int32.ofInt xv)), (2, .int (Int32.ofInt c))] [] (Wd A dT t) 0 0 := by
    intro n
    induction n with
    | zero =>
      intro t xv c I F hq hi hm kx
      exact absurd hm (Nat.not_lt_zero _)
    | succ n ih =>
      intro t xv c I F hq hi hm kx
      refine z_load_n X (x := c) rfl (List.Mem.tail _ (List.Mem.tail _ (List.Mem.head _))) (z_bipush X rfl (z_icmp_ge X (t := 48) rfl rfl ⟨by first | exact oq_fa4e5087 hi.2.1 | omega, by first | exact oq_b2d5d781 hi.2.2 | omega⟩ (by decide) (fun g1001 => ?_) (fun g1001 => ?_)))
      ·
        refine WS_pq [0, 1, 2] (lv' := [(0, .ref (A 3)), (1, .int (Int32.ofInt xv)), (2, .int (Int32.ofInt c))]) rfl ?_
        exact kx _ c I F (by rw [show (14 : Int) = c by first | exact oq_b7df0ac1 g1001 hi.2.2 | omega]; exact hq) (by first | exact ⟨And.intro (hi.1.1) (hi.1.2), hi.2.1, hi.2.2⟩ | omega)
      ·
        refine z_aload_n X (x := A 3) rfl (List.Mem.head _) (s_getR X 3 rfl (c518_ok rfl) rfl rfl (z_load_n X (x := xv) rfl (List.Mem.tail _ (List.Mem.head _)) (z_bipush X rfl (z_mul X rfl (z_const X rfl (z_mul X rfl (z_load_n X (x := c) rfl (List.Mem.tail _ (List.Mem.tail _ (List.Mem.head _))) (z_add X rfl (w_lconst X.1 (ax_d X (show cdA 108 40 = some (.lconst 0, 1, 0, 0, 0) from rfl)) (z := (0 : Int64)) (by decide) (z_last X 7 rfl (c518_ok rfl) rfl (by first | exact oq_5903f419 hi.1.1 hi.2.1 | omega) (show (((xv * 7) * 2) + c) < 168 by first | exact oq_7e6b1f23 hi.1.2 g1001 | omega) (cbig_ok rfl) (wd_gen (fun s1002 hs1002 => ?_))))))))))))
        have Is1002 : Bd s1002 := eqB hs1002 (bd_D I)
        have Fs1002 : Fm [] [1003, 1004, 1005] s s1002 := by rw [hs1002]; exact fm_D F (show 4 + 1000 ∈ _ by decide)
        refine z_inc X (x := c) (lv' := [(2, .int (Int32.ofInt (c + 1))), (0, .ref (A 3)), (1, .int (Int32.ofInt xv))]) rfl (by decide) (List.Mem.tail _ (List.Mem.tail _ (List.Mem.head _))) (fun _ h => h) (z_goto X (t := 22) rfl rfl (WS_pq [1, 2, 0] (lv' := [(0, .ref (A 3)), (1, .int (Int32.ofInt xv)), (2, .int (Int32.ofInt (c + 1)))]) rfl ?_))
        exact ih _ xv (c + 1) Is1002 Fs1002 (wz1_up hq hs1002 (by first | exact oq_c154c99c | omega) (by first | exact hi.1.1 | omega) (by first | exact hi.2.1 | omega)) (by first | exact ⟨And.intro (hi.1.1) (hi.1.2), oq_54f49eb5 hi.2.1, oq_99721bc4 g1001⟩ | omega) (by first | exact qk_me hm (by decide) (oq_bddbca7a g1001) | exact oq_2b038be6 g1001 hm | omega) kx
  have L50 : ∀ (n : Nat) (t : PS) (xv c : Int), Bd t → Fm [] [1003, 1004, 1005] s t → (WZ2 xv c s t) → ((0 ≤ xv ∧ xv ≤ 11) ∧ 0 ≤ c ∧ c ≤ 5) → (5 - c : Int).toNat < n → (∀ (t' : PS) (c' : Int), Bd t' → Fm [] [1003, 1004, 1005] s t' → (WZ2 xv 5 s t') → ((0 ≤ xv ∧ xv ≤ 11) ∧ 0 ≤ c' ∧ c' ≤ 5) → WS k 72 [(0, .ref (A 3)), (1, .int (Int32.ofInt xv)), (2, .int (Int32.ofInt c'))] [] (Wd A dT t') 0 0) → WS k 50 [(0, .ref (A 3)), (1, .int (Int32.ofInt xv)), (2, .int (Int32.ofInt c))] [] (Wd A dT t) 0 0 := by
    intro n
    induction n with
    | zero =>
      intro t xv c I F hq hi hm kx
      exact absurd hm (Nat.not_lt_zero _)
    | succ n ih =>
      intro t xv c I F hq hi hm kx
      refine z_load_n X (x := c) rfl (List.Mem.tail _ (List.Mem.tail _ (List.Mem.head _))) (z_const X rfl (z_icmp_ge X (t := 72) rfl rfl ⟨by first | exact oq_fa4e5087 hi.2.1 | omega, by first | exact oq_a3dd55e5 hi.2.2 | omega⟩ (by decide) (fun g2001 => ?_) (fun g2001 => ?_)))
      ·
        refine WS_pq [0, 1, 2] (lv' := [(0, .ref (A 3)), (1, .int (Int32.ofInt xv)), (2, .int (Int32.ofInt c))]) rfl ?_
        exact kx _ c I F (by rw [show (5 : Int) = c by first | exact oq_6429b624 g2001 hi.2.2 | omega]; exact hq) (by first | exact ⟨And.intro (hi.1.1) (hi.1.2), hi.2.1, hi.2.2⟩ | omega)
      ·
        refine z_aload_n X (x := A 3) rfl (List.Mem.head _) (s_getR X 3 rfl (c518_ok rfl) rfl rfl (z_load_n X (x := xv) rfl (List.Mem.tail _ (List.Mem.head _)) (z_const X rfl (z_mul X rfl (z_load_n X (x := c) rfl (List.Mem.tail _ (List.Mem.tail _ (List.Mem.head _))) (z_add X rfl (w_lconst X.1 (ax_d X (show cdA 108 64 = some (.lconst 0, 1, 0, 0, 0) from rfl)) (z := (0 : Int64)) (by decide) (z_last X 8 rfl (c518_ok rfl) rfl (by first | exact oq_59a253bd hi.1.1 hi.2.1 | omega) (show ((xv * 5) + c) < 60 by first | exact oq_7279bf48 hi.1.2 g2001 | omega) (cbig_ok rfl) (wd_gen (fun s2002 hs2002 => ?_))))))))))
        have Is2002 : Bd s2002 := eqB hs2002 (bd_D I)
        have Fs2002 : Fm [] [1003, 1004, 1005] s s2002 := by rw [hs2002]; exact fm_D F (show 5 + 1000 ∈ _ by decide)
        refine z_inc X (x := c) (lv' := [(2, .int (Int32.ofInt (c + 1))), (0, .ref (A 3)), (1, .int (Int32.ofInt xv))]) rfl (by decide) (List.Mem.tail _ (List.Mem.tail _ (List.Mem.head _))) (fun _ h => h) (z_goto X (t := 50) rfl rfl (WS_pq [1, 2, 0] (lv' := [(0, .ref (A 3)), (1, .int (Int32.ofInt xv)), (2, .int (Int32.ofInt (c + 1)))]) rfl ?_))
        exact ih _ xv (c + 1) Is2002 Fs2002 (wz2_up hq hs2002 (by first | exact rfl | omega) (by first | exact hi.1.1 | omega) (by first | exact hi.2.1 | omega)) (by first | exact ⟨And.intro (hi.1.1) (hi.1.2), oq_54f49eb5 hi.2.1, oq_c2445583 g2001⟩ | omega) (by first | exact qk_me hm (by decide) (oq_33241a94 g2001) | exact oq_fa9057d0 g2001 hm | omega) kx
  refine z_aload_n X (x := A 3) rfl (List.Mem.head _) (s_getR X 3 rfl (c518_ok rfl) rfl rfl (z_load_n X (x := x) rfl (List.Mem.tail _ (List.Mem.head _)) (z_const X rfl (z_mul X rfl (w_lconst X.1 (ax_d X (show cdA 108 7 = some (.lconst 0, 1, 0, 0, 0) from rfl)) (z := (0 : Int64)) (by decide) (z_last X 6 rfl (c518_ok rfl) rfl (by first | exact oq_cfc6ac54 p0.1 | omega) (show (x * 2) < 24 by first | exact oq_36c3846a p0.2 | omega) (cbig_ok rfl) (wd_gen (fun s1 hs1 => ?_))))))))
  have Is1 : Bd s1 := eqB hs1 (bd_D I)
  have Fs1 : Fm [] [1003, 1004, 1005] s s1 := by rw [hs1]; exact fm_D F (show 3 + 1000 ∈ _ by decide)
  refine z_aload_n X (x := A 3) rfl (List.Mem.head _) (s_getR X 3 rfl (c518_ok rfl) rfl rfl (z_load_n X (x := x) rfl (List.Mem.tail _ (List.Mem.head _)) (z_const X rfl (z_mul X rfl (z_const X rfl (z_add X rfl (w_lconst X.1 (ax_d X (show cdA 108 18 = some (.lconst 0, 1, 0, 0, 0) from rfl)) (z := (0 : Int64)) (by decide) (z_last X 6 rfl (c518_ok rfl) rfl (by first | exact oq_8a3e0277 p0.1 | omega) (show ((x * 2) + 1) < 24 by first | exact oq_ad30b59c p0.2 | omega) (cbig_ok rfl) (wd_gen (fun s2 hs2 => ?_))))))))))
  have Is2 : Bd s2 := eqB hs2 (bd_D Is1)
  have Fs2 : Fm [] [1003, 1004, 1005] s s2 := by rw [hs2]; exact fm_D Fs1 (show 3 + 1000 ∈ _ by decide)
  have hWZ : WZ1 x 0 s s2 := wz1_0 hs1 hs2 rfl rfl (by first | exact p0.1 | omega)
  refine z_const X rfl (z_store_n X (lv' := [(2, .int (Int32.ofInt 0)), (0, .ref (A 3)), (1, .int (Int32.ofInt x))]) rfl (by decide) (fun _ h => h) (WS_pq [1, 2, 0] (lv' := [(0, .ref (A 3)), (1, .int (Int32.ofInt x)), (2, .int (Int32.ofInt 0))]) rfl (L22 ((14 - 0 : Int).toNat + 1) s2 x 0 Is2 Fs2 hWZ (by first | exact ⟨And.intro (p0.1) (p0.2), by decide, by decide⟩ | omega) (Nat.lt_succ_self _) ?_)))
  intro s3 x4 Is3 Fs3 Qs3 hs3
  refine z_const X rfl (z_store_n X (lv' := [(2, .int (Int32.ofInt 0)), (0, .ref (A 3)), (1, .int (Int32.ofInt x))]) rfl (by decide) (fun _ h => h) (WS_pq [1, 2, 0] (lv' := [(0, .ref (A 3)), (1, .int (Int32.ofInt x)), (2, .int (Int32.ofInt 0))]) rfl (L50 ((5 - 0 : Int).toNat + 1) s3 x 0 Is3 Fs3 (wz2_0 Qs3) (by first | exact ⟨And.intro (hs3.1.1) (hs3.1.2), by decide, by decide⟩ | omega) (Nat.lt_succ_self _) ?_)))
  intro s5 x6 Is5 Fs5 Qs5 hs5
  exact w_vret X.1 q hRt (ax_d X (show cdA 108 72 = some (.return_, 1, 0, 0, 0) from rfl)) (Nat.zero_le _) (Nat.zero_le _) ⟨_, rfl, Is5, Fs5, rfl, Qs5⟩
set_option maxRecDepth 4000 in
theorem c9_setWay3 (G : GX l s0 D tys a0 dT) (I : Bd s) {x z w : Int} (p0 : 0 ≤ x ∧ x ≤ 11) (p1 : 0 ≤ w ∧ w ≤ 24) (p2 : z = 0 ∧ z + w ≤ 24) : CT l s0 D A dT 107 (rmN 107) [.ref (A 3), .int (Int32.ofInt x), .ref (A 18), .int (Int32.ofInt z), .int (Int32.ofInt w)] s (fun o t => Bd t ∧ Fm [] [1, 2, 1003, 1004, 1005] s t ∧ o = .inl none ∧ (CWF x w s t ∧ WRQ (fun k => iC s 15 k) x w w s t)) := by
  refine ct_ofX G (by decide) (Nat.le_of_ble_eq_true rfl) (fun k X E ET hRt hXt q => ?_)
  show WS k 0 [(0, .ref (A 3)), (1, .int (Int32.ofInt x)), (2, .ref (A 18)), (3, .int (Int32.ofInt z)), (4, .int (Int32.ofInt w))] [] _ 0 0
  have F : Fm [] [1, 2, 1003, 1004, 1005] s s := fm_rf _ _ s
  have aw0_SDM : SDM s s := sdm_rf
  have aw0_SDG : SDG s s := sdg_rf
  have aw0_SDP : SDP s s := sdp_rf
  have L35 : ∀ (n : Nat) (t : PS) (xv zv wv go c : Int), Bd t → Fm [] [1, 2, 1003, 1004, 1005] s t → (CWF x w s t ∧ WRQ (fun k => iC s 15 k) xv wv c s t ∧ GOQ (fun k => iC s 15 k) wv c go) → ((xv = x ∧ zv = 0 ∧ wv = w ∧ c ≤ w) ∧ (0 ≤ xv ∧ xv ≤ 11) ∧ (0 ≤ wv ∧ wv ≤ 24) ∧ (0 ≤ zv ∧ zv + wv ≤ 24) ∧ (0 ≤ go ∧ go ≤ 6) ∧ 0 ≤ c ∧ c ≤ 24) → (24 - c : Int).toNat < n → (∀ (t' : PS) (go' c' : Int), Bd t' → Fm [] [1, 2, 1003, 1004, 1005] s t' → (CWF x w s t' ∧ WRQ (fun k => iC s 15 k) x w w s t') → (c' = w) → WS k 153 [(0, .ref (A 3)), (2, .ref (A 18)), (1, .int (Int32.ofInt xv)), (3, .int (Int32.ofInt zv)), (4, .int (Int32.ofInt wv)), (5, .int (Int32.ofInt go')), (6, .int (Int32.ofInt c'))] [] (Wd A dT t') 0 0) → WS k 35 [(0, .ref (A 3)), (2, .ref (A 18)), (1, .int (Int32.ofInt xv)), (3, .int (Int32.ofInt zv)), (4, .int (Int32.ofInt wv)), (5, .int (Int32.ofInt go)), (6, .int (Int32.ofInt c))] [] (Wd A dT t) 0 0 := by
    intro n
    induction n with
    | zero =>
      intro t xv zv wv go c I F hq hi hm kx
      exact absurd hm (Nat.not_lt_zero _)
    | succ n ih =>
      intro t xv zv wv go c I F hq hi hm kx
      refine z_load X (x := c) rfl (List.Mem.tail _ (List.Mem.tail _ (List.Mem.tail _ (List.Mem.tail _ (List.Mem.tail _ (List.Mem.tail _ (List.Mem.head _))))))) (z_load X (x := wv) rfl (List.Mem.tail _ (List.Mem.tail _ (List.Mem.tail _ (List.Mem.tail _ (List.Mem.head _))))) (z_icmp_ge X (t := 153) rfl rfl ⟨by first | exact oq_fa4e5087 hi.2.2.2.2.2.1 | omega, by first | exact oq_5bcd337f hi.2.2.2.2.2.2 | omega⟩ ⟨by first | exact oq_fa4e5087 hi.2.2.1.1 | omega, by first | exact oq_5bcd337f hi.2.2.1.2 | omega⟩ (fun g1001 => ?_) (fun g1001 => ?_)))
      ·
        refine WS_pq [0, 1, 2, 3, 4, 5, 6] (lv' := [(0, .ref (A 3)), (2, .ref (A 18)), (1, .int (Int32.ofInt xv)), (3, .int (Int32.ofInt zv)), (4, .int (Int32.ofInt wv)), (5, .int (Int32.ofInt go)), (6, .int (Int32.ofInt c))]) rfl ?_
        exact kx _ go c I F ⟨hq.1, by have h := hq.2.1; rw [show c = w by first | exact oq_dfd957a2 g1001 hi.1.2.2.2 hi.1.2.2.1 | omega, show xv = x by first | exact hi.1.1 | omega, show wv = w by first | exact hi.1.2.2.1 | omega] at h; exact h⟩ (by first | exact oq_537ca82a hi.1.2.2.2 g1001 hi.1.2.2.1 | omega)
      ·
        refine z_aload_n X (x := A 18) rfl (List.Mem.tail _ (List.Mem.head _)) (z_load_n X (x := zv) rfl (List.Mem.tail _ (List.Mem.tail _ (List.Mem.tail _ (List.Mem.head _)))) (z_load X (x := c) rfl (List.Mem.tail _ (List.Mem.tail _ (List.Mem.tail _ (List.Mem.tail _ (List.Mem.tail _ (List.Mem.tail _ (List.Mem.head _))))))) (z_add X rfl (z_ald X 18 rfl (c518_ok rfl) rfl (by first | exact oq_d8d6a599 hi.2.2.2.2.2.1 hi.2.2.2.1.1 | omega) (show (zv + c) < 24 by first | exact oq_de70c7d8 hi.2.2.2.1.2 g1001 | omega) (cbig_ok rfl) ?_))))
        have b1002 := bc_15 I (show ((zv + c)).toNat < 24 by first | exact oq_ff24e3f1 hi.2.2.2.1.2 g1001 | omega)
        have hce : (iC t 15 ((zv + c)).toNat) = (fun k => iC s 15 k) (c : Int).toNat := by show (iC t 15 ((zv + c)).toNat) = iC s 15 (c : Int).toNat; rw [show (zv + c) = c by first | exact oq_a0250545 hi.2.2.2.1.1 hi.1.2.1 | omega]; exact (sam_fm F (by decide) : SAM 15 s t) _
        refine z_store X (lv' := [(7, .int (Int32.ofInt (iC t 15 ((zv + c)).toNat))), (0, .ref (A 3)), (2, .ref (A 18)), (1, .int (Int32.ofInt xv)), (3, .int (Int32.ofInt zv)), (4, .int (Int32.ofInt wv)), (5, .int (Int32.ofInt go)), (6, .int (Int32.ofInt c))]) rfl (by decide) (fun _ h => h) (z_load X (x := c) rfl (List.Mem.tail _ (List.Mem.tail _ (List.Mem.tail _ (List.Mem.tail _ (List.Mem.tail _ (List.Mem.tail _ (List.Mem.tail _ (List.Mem.head _)))))))) (z_const X rfl (z_add X rfl (z_load X (x := wv) rfl (List.Mem.tail _ (List.Mem.tail _ (List.Mem.tail _ (List.Mem.tail _ (List.Mem.tail _ (List.Mem.head _)))))) (z_icmp_ge X (t := 94) rfl rfl ⟨by first | exact oq_74de1e16 hi.2.2.2.2.2.1 | omega, by first | exact oq_3a454424 hi.2.2.2.2.2.2 | omega⟩ ⟨by first | exact oq_fa4e5087 hi.2.2.1.1 | omega, by first | exact oq_5bcd337f hi.2.2.1.2 | omega⟩ (fun g1003 => ?_) (fun g1003 => ?_))))))
        ·
          refine w_lconst X.1 (ax_d X (show cdA 107 94 = some (.lconst 1, 1, 0, 0, 0) from rfl)) (z := (1 : Int64)) (by decide) (z_load X (x := (iC t 15 ((zv + c)).toNat)) rfl (List.Mem.head _) (z_bipush X rfl (z_and63 X rfl (by first | exact And.intro (b1002.1) (b1002.2) | omega) (z_jshl X rfl (w_lstore X.1 (lv' := [(8, .long (jshl (1 : Int64) ((iC t 15 ((zv + c)).toNat) % 64))), (7, .int (Int32.ofInt (iC t 15 ((zv + c)).toNat))), (0, .ref (A 3)), (2, .ref (A 18)), (1, .int (Int32.ofInt xv)), (3, .int (Int32.ofInt zv)), (4, .int (Int32.ofInt wv)), (5, .int (Int32.ofInt go)), (6, .int (Int32.ofInt c))]) (ax_d X (show cdA 107 101 = some (.lstore 8, 2, 0, 0, 0) from rfl)) (by rw [X.2.1.2.2]; decide) (fun _ h => h) (z_aload_n X (x := A 3) rfl (List.Mem.tail _ (List.Mem.tail _ (List.Mem.head _))) (s_getR X 3 rfl (c518_ok rfl) rfl rfl (z_load_n X (x := xv) rfl (List.Mem.tail _ (List.Mem.tail _ (List.Mem.tail _ (List.Mem.tail _ (List.Mem.head _))))) (z_const X rfl (z_mul X rfl (z_load X (x := (iC t 15 ((zv + c)).toNat)) rfl (List.Mem.tail _ (List.Mem.head _)) ?_)))))))))))
          refine z_bipush X rfl (z_quot X rfl (by first | exact b1002.1 | omega) (rng_to _) (by decide) (by decide) (z_add X rfl (w_dup2_11 X.1 (ax_d X (show cdA 107 116 = some (.dup2, 1, 0, 0, 0) from rfl)) rfl rfl (z_lalE X 6 rfl (by decide) rfl (by first | exact oq_c0bd8137 b1002.1 hi.2.1.1 | omega) (show ((xv * 2) + ((iC t 15 ((zv + c)).toNat) / 64)) < 24 by first | exact oq_c80b6473 b1002.2 hi.2.1.2 | omega) (by decide) (w_lload X.1 (ax_d X (show cdA 107 118 = some (.lload 8, 2, 0, 0, 0) from rfl)) (x := (jshl (1 : Int64) ((iC t 15 ((zv + c)).toNat) % 64))) (List.Mem.head _) (w_lor X.1 (ax_d X (show cdA 107 120 = some (.lor, 1, 0, 0, 0) from rfl)) (z_last X 6 rfl (c518_ok rfl) rfl (by first | exact oq_c0bd8137 b1002.1 hi.2.1.1 | omega) (show ((xv * 2) + ((iC t 15 ((zv + c)).toNat) / 64)) < 24 by first | exact oq_c80b6473 b1002.2 hi.2.1.2 | omega) (cbig_ok rfl) (wd_gen (fun s1004 hs1004 => ?_)))))))))
          have Is1004 : Bd s1004 := eqB hs1004 (bd_D I)
          have Fs1004 : Fm [] [1, 2, 1003, 1004, 1005] s s1004 := by rw [hs1004]; exact fm_D F (show 3 + 1000 ∈ _ by decide)
          have aws1004_1 : SAM 1 t s1004 := by rw [hs1004]; exact (sam_rf (a := 1) (s := t))
          have aws1004_2 : SAM 2 t s1004 := by rw [hs1004]; exact (sam_rf (a := 2) (s := t))
          refine z_aload_n X (x := A 3) rfl (List.Mem.tail _ (List.Mem.tail _ (List.Mem.head _))) (s_getR X 3 rfl (c518_ok rfl) rfl rfl (z_load_n X (x := xv) rfl (List.Mem.tail _ (List.Mem.tail _ (List.Mem.tail _ (List.Mem.tail _ (List.Mem.head _))))) (z_bipush X rfl (z_mul X rfl (z_load X (x := go) rfl (List.Mem.tail _ (List.Mem.tail _ (List.Mem.tail _ (List.Mem.tail _ (List.Mem.tail _ (List.Mem.tail _ (List.Mem.tail _ (List.Mem.head _)))))))) (z_add X rfl (z_const X rfl (z_mul X rfl (z_load X (x := (iC t 15 ((zv + c)).toNat)) rfl (List.Mem.tail _ (List.Mem.head _)) (z_bipush X rfl (z_quot X rfl (by first | exact b1002.1 | omega) (rng_to _) (by decide) (by decide) ?_)))))))))))
          refine z_add X rfl (w_dup2_11 X.1 (ax_d X (show cdA 107 141 = some (.dup2, 1, 0, 0, 0) from rfl)) rfl rfl (z_lalE X 7 rfl (by decide) rfl (by first | exact oq_ea32c91a b1002.1 hi.2.2.2.2.1.1 hi.2.1.1 | omega) (show ((((xv * 7) + go) * 2) + ((iC t 15 ((zv + c)).toNat) / 64)) < 168 by first | exact oq_5da8d824 b1002.2 hi.2.2.2.2.1.2 hi.2.1.2 | omega) (by decide) (w_lload X.1 (ax_d X (show cdA 107 143 = some (.lload 8, 2, 0, 0, 0) from rfl)) (x := (jshl (1 : Int64) ((iC t 15 ((zv + c)).toNat) % 64))) (List.Mem.head _) (w_lor X.1 (ax_d X (show cdA 107 145 = some (.lor, 1, 0, 0, 0) from rfl)) (z_last X 7 rfl (c518_ok rfl) rfl (by first | exact oq_ea32c91a b1002.1 hi.2.2.2.2.1.1 hi.2.1.1 | omega) (show ((((xv * 7) + go) * 2) + ((iC t 15 ((zv + c)).toNat) / 64)) < 168 by first | exact oq_5da8d824 b1002.2 hi.2.2.2.2.1.2 hi.2.1.2 | omega) (cbig_ok rfl) (wd_gen (fun s1005 hs1005 => ?_)))))))
          have Is1005 : Bd s1005 := eqB hs1005 (bd_D Is1004)
          have Fs1005 : Fm [] [1, 2, 1003, 1004, 1005] s s1005 := by rw [hs1005]; exact fm_D Fs1004 (show 4 + 1000 ∈ _ by decide)
          have aws1005_1 : SAM 1 t s1005 := by rw [hs1005]; exact aws1004_1
          have aws1005_2 : SAM 2 t s1005 := by rw [hs1005]; exact aws1004_2
          refine z_inc X (x := c) (lv' := [(6, .int (Int32.ofInt (c + 1))), (8, .long (jshl (1 : Int64) ((iC t 15 ((zv + c)).toNat) % 64))), (7, .int (Int32.ofInt (iC t 15 ((zv + c)).toNat))), (0, .ref (A 3)), (2, .ref (A 18)), (1, .int (Int32.ofInt xv)), (3, .int (Int32.ofInt zv)), (4, .int (Int32.ofInt wv)), (5, .int (Int32.ofInt go))]) rfl (by decide) (List.Mem.tail _ (List.Mem.tail _ (List.Mem.tail _ (List.Mem.tail _ (List.Mem.tail _ (List.Mem.tail _ (List.Mem.tail _ (List.Mem.tail _ (List.Mem.head _))))))))) (fun _ h => h) (z_goto X (t := 35) rfl rfl (WS_pq [3, 4, 5, 6, 7, 8, 0] (lv' := [(0, .ref (A 3)), (2, .ref (A 18)), (1, .int (Int32.ofInt xv)), (3, .int (Int32.ofInt zv)), (4, .int (Int32.ofInt wv)), (5, .int (Int32.ofInt go)), (6, .int (Int32.ofInt (c + 1)))]) rfl ?_))
          exact ih _ xv zv wv go (c + 1) Is1005 Fs1005 ⟨cwf_sam hq.1 aws1005_1 aws1005_2, wrq_last hq.2.1 hs1004 hs1005 hce (by first | exact And.intro (b1002.1) (b1002.2) | omega) (by first | exact hi.2.1.1 | omega) (by first | exact hi.2.2.2.2.2.1 | omega) (goq_k hq.2.2 (by first | exact hi.2.2.2.2.2.1 | omega) (by first | exact g1001 | omega) (by first | exact g1003 | omega)) (by first | exact And.intro (hi.2.2.2.2.1.1) (hi.2.2.2.2.1.2) | omega) (by first | exact rfl | omega) (by first | exact rfl | omega) (by first | exact g1003 | omega), Or.inr ⟨by first | exact oq_b15b052d hi.2.2.2.2.2.1 | omega, fun h => absurd h (by first | exact oq_aea23435 h g1003 | omega)⟩⟩ (by first | exact ⟨And.intro (hi.1.1) (And.intro (hi.1.2.1) (And.intro (hi.1.2.2.1) (oq_b1226e90 hi.1.2.2.1 g1001))), And.intro (hi.2.1.1) (hi.2.1.2), And.intro (hi.2.2.1.1) (hi.2.2.1.2), And.intro (hi.2.2.2.1.1) (hi.2.2.2.1.2), And.intro (hi.2.2.2.2.1.1) (hi.2.2.2.2.1.2), oq_54f49eb5 hi.2.2.2.2.2.1, oq_41473be0 g1001 hi.2.2.1.2⟩ | omega) (by first | exact qk_me hm (by decide) (oq_9dea93e6 g1001 hi.2.2.1.2) | exact oq_046704fa g1001 hm hi.2.2.1.2 | omega) kx
        ·
          refine z_load X (x := (iC t 15 ((zv + c)).toNat)) rfl (List.Mem.head _) (z_aload_n X (x := A 18) rfl (List.Mem.tail _ (List.Mem.tail _ (List.Mem.head _))) (z_load_n X (x := zv) rfl (List.Mem.tail _ (List.Mem.tail _ (List.Mem.tail _ (List.Mem.tail _ (List.Mem.head _))))) (z_load X (x := c) rfl (List.Mem.tail _ (List.Mem.tail _ (List.Mem.tail _ (List.Mem.tail _ (List.Mem.tail _ (List.Mem.tail _ (List.Mem.tail _ (List.Mem.head _)))))))) (z_add X rfl (z_const X rfl (z_add X rfl (z_ald X 18 rfl (c518_ok rfl) rfl (by first | exact oq_c2d8fe16 hi.2.2.2.2.2.1 hi.2.2.2.1.1 | omega) (show ((zv + c) + 1) < 24 by first | exact oq_c07d830a hi.2.2.2.1.2 g1003 | omega) (cbig_ok rfl) ?_)))))))
          have b1006 := bc_15 I (show (((zv + c) + 1)).toNat < 24 by first | exact oq_136cae15 hi.2.2.2.1.2 g1003 | omega)
          have hne : (iC t 15 (((zv + c) + 1)).toNat) = (fun k => iC s 15 k) (c + 1).toNat := by show (iC t 15 (((zv + c) + 1)).toNat) = iC s 15 (c + 1).toNat; rw [show ((zv + c) + 1) = c + 1 by first | exact oq_38524ed1 hi.2.2.2.1.1 hi.1.2.1 | omega]; exact (sam_fm F (by decide) : SAM 15 s t) _
          refine z_callS X (rm := rmN 102) (As := [.int (Int32.ofInt (iC t 15 ((zv + c)).toNat)), .int (Int32.ofInt (iC t 15 (((zv + c) + 1)).toNat))]) (st := []) rfl rfl (by rw [E.1, E.2.1, E.2.2.1]; exact c9_goBetween3 G I (by first | exact ⟨b1002.1, b1002.2⟩ | omega) (by first | exact ⟨b1006.1, b1006.2⟩ | omega)) ⟨by rw [E.2.2.2]; exact (show (rmN 102).frames + 1 ≤ (rmN 107).frames by decide), by rw [E.2.2.2]; exact (show 8 + (mNL (miB 102) + 11) + (rmN 102).locals ≤ (rmN 107).locals by decide), by rw [E.2.2.2]; exact (show 0 + (rmN 102).cells ≤ (rmN 107).cells by decide), by rw [E.2.2.2]; exact (show 0 + (rmN 102).slots ≤ (rmN 107).slots by decide)⟩ (Nat.le_of_ble_eq_true rfl) (fun vv s1007 hq => ?_) (fun ee s1007 hq => ?_)
          rotate_left
          · obtain ⟨rfl, e1008, hv, hrs1007, hps1007⟩ := hq; cases hv
          obtain ⟨rfl, e1008, hv, hrs1007, hps1007⟩ := hq
          cases hv
          show WS k 72 [(7, .int (Int32.ofInt (iC t 15 ((zv + c)).toNat))), (0, .ref (A 3)), (2, .ref (A 18)), (1, .int (Int32.ofInt xv)), (3, .int (Int32.ofInt zv)), (4, .int (Int32.ofInt wv)), (5, .int (Int32.ofInt go)), (6, .int (Int32.ofInt c))] [.int (Int32.ofInt e1008)] (Wd A dT t) 0 0
          have hgB : e1008 = goB ((fun k => iC s 15 k) (c : Int).toNat) ((fun k => iC s 15 k) (c + 1).toNat) := by rw [← hce, ← hne]; exact hps1007.1
          refine z_store X (lv' := [(5, .int (Int32.ofInt e1008)), (7, .int (Int32.ofInt (iC t 15 ((zv + c)).toNat))), (0, .ref (A 3)), (2, .ref (A 18)), (1, .int (Int32.ofInt xv)), (3, .int (Int32.ofInt zv)), (4, .int (Int32.ofInt wv)), (6, .int (Int32.ofInt c))]) rfl (by decide) (fun _ h => h) (z_aload_n X (x := A 3) rfl (List.Mem.tail _ (List.Mem.tail _ (List.Mem.head _))) (z_load_n X (x := xv) rfl (List.Mem.tail _ (List.Mem.tail _ (List.Mem.tail _ (List.Mem.tail _ (List.Mem.head _))))) (z_load X (x := (iC t 15 ((zv + c)).toNat)) rfl (List.Mem.tail _ (List.Mem.head _)) (z_aload_n X (x := A 18) rfl (List.Mem.tail _ (List.Mem.tail _ (List.Mem.tail _ (List.Mem.head _)))) (z_load_n X (x := zv) rfl (List.Mem.tail _ (List.Mem.tail _ (List.Mem.tail _ (List.Mem.tail _ (List.Mem.tail _ (List.Mem.head _)))))) (z_load X (x := c) rfl (List.Mem.tail _ (List.Mem.tail _ (List.Mem.tail _ (List.Mem.tail _ (List.Mem.tail _ (List.Mem.tail _ (List.Mem.tail _ (List.Mem.head _)))))))) (z_add X rfl (z_const X rfl (z_add X rfl (z_ald X 18 rfl (c518_ok rfl) rfl (by first | exact oq_c2d8fe16 hi.2.2.2.2.2.1 hi.2.2.2.1.1 | omega) (show ((zv + c) + 1) < 24 by first | exact oq_c07d830a hi.2.2.2.1.2 g1003 | omega) (cbig_ok rfl) ?_))))))))))
          have b1009 := bc_15 I (show (((zv + c) + 1)).toNat < 24 by first | exact oq_136cae15 hi.2.2.2.1.2 g1003 | omega)
          refine z_min X rfl (rng_to _) (rng_to _) (by rw [E.2.2.2]; decide) (by rw [E.2.2.2]; exact Nat.le_of_ble_eq_true rfl) (Nat.zero_le _) (Nat.zero_le _) (fun e1010 he1010 => ?_)
          refine z_load X (x := e1008) rfl (List.Mem.head _) (zcV_v0 X E 3 (As := [.int (Int32.ofInt xv), .int (Int32.ofInt e1010), .int (Int32.ofInt e1008)]) (st := []) rfl rfl rfl rfl (c9_setStep3 G I (by first | exact ⟨hi.2.1.1, hi.2.1.2⟩ | omega) (by first | exact ⟨oq_03ccc143 he1010 b1009.1 b1002.1, oq_9c77db17 he1010 b1002.2⟩ | omega) (by first | exact ⟨hps1007.2.1, hps1007.2.2⟩ | omega)) rfl (Nat.le_of_ble_eq_true rfl) (fun s1011 Is1011 Fs1011 hps1011 => ?_))
          have Gs1011 := fm_tq F Fs1011 rfl rfl
          have aws1011_1 : SAM 1 t s1011 := sam_ts (sam_rf (a := 1) (s := t)) (sam_fm Fs1011 (by decide))
          have aws1011_2 : SAM 2 t s1011 := sam_ts (sam_rf (a := 2) (s := t)) (sam_fm Fs1011 (by decide))
          refine w_lconst X.1 (ax_d X (show cdA 107 94 = some (.lconst 1, 1, 0, 0, 0) from rfl)) (z := (1 : Int64)) (by decide) (z_load X (x := (iC t 15 ((zv + c)).toNat)) rfl (List.Mem.tail _ (List.Mem.head _)) (z_bipush X rfl (z_and63 X rfl (by first | exact And.intro (b1002.1) (b1002.2) | omega) (z_jshl X rfl (w_lstore X.1 (lv' := [(8, .long (jshl (1 : Int64) ((iC t 15 ((zv + c)).toNat) % 64))), (5, .int (Int32.ofInt e1008)), (7, .int (Int32.ofInt (iC t 15 ((zv + c)).toNat))), (0, .ref (A 3)), (2, .ref (A 18)), (1, .int (Int32.ofInt xv)), (3, .int (Int32.ofInt zv)), (4, .int (Int32.ofInt wv)), (6, .int (Int32.ofInt c))]) (ax_d X (show cdA 107 101 = some (.lstore 8, 2, 0, 0, 0) from rfl)) (by rw [X.2.1.2.2]; decide) (fun _ h => h) (z_aload_n X (x := A 3) rfl (List.Mem.tail _ (List.Mem.tail _ (List.Mem.tail _ (List.Mem.head _)))) (s_getR X 3 rfl (c518_ok rfl) rfl rfl (z_load_n X (x := xv) rfl (List.Mem.tail _ (List.Mem.tail _ (List.Mem.tail _ (List.Mem.tail _ (List.Mem.tail _ (List.Mem.head _)))))) (z_const X rfl (z_mul X rfl (z_load X (x := (iC t 15 ((zv + c)).toNat)) rfl (List.Mem.tail _ (List.Mem.tail _ (List.Mem.head _))) ?_)))))))))))
          refine z_bipush X rfl (z_quot X rfl (by first | exact b1002.1 | omega) (rng_to _) (by decide) (by decide) (z_add X rfl (w_dup2_11 X.1 (ax_d X (show cdA 107 116 = some (.dup2, 1, 0, 0, 0) from rfl)) rfl rfl (z_lalE X 6 rfl (by decide) rfl (by first | exact oq_c0bd8137 b1002.1 hi.2.1.1 | omega) (show ((xv * 2) + ((iC t 15 ((zv + c)).toNat) / 64)) < 24 by first | exact oq_c80b6473 b1002.2 hi.2.1.2 | omega) (by decide) (w_lload X.1 (ax_d X (show cdA 107 118 = some (.lload 8, 2, 0, 0, 0) from rfl)) (x := (jshl (1 : Int64) ((iC t 15 ((zv + c)).toNat) % 64))) (List.Mem.head _) (w_lor X.1 (ax_d X (show cdA 107 120 = some (.lor, 1, 0, 0, 0) from rfl)) (z_last X 6 rfl (c518_ok rfl) rfl (by first | exact oq_c0bd8137 b1002.1 hi.2.1.1 | omega) (show ((xv * 2) + ((iC t 15 ((zv + c)).toNat) / 64)) < 24 by first | exact oq_c80b6473 b1002.2 hi.2.1.2 | omega) (cbig_ok rfl) (wd_gen (fun s1013 hs1013 => ?_)))))))))
          have Is1013 : Bd s1013 := eqB hs1013 (bd_D Is1011)
          have Fs1013 : Fm [] [1, 2, 1003, 1004, 1005] s s1013 := by rw [hs1013]; exact fm_D Gs1011 (show 3 + 1000 ∈ _ by decide)
          have aws1013_1 : SAM 1 t s1013 := by rw [hs1013]; exact aws1011_1
          have aws1013_2 : SAM 2 t s1013 := by rw [hs1013]; exact aws1011_2
          refine z_aload_n X (x := A 3) rfl (List.Mem.tail _ (List.Mem.tail _ (List.Mem.tail _ (List.Mem.head _)))) (s_getR X 3 rfl (c518_ok rfl) rfl rfl (z_load_n X (x := xv) rfl (List.Mem.tail _ (List.Mem.tail _ (List.Mem.tail _ (List.Mem.tail _ (List.Mem.tail _ (List.Mem.head _)))))) (z_bipush X rfl (z_mul X rfl (z_load X (x := e1008) rfl (List.Mem.tail _ (List.Mem.head _)) (z_add X rfl (z_const X rfl (z_mul X rfl (z_load X (x := (iC t 15 ((zv + c)).toNat)) rfl (List.Mem.tail _ (List.Mem.tail _ (List.Mem.head _))) (z_bipush X rfl (z_quot X rfl (by first | exact b1002.1 | omega) (rng_to _) (by decide) (by decide) ?_)))))))))))
          refine z_add X rfl (w_dup2_11 X.1 (ax_d X (show cdA 107 141 = some (.dup2, 1, 0, 0, 0) from rfl)) rfl rfl (z_lalE X 7 rfl (by decide) rfl (by first | exact oq_f0013a75 hps1007.2.1 b1002.1 hi.2.1.1 | omega) (show ((((xv * 7) + e1008) * 2) + ((iC t 15 ((zv + c)).toNat) / 64)) < 168 by first | exact oq_2f745b71 hps1007.2.2 b1002.2 hi.2.1.2 | omega) (by decide) (w_lload X.1 (ax_d X (show cdA 107 143 = some (.lload 8, 2, 0, 0, 0) from rfl)) (x := (jshl (1 : Int64) ((iC t 15 ((zv + c)).toNat) % 64))) (List.Mem.head _) (w_lor X.1 (ax_d X (show cdA 107 145 = some (.lor, 1, 0, 0, 0) from rfl)) (z_last X 7 rfl (c518_ok rfl) rfl (by first | exact oq_f0013a75 hps1007.2.1 b1002.1 hi.2.1.1 | omega) (show ((((xv * 7) + e1008) * 2) + ((iC t 15 ((zv + c)).toNat) / 64)) < 168 by first | exact oq_2f745b71 hps1007.2.2 b1002.2 hi.2.1.2 | omega) (cbig_ok rfl) (wd_gen (fun s1014 hs1014 => ?_)))))))
          have Is1014 : Bd s1014 := eqB hs1014 (bd_D Is1013)
          have Fs1014 : Fm [] [1, 2, 1003, 1004, 1005] s s1014 := by rw [hs1014]; exact fm_D Fs1013 (show 4 + 1000 ∈ _ by decide)
          have aws1014_1 : SAM 1 t s1014 := by rw [hs1014]; exact aws1013_1
          have aws1014_2 : SAM 2 t s1014 := by rw [hs1014]; exact aws1013_2
          refine z_inc X (x := c) (lv' := [(6, .int (Int32.ofInt (c + 1))), (8, .long (jshl (1 : Int64) ((iC t 15 ((zv + c)).toNat) % 64))), (5, .int (Int32.ofInt e1008)), (7, .int (Int32.ofInt (iC t 15 ((zv + c)).toNat))), (0, .ref (A 3)), (2, .ref (A 18)), (1, .int (Int32.ofInt xv)), (3, .int (Int32.ofInt zv)), (4, .int (Int32.ofInt wv))]) rfl (by decide) (List.Mem.tail _ (List.Mem.tail _ (List.Mem.tail _ (List.Mem.tail _ (List.Mem.tail _ (List.Mem.tail _ (List.Mem.tail _ (List.Mem.tail _ (List.Mem.head _))))))))) (fun _ h => h) (z_goto X (t := 35) rfl rfl (WS_pq [4, 5, 6, 7, 8, 2, 0] (lv' := [(0, .ref (A 3)), (2, .ref (A 18)), (1, .int (Int32.ofInt xv)), (3, .int (Int32.ofInt zv)), (4, .int (Int32.ofInt wv)), (5, .int (Int32.ofInt e1008)), (6, .int (Int32.ofInt (c + 1)))]) rfl ?_))
          exact ih _ xv zv wv e1008 (c + 1) Is1014 Fs1014 ⟨cwf_sam hq.1 aws1014_1 aws1014_2, wrq_more hq.2.1 hps1011 hs1013 hs1014 hce (by first | exact And.intro (b1002.1) (b1002.2) | omega) (by first | exact hi.2.1.1 | omega) (by first | exact hi.2.2.2.2.2.1 | omega) hgB (by first | exact rfl | omega) (by first | exact rfl | omega) (show e1010 = lsK (fun k => iC s 15 k) (c : Int).toNat by unfold lsK; rw [← hce, show (c : Int).toNat + 1 = (c + 1).toNat by first | exact oq_b5180fe7 hi.2.2.2.2.2.1 | omega, ← hne]; omega) (by first | exact And.intro (oq_03ccc143 he1010 b1009.1 b1002.1) (oq_9c77db17 he1010 b1002.2) | omega) rfl (kdz_r (by first | exact And.intro (oq_03ccc143 he1010 b1009.1 b1002.1) (oq_9c77db17 he1010 b1002.2) | omega) (by first | exact And.intro (hps1007.2.1) (hps1007.2.2) | omega)) (by first | exact g1003 | omega), Or.inr ⟨by first | exact oq_b15b052d hi.2.2.2.2.2.1 | omega, fun _ => by rw [show c + 1 - 1 = c by first | exact oq_91def454 | omega]; exact hgB⟩⟩ (by first | exact ⟨And.intro (hi.1.1) (And.intro (hi.1.2.1) (And.intro (hi.1.2.2.1) (oq_fa1aa5d6 hi.1.2.2.1 g1003))), And.intro (hi.2.1.1) (hi.2.1.2), And.intro (hi.2.2.1.1) (hi.2.2.1.2), And.intro (hi.2.2.2.1.1) (hi.2.2.2.1.2), And.intro (hps1007.2.1) (oq_b982df86 hps1007.2.2), oq_54f49eb5 hi.2.2.2.2.2.1, oq_bbeecdc2 g1003 hi.2.2.1.2⟩ | omega) (by first | exact qk_me hm (by decide) (oq_261750be g1003 hi.2.2.1.2) | exact oq_16d2ca9c g1003 hm hi.2.2.1.2 | omega) kx
  refine z_aload_n X (x := A 18) rfl (List.Mem.tail _ (List.Mem.tail _ (List.Mem.head _))) (z_load_n X (x := z) rfl (List.Mem.tail _ (List.Mem.tail _ (List.Mem.tail _ (List.Mem.head _)))) (z_aload_n X (x := A 3) rfl (List.Mem.head _) (s_getR X 3 rfl (c518_ok rfl) rfl rfl (z_load_n X (x := x) rfl (List.Mem.tail _ (List.Mem.head _)) (z_bipush X rfl (z_mul X rfl (z_load X (x := w) rfl (List.Mem.tail _ (List.Mem.tail _ (List.Mem.tail _ (List.Mem.tail _ (List.Mem.head _))))) (z_copyF X I 18 4 (st := []) rfl (by decide) (by decide) rfl rfl (by first | exact And.intro (oq_0b35aa92 p2.1) (oq_26aa4fcc p2.1) | omega) (by first | exact And.intro (oq_370ce5ec p0.1) (oq_638bf77d p0.2) | omega) (by first | exact And.intro (p1.1) (oq_5c530df6 p1.2) | omega) (show z + w ≤ ((24 : Nat) : Int) by first | exact oq_d9632131 p2.2 | omega) (show (x * 24) + w ≤ ((288 : Nat) : Int) by first | exact oq_c201e159 p1.2 p0.2 | omega) (by decide) (by rw [E.2.2.2]; decide) (by rw [E.2.2.2]; exact Nat.le_of_ble_eq_true rfl) (fun s1 Is1 Fs1 cs1 => ?_)))))))))
  have Gs1 := fm_tq F Fs1 rfl rfl
  have aws1_SDM : SDM s s1 := sdm_ts aw0_SDM (sdm_fm Fs1 (by decide))
  have aws1_SDG : SDG s s1 := sdg_ts aw0_SDG (sdg_fm Fs1 (by decide))
  have aws1_SDP : SDP s s1 := sdp_ts aw0_SDP (sdp_fm Fs1 (by decide))
  refine z_aload_n X (x := A 3) rfl (List.Mem.head _) (s_getR X 3 rfl (c518_ok rfl) rfl rfl (z_load_n X (x := x) rfl (List.Mem.tail _ (List.Mem.head _)) (z_load X (x := w) rfl (List.Mem.tail _ (List.Mem.tail _ (List.Mem.tail _ (List.Mem.tail _ (List.Mem.head _))))) (z_ast X 5 rfl (c518_ok rfl) rfl (by first | exact p0.1 | omega) (show x < 12 by first | exact oq_0ddfcfee p0.2 | omega) (cbig_ok rfl) (wd_gen (fun s2 hs2 => ?_))))))
  have Is2 : Bd s2 := eqB hs2 (bd_C Is1 (show (0 : Int) ≤ w ∧ w ≤ 24 by first | exact ⟨p1.1, p1.2⟩ | omega) ⟨by first | exact oq_fa4e5087 p1.1 | omega, by first | exact oq_5bcd337f p1.2 | omega⟩)
  have Fs2 := eqF hs2 (fm_C Gs1 (inl_ok (a := 2) rfl))
  have aws2_SDM : SDM s s2 := sdm_ts aws1_SDM (sdm_fm (L := []) (M := [2]) (by rw [hs2]; exact fm_C (fm_rf _ _ _) (List.Mem.head _)) (by decide))
  have aws2_SDG : SDG s s2 := sdg_ts aws1_SDG (sdg_fm (L := []) (M := [2]) (by rw [hs2]; exact fm_C (fm_rf _ _ _) (List.Mem.head _)) (by decide))
  have aws2_SDP : SDP s s2 := sdp_ts aws1_SDP (sdp_fm (L := []) (M := [2]) (by rw [hs2]; exact fm_C (fm_rf _ _ _) (List.Mem.head _)) (by decide))
  have aws2_1 : SAM 1 s1 s2 := by rw [hs2]; exact sam_C (by decide) (sam_rf (a := 1) (s := s1))
  have aws2_2 : UPD 2 (x) w s1 s2 := by rw [hs2]; exact upd_put (sam_rf (a := 2) (s := s1)) ⟨by first | exact oq_fa4e5087 p1.1 | omega, by first | exact oq_5bcd337f p1.2 | omega⟩
  refine z_aload_n X (x := A 3) rfl (List.Mem.head _) (z_load_n X (x := x) rfl (List.Mem.tail _ (List.Mem.head _)) (zcV_v0 X E 3 (As := [.int (Int32.ofInt x)]) (st := []) rfl rfl rfl rfl (c9_wipe3 G Is2 (by first | exact ⟨p0.1, p0.2⟩ | omega)) rfl (Nat.le_of_ble_eq_true rfl) (fun s3 Is3 Fs3 hps3 => ?_)))
  have Gs3 := fm_tq Fs2 Fs3 rfl rfl
  have aws3_1 : SAM 1 s1 s3 := sam_ts aws2_1 (sam_fm Fs3 (by decide))
  have aws3_2 : UPD 2 (x) w s1 s3 := upd_ts aws2_2 (sam_fm Fs3 (by decide))
  refine z_bipush X rfl (z_store X (lv' := [(5, .int (Int32.ofInt 6)), (0, .ref (A 3)), (1, .int (Int32.ofInt x)), (2, .ref (A 18)), (3, .int (Int32.ofInt z)), (4, .int (Int32.ofInt w))]) rfl (by decide) (fun _ h => h) (z_const X rfl (z_store X (lv' := [(6, .int (Int32.ofInt 0)), (5, .int (Int32.ofInt 6)), (0, .ref (A 3)), (1, .int (Int32.ofInt x)), (2, .ref (A 18)), (3, .int (Int32.ofInt z)), (4, .int (Int32.ofInt w))]) rfl (by decide) (fun _ h => h) (WS_pq [2, 4, 3, 5, 6, 1, 0] (lv' := [(0, .ref (A 3)), (2, .ref (A 18)), (1, .int (Int32.ofInt x)), (3, .int (Int32.ofInt z)), (4, .int (Int32.ofInt w)), (5, .int (Int32.ofInt 6)), (6, .int (Int32.ofInt 0))]) rfl (L35 ((24 - 0 : Int).toNat + 1) s3 x z w 6 0 Is3 Gs3 ⟨cwf_of (u := s1) cs1 (by first | exact p2.1 | omega) aws3_1 (sam_fm Fs1 (by decide)) aws3_2, wrq_0 hps3 aws2_SDM aws2_SDG aws2_SDP, Or.inl ⟨by first | exact rfl | omega, by first | exact rfl | omega⟩⟩ (by first | exact ⟨And.intro (by decide) (And.intro (p2.1) (And.intro (by decide) (p1.1))), And.intro (p0.1) (p0.2), And.intro (p1.1) (p1.2), And.intro (oq_0b35aa92 p2.1) (p2.2), And.intro (by decide) (by decide), by decide, by decide⟩ | exact And.intro (And.intro (rfl) (And.intro (p2.1) (And.intro (rfl) (p1.1)))) (And.intro (And.intro (p0.1) (p0.2)) (And.intro (And.intro (p1.1) (p1.2)) (And.intro (And.intro (oq_0b35aa92 p2.1) (p2.2)) (And.intro (And.intro (oq_bf9587bb) (oq_bf4a3184)) (And.intro (oq_0fe6b7e2) (oq_60c9248f)))))) | omega) (Nat.lt_succ_self _) ?_)))))
  intro s5 x6 x7 Is5 Fs5 Qs5 hs5
  exact w_vret X.1 q hRt (ax_d X (show cdA 107 153 = some (.return_, 1, 0, 0, 0) from rfl)) (Nat.zero_le _) (Nat.zero_le _) ⟨_, rfl, Is5, Fs5, rfl, Qs5⟩
end M87m
