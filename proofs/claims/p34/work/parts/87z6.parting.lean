theorem oq_037df3ae {a1 : Int} {n0 : Nat} (h0 : n0 = (a1 : Int).toNat) (h1 : (((a1 : Int).toNat : Nat) : Int) = a1) : ((n0 : Nat) : Int) < (a1 + 1) := by omega
theorem oq_76d16d9d {a0 : Int} (h0 : a0 ≤ 128) : (a0 + ((((128 - a0) : Int).toNat : Nat) : Int)) = 128 := by omega
theorem oq_0f7d4523 {n0 : Nat} (h0 : n0 < 128) : ((n0 : Nat) : Int) < 128 := by omega
theorem oq_3a421d37 {a0 : Int} {n1 : Nat} (h0 : a0 ≤ 4) (h1 : ((n1 : Nat) : Int) < a0) : n1 < 4 := by omega
theorem oq_91cae32f {a1 : Int} {n0 : Nat} (h0 : n0 = (a1 : Int).toNat) (h1 : 0 ≤ a1) : (¬ ((a1 + 1) ≤ ((n0 : Nat) : Int))) := by omega
theorem oq_bc1afbb0 {a1 : Int} {n0 : Nat} (h0 : ((n0 : Nat) : Int) < (a1 + 1)) (h1 : (¬ (n0 = (a1 : Int).toNat))) : ((n0 : Nat) : Int) < a1 := by omega
theorem oq_dee29c52 {a0 : Int} {n1 : Nat} (h0 : (a0 + 1) ≤ ((n1 : Nat) : Int)) : a0 ≤ ((n1 : Nat) : Int) := by omega
theorem oq_4d6510ff {a0 : Int} (h0 : 0 ≤ a0) : (((a0 : Int).toNat : Nat) : Int) < (a0 + 1) := by omega
theorem oq_6425aecc {a1 : Int} {n0 : Nat} (h0 : (¬ (n0 = (a1 : Int).toNat))) : (241 + n0) ≠ (241 + (a1 : Int).toNat) := by omega
theorem oq_fecfee7c {a0 a1 : Int} (h0 : a0 ≤ 3) (h1 : 0 ≤ a0) (h2 : a1 = (a0 + 1)) : (0 ≤ a1 ∧ a1 ≤ 4) := by omega
theorem oq_5173a134 {a2 a3 : Int} {n0 n1 : Nat} (h0 : n0 < 128) (h1 : ((n1 : Nat) : Int) < a2) (h2 : a3 ≤ 3) (h3 : a2 = (a3 + 1)) : ((128 * n1) + n0) < 512 := by omega
theorem oq_a7ce7eb2 {a1 a3 : Int} {n0 n2 : Nat} (h0 : n0 = (a1 : Int).toNat) (h1 : n2 < 128) (h2 : ((n0 : Nat) : Int) < a3) (h3 : a3 = (a1 + 1)) : (((a1 * 128) : Int).toNat ≤ ((128 * n0) + n2) ∧ ((128 * n0) + n2) < (((a1 * 128) : Int).toNat + 128)) := by omega
theorem oq_d172c969 {a1 a2 : Int} {n0 : Nat} (h0 : ((n0 : Nat) : Int) < a1) (h1 : a2 ≤ 3) (h2 : a1 = (a2 + 1)) : n0 < 4 := by omega
theorem oq_5b451034 {a1 a2 : Int} {n0 n3 : Nat} (h0 : n0 = (a1 : Int).toNat) (h1 : ((n0 : Nat) : Int) < a2) (h2 : a2 = (a1 + 1)) : (((128 * n0) + n3) - ((a1 * 128) : Int).toNat) = n3 := by omega
theorem oq_7b51ad3f {a1 a3 : Int} {n0 n2 : Nat} (h0 : (¬ (n0 = (a1 : Int).toNat))) (h1 : n2 < 128) (h2 : ((n0 : Nat) : Int) < a3) (h3 : a3 = (a1 + 1)) : (¬ ((((a1 * 128) : Int).toNat ≤ ((128 * n0) + n2) ∧ ((128 * n0) + n2) < (((a1 * 128) : Int).toNat + 128)))) := by omega
theorem oq_baa116a1 {a1 a2 : Int} {n0 : Nat} (h0 : (¬ (n0 = (a1 : Int).toNat))) (h1 : ((n0 : Nat) : Int) < a2) (h2 : a2 = (a1 + 1)) : ((n0 : Nat) : Int) < a1 := by omega
theorem oq_61a25aa9 {a0 : Int} (h0 : a0 < 0) : (2 = 2 ∧ (a0 < 0 ∨ 127 < a0)) := by omega
theorem oq_610eee87 {a0 : Int} (h0 : 128 ≤ a0) : (2 = 2 ∧ (a0 < 0 ∨ 127 < a0)) := by omega
theorem oq_87479ad9 {a0 a2 : Int} {n1 : Nat} (h0 : (a0 < 0 ∨ 127 < a0)) (h1 : n1 = 2) : ((n1 = 2 ∧ (a0 < 0 ∨ 127 < a0)) ∨ (n1 = 0 ∧ (0 ≤ a0 ∧ (a0 ≤ 127 ∧ (a2 < (-1) ∨ 7 < a2))))) := by omega
theorem oq_53236509 {a0 a2 : Int} {n1 : Nat} (h0 : (a0 < (-1) ∨ 7 < a0)) (h1 : n1 = 0) (h2 : a2 ≤ 127) (h3 : 0 ≤ a2) : ((n1 = 2 ∧ (a2 < 0 ∨ 127 < a2)) ∨ (n1 = 0 ∧ (0 ≤ a2 ∧ (a2 ≤ 127 ∧ (a0 < (-1) ∨ 7 < a0))))) := by omega
theorem oq_f0455503 {a0 a1 a2 a3 a4 a5 : Int} (h0 : a0 = 0) (h1 : ((1 = 1 ∧ (a1 = 0 ∧ (a2 = 2 ∧ a0 = 1))) ∨ ((1 = 0 ∨ a1 ≠ 0) ∧ (a2 = a1 ∧ ((a0 = 0 ∧ a1 = 0) ∨ (a0 = 1 ∧ a1 ≠ 0)))))) (h2 : 0 ≤ a1) (h3 : ((0 = 1 ∧ (a3 = 0 ∧ (a1 = 1 ∧ a4 = 1))) ∨ ((0 = 0 ∨ a3 ≠ 0) ∧ (a1 = a3 ∧ ((a4 = 0 ∧ a3 = 0) ∨ (a4 = 1 ∧ a3 ≠ 0)))))) (h4 : a3 = 0) : ((-1) ≤ a5 ∧ a5 ≤ 7) := by omega
theorem oq_e2ec6111 {a0 a1 a2 a3 a4 a5 : Int} (h0 : a0 = 0) (h1 : ((1 = 1 ∧ (a1 = 0 ∧ (a2 = 2 ∧ a0 = 1))) ∨ ((1 = 0 ∨ a1 ≠ 0) ∧ (a2 = a1 ∧ ((a0 = 0 ∧ a1 = 0) ∨ (a0 = 1 ∧ a1 ≠ 0)))))) (h2 : a3 = 0) (h3 : 0 ≤ a1) (h4 : ((1 = 1 ∧ (a4 = 0 ∧ (a1 = 1 ∧ a3 = 1))) ∨ ((1 = 0 ∨ a4 ≠ 0) ∧ (a1 = a4 ∧ ((a3 = 0 ∧ a4 = 0) ∨ (a3 = 1 ∧ a4 ≠ 0)))))) (h5 : a4 = 0) : ((-1) ≤ a5 ∧ a5 ≤ 7) := by omega
theorem oq_d689b218 {a0 a1 a2 a3 : Int} (h0 : a0 ≤ a1) (h1 : a2 ≤ a0) (h2 : a1 = a3) (h3 : a3 ≤ 127) (h4 : 0 ≤ a2) : (0 ≤ a0 ∧ a0 ≤ 127) := by omega
theorem oq_b2427648 {a0 a1 : Int} (h0 : a0 = a1) (h1 : a1 ≤ 127) (h2 : 0 ≤ a1) : (0 ≤ a0 ∧ a0 ≤ 127) := by omega
theorem oq_5713aa9c {a0 a1 a3 : Int} {n2 : Nat} (h0 : a0 ≤ a1) (h1 : ((128 - a0) : Int).toNat < (n2 + 1)) (h2 : a1 = a3) (h3 : a3 ≤ 127) : ((128 - (a0 + 1)) : Int).toNat < n2 := by omega
theorem oq_19df71d2 {a0 a1 : Int} (h0 : 0 ≠ 0) : a0 = a1 := by omega
theorem oq_95980327 {a0 : Int} {n1 : Nat} (h0 : 0 ≠ 0) : ((128 - (a0 + 1)) : Int).toNat < n1 := by omega
theorem oq_d7db0b16 {a0 : Int} (h0 : 1 = 0) : 0 ≤ a0 := by omega
theorem oq_2f4e35de {a0 : Int} {n1 : Nat} (h0 : 1 = 0) : ((128 - (a0 + 1)) : Int).toNat < n1 := by omega
theorem oq_8632ea07 {a0 a1 a2 : Int} (h0 : a0 ≤ a1) (h1 : 0 ≤ a0) : ((a0 = a0 ∧ (a1 = a1 ∧ a2 = a2)) ∧ ((0 ≤ 0 ∧ 0 ≤ a0) ∧ (a0 ≤ a0 ∧ a0 ≤ (a1 + 1)))) := by omega
theorem oq_44a73c79 {a0 a1 : Int} (h0 : a0 = (a1 + 1)) (h1 : a1 ≤ 127) : a0 ≤ 128 := by omega
theorem oq_d028a323 {a0 a2 a3 : Int} {n1 : Nat} (h0 : (a0 < 0 ∨ 127 < a0)) (h1 : n1 = 2) : ((n1 = 2 ∧ (a0 < 0 ∨ (127 < a0 ∨ (a2 < 0 ∨ 127 < a2)))) ∨ (n1 = 0 ∧ ((0 ≤ a0 ∧ (a0 ≤ 127 ∧ (0 ≤ a2 ∧ a2 ≤ 127))) ∧ (a3 < (-1) ∨ (7 < a3 ∨ ((a0 / 64) ≠ (a2 / 64) ∨ ((a2 % 8) < (a0 % 8) ∨ ((a2 / 8) % 8) < ((a0 / 8) % 8)))))))) := by omega
theorem oq_c8390106 {a0 a2 a3 : Int} {n1 : Nat} (h0 : (a0 < 0 ∨ 127 < a0)) (h1 : n1 = 2) : ((n1 = 2 ∧ (a2 < 0 ∨ (127 < a2 ∨ (a0 < 0 ∨ 127 < a0)))) ∨ (n1 = 0 ∧ ((0 ≤ a2 ∧ (a2 ≤ 127 ∧ (0 ≤ a0 ∧ a0 ≤ 127))) ∧ (a3 < (-1) ∨ (7 < a3 ∨ ((a2 / 64) ≠ (a0 / 64) ∨ ((a0 % 8) < (a2 % 8) ∨ ((a0 / 8) % 8) < ((a2 / 8) % 8)))))))) := by omega
theorem oq_ef4185e7 {a0 a2 a3 : Int} {n1 : Nat} (h0 : (a0 < (-1) ∨ 7 < a0)) (h1 : n1 = 0) (h2 : a2 ≤ 127) (h3 : 0 ≤ a2) (h4 : a3 ≤ 127) (h5 : 0 ≤ a3) : ((n1 = 2 ∧ (a3 < 0 ∨ (127 < a3 ∨ (a2 < 0 ∨ 127 < a2)))) ∨ (n1 = 0 ∧ ((0 ≤ a3 ∧ (a3 ≤ 127 ∧ (0 ≤ a2 ∧ a2 ≤ 127))) ∧ (a0 < (-1) ∨ (7 < a0 ∨ ((a3 / 64) ≠ (a2 / 64) ∨ ((a2 % 8) < (a3 % 8) ∨ ((a2 / 8) % 8) < ((a3 / 8) % 8)))))))) := by omega
theorem oq_71697a3a {a0 a1 a2 : Int} (h0 : (a0 / 64) ≠ (a1 / 64)) (h1 : a1 ≤ 127) (h2 : 0 ≤ a1) (h3 : a0 ≤ 127) (h4 : 0 ≤ a0) : ((0 = 2 ∧ (a0 < 0 ∨ (127 < a0 ∨ (a1 < 0 ∨ 127 < a1)))) ∨ (0 = 0 ∧ ((0 ≤ a0 ∧ (a0 ≤ 127 ∧ (0 ≤ a1 ∧ a1 ≤ 127))) ∧ (a2 < (-1) ∨ (7 < a2 ∨ ((a0 / 64) ≠ (a1 / 64) ∨ ((a1 % 8) < (a0 % 8) ∨ ((a1 / 8) % 8) < ((a0 / 8) % 8)))))))) := by omega
theorem oq_be5e2ef6 {a0 a1 a2 : Int} (h0 : (a0 % 8) < (a1 % 8)) (h1 : a0 ≤ 127) (h2 : 0 ≤ a0) (h3 : a1 ≤ 127) (h4 : 0 ≤ a1) : ((0 = 2 ∧ (a1 < 0 ∨ (127 < a1 ∨ (a0 < 0 ∨ 127 < a0)))) ∨ (0 = 0 ∧ ((0 ≤ a1 ∧ (a1 ≤ 127 ∧ (0 ≤ a0 ∧ a0 ≤ 127))) ∧ (a2 < (-1) ∨ (7 < a2 ∨ ((a1 / 64) ≠ (a0 / 64) ∨ ((a0 % 8) < (a1 % 8) ∨ ((a0 / 8) % 8) < ((a1 / 8) % 8)))))))) := by omega
theorem oq_a4d872fc {a0 a1 : Int} (h0 : a0 = (a1 / 8)) (h1 : a1 ≤ 127) (h2 : 0 ≤ a1) : (0 ≤ a0 ∧ a0 ≤ 127) := by omega
theorem oq_466819e1 {a0 a1 a2 a3 a4 a5 : Int} (h0 : a0 = 0) (h1 : ((1 = 1 ∧ (a1 = 0 ∧ (a2 = 2 ∧ a0 = 1))) ∨ ((1 = 0 ∨ a1 ≠ 0) ∧ (a2 = a1 ∧ ((a0 = 0 ∧ a1 = 0) ∨ (a0 = 1 ∧ a1 ≠ 0)))))) (h2 : a3 = 0) (h3 : 0 ≤ a1) (h4 : ((1 = 1 ∧ (a4 = 0 ∧ (a1 = 1 ∧ a3 = 1))) ∨ ((1 = 0 ∨ a4 ≠ 0) ∧ (a1 = a4 ∧ ((a3 = 0 ∧ a4 = 0) ∨ (a3 = 1 ∧ a4 ≠ 0)))))) (h5 : a4 = 0) : 0 ≤ (64 * (a5 / 64)) := by omega
theorem oq_537746fe {a0 a1 a2 a3 a4 a5 a6 a7 : Int} (h0 : a0 = 0) (h1 : ((1 = 1 ∧ (a1 = 0 ∧ (a2 = 2 ∧ a0 = 1))) ∨ ((1 = 0 ∨ a1 ≠ 0) ∧ (a2 = a1 ∧ ((a0 = 0 ∧ a1 = 0) ∨ (a0 = 1 ∧ a1 ≠ 0)))))) (h2 : a3 = 0) (h3 : 0 ≤ a1) (h4 : ((1 = 1 ∧ (a4 = 0 ∧ (a1 = 1 ∧ a3 = 1))) ∨ ((1 = 0 ∨ a4 ≠ 0) ∧ (a1 = a4 ∧ ((a3 = 0 ∧ a4 = 0) ∨ (a3 = 1 ∧ a4 ≠ 0)))))) (h5 : a4 = 0) : ((a5 = a5 ∧ (a6 = a6 ∧ a7 = a7)) ∧ (((0 ≤ a5 ∧ (a5 ≤ 127 ∧ (0 ≤ a6 ∧ a6 ≤ 127))) ∧ (((-1) ≤ a7 ∧ a7 ≤ 7) ∧ ((a5 / 64) = (a6 / 64) ∧ ((a5 % 8) ≤ (a6 % 8) ∧ ((a5 / 8) % 8) ≤ ((a6 / 8) % 8))))) ∧ ((0 ≤ 0 ∧ 0 ≤ (64 * (a5 / 64))) ∧ (((64 * (a5 / 64)) ≤ (64 * (a5 / 64)) ∧ (64 * (a5 / 64)) ≤ ((64 * (a5 / 64)) + 64)) ∧ a2 = 0)))) := by omega
theorem oq_562eb216 {a0 a1 : Int} (h0 : a0 = ((64 * (a1 / 64)) + 64)) (h1 : 0 ≤ a1) : 0 ≤ a0 := by omega
theorem oq_a55f7164 {a0 a1 a2 : Int} (h0 : a0 ≤ 7) (h1 : (-1) ≤ a0) (h2 : a1 = 0) (h3 : ((a1 = 1 ∧ ((-1) ≤ a0 ∧ a0 ≤ 7)) ∨ (a1 = 0 ∧ (a0 < (-1) ∨ 7 < a0)))) : a2 ≤ 128 := by omega
theorem oq_e6aaaeee {a0 a1 a2 : Int} (h0 : (a0 / 64) = (a1 / 64)) (h1 : (a0 / 64) ≠ (a1 / 64)) : a2 ≤ 128 := by omega
theorem oq_9e2eeb55 {a0 a1 a2 a3 a4 a5 a6 a7 : Int} (h0 : a0 ≠ 0) (h1 : ((1 = 1 ∧ (a1 = 0 ∧ (a2 = 2 ∧ a0 = 1))) ∨ ((1 = 0 ∨ a1 ≠ 0) ∧ (a2 = a1 ∧ ((a0 = 0 ∧ a1 = 0) ∨ (a0 = 1 ∧ a1 ≠ 0)))))) (h2 : a3 = 0) (h3 : 0 ≤ a1) (h4 : ((1 = 1 ∧ (a4 = 0 ∧ (a1 = 1 ∧ a3 = 1))) ∨ ((1 = 0 ∨ a4 ≠ 0) ∧ (a1 = a4 ∧ ((a3 = 0 ∧ a4 = 0) ∨ (a3 = 1 ∧ a4 ≠ 0)))))) (h5 : a4 = 0) : (((a5 < 0 ∨ (127 < a5 ∨ (a6 < 0 ∨ 127 < a6))) ∧ a2 = 1) ∨ (((0 ≤ a5 ∧ (a5 ≤ 127 ∧ (0 ≤ a6 ∧ a6 ≤ 127))) ∧ (a7 < (-1) ∨ (7 < a7 ∨ ((a5 / 64) ≠ (a6 / 64) ∨ ((a6 % 8) < (a5 % 8) ∨ ((a6 / 8) % 8) < ((a5 / 8) % 8)))))) ∧ a2 = 2)) := by omega
theorem oq_68441d5e {a0 a1 a2 : Int} (h0 : (a0 % 8) ≤ (a1 % 8)) (h1 : (a1 % 8) < (a0 % 8)) : 0 ≤ a2 := by omega
theorem oq_3eaeead8 {a0 a1 a2 : Int} (h0 : (a0 % 8) ≤ (a1 % 8)) (h1 : (a1 % 8) < (a0 % 8)) : a2 ≤ 128 := by omega
theorem oq_33669c0c {a0 a1 a2 a3 : Int} (h0 : a0 = 0) (h1 : ((1 = 1 ∧ (a1 = 0 ∧ (a2 = 1 ∧ a0 = 1))) ∨ ((1 = 0 ∨ a1 ≠ 0) ∧ (a2 = a1 ∧ ((a0 = 0 ∧ a1 = 0) ∨ (a0 = 1 ∧ a1 ≠ 0)))))) (h2 : a1 = 0) : 0 ≤ (64 * (a3 / 64)) := by omega
theorem oq_23ddef78 {a0 a1 a2 a3 a4 a5 a6 : Int} (h0 : a0 = 0) (h1 : ((1 = 1 ∧ (a1 = 0 ∧ (a2 = 1 ∧ a0 = 1))) ∨ ((1 = 0 ∨ a1 ≠ 0) ∧ (a2 = a1 ∧ ((a0 = 0 ∧ a1 = 0) ∨ (a0 = 1 ∧ a1 ≠ 0)))))) (h2 : a1 = 0) : ((a3 = a3 ∧ (a4 = a4 ∧ a5 = a5)) ∧ (((0 ≤ a3 ∧ (a3 ≤ 127 ∧ (0 ≤ a4 ∧ a4 ≤ 127))) ∧ (((-1) ≤ a5 ∧ a5 ≤ 7) ∧ ((a3 / 64) = (a4 / 64) ∧ ((a3 % 8) ≤ (a4 % 8) ∧ ((a3 / 8) % 8) ≤ ((a4 / 8) % 8))))) ∧ ((0 ≤ 0 ∧ 0 ≤ (64 * (a3 / 64))) ∧ (((64 * (a3 / 64)) ≤ (64 * (a3 / 64)) ∧ (64 * (a3 / 64)) ≤ ((64 * (a3 / 64)) + 64)) ∧ a6 = 0)))) := by omega
theorem oq_f5a74da0 {a0 a1 a2 : Int} (h0 : a0 = ((64 * (a1 / 64)) + 64)) (h1 : a1 ≤ 127) (h2 : a2 = 0) (h3 : ((a2 = 1 ∧ (0 ≤ a1 ∧ a1 ≤ 127)) ∨ (a2 = 0 ∧ (a1 < 0 ∨ 127 < a1)))) : a0 ≤ 128 := by omega
theorem oq_0d8d7510 {a0 a1 a2 : Int} (h0 : ((a0 / 8) % 8) ≤ ((a1 / 8) % 8)) (h1 : ((a1 / 8) % 8) < ((a0 / 8) % 8)) : 0 ≤ a2 := by omega
theorem oq_79156edb {a0 a1 a2 : Int} (h0 : ((a0 / 8) % 8) ≤ ((a1 / 8) % 8)) (h1 : ((a1 / 8) % 8) < ((a0 / 8) % 8)) : a2 ≤ 128 := by omega
theorem oq_852f20e8 {a0 a1 a2 a3 a4 a5 : Int} (h0 : a0 = 0) (h1 : ((1 = 1 ∧ (a1 = 0 ∧ (a2 = 2 ∧ a0 = 1))) ∨ ((1 = 0 ∨ a1 ≠ 0) ∧ (a2 = a1 ∧ ((a0 = 0 ∧ a1 = 0) ∨ (a0 = 1 ∧ a1 ≠ 0)))))) (h2 : 0 ≤ a1) (h3 : ((0 = 1 ∧ (a3 = 0 ∧ (a1 = 1 ∧ a4 = 1))) ∨ ((0 = 0 ∨ a3 ≠ 0) ∧ (a1 = a3 ∧ ((a4 = 0 ∧ a3 = 0) ∨ (a4 = 1 ∧ a3 ≠ 0)))))) (h4 : a3 = 0) : 0 ≤ (64 * (a5 / 64)) := by omega
theorem oq_e3b245c0 {a0 a1 a2 a3 a4 a5 a6 a7 : Int} (h0 : a0 = 0) (h1 : ((1 = 1 ∧ (a1 = 0 ∧ (a2 = 2 ∧ a0 = 1))) ∨ ((1 = 0 ∨ a1 ≠ 0) ∧ (a2 = a1 ∧ ((a0 = 0 ∧ a1 = 0) ∨ (a0 = 1 ∧ a1 ≠ 0)))))) (h2 : 0 ≤ a1) (h3 : ((0 = 1 ∧ (a3 = 0 ∧ (a1 = 1 ∧ a4 = 1))) ∨ ((0 = 0 ∨ a3 ≠ 0) ∧ (a1 = a3 ∧ ((a4 = 0 ∧ a3 = 0) ∨ (a4 = 1 ∧ a3 ≠ 0)))))) (h4 : a3 = 0) : ((a5 = a5 ∧ (a6 = a6 ∧ a7 = a7)) ∧ (((0 ≤ a5 ∧ (a5 ≤ 127 ∧ (0 ≤ a6 ∧ a6 ≤ 127))) ∧ (((-1) ≤ a7 ∧ a7 ≤ 7) ∧ ((a5 / 64) = (a6 / 64) ∧ ((a5 % 8) ≤ (a6 % 8) ∧ ((a5 / 8) % 8) ≤ ((a6 / 8) % 8))))) ∧ ((0 ≤ 0 ∧ 0 ≤ (64 * (a5 / 64))) ∧ (((64 * (a5 / 64)) ≤ (64 * (a5 / 64)) ∧ (64 * (a5 / 64)) ≤ ((64 * (a5 / 64)) + 64)) ∧ a2 = 0)))) := by omega
theorem oq_e586d946 {a0 a1 a2 a3 a4 a5 a6 a7 a8 a9 : Int} (h0 : a0 ≠ 0) (h1 : ((1 = 1 ∧ (a1 = 0 ∧ (a2 = 2 ∧ a0 = 1))) ∨ ((1 = 0 ∨ a1 ≠ 0) ∧ (a2 = a1 ∧ ((a0 = 0 ∧ a1 = 0) ∨ (a0 = 1 ∧ a1 ≠ 0)))))) (h2 : (a3 / 64) ≠ (a4 / 64)) (h3 : 0 ≤ a1) (h4 : ((0 = 1 ∧ (a5 = 0 ∧ (a1 = 1 ∧ a6 = 1))) ∨ ((0 = 0 ∨ a5 ≠ 0) ∧ (a1 = a5 ∧ ((a6 = 0 ∧ a5 = 0) ∨ (a6 = 1 ∧ a5 ≠ 0)))))) (h5 : a7 ≠ 0) (h6 : ((a7 = 1 ∧ (0 ≤ a4 ∧ a4 ≤ 127)) ∨ (a7 = 0 ∧ (a4 < 0 ∨ 127 < a4)))) (h7 : a8 ≠ 0) (h8 : ((a8 = 1 ∧ (0 ≤ a3 ∧ a3 ≤ 127)) ∨ (a8 = 0 ∧ (a3 < 0 ∨ 127 < a3)))) (h9 : a5 = 0) : (((a3 < 0 ∨ (127 < a3 ∨ (a4 < 0 ∨ 127 < a4))) ∧ a2 = 1) ∨ (((0 ≤ a3 ∧ (a3 ≤ 127 ∧ (0 ≤ a4 ∧ a4 ≤ 127))) ∧ (a9 < (-1) ∨ (7 < a9 ∨ ((a3 / 64) ≠ (a4 / 64) ∨ ((a4 % 8) < (a3 % 8) ∨ ((a4 / 8) % 8) < ((a3 / 8) % 8)))))) ∧ a2 = 2)) := by omega
theorem oq_f018c50e {a0 a1 a2 a3 : Int} (h0 : a0 = ((64 * (a1 / 64)) + 64)) (h1 : (a1 / 64) = (a2 / 64)) (h2 : a2 ≤ 127) (h3 : a3 = 0) (h4 : ((a3 = 1 ∧ (0 ≤ a2 ∧ a2 ≤ 127)) ∨ (a3 = 0 ∧ (a2 < 0 ∨ 127 < a2)))) : a0 ≤ 128 := by omega
theorem oq_4bf3dfa6  : (0 ≤ 0 ∧ 0 ≤ 100000) := by omega
theorem oq_3eaf4ed0 {a0 : Int} (h0 : 0 ≤ a0) (h1 : a0 < 4) : (0 ≤ (a0 * 128) ∧ (a0 * 128) ≤ 100000) := by omega
theorem oq_70e72f7c  : (0 ≤ 128 ∧ 128 ≤ 100000) := by omega
theorem oq_ef8112b5  : (0 + 128) ≤ ((128 : Nat) : Int) := by omega
theorem oq_0cb8bf40 {a0 : Int} (h0 : a0 < 4) : ((a0 * 128) + 128) ≤ ((512 : Nat) : Int) := by omega
theorem oq_c5927646 {a0 a1 a2 : Int} (h0 : 0 ≤ a0) (h1 : a0 = (a1 - 1)) (h2 : 1 ≤ a1) (h3 : 0 ≤ a2) : (((a0 * 128) + a2) : Int).toNat = ((128 * ((a1 - 1) : Int).toNat) + (a2 : Int).toNat) := by omega
theorem oq_63289793 {a0 : Int} (h0 : a0 ≤ 3) (h1 : 0 ≤ a0) : (0 ≤ a0 ∧ a0 ≤ 3) := by omega
theorem oq_f5ab1a62 {a0 a1 : Int} (h0 : a0 = 4) (h1 : a0 = a1) (h2 : a1 ≤ 4) : a1 = 4 := by omega
theorem oq_cadf0662 {a0 : Int} (h0 : a0 ≤ 4) : ((a0 - 1) : Int).toNat < 4 := by omega

theorem oq_96b0b71b {a0 a1 a2 a3 a4 : Int} (h0 : a0 ≠ 0) (h1 : ((0 = 1 ∧ (a1 = 0 ∧ (a2 = 1 ∧ a0 = 1))) ∨ ((0 = 0 ∨ a1 ≠ 0) ∧ (a2 = a1 ∧ ((a0 = 0 ∧ a1 = 0) ∨ (a0 = 1 ∧ a1 ≠ 0)))))) (h2 : a1 = 0) : (((a3 < 0 ∨ 127 < a3) ∧ a2 = 1) ∨ ((0 ≤ a3 ∧ (a3 ≤ 127 ∧ (a4 < (-1) ∨ 7 < a4))) ∧ a2 = 2)) := by omega
theorem oq_d041223a {a0 a1 : Int} (h0 : a0 ≠ 0) (h1 : ((a0 = 1 ∧ (0 ≤ a1 ∧ a1 ≤ 127)) ∨ (a0 = 0 ∧ (a1 < 0 ∨ 127 < a1)))) : a1 < 128 := by omega
theorem oq_2cca4c9a {a0 a1 : Int} (h0 : a0 ≠ 0) (h1 : ((a0 = 1 ∧ (0 ≤ a1 ∧ a1 ≤ 127)) ∨ (a0 = 0 ∧ (a1 < 0 ∨ 127 < a1)))) : (a1 : Int).toNat < 128 := by omega
theorem oq_11b2355d {a0 a1 : Int} (h0 : a0 ≠ 0) (h1 : ((a0 = 1 ∧ ((-1) ≤ a1 ∧ a1 ≤ 7)) ∨ (a0 = 0 ∧ (a1 < (-1) ∨ 7 < a1)))) : (-1) ≤ a1 := by omega
theorem oq_9bda434c {a0 a1 : Int} (h0 : a0 ≠ 0) (h1 : ((a0 = 1 ∧ ((-1) ≤ a1 ∧ a1 ≤ 7)) ∨ (a0 = 0 ∧ (a1 < (-1) ∨ 7 < a1)))) : a1 ≤ 7 := by omega
theorem oq_09803752 {a0 a1 : Int} (h0 : a0 ≠ 0) (h1 : ((a0 = 1 ∧ (0 ≤ a1 ∧ a1 ≤ 127)) ∨ (a0 = 0 ∧ (a1 < 0 ∨ 127 < a1)))) : a1 ≤ 127 := by omega
theorem oq_7d0f2b81 {a0 a1 a2 a3 a4 a5 : Int} (h0 : a0 = a1) (h1 : 0 ≤ a1) (h2 : ((0 = 1 ∧ (a2 = 0 ∧ (a1 = 2 ∧ a3 = 1))) ∨ ((0 = 0 ∨ a2 ≠ 0) ∧ (a1 = a2 ∧ ((a3 = 0 ∧ a2 = 0) ∨ (a3 = 1 ∧ a2 ≠ 0)))))) (h3 : ((0 = 1 ∧ (a4 = 0 ∧ (a2 = 1 ∧ a5 = 1))) ∨ ((0 = 0 ∨ a4 ≠ 0) ∧ (a2 = a4 ∧ ((a5 = 0 ∧ a4 = 0) ∨ (a5 = 1 ∧ a4 ≠ 0)))))) (h4 : a4 = 0) : a0 = 0 := by omega
theorem oq_242446e7 {a0 a1 a2 a3 a4 a5 a6 : Int} (h0 : a0 ≠ 0) (h1 : ((0 = 1 ∧ (a1 = 0 ∧ (a2 = 2 ∧ a0 = 1))) ∨ ((0 = 0 ∨ a1 ≠ 0) ∧ (a2 = a1 ∧ ((a0 = 0 ∧ a1 = 0) ∨ (a0 = 1 ∧ a1 ≠ 0)))))) (h2 : 0 ≤ a1) (h3 : ((0 = 1 ∧ (a3 = 0 ∧ (a1 = 1 ∧ a4 = 1))) ∨ ((0 = 0 ∨ a3 ≠ 0) ∧ (a1 = a3 ∧ ((a4 = 0 ∧ a3 = 0) ∨ (a4 = 1 ∧ a3 ≠ 0)))))) (h4 : a3 = 0) : (((a5 < 0 ∨ 127 < a5) ∧ a2 = 1) ∨ ((0 ≤ a5 ∧ (a5 ≤ 127 ∧ (a6 < (-1) ∨ 7 < a6))) ∧ a2 = 2)) := by omega
theorem oq_02216707 {a0 a1 a2 a3 a4 a5 : Int} (h0 : a0 = 0) (h1 : ((1 = 1 ∧ (a1 = 0 ∧ (a2 = 2 ∧ a0 = 1))) ∨ ((1 = 0 ∨ a1 ≠ 0) ∧ (a2 = a1 ∧ ((a0 = 0 ∧ a1 = 0) ∨ (a0 = 1 ∧ a1 ≠ 0)))))) (h2 : 0 ≤ a1) (h3 : ((0 = 1 ∧ (a3 = 0 ∧ (a1 = 1 ∧ a4 = 1))) ∨ ((0 = 0 ∨ a3 ≠ 0) ∧ (a1 = a3 ∧ ((a4 = 0 ∧ a3 = 0) ∨ (a4 = 1 ∧ a3 ≠ 0)))))) (h4 : a3 = 0) : (-1) ≤ a5 := by omega
theorem oq_4bd3f58e {a0 a1 a2 a3 a4 a5 : Int} (h0 : a0 = 0) (h1 : ((1 = 1 ∧ (a1 = 0 ∧ (a2 = 2 ∧ a0 = 1))) ∨ ((1 = 0 ∨ a1 ≠ 0) ∧ (a2 = a1 ∧ ((a0 = 0 ∧ a1 = 0) ∨ (a0 = 1 ∧ a1 ≠ 0)))))) (h2 : 0 ≤ a1) (h3 : ((0 = 1 ∧ (a3 = 0 ∧ (a1 = 1 ∧ a4 = 1))) ∨ ((0 = 0 ∨ a3 ≠ 0) ∧ (a1 = a3 ∧ ((a4 = 0 ∧ a3 = 0) ∨ (a4 = 1 ∧ a3 ≠ 0)))))) (h4 : a3 = 0) : a5 ≤ 7 := by omega
theorem oq_d8324c30 {a0 a1 a2 a3 a4 a5 : Int} (h0 : a0 = a1) (h1 : a2 = 0) (h2 : 0 ≤ a1) (h3 : ((1 = 1 ∧ (a3 = 0 ∧ (a1 = 2 ∧ a2 = 1))) ∨ ((1 = 0 ∨ a3 ≠ 0) ∧ (a1 = a3 ∧ ((a2 = 0 ∧ a3 = 0) ∨ (a2 = 1 ∧ a3 ≠ 0)))))) (h4 : ((0 = 1 ∧ (a4 = 0 ∧ (a3 = 1 ∧ a5 = 1))) ∨ ((0 = 0 ∨ a4 ≠ 0) ∧ (a3 = a4 ∧ ((a5 = 0 ∧ a4 = 0) ∨ (a5 = 1 ∧ a4 ≠ 0)))))) (h5 : a4 = 0) : a0 = 0 := by omega
theorem oq_588e89dd {a0 a1 a2 a3 a4 a5 a6 a7 a8 : Int} (h0 : a0 ≠ 0) (h1 : ((1 = 1 ∧ (a1 = 0 ∧ (a2 = 2 ∧ a0 = 1))) ∨ ((1 = 0 ∨ a1 ≠ 0) ∧ (a2 = a1 ∧ ((a0 = 0 ∧ a1 = 0) ∨ (a0 = 1 ∧ a1 ≠ 0)))))) (h2 : a3 = 0) (h3 : ((a3 = 1 ∧ ((-1) ≤ a4 ∧ a4 ≤ 7)) ∨ (a3 = 0 ∧ (a4 < (-1) ∨ 7 < a4)))) (h4 : 0 ≤ a1) (h5 : ((0 = 1 ∧ (a5 = 0 ∧ (a1 = 1 ∧ a6 = 1))) ∨ ((0 = 0 ∨ a5 ≠ 0) ∧ (a1 = a5 ∧ ((a6 = 0 ∧ a5 = 0) ∨ (a6 = 1 ∧ a5 ≠ 0)))))) (h6 : a7 ≠ 0) (h7 : ((a7 = 1 ∧ (0 ≤ a8 ∧ a8 ≤ 127)) ∨ (a7 = 0 ∧ (a8 < 0 ∨ 127 < a8)))) (h8 : a5 = 0) : (((a8 < 0 ∨ 127 < a8) ∧ a2 = 1) ∨ ((0 ≤ a8 ∧ (a8 ≤ 127 ∧ (a4 < (-1) ∨ 7 < a4))) ∧ a2 = 2)) := by omega
theorem oq_a234281b {a0 a1 a2 a3 a4 a5 : Int} (h0 : a0 ≠ 0) (h1 : ((1 = 1 ∧ (a1 = 0 ∧ (a2 = 1 ∧ a0 = 1))) ∨ ((1 = 0 ∨ a1 ≠ 0) ∧ (a2 = a1 ∧ ((a0 = 0 ∧ a1 = 0) ∨ (a0 = 1 ∧ a1 ≠ 0)))))) (h2 : a3 = 0) (h3 : ((a3 = 1 ∧ (0 ≤ a4 ∧ a4 ≤ 127)) ∨ (a3 = 0 ∧ (a4 < 0 ∨ 127 < a4)))) (h4 : a1 = 0) : (((a4 < 0 ∨ 127 < a4) ∧ a2 = 1) ∨ ((0 ≤ a4 ∧ (a4 ≤ 127 ∧ (a5 < (-1) ∨ 7 < a5))) ∧ a2 = 2)) := by omega
theorem oq_f0812281 {a0 a1 a2 a3 : Int} (h0 : a0 = 0) (h1 : ((1 = 1 ∧ (a1 = 0 ∧ (a2 = 1 ∧ a0 = 1))) ∨ ((1 = 0 ∨ a1 ≠ 0) ∧ (a2 = a1 ∧ ((a0 = 0 ∧ a1 = 0) ∨ (a0 = 1 ∧ a1 ≠ 0)))))) (h2 : a1 = 0) : a3 < 128 := by omega
theorem oq_bda6cf9e {a0 a1 a2 a3 : Int} (h0 : a0 = 0) (h1 : ((1 = 1 ∧ (a1 = 0 ∧ (a2 = 1 ∧ a0 = 1))) ∨ ((1 = 0 ∨ a1 ≠ 0) ∧ (a2 = a1 ∧ ((a0 = 0 ∧ a1 = 0) ∨ (a0 = 1 ∧ a1 ≠ 0)))))) (h2 : a1 = 0) : (a3 : Int).toNat < 128 := by omega
theorem oq_8c12aa35 {a0 a1 a2 a3 : Int} (h0 : a0 = 0) (h1 : ((1 = 1 ∧ (a1 = 0 ∧ (a2 = 1 ∧ a0 = 1))) ∨ ((1 = 0 ∨ a1 ≠ 0) ∧ (a2 = a1 ∧ ((a0 = 0 ∧ a1 = 0) ∨ (a0 = 1 ∧ a1 ≠ 0)))))) (h2 : a1 = 0) : a3 ≤ 127 := by omega
theorem oq_fa275550 {a0 a1 a2 a3 a4 a5 : Int} (h0 : a0 = a1) (h1 : 0 ≤ a1) (h2 : ((0 = 1 ∧ (a2 = 0 ∧ (a1 = 2 ∧ a3 = 1))) ∨ ((0 = 0 ∨ a2 ≠ 0) ∧ (a1 = a2 ∧ ((a3 = 0 ∧ a2 = 0) ∨ (a3 = 1 ∧ a2 ≠ 0)))))) (h3 : a4 = 0) (h4 : ((1 = 1 ∧ (a5 = 0 ∧ (a2 = 1 ∧ a4 = 1))) ∨ ((1 = 0 ∨ a5 ≠ 0) ∧ (a2 = a5 ∧ ((a4 = 0 ∧ a5 = 0) ∨ (a4 = 1 ∧ a5 ≠ 0)))))) (h5 : a5 = 0) : a0 = 0 := by omega
theorem oq_0b5f3ee3 {a0 a1 a2 a3 a4 a5 a6 : Int} (h0 : a0 ≠ 0) (h1 : ((0 = 1 ∧ (a1 = 0 ∧ (a2 = 2 ∧ a0 = 1))) ∨ ((0 = 0 ∨ a1 ≠ 0) ∧ (a2 = a1 ∧ ((a0 = 0 ∧ a1 = 0) ∨ (a0 = 1 ∧ a1 ≠ 0)))))) (h2 : a3 = 0) (h3 : 0 ≤ a1) (h4 : ((1 = 1 ∧ (a4 = 0 ∧ (a1 = 1 ∧ a3 = 1))) ∨ ((1 = 0 ∨ a4 ≠ 0) ∧ (a1 = a4 ∧ ((a3 = 0 ∧ a4 = 0) ∨ (a3 = 1 ∧ a4 ≠ 0)))))) (h5 : a4 = 0) : (((a5 < 0 ∨ 127 < a5) ∧ a2 = 1) ∨ ((0 ≤ a5 ∧ (a5 ≤ 127 ∧ (a6 < (-1) ∨ 7 < a6))) ∧ a2 = 2)) := by omega
theorem oq_7bca4f44 {a0 a1 a2 a3 a4 a5 : Int} (h0 : a0 = 0) (h1 : ((1 = 1 ∧ (a1 = 0 ∧ (a2 = 2 ∧ a0 = 1))) ∨ ((1 = 0 ∨ a1 ≠ 0) ∧ (a2 = a1 ∧ ((a0 = 0 ∧ a1 = 0) ∨ (a0 = 1 ∧ a1 ≠ 0)))))) (h2 : a3 = 0) (h3 : 0 ≤ a1) (h4 : ((1 = 1 ∧ (a4 = 0 ∧ (a1 = 1 ∧ a3 = 1))) ∨ ((1 = 0 ∨ a4 ≠ 0) ∧ (a1 = a4 ∧ ((a3 = 0 ∧ a4 = 0) ∨ (a3 = 1 ∧ a4 ≠ 0)))))) (h5 : a4 = 0) : 0 ≤ a5 := by omega
theorem oq_02757110 {a0 a1 a2 a3 a4 a5 : Int} (h0 : a0 = 0) (h1 : ((1 = 1 ∧ (a1 = 0 ∧ (a2 = 2 ∧ a0 = 1))) ∨ ((1 = 0 ∨ a1 ≠ 0) ∧ (a2 = a1 ∧ ((a0 = 0 ∧ a1 = 0) ∨ (a0 = 1 ∧ a1 ≠ 0)))))) (h2 : a3 = 0) (h3 : 0 ≤ a1) (h4 : ((1 = 1 ∧ (a4 = 0 ∧ (a1 = 1 ∧ a3 = 1))) ∨ ((1 = 0 ∨ a4 ≠ 0) ∧ (a1 = a4 ∧ ((a3 = 0 ∧ a4 = 0) ∨ (a3 = 1 ∧ a4 ≠ 0)))))) (h5 : a4 = 0) : a5 < 128 := by omega
theorem oq_b15e11a6 {a0 a1 a2 a3 a4 a5 : Int} (h0 : a0 = 0) (h1 : ((1 = 1 ∧ (a1 = 0 ∧ (a2 = 2 ∧ a0 = 1))) ∨ ((1 = 0 ∨ a1 ≠ 0) ∧ (a2 = a1 ∧ ((a0 = 0 ∧ a1 = 0) ∨ (a0 = 1 ∧ a1 ≠ 0)))))) (h2 : a3 = 0) (h3 : 0 ≤ a1) (h4 : ((1 = 1 ∧ (a4 = 0 ∧ (a1 = 1 ∧ a3 = 1))) ∨ ((1 = 0 ∨ a4 ≠ 0) ∧ (a1 = a4 ∧ ((a3 = 0 ∧ a4 = 0) ∨ (a3 = 1 ∧ a4 ≠ 0)))))) (h5 : a4 = 0) : (a5 : Int).toNat < 128 := by omega
theorem oq_3b413d69 {a0 a1 a2 a3 a4 a5 : Int} (h0 : a0 = 0) (h1 : ((1 = 1 ∧ (a1 = 0 ∧ (a2 = 2 ∧ a0 = 1))) ∨ ((1 = 0 ∨ a1 ≠ 0) ∧ (a2 = a1 ∧ ((a0 = 0 ∧ a1 = 0) ∨ (a0 = 1 ∧ a1 ≠ 0)))))) (h2 : a3 = 0) (h3 : 0 ≤ a1) (h4 : ((1 = 1 ∧ (a4 = 0 ∧ (a1 = 1 ∧ a3 = 1))) ∨ ((1 = 0 ∨ a4 ≠ 0) ∧ (a1 = a4 ∧ ((a3 = 0 ∧ a4 = 0) ∨ (a3 = 1 ∧ a4 ≠ 0)))))) (h5 : a4 = 0) : (-1) ≤ a5 := by omega
theorem oq_9ed0cc03 {a0 a1 a2 a3 a4 a5 : Int} (h0 : a0 = 0) (h1 : ((1 = 1 ∧ (a1 = 0 ∧ (a2 = 2 ∧ a0 = 1))) ∨ ((1 = 0 ∨ a1 ≠ 0) ∧ (a2 = a1 ∧ ((a0 = 0 ∧ a1 = 0) ∨ (a0 = 1 ∧ a1 ≠ 0)))))) (h2 : a3 = 0) (h3 : 0 ≤ a1) (h4 : ((1 = 1 ∧ (a4 = 0 ∧ (a1 = 1 ∧ a3 = 1))) ∨ ((1 = 0 ∨ a4 ≠ 0) ∧ (a1 = a4 ∧ ((a3 = 0 ∧ a4 = 0) ∨ (a3 = 1 ∧ a4 ≠ 0)))))) (h5 : a4 = 0) : a5 ≤ 7 := by omega
theorem oq_8960f5c7 {a0 a1 a2 a3 a4 a5 : Int} (h0 : a0 = 0) (h1 : ((1 = 1 ∧ (a1 = 0 ∧ (a2 = 2 ∧ a0 = 1))) ∨ ((1 = 0 ∨ a1 ≠ 0) ∧ (a2 = a1 ∧ ((a0 = 0 ∧ a1 = 0) ∨ (a0 = 1 ∧ a1 ≠ 0)))))) (h2 : a3 = 0) (h3 : 0 ≤ a1) (h4 : ((1 = 1 ∧ (a4 = 0 ∧ (a1 = 1 ∧ a3 = 1))) ∨ ((1 = 0 ∨ a4 ≠ 0) ∧ (a1 = a4 ∧ ((a3 = 0 ∧ a4 = 0) ∨ (a3 = 1 ∧ a4 ≠ 0)))))) (h5 : a4 = 0) : a5 ≤ 127 := by omega
theorem oq_559236d4 {a0 a1 a2 a3 a4 a5 : Int} (h0 : a0 = a1) (h1 : a2 = 0) (h2 : 0 ≤ a1) (h3 : ((1 = 1 ∧ (a3 = 0 ∧ (a1 = 2 ∧ a2 = 1))) ∨ ((1 = 0 ∨ a3 ≠ 0) ∧ (a1 = a3 ∧ ((a2 = 0 ∧ a3 = 0) ∨ (a2 = 1 ∧ a3 ≠ 0)))))) (h4 : a4 = 0) (h5 : ((1 = 1 ∧ (a5 = 0 ∧ (a3 = 1 ∧ a4 = 1))) ∨ ((1 = 0 ∨ a5 ≠ 0) ∧ (a3 = a5 ∧ ((a4 = 0 ∧ a5 = 0) ∨ (a4 = 1 ∧ a5 ≠ 0)))))) (h6 : a5 = 0) : a0 = 0 := by omega
theorem oq_e62f42ed {a0 a1 a2 a3 a4 a5 : Int} (h0 : a0 = 0) (h1 : ((1 = 1 ∧ (a1 = 0 ∧ (a2 = 1 ∧ a0 = 1))) ∨ ((1 = 0 ∨ a1 ≠ 0) ∧ (a2 = a1 ∧ ((a0 = 0 ∧ a1 = 0) ∨ (a0 = 1 ∧ a1 ≠ 0)))))) (h2 : a1 = 0) : (((a3 < 0 ∨ 127 < a3) ∧ a4 = 1) ∨ ((0 ≤ a3 ∧ (a3 ≤ 127 ∧ (a5 < (-1) ∨ 7 < a5))) ∧ a4 = 2)) := by omega
theorem oq_b50efd5d {a0 a1 : Int} (h0 : a0 ≤ (a1 + 1)) (h1 : a1 ≤ 127) : a0 ≤ 2147483647 := by omega
theorem oq_8093112e {a0 a1 : Int} (h0 : a0 = a1) (h1 : a1 ≤ 127) : a0 ≤ 2147483647 := by omega
theorem oq_e3e9adc4 {a0 a1 a2 : Int} (h0 : a0 ≤ a1) (h1 : a1 = a2) (h2 : a2 ≤ 127) : 0 < (128 - a0) := by omega
theorem oq_8b3d94f6 {a0 a1 a2 : Int} (h0 : a0 ≤ a1) (h1 : a1 = a2) (h2 : a2 ≤ 127) : a0 ≤ 127 := by omega
theorem oq_65661d22 {a0 a1 : Int} (h0 : a0 = a1) (h1 : (-1) ≤ a1) : (-1) ≤ a0 := by omega
theorem oq_709dc04f {a0 a1 : Int} (h0 : a0 = a1) (h1 : (-1) ≤ a1) : (-2147483648) ≤ a0 := by omega
theorem oq_b2f566bc {a0 a1 : Int} (h0 : a0 = a1) (h1 : a1 ≤ 7) : a0 ≤ 2147483647 := by omega
theorem oq_630dfc21 {a0 a1 a2 : Int} (h0 : a0 ≤ a1) (h1 : a1 = (a2 + 1)) (h2 : a2 ≤ 127) : a0 ≤ 2147483647 := by omega
theorem oq_3e4a24c6 {a0 a1 : Int} (h0 : 0 ≤ a0) (h1 : a1 = a0) : (-2147483648) ≤ ((64 * (a1 / 64)) + 64) := by omega
theorem oq_5fd7680f {a0 a1 : Int} (h0 : a0 ≤ 127) (h1 : a1 = a0) : ((64 * (a1 / 64)) + 64) ≤ 2147483647 := by omega
theorem oq_47d8c7b8 {a0 a1 : Int} (h0 : a0 ≤ ((64 * (a1 / 64)) + 64)) (h1 : a1 ≤ 127) : (a0 / 8) ≤ 2147483647 := by omega
theorem oq_e73cc6ab {a0 a1 : Int} (h0 : 0 ≤ a0) (h1 : a1 = a0) : 0 ≤ (a1 / 8) := by omega
theorem oq_7a924152 {a0 a1 : Int} (h0 : 0 ≤ a0) (h1 : a1 = a0) : (-2147483648) ≤ (a1 / 8) := by omega
theorem oq_8b559516 {a0 a1 : Int} (h0 : a0 ≤ 127) (h1 : a1 = a0) : (a1 / 8) ≤ 2147483647 := by omega
theorem oq_2d12af5e {a0 a1 : Int} (h0 : a0 = a1) (h1 : (-1) ≤ a0) : (-1) ≤ a1 := by omega
theorem oq_5f8273e9 {a0 a1 : Int} (h0 : a0 = a1) (h1 : a0 ≤ 7) : a1 ≤ 7 := by omega
theorem oq_86c5c068 {a0 a1 : Int} (h0 : a0 = a1) (h1 : (-1) ≤ a0) : (-2147483648) ≤ a1 := by omega
theorem oq_07478d3a {a0 a1 : Int} (h0 : a0 = a1) (h1 : a0 ≤ 7) : a1 ≤ 2147483647 := by omega
theorem oq_e43b399a {a0 a1 a2 a3 a4 a5 a6 : Int} (h0 : a0 ≠ 0) (h1 : ((1 = 1 ∧ (a1 = 0 ∧ (a2 = 1 ∧ a0 = 1))) ∨ ((1 = 0 ∨ a1 ≠ 0) ∧ (a2 = a1 ∧ ((a0 = 0 ∧ a1 = 0) ∨ (a0 = 1 ∧ a1 ≠ 0)))))) (h2 : a3 = 0) (h3 : ((a3 = 1 ∧ (0 ≤ a4 ∧ a4 ≤ 127)) ∨ (a3 = 0 ∧ (a4 < 0 ∨ 127 < a4)))) (h4 : a1 = 0) : (((a4 < 0 ∨ (127 < a4 ∨ (a5 < 0 ∨ 127 < a5))) ∧ a2 = 1) ∨ (((0 ≤ a4 ∧ (a4 ≤ 127 ∧ (0 ≤ a5 ∧ a5 ≤ 127))) ∧ (a6 < (-1) ∨ (7 < a6 ∨ ((a4 / 64) ≠ (a5 / 64) ∨ ((a5 % 8) < (a4 % 8) ∨ ((a5 / 8) % 8) < ((a4 / 8) % 8)))))) ∧ a2 = 2)) := by omega
theorem oq_3b5755f7 {a0 a1 a2 a3 a4 a5 a6 a7 : Int} (h0 : a0 = 0) (h1 : ((1 = 1 ∧ (a1 = 0 ∧ (a2 = 2 ∧ a0 = 1))) ∨ ((1 = 0 ∨ a1 ≠ 0) ∧ (a2 = a1 ∧ ((a0 = 0 ∧ a1 = 0) ∨ (a0 = 1 ∧ a1 ≠ 0)))))) (h2 : a3 = 0) (h3 : 0 ≤ a1) (h4 : ((1 = 1 ∧ (a4 = 0 ∧ (a1 = 1 ∧ a3 = 1))) ∨ ((1 = 0 ∨ a4 ≠ 0) ∧ (a1 = a4 ∧ ((a3 = 0 ∧ a4 = 0) ∨ (a3 = 1 ∧ a4 ≠ 0)))))) (h5 : a4 = 0) : ((0 ≤ a5 ∧ (a5 ≤ 127 ∧ (0 ≤ a6 ∧ a6 ≤ 127))) ∧ (((-1) ≤ a7 ∧ a7 ≤ 7) ∧ ((a5 / 64) = (a6 / 64) ∧ ((a5 % 8) ≤ (a6 % 8) ∧ ((a5 / 8) % 8) ≤ ((a6 / 8) % 8))))) := by omega
theorem oq_60648b5f {a0 a1 a2 a3 a4 a5 : Int} (h0 : a0 = 0) (h1 : ((1 = 1 ∧ (a1 = 0 ∧ (a2 = 2 ∧ a0 = 1))) ∨ ((1 = 0 ∨ a1 ≠ 0) ∧ (a2 = a1 ∧ ((a0 = 0 ∧ a1 = 0) ∨ (a0 = 1 ∧ a1 ≠ 0)))))) (h2 : a3 = 0) (h3 : 0 ≤ a1) (h4 : ((1 = 1 ∧ (a4 = 0 ∧ (a1 = 1 ∧ a3 = 1))) ∨ ((1 = 0 ∨ a4 ≠ 0) ∧ (a1 = a4 ∧ ((a3 = 0 ∧ a4 = 0) ∨ (a3 = 1 ∧ a4 ≠ 0)))))) (h5 : a4 = 0) : (0 ≤ 0 ∧ 0 ≤ (64 * (a5 / 64))) := by omega
theorem oq_7ef9130d {a0 a1 a2 a3 a4 : Int} (h0 : a0 = 0) (h1 : 0 ≤ a1) (h2 : ((1 = 1 ∧ (a2 = 0 ∧ (a1 = 2 ∧ a0 = 1))) ∨ ((1 = 0 ∨ a2 ≠ 0) ∧ (a1 = a2 ∧ ((a0 = 0 ∧ a2 = 0) ∨ (a0 = 1 ∧ a2 ≠ 0)))))) (h3 : a3 = 0) (h4 : ((1 = 1 ∧ (a4 = 0 ∧ (a2 = 1 ∧ a3 = 1))) ∨ ((1 = 0 ∨ a4 ≠ 0) ∧ (a2 = a4 ∧ ((a3 = 0 ∧ a4 = 0) ∨ (a3 = 1 ∧ a4 ≠ 0)))))) (h5 : a4 = 0) : a1 = 0 := by omega
theorem oq_ba739599 {a0 a1 a2 : Int} (h0 : a0 = ((64 * (a1 / 64)) + 64)) (h1 : a2 ≤ a0) (h2 : a1 ≤ 127) : a2 ≤ 2147483647 := by omega
theorem oq_adc32970 {a0 a1 a2 a3 a4 a5 a6 : Int} (h0 : a0 = 0) (h1 : ((1 = 1 ∧ (a1 = 0 ∧ (a2 = 1 ∧ a0 = 1))) ∨ ((1 = 0 ∨ a1 ≠ 0) ∧ (a2 = a1 ∧ ((a0 = 0 ∧ a1 = 0) ∨ (a0 = 1 ∧ a1 ≠ 0)))))) (h2 : a1 = 0) : (((a3 < 0 ∨ (127 < a3 ∨ (a4 < 0 ∨ 127 < a4))) ∧ a5 = 1) ∨ (((0 ≤ a3 ∧ (a3 ≤ 127 ∧ (0 ≤ a4 ∧ a4 ≤ 127))) ∧ (a6 < (-1) ∨ (7 < a6 ∨ ((a3 / 64) ≠ (a4 / 64) ∨ ((a4 % 8) < (a3 % 8) ∨ ((a4 / 8) % 8) < ((a3 / 8) % 8)))))) ∧ a5 = 2)) := by omega
theorem oq_ddbc3879 {a0 a1 a2 a3 : Int} (h0 : a0 = 0) (h1 : ((1 = 1 ∧ (a1 = 0 ∧ (a2 = 1 ∧ a0 = 1))) ∨ ((1 = 0 ∨ a1 ≠ 0) ∧ (a2 = a1 ∧ ((a0 = 0 ∧ a1 = 0) ∨ (a0 = 1 ∧ a1 ≠ 0)))))) (h2 : a1 = 0) : 0 ≤ (a3 / 8) := by omega
theorem oq_5d07a74c {a0 a1 a2 a3 a4 a5 : Int} (h0 : a0 = 0) (h1 : ((1 = 1 ∧ (a1 = 0 ∧ (a2 = 1 ∧ a0 = 1))) ∨ ((1 = 0 ∨ a1 ≠ 0) ∧ (a2 = a1 ∧ ((a0 = 0 ∧ a1 = 0) ∨ (a0 = 1 ∧ a1 ≠ 0)))))) (h2 : a1 = 0) : ((0 ≤ a3 ∧ (a3 ≤ 127 ∧ (0 ≤ a4 ∧ a4 ≤ 127))) ∧ (((-1) ≤ a5 ∧ a5 ≤ 7) ∧ ((a3 / 64) = (a4 / 64) ∧ ((a3 % 8) ≤ (a4 % 8) ∧ ((a3 / 8) % 8) ≤ ((a4 / 8) % 8))))) := by omega
theorem oq_bf521bfa {a0 a1 a2 a3 : Int} (h0 : a0 = 0) (h1 : ((1 = 1 ∧ (a1 = 0 ∧ (a2 = 1 ∧ a0 = 1))) ∨ ((1 = 0 ∨ a1 ≠ 0) ∧ (a2 = a1 ∧ ((a0 = 0 ∧ a1 = 0) ∨ (a0 = 1 ∧ a1 ≠ 0)))))) (h2 : a1 = 0) : (0 ≤ 0 ∧ 0 ≤ (64 * (a3 / 64))) := by omega
theorem oq_1b47d00d {a0 a1 a2 a3 a4 : Int} (h0 : 0 ≤ a0) (h1 : ((0 = 1 ∧ (a1 = 0 ∧ (a0 = 2 ∧ a2 = 1))) ∨ ((0 = 0 ∨ a1 ≠ 0) ∧ (a0 = a1 ∧ ((a2 = 0 ∧ a1 = 0) ∨ (a2 = 1 ∧ a1 ≠ 0)))))) (h2 : a3 = 0) (h3 : ((1 = 1 ∧ (a4 = 0 ∧ (a1 = 1 ∧ a3 = 1))) ∨ ((1 = 0 ∨ a4 ≠ 0) ∧ (a1 = a4 ∧ ((a3 = 0 ∧ a4 = 0) ∨ (a3 = 1 ∧ a4 ≠ 0)))))) (h4 : a4 = 0) : a0 = 0 := by omega
theorem oq_14215017 {a0 a1 a2 a3 a4 a5 a6 a7 : Int} (h0 : a0 ≠ 0) (h1 : ((0 = 1 ∧ (a1 = 0 ∧ (a2 = 2 ∧ a0 = 1))) ∨ ((0 = 0 ∨ a1 ≠ 0) ∧ (a2 = a1 ∧ ((a0 = 0 ∧ a1 = 0) ∨ (a0 = 1 ∧ a1 ≠ 0)))))) (h2 : a3 = 0) (h3 : 0 ≤ a1) (h4 : ((1 = 1 ∧ (a4 = 0 ∧ (a1 = 1 ∧ a3 = 1))) ∨ ((1 = 0 ∨ a4 ≠ 0) ∧ (a1 = a4 ∧ ((a3 = 0 ∧ a4 = 0) ∨ (a3 = 1 ∧ a4 ≠ 0)))))) (h5 : a4 = 0) : (((a5 < 0 ∨ (127 < a5 ∨ (a6 < 0 ∨ 127 < a6))) ∧ a2 = 1) ∨ (((0 ≤ a5 ∧ (a5 ≤ 127 ∧ (0 ≤ a6 ∧ a6 ≤ 127))) ∧ (a7 < (-1) ∨ (7 < a7 ∨ ((a5 / 64) ≠ (a6 / 64) ∨ ((a6 % 8) < (a5 % 8) ∨ ((a6 / 8) % 8) < ((a5 / 8) % 8)))))) ∧ a2 = 2)) := by omega
theorem oq_2f30b211 {a0 a1 a2 a3 a4 a5 : Int} (h0 : a0 ≠ 0) (h1 : ((0 = 1 ∧ (a1 = 0 ∧ (a2 = 1 ∧ a0 = 1))) ∨ ((0 = 0 ∨ a1 ≠ 0) ∧ (a2 = a1 ∧ ((a0 = 0 ∧ a1 = 0) ∨ (a0 = 1 ∧ a1 ≠ 0)))))) (h2 : a1 = 0) : (((a3 < 0 ∨ (127 < a3 ∨ (a4 < 0 ∨ 127 < a4))) ∧ a2 = 1) ∨ (((0 ≤ a3 ∧ (a3 ≤ 127 ∧ (0 ≤ a4 ∧ a4 ≤ 127))) ∧ (a5 < (-1) ∨ (7 < a5 ∨ ((a3 / 64) ≠ (a4 / 64) ∨ ((a4 % 8) < (a3 % 8) ∨ ((a4 / 8) % 8) < ((a3 / 8) % 8)))))) ∧ a2 = 2)) := by omega
theorem oq_f827cc9d {a0 a1 a2 a3 a4 a5 a6 a7 : Int} (h0 : a0 = 0) (h1 : ((1 = 1 ∧ (a1 = 0 ∧ (a2 = 2 ∧ a0 = 1))) ∨ ((1 = 0 ∨ a1 ≠ 0) ∧ (a2 = a1 ∧ ((a0 = 0 ∧ a1 = 0) ∨ (a0 = 1 ∧ a1 ≠ 0)))))) (h2 : 0 ≤ a1) (h3 : ((0 = 1 ∧ (a3 = 0 ∧ (a1 = 1 ∧ a4 = 1))) ∨ ((0 = 0 ∨ a3 ≠ 0) ∧ (a1 = a3 ∧ ((a4 = 0 ∧ a3 = 0) ∨ (a4 = 1 ∧ a3 ≠ 0)))))) (h4 : a3 = 0) : ((0 ≤ a5 ∧ (a5 ≤ 127 ∧ (0 ≤ a6 ∧ a6 ≤ 127))) ∧ (((-1) ≤ a7 ∧ a7 ≤ 7) ∧ ((a5 / 64) = (a6 / 64) ∧ ((a5 % 8) ≤ (a6 % 8) ∧ ((a5 / 8) % 8) ≤ ((a6 / 8) % 8))))) := by omega
theorem oq_94dce2ce {a0 a1 a2 a3 a4 a5 : Int} (h0 : a0 = 0) (h1 : ((1 = 1 ∧ (a1 = 0 ∧ (a2 = 2 ∧ a0 = 1))) ∨ ((1 = 0 ∨ a1 ≠ 0) ∧ (a2 = a1 ∧ ((a0 = 0 ∧ a1 = 0) ∨ (a0 = 1 ∧ a1 ≠ 0)))))) (h2 : 0 ≤ a1) (h3 : ((0 = 1 ∧ (a3 = 0 ∧ (a1 = 1 ∧ a4 = 1))) ∨ ((0 = 0 ∨ a3 ≠ 0) ∧ (a1 = a3 ∧ ((a4 = 0 ∧ a3 = 0) ∨ (a4 = 1 ∧ a3 ≠ 0)))))) (h4 : a3 = 0) : (0 ≤ 0 ∧ 0 ≤ (64 * (a5 / 64))) := by omega
theorem oq_fb4755ef {a0 a1 a2 a3 a4 : Int} (h0 : a0 = 0) (h1 : 0 ≤ a1) (h2 : ((1 = 1 ∧ (a2 = 0 ∧ (a1 = 2 ∧ a0 = 1))) ∨ ((1 = 0 ∨ a2 ≠ 0) ∧ (a1 = a2 ∧ ((a0 = 0 ∧ a2 = 0) ∨ (a0 = 1 ∧ a2 ≠ 0)))))) (h3 : ((0 = 1 ∧ (a3 = 0 ∧ (a2 = 1 ∧ a4 = 1))) ∨ ((0 = 0 ∨ a3 ≠ 0) ∧ (a2 = a3 ∧ ((a4 = 0 ∧ a3 = 0) ∨ (a4 = 1 ∧ a3 ≠ 0)))))) (h4 : a3 = 0) : a1 = 0 := by omega
theorem oq_85cd635c {a0 a1 a2 a3 a4 a5 a6 a7 a8 a9 a10 : Int} (h0 : a0 ≠ 0) (h1 : ((1 = 1 ∧ (a1 = 0 ∧ (a2 = 2 ∧ a0 = 1))) ∨ ((1 = 0 ∨ a1 ≠ 0) ∧ (a2 = a1 ∧ ((a0 = 0 ∧ a1 = 0) ∨ (a0 = 1 ∧ a1 ≠ 0)))))) (h2 : a3 = 0) (h3 : ((a3 = 1 ∧ ((-1) ≤ a4 ∧ a4 ≤ 7)) ∨ (a3 = 0 ∧ (a4 < (-1) ∨ 7 < a4)))) (h4 : 0 ≤ a1) (h5 : ((0 = 1 ∧ (a5 = 0 ∧ (a1 = 1 ∧ a6 = 1))) ∨ ((0 = 0 ∨ a5 ≠ 0) ∧ (a1 = a5 ∧ ((a6 = 0 ∧ a5 = 0) ∨ (a6 = 1 ∧ a5 ≠ 0)))))) (h6 : a7 ≠ 0) (h7 : ((a7 = 1 ∧ (0 ≤ a8 ∧ a8 ≤ 127)) ∨ (a7 = 0 ∧ (a8 < 0 ∨ 127 < a8)))) (h8 : a9 ≠ 0) (h9 : ((a9 = 1 ∧ (0 ≤ a10 ∧ a10 ≤ 127)) ∨ (a9 = 0 ∧ (a10 < 0 ∨ 127 < a10)))) (h10 : a5 = 0) : (((a10 < 0 ∨ (127 < a10 ∨ (a8 < 0 ∨ 127 < a8))) ∧ a2 = 1) ∨ (((0 ≤ a10 ∧ (a10 ≤ 127 ∧ (0 ≤ a8 ∧ a8 ≤ 127))) ∧ (a4 < (-1) ∨ (7 < a4 ∨ ((a10 / 64) ≠ (a8 / 64) ∨ ((a8 % 8) < (a10 % 8) ∨ ((a8 / 8) % 8) < ((a10 / 8) % 8)))))) ∧ a2 = 2)) := by omega
theorem oq_ea342497 {a0 a1 a2 a3 a4 a5 a6 a7 a8 a9 : Int} (h0 : a0 ≠ 0) (h1 : ((1 = 1 ∧ (a1 = 0 ∧ (a2 = 2 ∧ a0 = 1))) ∨ ((1 = 0 ∨ a1 ≠ 0) ∧ (a2 = a1 ∧ ((a0 = 0 ∧ a1 = 0) ∨ (a0 = 1 ∧ a1 ≠ 0)))))) (h2 : (a3 % 8) < (a4 % 8)) (h3 : 0 ≤ a1) (h4 : ((0 = 1 ∧ (a5 = 0 ∧ (a1 = 1 ∧ a6 = 1))) ∨ ((0 = 0 ∨ a5 ≠ 0) ∧ (a1 = a5 ∧ ((a6 = 0 ∧ a5 = 0) ∨ (a6 = 1 ∧ a5 ≠ 0)))))) (h5 : a7 ≠ 0) (h6 : ((a7 = 1 ∧ (0 ≤ a3 ∧ a3 ≤ 127)) ∨ (a7 = 0 ∧ (a3 < 0 ∨ 127 < a3)))) (h7 : a8 ≠ 0) (h8 : ((a8 = 1 ∧ (0 ≤ a4 ∧ a4 ≤ 127)) ∨ (a8 = 0 ∧ (a4 < 0 ∨ 127 < a4)))) (h9 : a5 = 0) : (((a4 < 0 ∨ (127 < a4 ∨ (a3 < 0 ∨ 127 < a3))) ∧ a2 = 1) ∨ (((0 ≤ a4 ∧ (a4 ≤ 127 ∧ (0 ≤ a3 ∧ a3 ≤ 127))) ∧ (a9 < (-1) ∨ (7 < a9 ∨ ((a4 / 64) ≠ (a3 / 64) ∨ ((a3 % 8) < (a4 % 8) ∨ ((a3 / 8) % 8) < ((a4 / 8) % 8)))))) ∧ a2 = 2)) := by omega
theorem oq_9639b5e6 {a0 a1 a2 a3 a4 a5 : Int} (h0 : ((a0 / 8) % 8) ≤ ((a1 / 8) % 8)) (h1 : (a0 % 8) ≤ (a1 % 8)) (h2 : (a0 / 64) = (a1 / 64)) (h3 : a2 ≠ 0) (h4 : ((a2 = 1 ∧ ((-1) ≤ a3 ∧ a3 ≤ 7)) ∨ (a2 = 0 ∧ (a3 < (-1) ∨ 7 < a3)))) (h5 : a4 ≠ 0) (h6 : ((a4 = 1 ∧ (0 ≤ a1 ∧ a1 ≤ 127)) ∨ (a4 = 0 ∧ (a1 < 0 ∨ 127 < a1)))) (h7 : a5 ≠ 0) (h8 : ((a5 = 1 ∧ (0 ≤ a0 ∧ a0 ≤ 127)) ∨ (a5 = 0 ∧ (a0 < 0 ∨ 127 < a0)))) : ((0 ≤ a0 ∧ (a0 ≤ 127 ∧ (0 ≤ a1 ∧ a1 ≤ 127))) ∧ (((-1) ≤ a3 ∧ a3 ≤ 7) ∧ ((a0 / 64) = (a1 / 64) ∧ ((a0 % 8) ≤ (a1 % 8) ∧ ((a0 / 8) % 8) ≤ ((a1 / 8) % 8))))) := by omega
theorem oq_c542437d {a0 a1 a2 a3 a4 : Int} (h0 : 0 ≤ a0) (h1 : ((0 = 1 ∧ (a1 = 0 ∧ (a0 = 2 ∧ a2 = 1))) ∨ ((0 = 0 ∨ a1 ≠ 0) ∧ (a0 = a1 ∧ ((a2 = 0 ∧ a1 = 0) ∨ (a2 = 1 ∧ a1 ≠ 0)))))) (h2 : ((0 = 1 ∧ (a3 = 0 ∧ (a1 = 1 ∧ a4 = 1))) ∨ ((0 = 0 ∨ a3 ≠ 0) ∧ (a1 = a3 ∧ ((a4 = 0 ∧ a3 = 0) ∨ (a4 = 1 ∧ a3 ≠ 0)))))) (h3 : a3 = 0) : a0 = 0 := by omega
theorem oq_9f99b3a7 {a0 a1 a2 a3 a4 a5 a6 a7 : Int} (h0 : a0 ≠ 0) (h1 : ((0 = 1 ∧ (a1 = 0 ∧ (a2 = 2 ∧ a0 = 1))) ∨ ((0 = 0 ∨ a1 ≠ 0) ∧ (a2 = a1 ∧ ((a0 = 0 ∧ a1 = 0) ∨ (a0 = 1 ∧ a1 ≠ 0)))))) (h2 : 0 ≤ a1) (h3 : ((0 = 1 ∧ (a3 = 0 ∧ (a1 = 1 ∧ a4 = 1))) ∨ ((0 = 0 ∨ a3 ≠ 0) ∧ (a1 = a3 ∧ ((a4 = 0 ∧ a3 = 0) ∨ (a4 = 1 ∧ a3 ≠ 0)))))) (h4 : a3 = 0) : (((a5 < 0 ∨ (127 < a5 ∨ (a6 < 0 ∨ 127 < a6))) ∧ a2 = 1) ∨ (((0 ≤ a5 ∧ (a5 ≤ 127 ∧ (0 ≤ a6 ∧ a6 ≤ 127))) ∧ (a7 < (-1) ∨ (7 < a7 ∨ ((a5 / 64) ≠ (a6 / 64) ∨ ((a6 % 8) < (a5 % 8) ∨ ((a6 / 8) % 8) < ((a5 / 8) % 8)))))) ∧ a2 = 2)) := by omega
theorem oq_c55d5f07 {a0 a1 a2 a3 a4 a5 a6 a7 a8 a9 : Int} (h0 : a0 ≠ 0) (h1 : ((1 = 1 ∧ (a1 = 0 ∧ (a2 = 2 ∧ a0 = 1))) ∨ ((1 = 0 ∨ a1 ≠ 0) ∧ (a2 = a1 ∧ ((a0 = 0 ∧ a1 = 0) ∨ (a0 = 1 ∧ a1 ≠ 0)))))) (h2 : ((a3 / 8) % 8) < ((a4 / 8) % 8)) (h3 : 0 ≤ a1) (h4 : ((0 = 1 ∧ (a5 = 0 ∧ (a1 = 1 ∧ a6 = 1))) ∨ ((0 = 0 ∨ a5 ≠ 0) ∧ (a1 = a5 ∧ ((a6 = 0 ∧ a5 = 0) ∨ (a6 = 1 ∧ a5 ≠ 0)))))) (h5 : a7 ≠ 0) (h6 : ((a7 = 1 ∧ (0 ≤ a3 ∧ a3 ≤ 127)) ∨ (a7 = 0 ∧ (a3 < 0 ∨ 127 < a3)))) (h7 : a8 ≠ 0) (h8 : ((a8 = 1 ∧ (0 ≤ a4 ∧ a4 ≤ 127)) ∨ (a8 = 0 ∧ (a4 < 0 ∨ 127 < a4)))) (h9 : a5 = 0) : (((a4 < 0 ∨ (127 < a4 ∨ (a3 < 0 ∨ 127 < a3))) ∧ a2 = 1) ∨ (((0 ≤ a4 ∧ (a4 ≤ 127 ∧ (0 ≤ a3 ∧ a3 ≤ 127))) ∧ (a9 < (-1) ∨ (7 < a9 ∨ ((a4 / 64) ≠ (a3 / 64) ∨ ((a3 % 8) < (a4 % 8) ∨ ((a3 / 8) % 8) < ((a4 / 8) % 8)))))) ∧ a2 = 2)) := by omega
theorem oq_eb4003a5 {a0 a1 a2 a3 a4 a5 a6 : Int} (h0 : a0 ≠ 0) (h1 : ((1 = 1 ∧ (a1 = 0 ∧ (a2 = 1 ∧ a0 = 1))) ∨ ((1 = 0 ∨ a1 ≠ 0) ∧ (a2 = a1 ∧ ((a0 = 0 ∧ a1 = 0) ∨ (a0 = 1 ∧ a1 ≠ 0)))))) (h2 : a3 = 0) (h3 : ((a3 = 1 ∧ (0 ≤ a4 ∧ a4 ≤ 127)) ∨ (a3 = 0 ∧ (a4 < 0 ∨ 127 < a4)))) (h4 : a1 = 0) : (((a5 < 0 ∨ (127 < a5 ∨ (a4 < 0 ∨ 127 < a4))) ∧ a2 = 1) ∨ (((0 ≤ a5 ∧ (a5 ≤ 127 ∧ (0 ≤ a4 ∧ a4 ≤ 127))) ∧ (a6 < (-1) ∨ (7 < a6 ∨ ((a5 / 64) ≠ (a4 / 64) ∨ ((a4 % 8) < (a5 % 8) ∨ ((a4 / 8) % 8) < ((a5 / 8) % 8)))))) ∧ a2 = 2)) := by omega
theorem oq_92f1e732 {a0 a1 : Int} (h0 : a0 = a1) (h1 : a1 ≤ 3) : a0 < 4 := by omega
theorem oq_4c4a1baf {a0 a1 : Int} (h0 : a0 = a1) (h1 : a1 ≤ 3) : (a0 : Int).toNat < 4 := by omega
theorem oq_ecc19de6 {a0 a1 : Int} (h0 : a0 ≠ 4) (h1 : a0 ≤ 4) (h2 : a0 = a1) (h3 : 0 ≤ a1) : (0 ≤ a1 ∧ a1 ≤ 3) := by omega
theorem oq_78efddbb {a0 a1 : Int} (h0 : a0 = a1) (h1 : a1 ≤ 3) : (a0 + 1) ≤ 4 := by omega
theorem oq_69e514af {a0 a1 : Int} (h0 : a0 = (a1 - 1)) (h1 : a1 ≤ 4) : a0 < 4 := by omega
theorem oq_33cf1240 {a0 a1 : Int} (h0 : a0 = (a1 - 1)) (h1 : a1 ≤ 4) : (a0 : Int).toNat < 4 := by omega
theorem oq_4d166e3f {a0 a1 : Int} (h0 : 0 ≤ a0) (h1 : a0 ≠ 0) (h2 : a0 = a1) (h3 : a1 ≤ 4) : (1 ≤ a1 ∧ a1 ≤ 4) := by omega
theorem oq_fb5f44d5 {a0 a1 a2 : Int} (h0 : a0 = (a1 - 1)) (h1 : a1 = a2) : a0 = (a2 - 1) := by omega
theorem oq_fbab4971 {a0 a1 : Int} (h0 : a0 = a1) (h1 : a0 = 0) (h2 : 0 ≤ a1) : a1 = 0 := by omega
/-! Cells put: one, a box of them, all of a mark -/
def bxC (a b c : Int) : Prop := a ≤ c ∧ c ≤ b ∧ a % 8 ≤ c % 8 ∧ c % 8 ≤ b % 8
/-- of the cells below n those of B are put to p: what was f is g, m of them changed -/
def PNQ (B : Int → Prop) (f g : Nat → Int) (p n m : Int) : Prop := (∀ j : Nat, (B (j : Int) ∧ (j : Int) < n → g j = p) ∧ (¬ (B (j : Int) ∧ (j : Int) < n) → g j = f j)) ∧ m = sm (fun j => i01 (B (j : Int) ∧ f j ≠ p)) n.toNat
theorem pnq_0 {B : Int → Prop} {f : Nat → Int} {p n : Int} (n0 : 0 ≤ n) (h : ∀ c : Int, 0 ≤ c → c < n → ¬ B c) : PNQ B f f p n 0 := ⟨fun j => ⟨fun q => absurd q.1 (h _ (by first | exact oq_a3593015 | omega) q.2), fun _ => rfl⟩, (sm_0 (fun j hj => i01_f (fun q => h _ (by first | exact oq_a3593015 | omega) (by first | exact oq_cc24202f hj | omega) q.1))).symm⟩
theorem pnq_g {B : Int → Prop} {f g : Nat → Int} {p n m : Int} (h : PNQ B f g p n m) (n0 : 0 ≤ n) : g n.toNat = f n.toNat := (h.1 n.toNat).2 (fun q => by have := q.2; omega)
theorem pnq_n {B : Int → Prop} {f g : Nat → Int} {p n m : Int} (h : PNQ B f g p n m) (n0 : 0 ≤ n) (hn : ¬ B n) : PNQ B f g p (n + 1) m := by
  refine ⟨fun j => ⟨fun q => (h.1 j).1 ⟨q.1, ?_⟩, fun q => (h.1 j).2 (fun z => q ⟨z.1, by have := z.2; omega⟩)⟩, ?_⟩
  · have e : (j : Int) ≠ n := fun e => hn (by rw [← e]; exact q.1)
    have := q.2
    omega
  · have en : ((n.toNat : Nat) : Int) = n := by first | exact oq_94c0d625 n0 | omega
    rw [show (n + 1).toNat = n.toNat + 1 by first | exact oq_225ea673 en n0 | omega]
    show m = sm (fun j => i01 (B (j : Int) ∧ f j ≠ p)) n.toNat + i01 (B ((n.toNat : Nat) : Int) ∧ f n.toNat ≠ p)
    rw [en, i01_f (fun q => hn q.1), Int.add_zero]
    exact h.2
theorem pnq_y {B : Int → Prop} {f g g' : Nat → Int} {p n m m' : Int} (h : PNQ B f g p n m) (n0 : 0 ≤ n) (hB : B n) (hg : g' = upF g n.toNat p) (hm : m' = m + i01 (f n.toNat ≠ p)) : PNQ B f g' p (n + 1) m' := by
  have en : ((n.toNat : Nat) : Int) = n := by first | exact oq_94c0d625 n0 | omega
  subst hg
  refine ⟨fun j => ?_, ?_⟩
  · by_cases e : j = n.toNat
    · refine ⟨fun _ => by unfold upF; rw [if_pos e], fun q => absurd (show B (j : Int) ∧ (j : Int) < n + 1 from ⟨by rw [e, en]; exact hB, by first | exact oq_037df3ae e en | omega⟩) q⟩
    · have u : upF g n.toNat p j = g j := by unfold upF; rw [if_neg e]
      rw [u]
      exact ⟨fun q => (h.1 j).1 ⟨q.1, by have := q.2; omega⟩, fun q => (h.1 j).2 (fun z => q ⟨z.1, by have := z.2; omega⟩)⟩
  · rw [show (n + 1).toNat = n.toNat + 1 by first | exact oq_225ea673 en n0 | omega]
    show m' = sm (fun j => i01 (B (j : Int) ∧ f j ≠ p)) n.toNat + i01 (B ((n.toNat : Nat) : Int) ∧ f n.toNat ≠ p)
    rw [en, i01_c (show B n ∧ f n.toNat ≠ p ↔ f n.toNat ≠ p from ⟨fun q => q.2, fun q => ⟨hB, q⟩⟩), ← h.2]
    exact hm
theorem pnq_k {B : Int → Prop} {f g : Nat → Int} {p n m : Int} (h : PNQ B f g p n m) (n0 : 0 ≤ n) (hz : ∀ c : Int, n ≤ c → ¬ B c) : ∀ k : Nat, PNQ B f g p (n + (k : Int)) m
  | 0 => by rw [show n + ((0 : Nat) : Int) = n by omega]; exact h
  | k + 1 => by
    have z := pnq_n (pnq_k h n0 hz k) (by first | exact oq_c73ee52c n0 | omega) (hz _ (by first | exact oq_fd0b8ed9 | omega))
    rw [show n + ((k + 1 : Nat) : Int) = n + (k : Int) + 1 by first | exact oq_41a03bf2 | omega]; exact z
theorem pnq_z {B : Int → Prop} {f g : Nat → Int} {p n m : Int} (h : PNQ B f g p n m) (n0 : 0 ≤ n) (n1 : n ≤ 128) (hz : ∀ c : Int, n ≤ c → ¬ B c) : PNQ B f g p 128 m := by
  have z := pnq_k h n0 hz (128 - n).toNat
  rw [show n + (((128 - n).toNat : Nat) : Int) = 128 by first | exact oq_76d16d9d n1 | omega] at z
  exact z
theorem pnq_eq {B : Int → Prop} {f g f' g' : Nat → Int} {p m m' : Int} (h : PNQ B f g p 128 m) (h' : PNQ B f' g' p 128 m') (hf : ∀ j, j < 128 → f j = f' j) : m = m' ∧ ∀ j, j < 128 → g j = g' j := by
  refine ⟨?_, fun j hj => ?_⟩
  · rw [h.2, h'.2]
    exact sm_eq (fun j hj => i01_c (by rw [hf j (by omega)]))
  · by_cases e : B (j : Int)
    · rw [(h.1 j).1 ⟨e, by first | exact oq_0f7d4523 hj | omega⟩, (h'.1 j).1 ⟨e, by first | exact oq_0f7d4523 hj | omega⟩]
    · rw [(h.1 j).2 (fun q => e q.1), (h'.1 j).2 (fun q => e q.1)]
      exact hf j hj
theorem pnq_s {B : Int → Prop} {f g f' g' : Nat → Int} {p n m : Int} (h : PNQ B f g p n m) (e1 : f = f') (e2 : g = g') : PNQ B f' g' p n m := by subst e1 e2; exact h
theorem shr3 : ∀ n : Fin 128, (Int32.ofInt ((n.val : Nat) : Int) >>> Int32.ofInt 3).toInt = ((n.val / 8 : Nat) : Int) := by decide +kernel
theorem shr_3 {x y : Int} (hx : 0 ≤ x ∧ x ≤ 127) (hy : rng y) (h : Int32.ofInt y = Int32.ofInt x >>> Int32.ofInt 3) : y = x / 8 := by
  have q := congrArg Int32.toInt h
  rw [zi hy] at q
  have z := shr3 ⟨x.toNat, by first | exact oq_c7f4e9c1 hx.2 | omega⟩
  dsimp only at z
  rw [show ((x.toNat : Nat) : Int) = x by first | exact oq_94c0d625 hx.1 | omega] at z
  rw [q, z]
  omega
/-- a mark of the class's, one of the model's, the same -/
def MKJ (s : PS) : Prop := (0 ≤ iI s 20 ∧ iI s 20 ≤ 4) ∧ ∀ k j : Nat, (k : Int) < iI s 20 → j < 128 → iC s 25 (128 * k + j) = iC s (241 + k) j
theorem MKJ_fm {L M : List Nat} {s t : PS} (F : Fm L M s t) (h : 20 ∉ L ∧ 25 ∉ M ∧ ∀ i, i < 4 → 241 + i ∉ M) (r : MKJ s) : MKJ t := ⟨by rw [fm_i F h.1]; exact r.1, fun k j hk hj => by
  rw [fm_i F h.1] at hk
  have c := r.1
  rw [fm_c F h.2.1, fm_c F (h.2.2 k (by first | exact oq_3a421d37 c.2 hk | omega))]
  exact r.2 k j hk hj⟩
/-- what mark writes: class, model -/
def MKW (s t : PS) : Prop := ∀ j : Nat, j < 512 → iC t 25 j = if (iI s 20 * 128).toNat ≤ j ∧ j < (iI s 20 * 128).toNat + 128 then iC s 21 (j - (iI s 20 * 128).toNat) else iC s 25 j
/-- cells of a mark taken back, below n -/
def BKQ (f g h : Nat → Int) (n : Int) : Prop := ∀ j : Nat, ((j : Int) < n → g j = h j) ∧ (n ≤ (j : Int) → g j = f j)
theorem bkq_0 {f h : Nat → Int} : BKQ f f h 0 := fun j => ⟨fun q => absurd q (by first | exact oq_625ee044 | omega), fun _ => rfl⟩
theorem bkq_up {f g g' h : Nat → Int} {n v : Int} (k : BKQ f g h n) (n0 : 0 ≤ n) (hv : v = h n.toNat) (hg : g' = upF g n.toNat v) : BKQ f g' h (n + 1) := by
  subst hg
  intro j
  unfold upF
  by_cases e : j = n.toNat
  · rw [if_pos e]
    exact ⟨fun _ => by rw [hv, e], fun q => absurd q (by first | exact oq_91cae32f e n0 | omega)⟩
  · rw [if_neg e]
    exact ⟨fun q => (k j).1 (by first | exact oq_bc1afbb0 q e | omega), fun q => (k j).2 (by first | exact oq_dee29c52 q | omega)⟩
theorem bkq_s {f g f' g' h : Nat → Int} {n : Int} (k : BKQ f g h n) (e1 : f = f') (e2 : g = g') : BKQ f' g' h n := by subst e1 e2; exact k
/-- rows of marks of the model's: the cells below n of the row m are those of the pieces -/
def MKP (m n : Int) (s t : PS) : Prop := ∀ k j : Nat, k < 4 → ((k = m.toNat ∧ (j : Int) < n) → iC t (241 + k) j = iC s 228 j) ∧ (¬ (k = m.toNat ∧ (j : Int) < n) → iC t (241 + k) j = iC s (241 + k) j)
theorem mkp_0 {m : Int} {s t : PS} (h : ∀ k j : Nat, k < 4 → iC t (241 + k) j = iC s (241 + k) j) : MKP m 0 s t := fun k j hk => ⟨fun q => absurd q.2 (by first | exact oq_625ee044 | omega), fun _ => h k j hk⟩
theorem mkp_up {m n v : Int} {s t u : PS} (h : MKP m n s t) (n0 : 0 ≤ n) (m0 : 0 ≤ m ∧ m ≤ 3) (hu : u = uC t (241 + m.toNat) n.toNat (Int32.ofInt v)) (rv : rng v) (hv : v = iC s 228 n.toNat) : MKP m (n + 1) s u := by
  subst hu
  intro k j hk
  by_cases e : k = m.toNat
  · subst e
    by_cases z : j = n.toNat
    · subst z
      exact ⟨fun _ => by rw [iC_u rv, hv], fun q => absurd (show m.toNat = m.toNat ∧ ((n.toNat : Nat) : Int) < n + 1 from ⟨rfl, by first | exact oq_4d6510ff n0 | omega⟩) q⟩
    · rw [iC_n z]
      exact ⟨fun q => (h _ j hk).1 ⟨rfl, by first | exact oq_bc1afbb0 q.2 z | omega⟩, fun q => (h _ j hk).2 (fun w => q ⟨rfl, by have := w.2; omega⟩)⟩
  · rw [iC_a (by first | exact oq_6425aecc e | omega)]
    exact ⟨fun q => absurd q.1 e, fun q => (h k j hk).2 (fun w => e w.1)⟩
theorem mkp_I {m n : Int} {s t u : PS} (h : MKP m n s t) (hu : ∀ k j : Nat, k < 4 → iC u (241 + k) j = iC t (241 + k) j) : MKP m n s u := fun k j hk => by
  rw [hu k j hk]; exact h k j hk
/-- a mark is kept, in class and model -/
theorem mkj_up {s t u : PS} (r : MKJ s) (a : AEQ 21 228 128 s) (hw : MKW s t) (hp : MKP (iI s 20) 128 s u) (hv : ∀ j : Nat, iC u 25 j = iC t 25 j) (hc : iI u 20 = iI s 20 + 1) (c0 : 0 ≤ iI s 20 ∧ iI s 20 ≤ 3) : MKJ u := ⟨by first | exact oq_fecfee7c c0.2 c0.1 hc | omega, fun k j hk hj => by
  rw [hv, hw _ (by first | exact oq_5173a134 hj hk c0.2 hc | omega)]
  by_cases e : k = (iI s 20).toNat
  · rw [if_pos (by first | exact oq_a7ce7eb2 e hj hk hc | omega), (hp k j (by first | exact oq_d172c969 hk c0.2 hc | omega)).1 ⟨e, by first | exact oq_0f7d4523 hj | omega⟩, show 128 * k + j - (iI s 20 * 128).toNat = j by first | exact oq_5b451034 e hk hc | omega]
    exact a j hj
  · rw [if_neg (by first | exact oq_7b51ad3f e hj hk hc | omega), (hp k j (by first | exact oq_d172c969 hk c0.2 hc | omega)).2 (fun q => e q.1)]
    exact r.2 k j (by first | exact oq_baa116a1 e hk hc | omega) hj⟩
/-- a mark is taken back -/
theorem bkq_eq {f f' g g' h h' : Nat → Int} (a : BKQ f g h 128) (b : BKQ f' g' h' 128) (e : ∀ j, j < 128 → h j = h' j) : ∀ j, j < 128 → g j = g' j := fun j hj => by
  rw [(a j).1 (by first | exact oq_0f7d4523 hj | omega), (b j).1 (by first | exact oq_0f7d4523 hj | omega)]; exact e j hj
section M87k6
variable {l : Launch} {s0 : State} {D : va_G} {tys : List (ClassId × FieldType)} {a0 : Array Value} {A : Nat → Nat} {dT : Nat → ClassId} {s : PS}
set_option maxRecDepth 4000 in
theorem cs_needCell6 (G : GX l s0 D tys a0 dT) (I : Bd s) {v : Int} (p0 : rng v) : CT l s0 D A dT 181 (rmN 181) [.ref (A 0), .int (Int32.ofInt v)] s (fun o t => Bd t ∧ Fm [] [] s t ∧ ((o = .inl none ∧ (0 ≤ v ∧ v ≤ 127)) ∨ ∃ x : Nat, o = .inr (exN x) ∧ (x = 2 ∧ (v < 0 ∨ 127 < v)))) := by
  refine ct_ofX G (by decide) (Nat.le_of_ble_eq_true rfl) (fun k X E ET hRt hXt q => ?_)
  show WS k 0 [(0, .ref (A 0)), (1, .int (Int32.ofInt v))] [] _ 0 0
  have F : Fm [] [] s s := fm_rf _ _ s
  refine z_load_n X (x := v) rfl (List.Mem.tail _ (List.Mem.head _)) (z_if_lt X (t := 11) rfl rfl ⟨by first | exact p0.1 | omega, by first | exact p0.2 | omega⟩ (fun g1 => ?_) (fun g1 => ?_))
  ·
    exact z_throw G X E ET hXt q (st := []) rfl (by decide) (by decide) (Nat.le_of_ble_eq_true rfl) (show 0 + 1 ≤ 1 by decide) (show 0 + 6 ≤ 6 by decide) (show 0 + 1 ≤ 1 by decide) (show 0 + 6 ≤ 6 by decide) ⟨_, rfl, I, F, Or.inr ⟨2, rfl, by first | exact oq_61a25aa9 g1 | omega⟩⟩
  ·
    refine z_load_n X (x := v) rfl (List.Mem.tail _ (List.Mem.head _)) (z_sipush X rfl (z_icmp_lt X (t := 22) rfl rfl ⟨by first | exact p0.1 | omega, by first | exact p0.2 | omega⟩ (by decide) (fun g2 => ?_) (fun g2 => ?_)))
    ·
      exact w_vret X.1 q hRt (ax_d X (show cdA 181 22 = some (.return_, 1, 0, 0, 0) from rfl)) (Nat.zero_le _) (Nat.zero_le _) ⟨_, rfl, I, F, Or.inl ⟨rfl, by first | exact ⟨g1, oq_04367f15 g2⟩ | omega⟩⟩
    ·
      exact z_throw G X E ET hXt q (st := []) rfl (by decide) (by decide) (Nat.le_of_ble_eq_true rfl) (show 0 + 1 ≤ 1 by decide) (show 0 + 6 ≤ 6 by decide) (show 0 + 1 ≤ 1 by decide) (show 0 + 6 ≤ 6 by decide) ⟨_, rfl, I, F, Or.inr ⟨2, rfl, by first | exact oq_610eee87 g2 | omega⟩⟩
set_option maxRecDepth 4000 in
theorem cs_assign6 (G : GX l s0 D tys a0 dT) (I : Bd s) (jPMJ : PMJ s) {u v : Int} (p0 : rng u) (p1 : rng v) : CT l s0 D A dT 143 (rmN 143) [.ref (A 0), .int (Int32.ofInt u), .int (Int32.ofInt v)] s (fun o t => Bd t ∧ Fm [] [21, 1022, 1023] s t ∧ PMJ t ∧ ((∃ e, o = .inl (some (.int (Int32.ofInt e))) ∧ rng e ∧ (0 ≤ u ∧ u ≤ 127 ∧ -1 ≤ v ∧ v ≤ 7 ∧ e = iC s 21 u.toNat ∧ UPD 21 u v s t)) ∨ ∃ x : Nat, o = .inr (exN x) ∧ (((x = 2 ∧ (u < 0 ∨ 127 < u)) ∨ (x = 0 ∧ 0 ≤ u ∧ u ≤ 127 ∧ (v < -1 ∨ 7 < v))) ∧ SAM 21 s t))) := by
  refine ct_ofX G (by decide) (Nat.le_of_ble_eq_true rfl) (fun k X E ET hRt hXt q => ?_)
  show WS k 0 [(0, .ref (A 0)), (1, .int (Int32.ofInt u)), (2, .int (Int32.ofInt v))] [] _ 0 0
  have F : Fm [] [21, 1022, 1023] s s := fm_rf _ _ s
  have aw0_21 : SAM 21 s s := sam_rf
  refine z_aload_n X (x := A 0) rfl (List.Mem.head _) (z_load_n X (x := u) rfl (List.Mem.tail _ (List.Mem.head _)) (z_callV X 0 (rm := rmN 181) (As := [.int (Int32.ofInt u)]) (st := []) rfl rfl (by decide) rfl (by rw [E.1, E.2.1, E.2.2.1]; exact cs_needCell6 G I (by first | exact ⟨p0.1, p0.2⟩ | omega)) ⟨by rw [E.2.2.2]; exact (show (rmN 181).frames + 1 ≤ (rmN 143).frames by decide), by rw [E.2.2.2]; exact (show 8 + (mNL (miB 181) + 11) + (rmN 181).locals ≤ (rmN 143).locals by decide), by rw [E.2.2.2]; exact (show 0 + 1 ≤ 2 by decide), by rw [E.2.2.2]; exact (show 0 + 6 ≤ 12 by decide)⟩ (Nat.le_of_ble_eq_true rfl) (fun vv s1 hq => ?_) (fun ee s1 hq => ?_)))
  rotate_left
  · obtain ⟨Is1, Fs1, (⟨hv, hps1⟩ | ⟨xx, hv, hps1⟩)⟩ := hq
    · cases hv
    · cases hv
      have Gs1 := fm_tq F Fs1 rfl rfl
      have JPMJ_s1 : PMJ s1 := PMJ_fm Fs1 (by decide) jPMJ
      have aws1_21 : SAM 21 s s1 := sam_ts aw0_21 (sam_fm Fs1 (by decide))
      exact x_out X.1 q (fun x hx => (hXt x hx).elim) (show 1 ≤ 2 by decide) (show 6 ≤ 12 by decide) ⟨_, rfl, Is1, Gs1, JPMJ_s1, Or.inr ⟨xx, rfl, ⟨by first | exact oq_87479ad9 hps1.2 hps1.1 | omega, aws1_21⟩⟩⟩
  obtain ⟨Is1, Fs1, (⟨hv, hps1⟩ | ⟨xx, hv, hps1⟩)⟩ := hq
  rotate_left
  · cases hv
  cases hv
  have Gs1 := fm_tq F Fs1 rfl rfl
  have JPMJ_s1 : PMJ s1 := PMJ_fm Fs1 (by decide) jPMJ
  have aws1_21 : SAM 21 s s1 := sam_ts aw0_21 (sam_fm Fs1 (by decide))
  show WS k 5 [(0, .ref (A 0)), (1, .int (Int32.ofInt u)), (2, .int (Int32.ofInt v))] [] (Wd A dT s1) 1 6
  refine z_aload_n X (x := A 0) rfl (List.Mem.head _) (z_load_n X (x := v) rfl (List.Mem.tail _ (List.Mem.tail _ (List.Mem.head _))) (z_const X rfl (z_bipush X rfl (z_callV X 0 (rm := rmN 184) (As := [.int (Int32.ofInt v), .int (Int32.ofInt (-1)), .int (Int32.ofInt 7)]) (st := []) rfl rfl (by decide) rfl (by rw [E.1, E.2.1, E.2.2.1]; exact cs_needWithin2 G Is1 (by first | exact ⟨p1.1, p1.2⟩ | omega) (by first | exact ⟨by decide, by decide⟩ | omega) (by first | exact ⟨by decide, by decide⟩ | omega)) ⟨by rw [E.2.2.2]; exact (show (rmN 184).frames + 1 ≤ (rmN 143).frames by decide), by rw [E.2.2.2]; exact (show 8 + (mNL (miB 184) + 11) + (rmN 184).locals ≤ (rmN 143).locals by decide), by rw [E.2.2.2]; exact (show 1 + 1 ≤ 2 by decide), by rw [E.2.2.2]; exact (show 6 + 6 ≤ 12 by decide)⟩ (Nat.le_of_ble_eq_true rfl) (fun vv s3 hq => ?_) (fun ee s3 hq => ?_)))))
  rotate_left
  · obtain ⟨Is3, Fs3, (⟨hv, hps3⟩ | ⟨xx, hv, hps3⟩)⟩ := hq
    · cases hv
    · cases hv
      have Gs3 := fm_tq Gs1 Fs3 rfl rfl
      have JPMJ_s3 : PMJ s3 := PMJ_fm Fs3 (by decide) JPMJ_s1
      have aws3_21 : SAM 21 s s3 := sam_ts aws1_21 (sam_fm Fs3 (by decide))
      exact x_out X.1 q (fun x hx => (hXt x hx).elim) (show (1 + 1) ≤ 2 by decide) (show (6 + 6) ≤ 12 by decide) ⟨_, rfl, Is3, Gs3, JPMJ_s3, Or.inr ⟨xx, rfl, ⟨by first | exact oq_53236509 hps3.2 hps3.1 hps1.2 hps1.1 | (clear hps1; omega) | omega, aws3_21⟩⟩⟩
  obtain ⟨Is3, Fs3, (⟨hv, hps3⟩ | ⟨xx, hv, hps3⟩)⟩ := hq
  rotate_left
  · cases hv
  cases hv
  have Gs3 := fm_tq Gs1 Fs3 rfl rfl
  have JPMJ_s3 : PMJ s3 := PMJ_fm Fs3 (by decide) JPMJ_s1
  have aws3_21 : SAM 21 s s3 := sam_ts aws1_21 (sam_fm Fs3 (by decide))
  show WS k 13 [(0, .ref (A 0)), (1, .int (Int32.ofInt u)), (2, .int (Int32.ofInt v))] [] (Wd A dT s3) (1 + 1) (6 + 6)
  refine z_aload_n X (x := A 0) rfl (List.Mem.head _) (s_getR X 0 rfl (c518_ok rfl) rfl rfl (z_load_n X (x := u) rfl (List.Mem.tail _ (List.Mem.head _)) (z_load_n X (x := v) rfl (List.Mem.tail _ (List.Mem.tail _ (List.Mem.head _))) (z_callV X 25 (rm := rmN 28) (As := [.int (Int32.ofInt u), .int (Int32.ofInt v)]) (st := []) rfl rfl (by decide) rfl (by rw [E.1, E.2.1, E.2.2.1]; exact c3_put3 G Is3 JPMJ_s3 (by first | exact ⟨hps1.1, hps1.2⟩ | omega) (by first | exact ⟨hps3.1, hps3.2⟩ | omega)) ⟨by rw [E.2.2.2]; exact (show (rmN 28).frames + 1 ≤ (rmN 143).frames by decide), by rw [E.2.2.2]; exact (show 8 + (mNL (miB 28) + 11) + (rmN 28).locals ≤ (rmN 143).locals by decide), by rw [E.2.2.2]; exact (show (1 + 1) + 0 ≤ 2 by decide), by rw [E.2.2.2]; exact (show (6 + 6) + 0 ≤ 12 by decide)⟩ (Nat.le_of_ble_eq_true rfl) (fun vv s5 hq => ?_) (fun ee s5 hq => ?_)))))
  rotate_left
  · obtain ⟨Is5, Fs5, JPMJ_s5, e6, hv, hrs5, hps5⟩ := hq; cases hv
  obtain ⟨Is5, Fs5, JPMJ_s5, e6, hv, hrs5, hps5⟩ := hq
  cases hv
  have Gs5 := fm_tq Gs3 Fs5 rfl rfl
  show WS k 22 [(0, .ref (A 0)), (1, .int (Int32.ofInt u)), (2, .int (Int32.ofInt v))] [.int (Int32.ofInt e6)] (Wd A dT s5) (1 + 1) (6 + 6)
  exact w_iret X.1 q hRt rfl (ax_d X (show cdA 143 22 = some (.ireturn, 1, 0, 0, 0) from rfl)) (show (1 + 1) ≤ 2 by decide) (show (6 + 6) ≤ 12 by decide) ⟨_, rfl, Is5, Gs5, JPMJ_s5, Or.inl ⟨e6, rfl, hrs5, ⟨by first | exact hps1.1 | omega, by first | exact hps1.2 | omega, by first | exact hps3.1 | omega, by first | exact hps3.2 | omega, by have z := hps5.1.1; have z1 := aws3_21 (u : Int).toNat; omega, upd_st aws3_21 hps5.2⟩⟩⟩
set_option maxRecDepth 4000 in
theorem k_assign6 (G : GX l s0 D tys a0 dT) (I : Bd s) {x y : Int} (p0 : rng x) (p1 : rng y) : CT l s0 D A dT 234 (rmN 234) [.ref (A 179), .int (Int32.ofInt x), .int (Int32.ofInt y)] s (fun o t => Bd t ∧ Fm [73] [228] s t ∧ ∃ e, o = .inl (some (.int (Int32.ofInt e))) ∧ rng e ∧ ((0 ≤ x ∧ x ≤ 127 ∧ -1 ≤ y ∧ y ≤ 7 ∧ iI t 73 = 0 ∧ e = iC s 228 x.toNat ∧ UPD 228 x y s t) ∨ (((x < 0 ∨ 127 < x) ∧ iI t 73 = 1 ∨ (0 ≤ x ∧ x ≤ 127 ∧ (y < -1 ∨ 7 < y)) ∧ iI t 73 = 2) ∧ SAM 228 s t))) := by
  refine ct_of G (by decide) (Nat.le_of_ble_eq_true rfl) (fun k X E hRt hXt q => ?_)
  show WS k 0 [(0, .ref (A 179)), (1, .int (Int32.ofInt x)), (2, .int (Int32.ofInt y))] [] _ 0 0
  have F : Fm [73] [228] s s := fm_rf _ _ s
  have aw0_228 : SAM 228 s s := sam_rf
  have b1 := bi_73 I
  refine z_aload_n X (x := A 179) rfl (List.Mem.head _) (z_const X rfl (s_putI X 179 rfl (c518_ok rfl) rfl rfl (by decide) rfl rfl rfl (wd_gen (fun s2 hs2 => ?_))))
  have Is2 : Bd s2 := eqB hs2 (bd_I I (show (0 : Int) ≤ 0 ∧ 0 ≤ 3 by first | exact ⟨by decide, by decide⟩ | omega) (by decide))
  have Fs2 := eqF hs2 (fm_I F (inl_ok (a := 73) rfl))
  have vs2 : iI s2 73 = 0 := eqI hs2 (iI_u (by decide))
  have aws2_228 : SAM 228 s s2 := by rw [hs2]; exact aw0_228
  refine z_aload_n X (x := A 179) rfl (List.Mem.head _) (z_load_n X (x := x) rfl (List.Mem.tail _ (List.Mem.head _)) (z_const X rfl (z_bipush X rfl (z_callS X (rm := rmN 188) (As := [.int (Int32.ofInt x), .int (Int32.ofInt 0), .int (Int32.ofInt 127)]) (st := [.ref (A 179)]) rfl rfl (by rw [E.1, E.2.1, E.2.2.1]; exact k_in2 G Is2 (by first | exact ⟨p0.1, p0.2⟩ | omega) (by first | exact ⟨by decide, by decide⟩ | omega) (by first | exact ⟨by decide, by decide⟩ | omega)) ⟨by rw [E.2.2.2]; exact (show (rmN 188).frames + 1 ≤ (rmN 234).frames by decide), by rw [E.2.2.2]; exact (show 8 + (mNL (miB 188) + 11) + (rmN 188).locals ≤ (rmN 234).locals by decide), by rw [E.2.2.2]; exact (show 0 + (rmN 188).cells ≤ (rmN 234).cells by decide), by rw [E.2.2.2]; exact (show 0 + (rmN 188).slots ≤ (rmN 234).slots by decide)⟩ (Nat.le_of_ble_eq_true rfl) (fun vv s3 hq => ?_) (fun ee s3 hq => ?_)))))
  rotate_left
  · obtain ⟨rfl, e4, hv, hrs3, hps3⟩ := hq; cases hv
  obtain ⟨rfl, e4, hv, hrs3, hps3⟩ := hq
  cases hv
  show WS k 13 [(0, .ref (A 179)), (1, .int (Int32.ofInt x)), (2, .int (Int32.ofInt y))] [.int (Int32.ofInt e4), .ref (A 179)] (Wd A dT s2) 0 0
  refine z_if_ne X (t := 20) rfl rfl hrs3 (fun g5 => ?_) (fun g5 => ?_)
  ·
    refine z_const X rfl (z_const X rfl (zcV_i0 X E 179 (As := [.int (Int32.ofInt 0), .int (Int32.ofInt 1)]) (st := []) rfl rfl rfl rfl (k_bad2 G Is2 (by first | exact Or.inl (by decide) | omega) (by first | exact ⟨by decide, by decide⟩ | omega)) rfl (Nat.le_of_ble_eq_true rfl) (fun s6 e7 Is6 Fs6 hrs6 hps6 => ?_)))
    have Gs6 := fm_tq Fs2 Fs6 rfl rfl
    have b8 := bi_73 Is6
    have aws6_228 : SAM 228 s s6 := sam_ts aws2_228 (sam_fm Fs6 (by decide))
    refine z_if_ne X (t := 51) rfl rfl hrs6 (fun g9 => ?_) (fun g9 => ?_)
    ·
      refine z_const X rfl ?_
      exact w_iret X.1 q hRt rfl (ax_d X (show cdA 234 52 = some (.ireturn, 1, 0, 0, 0) from rfl)) (Nat.zero_le _) (Nat.zero_le _) ⟨_, rfl, Is6, Gs6, 0, rfl, (by decide), Or.inr ⟨by first | exact oq_96b0b71b g9 hps6 vs2 | exact oq_96b0b71b g9 hps6 vs2 | omega, aws6_228⟩⟩
    ·
      refine z_aload_n X (x := A 179) rfl (List.Mem.head _) (z_load_n X (x := y) rfl (List.Mem.tail _ (List.Mem.tail _ (List.Mem.head _))) (z_const X rfl (z_bipush X rfl (z_callS X (rm := rmN 188) (As := [.int (Int32.ofInt y), .int (Int32.ofInt (-1)), .int (Int32.ofInt 7)]) (st := [.ref (A 179)]) rfl rfl (by rw [E.1, E.2.1, E.2.2.1]; exact k_in2 G Is6 (by first | exact ⟨p1.1, p1.2⟩ | omega) (by first | exact ⟨by decide, by decide⟩ | omega) (by first | exact ⟨by decide, by decide⟩ | omega)) ⟨by rw [E.2.2.2]; exact (show (rmN 188).frames + 1 ≤ (rmN 234).frames by decide), by rw [E.2.2.2]; exact (show 8 + (mNL (miB 188) + 11) + (rmN 188).locals ≤ (rmN 234).locals by decide), by rw [E.2.2.2]; exact (show 0 + (rmN 188).cells ≤ (rmN 234).cells by decide), by rw [E.2.2.2]; exact (show 0 + (rmN 188).slots ≤ (rmN 234).slots by decide)⟩ (Nat.le_of_ble_eq_true rfl) (fun vv s10 hq => ?_) (fun ee s10 hq => ?_)))))
      rotate_left
      · obtain ⟨rfl, e11, hv, hrs10, hps10⟩ := hq; cases hv
      obtain ⟨rfl, e11, hv, hrs10, hps10⟩ := hq
      cases hv
      show WS k 36 [(0, .ref (A 179)), (1, .int (Int32.ofInt x)), (2, .int (Int32.ofInt y))] [.int (Int32.ofInt e11), .ref (A 179)] (Wd A dT s6) 0 0
      refine z_if_ne X (t := 43) rfl rfl hrs10 (fun g12 => ?_) (fun g12 => ?_)
      ·
        refine z_const X rfl (z_const X rfl (zcV_i0 X E 179 (As := [.int (Int32.ofInt 0), .int (Int32.ofInt 2)]) (st := []) rfl rfl rfl rfl (k_bad2 G Is6 (by first | exact Or.inl (by decide) | omega) (by first | exact ⟨by decide, by decide⟩ | omega)) rfl (Nat.le_of_ble_eq_true rfl) (fun s13 e14 Is13 Fs13 hrs13 hps13 => ?_)))
        have Gs13 := fm_tq Gs6 Fs13 rfl rfl
        have b15 := bi_73 Is13
        have aws13_228 : SAM 228 s s13 := sam_ts aws6_228 (sam_fm Fs13 (by decide))
        refine z_if_eq X (t := 53) rfl rfl hrs13 (fun g16 => ?_) (fun g16 => ?_)
        ·
          refine z_aload_n X (x := A 179) rfl (List.Mem.head _) (s_getR X 179 rfl (c518_ok rfl) rfl rfl (z_load_n X (x := x) rfl (List.Mem.tail _ (List.Mem.head _)) (z_ald X 256 rfl (c518_ok rfl) rfl (by first | exact oq_77708b6d g5 hps3 | omega) (show x < 128 by first | exact oq_d041223a g5 hps3 | omega) (cbig_ok rfl) ?_)))
          have b17 := bc_228 Is13 (show (x).toNat < 128 by first | exact oq_2cca4c9a g5 hps3 | omega)
          have ar18 : iC s13 228 (x).toNat = iC s 228 (x).toNat := aws13_228 _
          refine z_store_n X (lv' := [(3, .int (Int32.ofInt (iC s13 228 (x).toNat))), (0, .ref (A 179)), (1, .int (Int32.ofInt x)), (2, .int (Int32.ofInt y))]) rfl (by decide) (fun _ h => h) (z_aload_n X (x := A 179) rfl (List.Mem.tail _ (List.Mem.head _)) (s_getR X 179 rfl (c518_ok rfl) rfl rfl (z_load_n X (x := x) rfl (List.Mem.tail _ (List.Mem.tail _ (List.Mem.head _))) (z_load_n X (x := y) rfl (List.Mem.tail _ (List.Mem.tail _ (List.Mem.tail _ (List.Mem.head _)))) (z_ast X 256 rfl (c518_ok rfl) rfl (by first | exact oq_77708b6d g5 hps3 | omega) (show x < 128 by first | exact oq_d041223a g5 hps3 | omega) (cbig_ok rfl) (wd_gen (fun s19 hs19 => ?_)))))))
          have Is19 : Bd s19 := eqB hs19 (bd_C Is13 (show ((-1) : Int) ≤ y ∧ y ≤ 7 by first | exact ⟨oq_11b2355d g12 hps10, oq_9bda434c g12 hps10⟩ | omega) ⟨by first | exact p1.1 | omega, by first | exact p1.2 | omega⟩)
          have Fs19 := eqF hs19 (fm_C Gs13 (inl_ok (a := 228) rfl))
          have ws19_73 : iI s19 73 = iI s13 73 := eqI hs19 rfl
          have aws19_228 : UPD 228 (x) y s s19 := by rw [hs19]; exact upd_put aws13_228 ⟨by first | exact p1.1 | omega, by first | exact p1.2 | omega⟩
          refine z_load_n X (x := (iC s13 228 (x).toNat)) rfl (List.Mem.head _) ?_
          exact w_iret X.1 q hRt rfl (ax_d X (show cdA 234 68 = some (.ireturn, 1, 0, 0, 0) from rfl)) (Nat.zero_le _) (Nat.zero_le _) ⟨_, rfl, Is19, Fs19, (iC s13 228 (x).toNat), rfl, (rng_to _), Or.inl ⟨by first | exact oq_77708b6d g5 hps3 | omega, by first | exact oq_09803752 g5 hps3 | omega, by first | exact oq_11b2355d g12 hps10 | omega, by first | exact oq_9bda434c g12 hps10 | omega, by first | exact oq_7d0f2b81 ws19_73 b15.1 hps13 hps6 vs2 | exact oq_7d0f2b81 ws19_73 b15.1 hps13 hps6 vs2 | omega, by first | exact ar18 | omega, aws19_228⟩⟩
        ·
          refine z_const X rfl ?_
          exact w_iret X.1 q hRt rfl (ax_d X (show cdA 234 52 = some (.ireturn, 1, 0, 0, 0) from rfl)) (Nat.zero_le _) (Nat.zero_le _) ⟨_, rfl, Is13, Gs13, 0, rfl, (by decide), Or.inr ⟨by first | exact oq_242446e7 g16 hps13 b8.1 hps6 vs2 | exact oq_242446e7 g16 hps13 b8.1 hps6 vs2 | omega, aws13_228⟩⟩
      ·
        refine z_const X rfl (z_goto X (t := 44) rfl rfl (z_const X rfl (zcV_i0 X E 179 (As := [.int (Int32.ofInt 1), .int (Int32.ofInt 2)]) (st := []) rfl rfl rfl rfl (k_bad2 G Is6 (by first | exact Or.inr (by decide) | omega) (by first | exact ⟨by decide, by decide⟩ | omega)) rfl (Nat.le_of_ble_eq_true rfl) (fun s20 e21 Is20 Fs20 hrs20 hps20 => ?_))))
        have Gs20 := fm_tq Gs6 Fs20 rfl rfl
        have b22 := bi_73 Is20
        have aws20_228 : SAM 228 s s20 := sam_ts aws6_228 (sam_fm Fs20 (by decide))
        refine z_if_eq X (t := 53) rfl rfl hrs20 (fun g23 => ?_) (fun g23 => ?_)
        ·
          refine z_aload_n X (x := A 179) rfl (List.Mem.head _) (s_getR X 179 rfl (c518_ok rfl) rfl rfl (z_load_n X (x := x) rfl (List.Mem.tail _ (List.Mem.head _)) (z_ald X 256 rfl (c518_ok rfl) rfl (by first | exact oq_77708b6d g5 hps3 | omega) (show x < 128 by first | exact oq_d041223a g5 hps3 | omega) (cbig_ok rfl) ?_)))
          have b24 := bc_228 Is20 (show (x).toNat < 128 by first | exact oq_2cca4c9a g5 hps3 | omega)
          have ar25 : iC s20 228 (x).toNat = iC s 228 (x).toNat := aws20_228 _
          refine z_store_n X (lv' := [(3, .int (Int32.ofInt (iC s20 228 (x).toNat))), (0, .ref (A 179)), (1, .int (Int32.ofInt x)), (2, .int (Int32.ofInt y))]) rfl (by decide) (fun _ h => h) (z_aload_n X (x := A 179) rfl (List.Mem.tail _ (List.Mem.head _)) (s_getR X 179 rfl (c518_ok rfl) rfl rfl (z_load_n X (x := x) rfl (List.Mem.tail _ (List.Mem.tail _ (List.Mem.head _))) (z_load_n X (x := y) rfl (List.Mem.tail _ (List.Mem.tail _ (List.Mem.tail _ (List.Mem.head _)))) (z_ast X 256 rfl (c518_ok rfl) rfl (by first | exact oq_77708b6d g5 hps3 | omega) (show x < 128 by first | exact oq_d041223a g5 hps3 | omega) (cbig_ok rfl) (wd_gen (fun s26 hs26 => ?_)))))))
          have Is26 : Bd s26 := eqB hs26 (bd_C Is20 (show ((-1) : Int) ≤ y ∧ y ≤ 7 by first | exact ⟨oq_02216707 g23 hps20 b8.1 hps6 vs2, oq_4bd3f58e g23 hps20 b8.1 hps6 vs2⟩ | exact oq_f0455503 g23 hps20 b8.1 hps6 vs2 | omega) ⟨by first | exact p1.1 | omega, by first | exact p1.2 | omega⟩)
          have Fs26 := eqF hs26 (fm_C Gs20 (inl_ok (a := 228) rfl))
          have ws26_73 : iI s26 73 = iI s20 73 := eqI hs26 rfl
          have aws26_228 : UPD 228 (x) y s s26 := by rw [hs26]; exact upd_put aws20_228 ⟨by first | exact p1.1 | omega, by first | exact p1.2 | omega⟩
          refine z_load_n X (x := (iC s20 228 (x).toNat)) rfl (List.Mem.head _) ?_
          exact w_iret X.1 q hRt rfl (ax_d X (show cdA 234 68 = some (.ireturn, 1, 0, 0, 0) from rfl)) (Nat.zero_le _) (Nat.zero_le _) ⟨_, rfl, Is26, Fs26, (iC s20 228 (x).toNat), rfl, (rng_to _), Or.inl ⟨by first | exact oq_77708b6d g5 hps3 | omega, by first | exact oq_09803752 g5 hps3 | omega, by first | exact oq_02216707 g23 hps20 b8.1 hps6 vs2 | exact oq_02216707 g23 hps20 b8.1 hps6 vs2 | omega, by first | exact oq_4bd3f58e g23 hps20 b8.1 hps6 vs2 | exact oq_4bd3f58e g23 hps20 b8.1 hps6 vs2 | omega, by first | exact oq_d8324c30 ws26_73 g23 b22.1 hps20 hps6 vs2 | exact oq_d8324c30 ws26_73 g23 b22.1 hps20 hps6 vs2 | omega, by first | exact ar25 | omega, aws26_228⟩⟩
        ·
          refine z_const X rfl ?_
          exact w_iret X.1 q hRt rfl (ax_d X (show cdA 234 52 = some (.ireturn, 1, 0, 0, 0) from rfl)) (Nat.zero_le _) (Nat.zero_le _) ⟨_, rfl, Is20, Gs20, 0, rfl, (by decide), Or.inr ⟨by first | exact oq_588e89dd g23 hps20 g12 hps10 b8.1 hps6 g5 hps3 vs2 | exact oq_588e89dd g23 hps20 g12 hps10 b8.1 hps6 g5 hps3 vs2 | omega, aws20_228⟩⟩
  ·
    refine z_const X rfl (z_goto X (t := 21) rfl rfl (z_const X rfl (zcV_i0 X E 179 (As := [.int (Int32.ofInt 1), .int (Int32.ofInt 1)]) (st := []) rfl rfl rfl rfl (k_bad2 G Is2 (by first | exact Or.inr (by decide) | omega) (by first | exact ⟨by decide, by decide⟩ | omega)) rfl (Nat.le_of_ble_eq_true rfl) (fun s27 e28 Is27 Fs27 hrs27 hps27 => ?_))))
    have Gs27 := fm_tq Fs2 Fs27 rfl rfl
    have b29 := bi_73 Is27
    have aws27_228 : SAM 228 s s27 := sam_ts aws2_228 (sam_fm Fs27 (by decide))
    refine z_if_ne X (t := 51) rfl rfl hrs27 (fun g30 => ?_) (fun g30 => ?_)
    ·
      refine z_const X rfl ?_
      exact w_iret X.1 q hRt rfl (ax_d X (show cdA 234 52 = some (.ireturn, 1, 0, 0, 0) from rfl)) (Nat.zero_le _) (Nat.zero_le _) ⟨_, rfl, Is27, Gs27, 0, rfl, (by decide), Or.inr ⟨by first | exact oq_a234281b g30 hps27 g5 hps3 vs2 | exact oq_a234281b g30 hps27 g5 hps3 vs2 | omega, aws27_228⟩⟩
    ·
      refine z_aload_n X (x := A 179) rfl (List.Mem.head _) (z_load_n X (x := y) rfl (List.Mem.tail _ (List.Mem.tail _ (List.Mem.head _))) (z_const X rfl (z_bipush X rfl (z_callS X (rm := rmN 188) (As := [.int (Int32.ofInt y), .int (Int32.ofInt (-1)), .int (Int32.ofInt 7)]) (st := [.ref (A 179)]) rfl rfl (by rw [E.1, E.2.1, E.2.2.1]; exact k_in2 G Is27 (by first | exact ⟨p1.1, p1.2⟩ | omega) (by first | exact ⟨by decide, by decide⟩ | omega) (by first | exact ⟨by decide, by decide⟩ | omega)) ⟨by rw [E.2.2.2]; exact (show (rmN 188).frames + 1 ≤ (rmN 234).frames by decide), by rw [E.2.2.2]; exact (show 8 + (mNL (miB 188) + 11) + (rmN 188).locals ≤ (rmN 234).locals by decide), by rw [E.2.2.2]; exact (show 0 + (rmN 188).cells ≤ (rmN 234).cells by decide), by rw [E.2.2.2]; exact (show 0 + (rmN 188).slots ≤ (rmN 234).slots by decide)⟩ (Nat.le_of_ble_eq_true rfl) (fun vv s31 hq => ?_) (fun ee s31 hq => ?_)))))
      rotate_left
      · obtain ⟨rfl, e32, hv, hrs31, hps31⟩ := hq; cases hv
      obtain ⟨rfl, e32, hv, hrs31, hps31⟩ := hq
      cases hv
      show WS k 36 [(0, .ref (A 179)), (1, .int (Int32.ofInt x)), (2, .int (Int32.ofInt y))] [.int (Int32.ofInt e32), .ref (A 179)] (Wd A dT s27) 0 0
      refine z_if_ne X (t := 43) rfl rfl hrs31 (fun g33 => ?_) (fun g33 => ?_)
      ·
        refine z_const X rfl (z_const X rfl (zcV_i0 X E 179 (As := [.int (Int32.ofInt 0), .int (Int32.ofInt 2)]) (st := []) rfl rfl rfl rfl (k_bad2 G Is27 (by first | exact Or.inl (by decide) | omega) (by first | exact ⟨by decide, by decide⟩ | omega)) rfl (Nat.le_of_ble_eq_true rfl) (fun s34 e35 Is34 Fs34 hrs34 hps34 => ?_)))
        have Gs34 := fm_tq Gs27 Fs34 rfl rfl
        have b36 := bi_73 Is34
        have aws34_228 : SAM 228 s s34 := sam_ts aws27_228 (sam_fm Fs34 (by decide))
        refine z_if_eq X (t := 53) rfl rfl hrs34 (fun g37 => ?_) (fun g37 => ?_)
        ·
          refine z_aload_n X (x := A 179) rfl (List.Mem.head _) (s_getR X 179 rfl (c518_ok rfl) rfl rfl (z_load_n X (x := x) rfl (List.Mem.tail _ (List.Mem.head _)) (z_ald X 256 rfl (c518_ok rfl) rfl (by first | exact oq_674898f9 g30 hps27 vs2 | exact oq_674898f9 g30 hps27 vs2 | omega) (show x < 128 by first | exact oq_f0812281 g30 hps27 vs2 | exact oq_f0812281 g30 hps27 vs2 | omega) (cbig_ok rfl) ?_)))
          have b38 := bc_228 Is34 (show (x).toNat < 128 by first | exact oq_bda6cf9e g30 hps27 vs2 | exact oq_bda6cf9e g30 hps27 vs2 | omega)
          have ar39 : iC s34 228 (x).toNat = iC s 228 (x).toNat := aws34_228 _
          refine z_store_n X (lv' := [(3, .int (Int32.ofInt (iC s34 228 (x).toNat))), (0, .ref (A 179)), (1, .int (Int32.ofInt x)), (2, .int (Int32.ofInt y))]) rfl (by decide) (fun _ h => h) (z_aload_n X (x := A 179) rfl (List.Mem.tail _ (List.Mem.head _)) (s_getR X 179 rfl (c518_ok rfl) rfl rfl (z_load_n X (x := x) rfl (List.Mem.tail _ (List.Mem.tail _ (List.Mem.head _))) (z_load_n X (x := y) rfl (List.Mem.tail _ (List.Mem.tail _ (List.Mem.tail _ (List.Mem.head _)))) (z_ast X 256 rfl (c518_ok rfl) rfl (by first | exact oq_674898f9 g30 hps27 vs2 | exact oq_674898f9 g30 hps27 vs2 | omega) (show x < 128 by first | exact oq_f0812281 g30 hps27 vs2 | exact oq_f0812281 g30 hps27 vs2 | omega) (cbig_ok rfl) (wd_gen (fun s40 hs40 => ?_)))))))
          have Is40 : Bd s40 := eqB hs40 (bd_C Is34 (show ((-1) : Int) ≤ y ∧ y ≤ 7 by first | exact ⟨oq_11b2355d g33 hps31, oq_9bda434c g33 hps31⟩ | omega) ⟨by first | exact p1.1 | omega, by first | exact p1.2 | omega⟩)
          have Fs40 := eqF hs40 (fm_C Gs34 (inl_ok (a := 228) rfl))
          have ws40_73 : iI s40 73 = iI s34 73 := eqI hs40 rfl
          have aws40_228 : UPD 228 (x) y s s40 := by rw [hs40]; exact upd_put aws34_228 ⟨by first | exact p1.1 | omega, by first | exact p1.2 | omega⟩
          refine z_load_n X (x := (iC s34 228 (x).toNat)) rfl (List.Mem.head _) ?_
          exact w_iret X.1 q hRt rfl (ax_d X (show cdA 234 68 = some (.ireturn, 1, 0, 0, 0) from rfl)) (Nat.zero_le _) (Nat.zero_le _) ⟨_, rfl, Is40, Fs40, (iC s34 228 (x).toNat), rfl, (rng_to _), Or.inl ⟨by first | exact oq_674898f9 g30 hps27 vs2 | exact oq_674898f9 g30 hps27 vs2 | omega, by first | exact oq_8c12aa35 g30 hps27 vs2 | exact oq_8c12aa35 g30 hps27 vs2 | omega, by first | exact oq_11b2355d g33 hps31 | omega, by first | exact oq_9bda434c g33 hps31 | omega, by first | exact oq_fa275550 ws40_73 b36.1 hps34 g30 hps27 vs2 | exact oq_fa275550 ws40_73 b36.1 hps34 g30 hps27 vs2 | omega, by first | exact ar39 | omega, aws40_228⟩⟩
        ·
          refine z_const X rfl ?_
          exact w_iret X.1 q hRt rfl (ax_d X (show cdA 234 52 = some (.ireturn, 1, 0, 0, 0) from rfl)) (Nat.zero_le _) (Nat.zero_le _) ⟨_, rfl, Is34, Gs34, 0, rfl, (by decide), Or.inr ⟨by first | exact oq_0b5f3ee3 g37 hps34 g30 b29.1 hps27 vs2 | exact oq_0b5f3ee3 g37 hps34 g30 b29.1 hps27 vs2 | omega, aws34_228⟩⟩
      ·
        refine z_const X rfl (z_goto X (t := 44) rfl rfl (z_const X rfl (zcV_i0 X E 179 (As := [.int (Int32.ofInt 1), .int (Int32.ofInt 2)]) (st := []) rfl rfl rfl rfl (k_bad2 G Is27 (by first | exact Or.inr (by decide) | omega) (by first | exact ⟨by decide, by decide⟩ | omega)) rfl (Nat.le_of_ble_eq_true rfl) (fun s41 e42 Is41 Fs41 hrs41 hps41 => ?_))))
        have Gs41 := fm_tq Gs27 Fs41 rfl rfl
        have b43 := bi_73 Is41
        have aws41_228 : SAM 228 s s41 := sam_ts aws27_228 (sam_fm Fs41 (by decide))
        refine z_if_eq X (t := 53) rfl rfl hrs41 (fun g44 => ?_) (fun g44 => ?_)
        ·
          refine z_aload_n X (x := A 179) rfl (List.Mem.head _) (s_getR X 179 rfl (c518_ok rfl) rfl rfl (z_load_n X (x := x) rfl (List.Mem.tail _ (List.Mem.head _)) (z_ald X 256 rfl (c518_ok rfl) rfl (by first | exact oq_7bca4f44 g44 hps41 g30 b29.1 hps27 vs2 | exact oq_7bca4f44 g44 hps41 g30 b29.1 hps27 vs2 | omega) (show x < 128 by first | exact oq_02757110 g44 hps41 g30 b29.1 hps27 vs2 | exact oq_02757110 g44 hps41 g30 b29.1 hps27 vs2 | omega) (cbig_ok rfl) ?_)))
          have b45 := bc_228 Is41 (show (x).toNat < 128 by first | exact oq_b15e11a6 g44 hps41 g30 b29.1 hps27 vs2 | exact oq_b15e11a6 g44 hps41 g30 b29.1 hps27 vs2 | omega)
          have ar46 : iC s41 228 (x).toNat = iC s 228 (x).toNat := aws41_228 _
          refine z_store_n X (lv' := [(3, .int (Int32.ofInt (iC s41 228 (x).toNat))), (0, .ref (A 179)), (1, .int (Int32.ofInt x)), (2, .int (Int32.ofInt y))]) rfl (by decide) (fun _ h => h) (z_aload_n X (x := A 179) rfl (List.Mem.tail _ (List.Mem.head _)) (s_getR X 179 rfl (c518_ok rfl) rfl rfl (z_load_n X (x := x) rfl (List.Mem.tail _ (List.Mem.tail _ (List.Mem.head _))) (z_load_n X (x := y) rfl (List.Mem.tail _ (List.Mem.tail _ (List.Mem.tail _ (List.Mem.head _)))) (z_ast X 256 rfl (c518_ok rfl) rfl (by first | exact oq_7bca4f44 g44 hps41 g30 b29.1 hps27 vs2 | exact oq_7bca4f44 g44 hps41 g30 b29.1 hps27 vs2 | omega) (show x < 128 by first | exact oq_02757110 g44 hps41 g30 b29.1 hps27 vs2 | exact oq_02757110 g44 hps41 g30 b29.1 hps27 vs2 | omega) (cbig_ok rfl) (wd_gen (fun s47 hs47 => ?_)))))))
          have Is47 : Bd s47 := eqB hs47 (bd_C Is41 (show ((-1) : Int) ≤ y ∧ y ≤ 7 by first | exact ⟨oq_3b413d69 g44 hps41 g30 b29.1 hps27 vs2, oq_9ed0cc03 g44 hps41 g30 b29.1 hps27 vs2⟩ | exact oq_e2ec6111 g44 hps41 g30 b29.1 hps27 vs2 | omega) ⟨by first | exact p1.1 | omega, by first | exact p1.2 | omega⟩)
          have Fs47 := eqF hs47 (fm_C Gs41 (inl_ok (a := 228) rfl))
          have ws47_73 : iI s47 73 = iI s41 73 := eqI hs47 rfl
          have aws47_228 : UPD 228 (x) y s s47 := by rw [hs47]; exact upd_put aws41_228 ⟨by first | exact p1.1 | omega, by first | exact p1.2 | omega⟩
          refine z_load_n X (x := (iC s41 228 (x).toNat)) rfl (List.Mem.head _) ?_
          exact w_iret X.1 q hRt rfl (ax_d X (show cdA 234 68 = some (.ireturn, 1, 0, 0, 0) from rfl)) (Nat.zero_le _) (Nat.zero_le _) ⟨_, rfl, Is47, Fs47, (iC s41 228 (x).toNat), rfl, (rng_to _), Or.inl ⟨by first | exact oq_7bca4f44 g44 hps41 g30 b29.1 hps27 vs2 | exact oq_7bca4f44 g44 hps41 g30 b29.1 hps27 vs2 | omega, by first | exact oq_8960f5c7 g44 hps41 g30 b29.1 hps27 vs2 | exact oq_8960f5c7 g44 hps41 g30 b29.1 hps27 vs2 | omega, by first | exact oq_3b413d69 g44 hps41 g30 b29.1 hps27 vs2 | exact oq_3b413d69 g44 hps41 g30 b29.1 hps27 vs2 | omega, by first | exact oq_9ed0cc03 g44 hps41 g30 b29.1 hps27 vs2 | exact oq_9ed0cc03 g44 hps41 g30 b29.1 hps27 vs2 | omega, by first | exact oq_559236d4 ws47_73 g44 b43.1 hps41 g30 hps27 vs2 | exact oq_559236d4 ws47_73 g44 b43.1 hps41 g30 hps27 vs2 | omega, by first | exact ar46 | omega, aws47_228⟩⟩
        ·
          refine z_const X rfl ?_
          exact w_iret X.1 q hRt rfl (ax_d X (show cdA 234 52 = some (.ireturn, 1, 0, 0, 0) from rfl)) (Nat.zero_le _) (Nat.zero_le _) ⟨_, rfl, Is41, Gs41, 0, rfl, (by decide), Or.inr ⟨by first | exact oq_e62f42ed g30 hps27 vs2 | exact oq_e62f42ed g30 hps27 vs2 | omega, aws41_228⟩⟩
set_option maxRecDepth 4000 in
theorem c3_putAll6 (G : GX l s0 D tys a0 dT) (I : Bd s) (jPMJ : PMJ s) {x y z : Int} (p0 : 0 ≤ x ∧ x ≤ 127) (p1 : 0 ≤ y ∧ y ≤ 127) (p2 : -1 ≤ z ∧ z ≤ 7) (p3 : x ≤ y) : CT l s0 D A dT 29 (rmN 29) [.ref (A 25), .int (Int32.ofInt x), .int (Int32.ofInt y), .int (Int32.ofInt z)] s (fun o t => Bd t ∧ Fm [] [21, 1022, 1023] s t ∧ PMJ t ∧ ∃ e, o = .inl (some (.int (Int32.ofInt e))) ∧ rng e ∧ (PNQ (bxC x y) (pfC s) (pfC t) z 128 e)) := by
  refine ct_ofX G (by decide) (Nat.le_of_ble_eq_true rfl) (fun k X E ET hRt hXt q => ?_)
  show WS k 0 [(0, .ref (A 25)), (1, .int (Int32.ofInt x)), (2, .int (Int32.ofInt y)), (3, .int (Int32.ofInt z))] [] _ 0 0
  have F : Fm [] [21, 1022, 1023] s s := fm_rf _ _ s
  have L6 : ∀ (n : Nat) (t : PS) (xv yv zv ch c : Int), Bd t → Fm [] [21, 1022, 1023] s t → PMJ t → (PNQ (bxC x y) (pfC s) (pfC t) z c ch) → ((xv = x ∧ yv = y ∧ zv = z) ∧ (0 ≤ ch ∧ ch ≤ c) ∧ (x ≤ c ∧ c ≤ y + 1)) → (128 - c : Int).toNat < n → (∀ (t' : PS) (ch' c' : Int), Bd t' → Fm [] [21, 1022, 1023] s t' → PMJ t' → (PNQ (bxC x y) (pfC s) (pfC t') z c' ch') → ((0 ≤ ch' ∧ ch' ≤ c') ∧ c' = y + 1) → WS k 68 [(0, .ref (A 25)), (1, .int (Int32.ofInt xv)), (2, .int (Int32.ofInt yv)), (3, .int (Int32.ofInt zv)), (4, .int (Int32.ofInt ch')), (5, .int (Int32.ofInt c'))] [] (Wd A dT t') 0 0) → WS k 6 [(0, .ref (A 25)), (1, .int (Int32.ofInt xv)), (2, .int (Int32.ofInt yv)), (3, .int (Int32.ofInt zv)), (4, .int (Int32.ofInt ch)), (5, .int (Int32.ofInt c))] [] (Wd A dT t) 0 0 := by
    intro n
    induction n with
    | zero =>
      intro t xv yv zv ch c I F jjPMJ hq hi hm kx
      exact absurd hm (Nat.not_lt_zero _)
    | succ n ih =>
      intro t xv yv zv ch c I F jjPMJ hq hi hm kx
      refine z_load X (x := c) rfl (List.Mem.tail _ (List.Mem.tail _ (List.Mem.tail _ (List.Mem.tail _ (List.Mem.tail _ (List.Mem.head _)))))) (z_load_n X (x := yv) rfl (List.Mem.tail _ (List.Mem.tail _ (List.Mem.head _))) (z_icmp_gt X (t := 68) rfl rfl ⟨by first | exact oq_e001bc0d hi.2.2.1 p0.1 | omega, by first | exact oq_b50efd5d hi.2.2.2 p1.2 | omega⟩ ⟨by first | exact oq_b3df2c6f hi.1.2.1 p1.1 | omega, by first | exact oq_8093112e hi.1.2.1 p1.2 | omega⟩ (fun g1001 => ?_) (fun g1001 => ?_)))
      ·
        refine WS_pq [0, 1, 2, 3, 4, 5] (lv' := [(0, .ref (A 25)), (1, .int (Int32.ofInt xv)), (2, .int (Int32.ofInt yv)), (3, .int (Int32.ofInt zv)), (4, .int (Int32.ofInt ch)), (5, .int (Int32.ofInt c))]) rfl ?_
        exact kx _ ch c I F jjPMJ hq (by first | exact ⟨And.intro (hi.2.1.1) (hi.2.1.2), oq_4ab5b7c2 hi.2.2.2 hi.1.2.1 g1001⟩ | omega)
      ·
        refine z_load X (x := c) rfl (List.Mem.tail _ (List.Mem.tail _ (List.Mem.tail _ (List.Mem.tail _ (List.Mem.tail _ (List.Mem.head _)))))) (z_bipush X rfl (z_and7 X rfl (by first | exact oq_d689b218 g1001 hi.2.2.1 hi.1.2.1 p1.2 p0.1 | omega) (z_load_n X (x := xv) rfl (List.Mem.tail _ (List.Mem.head _)) (z_bipush X rfl (z_and7 X rfl (by first | exact oq_b2427648 hi.1.1 p0.2 p0.1 | omega) (z_icmp_lt X (t := 40) rfl rfl ⟨by first | exact oq_e86162eb | omega, by first | exact oq_70086759 | omega⟩ ⟨by first | exact oq_e86162eb | omega, by first | exact oq_70086759 | omega⟩ (fun g1002 => ?_) (fun g1002 => ?_)))))))
        ·
          refine z_const X rfl (z_store X (lv' := [(6, .int (Int32.ofInt 0)), (0, .ref (A 25)), (1, .int (Int32.ofInt xv)), (2, .int (Int32.ofInt yv)), (3, .int (Int32.ofInt zv)), (4, .int (Int32.ofInt ch)), (5, .int (Int32.ofInt c))]) rfl (by decide) (fun _ h => h) (z_load X (x := 0) rfl (List.Mem.head _) (z_if_eq X (t := 62) rfl rfl (by decide) (fun g1003 => ?_) (fun g1003 => ?_))))
          ·
            refine z_inc X (x := c) (lv' := [(5, .int (Int32.ofInt (c + 1))), (6, .int (Int32.ofInt 0)), (0, .ref (A 25)), (1, .int (Int32.ofInt xv)), (2, .int (Int32.ofInt yv)), (3, .int (Int32.ofInt zv)), (4, .int (Int32.ofInt ch))]) rfl (by decide) (List.Mem.tail _ (List.Mem.tail _ (List.Mem.tail _ (List.Mem.tail _ (List.Mem.tail _ (List.Mem.tail _ (List.Mem.head _))))))) (fun _ h => h) (z_goto X (t := 6) rfl rfl (WS_pq [2, 3, 4, 5, 6, 0] (lv' := [(0, .ref (A 25)), (1, .int (Int32.ofInt xv)), (2, .int (Int32.ofInt yv)), (3, .int (Int32.ofInt zv)), (4, .int (Int32.ofInt ch)), (5, .int (Int32.ofInt (c + 1)))]) rfl ?_))
            exact ih _ xv yv zv ch (c + 1) I F jjPMJ (pnq_n hq (by first | exact oq_12a1f9e1 hi.2.2.1 p0.1 | omega) (fun q => by unfold bxC at q; omega)) (by first | exact ⟨And.intro (hi.1.1) (And.intro (hi.1.2.1) (hi.1.2.2)), And.intro (hi.2.1.1) (oq_03182e9e hi.2.1.2), oq_03182e9e hi.2.2.1, oq_667557f6 g1001 hi.1.2.1⟩ | omega) (by first | exact qk_me hm (by decide) (oq_e3e9adc4 g1001 hi.1.2.1 p1.2) | exact oq_5713aa9c g1001 hm hi.1.2.1 p1.2 | omega) kx
          ·
            refine z_aload_n X (x := A 25) rfl (List.Mem.tail _ (List.Mem.head _)) (z_load X (x := c) rfl (List.Mem.tail _ (List.Mem.tail _ (List.Mem.tail _ (List.Mem.tail _ (List.Mem.tail _ (List.Mem.tail _ (List.Mem.head _))))))) (z_load_n X (x := zv) rfl (List.Mem.tail _ (List.Mem.tail _ (List.Mem.tail _ (List.Mem.tail _ (List.Mem.head _))))) (zcV_i1 X E 25 (As := [.int (Int32.ofInt c), .int (Int32.ofInt zv)]) (st := []) rfl rfl rfl rfl (c3_put3 G I jjPMJ (by first | exact ⟨oq_12a1f9e1 hi.2.2.1 p0.1, oq_8b3d94f6 g1001 hi.1.2.1 p1.2⟩ | omega) (by first | exact ⟨oq_65661d22 hi.1.2.2 p2.1, oq_4da978b7 hi.1.2.2 p2.2⟩ | omega)) rfl (Nat.le_of_ble_eq_true rfl) (fun s1004 e1005 Is1004 Fs1004 JPMJ_s1004 hrs1004 hps1004 => ?_))))
            have Gs1004 := fm_tq F Fs1004 rfl rfl
            have hfc : pfC s (c : Int).toNat = e1005 := (pnq_g hq (by first | exact oq_12a1f9e1 hi.2.2.1 p0.1 | (clear g1003; omega) | omega)).symm.trans hps1004.1.1.symm
            refine z_load_n X (x := zv) rfl (List.Mem.tail _ (List.Mem.tail _ (List.Mem.tail _ (List.Mem.tail _ (List.Mem.head _))))) (z_icmp_eq X (t := 62) rfl rfl hrs1004 ⟨by first | exact oq_709dc04f hi.1.2.2 p2.1 | omega, by first | exact oq_b2f566bc hi.1.2.2 p2.2 | omega⟩ (fun g1006 => ?_) (fun g1006 => ?_))
            ·
              refine z_inc X (x := c) (lv' := [(5, .int (Int32.ofInt (c + 1))), (6, .int (Int32.ofInt 0)), (0, .ref (A 25)), (1, .int (Int32.ofInt xv)), (2, .int (Int32.ofInt yv)), (3, .int (Int32.ofInt zv)), (4, .int (Int32.ofInt ch))]) rfl (by decide) (List.Mem.tail _ (List.Mem.tail _ (List.Mem.tail _ (List.Mem.tail _ (List.Mem.tail _ (List.Mem.tail _ (List.Mem.head _))))))) (fun _ h => h) (z_goto X (t := 6) rfl rfl (WS_pq [2, 3, 4, 5, 6, 0] (lv' := [(0, .ref (A 25)), (1, .int (Int32.ofInt xv)), (2, .int (Int32.ofInt yv)), (3, .int (Int32.ofInt zv)), (4, .int (Int32.ofInt ch)), (5, .int (Int32.ofInt (c + 1)))]) rfl ?_))
              exact ih _ xv yv zv ch (c + 1) Is1004 Gs1004 JPMJ_s1004 (pnq_y hq (by first | exact oq_12a1f9e1 hi.2.2.1 p0.1 | (clear g1003; omega) | omega) (by unfold bxC; omega) (by rw [show z = zv by first | exact oq_19df71d2 g1003 | (clear g1003; omega) | omega]; exact upf_upd hps1004.2) (by rw [i01_f (fun q => q (by rw [hfc]; omega))]; omega)) (by first | exact ⟨And.intro (hi.1.1) (And.intro (hi.1.2.1) (hi.1.2.2)), And.intro (hi.2.1.1) (oq_03182e9e hi.2.1.2), oq_03182e9e hi.2.2.1, oq_667557f6 g1001 hi.1.2.1⟩ | omega) (by first | exact qk_me hm (by decide) (oq_e3e9adc4 g1001 hi.1.2.1 p1.2) | exact oq_95980327 g1003 | omega) kx
            ·
              refine z_inc X (x := ch) (lv' := [(4, .int (Int32.ofInt (ch + 1))), (6, .int (Int32.ofInt 0)), (0, .ref (A 25)), (1, .int (Int32.ofInt xv)), (2, .int (Int32.ofInt yv)), (3, .int (Int32.ofInt zv)), (5, .int (Int32.ofInt c))]) rfl (by decide) (List.Mem.tail _ (List.Mem.tail _ (List.Mem.tail _ (List.Mem.tail _ (List.Mem.tail _ (List.Mem.head _)))))) (fun _ h => h) (z_inc X (x := c) (lv' := [(5, .int (Int32.ofInt (c + 1))), (4, .int (Int32.ofInt (ch + 1))), (6, .int (Int32.ofInt 0)), (0, .ref (A 25)), (1, .int (Int32.ofInt xv)), (2, .int (Int32.ofInt yv)), (3, .int (Int32.ofInt zv))]) rfl (by decide) (List.Mem.tail _ (List.Mem.tail _ (List.Mem.tail _ (List.Mem.tail _ (List.Mem.tail _ (List.Mem.tail _ (List.Mem.head _))))))) (fun _ h => h) (z_goto X (t := 6) rfl rfl (WS_pq [3, 4, 5, 6, 1, 0] (lv' := [(0, .ref (A 25)), (1, .int (Int32.ofInt xv)), (2, .int (Int32.ofInt yv)), (3, .int (Int32.ofInt zv)), (4, .int (Int32.ofInt (ch + 1))), (5, .int (Int32.ofInt (c + 1)))]) rfl ?_)))
              exact ih _ xv yv zv (ch + 1) (c + 1) Is1004 Gs1004 JPMJ_s1004 (pnq_y hq (by first | exact oq_12a1f9e1 hi.2.2.1 p0.1 | (clear g1006 g1003; omega) | (clear g1003; omega) | omega) (by unfold bxC; omega) (by rw [show z = zv by first | exact oq_19df71d2 g1003 | (clear g1006 g1003; omega) | (clear g1003; omega) | omega]; exact upf_upd hps1004.2) (by rw [i01_t (by rw [hfc]; omega)])) (by first | exact ⟨And.intro (hi.1.1) (And.intro (hi.1.2.1) (hi.1.2.2)), And.intro (oq_54f49eb5 hi.2.1.1) (oq_8d48a029 hi.2.1.2), oq_03182e9e hi.2.2.1, oq_667557f6 g1001 hi.1.2.1⟩ | omega) (by first | exact qk_me hm (by decide) (oq_e3e9adc4 g1001 hi.1.2.1 p1.2) | exact oq_95980327 g1003 | omega) kx
        ·
          refine z_load X (x := c) rfl (List.Mem.tail _ (List.Mem.tail _ (List.Mem.tail _ (List.Mem.tail _ (List.Mem.tail _ (List.Mem.head _)))))) (z_bipush X rfl (z_and7 X rfl (by first | exact oq_d689b218 g1001 hi.2.2.1 hi.1.2.1 p1.2 p0.1 | omega) (z_load_n X (x := yv) rfl (List.Mem.tail _ (List.Mem.tail _ (List.Mem.head _))) (z_bipush X rfl (z_and7 X rfl (by first | exact oq_b2427648 hi.1.2.1 p1.2 p1.1 | omega) (z_icmp_gt X (t := 40) rfl rfl ⟨by first | exact oq_e86162eb | omega, by first | exact oq_70086759 | omega⟩ ⟨by first | exact oq_e86162eb | omega, by first | exact oq_70086759 | omega⟩ (fun g1007 => ?_) (fun g1007 => ?_)))))))
          ·
            refine z_const X rfl (z_store X (lv' := [(6, .int (Int32.ofInt 0)), (0, .ref (A 25)), (1, .int (Int32.ofInt xv)), (2, .int (Int32.ofInt yv)), (3, .int (Int32.ofInt zv)), (4, .int (Int32.ofInt ch)), (5, .int (Int32.ofInt c))]) rfl (by decide) (fun _ h => h) (z_load X (x := 0) rfl (List.Mem.head _) (z_if_eq X (t := 62) rfl rfl (by decide) (fun g1008 => ?_) (fun g1008 => ?_))))
            ·
              refine z_inc X (x := c) (lv' := [(5, .int (Int32.ofInt (c + 1))), (6, .int (Int32.ofInt 0)), (0, .ref (A 25)), (1, .int (Int32.ofInt xv)), (2, .int (Int32.ofInt yv)), (3, .int (Int32.ofInt zv)), (4, .int (Int32.ofInt ch))]) rfl (by decide) (List.Mem.tail _ (List.Mem.tail _ (List.Mem.tail _ (List.Mem.tail _ (List.Mem.tail _ (List.Mem.tail _ (List.Mem.head _))))))) (fun _ h => h) (z_goto X (t := 6) rfl rfl (WS_pq [2, 3, 4, 5, 6, 0] (lv' := [(0, .ref (A 25)), (1, .int (Int32.ofInt xv)), (2, .int (Int32.ofInt yv)), (3, .int (Int32.ofInt zv)), (4, .int (Int32.ofInt ch)), (5, .int (Int32.ofInt (c + 1)))]) rfl ?_))
              exact ih _ xv yv zv ch (c + 1) I F jjPMJ (pnq_n hq (by first | exact oq_12a1f9e1 hi.2.2.1 p0.1 | omega) (fun q => by unfold bxC at q; omega)) (by first | exact ⟨And.intro (hi.1.1) (And.intro (hi.1.2.1) (hi.1.2.2)), And.intro (hi.2.1.1) (oq_03182e9e hi.2.1.2), oq_03182e9e hi.2.2.1, oq_667557f6 g1001 hi.1.2.1⟩ | omega) (by first | exact qk_me hm (by decide) (oq_e3e9adc4 g1001 hi.1.2.1 p1.2) | exact oq_5713aa9c g1001 hm hi.1.2.1 p1.2 | omega) kx
            ·
              refine z_aload_n X (x := A 25) rfl (List.Mem.tail _ (List.Mem.head _)) (z_load X (x := c) rfl (List.Mem.tail _ (List.Mem.tail _ (List.Mem.tail _ (List.Mem.tail _ (List.Mem.tail _ (List.Mem.tail _ (List.Mem.head _))))))) (z_load_n X (x := zv) rfl (List.Mem.tail _ (List.Mem.tail _ (List.Mem.tail _ (List.Mem.tail _ (List.Mem.head _))))) (zcV_i1 X E 25 (As := [.int (Int32.ofInt c), .int (Int32.ofInt zv)]) (st := []) rfl rfl rfl rfl (c3_put3 G I jjPMJ (by first | exact ⟨oq_12a1f9e1 hi.2.2.1 p0.1, oq_8b3d94f6 g1001 hi.1.2.1 p1.2⟩ | omega) (by first | exact ⟨oq_65661d22 hi.1.2.2 p2.1, oq_4da978b7 hi.1.2.2 p2.2⟩ | omega)) rfl (Nat.le_of_ble_eq_true rfl) (fun s1009 e1010 Is1009 Fs1009 JPMJ_s1009 hrs1009 hps1009 => ?_))))
              have Gs1009 := fm_tq F Fs1009 rfl rfl
              have hfc : pfC s (c : Int).toNat = e1010 := (pnq_g hq (by first | exact oq_12a1f9e1 hi.2.2.1 p0.1 | (clear g1008; omega) | omega)).symm.trans hps1009.1.1.symm
              refine z_load_n X (x := zv) rfl (List.Mem.tail _ (List.Mem.tail _ (List.Mem.tail _ (List.Mem.tail _ (List.Mem.head _))))) (z_icmp_eq X (t := 62) rfl rfl hrs1009 ⟨by first | exact oq_709dc04f hi.1.2.2 p2.1 | omega, by first | exact oq_b2f566bc hi.1.2.2 p2.2 | omega⟩ (fun g1011 => ?_) (fun g1011 => ?_))
              ·
                refine z_inc X (x := c) (lv' := [(5, .int (Int32.ofInt (c + 1))), (6, .int (Int32.ofInt 0)), (0, .ref (A 25)), (1, .int (Int32.ofInt xv)), (2, .int (Int32.ofInt yv)), (3, .int (Int32.ofInt zv)), (4, .int (Int32.ofInt ch))]) rfl (by decide) (List.Mem.tail _ (List.Mem.tail _ (List.Mem.tail _ (List.Mem.tail _ (List.Mem.tail _ (List.Mem.tail _ (List.Mem.head _))))))) (fun _ h => h) (z_goto X (t := 6) rfl rfl (WS_pq [2, 3, 4, 5, 6, 0] (lv' := [(0, .ref (A 25)), (1, .int (Int32.ofInt xv)), (2, .int (Int32.ofInt yv)), (3, .int (Int32.ofInt zv)), (4, .int (Int32.ofInt ch)), (5, .int (Int32.ofInt (c + 1)))]) rfl ?_))
                exact ih _ xv yv zv ch (c + 1) Is1009 Gs1009 JPMJ_s1009 (pnq_y hq (by first | exact oq_12a1f9e1 hi.2.2.1 p0.1 | (clear g1008; omega) | omega) (by unfold bxC; omega) (by rw [show z = zv by first | exact oq_19df71d2 g1008 | (clear g1008; omega) | omega]; exact upf_upd hps1009.2) (by rw [i01_f (fun q => q (by rw [hfc]; omega))]; omega)) (by first | exact ⟨And.intro (hi.1.1) (And.intro (hi.1.2.1) (hi.1.2.2)), And.intro (hi.2.1.1) (oq_03182e9e hi.2.1.2), oq_03182e9e hi.2.2.1, oq_667557f6 g1001 hi.1.2.1⟩ | omega) (by first | exact qk_me hm (by decide) (oq_e3e9adc4 g1001 hi.1.2.1 p1.2) | exact oq_95980327 g1008 | omega) kx
              ·
                refine z_inc X (x := ch) (lv' := [(4, .int (Int32.ofInt (ch + 1))), (6, .int (Int32.ofInt 0)), (0, .ref (A 25)), (1, .int (Int32.ofInt xv)), (2, .int (Int32.ofInt yv)), (3, .int (Int32.ofInt zv)), (5, .int (Int32.ofInt c))]) rfl (by decide) (List.Mem.tail _ (List.Mem.tail _ (List.Mem.tail _ (List.Mem.tail _ (List.Mem.tail _ (List.Mem.head _)))))) (fun _ h => h) (z_inc X (x := c) (lv' := [(5, .int (Int32.ofInt (c + 1))), (4, .int (Int32.ofInt (ch + 1))), (6, .int (Int32.ofInt 0)), (0, .ref (A 25)), (1, .int (Int32.ofInt xv)), (2, .int (Int32.ofInt yv)), (3, .int (Int32.ofInt zv))]) rfl (by decide) (List.Mem.tail _ (List.Mem.tail _ (List.Mem.tail _ (List.Mem.tail _ (List.Mem.tail _ (List.Mem.tail _ (List.Mem.head _))))))) (fun _ h => h) (z_goto X (t := 6) rfl rfl (WS_pq [3, 4, 5, 6, 1, 0] (lv' := [(0, .ref (A 25)), (1, .int (Int32.ofInt xv)), (2, .int (Int32.ofInt yv)), (3, .int (Int32.ofInt zv)), (4, .int (Int32.ofInt (ch + 1))), (5, .int (Int32.ofInt (c + 1)))]) rfl ?_)))
                exact ih _ xv yv zv (ch + 1) (c + 1) Is1009 Gs1009 JPMJ_s1009 (pnq_y hq (by first | exact oq_12a1f9e1 hi.2.2.1 p0.1 | (clear g1011 g1008; omega) | (clear g1008; omega) | omega) (by unfold bxC; omega) (by rw [show z = zv by first | exact oq_19df71d2 g1008 | (clear g1011 g1008; omega) | (clear g1008; omega) | omega]; exact upf_upd hps1009.2) (by rw [i01_t (by rw [hfc]; omega)])) (by first | exact ⟨And.intro (hi.1.1) (And.intro (hi.1.2.1) (hi.1.2.2)), And.intro (oq_54f49eb5 hi.2.1.1) (oq_8d48a029 hi.2.1.2), oq_03182e9e hi.2.2.1, oq_667557f6 g1001 hi.1.2.1⟩ | omega) (by first | exact qk_me hm (by decide) (oq_e3e9adc4 g1001 hi.1.2.1 p1.2) | exact oq_95980327 g1008 | omega) kx
          ·
            refine z_const X rfl (z_goto X (t := 41) rfl rfl (z_store X (lv' := [(6, .int (Int32.ofInt 1)), (0, .ref (A 25)), (1, .int (Int32.ofInt xv)), (2, .int (Int32.ofInt yv)), (3, .int (Int32.ofInt zv)), (4, .int (Int32.ofInt ch)), (5, .int (Int32.ofInt c))]) rfl (by decide) (fun _ h => h) (z_load X (x := 1) rfl (List.Mem.head _) (z_if_eq X (t := 62) rfl rfl (by decide) (fun g1012 => ?_) (fun g1012 => ?_)))))
            ·
              refine z_inc X (x := c) (lv' := [(5, .int (Int32.ofInt (c + 1))), (6, .int (Int32.ofInt 1)), (0, .ref (A 25)), (1, .int (Int32.ofInt xv)), (2, .int (Int32.ofInt yv)), (3, .int (Int32.ofInt zv)), (4, .int (Int32.ofInt ch))]) rfl (by decide) (List.Mem.tail _ (List.Mem.tail _ (List.Mem.tail _ (List.Mem.tail _ (List.Mem.tail _ (List.Mem.tail _ (List.Mem.head _))))))) (fun _ h => h) (z_goto X (t := 6) rfl rfl (WS_pq [2, 3, 4, 5, 6, 0] (lv' := [(0, .ref (A 25)), (1, .int (Int32.ofInt xv)), (2, .int (Int32.ofInt yv)), (3, .int (Int32.ofInt zv)), (4, .int (Int32.ofInt ch)), (5, .int (Int32.ofInt (c + 1)))]) rfl ?_))
              exact ih _ xv yv zv ch (c + 1) I F jjPMJ (pnq_n hq (by first | exact oq_d7db0b16 g1012 | omega) (fun q => by unfold bxC at q; omega)) (by first | exact ⟨And.intro (hi.1.1) (And.intro (hi.1.2.1) (hi.1.2.2)), And.intro (hi.2.1.1) (oq_03182e9e hi.2.1.2), oq_03182e9e hi.2.2.1, oq_667557f6 g1001 hi.1.2.1⟩ | omega) (by first | exact qk_me hm (by decide) (oq_e3e9adc4 g1001 hi.1.2.1 p1.2) | exact oq_2f4e35de g1012 | omega) kx
            ·
              refine z_aload_n X (x := A 25) rfl (List.Mem.tail _ (List.Mem.head _)) (z_load X (x := c) rfl (List.Mem.tail _ (List.Mem.tail _ (List.Mem.tail _ (List.Mem.tail _ (List.Mem.tail _ (List.Mem.tail _ (List.Mem.head _))))))) (z_load_n X (x := zv) rfl (List.Mem.tail _ (List.Mem.tail _ (List.Mem.tail _ (List.Mem.tail _ (List.Mem.head _))))) (zcV_i1 X E 25 (As := [.int (Int32.ofInt c), .int (Int32.ofInt zv)]) (st := []) rfl rfl rfl rfl (c3_put3 G I jjPMJ (by first | exact ⟨oq_12a1f9e1 hi.2.2.1 p0.1, oq_8b3d94f6 g1001 hi.1.2.1 p1.2⟩ | omega) (by first | exact ⟨oq_65661d22 hi.1.2.2 p2.1, oq_4da978b7 hi.1.2.2 p2.2⟩ | omega)) rfl (Nat.le_of_ble_eq_true rfl) (fun s1013 e1014 Is1013 Fs1013 JPMJ_s1013 hrs1013 hps1013 => ?_))))
              have Gs1013 := fm_tq F Fs1013 rfl rfl
              have hfc : pfC s (c : Int).toNat = e1014 := (pnq_g hq (by first | exact oq_12a1f9e1 hi.2.2.1 p0.1 | (clear g1012; omega) | omega)).symm.trans hps1013.1.1.symm
              refine z_load_n X (x := zv) rfl (List.Mem.tail _ (List.Mem.tail _ (List.Mem.tail _ (List.Mem.tail _ (List.Mem.head _))))) (z_icmp_eq X (t := 62) rfl rfl hrs1013 ⟨by first | exact oq_709dc04f hi.1.2.2 p2.1 | omega, by first | exact oq_b2f566bc hi.1.2.2 p2.2 | omega⟩ (fun g1015 => ?_) (fun g1015 => ?_))
              ·
                refine z_inc X (x := c) (lv' := [(5, .int (Int32.ofInt (c + 1))), (6, .int (Int32.ofInt 1)), (0, .ref (A 25)), (1, .int (Int32.ofInt xv)), (2, .int (Int32.ofInt yv)), (3, .int (Int32.ofInt zv)), (4, .int (Int32.ofInt ch))]) rfl (by decide) (List.Mem.tail _ (List.Mem.tail _ (List.Mem.tail _ (List.Mem.tail _ (List.Mem.tail _ (List.Mem.tail _ (List.Mem.head _))))))) (fun _ h => h) (z_goto X (t := 6) rfl rfl (WS_pq [2, 3, 4, 5, 6, 0] (lv' := [(0, .ref (A 25)), (1, .int (Int32.ofInt xv)), (2, .int (Int32.ofInt yv)), (3, .int (Int32.ofInt zv)), (4, .int (Int32.ofInt ch)), (5, .int (Int32.ofInt (c + 1)))]) rfl ?_))
                exact ih _ xv yv zv ch (c + 1) Is1013 Gs1013 JPMJ_s1013 (pnq_y hq (by first | exact oq_12a1f9e1 hi.2.2.1 p0.1 | (clear g1012; omega) | omega) (by unfold bxC; omega) (by rw [show z = zv by first | exact oq_18d11be6 hi.1.2.2 | (clear g1012; omega) | omega]; exact upf_upd hps1013.2) (by rw [i01_f (fun q => q (by rw [hfc]; omega))]; omega)) (by first | exact ⟨And.intro (hi.1.1) (And.intro (hi.1.2.1) (hi.1.2.2)), And.intro (hi.2.1.1) (oq_03182e9e hi.2.1.2), oq_03182e9e hi.2.2.1, oq_667557f6 g1001 hi.1.2.1⟩ | omega) (by first | exact qk_me hm (by decide) (oq_e3e9adc4 g1001 hi.1.2.1 p1.2) | exact oq_5713aa9c g1001 hm hi.1.2.1 p1.2 | omega) kx
              ·
                refine z_inc X (x := ch) (lv' := [(4, .int (Int32.ofInt (ch + 1))), (6, .int (Int32.ofInt 1)), (0, .ref (A 25)), (1, .int (Int32.ofInt xv)), (2, .int (Int32.ofInt yv)), (3, .int (Int32.ofInt zv)), (5, .int (Int32.ofInt c))]) rfl (by decide) (List.Mem.tail _ (List.Mem.tail _ (List.Mem.tail _ (List.Mem.tail _ (List.Mem.tail _ (List.Mem.head _)))))) (fun _ h => h) (z_inc X (x := c) (lv' := [(5, .int (Int32.ofInt (c + 1))), (4, .int (Int32.ofInt (ch + 1))), (6, .int (Int32.ofInt 1)), (0, .ref (A 25)), (1, .int (Int32.ofInt xv)), (2, .int (Int32.ofInt yv)), (3, .int (Int32.ofInt zv))]) rfl (by decide) (List.Mem.tail _ (List.Mem.tail _ (List.Mem.tail _ (List.Mem.tail _ (List.Mem.tail _ (List.Mem.tail _ (List.Mem.head _))))))) (fun _ h => h) (z_goto X (t := 6) rfl rfl (WS_pq [3, 4, 5, 6, 1, 0] (lv' := [(0, .ref (A 25)), (1, .int (Int32.ofInt xv)), (2, .int (Int32.ofInt yv)), (3, .int (Int32.ofInt zv)), (4, .int (Int32.ofInt (ch + 1))), (5, .int (Int32.ofInt (c + 1)))]) rfl ?_)))
                exact ih _ xv yv zv (ch + 1) (c + 1) Is1013 Gs1013 JPMJ_s1013 (pnq_y hq (by first | exact oq_12a1f9e1 hi.2.2.1 p0.1 | (clear g1015 g1012; omega) | (clear g1012; omega) | omega) (by unfold bxC; omega) (by rw [show z = zv by first | exact oq_18d11be6 hi.1.2.2 | (clear g1015 g1012; omega) | (clear g1012; omega) | omega]; exact upf_upd hps1013.2) (by rw [i01_t (by rw [hfc]; omega)])) (by first | exact ⟨And.intro (hi.1.1) (And.intro (hi.1.2.1) (hi.1.2.2)), And.intro (oq_54f49eb5 hi.2.1.1) (oq_8d48a029 hi.2.1.2), oq_03182e9e hi.2.2.1, oq_667557f6 g1001 hi.1.2.1⟩ | omega) (by first | exact qk_me hm (by decide) (oq_e3e9adc4 g1001 hi.1.2.1 p1.2) | exact oq_5713aa9c g1001 hm hi.1.2.1 p1.2 | omega) kx
  refine z_const X rfl (z_store X (lv' := [(4, .int (Int32.ofInt 0)), (0, .ref (A 25)), (1, .int (Int32.ofInt x)), (2, .int (Int32.ofInt y)), (3, .int (Int32.ofInt z))]) rfl (by decide) (fun _ h => h) (z_load_n X (x := x) rfl (List.Mem.tail _ (List.Mem.tail _ (List.Mem.head _))) (z_store X (lv' := [(5, .int (Int32.ofInt x)), (4, .int (Int32.ofInt 0)), (0, .ref (A 25)), (1, .int (Int32.ofInt x)), (2, .int (Int32.ofInt y)), (3, .int (Int32.ofInt z))]) rfl (by decide) (fun _ h => h) (WS_pq [2, 3, 4, 5, 1, 0] (lv' := [(0, .ref (A 25)), (1, .int (Int32.ofInt x)), (2, .int (Int32.ofInt y)), (3, .int (Int32.ofInt z)), (4, .int (Int32.ofInt 0)), (5, .int (Int32.ofInt x))]) rfl (L6 ((128 - x : Int).toNat + 1) s x y z 0 x I F jPMJ (pnq_0 (by first | exact p0.1 | omega) (fun c h0 h1 q => by unfold bxC at q; omega)) (by first | exact ⟨And.intro (by decide) (And.intro (by decide) (by decide)), And.intro (by decide) (p0.1), by decide, oq_03182e9e p3⟩ | exact oq_8632ea07 p3 p0.1 | omega) (Nat.lt_succ_self _) ?_)))))
  intro s1 x2 x3 Is1 Fs1 JPMJ_s1 Qs1 hs1
  refine z_load X (x := x2) rfl (List.Mem.tail _ (List.Mem.tail _ (List.Mem.tail _ (List.Mem.tail _ (List.Mem.head _))))) ?_
  exact w_iret X.1 q hRt rfl (ax_d X (show cdA 29 70 = some (.ireturn, 1, 0, 0, 0) from rfl)) (Nat.zero_le _) (Nat.zero_le _) ⟨_, rfl, Is1, Fs1, JPMJ_s1, x2, rfl, ⟨by first | exact oq_fa4e5087 hs1.1.1 | omega, by first | exact oq_630dfc21 hs1.1.2 hs1.2 p1.2 | omega⟩, (pnq_z Qs1 (by first | exact oq_b50d5e62 hs1.2 p1.1 | omega) (by first | exact oq_44a73c79 hs1.2 p1.2 | omega) (fun c hc q => by unfold bxC at q; omega))⟩
set_option maxRecDepth 4000 in
theorem cs_paint6 (G : GX l s0 D tys a0 dT) (I : Bd s) (jPMJ : PMJ s) {u v w : Int} (p0 : rng u) (p1 : rng v) (p2 : rng w) : CT l s0 D A dT 144 (rmN 144) [.ref (A 0), .int (Int32.ofInt u), .int (Int32.ofInt v), .int (Int32.ofInt w)] s (fun o t => Bd t ∧ Fm [] [21, 1022, 1023] s t ∧ PMJ t ∧ ((∃ e, o = .inl (some (.int (Int32.ofInt e))) ∧ rng e ∧ ((0 ≤ u ∧ u ≤ 127 ∧ 0 ≤ v ∧ v ≤ 127) ∧ (-1 ≤ w ∧ w ≤ 7) ∧ u / 64 = v / 64 ∧ u % 8 ≤ v % 8 ∧ u / 8 % 8 ≤ v / 8 % 8 ∧ PNQ (bxC u v) (pfC s) (pfC t) w 128 e)) ∨ ∃ x : Nat, o = .inr (exN x) ∧ (((x = 2 ∧ (u < 0 ∨ 127 < u ∨ v < 0 ∨ 127 < v)) ∨ (x = 0 ∧ (0 ≤ u ∧ u ≤ 127 ∧ 0 ≤ v ∧ v ≤ 127) ∧ (w < -1 ∨ 7 < w ∨ u / 64 ≠ v / 64 ∨ v % 8 < u % 8 ∨ v / 8 % 8 < u / 8 % 8))) ∧ SAM 21 s t))) := by
  refine ct_ofX G (by decide) (Nat.le_of_ble_eq_true rfl) (fun k X E ET hRt hXt q => ?_)
  show WS k 0 [(0, .ref (A 0)), (1, .int (Int32.ofInt u)), (2, .int (Int32.ofInt v)), (3, .int (Int32.ofInt w))] [] _ 0 0
  have F : Fm [] [21, 1022, 1023] s s := fm_rf _ _ s
  have aw0_21 : SAM 21 s s := sam_rf
  refine z_aload_n X (x := A 0) rfl (List.Mem.head _) (z_load_n X (x := u) rfl (List.Mem.tail _ (List.Mem.head _)) (z_callV X 0 (rm := rmN 181) (As := [.int (Int32.ofInt u)]) (st := []) rfl rfl (by decide) rfl (by rw [E.1, E.2.1, E.2.2.1]; exact cs_needCell6 G I (by first | exact ⟨p0.1, p0.2⟩ | omega)) ⟨by rw [E.2.2.2]; exact (show (rmN 181).frames + 1 ≤ (rmN 144).frames by decide), by rw [E.2.2.2]; exact (show 8 + (mNL (miB 181) + 11) + (rmN 181).locals ≤ (rmN 144).locals by decide), by rw [E.2.2.2]; exact (show 0 + 1 ≤ 4 by decide), by rw [E.2.2.2]; exact (show 0 + 6 ≤ 24 by decide)⟩ (Nat.le_of_ble_eq_true rfl) (fun vv s1 hq => ?_) (fun ee s1 hq => ?_)))
  rotate_left
  · obtain ⟨Is1, Fs1, (⟨hv, hps1⟩ | ⟨xx, hv, hps1⟩)⟩ := hq
    · cases hv
    · cases hv
      have Gs1 := fm_tq F Fs1 rfl rfl
      have JPMJ_s1 : PMJ s1 := PMJ_fm Fs1 (by decide) jPMJ
      have aws1_21 : SAM 21 s s1 := sam_ts aw0_21 (sam_fm Fs1 (by decide))
      exact x_out X.1 q (fun x hx => (hXt x hx).elim) (show 1 ≤ 4 by decide) (show 6 ≤ 24 by decide) ⟨_, rfl, Is1, Gs1, JPMJ_s1, Or.inr ⟨xx, rfl, ⟨by first | exact oq_d028a323 hps1.2 hps1.1 | omega, aws1_21⟩⟩⟩
  obtain ⟨Is1, Fs1, (⟨hv, hps1⟩ | ⟨xx, hv, hps1⟩)⟩ := hq
  rotate_left
  · cases hv
  cases hv
  have Gs1 := fm_tq F Fs1 rfl rfl
  have JPMJ_s1 : PMJ s1 := PMJ_fm Fs1 (by decide) jPMJ
  have aws1_21 : SAM 21 s s1 := sam_ts aw0_21 (sam_fm Fs1 (by decide))
  show WS k 5 [(0, .ref (A 0)), (1, .int (Int32.ofInt u)), (2, .int (Int32.ofInt v)), (3, .int (Int32.ofInt w))] [] (Wd A dT s1) 1 6
  refine z_aload_n X (x := A 0) rfl (List.Mem.head _) (z_load_n X (x := v) rfl (List.Mem.tail _ (List.Mem.tail _ (List.Mem.head _))) (z_callV X 0 (rm := rmN 181) (As := [.int (Int32.ofInt v)]) (st := []) rfl rfl (by decide) rfl (by rw [E.1, E.2.1, E.2.2.1]; exact cs_needCell6 G Is1 (by first | exact ⟨p1.1, p1.2⟩ | omega)) ⟨by rw [E.2.2.2]; exact (show (rmN 181).frames + 1 ≤ (rmN 144).frames by decide), by rw [E.2.2.2]; exact (show 8 + (mNL (miB 181) + 11) + (rmN 181).locals ≤ (rmN 144).locals by decide), by rw [E.2.2.2]; exact (show 1 + 1 ≤ 4 by decide), by rw [E.2.2.2]; exact (show 6 + 6 ≤ 24 by decide)⟩ (Nat.le_of_ble_eq_true rfl) (fun vv s3 hq => ?_) (fun ee s3 hq => ?_)))
  rotate_left
  · obtain ⟨Is3, Fs3, (⟨hv, hps3⟩ | ⟨xx, hv, hps3⟩)⟩ := hq
    · cases hv
    · cases hv
      have Gs3 := fm_tq Gs1 Fs3 rfl rfl
      have JPMJ_s3 : PMJ s3 := PMJ_fm Fs3 (by decide) JPMJ_s1
      have aws3_21 : SAM 21 s s3 := sam_ts aws1_21 (sam_fm Fs3 (by decide))
      exact x_out X.1 q (fun x hx => (hXt x hx).elim) (show (1 + 1) ≤ 4 by decide) (show (6 + 6) ≤ 24 by decide) ⟨_, rfl, Is3, Gs3, JPMJ_s3, Or.inr ⟨xx, rfl, ⟨by first | exact oq_c8390106 hps3.2 hps3.1 | (clear hps1; omega) | omega, aws3_21⟩⟩⟩
  obtain ⟨Is3, Fs3, (⟨hv, hps3⟩ | ⟨xx, hv, hps3⟩)⟩ := hq
  rotate_left
  · cases hv
  cases hv
  have Gs3 := fm_tq Gs1 Fs3 rfl rfl
  have JPMJ_s3 : PMJ s3 := PMJ_fm Fs3 (by decide) JPMJ_s1
  have aws3_21 : SAM 21 s s3 := sam_ts aws1_21 (sam_fm Fs3 (by decide))
  show WS k 10 [(0, .ref (A 0)), (1, .int (Int32.ofInt u)), (2, .int (Int32.ofInt v)), (3, .int (Int32.ofInt w))] [] (Wd A dT s3) (1 + 1) (6 + 6)
  refine z_aload_n X (x := A 0) rfl (List.Mem.head _) (z_load_n X (x := w) rfl (List.Mem.tail _ (List.Mem.tail _ (List.Mem.tail _ (List.Mem.head _)))) (z_const X rfl (z_bipush X rfl (z_callV X 0 (rm := rmN 184) (As := [.int (Int32.ofInt w), .int (Int32.ofInt (-1)), .int (Int32.ofInt 7)]) (st := []) rfl rfl (by decide) rfl (by rw [E.1, E.2.1, E.2.2.1]; exact cs_needWithin2 G Is3 (by first | exact ⟨p2.1, p2.2⟩ | omega) (by first | exact ⟨by decide, by decide⟩ | omega) (by first | exact ⟨by decide, by decide⟩ | omega)) ⟨by rw [E.2.2.2]; exact (show (rmN 184).frames + 1 ≤ (rmN 144).frames by decide), by rw [E.2.2.2]; exact (show 8 + (mNL (miB 184) + 11) + (rmN 184).locals ≤ (rmN 144).locals by decide), by rw [E.2.2.2]; exact (show (1 + 1) + 1 ≤ 4 by decide), by rw [E.2.2.2]; exact (show (6 + 6) + 6 ≤ 24 by decide)⟩ (Nat.le_of_ble_eq_true rfl) (fun vv s5 hq => ?_) (fun ee s5 hq => ?_)))))
  rotate_left
  · obtain ⟨Is5, Fs5, (⟨hv, hps5⟩ | ⟨xx, hv, hps5⟩)⟩ := hq
    · cases hv
    · cases hv
      have Gs5 := fm_tq Gs3 Fs5 rfl rfl
      have JPMJ_s5 : PMJ s5 := PMJ_fm Fs5 (by decide) JPMJ_s3
      have aws5_21 : SAM 21 s s5 := sam_ts aws3_21 (sam_fm Fs5 (by decide))
      exact x_out X.1 q (fun x hx => (hXt x hx).elim) (show ((1 + 1) + 1) ≤ 4 by decide) (show ((6 + 6) + 6) ≤ 24 by decide) ⟨_, rfl, Is5, Gs5, JPMJ_s5, Or.inr ⟨xx, rfl, ⟨by first | exact oq_ef4185e7 hps5.2 hps5.1 hps3.2 hps3.1 hps1.2 hps1.1 | (clear hps3 hps1; omega) | (clear hps1; omega) | omega, aws5_21⟩⟩⟩
  obtain ⟨Is5, Fs5, (⟨hv, hps5⟩ | ⟨xx, hv, hps5⟩)⟩ := hq
  rotate_left
  · cases hv
  cases hv
  have Gs5 := fm_tq Gs3 Fs5 rfl rfl
  have JPMJ_s5 : PMJ s5 := PMJ_fm Fs5 (by decide) JPMJ_s3
  have aws5_21 : SAM 21 s s5 := sam_ts aws3_21 (sam_fm Fs5 (by decide))
  show WS k 18 [(0, .ref (A 0)), (1, .int (Int32.ofInt u)), (2, .int (Int32.ofInt v)), (3, .int (Int32.ofInt w))] [] (Wd A dT s5) ((1 + 1) + 1) ((6 + 6) + 6)
  refine z_load_n X (x := u) rfl (List.Mem.tail _ (List.Mem.head _)) (z_bipush X rfl (z_quot X rfl (by first | exact hps1.1 | omega) ⟨by first | exact p0.1 | omega, by first | exact p0.2 | omega⟩ (by decide) (by decide) (z_load_n X (x := v) rfl (List.Mem.tail _ (List.Mem.tail _ (List.Mem.head _))) (z_bipush X rfl (z_quot X rfl (by first | exact hps3.1 | omega) ⟨by first | exact p1.1 | omega, by first | exact p1.2 | omega⟩ (by decide) (by decide) (z_icmp_ne X (t := 55) rfl rfl ⟨by first | exact oq_e5b8e207 hps1.1 | omega, by first | exact oq_874c0b28 hps1.2 | omega⟩ ⟨by first | exact oq_e5b8e207 hps3.1 | omega, by first | exact oq_874c0b28 hps3.2 | omega⟩ (fun g7 => ?_) (fun g7 => ?_)))))))
  ·
    exact z_throw G X E ET hXt q (st := []) rfl (by decide) (by decide) (Nat.le_of_ble_eq_true rfl) (show ((1 + 1) + 1) + 1 ≤ 4 by decide) (show ((6 + 6) + 6) + 6 ≤ 24 by decide) (show ((1 + 1) + 1) + 1 ≤ 4 by decide) (show ((6 + 6) + 6) + 6 ≤ 24 by decide) ⟨_, rfl, Is5, Gs5, JPMJ_s5, Or.inr ⟨0, rfl, ⟨by first | exact oq_71697a3a g7 hps3.2 hps3.1 hps1.2 hps1.1 | (clear g7 hps5 hps3 hps1; omega) | (clear hps5 hps3 hps1; omega) | omega, aws5_21⟩⟩⟩
  ·
    refine z_load_n X (x := u) rfl (List.Mem.tail _ (List.Mem.head _)) (z_bipush X rfl (z_and7 X rfl (by first | exact oq_0664e7f0 hps1.2 hps1.1 | (clear hps5 hps3 hps1; omega) | (clear hps3 hps1; omega) | omega) (z_load_n X (x := v) rfl (List.Mem.tail _ (List.Mem.tail _ (List.Mem.head _))) (z_bipush X rfl (z_and7 X rfl (by first | exact oq_0664e7f0 hps3.2 hps3.1 | (clear hps5 hps3 hps1; omega) | (clear hps3 hps1; omega) | omega) (z_icmp_gt X (t := 55) rfl rfl ⟨by first | exact oq_e86162eb | omega, by first | exact oq_70086759 | omega⟩ ⟨by first | exact oq_e86162eb | omega, by first | exact oq_70086759 | omega⟩ (fun g8 => ?_) (fun g8 => ?_)))))))
    ·
      exact z_throw G X E ET hXt q (st := []) rfl (by decide) (by decide) (Nat.le_of_ble_eq_true rfl) (show ((1 + 1) + 1) + 1 ≤ 4 by decide) (show ((6 + 6) + 6) + 6 ≤ 24 by decide) (show ((1 + 1) + 1) + 1 ≤ 4 by decide) (show ((6 + 6) + 6) + 6 ≤ 24 by decide) ⟨_, rfl, Is5, Gs5, JPMJ_s5, Or.inr ⟨0, rfl, ⟨by first | exact oq_be5e2ef6 g8 hps3.2 hps3.1 hps1.2 hps1.1 | (clear hps5 hps3 hps1; omega) | (clear hps3 hps1; omega) | omega, aws5_21⟩⟩⟩
    ·
      refine z_load_n X (x := u) rfl (List.Mem.tail _ (List.Mem.head _)) (z_const X rfl (z_bshr X rfl (z_anyV (fun y9 hy9 ey9 => ?_))))
      have hs10 := shr_3 (x := u) (by first | exact oq_0664e7f0 hps1.2 hps1.1 | (clear hps5 hps3 hps1; omega) | (clear hps3 hps1; omega) | omega) hy9 ey9
      refine z_bipush X rfl (z_and7 X rfl (by first | exact oq_a4d872fc hs10 hps1.2 hps1.1 | (clear hps5 hps3 hps1; omega) | (clear hps3 hps1; omega) | omega) (z_load_n X (x := v) rfl (List.Mem.tail _ (List.Mem.tail _ (List.Mem.head _))) (z_const X rfl (z_bshr X rfl (z_anyV (fun y11 hy11 ey11 => ?_))))))
      have hs12 := shr_3 (x := v) (by first | exact oq_0664e7f0 hps3.2 hps3.1 | (clear hps5 hps3 hps1; omega) | (clear hps3 hps1; omega) | omega) hy11 ey11
      refine z_bipush X rfl (z_and7 X rfl (by first | exact oq_a4d872fc hs12 hps3.2 hps3.1 | (clear hps5 hps3 hps1; omega) | (clear hps3 hps1; omega) | omega) (z_icmp_le X (t := 65) rfl rfl ⟨by first | exact oq_e86162eb | omega, by first | exact oq_70086759 | omega⟩ ⟨by first | exact oq_e86162eb | omega, by first | exact oq_70086759 | omega⟩ (fun g13 => ?_) (fun g13 => ?_)))
      ·
        refine z_aload_n X (x := A 0) rfl (List.Mem.head _) (s_getR X 0 rfl (c518_ok rfl) rfl rfl (z_load_n X (x := u) rfl (List.Mem.tail _ (List.Mem.head _)) (z_load_n X (x := v) rfl (List.Mem.tail _ (List.Mem.tail _ (List.Mem.head _))) (z_load_n X (x := w) rfl (List.Mem.tail _ (List.Mem.tail _ (List.Mem.tail _ (List.Mem.head _)))) (z_callV X 25 (rm := rmN 29) (As := [.int (Int32.ofInt u), .int (Int32.ofInt v), .int (Int32.ofInt w)]) (st := []) rfl rfl (by decide) rfl (by rw [E.1, E.2.1, E.2.2.1]; exact c3_putAll6 G Is5 JPMJ_s5 (by first | exact ⟨hps1.1, hps1.2⟩ | omega) (by first | exact ⟨hps3.1, hps3.2⟩ | omega) (by first | exact ⟨hps5.1, hps5.2⟩ | omega) (by first | (clear hps5 hps3 hps1; omega) | (clear hps3 hps1; omega) | omega)) ⟨by rw [E.2.2.2]; exact (show (rmN 29).frames + 1 ≤ (rmN 144).frames by decide), by rw [E.2.2.2]; exact (show 8 + (mNL (miB 29) + 11) + (rmN 29).locals ≤ (rmN 144).locals by decide), by rw [E.2.2.2]; exact (show ((1 + 1) + 1) + 0 ≤ 4 by decide), by rw [E.2.2.2]; exact (show ((6 + 6) + 6) + 0 ≤ 24 by decide)⟩ (Nat.le_of_ble_eq_true rfl) (fun vv s14 hq => ?_) (fun ee s14 hq => ?_))))))
        rotate_left
        · obtain ⟨Is14, Fs14, JPMJ_s14, e15, hv, hrs14, hps14⟩ := hq; cases hv
        obtain ⟨Is14, Fs14, JPMJ_s14, e15, hv, hrs14, hps14⟩ := hq
        cases hv
        have Gs14 := fm_tq Gs5 Fs14 rfl rfl
        show WS k 75 [(0, .ref (A 0)), (1, .int (Int32.ofInt u)), (2, .int (Int32.ofInt v)), (3, .int (Int32.ofInt w))] [.int (Int32.ofInt e15)] (Wd A dT s14) ((1 + 1) + 1) ((6 + 6) + 6)
        exact w_iret X.1 q hRt rfl (ax_d X (show cdA 144 75 = some (.ireturn, 1, 0, 0, 0) from rfl)) (show ((1 + 1) + 1) ≤ 4 by decide) (show ((6 + 6) + 6) ≤ 24 by decide) ⟨_, rfl, Is14, Gs14, JPMJ_s14, Or.inl ⟨e15, rfl, hrs14, ⟨by first | exact ⟨hps1.1, hps1.2, hps3.1, hps3.2⟩ | omega, by first | exact ⟨hps5.1, hps5.2⟩ | omega, by first | exact g7 | omega, by first | exact g8 | omega, by first | (clear hps5 hps3 hps1; omega) | (clear hps3 hps1; omega) | omega, pnq_s hps14 (show pfC s5 = pfC s from funext aws5_21) rfl⟩⟩⟩
      ·
        exact z_throw G X E ET hXt q (st := []) rfl (by decide) (by decide) (Nat.le_of_ble_eq_true rfl) (show ((1 + 1) + 1) + 1 ≤ 4 by decide) (show ((6 + 6) + 6) + 6 ≤ 24 by decide) (show ((1 + 1) + 1) + 1 ≤ 4 by decide) (show ((6 + 6) + 6) + 6 ≤ 24 by decide) ⟨_, rfl, Is5, Gs5, JPMJ_s5, Or.inr ⟨0, rfl, ⟨by first | (clear hps5 hps3 hps1; omega) | (clear hps3 hps1; omega) | omega, aws5_21⟩⟩⟩
set_option maxRecDepth 4000 in
theorem k_paint6 (G : GX l s0 D tys a0 dT) (I : Bd s) {x y z : Int} (p0 : rng x) (p1 : rng y) (p2 : rng z) : CT l s0 D A dT 235 (rmN 235) [.ref (A 179), .int (Int32.ofInt x), .int (Int32.ofInt y), .int (Int32.ofInt z)] s (fun o t => Bd t ∧ Fm [73] [228] s t ∧ ∃ e, o = .inl (some (.int (Int32.ofInt e))) ∧ rng e ∧ ((((0 ≤ x ∧ x ≤ 127 ∧ 0 ≤ y ∧ y ≤ 127) ∧ (-1 ≤ z ∧ z ≤ 7) ∧ x / 64 = y / 64 ∧ x % 8 ≤ y % 8 ∧ x / 8 % 8 ≤ y / 8 % 8) ∧ iI t 73 = 0 ∧ PNQ (bxC x y) (pfM s) (pfM t) z 128 e) ∨ (((x < 0 ∨ 127 < x ∨ y < 0 ∨ 127 < y) ∧ iI t 73 = 1 ∨ ((0 ≤ x ∧ x ≤ 127 ∧ 0 ≤ y ∧ y ≤ 127) ∧ (z < -1 ∨ 7 < z ∨ x / 64 ≠ y / 64 ∨ y % 8 < x % 8 ∨ y / 8 % 8 < x / 8 % 8)) ∧ iI t 73 = 2) ∧ SAM 228 s t))) := by
  refine ct_of G (by decide) (Nat.le_of_ble_eq_true rfl) (fun k X E hRt hXt q => ?_)
  show WS k 0 [(0, .ref (A 179)), (1, .int (Int32.ofInt x)), (2, .int (Int32.ofInt y)), (3, .int (Int32.ofInt z))] [] _ 0 0
  have F : Fm [73] [228] s s := fm_rf _ _ s
  have aw0_228 : SAM 228 s s := sam_rf
  have b1 := bi_73 I
  have L114 : ∀ (n : Nat) (t : PS) (xv yv zv ch c : Int), Bd t → Fm [73] [228] s t → (PNQ (bxC x y) (pfM s) (pfM t) z c ch) → ((xv = x ∧ yv = y ∧ zv = z) ∧ ((0 ≤ x ∧ x ≤ 127 ∧ 0 ≤ y ∧ y ≤ 127) ∧ (-1 ≤ z ∧ z ≤ 7) ∧ x / 64 = y / 64 ∧ x % 8 ≤ y % 8 ∧ x / 8 % 8 ≤ y / 8 % 8) ∧ (0 ≤ ch ∧ ch ≤ c) ∧ (64 * (x / 64) ≤ c ∧ c ≤ 64 * (x / 64) + 64) ∧ iI t 73 = 0) → (128 - c : Int).toNat < n → (∀ (t' : PS) (ch' c' : Int), Bd t' → Fm [73] [228] s t' → (PNQ (bxC x y) (pfM s) (pfM t') z c' ch') → (((0 ≤ x ∧ x ≤ 127 ∧ 0 ≤ y ∧ y ≤ 127) ∧ (-1 ≤ z ∧ z ≤ 7) ∧ x / 64 = y / 64 ∧ x % 8 ≤ y % 8 ∧ x / 8 % 8 ≤ y / 8 % 8) ∧ (0 ≤ ch' ∧ ch' ≤ c') ∧ c' = 64 * (x / 64) + 64 ∧ iI t' 73 = 0) → WS k 214 [(0, .ref (A 179)), (1, .int (Int32.ofInt xv)), (2, .int (Int32.ofInt yv)), (3, .int (Int32.ofInt zv)), (4, .int (Int32.ofInt ch')), (5, .int (Int32.ofInt c'))] [] (Wd A dT t') 0 0) → WS k 114 [(0, .ref (A 179)), (1, .int (Int32.ofInt xv)), (2, .int (Int32.ofInt yv)), (3, .int (Int32.ofInt zv)), (4, .int (Int32.ofInt ch)), (5, .int (Int32.ofInt c))] [] (Wd A dT t) 0 0 := by
    intro n
    induction n with
    | zero =>
      intro t xv yv zv ch c I F hq hi hm kx
      exact absurd hm (Nat.not_lt_zero _)
    | succ n ih =>
      intro t xv yv zv ch c I F hq hi hm kx
      have b1001 := bi_73 I
      refine z_load X (x := c) rfl (List.Mem.tail _ (List.Mem.tail _ (List.Mem.tail _ (List.Mem.tail _ (List.Mem.tail _ (List.Mem.head _)))))) (z_bipush X rfl (z_load_n X (x := xv) rfl (List.Mem.tail _ (List.Mem.head _)) (z_bipush X rfl (z_quot X rfl (by first | exact oq_e4757433 hi.1.1 hi.2.1.1.1 | omega) ⟨by first | exact oq_b3df2c6f hi.1.1 hi.2.1.1.1 | omega, by first | exact oq_8093112e hi.1.1 hi.2.1.1.2.1 | omega⟩ (by decide) (by decide) (z_mul X rfl (z_bipush X rfl (z_add X rfl (z_icmp_ge X (t := 214) rfl rfl ⟨by first | exact oq_e001bc0d hi.2.2.1.2 hi.2.2.1.1 | omega, by first | exact oq_58735585 hi.2.2.2.1.2 hi.2.1.1.2.1 | omega⟩ ⟨by first | exact oq_3e4a24c6 hi.2.1.1.1 hi.1.1 | omega, by first | exact oq_5fd7680f hi.2.1.1.2.1 hi.1.1 | omega⟩ (fun g1002 => ?_) (fun g1002 => ?_)))))))))
      ·
        refine WS_pq [0, 1, 2, 3, 4, 5] (lv' := [(0, .ref (A 179)), (1, .int (Int32.ofInt xv)), (2, .int (Int32.ofInt yv)), (3, .int (Int32.ofInt zv)), (4, .int (Int32.ofInt ch)), (5, .int (Int32.ofInt c))]) rfl ?_
        exact kx _ ch c I F hq (by first | exact ⟨And.intro (And.intro (hi.2.1.1.1) (And.intro (hi.2.1.1.2.1) (And.intro (hi.2.1.1.2.2.1) (hi.2.1.1.2.2.2)))) (And.intro (And.intro (hi.2.1.2.1.1) (hi.2.1.2.1.2)) (And.intro (hi.2.1.2.2.1) (And.intro (hi.2.1.2.2.2.1) (hi.2.1.2.2.2.2)))), And.intro (hi.2.2.1.1) (hi.2.2.1.2), by omega, hi.2.2.2.2⟩ | omega)
      ·
        refine z_load X (x := c) rfl (List.Mem.tail _ (List.Mem.tail _ (List.Mem.tail _ (List.Mem.tail _ (List.Mem.tail _ (List.Mem.head _)))))) (z_bipush X rfl (z_mod X rfl (by first | exact oq_12a1f9e1 hi.2.2.1.2 hi.2.2.1.1 | omega) ⟨by first | exact oq_e001bc0d hi.2.2.1.2 hi.2.2.1.1 | omega, by first | exact oq_58735585 hi.2.2.2.1.2 hi.2.1.1.2.1 | omega⟩ (by decide) (by decide) (z_load_n X (x := xv) rfl (List.Mem.tail _ (List.Mem.head _)) (z_bipush X rfl (z_mod X rfl (by first | exact oq_e4757433 hi.1.1 hi.2.1.1.1 | omega) ⟨by first | exact oq_b3df2c6f hi.1.1 hi.2.1.1.1 | omega, by first | exact oq_8093112e hi.1.1 hi.2.1.1.2.1 | omega⟩ (by decide) (by decide) (z_load_n X (x := yv) rfl (List.Mem.tail _ (List.Mem.tail _ (List.Mem.head _))) (z_bipush X rfl (z_mod X rfl (by first | exact oq_e4757433 hi.1.2.1 hi.2.1.1.2.2.1 | omega) ⟨by first | exact oq_b3df2c6f hi.1.2.1 hi.2.1.1.2.2.1 | omega, by first | exact oq_8093112e hi.1.2.1 hi.2.1.1.2.2.2 | omega⟩ (by decide) (by decide) (z_callS X (rm := rmN 188) (As := [.int (Int32.ofInt (c % 8)), .int (Int32.ofInt (xv % 8)), .int (Int32.ofInt (yv % 8))]) (st := []) rfl rfl (by rw [E.1, E.2.1, E.2.2.1]; exact k_in2 G I (by first | exact ⟨oq_e86162eb, oq_70086759⟩ | omega) (by first | exact ⟨oq_e86162eb, oq_70086759⟩ | omega) (by first | exact ⟨oq_e86162eb, oq_70086759⟩ | omega)) ⟨by rw [E.2.2.2]; exact (show (rmN 188).frames + 1 ≤ (rmN 235).frames by decide), by rw [E.2.2.2]; exact (show 8 + (mNL (miB 188) + 11) + (rmN 188).locals ≤ (rmN 235).locals by decide), by rw [E.2.2.2]; exact (show 0 + (rmN 188).cells ≤ (rmN 235).cells by decide), by rw [E.2.2.2]; exact (show 0 + (rmN 188).slots ≤ (rmN 235).slots by decide)⟩ (Nat.le_of_ble_eq_true rfl) (fun vv s1003 hq => ?_) (fun ee s1003 hq => ?_))))))))))
        rotate_left
        · obtain ⟨rfl, e1004, hv, hrs1003, hps1003⟩ := hq; cases hv
        obtain ⟨rfl, e1004, hv, hrs1003, hps1003⟩ := hq
        cases hv
        show WS k 145 [(0, .ref (A 179)), (1, .int (Int32.ofInt xv)), (2, .int (Int32.ofInt yv)), (3, .int (Int32.ofInt zv)), (4, .int (Int32.ofInt ch)), (5, .int (Int32.ofInt c))] [.int (Int32.ofInt e1004)] (Wd A dT t) 0 0
        refine z_if_eq X (t := 208) rfl rfl hrs1003 (fun g1005 => ?_) (fun g1005 => ?_)
        ·
          refine z_inc X (x := c) (lv' := [(5, .int (Int32.ofInt (c + 1))), (0, .ref (A 179)), (1, .int (Int32.ofInt xv)), (2, .int (Int32.ofInt yv)), (3, .int (Int32.ofInt zv)), (4, .int (Int32.ofInt ch))]) rfl (by decide) (List.Mem.tail _ (List.Mem.tail _ (List.Mem.tail _ (List.Mem.tail _ (List.Mem.tail _ (List.Mem.head _)))))) (fun _ h => h) (z_goto X (t := 114) rfl rfl (WS_pq [1, 2, 3, 4, 5, 0] (lv' := [(0, .ref (A 179)), (1, .int (Int32.ofInt xv)), (2, .int (Int32.ofInt yv)), (3, .int (Int32.ofInt zv)), (4, .int (Int32.ofInt ch)), (5, .int (Int32.ofInt (c + 1)))]) rfl ?_))
          exact ih _ xv yv zv ch (c + 1) I F (pnq_n hq (by first | exact oq_12a1f9e1 hi.2.2.1.2 hi.2.2.1.1 | (clear hps1003; omega) | omega) (fun q => by unfold bxC at q; omega)) (by first | exact ⟨And.intro (hi.1.1) (And.intro (hi.1.2.1) (hi.1.2.2)), And.intro (And.intro (hi.2.1.1.1) (And.intro (hi.2.1.1.2.1) (And.intro (hi.2.1.1.2.2.1) (hi.2.1.1.2.2.2)))) (And.intro (And.intro (hi.2.1.2.1.1) (hi.2.1.2.1.2)) (And.intro (hi.2.1.2.2.1) (And.intro (hi.2.1.2.2.2.1) (hi.2.1.2.2.2.2)))), And.intro (hi.2.2.1.1) (oq_03182e9e hi.2.2.1.2), by first | (clear hps1003; omega) | omega, hi.2.2.2.2⟩ | omega) (by first | (clear hps1003; omega) | omega) kx
        ·
          refine z_load X (x := c) rfl (List.Mem.tail _ (List.Mem.tail _ (List.Mem.tail _ (List.Mem.tail _ (List.Mem.tail _ (List.Mem.head _)))))) (z_bipush X rfl (z_quot X rfl (by first | exact oq_12a1f9e1 hi.2.2.1.2 hi.2.2.1.1 | omega) ⟨by first | exact oq_e001bc0d hi.2.2.1.2 hi.2.2.1.1 | omega, by first | exact oq_58735585 hi.2.2.2.1.2 hi.2.1.1.2.1 | omega⟩ (by decide) (by decide) (z_bipush X rfl (z_mod X rfl (by first | exact oq_36b78649 hi.2.2.1.2 hi.2.2.1.1 | omega) ⟨by first | exact oq_fb4875cb hi.2.2.1.2 hi.2.2.1.1 | omega, by first | exact oq_47d8c7b8 hi.2.2.2.1.2 hi.2.1.1.2.1 | omega⟩ (by decide) (by decide) (z_load_n X (x := xv) rfl (List.Mem.tail _ (List.Mem.head _)) (z_bipush X rfl (z_quot X rfl (by first | exact oq_e4757433 hi.1.1 hi.2.1.1.1 | omega) ⟨by first | exact oq_b3df2c6f hi.1.1 hi.2.1.1.1 | omega, by first | exact oq_8093112e hi.1.1 hi.2.1.1.2.1 | omega⟩ (by decide) (by decide) (z_bipush X rfl (z_mod X rfl (by first | exact oq_e73cc6ab hi.2.1.1.1 hi.1.1 | omega) ⟨by first | exact oq_7a924152 hi.2.1.1.1 hi.1.1 | omega, by first | exact oq_8b559516 hi.2.1.1.2.1 hi.1.1 | omega⟩ (by decide) (by decide) (z_load_n X (x := yv) rfl (List.Mem.tail _ (List.Mem.tail _ (List.Mem.head _))) (z_bipush X rfl ?_)))))))))))
          refine z_quot X rfl (by first | exact oq_e4757433 hi.1.2.1 hi.2.1.1.2.2.1 | omega) ⟨by first | exact oq_b3df2c6f hi.1.2.1 hi.2.1.1.2.2.1 | omega, by first | exact oq_8093112e hi.1.2.1 hi.2.1.1.2.2.2 | omega⟩ (by decide) (by decide) (z_bipush X rfl (z_mod X rfl (by first | exact oq_e73cc6ab hi.2.1.1.2.2.1 hi.1.2.1 | omega) ⟨by first | exact oq_7a924152 hi.2.1.1.2.2.1 hi.1.2.1 | omega, by first | exact oq_8b559516 hi.2.1.1.2.2.2 hi.1.2.1 | omega⟩ (by decide) (by decide) (z_callS X (rm := rmN 188) (As := [.int (Int32.ofInt ((c / 8) % 8)), .int (Int32.ofInt ((xv / 8) % 8)), .int (Int32.ofInt ((yv / 8) % 8))]) (st := []) rfl rfl (by rw [E.1, E.2.1, E.2.2.1]; exact k_in2 G I (by first | exact ⟨oq_452e8fda, oq_267eaf70⟩ | omega) (by first | exact ⟨oq_452e8fda, oq_267eaf70⟩ | omega) (by first | exact ⟨oq_452e8fda, oq_267eaf70⟩ | omega)) ⟨by rw [E.2.2.2]; exact (show (rmN 188).frames + 1 ≤ (rmN 235).frames by decide), by rw [E.2.2.2]; exact (show 8 + (mNL (miB 188) + 11) + (rmN 188).locals ≤ (rmN 235).locals by decide), by rw [E.2.2.2]; exact (show 0 + (rmN 188).cells ≤ (rmN 235).cells by decide), by rw [E.2.2.2]; exact (show 0 + (rmN 188).slots ≤ (rmN 235).slots by decide)⟩ (Nat.le_of_ble_eq_true rfl) (fun vv s1006 hq => ?_) (fun ee s1006 hq => ?_))))
          rotate_left
          · obtain ⟨rfl, e1007, hv, hrs1006, hps1006⟩ := hq; cases hv
          obtain ⟨rfl, e1007, hv, hrs1006, hps1006⟩ := hq
          cases hv
          show WS k 173 [(0, .ref (A 179)), (1, .int (Int32.ofInt xv)), (2, .int (Int32.ofInt yv)), (3, .int (Int32.ofInt zv)), (4, .int (Int32.ofInt ch)), (5, .int (Int32.ofInt c))] [.int (Int32.ofInt e1007)] (Wd A dT t) 0 0
          refine z_if_ne X (t := 179) rfl rfl hrs1006 (fun g1008 => ?_) (fun g1008 => ?_)
          ·
            refine z_load X (x := ch) rfl (List.Mem.tail _ (List.Mem.tail _ (List.Mem.tail _ (List.Mem.tail _ (List.Mem.head _))))) (z_aload_n X (x := A 179) rfl (List.Mem.head _) (s_getR X 179 rfl (c518_ok rfl) rfl rfl (z_load X (x := c) rfl (List.Mem.tail _ (List.Mem.tail _ (List.Mem.tail _ (List.Mem.tail _ (List.Mem.tail _ (List.Mem.head _)))))) (z_ald X 256 rfl (c518_ok rfl) rfl (by first | exact oq_12a1f9e1 hi.2.2.1.2 hi.2.2.1.1 | omega) (show c < 128 by first | (clear g1008 hps1006 g1005 hps1003; omega) | (clear hps1006 g1005 hps1003; omega) | omega) (cbig_ok rfl) ?_))))
            have b1009 := bc_228 I (show (c).toNat < 128 by first | (clear g1008 hps1006 g1005 hps1003; omega) | (clear hps1006 g1005 hps1003; omega) | omega)
            have ar1010 : iC t 228 (c).toNat = iC t 228 (c).toNat := (sam_rf (a := 228) (s := t)) _
            refine z_load_n X (x := zv) rfl (List.Mem.tail _ (List.Mem.tail _ (List.Mem.tail _ (List.Mem.head _)))) ?_
            have hfc : pfM s (c : Int).toNat = (iC t 228 (c).toNat) := (pnq_g hq (by first | exact oq_12a1f9e1 hi.2.2.1.2 hi.2.2.1.1 | (clear g1008 hps1006 g1005 hps1003; omega) | (clear hps1006 g1005 hps1003; omega) | omega)).symm.trans rfl
            refine z_icmp_ne X (t := 196) rfl rfl (rng_to _) ⟨by first | exact oq_709dc04f hi.1.2.2 hi.2.1.2.1.1 | omega, by first | exact oq_b2f566bc hi.1.2.2 hi.2.1.2.1.2 | omega⟩ (fun g1011 => ?_) (fun g1011 => ?_)
            ·
              refine z_const X rfl (z_add X rfl (z_store X (lv' := [(4, .int (Int32.ofInt (ch + 1))), (0, .ref (A 179)), (1, .int (Int32.ofInt xv)), (2, .int (Int32.ofInt yv)), (3, .int (Int32.ofInt zv)), (5, .int (Int32.ofInt c))]) rfl (by decide) (fun _ h => h) (z_aload_n X (x := A 179) rfl (List.Mem.tail _ (List.Mem.head _)) (s_getR X 179 rfl (c518_ok rfl) rfl rfl (z_load X (x := c) rfl (List.Mem.tail _ (List.Mem.tail _ (List.Mem.tail _ (List.Mem.tail _ (List.Mem.tail _ (List.Mem.head _)))))) (z_load_n X (x := zv) rfl (List.Mem.tail _ (List.Mem.tail _ (List.Mem.tail _ (List.Mem.tail _ (List.Mem.head _))))) (z_ast X 256 rfl (c518_ok rfl) rfl (by first | exact oq_12a1f9e1 hi.2.2.1.2 hi.2.2.1.1 | omega) (show c < 128 by first | (clear g1011 g1008 hps1006 g1005 hps1003; omega) | (clear g1008 hps1006 g1005 hps1003; omega) | omega) (cbig_ok rfl) (wd_gen (fun s1012 hs1012 => ?_)))))))))
              have Is1012 : Bd s1012 := eqB hs1012 (bd_C I (show ((-1) : Int) ≤ zv ∧ zv ≤ 7 by first | exact ⟨oq_65661d22 hi.1.2.2 hi.2.1.2.1.1, oq_4da978b7 hi.1.2.2 hi.2.1.2.1.2⟩ | omega) ⟨by first | exact oq_709dc04f hi.1.2.2 hi.2.1.2.1.1 | omega, by first | exact oq_b2f566bc hi.1.2.2 hi.2.1.2.1.2 | omega⟩)
              have Fs1012 := eqF hs1012 (fm_C F (inl_ok (a := 228) rfl))
              have ws1012_73 : iI s1012 73 = iI t 73 := eqI hs1012 rfl
              have aws1012_228 : UPD 228 (c) zv t s1012 := by rw [hs1012]; exact upd_put (sam_rf (a := 228) (s := t)) ⟨by first | exact oq_709dc04f hi.1.2.2 hi.2.1.2.1.1 | omega, by first | exact oq_b2f566bc hi.1.2.2 hi.2.1.2.1.2 | omega⟩
              refine z_inc X (x := c) (lv' := [(5, .int (Int32.ofInt (c + 1))), (4, .int (Int32.ofInt (ch + 1))), (0, .ref (A 179)), (1, .int (Int32.ofInt xv)), (2, .int (Int32.ofInt yv)), (3, .int (Int32.ofInt zv))]) rfl (by decide) (List.Mem.tail _ (List.Mem.tail _ (List.Mem.tail _ (List.Mem.tail _ (List.Mem.tail _ (List.Mem.head _)))))) (fun _ h => h) (z_goto X (t := 114) rfl rfl (WS_pq [2, 3, 4, 5, 1, 0] (lv' := [(0, .ref (A 179)), (1, .int (Int32.ofInt xv)), (2, .int (Int32.ofInt yv)), (3, .int (Int32.ofInt zv)), (4, .int (Int32.ofInt (ch + 1))), (5, .int (Int32.ofInt (c + 1)))]) rfl ?_))
              exact ih _ xv yv zv (ch + 1) (c + 1) Is1012 Fs1012 (pnq_y hq (by first | exact oq_12a1f9e1 hi.2.2.1.2 hi.2.2.1.1 | (clear g1011 g1008 hps1006 g1005 hps1003; omega) | (clear g1008 hps1006 g1005 hps1003; omega) | omega) (by unfold bxC; omega) (by rw [show z = zv by first | exact oq_18d11be6 hi.1.2.2 | (clear g1011 g1008 hps1006 g1005 hps1003; omega) | (clear g1008 hps1006 g1005 hps1003; omega) | omega]; exact upm_upd aws1012_228) (by rw [i01_t (by rw [hfc]; omega)])) (by first | exact ⟨And.intro (hi.1.1) (And.intro (hi.1.2.1) (hi.1.2.2)), And.intro (And.intro (hi.2.1.1.1) (And.intro (hi.2.1.1.2.1) (And.intro (hi.2.1.1.2.2.1) (hi.2.1.1.2.2.2)))) (And.intro (And.intro (hi.2.1.2.1.1) (hi.2.1.2.1.2)) (And.intro (hi.2.1.2.2.1) (And.intro (hi.2.1.2.2.2.1) (hi.2.1.2.2.2.2)))), And.intro (oq_54f49eb5 hi.2.2.1.1) (oq_8d48a029 hi.2.2.1.2), by first | (clear g1011 g1008 hps1006 g1005 hps1003; omega) | (clear g1008 hps1006 g1005 hps1003; omega) | omega, oq_333640b7 ws1012_73 hi.2.2.2.2 b1001.1⟩ | omega) (by first | (clear g1011 g1008 hps1006 g1005 hps1003; omega) | (clear g1008 hps1006 g1005 hps1003; omega) | omega) kx
            ·
              refine z_const X rfl (z_goto X (t := 197) rfl rfl (z_add X rfl (z_store X (lv' := [(4, .int (Int32.ofInt (ch + 0))), (0, .ref (A 179)), (1, .int (Int32.ofInt xv)), (2, .int (Int32.ofInt yv)), (3, .int (Int32.ofInt zv)), (5, .int (Int32.ofInt c))]) rfl (by decide) (fun _ h => h) (z_aload_n X (x := A 179) rfl (List.Mem.tail _ (List.Mem.head _)) (s_getR X 179 rfl (c518_ok rfl) rfl rfl (z_load X (x := c) rfl (List.Mem.tail _ (List.Mem.tail _ (List.Mem.tail _ (List.Mem.tail _ (List.Mem.tail _ (List.Mem.head _)))))) (z_load_n X (x := zv) rfl (List.Mem.tail _ (List.Mem.tail _ (List.Mem.tail _ (List.Mem.tail _ (List.Mem.head _))))) (z_ast X 256 rfl (c518_ok rfl) rfl (by first | exact oq_12a1f9e1 hi.2.2.1.2 hi.2.2.1.1 | omega) (show c < 128 by first | (clear g1008 hps1006 g1005 hps1003; omega) | (clear hps1006 g1005 hps1003; omega) | omega) (cbig_ok rfl) (wd_gen (fun s1013 hs1013 => ?_))))))))))
              have Is1013 : Bd s1013 := eqB hs1013 (bd_C I (show ((-1) : Int) ≤ zv ∧ zv ≤ 7 by first | exact ⟨oq_2d12af5e g1011 b1009.1, oq_5f8273e9 g1011 b1009.2⟩ | omega) ⟨by first | exact oq_86c5c068 g1011 b1009.1 | omega, by first | exact oq_07478d3a g1011 b1009.2 | omega⟩)
              have Fs1013 := eqF hs1013 (fm_C F (inl_ok (a := 228) rfl))
              have ws1013_73 : iI s1013 73 = iI t 73 := eqI hs1013 rfl
              have aws1013_228 : UPD 228 (c) zv t s1013 := by rw [hs1013]; exact upd_put (sam_rf (a := 228) (s := t)) ⟨by first | exact oq_86c5c068 g1011 b1009.1 | omega, by first | exact oq_07478d3a g1011 b1009.2 | omega⟩
              refine z_inc X (x := c) (lv' := [(5, .int (Int32.ofInt (c + 1))), (4, .int (Int32.ofInt (ch + 0))), (0, .ref (A 179)), (1, .int (Int32.ofInt xv)), (2, .int (Int32.ofInt yv)), (3, .int (Int32.ofInt zv))]) rfl (by decide) (List.Mem.tail _ (List.Mem.tail _ (List.Mem.tail _ (List.Mem.tail _ (List.Mem.tail _ (List.Mem.head _)))))) (fun _ h => h) (z_goto X (t := 114) rfl rfl (WS_pq [2, 3, 4, 5, 1, 0] (lv' := [(0, .ref (A 179)), (1, .int (Int32.ofInt xv)), (2, .int (Int32.ofInt yv)), (3, .int (Int32.ofInt zv)), (4, .int (Int32.ofInt (ch + 0))), (5, .int (Int32.ofInt (c + 1)))]) rfl ?_))
              exact ih _ xv yv zv (ch + 0) (c + 1) Is1013 Fs1013 (pnq_y hq (by first | exact oq_12a1f9e1 hi.2.2.1.2 hi.2.2.1.1 | (clear g1008 hps1006 g1005 hps1003; omega) | (clear hps1006 g1005 hps1003; omega) | omega) (by unfold bxC; omega) (by rw [show z = zv by first | exact oq_18d11be6 hi.1.2.2 | (clear g1008 hps1006 g1005 hps1003; omega) | (clear hps1006 g1005 hps1003; omega) | omega]; exact upm_upd aws1013_228) (by rw [i01_f (fun q => q (by rw [hfc]; omega))])) (by first | exact ⟨And.intro (hi.1.1) (And.intro (hi.1.2.1) (hi.1.2.2)), And.intro (And.intro (hi.2.1.1.1) (And.intro (hi.2.1.1.2.1) (And.intro (hi.2.1.1.2.2.1) (hi.2.1.1.2.2.2)))) (And.intro (And.intro (hi.2.1.2.1.1) (hi.2.1.2.1.2)) (And.intro (hi.2.1.2.2.1) (And.intro (hi.2.1.2.2.2.1) (hi.2.1.2.2.2.2)))), And.intro (oq_590e7a3f hi.2.2.1.1) (oq_2d160f3c hi.2.2.1.2), by first | (clear g1008 hps1006 g1005 hps1003; omega) | (clear hps1006 g1005 hps1003; omega) | omega, oq_333640b7 ws1013_73 hi.2.2.2.2 b1001.1⟩ | omega) (by first | (clear g1008 hps1006 g1005 hps1003; omega) | (clear hps1006 g1005 hps1003; omega) | omega) kx
          ·
            refine z_goto X (t := 208) rfl rfl (z_inc X (x := c) (lv' := [(5, .int (Int32.ofInt (c + 1))), (0, .ref (A 179)), (1, .int (Int32.ofInt xv)), (2, .int (Int32.ofInt yv)), (3, .int (Int32.ofInt zv)), (4, .int (Int32.ofInt ch))]) rfl (by decide) (List.Mem.tail _ (List.Mem.tail _ (List.Mem.tail _ (List.Mem.tail _ (List.Mem.tail _ (List.Mem.head _)))))) (fun _ h => h) (z_goto X (t := 114) rfl rfl (WS_pq [1, 2, 3, 4, 5, 0] (lv' := [(0, .ref (A 179)), (1, .int (Int32.ofInt xv)), (2, .int (Int32.ofInt yv)), (3, .int (Int32.ofInt zv)), (4, .int (Int32.ofInt ch)), (5, .int (Int32.ofInt (c + 1)))]) rfl ?_)))
            exact ih _ xv yv zv ch (c + 1) I F (pnq_n hq (by first | exact oq_12a1f9e1 hi.2.2.1.2 hi.2.2.1.1 | (clear hps1006 g1005 hps1003; omega) | (clear g1005 hps1003; omega) | omega) (fun q => by unfold bxC at q; omega)) (by first | exact ⟨And.intro (hi.1.1) (And.intro (hi.1.2.1) (hi.1.2.2)), And.intro (And.intro (hi.2.1.1.1) (And.intro (hi.2.1.1.2.1) (And.intro (hi.2.1.1.2.2.1) (hi.2.1.1.2.2.2)))) (And.intro (And.intro (hi.2.1.2.1.1) (hi.2.1.2.1.2)) (And.intro (hi.2.1.2.2.1) (And.intro (hi.2.1.2.2.2.1) (hi.2.1.2.2.2.2)))), And.intro (hi.2.2.1.1) (oq_03182e9e hi.2.2.1.2), by first | (clear hps1006 g1005 hps1003; omega) | (clear g1005 hps1003; omega) | omega, hi.2.2.2.2⟩ | omega) (by first | (clear hps1006 g1005 hps1003; omega) | (clear g1005 hps1003; omega) | omega) kx
  refine z_aload_n X (x := A 179) rfl (List.Mem.head _) (z_const X rfl (s_putI X 179 rfl (c518_ok rfl) rfl rfl (by decide) rfl rfl rfl (wd_gen (fun s2 hs2 => ?_))))
  have Is2 : Bd s2 := eqB hs2 (bd_I I (show (0 : Int) ≤ 0 ∧ 0 ≤ 3 by first | exact ⟨by decide, by decide⟩ | omega) (by decide))
  have Fs2 := eqF hs2 (fm_I F (inl_ok (a := 73) rfl))
  have vs2 : iI s2 73 = 0 := eqI hs2 (iI_u (by decide))
  have aws2_228 : SAM 228 s s2 := by rw [hs2]; exact aw0_228
  refine z_aload_n X (x := A 179) rfl (List.Mem.head _) (z_load_n X (x := x) rfl (List.Mem.tail _ (List.Mem.head _)) (z_const X rfl (z_bipush X rfl (z_callS X (rm := rmN 188) (As := [.int (Int32.ofInt x), .int (Int32.ofInt 0), .int (Int32.ofInt 127)]) (st := [.ref (A 179)]) rfl rfl (by rw [E.1, E.2.1, E.2.2.1]; exact k_in2 G Is2 (by first | exact ⟨p0.1, p0.2⟩ | omega) (by first | exact ⟨by decide, by decide⟩ | omega) (by first | exact ⟨by decide, by decide⟩ | omega)) ⟨by rw [E.2.2.2]; exact (show (rmN 188).frames + 1 ≤ (rmN 235).frames by decide), by rw [E.2.2.2]; exact (show 8 + (mNL (miB 188) + 11) + (rmN 188).locals ≤ (rmN 235).locals by decide), by rw [E.2.2.2]; exact (show 0 + (rmN 188).cells ≤ (rmN 235).cells by decide), by rw [E.2.2.2]; exact (show 0 + (rmN 188).slots ≤ (rmN 235).slots by decide)⟩ (Nat.le_of_ble_eq_true rfl) (fun vv s3 hq => ?_) (fun ee s3 hq => ?_)))))
  rotate_left
  · obtain ⟨rfl, e4, hv, hrs3, hps3⟩ := hq; cases hv
  obtain ⟨rfl, e4, hv, hrs3, hps3⟩ := hq
  cases hv
  show WS k 13 [(0, .ref (A 179)), (1, .int (Int32.ofInt x)), (2, .int (Int32.ofInt y)), (3, .int (Int32.ofInt z))] [.int (Int32.ofInt e4), .ref (A 179)] (Wd A dT s2) 0 0
  refine z_if_eq X (t := 26) rfl rfl hrs3 (fun g5 => ?_) (fun g5 => ?_)
  ·
    refine z_const X rfl (z_goto X (t := 31) rfl rfl (z_const X rfl (zcV_i0 X E 179 (As := [.int (Int32.ofInt 1), .int (Int32.ofInt 1)]) (st := []) rfl rfl rfl rfl (k_bad2 G Is2 (by first | exact Or.inr (by decide) | omega) (by first | exact ⟨by decide, by decide⟩ | omega)) rfl (Nat.le_of_ble_eq_true rfl) (fun s6 e7 Is6 Fs6 hrs6 hps6 => ?_))))
    have Gs6 := fm_tq Fs2 Fs6 rfl rfl
    have b8 := bi_73 Is6
    have aws6_228 : SAM 228 s s6 := sam_ts aws2_228 (sam_fm Fs6 (by decide))
    refine z_if_ne X (t := 100) rfl rfl hrs6 (fun g9 => ?_) (fun g9 => ?_)
    ·
      refine z_const X rfl ?_
      exact w_iret X.1 q hRt rfl (ax_d X (show cdA 235 101 = some (.ireturn, 1, 0, 0, 0) from rfl)) (Nat.zero_le _) (Nat.zero_le _) ⟨_, rfl, Is6, Gs6, 0, rfl, (by decide), Or.inr ⟨by first | exact oq_e43b399a g9 hps6 g5 hps3 vs2 | exact oq_e43b399a g9 hps6 g5 hps3 vs2 | omega, aws6_228⟩⟩
    ·
      refine z_aload_n X (x := A 179) rfl (List.Mem.head _) (z_load_n X (x := z) rfl (List.Mem.tail _ (List.Mem.tail _ (List.Mem.tail _ (List.Mem.head _)))) (z_const X rfl (z_bipush X rfl (z_callS X (rm := rmN 188) (As := [.int (Int32.ofInt z), .int (Int32.ofInt (-1)), .int (Int32.ofInt 7)]) (st := [.ref (A 179)]) rfl rfl (by rw [E.1, E.2.1, E.2.2.1]; exact k_in2 G Is6 (by first | exact ⟨p2.1, p2.2⟩ | omega) (by first | exact ⟨by decide, by decide⟩ | omega) (by first | exact ⟨by decide, by decide⟩ | omega)) ⟨by rw [E.2.2.2]; exact (show (rmN 188).frames + 1 ≤ (rmN 235).frames by decide), by rw [E.2.2.2]; exact (show 8 + (mNL (miB 188) + 11) + (rmN 188).locals ≤ (rmN 235).locals by decide), by rw [E.2.2.2]; exact (show 0 + (rmN 188).cells ≤ (rmN 235).cells by decide), by rw [E.2.2.2]; exact (show 0 + (rmN 188).slots ≤ (rmN 235).slots by decide)⟩ (Nat.le_of_ble_eq_true rfl) (fun vv s10 hq => ?_) (fun ee s10 hq => ?_)))))
      rotate_left
      · obtain ⟨rfl, e11, hv, hrs10, hps10⟩ := hq; cases hv
      obtain ⟨rfl, e11, hv, hrs10, hps10⟩ := hq
      cases hv
      show WS k 46 [(0, .ref (A 179)), (1, .int (Int32.ofInt x)), (2, .int (Int32.ofInt y)), (3, .int (Int32.ofInt z))] [.int (Int32.ofInt e11), .ref (A 179)] (Wd A dT s6) 0 0
      refine z_if_eq X (t := 88) rfl rfl hrs10 (fun g12 => ?_) (fun g12 => ?_)
      ·
        refine z_const X rfl (z_goto X (t := 93) rfl rfl (z_const X rfl (zcV_i0 X E 179 (As := [.int (Int32.ofInt 1), .int (Int32.ofInt 2)]) (st := []) rfl rfl rfl rfl (k_bad2 G Is6 (by first | exact Or.inr (by decide) | omega) (by first | exact ⟨by decide, by decide⟩ | omega)) rfl (Nat.le_of_ble_eq_true rfl) (fun s13 e14 Is13 Fs13 hrs13 hps13 => ?_))))
        have Gs13 := fm_tq Gs6 Fs13 rfl rfl
        have b15 := bi_73 Is13
        have aws13_228 : SAM 228 s s13 := sam_ts aws6_228 (sam_fm Fs13 (by decide))
        refine z_if_eq X (t := 102) rfl rfl hrs13 (fun g16 => ?_) (fun g16 => ?_)
        ·
          refine z_const X rfl (z_store X (lv' := [(4, .int (Int32.ofInt 0)), (0, .ref (A 179)), (1, .int (Int32.ofInt x)), (2, .int (Int32.ofInt y)), (3, .int (Int32.ofInt z))]) rfl (by decide) (fun _ h => h) (z_bipush X rfl (z_load_n X (x := x) rfl (List.Mem.tail _ (List.Mem.tail _ (List.Mem.head _))) (z_bipush X rfl (z_quot X rfl (by first | exact oq_7bca4f44 g16 hps13 g9 b8.1 hps6 vs2 | exact oq_7bca4f44 g16 hps13 g9 b8.1 hps6 vs2 | omega) ⟨by first | exact p0.1 | omega, by first | exact p0.2 | omega⟩ (by decide) (by decide) (z_mul X rfl (z_store X (lv' := [(5, .int (Int32.ofInt (64 * (x / 64)))), (4, .int (Int32.ofInt 0)), (0, .ref (A 179)), (1, .int (Int32.ofInt x)), (2, .int (Int32.ofInt y)), (3, .int (Int32.ofInt z))]) rfl (by decide) (fun _ h => h) (WS_pq [2, 3, 4, 5, 1, 0] (lv' := [(0, .ref (A 179)), (1, .int (Int32.ofInt x)), (2, .int (Int32.ofInt y)), (3, .int (Int32.ofInt z)), (4, .int (Int32.ofInt 0)), (5, .int (Int32.ofInt (64 * (x / 64))))]) rfl (L114 ((128 - (64 * (x / 64)) : Int).toNat + 1) s13 x y z 0 (64 * (x / 64)) Is13 Gs13 (pnq_s (pnq_0 (f := pfM s) (by first | exact oq_466819e1 g16 hps13 g9 b8.1 hps6 vs2 | (clear hps13 hps10 hps6 hps3; omega) | (clear hps10 hps6 hps3; omega) | omega) (fun c h0 h1 q => by unfold bxC at q; omega)) rfl (show pfM s = pfM s13 from (funext aws13_228).symm)) (by first | exact ⟨And.intro (by decide) (And.intro (by decide) (by decide)), oq_3b5755f7 g16 hps13 g9 b8.1 hps6 vs2, oq_60648b5f g16 hps13 g9 b8.1 hps6 vs2, And.intro (by decide) (by decide), oq_7ef9130d g16 b15.1 hps13 g9 hps6 vs2⟩ | exact oq_537746fe g16 hps13 g9 b8.1 hps6 vs2 | omega) (Nat.lt_succ_self _) ?_)))))))))
          intro s17 x18 x19 Is17 Fs17 Qs17 hs17
          have b20 := bi_73 Is17
          refine z_load X (x := x18) rfl (List.Mem.tail _ (List.Mem.tail _ (List.Mem.tail _ (List.Mem.tail _ (List.Mem.head _))))) ?_
          exact w_iret X.1 q hRt rfl (ax_d X (show cdA 235 216 = some (.ireturn, 1, 0, 0, 0) from rfl)) (Nat.zero_le _) (Nat.zero_le _) ⟨_, rfl, Is17, Fs17, x18, rfl, ⟨by first | exact oq_fa4e5087 hs17.2.1.1 | omega, by first | exact oq_ba739599 hs17.2.2.1 hs17.2.1.2 hs17.1.1.2.1 | omega⟩, Or.inl ⟨by first | exact ⟨And.intro (hs17.1.1.1) (And.intro (hs17.1.1.2.1) (And.intro (hs17.1.1.2.2.1) (hs17.1.1.2.2.2))), And.intro (hs17.1.2.1.1) (hs17.1.2.1.2), hs17.1.2.2.1, hs17.1.2.2.2.1, hs17.1.2.2.2.2⟩ | omega, by first | exact hs17.2.2.2 | omega, pnq_z Qs17 (by first | exact oq_562eb216 hs17.2.2.1 hs17.1.1.1 | (clear hps13 hps10 hps6 hps3; omega) | (clear hps10 hps6 hps3; omega) | omega) (by first | exact oq_a55f7164 hs17.1.2.1.2 hs17.1.2.1.1 g12 hps10 | (clear hps13 hps10 hps6 hps3; omega) | (clear hps10 hps6 hps3; omega) | omega) (fun c hc q => by unfold bxC at q; omega)⟩⟩
        ·
          refine z_const X rfl ?_
          exact w_iret X.1 q hRt rfl (ax_d X (show cdA 235 101 = some (.ireturn, 1, 0, 0, 0) from rfl)) (Nat.zero_le _) (Nat.zero_le _) ⟨_, rfl, Is13, Gs13, 0, rfl, (by decide), Or.inr ⟨by first | exact oq_adc32970 g9 hps6 vs2 | exact oq_adc32970 g9 hps6 vs2 | omega, aws13_228⟩⟩
      ·
        refine z_load_n X (x := x) rfl (List.Mem.tail _ (List.Mem.head _)) (z_bipush X rfl (z_quot X rfl (by first | exact oq_674898f9 g9 hps6 vs2 | exact oq_674898f9 g9 hps6 vs2 | omega) ⟨by first | exact p0.1 | omega, by first | exact p0.2 | omega⟩ (by decide) (by decide) (z_load_n X (x := y) rfl (List.Mem.tail _ (List.Mem.tail _ (List.Mem.head _))) (z_bipush X rfl (z_quot X rfl (by first | exact oq_674898f9 g9 hps6 vs2 | exact oq_674898f9 g9 hps6 vs2 | omega) ⟨by first | exact p1.1 | omega, by first | exact p1.2 | omega⟩ (by decide) (by decide) (z_icmp_ne X (t := 88) rfl rfl ⟨by first | exact oq_f457fe4f p0.1 | omega, by first | exact oq_e42dd4bd p0.2 | omega⟩ ⟨by first | exact oq_f457fe4f p1.1 | omega, by first | exact oq_e42dd4bd p1.2 | omega⟩ (fun g21 => ?_) (fun g21 => ?_)))))))
        ·
          refine z_const X rfl (z_goto X (t := 93) rfl rfl (z_const X rfl (zcV_i0 X E 179 (As := [.int (Int32.ofInt 1), .int (Int32.ofInt 2)]) (st := []) rfl rfl rfl rfl (k_bad2 G Is6 (by first | exact Or.inr (by decide) | omega) (by first | exact ⟨by decide, by decide⟩ | omega)) rfl (Nat.le_of_ble_eq_true rfl) (fun s22 e23 Is22 Fs22 hrs22 hps22 => ?_))))
          have Gs22 := fm_tq Gs6 Fs22 rfl rfl
          have b24 := bi_73 Is22
          have aws22_228 : SAM 228 s s22 := sam_ts aws6_228 (sam_fm Fs22 (by decide))
          refine z_if_eq X (t := 102) rfl rfl hrs22 (fun g25 => ?_) (fun g25 => ?_)
          ·
            refine z_const X rfl (z_store X (lv' := [(4, .int (Int32.ofInt 0)), (0, .ref (A 179)), (1, .int (Int32.ofInt x)), (2, .int (Int32.ofInt y)), (3, .int (Int32.ofInt z))]) rfl (by decide) (fun _ h => h) (z_bipush X rfl (z_load_n X (x := x) rfl (List.Mem.tail _ (List.Mem.tail _ (List.Mem.head _))) (z_bipush X rfl (z_quot X rfl (by first | exact oq_7bca4f44 g25 hps22 g9 b8.1 hps6 vs2 | exact oq_7bca4f44 g25 hps22 g9 b8.1 hps6 vs2 | omega) ⟨by first | exact p0.1 | omega, by first | exact p0.2 | omega⟩ (by decide) (by decide) (z_mul X rfl (z_store X (lv' := [(5, .int (Int32.ofInt (64 * (x / 64)))), (4, .int (Int32.ofInt 0)), (0, .ref (A 179)), (1, .int (Int32.ofInt x)), (2, .int (Int32.ofInt y)), (3, .int (Int32.ofInt z))]) rfl (by decide) (fun _ h => h) (WS_pq [2, 3, 4, 5, 1, 0] (lv' := [(0, .ref (A 179)), (1, .int (Int32.ofInt x)), (2, .int (Int32.ofInt y)), (3, .int (Int32.ofInt z)), (4, .int (Int32.ofInt 0)), (5, .int (Int32.ofInt (64 * (x / 64))))]) rfl (L114 ((128 - (64 * (x / 64)) : Int).toNat + 1) s22 x y z 0 (64 * (x / 64)) Is22 Gs22 (pnq_s (pnq_0 (f := pfM s) (by first | exact oq_466819e1 g25 hps22 g9 b8.1 hps6 vs2 | (clear hps22 g21 g12 hps10 hps6 hps3; omega) | (clear g21 g12 hps10 hps6 hps3; omega) | omega) (fun c h0 h1 q => by unfold bxC at q; omega)) rfl (show pfM s = pfM s22 from (funext aws22_228).symm)) (by first | exact ⟨And.intro (by decide) (And.intro (by decide) (by decide)), oq_3b5755f7 g25 hps22 g9 b8.1 hps6 vs2, oq_60648b5f g25 hps22 g9 b8.1 hps6 vs2, And.intro (by decide) (by decide), oq_7ef9130d g25 b24.1 hps22 g9 hps6 vs2⟩ | exact oq_537746fe g25 hps22 g9 b8.1 hps6 vs2 | omega) (Nat.lt_succ_self _) ?_)))))))))
            intro s26 x27 x28 Is26 Fs26 Qs26 hs26
            have b29 := bi_73 Is26
            refine z_load X (x := x27) rfl (List.Mem.tail _ (List.Mem.tail _ (List.Mem.tail _ (List.Mem.tail _ (List.Mem.head _))))) ?_
            exact w_iret X.1 q hRt rfl (ax_d X (show cdA 235 216 = some (.ireturn, 1, 0, 0, 0) from rfl)) (Nat.zero_le _) (Nat.zero_le _) ⟨_, rfl, Is26, Fs26, x27, rfl, ⟨by first | exact oq_fa4e5087 hs26.2.1.1 | omega, by first | exact oq_ba739599 hs26.2.2.1 hs26.2.1.2 hs26.1.1.2.1 | omega⟩, Or.inl ⟨by first | exact ⟨And.intro (hs26.1.1.1) (And.intro (hs26.1.1.2.1) (And.intro (hs26.1.1.2.2.1) (hs26.1.1.2.2.2))), And.intro (hs26.1.2.1.1) (hs26.1.2.1.2), hs26.1.2.2.1, hs26.1.2.2.2.1, hs26.1.2.2.2.2⟩ | omega, by first | exact hs26.2.2.2 | omega, pnq_z Qs26 (by first | exact oq_562eb216 hs26.2.2.1 hs26.1.1.1 | (clear hps22 g21 g12 hps10 hps6 hps3; omega) | (clear g21 g12 hps10 hps6 hps3; omega) | omega) (by first | exact oq_e6aaaeee hs26.1.2.2.1 g21 | (clear hps22 g21 g12 hps10 hps6 hps3; omega) | (clear g21 g12 hps10 hps6 hps3; omega) | omega) (fun c hc q => by unfold bxC at q; omega)⟩⟩
          ·
            refine z_const X rfl ?_
            exact w_iret X.1 q hRt rfl (ax_d X (show cdA 235 101 = some (.ireturn, 1, 0, 0, 0) from rfl)) (Nat.zero_le _) (Nat.zero_le _) ⟨_, rfl, Is22, Gs22, 0, rfl, (by decide), Or.inr ⟨by first | exact oq_adc32970 g9 hps6 vs2 | exact oq_9e2eeb55 g25 hps22 g9 b8.1 hps6 vs2 | omega, aws22_228⟩⟩
        ·
          refine z_load_n X (x := x) rfl (List.Mem.tail _ (List.Mem.head _)) (z_bipush X rfl (z_mod X rfl (by first | exact oq_674898f9 g9 hps6 vs2 | exact oq_674898f9 g9 hps6 vs2 | omega) ⟨by first | exact p0.1 | omega, by first | exact p0.2 | omega⟩ (by decide) (by decide) (z_load_n X (x := y) rfl (List.Mem.tail _ (List.Mem.tail _ (List.Mem.head _))) (z_bipush X rfl (z_mod X rfl (by first | exact oq_674898f9 g9 hps6 vs2 | exact oq_674898f9 g9 hps6 vs2 | omega) ⟨by first | exact p1.1 | omega, by first | exact p1.2 | omega⟩ (by decide) (by decide) (z_icmp_gt X (t := 88) rfl rfl ⟨by first | exact oq_e86162eb | omega, by first | exact oq_70086759 | omega⟩ ⟨by first | exact oq_e86162eb | omega, by first | exact oq_70086759 | omega⟩ (fun g30 => ?_) (fun g30 => ?_)))))))
          ·
            refine z_const X rfl (z_goto X (t := 93) rfl rfl (z_const X rfl (zcV_i0 X E 179 (As := [.int (Int32.ofInt 1), .int (Int32.ofInt 2)]) (st := []) rfl rfl rfl rfl (k_bad2 G Is6 (by first | exact Or.inr (by decide) | omega) (by first | exact ⟨by decide, by decide⟩ | omega)) rfl (Nat.le_of_ble_eq_true rfl) (fun s31 e32 Is31 Fs31 hrs31 hps31 => ?_))))
            have Gs31 := fm_tq Gs6 Fs31 rfl rfl
            have b33 := bi_73 Is31
            have aws31_228 : SAM 228 s s31 := sam_ts aws6_228 (sam_fm Fs31 (by decide))
            refine z_if_eq X (t := 102) rfl rfl hrs31 (fun g34 => ?_) (fun g34 => ?_)
            ·
              refine z_const X rfl (z_store X (lv' := [(4, .int (Int32.ofInt 0)), (0, .ref (A 179)), (1, .int (Int32.ofInt x)), (2, .int (Int32.ofInt y)), (3, .int (Int32.ofInt z))]) rfl (by decide) (fun _ h => h) (z_bipush X rfl (z_load_n X (x := x) rfl (List.Mem.tail _ (List.Mem.tail _ (List.Mem.head _))) (z_bipush X rfl (z_quot X rfl (by first | exact oq_7bca4f44 g34 hps31 g9 b8.1 hps6 vs2 | exact oq_7bca4f44 g34 hps31 g9 b8.1 hps6 vs2 | omega) ⟨by first | exact p0.1 | omega, by first | exact p0.2 | omega⟩ (by decide) (by decide) (z_mul X rfl (z_store X (lv' := [(5, .int (Int32.ofInt (64 * (x / 64)))), (4, .int (Int32.ofInt 0)), (0, .ref (A 179)), (1, .int (Int32.ofInt x)), (2, .int (Int32.ofInt y)), (3, .int (Int32.ofInt z))]) rfl (by decide) (fun _ h => h) (WS_pq [2, 3, 4, 5, 1, 0] (lv' := [(0, .ref (A 179)), (1, .int (Int32.ofInt x)), (2, .int (Int32.ofInt y)), (3, .int (Int32.ofInt z)), (4, .int (Int32.ofInt 0)), (5, .int (Int32.ofInt (64 * (x / 64))))]) rfl (L114 ((128 - (64 * (x / 64)) : Int).toNat + 1) s31 x y z 0 (64 * (x / 64)) Is31 Gs31 (pnq_s (pnq_0 (f := pfM s) (by first | exact oq_466819e1 g34 hps31 g9 b8.1 hps6 vs2 | (clear hps31 g12 hps10 hps6 hps3; omega) | (clear g12 hps10 hps6 hps3; omega) | omega) (fun c h0 h1 q => by unfold bxC at q; omega)) rfl (show pfM s = pfM s31 from (funext aws31_228).symm)) (by first | exact ⟨And.intro (by decide) (And.intro (by decide) (by decide)), oq_3b5755f7 g34 hps31 g9 b8.1 hps6 vs2, oq_60648b5f g34 hps31 g9 b8.1 hps6 vs2, And.intro (by decide) (by decide), oq_7ef9130d g34 b33.1 hps31 g9 hps6 vs2⟩ | exact oq_537746fe g34 hps31 g9 b8.1 hps6 vs2 | omega) (Nat.lt_succ_self _) ?_)))))))))
              intro s35 x36 x37 Is35 Fs35 Qs35 hs35
              have b38 := bi_73 Is35
              refine z_load X (x := x36) rfl (List.Mem.tail _ (List.Mem.tail _ (List.Mem.tail _ (List.Mem.tail _ (List.Mem.head _))))) ?_
              exact w_iret X.1 q hRt rfl (ax_d X (show cdA 235 216 = some (.ireturn, 1, 0, 0, 0) from rfl)) (Nat.zero_le _) (Nat.zero_le _) ⟨_, rfl, Is35, Fs35, x36, rfl, ⟨by first | exact oq_fa4e5087 hs35.2.1.1 | omega, by first | exact oq_ba739599 hs35.2.2.1 hs35.2.1.2 hs35.1.1.2.1 | omega⟩, Or.inl ⟨by first | exact ⟨And.intro (hs35.1.1.1) (And.intro (hs35.1.1.2.1) (And.intro (hs35.1.1.2.2.1) (hs35.1.1.2.2.2))), And.intro (hs35.1.2.1.1) (hs35.1.2.1.2), hs35.1.2.2.1, hs35.1.2.2.2.1, hs35.1.2.2.2.2⟩ | omega, by first | exact hs35.2.2.2 | omega, pnq_z Qs35 (by first | exact oq_68441d5e hs35.1.2.2.2.1 g30 | (clear hps31 g12 hps10 hps6 hps3; omega) | (clear g12 hps10 hps6 hps3; omega) | omega) (by first | exact oq_3eaeead8 hs35.1.2.2.2.1 g30 | (clear hps31 g12 hps10 hps6 hps3; omega) | (clear g12 hps10 hps6 hps3; omega) | omega) (fun c hc q => by unfold bxC at q; omega)⟩⟩
            ·
              refine z_const X rfl ?_
              exact w_iret X.1 q hRt rfl (ax_d X (show cdA 235 101 = some (.ireturn, 1, 0, 0, 0) from rfl)) (Nat.zero_le _) (Nat.zero_le _) ⟨_, rfl, Is31, Gs31, 0, rfl, (by decide), Or.inr ⟨by first | exact oq_adc32970 g9 hps6 vs2 | exact oq_adc32970 g9 hps6 vs2 | omega, aws31_228⟩⟩
          ·
            refine z_load_n X (x := x) rfl (List.Mem.tail _ (List.Mem.head _)) (z_bipush X rfl (z_quot X rfl (by first | exact oq_674898f9 g9 hps6 vs2 | exact oq_674898f9 g9 hps6 vs2 | omega) ⟨by first | exact p0.1 | omega, by first | exact p0.2 | omega⟩ (by decide) (by decide) (z_bipush X rfl (z_mod X rfl (by first | exact oq_ddbc3879 g9 hps6 vs2 | exact oq_ddbc3879 g9 hps6 vs2 | omega) ⟨by first | exact oq_186a3934 p0.1 | omega, by first | exact oq_2590a617 p0.2 | omega⟩ (by decide) (by decide) (z_load_n X (x := y) rfl (List.Mem.tail _ (List.Mem.tail _ (List.Mem.head _))) (z_bipush X rfl (z_quot X rfl (by first | exact oq_674898f9 g9 hps6 vs2 | exact oq_674898f9 g9 hps6 vs2 | omega) ⟨by first | exact p1.1 | omega, by first | exact p1.2 | omega⟩ (by decide) (by decide) (z_bipush X rfl (z_mod X rfl (by first | exact oq_ddbc3879 g9 hps6 vs2 | exact oq_ddbc3879 g9 hps6 vs2 | omega) ⟨by first | exact oq_186a3934 p1.1 | omega, by first | exact oq_2590a617 p1.2 | omega⟩ (by decide) (by decide) (z_icmp_le X (t := 92) rfl rfl ⟨by first | exact oq_452e8fda | omega, by first | exact oq_267eaf70 | omega⟩ ⟨by first | exact oq_452e8fda | omega, by first | exact oq_267eaf70 | omega⟩ (fun g39 => ?_) (fun g39 => ?_)))))))))))
            ·
              refine z_const X rfl (z_const X rfl (zcV_i0 X E 179 (As := [.int (Int32.ofInt 0), .int (Int32.ofInt 2)]) (st := []) rfl rfl rfl rfl (k_bad2 G Is6 (by first | exact Or.inl (by decide) | omega) (by first | exact ⟨by decide, by decide⟩ | omega)) rfl (Nat.le_of_ble_eq_true rfl) (fun s40 e41 Is40 Fs40 hrs40 hps40 => ?_)))
              have Gs40 := fm_tq Gs6 Fs40 rfl rfl
              have b42 := bi_73 Is40
              have aws40_228 : SAM 228 s s40 := sam_ts aws6_228 (sam_fm Fs40 (by decide))
              refine z_if_eq X (t := 102) rfl rfl hrs40 (fun g43 => ?_) (fun g43 => ?_)
              ·
                refine z_const X rfl (z_store X (lv' := [(4, .int (Int32.ofInt 0)), (0, .ref (A 179)), (1, .int (Int32.ofInt x)), (2, .int (Int32.ofInt y)), (3, .int (Int32.ofInt z))]) rfl (by decide) (fun _ h => h) (z_bipush X rfl (z_load_n X (x := x) rfl (List.Mem.tail _ (List.Mem.tail _ (List.Mem.head _))) (z_bipush X rfl (z_quot X rfl (by first | exact oq_674898f9 g9 hps6 vs2 | exact oq_674898f9 g9 hps6 vs2 | omega) ⟨by first | exact p0.1 | omega, by first | exact p0.2 | omega⟩ (by decide) (by decide) (z_mul X rfl (z_store X (lv' := [(5, .int (Int32.ofInt (64 * (x / 64)))), (4, .int (Int32.ofInt 0)), (0, .ref (A 179)), (1, .int (Int32.ofInt x)), (2, .int (Int32.ofInt y)), (3, .int (Int32.ofInt z))]) rfl (by decide) (fun _ h => h) (WS_pq [2, 3, 4, 5, 1, 0] (lv' := [(0, .ref (A 179)), (1, .int (Int32.ofInt x)), (2, .int (Int32.ofInt y)), (3, .int (Int32.ofInt z)), (4, .int (Int32.ofInt 0)), (5, .int (Int32.ofInt (64 * (x / 64))))]) rfl (L114 ((128 - (64 * (x / 64)) : Int).toNat + 1) s40 x y z 0 (64 * (x / 64)) Is40 Gs40 (pnq_s (pnq_0 (f := pfM s) (by first | exact oq_33669c0c g9 hps6 vs2 | (clear hps40 g12 hps10 hps6 hps3; omega) | (clear g12 hps10 hps6 hps3; omega) | omega) (fun c h0 h1 q => by unfold bxC at q; omega)) rfl (show pfM s = pfM s40 from (funext aws40_228).symm)) (by first | exact ⟨And.intro (by decide) (And.intro (by decide) (by decide)), oq_5d07a74c g9 hps6 vs2, oq_bf521bfa g9 hps6 vs2, And.intro (by decide) (by decide), oq_1b47d00d b42.1 hps40 g9 hps6 vs2⟩ | exact oq_23ddef78 g9 hps6 vs2 | omega) (Nat.lt_succ_self _) ?_)))))))))
                intro s44 x45 x46 Is44 Fs44 Qs44 hs44
                have b47 := bi_73 Is44
                refine z_load X (x := x45) rfl (List.Mem.tail _ (List.Mem.tail _ (List.Mem.tail _ (List.Mem.tail _ (List.Mem.head _))))) ?_
                exact w_iret X.1 q hRt rfl (ax_d X (show cdA 235 216 = some (.ireturn, 1, 0, 0, 0) from rfl)) (Nat.zero_le _) (Nat.zero_le _) ⟨_, rfl, Is44, Fs44, x45, rfl, ⟨by first | exact oq_fa4e5087 hs44.2.1.1 | omega, by first | exact oq_ba739599 hs44.2.2.1 hs44.2.1.2 hs44.1.1.2.1 | omega⟩, Or.inl ⟨by first | exact ⟨And.intro (hs44.1.1.1) (And.intro (hs44.1.1.2.1) (And.intro (hs44.1.1.2.2.1) (hs44.1.1.2.2.2))), And.intro (hs44.1.2.1.1) (hs44.1.2.1.2), hs44.1.2.2.1, hs44.1.2.2.2.1, hs44.1.2.2.2.2⟩ | omega, by first | exact hs44.2.2.2 | omega, pnq_z Qs44 (by first | exact oq_562eb216 hs44.2.2.1 hs44.1.1.1 | (clear hps40 g12 hps10 hps6 hps3; omega) | (clear g12 hps10 hps6 hps3; omega) | omega) (by first | exact oq_f5a74da0 hs44.2.2.1 hs44.1.1.2.1 g5 hps3 | (clear hps40 g12 hps10 hps6 hps3; omega) | (clear g12 hps10 hps6 hps3; omega) | omega) (fun c hc q => by unfold bxC at q; omega)⟩⟩
              ·
                refine z_const X rfl ?_
                exact w_iret X.1 q hRt rfl (ax_d X (show cdA 235 101 = some (.ireturn, 1, 0, 0, 0) from rfl)) (Nat.zero_le _) (Nat.zero_le _) ⟨_, rfl, Is40, Gs40, 0, rfl, (by decide), Or.inr ⟨by first | exact oq_14215017 g43 hps40 g9 b8.1 hps6 vs2 | exact oq_14215017 g43 hps40 g9 b8.1 hps6 vs2 | omega, aws40_228⟩⟩
            ·
              refine z_const X rfl (z_goto X (t := 93) rfl rfl (z_const X rfl (zcV_i0 X E 179 (As := [.int (Int32.ofInt 1), .int (Int32.ofInt 2)]) (st := []) rfl rfl rfl rfl (k_bad2 G Is6 (by first | exact Or.inr (by decide) | omega) (by first | exact ⟨by decide, by decide⟩ | omega)) rfl (Nat.le_of_ble_eq_true rfl) (fun s48 e49 Is48 Fs48 hrs48 hps48 => ?_))))
              have Gs48 := fm_tq Gs6 Fs48 rfl rfl
              have b50 := bi_73 Is48
              have aws48_228 : SAM 228 s s48 := sam_ts aws6_228 (sam_fm Fs48 (by decide))
              refine z_if_eq X (t := 102) rfl rfl hrs48 (fun g51 => ?_) (fun g51 => ?_)
              ·
                refine z_const X rfl (z_store X (lv' := [(4, .int (Int32.ofInt 0)), (0, .ref (A 179)), (1, .int (Int32.ofInt x)), (2, .int (Int32.ofInt y)), (3, .int (Int32.ofInt z))]) rfl (by decide) (fun _ h => h) (z_bipush X rfl (z_load_n X (x := x) rfl (List.Mem.tail _ (List.Mem.tail _ (List.Mem.head _))) (z_bipush X rfl (z_quot X rfl (by first | exact oq_7bca4f44 g51 hps48 g9 b8.1 hps6 vs2 | exact oq_7bca4f44 g51 hps48 g9 b8.1 hps6 vs2 | omega) ⟨by first | exact p0.1 | omega, by first | exact p0.2 | omega⟩ (by decide) (by decide) (z_mul X rfl (z_store X (lv' := [(5, .int (Int32.ofInt (64 * (x / 64)))), (4, .int (Int32.ofInt 0)), (0, .ref (A 179)), (1, .int (Int32.ofInt x)), (2, .int (Int32.ofInt y)), (3, .int (Int32.ofInt z))]) rfl (by decide) (fun _ h => h) (WS_pq [2, 3, 4, 5, 1, 0] (lv' := [(0, .ref (A 179)), (1, .int (Int32.ofInt x)), (2, .int (Int32.ofInt y)), (3, .int (Int32.ofInt z)), (4, .int (Int32.ofInt 0)), (5, .int (Int32.ofInt (64 * (x / 64))))]) rfl (L114 ((128 - (64 * (x / 64)) : Int).toNat + 1) s48 x y z 0 (64 * (x / 64)) Is48 Gs48 (pnq_s (pnq_0 (f := pfM s) (by first | exact oq_466819e1 g51 hps48 g9 b8.1 hps6 vs2 | (clear hps48 g12 hps10 hps6 hps3; omega) | (clear g12 hps10 hps6 hps3; omega) | omega) (fun c h0 h1 q => by unfold bxC at q; omega)) rfl (show pfM s = pfM s48 from (funext aws48_228).symm)) (by first | exact ⟨And.intro (by decide) (And.intro (by decide) (by decide)), oq_3b5755f7 g51 hps48 g9 b8.1 hps6 vs2, oq_60648b5f g51 hps48 g9 b8.1 hps6 vs2, And.intro (by decide) (by decide), oq_7ef9130d g51 b50.1 hps48 g9 hps6 vs2⟩ | exact oq_537746fe g51 hps48 g9 b8.1 hps6 vs2 | omega) (Nat.lt_succ_self _) ?_)))))))))
                intro s52 x53 x54 Is52 Fs52 Qs52 hs52
                have b55 := bi_73 Is52
                refine z_load X (x := x53) rfl (List.Mem.tail _ (List.Mem.tail _ (List.Mem.tail _ (List.Mem.tail _ (List.Mem.head _))))) ?_
                exact w_iret X.1 q hRt rfl (ax_d X (show cdA 235 216 = some (.ireturn, 1, 0, 0, 0) from rfl)) (Nat.zero_le _) (Nat.zero_le _) ⟨_, rfl, Is52, Fs52, x53, rfl, ⟨by first | exact oq_fa4e5087 hs52.2.1.1 | omega, by first | exact oq_ba739599 hs52.2.2.1 hs52.2.1.2 hs52.1.1.2.1 | omega⟩, Or.inl ⟨by first | exact ⟨And.intro (hs52.1.1.1) (And.intro (hs52.1.1.2.1) (And.intro (hs52.1.1.2.2.1) (hs52.1.1.2.2.2))), And.intro (hs52.1.2.1.1) (hs52.1.2.1.2), hs52.1.2.2.1, hs52.1.2.2.2.1, hs52.1.2.2.2.2⟩ | omega, by first | exact hs52.2.2.2 | omega, pnq_z Qs52 (by first | exact oq_0d8d7510 hs52.1.2.2.2.2 g39 | (clear hps48 g12 hps10 hps6 hps3; omega) | (clear g12 hps10 hps6 hps3; omega) | omega) (by first | exact oq_79156edb hs52.1.2.2.2.2 g39 | (clear hps48 g12 hps10 hps6 hps3; omega) | (clear g12 hps10 hps6 hps3; omega) | omega) (fun c hc q => by unfold bxC at q; omega)⟩⟩
              ·
                refine z_const X rfl ?_
                exact w_iret X.1 q hRt rfl (ax_d X (show cdA 235 101 = some (.ireturn, 1, 0, 0, 0) from rfl)) (Nat.zero_le _) (Nat.zero_le _) ⟨_, rfl, Is48, Gs48, 0, rfl, (by decide), Or.inr ⟨by first | exact oq_adc32970 g9 hps6 vs2 | exact oq_adc32970 g9 hps6 vs2 | omega, aws48_228⟩⟩
  ·
    refine z_load_n X (x := y) rfl (List.Mem.tail _ (List.Mem.tail _ (List.Mem.head _))) (z_const X rfl (z_bipush X rfl (z_callS X (rm := rmN 188) (As := [.int (Int32.ofInt y), .int (Int32.ofInt 0), .int (Int32.ofInt 127)]) (st := [.ref (A 179)]) rfl rfl (by rw [E.1, E.2.1, E.2.2.1]; exact k_in2 G Is2 (by first | exact ⟨p1.1, p1.2⟩ | omega) (by first | exact ⟨by decide, by decide⟩ | omega) (by first | exact ⟨by decide, by decide⟩ | omega)) ⟨by rw [E.2.2.2]; exact (show (rmN 188).frames + 1 ≤ (rmN 235).frames by decide), by rw [E.2.2.2]; exact (show 8 + (mNL (miB 188) + 11) + (rmN 188).locals ≤ (rmN 235).locals by decide), by rw [E.2.2.2]; exact (show 0 + (rmN 188).cells ≤ (rmN 235).cells by decide), by rw [E.2.2.2]; exact (show 0 + (rmN 188).slots ≤ (rmN 235).slots by decide)⟩ (Nat.le_of_ble_eq_true rfl) (fun vv s56 hq => ?_) (fun ee s56 hq => ?_))))
    rotate_left
    · obtain ⟨rfl, e57, hv, hrs56, hps56⟩ := hq; cases hv
    obtain ⟨rfl, e57, hv, hrs56, hps56⟩ := hq
    cases hv
    show WS k 23 [(0, .ref (A 179)), (1, .int (Int32.ofInt x)), (2, .int (Int32.ofInt y)), (3, .int (Int32.ofInt z))] [.int (Int32.ofInt e57), .ref (A 179)] (Wd A dT s2) 0 0
    refine z_if_ne X (t := 30) rfl rfl hrs56 (fun g58 => ?_) (fun g58 => ?_)
    ·
      refine z_const X rfl (z_const X rfl (zcV_i0 X E 179 (As := [.int (Int32.ofInt 0), .int (Int32.ofInt 1)]) (st := []) rfl rfl rfl rfl (k_bad2 G Is2 (by first | exact Or.inl (by decide) | omega) (by first | exact ⟨by decide, by decide⟩ | omega)) rfl (Nat.le_of_ble_eq_true rfl) (fun s59 e60 Is59 Fs59 hrs59 hps59 => ?_)))
      have Gs59 := fm_tq Fs2 Fs59 rfl rfl
      have b61 := bi_73 Is59
      have aws59_228 : SAM 228 s s59 := sam_ts aws2_228 (sam_fm Fs59 (by decide))
      refine z_if_ne X (t := 100) rfl rfl hrs59 (fun g62 => ?_) (fun g62 => ?_)
      ·
        refine z_const X rfl ?_
        exact w_iret X.1 q hRt rfl (ax_d X (show cdA 235 101 = some (.ireturn, 1, 0, 0, 0) from rfl)) (Nat.zero_le _) (Nat.zero_le _) ⟨_, rfl, Is59, Gs59, 0, rfl, (by decide), Or.inr ⟨by first | exact oq_2f30b211 g62 hps59 vs2 | exact oq_2f30b211 g62 hps59 vs2 | omega, aws59_228⟩⟩
      ·
        refine z_aload_n X (x := A 179) rfl (List.Mem.head _) (z_load_n X (x := z) rfl (List.Mem.tail _ (List.Mem.tail _ (List.Mem.tail _ (List.Mem.head _)))) (z_const X rfl (z_bipush X rfl (z_callS X (rm := rmN 188) (As := [.int (Int32.ofInt z), .int (Int32.ofInt (-1)), .int (Int32.ofInt 7)]) (st := [.ref (A 179)]) rfl rfl (by rw [E.1, E.2.1, E.2.2.1]; exact k_in2 G Is59 (by first | exact ⟨p2.1, p2.2⟩ | omega) (by first | exact ⟨by decide, by decide⟩ | omega) (by first | exact ⟨by decide, by decide⟩ | omega)) ⟨by rw [E.2.2.2]; exact (show (rmN 188).frames + 1 ≤ (rmN 235).frames by decide), by rw [E.2.2.2]; exact (show 8 + (mNL (miB 188) + 11) + (rmN 188).locals ≤ (rmN 235).locals by decide), by rw [E.2.2.2]; exact (show 0 + (rmN 188).cells ≤ (rmN 235).cells by decide), by rw [E.2.2.2]; exact (show 0 + (rmN 188).slots ≤ (rmN 235).slots by decide)⟩ (Nat.le_of_ble_eq_true rfl) (fun vv s63 hq => ?_) (fun ee s63 hq => ?_)))))
        rotate_left
        · obtain ⟨rfl, e64, hv, hrs63, hps63⟩ := hq; cases hv
        obtain ⟨rfl, e64, hv, hrs63, hps63⟩ := hq
        cases hv
        show WS k 46 [(0, .ref (A 179)), (1, .int (Int32.ofInt x)), (2, .int (Int32.ofInt y)), (3, .int (Int32.ofInt z))] [.int (Int32.ofInt e64), .ref (A 179)] (Wd A dT s59) 0 0
        refine z_if_eq X (t := 88) rfl rfl hrs63 (fun g65 => ?_) (fun g65 => ?_)
        ·
          refine z_const X rfl (z_goto X (t := 93) rfl rfl (z_const X rfl (zcV_i0 X E 179 (As := [.int (Int32.ofInt 1), .int (Int32.ofInt 2)]) (st := []) rfl rfl rfl rfl (k_bad2 G Is59 (by first | exact Or.inr (by decide) | omega) (by first | exact ⟨by decide, by decide⟩ | omega)) rfl (Nat.le_of_ble_eq_true rfl) (fun s66 e67 Is66 Fs66 hrs66 hps66 => ?_))))
          have Gs66 := fm_tq Gs59 Fs66 rfl rfl
          have b68 := bi_73 Is66
          have aws66_228 : SAM 228 s s66 := sam_ts aws59_228 (sam_fm Fs66 (by decide))
          refine z_if_eq X (t := 102) rfl rfl hrs66 (fun g69 => ?_) (fun g69 => ?_)
          ·
            refine z_const X rfl (z_store X (lv' := [(4, .int (Int32.ofInt 0)), (0, .ref (A 179)), (1, .int (Int32.ofInt x)), (2, .int (Int32.ofInt y)), (3, .int (Int32.ofInt z))]) rfl (by decide) (fun _ h => h) (z_bipush X rfl (z_load_n X (x := x) rfl (List.Mem.tail _ (List.Mem.tail _ (List.Mem.head _))) (z_bipush X rfl (z_quot X rfl (by first | exact oq_77708b6d g5 hps3 | omega) ⟨by first | exact p0.1 | omega, by first | exact p0.2 | omega⟩ (by decide) (by decide) (z_mul X rfl (z_store X (lv' := [(5, .int (Int32.ofInt (64 * (x / 64)))), (4, .int (Int32.ofInt 0)), (0, .ref (A 179)), (1, .int (Int32.ofInt x)), (2, .int (Int32.ofInt y)), (3, .int (Int32.ofInt z))]) rfl (by decide) (fun _ h => h) (WS_pq [2, 3, 4, 5, 1, 0] (lv' := [(0, .ref (A 179)), (1, .int (Int32.ofInt x)), (2, .int (Int32.ofInt y)), (3, .int (Int32.ofInt z)), (4, .int (Int32.ofInt 0)), (5, .int (Int32.ofInt (64 * (x / 64))))]) rfl (L114 ((128 - (64 * (x / 64)) : Int).toNat + 1) s66 x y z 0 (64 * (x / 64)) Is66 Gs66 (pnq_s (pnq_0 (f := pfM s) (by first | exact oq_852f20e8 g69 hps66 b61.1 hps59 vs2 | (clear hps66 hps63 hps59 g58 hps56 g5 hps3; omega) | (clear hps63 hps59 g58 hps56 g5 hps3; omega) | omega) (fun c h0 h1 q => by unfold bxC at q; omega)) rfl (show pfM s = pfM s66 from (funext aws66_228).symm)) (by first | exact ⟨And.intro (by decide) (And.intro (by decide) (by decide)), oq_f827cc9d g69 hps66 b61.1 hps59 vs2, oq_94dce2ce g69 hps66 b61.1 hps59 vs2, And.intro (by decide) (by decide), oq_fb4755ef g69 b68.1 hps66 hps59 vs2⟩ | exact oq_e3b245c0 g69 hps66 b61.1 hps59 vs2 | omega) (Nat.lt_succ_self _) ?_)))))))))
            intro s70 x71 x72 Is70 Fs70 Qs70 hs70
            have b73 := bi_73 Is70
            refine z_load X (x := x71) rfl (List.Mem.tail _ (List.Mem.tail _ (List.Mem.tail _ (List.Mem.tail _ (List.Mem.head _))))) ?_
            exact w_iret X.1 q hRt rfl (ax_d X (show cdA 235 216 = some (.ireturn, 1, 0, 0, 0) from rfl)) (Nat.zero_le _) (Nat.zero_le _) ⟨_, rfl, Is70, Fs70, x71, rfl, ⟨by first | exact oq_fa4e5087 hs70.2.1.1 | omega, by first | exact oq_ba739599 hs70.2.2.1 hs70.2.1.2 hs70.1.1.2.1 | omega⟩, Or.inl ⟨by first | exact ⟨And.intro (hs70.1.1.1) (And.intro (hs70.1.1.2.1) (And.intro (hs70.1.1.2.2.1) (hs70.1.1.2.2.2))), And.intro (hs70.1.2.1.1) (hs70.1.2.1.2), hs70.1.2.2.1, hs70.1.2.2.2.1, hs70.1.2.2.2.2⟩ | omega, by first | exact hs70.2.2.2 | omega, pnq_z Qs70 (by first | exact oq_562eb216 hs70.2.2.1 hs70.1.1.1 | (clear hps66 hps63 hps59 g58 hps56 g5 hps3; omega) | (clear hps63 hps59 g58 hps56 g5 hps3; omega) | omega) (by first | exact oq_a55f7164 hs70.1.2.1.2 hs70.1.2.1.1 g65 hps63 | (clear hps66 hps63 hps59 g58 hps56 g5 hps3; omega) | (clear hps63 hps59 g58 hps56 g5 hps3; omega) | omega) (fun c hc q => by unfold bxC at q; omega)⟩⟩
          ·
            refine z_const X rfl ?_
            exact w_iret X.1 q hRt rfl (ax_d X (show cdA 235 101 = some (.ireturn, 1, 0, 0, 0) from rfl)) (Nat.zero_le _) (Nat.zero_le _) ⟨_, rfl, Is66, Gs66, 0, rfl, (by decide), Or.inr ⟨by first | exact oq_85cd635c g69 hps66 g65 hps63 b61.1 hps59 g58 hps56 g5 hps3 vs2 | exact oq_85cd635c g69 hps66 g65 hps63 b61.1 hps59 g58 hps56 g5 hps3 vs2 | omega, aws66_228⟩⟩
        ·
          refine z_load_n X (x := x) rfl (List.Mem.tail _ (List.Mem.head _)) (z_bipush X rfl (z_quot X rfl (by first | exact oq_77708b6d g5 hps3 | omega) ⟨by first | exact p0.1 | omega, by first | exact p0.2 | omega⟩ (by decide) (by decide) (z_load_n X (x := y) rfl (List.Mem.tail _ (List.Mem.tail _ (List.Mem.head _))) (z_bipush X rfl (z_quot X rfl (by first | exact oq_77708b6d g58 hps56 | omega) ⟨by first | exact p1.1 | omega, by first | exact p1.2 | omega⟩ (by decide) (by decide) (z_icmp_ne X (t := 88) rfl rfl ⟨by first | exact oq_f457fe4f p0.1 | omega, by first | exact oq_e42dd4bd p0.2 | omega⟩ ⟨by first | exact oq_f457fe4f p1.1 | omega, by first | exact oq_e42dd4bd p1.2 | omega⟩ (fun g74 => ?_) (fun g74 => ?_)))))))
          ·
            refine z_const X rfl (z_goto X (t := 93) rfl rfl (z_const X rfl (zcV_i0 X E 179 (As := [.int (Int32.ofInt 1), .int (Int32.ofInt 2)]) (st := []) rfl rfl rfl rfl (k_bad2 G Is59 (by first | exact Or.inr (by decide) | omega) (by first | exact ⟨by decide, by decide⟩ | omega)) rfl (Nat.le_of_ble_eq_true rfl) (fun s75 e76 Is75 Fs75 hrs75 hps75 => ?_))))
            have Gs75 := fm_tq Gs59 Fs75 rfl rfl
            have b77 := bi_73 Is75
            have aws75_228 : SAM 228 s s75 := sam_ts aws59_228 (sam_fm Fs75 (by decide))
            refine z_if_eq X (t := 102) rfl rfl hrs75 (fun g78 => ?_) (fun g78 => ?_)
            ·
              refine z_const X rfl (z_store X (lv' := [(4, .int (Int32.ofInt 0)), (0, .ref (A 179)), (1, .int (Int32.ofInt x)), (2, .int (Int32.ofInt y)), (3, .int (Int32.ofInt z))]) rfl (by decide) (fun _ h => h) (z_bipush X rfl (z_load_n X (x := x) rfl (List.Mem.tail _ (List.Mem.tail _ (List.Mem.head _))) (z_bipush X rfl (z_quot X rfl (by first | exact oq_77708b6d g5 hps3 | omega) ⟨by first | exact p0.1 | omega, by first | exact p0.2 | omega⟩ (by decide) (by decide) (z_mul X rfl (z_store X (lv' := [(5, .int (Int32.ofInt (64 * (x / 64)))), (4, .int (Int32.ofInt 0)), (0, .ref (A 179)), (1, .int (Int32.ofInt x)), (2, .int (Int32.ofInt y)), (3, .int (Int32.ofInt z))]) rfl (by decide) (fun _ h => h) (WS_pq [2, 3, 4, 5, 1, 0] (lv' := [(0, .ref (A 179)), (1, .int (Int32.ofInt x)), (2, .int (Int32.ofInt y)), (3, .int (Int32.ofInt z)), (4, .int (Int32.ofInt 0)), (5, .int (Int32.ofInt (64 * (x / 64))))]) rfl (L114 ((128 - (64 * (x / 64)) : Int).toNat + 1) s75 x y z 0 (64 * (x / 64)) Is75 Gs75 (pnq_s (pnq_0 (f := pfM s) (by first | exact oq_852f20e8 g78 hps75 b61.1 hps59 vs2 | (clear hps75 g74 g65 hps63 hps59 g58 hps56 g5 hps3; omega) | (clear g74 g65 hps63 hps59 g58 hps56 g5 hps3; omega) | omega) (fun c h0 h1 q => by unfold bxC at q; omega)) rfl (show pfM s = pfM s75 from (funext aws75_228).symm)) (by first | exact ⟨And.intro (by decide) (And.intro (by decide) (by decide)), oq_f827cc9d g78 hps75 b61.1 hps59 vs2, by first | (clear hps75 g74 g65 hps63 hps59 g58 hps56 g5 hps3; omega) | (clear g74 g65 hps63 hps59 g58 hps56 g5 hps3; omega) | omega, And.intro (by decide) (by decide), oq_fb4755ef g78 b77.1 hps75 hps59 vs2⟩ | exact oq_e3b245c0 g78 hps75 b61.1 hps59 vs2 | omega) (Nat.lt_succ_self _) ?_)))))))))
              intro s79 x80 x81 Is79 Fs79 Qs79 hs79
              have b82 := bi_73 Is79
              refine z_load X (x := x80) rfl (List.Mem.tail _ (List.Mem.tail _ (List.Mem.tail _ (List.Mem.tail _ (List.Mem.head _))))) ?_
              exact w_iret X.1 q hRt rfl (ax_d X (show cdA 235 216 = some (.ireturn, 1, 0, 0, 0) from rfl)) (Nat.zero_le _) (Nat.zero_le _) ⟨_, rfl, Is79, Fs79, x80, rfl, ⟨by first | exact oq_fa4e5087 hs79.2.1.1 | omega, by first | exact oq_ba739599 hs79.2.2.1 hs79.2.1.2 hs79.1.1.2.1 | omega⟩, Or.inl ⟨by first | exact ⟨And.intro (hs79.1.1.1) (And.intro (hs79.1.1.2.1) (And.intro (hs79.1.1.2.2.1) (hs79.1.1.2.2.2))), And.intro (hs79.1.2.1.1) (hs79.1.2.1.2), hs79.1.2.2.1, hs79.1.2.2.2.1, hs79.1.2.2.2.2⟩ | omega, by first | exact hs79.2.2.2 | omega, pnq_z Qs79 (by first | exact oq_562eb216 hs79.2.2.1 hs79.1.1.1 | (clear hps75 g74 g65 hps63 hps59 g58 hps56 g5 hps3; omega) | (clear g74 g65 hps63 hps59 g58 hps56 g5 hps3; omega) | omega) (by first | exact oq_e6aaaeee hs79.1.2.2.1 g74 | (clear hps75 g74 g65 hps63 hps59 g58 hps56 g5 hps3; omega) | (clear g74 g65 hps63 hps59 g58 hps56 g5 hps3; omega) | omega) (fun c hc q => by unfold bxC at q; omega)⟩⟩
            ·
              refine z_const X rfl ?_
              exact w_iret X.1 q hRt rfl (ax_d X (show cdA 235 101 = some (.ireturn, 1, 0, 0, 0) from rfl)) (Nat.zero_le _) (Nat.zero_le _) ⟨_, rfl, Is75, Gs75, 0, rfl, (by decide), Or.inr ⟨by first | exact oq_e586d946 g78 hps75 g74 b61.1 hps59 g58 hps56 g5 hps3 vs2 | (clear g78 hps75 g74 g65 hps63 hps59 g58 hps56 g5 hps3; omega) | (clear hps75 g74 g65 hps63 hps59 g58 hps56 g5 hps3; omega) | omega, aws75_228⟩⟩
          ·
            refine z_load_n X (x := x) rfl (List.Mem.tail _ (List.Mem.head _)) (z_bipush X rfl (z_mod X rfl (by first | exact oq_77708b6d g5 hps3 | omega) ⟨by first | exact p0.1 | omega, by first | exact p0.2 | omega⟩ (by decide) (by decide) (z_load_n X (x := y) rfl (List.Mem.tail _ (List.Mem.tail _ (List.Mem.head _))) (z_bipush X rfl (z_mod X rfl (by first | exact oq_77708b6d g58 hps56 | omega) ⟨by first | exact p1.1 | omega, by first | exact p1.2 | omega⟩ (by decide) (by decide) (z_icmp_gt X (t := 88) rfl rfl ⟨by first | exact oq_e86162eb | omega, by first | exact oq_70086759 | omega⟩ ⟨by first | exact oq_e86162eb | omega, by first | exact oq_70086759 | omega⟩ (fun g83 => ?_) (fun g83 => ?_)))))))
            ·
              refine z_const X rfl (z_goto X (t := 93) rfl rfl (z_const X rfl (zcV_i0 X E 179 (As := [.int (Int32.ofInt 1), .int (Int32.ofInt 2)]) (st := []) rfl rfl rfl rfl (k_bad2 G Is59 (by first | exact Or.inr (by decide) | omega) (by first | exact ⟨by decide, by decide⟩ | omega)) rfl (Nat.le_of_ble_eq_true rfl) (fun s84 e85 Is84 Fs84 hrs84 hps84 => ?_))))
              have Gs84 := fm_tq Gs59 Fs84 rfl rfl
              have b86 := bi_73 Is84
              have aws84_228 : SAM 228 s s84 := sam_ts aws59_228 (sam_fm Fs84 (by decide))
              refine z_if_eq X (t := 102) rfl rfl hrs84 (fun g87 => ?_) (fun g87 => ?_)
              ·
                refine z_const X rfl (z_store X (lv' := [(4, .int (Int32.ofInt 0)), (0, .ref (A 179)), (1, .int (Int32.ofInt x)), (2, .int (Int32.ofInt y)), (3, .int (Int32.ofInt z))]) rfl (by decide) (fun _ h => h) (z_bipush X rfl (z_load_n X (x := x) rfl (List.Mem.tail _ (List.Mem.tail _ (List.Mem.head _))) (z_bipush X rfl (z_quot X rfl (by first | exact oq_77708b6d g5 hps3 | omega) ⟨by first | exact p0.1 | omega, by first | exact p0.2 | omega⟩ (by decide) (by decide) (z_mul X rfl (z_store X (lv' := [(5, .int (Int32.ofInt (64 * (x / 64)))), (4, .int (Int32.ofInt 0)), (0, .ref (A 179)), (1, .int (Int32.ofInt x)), (2, .int (Int32.ofInt y)), (3, .int (Int32.ofInt z))]) rfl (by decide) (fun _ h => h) (WS_pq [2, 3, 4, 5, 1, 0] (lv' := [(0, .ref (A 179)), (1, .int (Int32.ofInt x)), (2, .int (Int32.ofInt y)), (3, .int (Int32.ofInt z)), (4, .int (Int32.ofInt 0)), (5, .int (Int32.ofInt (64 * (x / 64))))]) rfl (L114 ((128 - (64 * (x / 64)) : Int).toNat + 1) s84 x y z 0 (64 * (x / 64)) Is84 Gs84 (pnq_s (pnq_0 (f := pfM s) (by first | exact oq_852f20e8 g87 hps84 b61.1 hps59 vs2 | (clear hps84 g65 hps63 hps59 g58 hps56 g5 hps3; omega) | (clear g65 hps63 hps59 g58 hps56 g5 hps3; omega) | omega) (fun c h0 h1 q => by unfold bxC at q; omega)) rfl (show pfM s = pfM s84 from (funext aws84_228).symm)) (by first | exact ⟨And.intro (by decide) (And.intro (by decide) (by decide)), oq_f827cc9d g87 hps84 b61.1 hps59 vs2, oq_94dce2ce g87 hps84 b61.1 hps59 vs2, And.intro (by decide) (by decide), oq_fb4755ef g87 b86.1 hps84 hps59 vs2⟩ | exact oq_e3b245c0 g87 hps84 b61.1 hps59 vs2 | omega) (Nat.lt_succ_self _) ?_)))))))))
                intro s88 x89 x90 Is88 Fs88 Qs88 hs88
                have b91 := bi_73 Is88
                refine z_load X (x := x89) rfl (List.Mem.tail _ (List.Mem.tail _ (List.Mem.tail _ (List.Mem.tail _ (List.Mem.head _))))) ?_
                exact w_iret X.1 q hRt rfl (ax_d X (show cdA 235 216 = some (.ireturn, 1, 0, 0, 0) from rfl)) (Nat.zero_le _) (Nat.zero_le _) ⟨_, rfl, Is88, Fs88, x89, rfl, ⟨by first | exact oq_fa4e5087 hs88.2.1.1 | omega, by first | exact oq_ba739599 hs88.2.2.1 hs88.2.1.2 hs88.1.1.2.1 | omega⟩, Or.inl ⟨by first | exact ⟨And.intro (hs88.1.1.1) (And.intro (hs88.1.1.2.1) (And.intro (hs88.1.1.2.2.1) (hs88.1.1.2.2.2))), And.intro (hs88.1.2.1.1) (hs88.1.2.1.2), hs88.1.2.2.1, hs88.1.2.2.2.1, hs88.1.2.2.2.2⟩ | omega, by first | exact hs88.2.2.2 | omega, pnq_z Qs88 (by first | exact oq_68441d5e hs88.1.2.2.2.1 g83 | (clear hps84 g65 hps63 hps59 g58 hps56 g5 hps3; omega) | (clear g65 hps63 hps59 g58 hps56 g5 hps3; omega) | omega) (by first | exact oq_3eaeead8 hs88.1.2.2.2.1 g83 | (clear hps84 g65 hps63 hps59 g58 hps56 g5 hps3; omega) | (clear g65 hps63 hps59 g58 hps56 g5 hps3; omega) | omega) (fun c hc q => by unfold bxC at q; omega)⟩⟩
              ·
                refine z_const X rfl ?_
                exact w_iret X.1 q hRt rfl (ax_d X (show cdA 235 101 = some (.ireturn, 1, 0, 0, 0) from rfl)) (Nat.zero_le _) (Nat.zero_le _) ⟨_, rfl, Is84, Gs84, 0, rfl, (by decide), Or.inr ⟨by first | exact oq_ea342497 g87 hps84 g83 b61.1 hps59 g58 hps56 g5 hps3 vs2 | exact oq_ea342497 g87 hps84 g83 b61.1 hps59 g58 hps56 g5 hps3 vs2 | omega, aws84_228⟩⟩
            ·
              refine z_load_n X (x := x) rfl (List.Mem.tail _ (List.Mem.head _)) (z_bipush X rfl (z_quot X rfl (by first | exact oq_77708b6d g5 hps3 | omega) ⟨by first | exact p0.1 | omega, by first | exact p0.2 | omega⟩ (by decide) (by decide) (z_bipush X rfl (z_mod X rfl (by first | exact oq_88610498 g5 hps3 | omega) ⟨by first | exact oq_186a3934 p0.1 | omega, by first | exact oq_2590a617 p0.2 | omega⟩ (by decide) (by decide) (z_load_n X (x := y) rfl (List.Mem.tail _ (List.Mem.tail _ (List.Mem.head _))) (z_bipush X rfl (z_quot X rfl (by first | exact oq_77708b6d g58 hps56 | omega) ⟨by first | exact p1.1 | omega, by first | exact p1.2 | omega⟩ (by decide) (by decide) (z_bipush X rfl (z_mod X rfl (by first | exact oq_88610498 g58 hps56 | omega) ⟨by first | exact oq_186a3934 p1.1 | omega, by first | exact oq_2590a617 p1.2 | omega⟩ (by decide) (by decide) (z_icmp_le X (t := 92) rfl rfl ⟨by first | exact oq_452e8fda | omega, by first | exact oq_267eaf70 | omega⟩ ⟨by first | exact oq_452e8fda | omega, by first | exact oq_267eaf70 | omega⟩ (fun g92 => ?_) (fun g92 => ?_)))))))))))
              ·
                refine z_const X rfl (z_const X rfl (zcV_i0 X E 179 (As := [.int (Int32.ofInt 0), .int (Int32.ofInt 2)]) (st := []) rfl rfl rfl rfl (k_bad2 G Is59 (by first | exact Or.inl (by decide) | omega) (by first | exact ⟨by decide, by decide⟩ | omega)) rfl (Nat.le_of_ble_eq_true rfl) (fun s93 e94 Is93 Fs93 hrs93 hps93 => ?_)))
                have Gs93 := fm_tq Gs59 Fs93 rfl rfl
                have b95 := bi_73 Is93
                have aws93_228 : SAM 228 s s93 := sam_ts aws59_228 (sam_fm Fs93 (by decide))
                refine z_if_eq X (t := 102) rfl rfl hrs93 (fun g96 => ?_) (fun g96 => ?_)
                ·
                  refine z_const X rfl (z_store X (lv' := [(4, .int (Int32.ofInt 0)), (0, .ref (A 179)), (1, .int (Int32.ofInt x)), (2, .int (Int32.ofInt y)), (3, .int (Int32.ofInt z))]) rfl (by decide) (fun _ h => h) (z_bipush X rfl (z_load_n X (x := x) rfl (List.Mem.tail _ (List.Mem.tail _ (List.Mem.head _))) (z_bipush X rfl (z_quot X rfl (by first | exact oq_77708b6d g5 hps3 | omega) ⟨by first | exact p0.1 | omega, by first | exact p0.2 | omega⟩ (by decide) (by decide) (z_mul X rfl (z_store X (lv' := [(5, .int (Int32.ofInt (64 * (x / 64)))), (4, .int (Int32.ofInt 0)), (0, .ref (A 179)), (1, .int (Int32.ofInt x)), (2, .int (Int32.ofInt y)), (3, .int (Int32.ofInt z))]) rfl (by decide) (fun _ h => h) (WS_pq [2, 3, 4, 5, 1, 0] (lv' := [(0, .ref (A 179)), (1, .int (Int32.ofInt x)), (2, .int (Int32.ofInt y)), (3, .int (Int32.ofInt z)), (4, .int (Int32.ofInt 0)), (5, .int (Int32.ofInt (64 * (x / 64))))]) rfl (L114 ((128 - (64 * (x / 64)) : Int).toNat + 1) s93 x y z 0 (64 * (x / 64)) Is93 Gs93 (pnq_s (pnq_0 (f := pfM s) (by first | (clear hps93 g65 hps63 hps59 g58 hps56 g5 hps3; omega) | (clear g65 hps63 hps59 g58 hps56 g5 hps3; omega) | omega) (fun c h0 h1 q => by unfold bxC at q; omega)) rfl (show pfM s = pfM s93 from (funext aws93_228).symm)) (by first | exact ⟨And.intro (by decide) (And.intro (by decide) (by decide)), oq_9639b5e6 g92 g83 g74 g65 hps63 g58 hps56 g5 hps3, by first | (clear hps93 g65 hps63 hps59 g58 hps56 g5 hps3; omega) | (clear g65 hps63 hps59 g58 hps56 g5 hps3; omega) | omega, And.intro (by decide) (by decide), oq_c542437d b95.1 hps93 hps59 vs2⟩ | omega) (Nat.lt_succ_self _) ?_)))))))))
                  intro s97 x98 x99 Is97 Fs97 Qs97 hs97
                  have b100 := bi_73 Is97
                  refine z_load X (x := x98) rfl (List.Mem.tail _ (List.Mem.tail _ (List.Mem.tail _ (List.Mem.tail _ (List.Mem.head _))))) ?_
                  exact w_iret X.1 q hRt rfl (ax_d X (show cdA 235 216 = some (.ireturn, 1, 0, 0, 0) from rfl)) (Nat.zero_le _) (Nat.zero_le _) ⟨_, rfl, Is97, Fs97, x98, rfl, ⟨by first | exact oq_fa4e5087 hs97.2.1.1 | omega, by first | exact oq_ba739599 hs97.2.2.1 hs97.2.1.2 hs97.1.1.2.1 | omega⟩, Or.inl ⟨by first | exact ⟨And.intro (hs97.1.1.1) (And.intro (hs97.1.1.2.1) (And.intro (hs97.1.1.2.2.1) (hs97.1.1.2.2.2))), And.intro (hs97.1.2.1.1) (hs97.1.2.1.2), hs97.1.2.2.1, hs97.1.2.2.2.1, hs97.1.2.2.2.2⟩ | omega, by first | exact hs97.2.2.2 | omega, pnq_z Qs97 (by first | exact oq_562eb216 hs97.2.2.1 hs97.1.1.1 | (clear hps93 g65 hps63 hps59 g58 hps56 g5 hps3; omega) | (clear g65 hps63 hps59 g58 hps56 g5 hps3; omega) | omega) (by first | (clear hps93 g65 hps63 hps59 g58 hps56 g5 hps3; omega) | (clear g65 hps63 hps59 g58 hps56 g5 hps3; omega) | omega) (fun c hc q => by unfold bxC at q; omega)⟩⟩
                ·
                  refine z_const X rfl ?_
                  exact w_iret X.1 q hRt rfl (ax_d X (show cdA 235 101 = some (.ireturn, 1, 0, 0, 0) from rfl)) (Nat.zero_le _) (Nat.zero_le _) ⟨_, rfl, Is93, Gs93, 0, rfl, (by decide), Or.inr ⟨by first | exact oq_9f99b3a7 g96 hps93 b61.1 hps59 vs2 | exact oq_9f99b3a7 g96 hps93 b61.1 hps59 vs2 | omega, aws93_228⟩⟩
              ·
                refine z_const X rfl (z_goto X (t := 93) rfl rfl (z_const X rfl (zcV_i0 X E 179 (As := [.int (Int32.ofInt 1), .int (Int32.ofInt 2)]) (st := []) rfl rfl rfl rfl (k_bad2 G Is59 (by first | exact Or.inr (by decide) | omega) (by first | exact ⟨by decide, by decide⟩ | omega)) rfl (Nat.le_of_ble_eq_true rfl) (fun s101 e102 Is101 Fs101 hrs101 hps101 => ?_))))
                have Gs101 := fm_tq Gs59 Fs101 rfl rfl
                have b103 := bi_73 Is101
                have aws101_228 : SAM 228 s s101 := sam_ts aws59_228 (sam_fm Fs101 (by decide))
                refine z_if_eq X (t := 102) rfl rfl hrs101 (fun g104 => ?_) (fun g104 => ?_)
                ·
                  refine z_const X rfl (z_store X (lv' := [(4, .int (Int32.ofInt 0)), (0, .ref (A 179)), (1, .int (Int32.ofInt x)), (2, .int (Int32.ofInt y)), (3, .int (Int32.ofInt z))]) rfl (by decide) (fun _ h => h) (z_bipush X rfl (z_load_n X (x := x) rfl (List.Mem.tail _ (List.Mem.tail _ (List.Mem.head _))) (z_bipush X rfl (z_quot X rfl (by first | exact oq_77708b6d g5 hps3 | omega) ⟨by first | exact p0.1 | omega, by first | exact p0.2 | omega⟩ (by decide) (by decide) (z_mul X rfl (z_store X (lv' := [(5, .int (Int32.ofInt (64 * (x / 64)))), (4, .int (Int32.ofInt 0)), (0, .ref (A 179)), (1, .int (Int32.ofInt x)), (2, .int (Int32.ofInt y)), (3, .int (Int32.ofInt z))]) rfl (by decide) (fun _ h => h) (WS_pq [2, 3, 4, 5, 1, 0] (lv' := [(0, .ref (A 179)), (1, .int (Int32.ofInt x)), (2, .int (Int32.ofInt y)), (3, .int (Int32.ofInt z)), (4, .int (Int32.ofInt 0)), (5, .int (Int32.ofInt (64 * (x / 64))))]) rfl (L114 ((128 - (64 * (x / 64)) : Int).toNat + 1) s101 x y z 0 (64 * (x / 64)) Is101 Gs101 (pnq_s (pnq_0 (f := pfM s) (by first | exact oq_852f20e8 g104 hps101 b61.1 hps59 vs2 | (clear hps101 g65 hps63 hps59 g58 hps56 g5 hps3; omega) | (clear g65 hps63 hps59 g58 hps56 g5 hps3; omega) | omega) (fun c h0 h1 q => by unfold bxC at q; omega)) rfl (show pfM s = pfM s101 from (funext aws101_228).symm)) (by first | exact ⟨And.intro (by decide) (And.intro (by decide) (by decide)), oq_f827cc9d g104 hps101 b61.1 hps59 vs2, oq_94dce2ce g104 hps101 b61.1 hps59 vs2, And.intro (by decide) (by decide), oq_fb4755ef g104 b103.1 hps101 hps59 vs2⟩ | exact oq_e3b245c0 g104 hps101 b61.1 hps59 vs2 | omega) (Nat.lt_succ_self _) ?_)))))))))
                  intro s105 x106 x107 Is105 Fs105 Qs105 hs105
                  have b108 := bi_73 Is105
                  refine z_load X (x := x106) rfl (List.Mem.tail _ (List.Mem.tail _ (List.Mem.tail _ (List.Mem.tail _ (List.Mem.head _))))) ?_
                  exact w_iret X.1 q hRt rfl (ax_d X (show cdA 235 216 = some (.ireturn, 1, 0, 0, 0) from rfl)) (Nat.zero_le _) (Nat.zero_le _) ⟨_, rfl, Is105, Fs105, x106, rfl, ⟨by first | exact oq_fa4e5087 hs105.2.1.1 | omega, by first | exact oq_ba739599 hs105.2.2.1 hs105.2.1.2 hs105.1.1.2.1 | omega⟩, Or.inl ⟨by first | exact ⟨And.intro (hs105.1.1.1) (And.intro (hs105.1.1.2.1) (And.intro (hs105.1.1.2.2.1) (hs105.1.1.2.2.2))), And.intro (hs105.1.2.1.1) (hs105.1.2.1.2), hs105.1.2.2.1, hs105.1.2.2.2.1, hs105.1.2.2.2.2⟩ | omega, by first | exact hs105.2.2.2 | omega, pnq_z Qs105 (by first | exact oq_0d8d7510 hs105.1.2.2.2.2 g92 | (clear hps101 g65 hps63 hps59 g58 hps56 g5 hps3; omega) | (clear g65 hps63 hps59 g58 hps56 g5 hps3; omega) | omega) (by first | exact oq_79156edb hs105.1.2.2.2.2 g92 | (clear hps101 g65 hps63 hps59 g58 hps56 g5 hps3; omega) | (clear g65 hps63 hps59 g58 hps56 g5 hps3; omega) | omega) (fun c hc q => by unfold bxC at q; omega)⟩⟩
                ·
                  refine z_const X rfl ?_
                  exact w_iret X.1 q hRt rfl (ax_d X (show cdA 235 101 = some (.ireturn, 1, 0, 0, 0) from rfl)) (Nat.zero_le _) (Nat.zero_le _) ⟨_, rfl, Is101, Gs101, 0, rfl, (by decide), Or.inr ⟨by first | exact oq_c55d5f07 g104 hps101 g92 b61.1 hps59 g58 hps56 g5 hps3 vs2 | exact oq_c55d5f07 g104 hps101 g92 b61.1 hps59 g58 hps56 g5 hps3 vs2 | omega, aws101_228⟩⟩
    ·
      refine z_const X rfl (z_goto X (t := 31) rfl rfl (z_const X rfl (zcV_i0 X E 179 (As := [.int (Int32.ofInt 1), .int (Int32.ofInt 1)]) (st := []) rfl rfl rfl rfl (k_bad2 G Is2 (by first | exact Or.inr (by decide) | omega) (by first | exact ⟨by decide, by decide⟩ | omega)) rfl (Nat.le_of_ble_eq_true rfl) (fun s109 e110 Is109 Fs109 hrs109 hps109 => ?_))))
      have Gs109 := fm_tq Fs2 Fs109 rfl rfl
      have b111 := bi_73 Is109
      have aws109_228 : SAM 228 s s109 := sam_ts aws2_228 (sam_fm Fs109 (by decide))
      refine z_if_ne X (t := 100) rfl rfl hrs109 (fun g112 => ?_) (fun g112 => ?_)
      ·
        refine z_const X rfl ?_
        exact w_iret X.1 q hRt rfl (ax_d X (show cdA 235 101 = some (.ireturn, 1, 0, 0, 0) from rfl)) (Nat.zero_le _) (Nat.zero_le _) ⟨_, rfl, Is109, Gs109, 0, rfl, (by decide), Or.inr ⟨by first | exact oq_eb4003a5 g112 hps109 g58 hps56 vs2 | exact oq_eb4003a5 g112 hps109 g58 hps56 vs2 | omega, aws109_228⟩⟩
      ·
        refine z_aload_n X (x := A 179) rfl (List.Mem.head _) (z_load_n X (x := z) rfl (List.Mem.tail _ (List.Mem.tail _ (List.Mem.tail _ (List.Mem.head _)))) (z_const X rfl (z_bipush X rfl (z_callS X (rm := rmN 188) (As := [.int (Int32.ofInt z), .int (Int32.ofInt (-1)), .int (Int32.ofInt 7)]) (st := [.ref (A 179)]) rfl rfl (by rw [E.1, E.2.1, E.2.2.1]; exact k_in2 G Is109 (by first | exact ⟨p2.1, p2.2⟩ | omega) (by first | exact ⟨by decide, by decide⟩ | omega) (by first | exact ⟨by decide, by decide⟩ | omega)) ⟨by rw [E.2.2.2]; exact (show (rmN 188).frames + 1 ≤ (rmN 235).frames by decide), by rw [E.2.2.2]; exact (show 8 + (mNL (miB 188) + 11) + (rmN 188).locals ≤ (rmN 235).locals by decide), by rw [E.2.2.2]; exact (show 0 + (rmN 188).cells ≤ (rmN 235).cells by decide), by rw [E.2.2.2]; exact (show 0 + (rmN 188).slots ≤ (rmN 235).slots by decide)⟩ (Nat.le_of_ble_eq_true rfl) (fun vv s113 hq => ?_) (fun ee s113 hq => ?_)))))
        rotate_left
        · obtain ⟨rfl, e114, hv, hrs113, hps113⟩ := hq; cases hv
        obtain ⟨rfl, e114, hv, hrs113, hps113⟩ := hq
        cases hv
        show WS k 46 [(0, .ref (A 179)), (1, .int (Int32.ofInt x)), (2, .int (Int32.ofInt y)), (3, .int (Int32.ofInt z))] [.int (Int32.ofInt e114), .ref (A 179)] (Wd A dT s109) 0 0
        refine z_if_eq X (t := 88) rfl rfl hrs113 (fun g115 => ?_) (fun g115 => ?_)
        ·
          refine z_const X rfl (z_goto X (t := 93) rfl rfl (z_const X rfl (zcV_i0 X E 179 (As := [.int (Int32.ofInt 1), .int (Int32.ofInt 2)]) (st := []) rfl rfl rfl rfl (k_bad2 G Is109 (by first | exact Or.inr (by decide) | omega) (by first | exact ⟨by decide, by decide⟩ | omega)) rfl (Nat.le_of_ble_eq_true rfl) (fun s116 e117 Is116 Fs116 hrs116 hps116 => ?_))))
          have Gs116 := fm_tq Gs109 Fs116 rfl rfl
          have b118 := bi_73 Is116
          have aws116_228 : SAM 228 s s116 := sam_ts aws109_228 (sam_fm Fs116 (by decide))
          refine z_if_eq X (t := 102) rfl rfl hrs116 (fun g119 => ?_) (fun g119 => ?_)
          ·
            refine z_const X rfl (z_store X (lv' := [(4, .int (Int32.ofInt 0)), (0, .ref (A 179)), (1, .int (Int32.ofInt x)), (2, .int (Int32.ofInt y)), (3, .int (Int32.ofInt z))]) rfl (by decide) (fun _ h => h) (z_bipush X rfl (z_load_n X (x := x) rfl (List.Mem.tail _ (List.Mem.tail _ (List.Mem.head _))) (z_bipush X rfl (z_quot X rfl (by first | exact oq_77708b6d g5 hps3 | omega) ⟨by first | exact p0.1 | omega, by first | exact p0.2 | omega⟩ (by decide) (by decide) (z_mul X rfl (z_store X (lv' := [(5, .int (Int32.ofInt (64 * (x / 64)))), (4, .int (Int32.ofInt 0)), (0, .ref (A 179)), (1, .int (Int32.ofInt x)), (2, .int (Int32.ofInt y)), (3, .int (Int32.ofInt z))]) rfl (by decide) (fun _ h => h) (WS_pq [2, 3, 4, 5, 1, 0] (lv' := [(0, .ref (A 179)), (1, .int (Int32.ofInt x)), (2, .int (Int32.ofInt y)), (3, .int (Int32.ofInt z)), (4, .int (Int32.ofInt 0)), (5, .int (Int32.ofInt (64 * (x / 64))))]) rfl (L114 ((128 - (64 * (x / 64)) : Int).toNat + 1) s116 x y z 0 (64 * (x / 64)) Is116 Gs116 (pnq_s (pnq_0 (f := pfM s) (by first | exact oq_466819e1 g119 hps116 g112 b111.1 hps109 vs2 | (clear hps116 hps113 hps109 hps56 g5 hps3; omega) | (clear hps113 hps109 hps56 g5 hps3; omega) | omega) (fun c h0 h1 q => by unfold bxC at q; omega)) rfl (show pfM s = pfM s116 from (funext aws116_228).symm)) (by first | exact ⟨And.intro (by decide) (And.intro (by decide) (by decide)), oq_3b5755f7 g119 hps116 g112 b111.1 hps109 vs2, oq_60648b5f g119 hps116 g112 b111.1 hps109 vs2, And.intro (by decide) (by decide), oq_7ef9130d g119 b118.1 hps116 g112 hps109 vs2⟩ | exact oq_537746fe g119 hps116 g112 b111.1 hps109 vs2 | omega) (Nat.lt_succ_self _) ?_)))))))))
            intro s120 x121 x122 Is120 Fs120 Qs120 hs120
            have b123 := bi_73 Is120
            refine z_load X (x := x121) rfl (List.Mem.tail _ (List.Mem.tail _ (List.Mem.tail _ (List.Mem.tail _ (List.Mem.head _))))) ?_
            exact w_iret X.1 q hRt rfl (ax_d X (show cdA 235 216 = some (.ireturn, 1, 0, 0, 0) from rfl)) (Nat.zero_le _) (Nat.zero_le _) ⟨_, rfl, Is120, Fs120, x121, rfl, ⟨by first | exact oq_fa4e5087 hs120.2.1.1 | omega, by first | exact oq_ba739599 hs120.2.2.1 hs120.2.1.2 hs120.1.1.2.1 | omega⟩, Or.inl ⟨by first | exact ⟨And.intro (hs120.1.1.1) (And.intro (hs120.1.1.2.1) (And.intro (hs120.1.1.2.2.1) (hs120.1.1.2.2.2))), And.intro (hs120.1.2.1.1) (hs120.1.2.1.2), hs120.1.2.2.1, hs120.1.2.2.2.1, hs120.1.2.2.2.2⟩ | omega, by first | exact hs120.2.2.2 | omega, pnq_z Qs120 (by first | exact oq_562eb216 hs120.2.2.1 hs120.1.1.1 | (clear hps116 hps113 hps109 hps56 g5 hps3; omega) | (clear hps113 hps109 hps56 g5 hps3; omega) | omega) (by first | exact oq_a55f7164 hs120.1.2.1.2 hs120.1.2.1.1 g115 hps113 | (clear hps116 hps113 hps109 hps56 g5 hps3; omega) | (clear hps113 hps109 hps56 g5 hps3; omega) | omega) (fun c hc q => by unfold bxC at q; omega)⟩⟩
          ·
            refine z_const X rfl ?_
            exact w_iret X.1 q hRt rfl (ax_d X (show cdA 235 101 = some (.ireturn, 1, 0, 0, 0) from rfl)) (Nat.zero_le _) (Nat.zero_le _) ⟨_, rfl, Is116, Gs116, 0, rfl, (by decide), Or.inr ⟨by first | exact oq_adc32970 g112 hps109 vs2 | exact oq_adc32970 g112 hps109 vs2 | omega, aws116_228⟩⟩
        ·
          refine z_load_n X (x := x) rfl (List.Mem.tail _ (List.Mem.head _)) (z_bipush X rfl (z_quot X rfl (by first | exact oq_77708b6d g5 hps3 | omega) ⟨by first | exact p0.1 | omega, by first | exact p0.2 | omega⟩ (by decide) (by decide) (z_load_n X (x := y) rfl (List.Mem.tail _ (List.Mem.tail _ (List.Mem.head _))) (z_bipush X rfl (z_quot X rfl (by first | exact oq_674898f9 g112 hps109 vs2 | exact oq_674898f9 g112 hps109 vs2 | omega) ⟨by first | exact p1.1 | omega, by first | exact p1.2 | omega⟩ (by decide) (by decide) (z_icmp_ne X (t := 88) rfl rfl ⟨by first | exact oq_f457fe4f p0.1 | omega, by first | exact oq_e42dd4bd p0.2 | omega⟩ ⟨by first | exact oq_f457fe4f p1.1 | omega, by first | exact oq_e42dd4bd p1.2 | omega⟩ (fun g124 => ?_) (fun g124 => ?_)))))))
          ·
            refine z_const X rfl (z_goto X (t := 93) rfl rfl (z_const X rfl (zcV_i0 X E 179 (As := [.int (Int32.ofInt 1), .int (Int32.ofInt 2)]) (st := []) rfl rfl rfl rfl (k_bad2 G Is109 (by first | exact Or.inr (by decide) | omega) (by first | exact ⟨by decide, by decide⟩ | omega)) rfl (Nat.le_of_ble_eq_true rfl) (fun s125 e126 Is125 Fs125 hrs125 hps125 => ?_))))
            have Gs125 := fm_tq Gs109 Fs125 rfl rfl
            have b127 := bi_73 Is125
            have aws125_228 : SAM 228 s s125 := sam_ts aws109_228 (sam_fm Fs125 (by decide))
            refine z_if_eq X (t := 102) rfl rfl hrs125 (fun g128 => ?_) (fun g128 => ?_)
            ·
              refine z_const X rfl (z_store X (lv' := [(4, .int (Int32.ofInt 0)), (0, .ref (A 179)), (1, .int (Int32.ofInt x)), (2, .int (Int32.ofInt y)), (3, .int (Int32.ofInt z))]) rfl (by decide) (fun _ h => h) (z_bipush X rfl (z_load_n X (x := x) rfl (List.Mem.tail _ (List.Mem.tail _ (List.Mem.head _))) (z_bipush X rfl (z_quot X rfl (by first | exact oq_77708b6d g5 hps3 | omega) ⟨by first | exact p0.1 | omega, by first | exact p0.2 | omega⟩ (by decide) (by decide) (z_mul X rfl (z_store X (lv' := [(5, .int (Int32.ofInt (64 * (x / 64)))), (4, .int (Int32.ofInt 0)), (0, .ref (A 179)), (1, .int (Int32.ofInt x)), (2, .int (Int32.ofInt y)), (3, .int (Int32.ofInt z))]) rfl (by decide) (fun _ h => h) (WS_pq [2, 3, 4, 5, 1, 0] (lv' := [(0, .ref (A 179)), (1, .int (Int32.ofInt x)), (2, .int (Int32.ofInt y)), (3, .int (Int32.ofInt z)), (4, .int (Int32.ofInt 0)), (5, .int (Int32.ofInt (64 * (x / 64))))]) rfl (L114 ((128 - (64 * (x / 64)) : Int).toNat + 1) s125 x y z 0 (64 * (x / 64)) Is125 Gs125 (pnq_s (pnq_0 (f := pfM s) (by first | exact oq_466819e1 g128 hps125 g112 b111.1 hps109 vs2 | (clear hps125 g124 g115 hps113 hps109 hps56 g5 hps3; omega) | (clear g124 g115 hps113 hps109 hps56 g5 hps3; omega) | omega) (fun c h0 h1 q => by unfold bxC at q; omega)) rfl (show pfM s = pfM s125 from (funext aws125_228).symm)) (by first | exact ⟨And.intro (by decide) (And.intro (by decide) (by decide)), by first | (clear hps125 g124 g115 hps113 hps109 hps56 g5 hps3; omega) | (clear g124 g115 hps113 hps109 hps56 g5 hps3; omega) | omega, by first | (clear hps125 g124 g115 hps113 hps109 hps56 g5 hps3; omega) | (clear g124 g115 hps113 hps109 hps56 g5 hps3; omega) | omega, And.intro (by decide) (by decide), oq_7ef9130d g128 b127.1 hps125 g112 hps109 vs2⟩ | exact oq_537746fe g128 hps125 g112 b111.1 hps109 vs2 | omega) (Nat.lt_succ_self _) ?_)))))))))
              intro s129 x130 x131 Is129 Fs129 Qs129 hs129
              have b132 := bi_73 Is129
              refine z_load X (x := x130) rfl (List.Mem.tail _ (List.Mem.tail _ (List.Mem.tail _ (List.Mem.tail _ (List.Mem.head _))))) ?_
              exact w_iret X.1 q hRt rfl (ax_d X (show cdA 235 216 = some (.ireturn, 1, 0, 0, 0) from rfl)) (Nat.zero_le _) (Nat.zero_le _) ⟨_, rfl, Is129, Fs129, x130, rfl, ⟨by first | exact oq_fa4e5087 hs129.2.1.1 | omega, by first | exact oq_ba739599 hs129.2.2.1 hs129.2.1.2 hs129.1.1.2.1 | omega⟩, Or.inl ⟨by first | exact ⟨And.intro (hs129.1.1.1) (And.intro (hs129.1.1.2.1) (And.intro (hs129.1.1.2.2.1) (hs129.1.1.2.2.2))), And.intro (hs129.1.2.1.1) (hs129.1.2.1.2), hs129.1.2.2.1, hs129.1.2.2.2.1, hs129.1.2.2.2.2⟩ | omega, by first | exact hs129.2.2.2 | omega, pnq_z Qs129 (by first | exact oq_562eb216 hs129.2.2.1 hs129.1.1.1 | (clear hps125 g124 g115 hps113 hps109 hps56 g5 hps3; omega) | (clear g124 g115 hps113 hps109 hps56 g5 hps3; omega) | omega) (by first | exact oq_e6aaaeee hs129.1.2.2.1 g124 | (clear hps125 g124 g115 hps113 hps109 hps56 g5 hps3; omega) | (clear g124 g115 hps113 hps109 hps56 g5 hps3; omega) | omega) (fun c hc q => by unfold bxC at q; omega)⟩⟩
            ·
              refine z_const X rfl ?_
              exact w_iret X.1 q hRt rfl (ax_d X (show cdA 235 101 = some (.ireturn, 1, 0, 0, 0) from rfl)) (Nat.zero_le _) (Nat.zero_le _) ⟨_, rfl, Is125, Gs125, 0, rfl, (by decide), Or.inr ⟨by first | exact oq_9e2eeb55 g128 hps125 g112 b111.1 hps109 vs2 | (clear g128 hps125 g124 g115 hps113 hps109 hps56 g5 hps3; omega) | (clear hps125 g124 g115 hps113 hps109 hps56 g5 hps3; omega) | omega, aws125_228⟩⟩
          ·
            refine z_load_n X (x := x) rfl (List.Mem.tail _ (List.Mem.head _)) (z_bipush X rfl (z_mod X rfl (by first | exact oq_77708b6d g5 hps3 | omega) ⟨by first | exact p0.1 | omega, by first | exact p0.2 | omega⟩ (by decide) (by decide) (z_load_n X (x := y) rfl (List.Mem.tail _ (List.Mem.tail _ (List.Mem.head _))) (z_bipush X rfl (z_mod X rfl (by first | exact oq_674898f9 g112 hps109 vs2 | exact oq_674898f9 g112 hps109 vs2 | omega) ⟨by first | exact p1.1 | omega, by first | exact p1.2 | omega⟩ (by decide) (by decide) (z_icmp_gt X (t := 88) rfl rfl ⟨by first | exact oq_e86162eb | omega, by first | exact oq_70086759 | omega⟩ ⟨by first | exact oq_e86162eb | omega, by first | exact oq_70086759 | omega⟩ (fun g133 => ?_) (fun g133 => ?_)))))))
            ·
              refine z_const X rfl (z_goto X (t := 93) rfl rfl (z_const X rfl (zcV_i0 X E 179 (As := [.int (Int32.ofInt 1), .int (Int32.ofInt 2)]) (st := []) rfl rfl rfl rfl (k_bad2 G Is109 (by first | exact Or.inr (by decide) | omega) (by first | exact ⟨by decide, by decide⟩ | omega)) rfl (Nat.le_of_ble_eq_true rfl) (fun s134 e135 Is134 Fs134 hrs134 hps134 => ?_))))
              have Gs134 := fm_tq Gs109 Fs134 rfl rfl
              have b136 := bi_73 Is134
              have aws134_228 : SAM 228 s s134 := sam_ts aws109_228 (sam_fm Fs134 (by decide))
              refine z_if_eq X (t := 102) rfl rfl hrs134 (fun g137 => ?_) (fun g137 => ?_)
              ·
                refine z_const X rfl (z_store X (lv' := [(4, .int (Int32.ofInt 0)), (0, .ref (A 179)), (1, .int (Int32.ofInt x)), (2, .int (Int32.ofInt y)), (3, .int (Int32.ofInt z))]) rfl (by decide) (fun _ h => h) (z_bipush X rfl (z_load_n X (x := x) rfl (List.Mem.tail _ (List.Mem.tail _ (List.Mem.head _))) (z_bipush X rfl (z_quot X rfl (by first | exact oq_77708b6d g5 hps3 | omega) ⟨by first | exact p0.1 | omega, by first | exact p0.2 | omega⟩ (by decide) (by decide) (z_mul X rfl (z_store X (lv' := [(5, .int (Int32.ofInt (64 * (x / 64)))), (4, .int (Int32.ofInt 0)), (0, .ref (A 179)), (1, .int (Int32.ofInt x)), (2, .int (Int32.ofInt y)), (3, .int (Int32.ofInt z))]) rfl (by decide) (fun _ h => h) (WS_pq [2, 3, 4, 5, 1, 0] (lv' := [(0, .ref (A 179)), (1, .int (Int32.ofInt x)), (2, .int (Int32.ofInt y)), (3, .int (Int32.ofInt z)), (4, .int (Int32.ofInt 0)), (5, .int (Int32.ofInt (64 * (x / 64))))]) rfl (L114 ((128 - (64 * (x / 64)) : Int).toNat + 1) s134 x y z 0 (64 * (x / 64)) Is134 Gs134 (pnq_s (pnq_0 (f := pfM s) (by first | exact oq_466819e1 g137 hps134 g112 b111.1 hps109 vs2 | (clear hps134 g115 hps113 hps109 hps56 g5 hps3; omega) | (clear g115 hps113 hps109 hps56 g5 hps3; omega) | omega) (fun c h0 h1 q => by unfold bxC at q; omega)) rfl (show pfM s = pfM s134 from (funext aws134_228).symm)) (by first | exact ⟨And.intro (by decide) (And.intro (by decide) (by decide)), oq_3b5755f7 g137 hps134 g112 b111.1 hps109 vs2, oq_60648b5f g137 hps134 g112 b111.1 hps109 vs2, And.intro (by decide) (by decide), oq_7ef9130d g137 b136.1 hps134 g112 hps109 vs2⟩ | exact oq_537746fe g137 hps134 g112 b111.1 hps109 vs2 | omega) (Nat.lt_succ_self _) ?_)))))))))
                intro s138 x139 x140 Is138 Fs138 Qs138 hs138
                have b141 := bi_73 Is138
                refine z_load X (x := x139) rfl (List.Mem.tail _ (List.Mem.tail _ (List.Mem.tail _ (List.Mem.tail _ (List.Mem.head _))))) ?_
                exact w_iret X.1 q hRt rfl (ax_d X (show cdA 235 216 = some (.ireturn, 1, 0, 0, 0) from rfl)) (Nat.zero_le _) (Nat.zero_le _) ⟨_, rfl, Is138, Fs138, x139, rfl, ⟨by first | exact oq_fa4e5087 hs138.2.1.1 | omega, by first | exact oq_ba739599 hs138.2.2.1 hs138.2.1.2 hs138.1.1.2.1 | omega⟩, Or.inl ⟨by first | exact ⟨And.intro (hs138.1.1.1) (And.intro (hs138.1.1.2.1) (And.intro (hs138.1.1.2.2.1) (hs138.1.1.2.2.2))), And.intro (hs138.1.2.1.1) (hs138.1.2.1.2), hs138.1.2.2.1, hs138.1.2.2.2.1, hs138.1.2.2.2.2⟩ | omega, by first | exact hs138.2.2.2 | omega, pnq_z Qs138 (by first | exact oq_68441d5e hs138.1.2.2.2.1 g133 | (clear hps134 g115 hps113 hps109 hps56 g5 hps3; omega) | (clear g115 hps113 hps109 hps56 g5 hps3; omega) | omega) (by first | exact oq_3eaeead8 hs138.1.2.2.2.1 g133 | (clear hps134 g115 hps113 hps109 hps56 g5 hps3; omega) | (clear g115 hps113 hps109 hps56 g5 hps3; omega) | omega) (fun c hc q => by unfold bxC at q; omega)⟩⟩
              ·
                refine z_const X rfl ?_
                exact w_iret X.1 q hRt rfl (ax_d X (show cdA 235 101 = some (.ireturn, 1, 0, 0, 0) from rfl)) (Nat.zero_le _) (Nat.zero_le _) ⟨_, rfl, Is134, Gs134, 0, rfl, (by decide), Or.inr ⟨by first | exact oq_adc32970 g112 hps109 vs2 | exact oq_adc32970 g112 hps109 vs2 | omega, aws134_228⟩⟩
            ·
              refine z_load_n X (x := x) rfl (List.Mem.tail _ (List.Mem.head _)) (z_bipush X rfl (z_quot X rfl (by first | exact oq_77708b6d g5 hps3 | omega) ⟨by first | exact p0.1 | omega, by first | exact p0.2 | omega⟩ (by decide) (by decide) (z_bipush X rfl (z_mod X rfl (by first | exact oq_88610498 g5 hps3 | omega) ⟨by first | exact oq_186a3934 p0.1 | omega, by first | exact oq_2590a617 p0.2 | omega⟩ (by decide) (by decide) (z_load_n X (x := y) rfl (List.Mem.tail _ (List.Mem.tail _ (List.Mem.head _))) (z_bipush X rfl (z_quot X rfl (by first | exact oq_674898f9 g112 hps109 vs2 | exact oq_674898f9 g112 hps109 vs2 | omega) ⟨by first | exact p1.1 | omega, by first | exact p1.2 | omega⟩ (by decide) (by decide) (z_bipush X rfl (z_mod X rfl (by first | exact oq_ddbc3879 g112 hps109 vs2 | exact oq_ddbc3879 g112 hps109 vs2 | omega) ⟨by first | exact oq_186a3934 p1.1 | omega, by first | exact oq_2590a617 p1.2 | omega⟩ (by decide) (by decide) (z_icmp_le X (t := 92) rfl rfl ⟨by first | exact oq_452e8fda | omega, by first | exact oq_267eaf70 | omega⟩ ⟨by first | exact oq_452e8fda | omega, by first | exact oq_267eaf70 | omega⟩ (fun g142 => ?_) (fun g142 => ?_)))))))))))
              ·
                refine z_const X rfl (z_const X rfl (zcV_i0 X E 179 (As := [.int (Int32.ofInt 0), .int (Int32.ofInt 2)]) (st := []) rfl rfl rfl rfl (k_bad2 G Is109 (by first | exact Or.inl (by decide) | omega) (by first | exact ⟨by decide, by decide⟩ | omega)) rfl (Nat.le_of_ble_eq_true rfl) (fun s143 e144 Is143 Fs143 hrs143 hps143 => ?_)))
                have Gs143 := fm_tq Gs109 Fs143 rfl rfl
                have b145 := bi_73 Is143
                have aws143_228 : SAM 228 s s143 := sam_ts aws109_228 (sam_fm Fs143 (by decide))
                refine z_if_eq X (t := 102) rfl rfl hrs143 (fun g146 => ?_) (fun g146 => ?_)
                ·
                  refine z_const X rfl (z_store X (lv' := [(4, .int (Int32.ofInt 0)), (0, .ref (A 179)), (1, .int (Int32.ofInt x)), (2, .int (Int32.ofInt y)), (3, .int (Int32.ofInt z))]) rfl (by decide) (fun _ h => h) (z_bipush X rfl (z_load_n X (x := x) rfl (List.Mem.tail _ (List.Mem.tail _ (List.Mem.head _))) (z_bipush X rfl (z_quot X rfl (by first | exact oq_77708b6d g5 hps3 | omega) ⟨by first | exact p0.1 | omega, by first | exact p0.2 | omega⟩ (by decide) (by decide) (z_mul X rfl (z_store X (lv' := [(5, .int (Int32.ofInt (64 * (x / 64)))), (4, .int (Int32.ofInt 0)), (0, .ref (A 179)), (1, .int (Int32.ofInt x)), (2, .int (Int32.ofInt y)), (3, .int (Int32.ofInt z))]) rfl (by decide) (fun _ h => h) (WS_pq [2, 3, 4, 5, 1, 0] (lv' := [(0, .ref (A 179)), (1, .int (Int32.ofInt x)), (2, .int (Int32.ofInt y)), (3, .int (Int32.ofInt z)), (4, .int (Int32.ofInt 0)), (5, .int (Int32.ofInt (64 * (x / 64))))]) rfl (L114 ((128 - (64 * (x / 64)) : Int).toNat + 1) s143 x y z 0 (64 * (x / 64)) Is143 Gs143 (pnq_s (pnq_0 (f := pfM s) (by first | exact oq_33669c0c g112 hps109 vs2 | (clear hps143 g115 hps113 hps109 hps56 g5 hps3; omega) | (clear g115 hps113 hps109 hps56 g5 hps3; omega) | omega) (fun c h0 h1 q => by unfold bxC at q; omega)) rfl (show pfM s = pfM s143 from (funext aws143_228).symm)) (by first | exact ⟨And.intro (by decide) (And.intro (by decide) (by decide)), oq_5d07a74c g112 hps109 vs2, oq_bf521bfa g112 hps109 vs2, And.intro (by decide) (by decide), oq_1b47d00d b145.1 hps143 g112 hps109 vs2⟩ | exact oq_23ddef78 g112 hps109 vs2 | omega) (Nat.lt_succ_self _) ?_)))))))))
                  intro s147 x148 x149 Is147 Fs147 Qs147 hs147
                  have b150 := bi_73 Is147
                  refine z_load X (x := x148) rfl (List.Mem.tail _ (List.Mem.tail _ (List.Mem.tail _ (List.Mem.tail _ (List.Mem.head _))))) ?_
                  exact w_iret X.1 q hRt rfl (ax_d X (show cdA 235 216 = some (.ireturn, 1, 0, 0, 0) from rfl)) (Nat.zero_le _) (Nat.zero_le _) ⟨_, rfl, Is147, Fs147, x148, rfl, ⟨by first | exact oq_fa4e5087 hs147.2.1.1 | omega, by first | exact oq_ba739599 hs147.2.2.1 hs147.2.1.2 hs147.1.1.2.1 | omega⟩, Or.inl ⟨by first | exact ⟨And.intro (hs147.1.1.1) (And.intro (hs147.1.1.2.1) (And.intro (hs147.1.1.2.2.1) (hs147.1.1.2.2.2))), And.intro (hs147.1.2.1.1) (hs147.1.2.1.2), hs147.1.2.2.1, hs147.1.2.2.2.1, hs147.1.2.2.2.2⟩ | omega, by first | exact hs147.2.2.2 | omega, pnq_z Qs147 (by first | exact oq_562eb216 hs147.2.2.1 hs147.1.1.1 | (clear hps143 g115 hps113 hps109 hps56 g5 hps3; omega) | (clear g115 hps113 hps109 hps56 g5 hps3; omega) | omega) (by first | exact oq_f018c50e hs147.2.2.1 hs147.1.2.2.1 hs147.1.1.2.2.2 g58 hps56 | (clear hps143 g115 hps113 hps109 hps56 g5 hps3; omega) | (clear g115 hps113 hps109 hps56 g5 hps3; omega) | omega) (fun c hc q => by unfold bxC at q; omega)⟩⟩
                ·
                  refine z_const X rfl ?_
                  exact w_iret X.1 q hRt rfl (ax_d X (show cdA 235 101 = some (.ireturn, 1, 0, 0, 0) from rfl)) (Nat.zero_le _) (Nat.zero_le _) ⟨_, rfl, Is143, Gs143, 0, rfl, (by decide), Or.inr ⟨by first | exact oq_14215017 g146 hps143 g112 b111.1 hps109 vs2 | (clear g146 hps143 g115 hps113 hps109 hps56 g5 hps3; omega) | (clear hps143 g115 hps113 hps109 hps56 g5 hps3; omega) | omega, aws143_228⟩⟩
              ·
                refine z_const X rfl (z_goto X (t := 93) rfl rfl (z_const X rfl (zcV_i0 X E 179 (As := [.int (Int32.ofInt 1), .int (Int32.ofInt 2)]) (st := []) rfl rfl rfl rfl (k_bad2 G Is109 (by first | exact Or.inr (by decide) | omega) (by first | exact ⟨by decide, by decide⟩ | omega)) rfl (Nat.le_of_ble_eq_true rfl) (fun s151 e152 Is151 Fs151 hrs151 hps151 => ?_))))
                have Gs151 := fm_tq Gs109 Fs151 rfl rfl
                have b153 := bi_73 Is151
                have aws151_228 : SAM 228 s s151 := sam_ts aws109_228 (sam_fm Fs151 (by decide))
                refine z_if_eq X (t := 102) rfl rfl hrs151 (fun g154 => ?_) (fun g154 => ?_)
                ·
                  refine z_const X rfl (z_store X (lv' := [(4, .int (Int32.ofInt 0)), (0, .ref (A 179)), (1, .int (Int32.ofInt x)), (2, .int (Int32.ofInt y)), (3, .int (Int32.ofInt z))]) rfl (by decide) (fun _ h => h) (z_bipush X rfl (z_load_n X (x := x) rfl (List.Mem.tail _ (List.Mem.tail _ (List.Mem.head _))) (z_bipush X rfl (z_quot X rfl (by first | exact oq_77708b6d g5 hps3 | omega) ⟨by first | exact p0.1 | omega, by first | exact p0.2 | omega⟩ (by decide) (by decide) (z_mul X rfl (z_store X (lv' := [(5, .int (Int32.ofInt (64 * (x / 64)))), (4, .int (Int32.ofInt 0)), (0, .ref (A 179)), (1, .int (Int32.ofInt x)), (2, .int (Int32.ofInt y)), (3, .int (Int32.ofInt z))]) rfl (by decide) (fun _ h => h) (WS_pq [2, 3, 4, 5, 1, 0] (lv' := [(0, .ref (A 179)), (1, .int (Int32.ofInt x)), (2, .int (Int32.ofInt y)), (3, .int (Int32.ofInt z)), (4, .int (Int32.ofInt 0)), (5, .int (Int32.ofInt (64 * (x / 64))))]) rfl (L114 ((128 - (64 * (x / 64)) : Int).toNat + 1) s151 x y z 0 (64 * (x / 64)) Is151 Gs151 (pnq_s (pnq_0 (f := pfM s) (by first | exact oq_466819e1 g154 hps151 g112 b111.1 hps109 vs2 | (clear hps151 g115 hps113 hps109 hps56 g5 hps3; omega) | (clear g115 hps113 hps109 hps56 g5 hps3; omega) | omega) (fun c h0 h1 q => by unfold bxC at q; omega)) rfl (show pfM s = pfM s151 from (funext aws151_228).symm)) (by first | exact ⟨And.intro (by decide) (And.intro (by decide) (by decide)), oq_3b5755f7 g154 hps151 g112 b111.1 hps109 vs2, oq_60648b5f g154 hps151 g112 b111.1 hps109 vs2, And.intro (by decide) (by decide), oq_7ef9130d g154 b153.1 hps151 g112 hps109 vs2⟩ | exact oq_537746fe g154 hps151 g112 b111.1 hps109 vs2 | omega) (Nat.lt_succ_self _) ?_)))))))))
                  intro s155 x156 x157 Is155 Fs155 Qs155 hs155
                  have b158 := bi_73 Is155
                  refine z_load X (x := x156) rfl (List.Mem.tail _ (List.Mem.tail _ (List.Mem.tail _ (List.Mem.tail _ (List.Mem.head _))))) ?_
                  exact w_iret X.1 q hRt rfl (ax_d X (show cdA 235 216 = some (.ireturn, 1, 0, 0, 0) from rfl)) (Nat.zero_le _) (Nat.zero_le _) ⟨_, rfl, Is155, Fs155, x156, rfl, ⟨by first | exact oq_fa4e5087 hs155.2.1.1 | omega, by first | exact oq_ba739599 hs155.2.2.1 hs155.2.1.2 hs155.1.1.2.1 | omega⟩, Or.inl ⟨by first | exact ⟨And.intro (hs155.1.1.1) (And.intro (hs155.1.1.2.1) (And.intro (hs155.1.1.2.2.1) (hs155.1.1.2.2.2))), And.intro (hs155.1.2.1.1) (hs155.1.2.1.2), hs155.1.2.2.1, hs155.1.2.2.2.1, hs155.1.2.2.2.2⟩ | omega, by first | exact hs155.2.2.2 | omega, pnq_z Qs155 (by first | exact oq_0d8d7510 hs155.1.2.2.2.2 g142 | (clear hps151 g115 hps113 hps109 hps56 g5 hps3; omega) | (clear g115 hps113 hps109 hps56 g5 hps3; omega) | omega) (by first | exact oq_79156edb hs155.1.2.2.2.2 g142 | (clear hps151 g115 hps113 hps109 hps56 g5 hps3; omega) | (clear g115 hps113 hps109 hps56 g5 hps3; omega) | omega) (fun c hc q => by unfold bxC at q; omega)⟩⟩
                ·
                  refine z_const X rfl ?_
                  exact w_iret X.1 q hRt rfl (ax_d X (show cdA 235 101 = some (.ireturn, 1, 0, 0, 0) from rfl)) (Nat.zero_le _) (Nat.zero_le _) ⟨_, rfl, Is151, Gs151, 0, rfl, (by decide), Or.inr ⟨by first | exact oq_adc32970 g112 hps109 vs2 | (clear g154 hps151 g115 hps113 hps109 hps56 g5 hps3; omega) | (clear hps151 g115 hps113 hps109 hps56 g5 hps3; omega) | omega, aws151_228⟩⟩
set_option maxRecDepth 4000 in
theorem c3_keepMark6 (G : GX l s0 D tys a0 dT) (I : Bd s)  : CT l s0 D A dT 40 (rmN 40) [.ref (A 25)] s (fun o t => Bd t ∧ Fm [20] [25] s t ∧ ∃ e, o = .inl (some (.int (Int32.ofInt e))) ∧ rng e ∧ ((iI s 20 ≤ 3 ∧ iI t 20 = iI s 20 + 1 ∧ e = iI t 20 ∧ MKW s t) ∨ (iI s 20 = 4 ∧ iI t 20 = 4 ∧ e = -1 ∧ SAM 25 s t))) := by
  refine ct_ofX G (by decide) (Nat.le_of_ble_eq_true rfl) (fun k X E ET hRt hXt q => ?_)
  show WS k 0 [(0, .ref (A 25))] [] _ 0 0
  have F : Fm [20] [25] s s := fm_rf _ _ s
  have aw0_25 : SAM 25 s s := sam_rf
  have b1 := bi_20 I
  refine z_aload_n X (x := A 25) rfl (List.Mem.head _) (z_getI X 25 rfl (c518_ok rfl) rfl rfl ?_)
  have b2 := bi_20 I
  refine z_const X rfl (z_icmp_lt X (t := 10) rfl rfl (rng_to _) (by decide) (fun g3 => ?_) (fun g3 => ?_))
  ·
    refine z_aload_n X (x := A 25) rfl (List.Mem.head _) (s_getR X 25 rfl (c518_ok rfl) rfl rfl (z_const X rfl (z_aload_n X (x := A 25) rfl (List.Mem.head _) (s_getR X 25 rfl (c518_ok rfl) rfl rfl (z_aload_n X (x := A 25) rfl (List.Mem.head _) (z_getI X 25 rfl (c518_ok rfl) rfl rfl ?_))))))
    have b4 := bi_20 I
    refine z_sipush X rfl (z_mul X rfl (z_sipush X rfl (z_copyF X I 26 30 (st := []) rfl (by decide) (by decide) rfl rfl (by first | exact oq_4bf3dfa6 | omega) (by first | exact oq_3eaf4ed0 b4.1 g3 | omega) (by first | exact oq_70e72f7c | omega) (show 0 + 128 ≤ ((128 : Nat) : Int) by first | exact oq_ef8112b5 | omega) (show ((iI s 20) * 128) + 128 ≤ ((512 : Nat) : Int) by first | exact oq_0cb8bf40 g3 | omega) (by decide) (by rw [E.2.2.2]; decide) (by rw [E.2.2.2]; exact Nat.le_of_ble_eq_true rfl) (fun s5 Is5 Fs5 cs5 => ?_))))
    have Gs5 := fm_tq F Fs5 rfl rfl
    have ws5_20 : iI s5 20 = iI s 20 := fm_iq Fs5 rfl
    refine z_aload_n X (x := A 25) rfl (List.Mem.head _) (w_dup X.1 (ax_d X (show cdA 40 34 = some (.dup, 1, 0, 0, 0) from rfl)) rfl (z_getI X 25 rfl (c518_ok rfl) rfl rfl ?_))
    have b6 := bi_20 Is5
    refine z_const X rfl (z_add X rfl (s_putI X 25 rfl (c518_ok rfl) rfl rfl (by decide) rfl rfl rfl (wd_gen (fun s7 hs7 => ?_))))
    have Is7 : Bd s7 := eqB hs7 (bd_I Is5 (show (0 : Int) ≤ ((iI s5 20) + 1) ∧ ((iI s5 20) + 1) ≤ 4 by first | exact ⟨oq_54f49eb5 b6.1, oq_83fe9f9d ws5_20 g3⟩ | omega) ⟨by first | exact oq_74de1e16 b6.1 | omega, by first | exact oq_45419e6e b6.2 | omega⟩)
    have Fs7 := eqF hs7 (fm_I Gs5 (inl_ok (a := 20) rfl))
    have vs7 : iI s7 20 = ((iI s5 20) + 1) := eqI hs7 (iI_u ⟨by first | exact oq_74de1e16 b6.1 | omega, by first | exact oq_45419e6e b6.2 | omega⟩)
    refine z_aload_n X (x := A 25) rfl (List.Mem.head _) (z_getI X 25 rfl (c518_ok rfl) rfl rfl ?_)
    have b8 := bi_20 Is7
    exact w_iret X.1 q hRt rfl (ax_d X (show cdA 40 47 = some (.ireturn, 1, 0, 0, 0) from rfl)) (Nat.zero_le _) (Nat.zero_le _) ⟨_, rfl, Is7, Fs7, (iI s7 20), rfl, (rng_to _), Or.inl ⟨by first | exact oq_ac23314d g3 | omega, by first | exact oq_665cd23d vs7 ws5_20 | omega, by first | exact rfl | omega, fun j hj => by rw [(by rw [hs7]; rfl : iC s7 25 j = iC s5 25 j), cs5 j hj, show (0 : Int).toNat + (j - (iI s 20 * 128).toNat) = j - (iI s 20 * 128).toNat from Nat.zero_add _]; rfl⟩⟩
  ·
    refine z_const X rfl ?_
    exact w_iret X.1 q hRt rfl (ax_d X (show cdA 40 9 = some (.ireturn, 1, 0, 0, 0) from rfl)) (Nat.zero_le _) (Nat.zero_le _) ⟨_, rfl, I, F, (-1), rfl, (by decide), Or.inr ⟨by first | exact oq_b0bc9e24 b2.2 g3 | omega, by first | exact oq_b0bc9e24 b2.2 g3 | omega, by decide, aw0_25⟩⟩
set_option maxRecDepth 4000 in
theorem c3_goBack6 (G : GX l s0 D tys a0 dT) (I : Bd s) (jPMJ : PMJ s)  : CT l s0 D A dT 41 (rmN 41) [.ref (A 25)] s (fun o t => Bd t ∧ Fm [20] [21, 1022, 1023] s t ∧ PMJ t ∧ ∃ e, o = .inl (some (.int (Int32.ofInt e))) ∧ rng e ∧ ((1 ≤ iI s 20 ∧ iI t 20 = iI s 20 - 1 ∧ e = iI t 20 ∧ BKQ (pfC s) (pfC t) (fun j => iC s 25 (128 * (iI s 20 - 1).toNat + j)) 128) ∨ (iI s 20 = 0 ∧ iI t 20 = 0 ∧ e = -1 ∧ SAM 21 s t))) := by
  refine ct_ofX G (by decide) (Nat.le_of_ble_eq_true rfl) (fun k X E ET hRt hXt q => ?_)
  show WS k 0 [(0, .ref (A 25))] [] _ 0 0
  have F : Fm [20] [21, 1022, 1023] s s := fm_rf _ _ s
  have aw0_21 : SAM 21 s s := sam_rf
  have b1 := bi_20 I
  have L21 : ∀ (n : Nat) (t : PS) (c : Int), Bd t → Fm [20] [21, 1022, 1023] s t → PMJ t → (BKQ (pfC s) (pfC t) (fun j => iC s 25 (128 * (iI s 20 - 1).toNat + j)) c) → (0 ≤ c ∧ c ≤ 128 ∧ 1 ≤ iI s 20 ∧ iI t 20 = iI s 20 - 1) → (128 - c : Int).toNat < n → (∀ (t' : PS) (c' : Int), Bd t' → Fm [20] [21, 1022, 1023] s t' → PMJ t' → (BKQ (pfC s) (pfC t') (fun j => iC s 25 (128 * (iI s 20 - 1).toNat + j)) c') → (c' = 128 ∧ 1 ≤ iI s 20 ∧ iI t' 20 = iI s 20 - 1) → WS k 55 [(0, .ref (A 25)), (1, .int (Int32.ofInt c'))] [] (Wd A dT t') 0 0) → WS k 21 [(0, .ref (A 25)), (1, .int (Int32.ofInt c))] [] (Wd A dT t) 0 0 := by
    intro n
    induction n with
    | zero =>
      intro t c I F jjPMJ hq hi hm kx
      exact absurd hm (Nat.not_lt_zero _)
    | succ n ih =>
      intro t c I F jjPMJ hq hi hm kx
      have b1001 := bi_20 I
      refine z_load_n X (x := c) rfl (List.Mem.tail _ (List.Mem.head _)) (z_sipush X rfl (z_icmp_ge X (t := 55) rfl rfl ⟨by first | exact oq_fa4e5087 hi.1 | omega, by first | exact oq_4ee82282 hi.2.1 | omega⟩ (by decide) (fun g1002 => ?_) (fun g1002 => ?_)))
      ·
        refine WS_pq [0, 1] (lv' := [(0, .ref (A 25)), (1, .int (Int32.ofInt c))]) rfl ?_
        exact kx _ c I F jjPMJ hq (by first | exact ⟨oq_42fe298a hi.2.1 g1002, hi.2.2.1, hi.2.2.2⟩ | omega)
      ·
        refine z_aload_n X (x := A 25) rfl (List.Mem.head _) (z_load_n X (x := c) rfl (List.Mem.tail _ (List.Mem.head _)) (z_aload_n X (x := A 25) rfl (List.Mem.head _) (s_getR X 25 rfl (c518_ok rfl) rfl rfl (z_aload_n X (x := A 25) rfl (List.Mem.head _) (z_getI X 25 rfl (c518_ok rfl) rfl rfl ?_)))))
        have b1003 := bi_20 I
        refine z_sipush X rfl (z_mul X rfl (z_load_n X (x := c) rfl (List.Mem.tail _ (List.Mem.head _)) (z_add X rfl (z_ald X 30 rfl (c518_ok rfl) rfl (by first | exact oq_b2d75d80 hi.1 b1003.1 | omega) (show (((iI t 20) * 128) + c) < 512 by first | exact oq_f0fcc3a4 g1002 hi.2.2.2 b1.2 | omega) (cbig_ok rfl) ?_))))
        have b1004 := bc_25 I (show ((((iI t 20) * 128) + c)).toNat < 512 by first | exact oq_c430ddba g1002 hi.2.2.2 b1.2 | omega)
        refine zcV_i1 X E 25 (As := [.int (Int32.ofInt c), .int (Int32.ofInt (iC t 25 ((((iI t 20) * 128) + c)).toNat))]) (st := []) rfl rfl rfl rfl (c3_put3 G I jjPMJ (by first | exact ⟨hi.1, oq_04367f15 g1002⟩ | omega) (by first | exact ⟨b1004.1, b1004.2⟩ | omega)) rfl (Nat.le_of_ble_eq_true rfl) (fun s1005 e1006 Is1005 Fs1005 JPMJ_s1005 hrs1005 hps1005 => ?_)
        have Gs1005 := fm_tq F Fs1005 rfl rfl
        have ws1005_20 : iI s1005 20 = iI t 20 := fm_iq Fs1005 rfl
        refine w_pop X.1 (ax_d X (show cdA 41 48 = some (.pop, 1, 0, 0, 0) from rfl)) rfl (z_inc X (x := c) (lv' := [(1, .int (Int32.ofInt (c + 1))), (0, .ref (A 25))]) rfl (by decide) (List.Mem.tail _ (List.Mem.head _)) (fun _ h => h) (z_goto X (t := 21) rfl rfl (WS_pq [1, 0] (lv' := [(0, .ref (A 25)), (1, .int (Int32.ofInt (c + 1)))]) rfl ?_)))
        exact ih _ (c + 1) Is1005 Gs1005 JPMJ_s1005 (bkq_up hq (by first | exact hi.1 | omega) (by show iC t 25 ((iI t 20 * 128) + c).toNat = iC s 25 (128 * (iI s 20 - 1).toNat + (c : Int).toNat); rw [show ((iI t 20 * 128) + c).toNat = 128 * (iI s 20 - 1).toNat + (c : Int).toNat by first | exact oq_c5927646 b1003.1 hi.2.2.2 hi.2.2.1 hi.1 | omega]; exact fm_c F (by decide)) (upf_upd hps1005.2)) (by first | exact ⟨oq_54f49eb5 hi.1, oq_d2afb425 g1002, hi.2.2.1, oq_a42238f2 ws1005_20 hi.2.2.2⟩ | omega) (by first | exact qk_me hm (by decide) (oq_c268b7bd g1002) | exact oq_ca57f8b8 g1002 hm | omega) kx
  refine z_aload_n X (x := A 25) rfl (List.Mem.head _) (z_getI X 25 rfl (c518_ok rfl) rfl rfl ?_)
  have b2 := bi_20 I
  refine z_if_gt X (t := 9) rfl rfl (rng_to _) (fun g3 => ?_) (fun g3 => ?_)
  ·
    refine z_aload_n X (x := A 25) rfl (List.Mem.head _) (w_dup X.1 (ax_d X (show cdA 41 10 = some (.dup, 1, 0, 0, 0) from rfl)) rfl (z_getI X 25 rfl (c518_ok rfl) rfl rfl ?_))
    have b4 := bi_20 I
    refine z_const X rfl (z_sub X rfl (s_putI X 25 rfl (c518_ok rfl) rfl rfl (by decide) rfl rfl rfl (wd_gen (fun s5 hs5 => ?_))))
    have Is5 : Bd s5 := eqB hs5 (bd_I I (show (0 : Int) ≤ ((iI s 20) - 1) ∧ ((iI s 20) - 1) ≤ 4 by first | exact ⟨oq_a4f22177 g3, oq_f3f8f749 b4.2⟩ | omega) ⟨by first | exact oq_c1e961c7 b4.1 | omega, by first | exact oq_dc10bb6e b4.2 | omega⟩)
    have Fs5 := eqF hs5 (fm_I F (inl_ok (a := 20) rfl))
    have vs5 : iI s5 20 = ((iI s 20) - 1) := eqI hs5 (iI_u ⟨by first | exact oq_c1e961c7 b4.1 | omega, by first | exact oq_dc10bb6e b4.2 | omega⟩)
    have aws5_21 : SAM 21 s s5 := by rw [hs5]; exact aw0_21
    have fs5 : Fm [20] [] s s5 := by rw [hs5]; exact fm_I (fm_rf _ _ _) (show 20 ∈ _ by decide)
    have JPMJ_s5 : PMJ s5 := PMJ_fm fs5 (by decide) jPMJ
    refine z_const X rfl (z_store_n X (lv' := [(1, .int (Int32.ofInt 0)), (0, .ref (A 25))]) rfl (by decide) (fun _ h => h) (WS_pq [1, 0] (lv' := [(0, .ref (A 25)), (1, .int (Int32.ofInt 0))]) rfl (L21 ((128 - 0 : Int).toNat + 1) s5 0 Is5 Fs5 JPMJ_s5 (bkq_s bkq_0 rfl (show pfC s = pfC s5 from (funext aws5_21).symm)) (by first | exact ⟨by decide, by decide, oq_a1517f2e g3, vs5⟩ | omega) (Nat.lt_succ_self _) ?_)))
    intro s6 x7 Is6 Fs6 JPMJ_s6 Qs6 hs6
    have b8 := bi_20 Is6
    refine z_aload_n X (x := A 25) rfl (List.Mem.head _) (z_getI X 25 rfl (c518_ok rfl) rfl rfl ?_)
    have b9 := bi_20 Is6
    exact w_iret X.1 q hRt rfl (ax_d X (show cdA 41 59 = some (.ireturn, 1, 0, 0, 0) from rfl)) (Nat.zero_le _) (Nat.zero_le _) ⟨_, rfl, Is6, Fs6, JPMJ_s6, (iI s6 20), rfl, (rng_to _), Or.inl ⟨by first | exact hs6.2.1 | omega, by first | exact hs6.2.2 | omega, by first | exact rfl | omega, by have z := Qs6; rw [show x7 = 128 by first | exact hs6.1 | omega] at z; exact z⟩⟩
  ·
    refine z_const X rfl ?_
    exact w_iret X.1 q hRt rfl (ax_d X (show cdA 41 8 = some (.ireturn, 1, 0, 0, 0) from rfl)) (Nat.zero_le _) (Nat.zero_le _) ⟨_, rfl, I, F, jPMJ, (-1), rfl, (by decide), Or.inr ⟨by first | exact oq_17e029b3 g3 b2.1 | omega, by first | exact oq_17e029b3 g3 b2.1 | omega, by decide, aw0_21⟩⟩
set_option maxRecDepth 4000 in
theorem cs_mark6 (G : GX l s0 D tys a0 dT) (I : Bd s)  : CT l s0 D A dT 176 (rmN 176) [.ref (A 0)] s (fun o t => Bd t ∧ Fm [20] [25] s t ∧ ∃ e, o = .inl (some (.int (Int32.ofInt e))) ∧ rng e ∧ ((iI s 20 ≤ 3 ∧ iI t 20 = iI s 20 + 1 ∧ e = iI t 20 ∧ MKW s t) ∨ (iI s 20 = 4 ∧ iI t 20 = 4 ∧ e = -1 ∧ SAM 25 s t))) := by
  refine ct_ofX G (by decide) (Nat.le_of_ble_eq_true rfl) (fun k X E ET hRt hXt q => ?_)
  show WS k 0 [(0, .ref (A 0))] [] _ 0 0
  have F : Fm [20] [25] s s := fm_rf _ _ s
  have aw0_25 : SAM 25 s s := sam_rf
  have b1 := bi_20 I
  refine z_aload_n X (x := A 0) rfl (List.Mem.head _) (s_getR X 0 rfl (c518_ok rfl) rfl rfl (zcV_i0 X E 25 (As := []) (st := []) rfl rfl rfl rfl (c3_keepMark6 G I ) rfl (Nat.le_of_ble_eq_true rfl) (fun s2 e3 Is2 Fs2 hrs2 hps2 => ?_)))
  have Gs2 := fm_tq F Fs2 rfl rfl
  have b4 := bi_20 Is2
  exact w_iret X.1 q hRt rfl (ax_d X (show cdA 176 7 = some (.ireturn, 1, 0, 0, 0) from rfl)) (Nat.zero_le _) (Nat.zero_le _) ⟨_, rfl, Is2, Gs2, e3, rfl, hrs2, hps2⟩
set_option maxRecDepth 4000 in
theorem cs_back6 (G : GX l s0 D tys a0 dT) (I : Bd s) (jPMJ : PMJ s)  : CT l s0 D A dT 177 (rmN 177) [.ref (A 0)] s (fun o t => Bd t ∧ Fm [20] [21, 1022, 1023] s t ∧ PMJ t ∧ ∃ e, o = .inl (some (.int (Int32.ofInt e))) ∧ rng e ∧ ((1 ≤ iI s 20 ∧ iI t 20 = iI s 20 - 1 ∧ e = iI t 20 ∧ BKQ (pfC s) (pfC t) (fun j => iC s 25 (128 * (iI s 20 - 1).toNat + j)) 128) ∨ (iI s 20 = 0 ∧ iI t 20 = 0 ∧ e = -1 ∧ SAM 21 s t))) := by
  refine ct_ofX G (by decide) (Nat.le_of_ble_eq_true rfl) (fun k X E ET hRt hXt q => ?_)
  show WS k 0 [(0, .ref (A 0))] [] _ 0 0
  have F : Fm [20] [21, 1022, 1023] s s := fm_rf _ _ s
  have b1 := bi_20 I
  refine z_aload_n X (x := A 0) rfl (List.Mem.head _) (s_getR X 0 rfl (c518_ok rfl) rfl rfl (zcV_i1 X E 25 (As := []) (st := []) rfl rfl rfl rfl (c3_goBack6 G I jPMJ ) rfl (Nat.le_of_ble_eq_true rfl) (fun s2 e3 Is2 Fs2 JPMJ_s2 hrs2 hps2 => ?_)))
  have Gs2 := fm_tq F Fs2 rfl rfl
  have b4 := bi_20 Is2
  exact w_iret X.1 q hRt rfl (ax_d X (show cdA 177 7 = some (.ireturn, 1, 0, 0, 0) from rfl)) (Nat.zero_le _) (Nat.zero_le _) ⟨_, rfl, Is2, Gs2, JPMJ_s2, e3, rfl, hrs2, hps2⟩
set_option maxRecDepth 4000 in
theorem k_mark6 (G : GX l s0 D tys a0 dT) (I : Bd s)  : CT l s0 D A dT 293 (rmN 293) [.ref (A 179)] s (fun o t => Bd t ∧ Fm [73, 98] [241, 242, 243, 244] s t ∧ ∃ e, o = .inl (some (.int (Int32.ofInt e))) ∧ rng e ∧ (((iI s 98) ≤ 3 ∧ iI t 98 = (iI s 98) + 1 ∧ e = iI t 98 ∧ iI t 73 = 0 ∧ MKP (iI s 98) 128 s t) ∨ ((iI s 98) = 4 ∧ iI t 98 = 4 ∧ e = -1 ∧ iI t 73 = 0 ∧ ∀ k j : Nat, k < 4 → iC t (241 + k) j = iC s (241 + k) j))) := by
  refine ct_of G (by decide) (Nat.le_of_ble_eq_true rfl) (fun k X E hRt hXt q => ?_)
  show WS k 0 [(0, .ref (A 179))] [] _ 0 0
  have F : Fm [73, 98] [241, 242, 243, 244] s s := fm_rf _ _ s
  have b1 := bi_73 I
  have b2 := bi_98 I
  have L17 : ∀ (n : Nat) (t : PS) (c : Int), Bd t → Fm [73, 98] [241, 242, 243, 244] s t → (MKP (iI s 98) c s t) → ((0 ≤ c ∧ c ≤ 128) ∧ (0 ≤ (iI s 98) ∧ (iI s 98) ≤ 3) ∧ iI t 98 = (iI s 98) ∧ iI t 73 = 0) → (128 - c : Int).toNat < n → (∀ (t' : PS) (c' : Int), Bd t' → Fm [73, 98] [241, 242, 243, 244] s t' → (MKP (iI s 98) c' s t') → (c' = 128 ∧ (0 ≤ (iI s 98) ∧ (iI s 98) ≤ 3) ∧ iI t' 98 = (iI s 98) ∧ iI t' 73 = 0) → WS k 47 [(0, .ref (A 179)), (1, .int (Int32.ofInt c'))] [] (Wd A dT t') 0 0) → WS k 17 [(0, .ref (A 179)), (1, .int (Int32.ofInt c))] [] (Wd A dT t) 0 0 := by
    intro n
    induction n with
    | zero =>
      intro t c I F hq hi hm kx
      exact absurd hm (Nat.not_lt_zero _)
    | succ n ih =>
      intro t c I F hq hi hm kx
      have b1001 := bi_73 I
      have b1002 := bi_98 I
      refine z_load_n X (x := c) rfl (List.Mem.tail _ (List.Mem.head _)) (z_sipush X rfl (z_icmp_ge X (t := 47) rfl rfl ⟨by first | exact oq_fa4e5087 hi.1.1 | omega, by first | exact oq_4ee82282 hi.1.2 | omega⟩ (by decide) (fun g1003 => ?_) (fun g1003 => ?_)))
      ·
        refine WS_pq [0, 1] (lv' := [(0, .ref (A 179)), (1, .int (Int32.ofInt c))]) rfl ?_
        exact kx _ c I F hq (by first | exact ⟨oq_42fe298a hi.1.2 g1003, And.intro (hi.2.1.1) (hi.2.1.2), hi.2.2.1, hi.2.2.2⟩ | omega)
      ·
        refine z_aload_n X (x := A 179) rfl (List.Mem.head _) (s_getR X 179 rfl (c518_ok rfl) rfl rfl (z_aload_n X (x := A 179) rfl (List.Mem.head _) (z_getI X 179 rfl (c518_ok rfl) rfl rfl ?_)))
        have b1004 := bi_98 I
        refine z_aald X rw_269 rfl (by first | exact b1004.1 | omega) (show (iI t 98) < 4 by first | exact oq_92f1e732 hi.2.2.1 hi.2.1.2 | omega) (by decide) (z_load_n X (x := c) rfl (List.Mem.tail _ (List.Mem.head _)) (z_aload_n X (x := A 179) rfl (List.Mem.head _) (s_getR X 179 rfl (c518_ok rfl) rfl rfl (z_load_n X (x := c) rfl (List.Mem.tail _ (List.Mem.head _)) (z_ald X 256 rfl (c518_ok rfl) rfl (by first | exact hi.1.1 | omega) (show c < 128 by first | exact g1003 | omega) (cbig_ok rfl) ?_)))))
        have b1005 := bc_228 I (show (c).toNat < 128 by first | exact oq_afb89947 g1003 | omega)
        refine z_ast2 X rw_269 rfl (show ((iI t 98) : Int).toNat < 4 by first | exact oq_4c4a1baf hi.2.2.1 hi.2.1.2 | omega) (by first | exact hi.1.1 | omega) (show c < 128 by first | exact g1003 | omega) (by decide) (wd_gen (fun s1006 hs1006 => ?_))
        have Is1006 : Bd s1006 := eqB hs1006 (rw_st rw_269 I (show ((iI t 98) : Int).toNat < 4 by first | exact oq_4c4a1baf hi.2.2.1 hi.2.1.2 | omega) (show ((-1) : Int) ≤ (iC t 228 (c).toNat) ∧ (iC t 228 (c).toNat) ≤ 7 by first | exact ⟨b1005.1, b1005.2⟩ | omega) (rng_to _))
        have Fs1006 := eqF hs1006 (fm_C (i := (c : Int).toNat) (x := Int32.ofInt (iC t 228 (c).toNat)) F ((show ∀ j, j < 4 → 241 + j ∈ _ by decide) ((iI t 98) : Int).toNat (by first | exact oq_4c4a1baf hi.2.2.1 hi.2.1.2 | omega)))
        have ws1006_73 : iI s1006 73 = iI t 73 := eqI hs1006 rfl
        have ws1006_98 : iI s1006 98 = iI t 98 := eqI hs1006 rfl
        refine z_inc X (x := c) (lv' := [(1, .int (Int32.ofInt (c + 1))), (0, .ref (A 179))]) rfl (by decide) (List.Mem.tail _ (List.Mem.head _)) (fun _ h => h) (z_goto X (t := 17) rfl rfl (WS_pq [1, 0] (lv' := [(0, .ref (A 179)), (1, .int (Int32.ofInt (c + 1)))]) rfl ?_))
        exact ih _ (c + 1) Is1006 Fs1006 (mkp_up hq (by first | exact hi.1.1 | omega) (by first | exact oq_63289793 hi.2.1.2 hi.2.1.1 | omega) (by rw [hs1006, show iI t 98 = (iI s 98) by first | exact hi.2.2.1 | omega]) (rng_to _) (fm_c F (by decide))) (by first | exact ⟨And.intro (oq_54f49eb5 hi.1.1) (oq_d2afb425 g1003), And.intro (hi.2.1.1) (hi.2.1.2), oq_1aa5be9e ws1006_98 hi.2.2.1, oq_333640b7 ws1006_73 hi.2.2.2 b1001.1⟩ | omega) (by first | exact qk_me hm (by decide) (oq_c268b7bd g1003) | exact oq_ca57f8b8 g1003 hm | omega) kx
  refine z_aload_n X (x := A 179) rfl (List.Mem.head _) (z_const X rfl (s_putI X 179 rfl (c518_ok rfl) rfl rfl (by decide) rfl rfl rfl (wd_gen (fun s3 hs3 => ?_))))
  have Is3 : Bd s3 := eqB hs3 (bd_I I (show (0 : Int) ≤ 0 ∧ 0 ≤ 3 by first | exact ⟨by decide, by decide⟩ | omega) (by decide))
  have Fs3 := eqF hs3 (fm_I F (inl_ok (a := 73) rfl))
  have vs3 : iI s3 73 = 0 := eqI hs3 (iI_u (by decide))
  have ws3_98 : iI s3 98 = iI s 98 := eqI hs3 rfl
  refine z_aload_n X (x := A 179) rfl (List.Mem.head _) (z_getI X 179 rfl (c518_ok rfl) rfl rfl ?_)
  have b4 := bi_98 Is3
  refine z_const X rfl (z_icmp_ne X (t := 15) rfl rfl (rng_to _) (by decide) (fun g5 => ?_) (fun g5 => ?_))
  ·
    refine z_const X rfl (z_store_n X (lv' := [(1, .int (Int32.ofInt 0)), (0, .ref (A 179))]) rfl (by decide) (fun _ h => h) (WS_pq [1, 0] (lv' := [(0, .ref (A 179)), (1, .int (Int32.ofInt 0))]) rfl (L17 ((128 - 0 : Int).toNat + 1) s3 0 Is3 Fs3 (mkp_0 (fun k j hk => by rw [hs3]; rfl)) (by first | exact ⟨And.intro (by decide) (by decide), oq_ecc19de6 g5 b4.2 ws3_98 b2.1, ws3_98, vs3⟩ | omega) (Nat.lt_succ_self _) ?_)))
    intro s6 x7 Is6 Fs6 Qs6 hs6
    have b8 := bi_73 Is6
    have b9 := bi_98 Is6
    refine z_aload_n X (x := A 179) rfl (List.Mem.head _) (w_dup X.1 (ax_d X (show cdA 293 48 = some (.dup, 1, 0, 0, 0) from rfl)) rfl (z_getI X 179 rfl (c518_ok rfl) rfl rfl ?_))
    have b10 := bi_98 Is6
    refine z_const X rfl (z_add X rfl (s_putI X 179 rfl (c518_ok rfl) rfl rfl (by decide) rfl rfl rfl (wd_gen (fun s11 hs11 => ?_))))
    have Is11 : Bd s11 := eqB hs11 (bd_I Is6 (show (0 : Int) ≤ ((iI s6 98) + 1) ∧ ((iI s6 98) + 1) ≤ 4 by first | exact ⟨oq_54f49eb5 b10.1, oq_78efddbb hs6.2.2.1 hs6.2.1.2⟩ | omega) ⟨by first | exact oq_74de1e16 b10.1 | omega, by first | exact oq_45419e6e b10.2 | omega⟩)
    have Fs11 := eqF hs11 (fm_I Fs6 (inl_ok (a := 98) rfl))
    have vs11 : iI s11 98 = ((iI s6 98) + 1) := eqI hs11 (iI_u ⟨by first | exact oq_74de1e16 b10.1 | omega, by first | exact oq_45419e6e b10.2 | omega⟩)
    have ws11_73 : iI s11 73 = iI s6 73 := eqI hs11 rfl
    refine z_aload_n X (x := A 179) rfl (List.Mem.head _) (z_getI X 179 rfl (c518_ok rfl) rfl rfl ?_)
    have b12 := bi_98 Is11
    exact w_iret X.1 q hRt rfl (ax_d X (show cdA 293 61 = some (.ireturn, 1, 0, 0, 0) from rfl)) (Nat.zero_le _) (Nat.zero_le _) ⟨_, rfl, Is11, Fs11, (iI s11 98), rfl, (rng_to _), Or.inl ⟨by first | exact hs6.2.1.2 | omega, by first | exact oq_665cd23d vs11 hs6.2.2.1 | omega, by first | exact rfl | (clear g5; omega) | omega, by first | exact oq_333640b7 ws11_73 hs6.2.2.2 b8.1 | omega, mkp_I (by have z := Qs6; rw [show x7 = 128 by first | exact hs6.1 | (clear g5; omega) | omega] at z; exact z) (fun k j hk => by rw [hs11]; rfl)⟩⟩
  ·
    refine z_const X rfl ?_
    exact w_iret X.1 q hRt rfl (ax_d X (show cdA 293 14 = some (.ireturn, 1, 0, 0, 0) from rfl)) (Nat.zero_le _) (Nat.zero_le _) ⟨_, rfl, Is3, Fs3, (-1), rfl, (by decide), Or.inr ⟨by first | exact oq_f5ab1a62 g5 ws3_98 b2.2 | omega, by first | exact g5 | omega, by first | exact rfl | omega, by first | exact vs3 | omega, fun k j hk => by rw [hs3]; rfl⟩⟩
set_option maxRecDepth 4000 in
theorem k_back6 (G : GX l s0 D tys a0 dT) (I : Bd s)  : CT l s0 D A dT 294 (rmN 294) [.ref (A 179)] s (fun o t => Bd t ∧ Fm [73, 98] [228] s t ∧ ∃ e, o = .inl (some (.int (Int32.ofInt e))) ∧ rng e ∧ ((1 ≤ (iI s 98) ∧ iI t 98 = (iI s 98) - 1 ∧ e = iI t 98 ∧ iI t 73 = 0 ∧ BKQ (pfM s) (pfM t) (fun j => iC s (241 + ((iI s 98) - 1).toNat) j) 128) ∨ ((iI s 98) = 0 ∧ iI t 98 = 0 ∧ e = -1 ∧ iI t 73 = 0 ∧ SAM 228 s t))) := by
  refine ct_of G (by decide) (Nat.le_of_ble_eq_true rfl) (fun k X E hRt hXt q => ?_)
  show WS k 0 [(0, .ref (A 179))] [] _ 0 0
  have F : Fm [73, 98] [228] s s := fm_rf _ _ s
  have aw0_228 : SAM 228 s s := sam_rf
  have b1 := bi_73 I
  have b2 := bi_98 I
  have L26 : ∀ (n : Nat) (t : PS) (c : Int), Bd t → Fm [73, 98] [228] s t → (BKQ (pfM s) (pfM t) (fun j => iC s (241 + ((iI s 98) - 1).toNat) j) c) → ((0 ≤ c ∧ c ≤ 128) ∧ (1 ≤ (iI s 98) ∧ (iI s 98) ≤ 4) ∧ iI t 98 = (iI s 98) - 1 ∧ iI t 73 = 0) → (128 - c : Int).toNat < n → (∀ (t' : PS) (c' : Int), Bd t' → Fm [73, 98] [228] s t' → (BKQ (pfM s) (pfM t') (fun j => iC s (241 + ((iI s 98) - 1).toNat) j) c') → (c' = 128 ∧ 1 ≤ (iI s 98) ∧ iI t' 98 = (iI s 98) - 1 ∧ iI t' 73 = 0) → WS k 56 [(0, .ref (A 179)), (1, .int (Int32.ofInt c'))] [] (Wd A dT t') 0 0) → WS k 26 [(0, .ref (A 179)), (1, .int (Int32.ofInt c))] [] (Wd A dT t) 0 0 := by
    intro n
    induction n with
    | zero =>
      intro t c I F hq hi hm kx
      exact absurd hm (Nat.not_lt_zero _)
    | succ n ih =>
      intro t c I F hq hi hm kx
      have b1001 := bi_73 I
      have b1002 := bi_98 I
      refine z_load_n X (x := c) rfl (List.Mem.tail _ (List.Mem.head _)) (z_sipush X rfl (z_icmp_ge X (t := 56) rfl rfl ⟨by first | exact oq_fa4e5087 hi.1.1 | omega, by first | exact oq_4ee82282 hi.1.2 | omega⟩ (by decide) (fun g1003 => ?_) (fun g1003 => ?_)))
      ·
        refine WS_pq [0, 1] (lv' := [(0, .ref (A 179)), (1, .int (Int32.ofInt c))]) rfl ?_
        exact kx _ c I F hq (by first | exact ⟨oq_42fe298a hi.1.2 g1003, hi.2.1.1, hi.2.2.1, hi.2.2.2⟩ | omega)
      ·
        refine z_aload_n X (x := A 179) rfl (List.Mem.head _) (s_getR X 179 rfl (c518_ok rfl) rfl rfl (z_load_n X (x := c) rfl (List.Mem.tail _ (List.Mem.head _)) (z_aload_n X (x := A 179) rfl (List.Mem.head _) (s_getR X 179 rfl (c518_ok rfl) rfl rfl (z_aload_n X (x := A 179) rfl (List.Mem.head _) (z_getI X 179 rfl (c518_ok rfl) rfl rfl ?_))))))
        have b1004 := bi_98 I
        refine z_aald X rw_269 rfl (by first | exact b1004.1 | omega) (show (iI t 98) < 4 by first | exact oq_69e514af hi.2.2.1 hi.2.1.2 | omega) (by decide) (z_load_n X (x := c) rfl (List.Mem.tail _ (List.Mem.head _)) (z_ald2 X rw_269 rfl (show ((iI t 98) : Int).toNat < 4 by first | exact oq_33cf1240 hi.2.2.1 hi.2.1.2 | omega) (by first | exact hi.1.1 | omega) (show c < 128 by first | exact g1003 | omega) (by decide) ?_))
        have b1005 : ((-1) : Int) ≤ (iC t (241 + ((iI t 98) : Int).toNat) (c : Int).toNat) ∧ (iC t (241 + ((iI t 98) : Int).toNat) (c : Int).toNat) ≤ 7 := rw_bd rw_269 I (show ((iI t 98) : Int).toNat < 4 by first | exact oq_33cf1240 hi.2.2.1 hi.2.1.2 | omega) (show (c : Int).toNat < 128 by first | exact oq_afb89947 g1003 | omega)
        have hvb : iC t (241 + (iI t 98 : Int).toNat) (c : Int).toNat = (fun j => iC s (241 + ((iI s 98) - 1).toNat) j) (c : Int).toNat := by show iC t _ _ = iC s (241 + ((iI s 98) - 1).toNat) (c : Int).toNat; rw [show iI t 98 = (iI s 98) - 1 by first | exact hi.2.2.1 | omega]; exact fm_c F ((show ∀ i, i < 4 → 241 + i ∉ _ by decide) _ (by first | exact oq_cadf0662 hi.2.1.2 | omega))
        refine z_ast X 256 rfl (c518_ok rfl) rfl (by first | exact hi.1.1 | omega) (show c < 128 by first | exact g1003 | omega) (cbig_ok rfl) (wd_gen (fun s1006 hs1006 => ?_))
        have Is1006 : Bd s1006 := eqB hs1006 (bd_C I (show ((-1) : Int) ≤ (iC t (241 + ((iI t 98) : Int).toNat) (c : Int).toNat) ∧ (iC t (241 + ((iI t 98) : Int).toNat) (c : Int).toNat) ≤ 7 by first | exact ⟨b1005.1, b1005.2⟩ | omega) (rng_to _))
        have Fs1006 := eqF hs1006 (fm_C F (inl_ok (a := 228) rfl))
        have ws1006_73 : iI s1006 73 = iI t 73 := eqI hs1006 rfl
        have ws1006_98 : iI s1006 98 = iI t 98 := eqI hs1006 rfl
        have aws1006_228 : UPD 228 (c) (iC t (241 + ((iI t 98) : Int).toNat) (c : Int).toNat) t s1006 := by rw [hs1006]; exact upd_put (sam_rf (a := 228) (s := t)) (rng_to _)
        refine z_inc X (x := c) (lv' := [(1, .int (Int32.ofInt (c + 1))), (0, .ref (A 179))]) rfl (by decide) (List.Mem.tail _ (List.Mem.head _)) (fun _ h => h) (z_goto X (t := 26) rfl rfl (WS_pq [1, 0] (lv' := [(0, .ref (A 179)), (1, .int (Int32.ofInt (c + 1)))]) rfl ?_))
        exact ih _ (c + 1) Is1006 Fs1006 (bkq_up hq (by first | exact hi.1.1 | omega) hvb (upm_upd aws1006_228)) (by first | exact ⟨And.intro (oq_54f49eb5 hi.1.1) (oq_d2afb425 g1003), And.intro (hi.2.1.1) (hi.2.1.2), oq_a42238f2 ws1006_98 hi.2.2.1, oq_333640b7 ws1006_73 hi.2.2.2 b1001.1⟩ | omega) (by first | exact qk_me hm (by decide) (oq_c268b7bd g1003) | exact oq_ca57f8b8 g1003 hm | omega) kx
  refine z_aload_n X (x := A 179) rfl (List.Mem.head _) (z_const X rfl (s_putI X 179 rfl (c518_ok rfl) rfl rfl (by decide) rfl rfl rfl (wd_gen (fun s3 hs3 => ?_))))
  have Is3 : Bd s3 := eqB hs3 (bd_I I (show (0 : Int) ≤ 0 ∧ 0 ≤ 3 by first | exact ⟨by decide, by decide⟩ | omega) (by decide))
  have Fs3 := eqF hs3 (fm_I F (inl_ok (a := 73) rfl))
  have vs3 : iI s3 73 = 0 := eqI hs3 (iI_u (by decide))
  have ws3_98 : iI s3 98 = iI s 98 := eqI hs3 rfl
  have aws3_228 : SAM 228 s s3 := by rw [hs3]; exact aw0_228
  refine z_aload_n X (x := A 179) rfl (List.Mem.head _) (z_getI X 179 rfl (c518_ok rfl) rfl rfl ?_)
  have b4 := bi_98 Is3
  refine z_if_ne X (t := 14) rfl rfl (rng_to _) (fun g5 => ?_) (fun g5 => ?_)
  ·
    refine z_aload_n X (x := A 179) rfl (List.Mem.head _) (w_dup X.1 (ax_d X (show cdA 294 15 = some (.dup, 1, 0, 0, 0) from rfl)) rfl (z_getI X 179 rfl (c518_ok rfl) rfl rfl ?_))
    have b6 := bi_98 Is3
    refine z_const X rfl (z_sub X rfl (s_putI X 179 rfl (c518_ok rfl) rfl rfl (by decide) rfl rfl rfl (wd_gen (fun s7 hs7 => ?_))))
    have Is7 : Bd s7 := eqB hs7 (bd_I Is3 (show (0 : Int) ≤ ((iI s3 98) - 1) ∧ ((iI s3 98) - 1) ≤ 4 by first | exact ⟨oq_3ec5d522 b6.1 g5, oq_f3f8f749 b6.2⟩ | omega) ⟨by first | exact oq_c1e961c7 b6.1 | omega, by first | exact oq_dc10bb6e b6.2 | omega⟩)
    have Fs7 := eqF hs7 (fm_I Fs3 (inl_ok (a := 98) rfl))
    have vs7 : iI s7 98 = ((iI s3 98) - 1) := eqI hs7 (iI_u ⟨by first | exact oq_c1e961c7 b6.1 | omega, by first | exact oq_dc10bb6e b6.2 | omega⟩)
    have ws7_73 : iI s7 73 = iI s3 73 := eqI hs7 rfl
    have aws7_228 : SAM 228 s s7 := by rw [hs7]; exact aws3_228
    refine z_const X rfl (z_store_n X (lv' := [(1, .int (Int32.ofInt 0)), (0, .ref (A 179))]) rfl (by decide) (fun _ h => h) (WS_pq [1, 0] (lv' := [(0, .ref (A 179)), (1, .int (Int32.ofInt 0))]) rfl (L26 ((128 - 0 : Int).toNat + 1) s7 0 Is7 Fs7 (bkq_s bkq_0 rfl (show pfM s = pfM s7 from (funext aws7_228).symm)) (by first | exact ⟨And.intro (by decide) (by decide), oq_4d166e3f b6.1 g5 ws3_98 b2.2, oq_fb5f44d5 vs7 ws3_98, oq_e5e5d3d6 ws7_73 vs3⟩ | omega) (Nat.lt_succ_self _) ?_)))
    intro s8 x9 Is8 Fs8 Qs8 hs8
    have b10 := bi_73 Is8
    have b11 := bi_98 Is8
    refine z_aload_n X (x := A 179) rfl (List.Mem.head _) (z_getI X 179 rfl (c518_ok rfl) rfl rfl ?_)
    have b12 := bi_98 Is8
    exact w_iret X.1 q hRt rfl (ax_d X (show cdA 294 60 = some (.ireturn, 1, 0, 0, 0) from rfl)) (Nat.zero_le _) (Nat.zero_le _) ⟨_, rfl, Is8, Fs8, (iI s8 98), rfl, (rng_to _), Or.inl ⟨by first | exact hs8.2.1 | omega, by first | exact hs8.2.2.1 | omega, by first | exact rfl | (clear g5; omega) | omega, by first | exact hs8.2.2.2 | omega, by have z := Qs8; rw [show x9 = 128 by first | exact hs8.1 | (clear g5; omega) | omega] at z; exact z⟩⟩
  ·
    refine z_const X rfl ?_
    exact w_iret X.1 q hRt rfl (ax_d X (show cdA 294 13 = some (.ireturn, 1, 0, 0, 0) from rfl)) (Nat.zero_le _) (Nat.zero_le _) ⟨_, rfl, Is3, Fs3, (-1), rfl, (by decide), Or.inr ⟨by first | exact oq_fbab4971 ws3_98 g5 b2.1 | omega, by first | exact g5 | omega, by decide, by first | exact vs3 | omega, aws3_228⟩⟩
end M87k6
