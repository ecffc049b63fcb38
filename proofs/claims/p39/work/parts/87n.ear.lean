
theorem oq_d34f0741 {a0 : Int} (h0 : a0 ≤ 7) : ((a0 : Int).toNat + (7 - (a0 : Int).toNat)) = 7 := by omega
theorem oq_1f4bc0d3 {n0 : Nat}  : (¬ (n0 < 0)) := by omega
theorem oq_ed418a60 {n0 n1 : Nat} (h0 : n0 < 64) (h1 : n1 < 2) : ((64 * n1) + n0) < 128 := by omega
theorem oq_027073b9 {n0 n1 : Nat} (h0 : n0 < 64) : (((64 * n1) + n0) / 64) = n1 := by omega
theorem oq_66b58032 {n0 n1 : Nat} (h0 : n0 < 64) (h1 : n1 < 2) : (((64 * n1) + n0) % 64) = n0 := by omega
theorem oq_cdc142b7 {n0 n1 : Nat}  : (((((n0 : Nat) : Int) * 2) + ((n1 : Nat) : Int)) : Int).toNat = ((2 * n0) + n1) := by omega
theorem oq_45c9cdfc {n0 n1 n2 : Nat}  : (((14 * n0) + (2 * n1)) + n2) = (((((((n0 : Nat) : Int) * 7) + ((n1 : Nat) : Int)) * 2) + ((n2 : Nat) : Int)) : Int).toNat := by omega
theorem oq_06748ff4 {a0 : Int} (h0 : 0 ≤ a0) : a0 = (((a0 : Int).toNat : Nat) : Int) := by omega
theorem oq_d1d635bc {a0 a1 : Int} (h0 : 0 ≤ a0) (h1 : a0 = a1) : a1 = (((a0 : Int).toNat : Nat) : Int) := by omega
theorem oq_cc24202f {a1 : Int} {n0 : Nat} (h0 : n0 < (a1 : Int).toNat) : ((n0 : Nat) : Int) < a1 := by omega
theorem oq_bc8b14c0 {a1 : Int} {n0 n2 : Nat} (h0 : n0 < (a1 : Int).toNat) (h1 : n2 < (a1 : Int).toNat) : ((n0 : Nat) : Int) < a1 := by omega
theorem oq_9a3c261c {a1 : Int} {n0 n2 : Nat} (h0 : ((n0 : Nat) : Int) < a1) (h1 : n2 < (a1 : Int).toNat) : ((n2 : Nat) : Int) < a1 := by omega
theorem oq_1ee0fd4c  : (0 : Int) < 2 := by omega
theorem oq_f3c40dc3 {n0 : Nat}  : ((64 * 0) + n0) = n0 := by omega
theorem oq_c26122b5 {a0 : Int} {n1 : Nat} (h0 : a0 = ((n1 : Nat) : Int)) : (a0 : Int).toNat = n1 := by omega
theorem oq_0a9164f0  : (1 : Int) < 2 := by omega
theorem oq_47f04fc6 {n0 : Nat}  : ((64 * 1) + n0) = (64 + n0) := by omega
theorem oq_0dbfae1d {a0 : Int} {n1 : Nat} (h0 : a0 = (((64 + n1) : Nat) : Int)) : (a0 : Int).toNat = (64 + n1) := by omega
theorem oq_1a7bd503 {n0 : Nat}  : 64 ≤ (((64 + n0) : Nat) : Int) := by omega
theorem oq_0a8f0ae8 {n0 : Nat} (h0 : n0 < 64) : (((64 + n0) : Nat) : Int) < 128 := by omega
theorem oq_d9c5a060 {n0 : Nat}  : (((((64 + n0) : Nat) : Int) - 64) : Int).toNat = n0 := by omega
theorem oq_9312e54f {a1 : Int} {n0 : Nat} (h0 : n0 < ((a1 + 1) : Int).toNat) (h1 : 0 ≤ a1) : (¬ ((a1 : Int).toNat < n0)) := by omega
theorem oq_d7fadd27 {a0 a1 : Int} (h0 : a0 < a1) (h1 : 0 ≤ a0) : (a0 : Int).toNat < (a1 : Int).toNat := by omega
theorem oq_e381c3c3 {a0 a1 : Int} (h0 : a0 < a1) (h1 : 0 ≤ a0) : (((a1 : Int).toNat : Nat) : Int) = a1 := by omega
theorem oq_ee487973 {a0 a1 : Int} (h0 : a0 < a1) (h1 : 0 ≤ a0) : ((a1 + 1) : Int).toNat = ((a1 : Int).toNat + 1) := by omega
theorem oq_ae306297 {a0 a1 : Int} (h0 : a0 ≤ 11) (h1 : a1 < a0) : (a1 : Int).toNat < 12 := by omega
theorem oq_70bf3b5d {a0 a1 a2 a3 : Int} (h0 : a0 ≤ (55 + (((a1 : Int).toNat : Nat) : Int))) (h1 : a2 ≤ (a0 + ((a3 - a1) - 1))) (h2 : a3 ≤ 11) (h3 : 0 ≤ a1) : (a2 + 1) ≤ 2147483647 := by omega
theorem oq_d4c87826 {a1 a2 : Int} {n0 : Nat} (h0 : n0 = (a1 : Int).toNat) (h1 : a2 = a1) : ((a2 * 2) : Int).toNat = (2 * n0) := by omega
theorem oq_c389aa2b {a1 a2 : Int} {n0 : Nat} (h0 : n0 = (a1 : Int).toNat) (h1 : a2 = a1) (h2 : 0 ≤ a1) : (((a2 * 2) + 1) : Int).toNat = ((2 * n0) + 1) := by omega
theorem oq_a4dde2ab {a0 a1 : Int} (h0 : a0 < a1) (h1 : 0 ≤ a0) : (-2147483648) ≤ ((a0 * 12) + a1) := by omega
theorem oq_692a027b {a0 a1 : Int} (h0 : a0 ≤ 11) (h1 : a1 < a0) : ((a1 * 12) + a0) ≤ 2147483647 := by omega
theorem oq_6ed16e4a {n0 : Nat}  : (2 * n0) ≠ ((2 * n0) + 1) := by omega
theorem oq_abfbec0a {n0 n1 : Nat} (h0 : n0 < (2 * n1)) : n0 ≠ ((2 * n1) + 1) := by omega
theorem oq_d19249f6 {n0 n1 : Nat} (h0 : n0 < (2 * n1)) : n0 ≠ (2 * n1) := by omega
theorem oq_33fd9894 {a1 : Int} {n0 : Nat} (h0 : n0 = (a1 : Int).toNat) (h1 : 0 ≤ a1) : ((a1 + 1) : Int).toNat = (n0 + 1) := by omega
theorem oq_456eaa4f {n0 n1 : Nat} (h0 : n0 < n1) : n0 ≠ n1 := by omega
theorem oq_3b143464 {n0 n1 : Nat} (h0 : n0 < n1) : (2 * n0) < (2 * n1) := by omega
theorem oq_1870fb98 {n0 n1 : Nat} (h0 : n0 < n1) : ((2 * n0) + 1) < (2 * n1) := by omega
theorem oq_0b7274ac {a0 a1 : Int} (h0 : a0 ≤ 11) (h1 : a1 < a0) (h2 : 0 ≤ a1) : ((((a1 * 12) + a0) / 12) : Int).toNat = (a1 : Int).toNat := by omega
theorem oq_7fd980b8 {a0 : Int} (h0 : (¬ (a0 = 12))) (h1 : a0 ≤ 12) : (a0 : Int).toNat < 12 := by omega
theorem oq_3b89ccc1 {a0 : Int} (h0 : a0 ≠ 4) (h1 : a0 ≤ 4) : (a0 + 1) ≤ 4 := by omega
theorem oq_93cdc1b4 {a0 : Int} (h0 : a0 ≤ 4) : ((a0 = 4 ∧ (0 : Int) = 0) ∨ (a0 ≠ 4 ∧ (0 : Int) = 0)) := by omega
theorem oq_8b6bb85b {a0 a1 : Int} (h0 : a0 = a1) (h1 : a1 ≤ (((5 : Nat) : Int) * 64)) : a0 ≤ 2147483647 := by omega
theorem oq_f885fad9 {a0 a1 : Int} (h0 : 0 ≤ a0) (h1 : a1 = a0) : (-2147483648) ≤ a1 := by omega
theorem oq_6a7e65e7 {a0 a1 : Int} (h0 : a0 ≤ 64) (h1 : a1 = a0) : a1 ≤ 2147483647 := by omega
theorem oq_f47d4981 {a1 a2 : Int} {n0 : Nat} (h0 : ((n0 : Nat) : Int) < a1) (h1 : a1 = 0) : 0 ≤ a2 := by omega
theorem oq_88f4553f {a1 a2 : Int} {n0 : Nat} (h0 : ((n0 : Nat) : Int) < a1) (h1 : a1 = 0) : a2 ≤ 320 := by omega
theorem oq_5feb4f70 {a1 a2 : Int} {n0 : Nat} (h0 : ((n0 : Nat) : Int) < a1) (h1 : a1 = 0) : a2 ≤ 64 := by omega
theorem oq_66b77d0b {a0 a1 : Int} (h0 : a0 ≤ a1) (h1 : a1 ≤ 11) : (a0 + 1) ≤ 2147483647 := by omega
theorem oq_c0ae7328 {a0 a1 a2 : Int} (h0 : a0 = (a1 + 1)) (h1 : a1 ≤ a2) : a0 ≤ (a2 + 1) := by omega
theorem oq_cb019596 {a2 a3 : Int} {n0 n1 : Nat} (h0 : (¬ (n0 = n1))) (h1 : ((n0 : Nat) : Int) < a2) (h2 : n1 = (a3 : Int).toNat) (h3 : a2 = (a3 + 1)) : ((n0 : Nat) : Int) < a3 := by omega
theorem oq_c7ddc228 {n0 n1 : Nat} (h0 : n0 < n1) : (¬ (n0 = n1)) := by omega
theorem oq_9763cd69 {a1 a2 : Int} {n0 : Nat} (h0 : ((n0 : Nat) : Int) < a1) (h1 : a1 = 0) : a2 ≤ 128 := by omega
theorem oq_c1af4628 {a0 a1 : Int} (h0 : a0 ≤ a1) (h1 : a1 ≤ 65) : (a0 + 1) ≤ 2147483647 := by omega
theorem oq_17e35dd3 {a0 a1 : Int} (h0 : a0 = (a1 / 12)) (h1 : 0 ≤ a1) : (-2147483648) ≤ a0 := by omega
theorem oq_d83e136f {a0 a1 : Int} (h0 : a0 = (a1 / 12)) (h1 : a1 ≤ 143) : a0 ≤ 2147483647 := by omega
theorem oq_d2cb47fb {a0 a1 : Int} (h0 : a0 = (a1 % 12)) : (-2147483648) ≤ a0 := by omega
theorem oq_e7822c1f {a0 a1 : Int} (h0 : a0 = (a1 % 12)) : a0 ≤ 2147483647 := by omega
theorem oq_d10e6373 {n0 : Nat}  : ((((n0 : Nat) : Int) * 2) : Int).toNat = (2 * n0) := by omega
theorem oq_def1a1f8 {n0 : Nat}  : (((((n0 : Nat) : Int) * 2) + 1) : Int).toNat = ((2 * n0) + 1) := by omega
theorem oq_d0f9435a {n0 : Nat} (h0 : n0 < 64) : n0 < 128 := by omega
theorem oq_04ce3b1a {n0 : Nat} (h0 : n0 < 64) : (n0 / 64) = 0 := by omega
theorem oq_11c9d0aa {n0 : Nat} (h0 : n0 < 64) : (n0 % 64) = n0 := by omega
theorem oq_dbba00b6 {n0 : Nat} (h0 : n0 < 64) : (64 + n0) < 128 := by omega
theorem oq_f17a76d7 {n0 : Nat} (h0 : n0 < 64) : ((64 + n0) / 64) = 1 := by omega
theorem oq_f6e7ab53 {n0 : Nat} (h0 : n0 < 64) : ((64 + n0) % 64) = n0 := by omega
theorem oq_a8972afc {a0 : Int} {n1 : Nat} (h0 : a0 ≤ 127) (h1 : a0 = ((n1 : Nat) : Int)) : n1 < 128 := by omega
theorem oq_12ad7178 {n0 : Nat} (h0 : ((n0 : Nat) : Int) < 64) (h1 : 0 ≤ ((n0 : Nat) : Int)) : (n0 / 64) = 0 := by omega
theorem oq_5e605950 {n0 : Nat} (h0 : ((n0 : Nat) : Int) < 64) (h1 : 0 ≤ ((n0 : Nat) : Int)) : (n0 % 64) = n0 := by omega
theorem oq_cb60b78e {n0 : Nat} (h0 : ((n0 : Nat) : Int) < 64) : n0 < 64 := by omega
theorem oq_a0022b33 {n0 : Nat} (h0 : ((n0 : Nat) : Int) < 128) (h1 : 64 ≤ ((n0 : Nat) : Int)) : (n0 / 64) = 1 := by omega
theorem oq_ddadd8e9 {n0 : Nat} (h0 : ((n0 : Nat) : Int) < 128) (h1 : 64 ≤ ((n0 : Nat) : Int)) : (n0 % 64) = (n0 - 64) := by omega
theorem oq_623b4b9a {n0 : Nat} (h0 : 64 ≤ ((n0 : Nat) : Int)) : ((((n0 : Nat) : Int) - 64) : Int).toNat = (n0 - 64) := by omega
theorem oq_a29f848b {n0 : Nat} (h0 : ((n0 : Nat) : Int) < 128) : (n0 - 64) < 64 := by omega
theorem oq_7479b010 {n0 n1 : Nat}  : (((((n0 : Nat) : Int) * 5) + ((n1 : Nat) : Int)) : Int).toNat = ((5 * n0) + n1) := by omega
theorem oq_672aa8ea {a1 : Int} {n0 : Nat} (h0 : n0 < ((a1 - 1) : Int).toNat) : (((n0 + 1) : Nat) : Int) < a1 := by omega
theorem oq_b20fffc2 {a1 : Int} {n0 n2 : Nat} (h0 : n0 < (a1 : Int).toNat) (h1 : n2 < (a1 : Int).toNat) : ((n2 : Nat) : Int) < a1 := by omega
theorem oq_5c13330e {a0 a1 : Int} (h0 : a0 = a1) (h1 : 0 ≤ a0) : (((a0 : Int).toNat : Nat) : Int) = a1 := by omega
theorem oq_5417fdf5 {a0 a1 : Int} (h0 : a0 ≠ a1) (h1 : 0 ≤ a0) : (¬ ((((a0 : Int).toNat : Nat) : Int) = a1)) := by omega
theorem oq_545008b5 {a0 a1 a2 a3 : Int} (h0 : a0 = (a1 + a2)) (h1 : a1 = (a3 * 12)) (h2 : 0 ≤ a2) : (((a3 * 12) + (((a2 : Int).toNat : Nat) : Int)) : Int).toNat = (a0 : Int).toNat := by omega
theorem oq_daaeabf1 {a1 : Int} {n0 : Nat} (h0 : n0 < 12) (h1 : a1 ≤ 23) : (((a1 * 12) + ((n0 : Nat) : Int)) : Int).toNat < 288 := by omega
theorem oq_673ede27 {n0 : Nat} (h0 : 4 ≤ n0) : n0 ≠ 3 := by omega
theorem oq_1c9cabe5 {n0 : Nat} (h0 : 4 ≤ n0) : n0 ≠ 2 := by omega
theorem oq_92b348c9 {n0 : Nat} (h0 : 4 ≤ n0) : n0 ≠ 1 := by omega
theorem oq_3e235905 {n0 : Nat} (h0 : 4 ≤ n0) : n0 ≠ 0 := by omega
theorem oq_eb5d3e59 {a0 a1 a2 a3 : Int} (h0 : 0 ≤ a0) (h1 : 0 ≤ a1) (h2 : a2 = a0) (h3 : a3 = a1) : (-2147483648) ≤ (a3 + a2) := by omega
theorem oq_1c4faf05 {a0 a1 a2 a3 : Int} (h0 : a0 ≤ 64) (h1 : a1 ≤ 64) (h2 : a2 = a0) (h3 : a3 = a1) : (a3 + a2) ≤ 2147483647 := by omega
theorem oq_ef1de250 {a0 : Int} (h0 : 7 ≤ a0) (h1 : a0 ≤ 7) : a0 = 7 := by omega
theorem oq_4883396f {a0 a1 : Int} (h0 : a0 = 0) (h1 : a0 ≠ 0) : a1 = 7 := by omega
theorem oq_95e5e7fc  : (0 : Int) ≤ 7 := by omega
theorem oq_c2cbe6f3 {a0 a1 : Int} (h0 : (a0 + 1) ≤ a1) : a0 < a1 := by omega
theorem oq_c33c854b {a0 a1 a2 : Int} (h0 : a0 < a1) (h1 : a1 ≤ 12) (h2 : (a2 + 1) ≤ a0) : (a2 : Int).toNat < 12 := by omega
theorem oq_2d8c9f7f {a0 : Int}  : (a0 + 1) ≤ (a0 + 1) := by omega
theorem oq_ec4b8a25 {a0 a1 a2 : Int} {n3 : Nat} (h0 : (a0 + 1) ≤ a1) (h1 : a0 < a2) (h2 : a2 ≤ 12) (h3 : ((12 - a0) : Int).toNat < (n3 + 1)) (h4 : a1 ≤ 12) : ((12 - (a0 + 1)) : Int).toNat < n3 := by omega
theorem oq_c8e0c7cb {a0 : Int} (h0 : a0 < 5) : a0 ≤ 4 := by omega
theorem oq_76809eae {a0 : Int} (h0 : a0 = 1) : a0 ≤ 4 := by omega
theorem oq_d12a73a8 {a0 : Int} (h0 : 2 ≤ a0) (h1 : a0 = 1) : a0 = 4 := by omega
theorem oq_bc19b612 {a0 a1 : Int} (h0 : 2 ≤ a0) (h1 : a0 = 1) : 0 = a1 := by omega
theorem oq_6148d5e5 {a0 : Int} {n1 : Nat} (h0 : 2 ≤ a0) (h1 : a0 = 1) : ((5 - (a0 + 1)) : Int).toNat < n1 := by omega
theorem oq_c7685525 {a0 : Int} {n1 : Nat} (h0 : a0 = 4) (h1 : a0 = 1) : ((5 - (a0 + 1)) : Int).toNat < n1 := by omega
theorem oq_651bdbd8 {a0 : Int} (h0 : a0 < 2) : a0 ≤ 4 := by omega
theorem oq_b7cf0fd9 {a0 : Int} (h0 : a0 < 2) (h1 : a0 = 1) : (a0 : Int).toNat = 1 := by omega
theorem oq_407f866a {a0 : Int} (h0 : a0 < 2) : (¬ ((a0 : Int).toNat = 4)) := by omega
theorem oq_eaaea1eb {a0 : Int} (h0 : a0 < 2) : (a0 : Int).toNat < 2 := by omega
theorem oq_1c7ec0b4 {a0 a1 a2 : Int} (h0 : a0 ≤ 64) (h1 : a1 ≤ (64 * a2)) : (a1 + a0) ≤ (64 * (a2 + 1)) := by omega
theorem oq_f402bcda {a0 : Int} {n1 : Nat} (h0 : a0 < 2) (h1 : ((5 - a0) : Int).toNat < (n1 + 1)) : ((5 - (a0 + 1)) : Int).toNat < n1 := by omega
theorem oq_3fb7a02b {a0 : Int} {n1 : Nat} (h0 : a0 = 4) (h1 : a0 < 2) : ((5 - (a0 + 1)) : Int).toNat < n1 := by omega
theorem oq_830d2eaf {a0 a1 : Int} (h0 : a0 = 4) (h1 : a0 = 1) : 0 = a1 := by omega
theorem oq_f00a347d {a0 : Int} (h0 : 2 ≤ a0) (h1 : a0 ≠ 3) : (¬ (((a0 : Int).toNat = 1 ∨ (a0 : Int).toNat = 3))) := by omega
theorem oq_e7596824 {a0 : Int} (h0 : a0 ≠ 4) (h1 : a0 < 5) : (¬ ((a0 : Int).toNat = 4)) := by omega
theorem oq_2be7be13 {a0 : Int} (h0 : 2 ≤ a0) : (¬ ((a0 : Int).toNat < 2)) := by omega
theorem oq_2a0590ce {a0 : Int} (h0 : a0 = 4) : a0 ≤ 4 := by omega
theorem oq_c285dd32 {a0 : Int} {n1 : Nat} (h0 : a0 = 4) (h1 : ((5 - a0) : Int).toNat < (n1 + 1)) : ((5 - (a0 + 1)) : Int).toNat < n1 := by omega
theorem oq_b23d70ec {a0 : Int} (h0 : a0 < 2) (h1 : a0 ≠ 1) : (¬ (((a0 : Int).toNat = 1 ∨ (a0 : Int).toNat = 3))) := by omega
theorem oq_441b24d9 {a0 a1 : Int} (h0 : a0 ≠ 4) (h1 : a0 = 4) : 0 = a1 := by omega
theorem oq_0ea6a29b {a0 : Int} (h0 : a0 = 4) : (¬ (((a0 : Int).toNat = 1 ∨ (a0 : Int).toNat = 3))) := by omega
theorem oq_a081f251 {a0 : Int} (h0 : a0 = 4) : (a0 : Int).toNat = 4 := by omega
theorem oq_4c92b049 {a0 : Int} (h0 : a0 = 3) : a0 ≤ 4 := by omega
theorem oq_31dc8c85 {a0 : Int} (h0 : a0 = 3) : (a0 : Int).toNat = 3 := by omega
theorem oq_1400b2a9 {a0 : Int} (h0 : a0 = 3) : (¬ ((a0 : Int).toNat = 4)) := by omega
theorem oq_e7db82d6 {a0 : Int} (h0 : a0 = 3) : (¬ ((a0 : Int).toNat < 2)) := by omega
theorem oq_43811612 {a0 : Int} {n1 : Nat} (h0 : a0 = 3) (h1 : ((5 - a0) : Int).toNat < (n1 + 1)) : ((5 - (a0 + 1)) : Int).toNat < n1 := by omega
theorem oq_6bed0c83 {a0 : Int} {n1 : Nat} (h0 : a0 = 4) (h1 : a0 = 3) : ((5 - (a0 + 1)) : Int).toNat < n1 := by omega
theorem oq_54864a4f {a0 : Int} (h0 : a0 < 2) (h1 : a0 = 3) : a0 = 4 := by omega
theorem oq_943f1165 {a0 a1 : Int} (h0 : a0 < 2) (h1 : a0 = 3) : 0 = a1 := by omega
theorem oq_da84de76 {a0 : Int} {n1 : Nat} (h0 : a0 < 2) (h1 : a0 = 3) : ((5 - (a0 + 1)) : Int).toNat < n1 := by omega
theorem oq_8afcc667 {a0 a1 : Int} (h0 : a0 = 4) (h1 : a0 = 3) : 0 = a1 := by omega
theorem oq_9aca9e24  : (0 : Int) ≤ (64 * 0) := by omega
theorem oq_3337728f  : (0 : Int) ≤ 64 := by omega
theorem oq_6bb8b9a8  : (0 : Int) ≤ 5 := by omega
theorem oq_2163ea32 {a0 a1 : Int} (h0 : a0 ≤ 64) (h1 : a1 ≤ 64) : (a1 + a0) ≤ 2147483647 := by omega
theorem oq_2d4b017a {a0 a1 a3 : Int} {n2 : Nat} (h0 : a0 < a1) (h1 : ((66 - a0) : Int).toNat < (n2 + 1)) (h2 : a1 = a3) (h3 : a3 ≤ 66) : ((66 - (a0 + 1)) : Int).toNat < n2 := by omega
theorem oq_1967bdf8 {a0 a1 a2 : Int} (h0 : a0 < a1) (h1 : a1 = a2) (h2 : a2 ≤ 66) : a0 ≤ 65 := by omega
theorem oq_6c95c441 {a0 a1 a2 : Int} (h0 : a0 ≤ (50 * 320)) (h1 : a1 ≤ (16000 * a2)) : (a1 + a0) ≤ (16000 * (a2 + 1)) := by omega
theorem oq_2df07b19 {a0 a1 a2 : Int} (h0 : a0 ≤ (50 * 64)) (h1 : a1 ≤ (3200 * a2)) : (a1 + a0) ≤ (3200 * (a2 + 1)) := by omega
theorem oq_f5c742f1 {a0 a1 a2 : Int} (h0 : a0 < a1) (h1 : a1 = a2) (h2 : a2 ≤ 66) : (a0 : Int).toNat < 66 := by omega
theorem oq_cf461999 {a0 a1 a2 : Int} (h0 : ((a0 = a1 ∧ a1 ≤ a2) ∨ (a0 = a2 ∧ a2 < a1))) (h1 : a1 ≤ 50) : a0 ≤ 50 := by omega
theorem oq_c1169d3f {a0 a1 a2 : Int} (h0 : a0 ≤ (128 * 50)) (h1 : a1 ≤ (6400 * a2)) : (a1 + a0) ≤ (6400 * (a2 + 1)) := by omega
theorem oq_599ba080  : (0 : Int) ≤ (50 * 0) := by omega
theorem oq_5cd146a8  : (0 : Int) ≤ (16000 * 0) := by omega
theorem oq_1b7f0927  : (0 : Int) ≤ (3200 * 0) := by omega

theorem oq_2eda81cf {a0 a1 a2 : Int} (h0 : 0 ≤ a0) (h1 : 0 ≤ a1) (h2 : 0 ≤ a2) : 0 ≤ ((((a1 * 7) + a0) * 2) + a2) := by omega
theorem oq_be9e68b2 {a0 a1 a2 : Int} (h0 : a0 ≤ 11) (h1 : a1 < 7) (h2 : a2 ≤ 1) : ((((a0 * 7) + a1) * 2) + a2) < 168 := by omega
theorem oq_7a2963c7 {a0 a1 : Int} (h0 : (a0 + 1) ≤ a1) (h1 : 0 ≤ a0) : (-2147483648) ≤ a1 := by omega
theorem oq_091fd3db {a0 a1 a2 : Int} (h0 : (a0 + 1) ≤ a1) (h1 : a1 ≤ a2) : (a0 + 1) ≤ a2 := by omega
theorem oq_c0b5fb85 {a0 a1 a2 : Int} (h0 : (a0 + 1) ≤ a1) (h1 : a1 < a2) (h2 : a2 ≤ 12) : a0 ≤ 11 := by omega
theorem oq_85bc47d7 {a0 a1 : Int} (h0 : (a0 + 1) ≤ a1) (h1 : 0 ≤ a0) : 0 ≤ a1 := by omega
theorem oq_c88d0a11 {a0 a1 : Int} (h0 : (a0 + 1) ≤ a1) : (a0 + 1) ≤ (a1 + 1) := by omega
theorem oq_938dc1a3 {a0 a1 : Int} (h0 : 0 ≤ a0) (h1 : (a0 + 1) ≤ a1) : 0 ≤ ((a0 * 12) + a1) := by omega
theorem oq_86fb23b7 {a0 a1 a2 : Int} (h0 : (a0 + 1) ≤ a1) (h1 : a1 < a2) (h2 : a2 ≤ 12) : ((a0 * 12) + a1) ≤ 143 := by omega
theorem oq_805207af {a0 a1 : Int} (h0 : 0 ≤ a0) (h1 : (a0 + 1) ≤ a1) : (-2147483648) ≤ ((a0 * 12) + a1) := by omega
theorem oq_2f3ce8a7 {a0 a1 a2 : Int} (h0 : (a0 + 1) ≤ a1) (h1 : a1 < a2) (h2 : a2 ≤ 12) : ((a0 * 12) + a1) ≤ 2147483647 := by omega
theorem oq_cb22635a {a0 a1 : Int} (h0 : (a0 + 1) ≤ a1) (h1 : a1 ≤ 12) : 0 < (12 - a0) := by omega
theorem oq_17a66154 {a0 : Int} (h0 : a0 ≤ 5) (h1 : 5 ≤ a0) : a0 = 5 := by omega
theorem oq_4719918c {a0 a1 : Int} (h0 : a0 ≤ (64 * a1)) (h1 : a1 ≤ 5) : a0 ≤ 2147483647 := by omega
theorem oq_1256f433 {a0 a1 : Int} (h0 : a0 ≤ (64 * a1)) : a0 ≤ (64 * (a1 + 1)) := by omega
theorem oq_87f30858 {a0 : Int} (h0 : 2 ≤ a0) : (-2147483648) ≤ a0 := by omega
theorem oq_25d2d060 {a0 a1 a2 : Int} (h0 : 2 ≤ a0) (h1 : a0 = 1) : (0 ≤ (a1 + a2) ∧ (a1 + a2) ≤ (64 * (a0 + 1))) := by omega
theorem oq_28b1915a {a0 : Int} (h0 : 2 ≤ a0) : 0 ≤ (a0 + 1) := by omega
theorem oq_15127c44 {a0 : Int} (h0 : a0 = 1) : (a0 + 1) ≤ 5 := by omega
theorem oq_fa4db026 {a0 : Int} (h0 : a0 = 1) : 0 < (5 - a0) := by omega
theorem oq_cdf84dd2 {a0 a1 a2 : Int} (h0 : a0 = 4) (h1 : a0 = 1) : (0 ≤ (a1 + a2) ∧ (a1 + a2) ≤ (64 * (a0 + 1))) := by omega
theorem oq_7f2763ea {a0 a1 : Int} (h0 : a0 = 4) (h1 : a0 = 1) : (0 ≤ a1 ∧ a1 ≤ 64) := by omega
theorem oq_177a211a {a0 : Int} (h0 : a0 = 4) : 0 ≤ (a0 + 1) := by omega
theorem oq_04e08c97 {a0 : Int} (h0 : a0 = 4) : (a0 + 1) ≤ 5 := by omega
theorem oq_f619ccd3 {a0 : Int} (h0 : a0 = 4) : 0 < (5 - a0) := by omega
theorem oq_69f0c9b9 {a0 : Int} (h0 : a0 = 1) : 0 ≤ (a0 + 1) := by omega
theorem oq_c62f093d {a0 : Int} (h0 : a0 < 2) : (a0 + 1) ≤ 5 := by omega
theorem oq_a4e4bc10 {a0 : Int} (h0 : a0 < 2) : 0 < (5 - a0) := by omega
theorem oq_fa5877f3 {a0 a1 a2 : Int} (h0 : a0 = 4) (h1 : a0 < 2) : (0 ≤ (a1 + a2) ∧ (a1 + a2) ≤ (64 * (a0 + 1))) := by omega
theorem oq_821f40af {a0 a1 : Int} (h0 : a0 = 4) (h1 : a0 < 2) : (0 ≤ a1 ∧ a1 ≤ 64) := by omega
theorem oq_c618798b {a0 a1 a2 : Int} (h0 : a0 = 4) (h1 : a0 ≠ 4) : (0 ≤ (a1 + a2) ∧ (a1 + a2) ≤ (64 * (a0 + 1))) := by omega
theorem oq_f732f4b2 {a0 a1 : Int} (h0 : a0 = 4) (h1 : a0 ≠ 4) : (0 ≤ a1 ∧ a1 ≤ 64) := by omega
theorem oq_c455f342 {a0 a1 a2 : Int} (h0 : a0 ≠ 4) (h1 : a0 = 4) : (0 ≤ (a1 + a2) ∧ (a1 + a2) ≤ (64 * (a0 + 1))) := by omega
theorem oq_34527ac9 {a0 : Int} (h0 : a0 = 3) : (a0 + 1) ≤ 5 := by omega
theorem oq_a78fb3de {a0 : Int} (h0 : a0 = 3) : 0 < (5 - a0) := by omega
theorem oq_5030e323 {a0 a1 a2 : Int} (h0 : a0 = 4) (h1 : a0 = 3) : (0 ≤ (a1 + a2) ∧ (a1 + a2) ≤ (64 * (a0 + 1))) := by omega
theorem oq_6d05eb5d {a0 a1 : Int} (h0 : a0 = 4) (h1 : a0 = 3) : (0 ≤ a1 ∧ a1 ≤ 64) := by omega
theorem oq_0e63c7f6 {a0 a1 a2 : Int} (h0 : a0 < 2) (h1 : a0 = 3) : (0 ≤ (a1 + a2) ∧ (a1 + a2) ≤ (64 * (a0 + 1))) := by omega
theorem oq_eb44aa74 {a0 : Int} (h0 : a0 = 3) : 0 ≤ (a0 + 1) := by omega
theorem oq_e6fd60ce {a0 a1 a2 a3 : Int} (h0 : a0 = a1) (h1 : a1 = a2) (h2 : a2 = a3) (h3 : a3 ≤ 11) : a0 < 12 := by omega
theorem oq_b63fabfa {a0 a1 : Int} (h0 : a0 ≤ a1) (h1 : a1 ≤ 66) : a0 ≤ 2147483647 := by omega
theorem oq_d4c01b64 {a0 a1 a2 : Int} (h0 : a0 ≤ a1) (h1 : a1 < a2) (h2 : a2 ≤ 66) : a0 < 66 := by omega
theorem oq_249c640e {a0 a1 a2 a3 : Int} (h0 : a0 = a1) (h1 : a1 ≤ a2) (h2 : a2 < a3) (h3 : a3 ≤ 66) : a0 < 66 := by omega
theorem oq_936627ac {a0 a1 : Int} (h0 : 0 < (a0 + a1)) : (-2147483648) ≤ (a0 + a1) := by omega
theorem oq_44cce968 {a0 a1 a2 a3 a4 a5 : Int} (h0 : a0 = a1) (h1 : a1 = a2) (h2 : a2 = a3) (h3 : a4 < a5) (h4 : a5 ≤ 66) (h5 : a3 ≤ a4) : (a0 + 1) ≤ 66 := by omega
theorem oq_a50d5726 {a0 a1 a2 a3 a4 a5 : Int} (h0 : a0 = (a1 + 1)) (h1 : a2 ≤ a3) (h2 : a1 = a4) (h3 : a5 = a2) (h4 : a4 = a5) : a0 ≤ (a3 + 1) := by omega
theorem oq_67767ef8 {a0 a1 : Int} (h0 : a0 ≤ 64) (h1 : a1 ≤ 64) : (a0 + a1) ≤ 2147483647 := by omega
theorem oq_4b50503d {a0 a1 a2 : Int} (h0 : a0 ≤ (50 * a1)) (h1 : a1 ≤ a2) (h2 : a2 ≤ 12) : a0 ≤ 2147483647 := by omega
theorem oq_c53e923f {a0 a1 a2 : Int} (h0 : a0 ≤ (16000 * a1)) (h1 : a1 ≤ a2) (h2 : a2 ≤ 12) : a0 ≤ 2147483647 := by omega
theorem oq_525751f8 {a0 a1 a2 : Int} (h0 : a0 ≤ (3200 * a1)) (h1 : a1 ≤ a2) (h2 : a2 ≤ 12) : a0 ≤ 2147483647 := by omega
theorem oq_eb3aeb04 {a0 a1 a2 : Int} (h0 : a0 = (a1 * 12)) (h1 : 0 ≤ a2) (h2 : 0 ≤ a1) : 0 ≤ (a0 + a2) := by omega
theorem oq_1e648b75 {a0 a1 a2 : Int} (h0 : a0 = (a1 * 12)) (h1 : a2 ≤ 11) (h2 : a1 ≤ 23) : (a0 + a2) < 288 := by omega
theorem oq_a9f1a1f4 {a0 a1 a2 : Int} (h0 : a0 = (a1 * 12)) (h1 : a2 ≤ 11) (h2 : a1 ≤ 23) : ((a0 + a2) : Int).toNat < 288 := by omega
theorem oq_d2f84ed4 {a0 a1 : Int} (h0 : a0 ≤ (50 * a1)) : (a0 + 0) ≤ (50 * (a1 + 1)) := by omega
theorem oq_ba6cc275 {a0 a1 : Int} (h0 : 0 ≤ a0) : 0 ≤ (a0 + (0 * a1)) := by omega
theorem oq_a7ab7dd1 {a0 a1 a2 : Int} (h0 : a0 ≤ (16000 * a1)) : (a0 + (0 * a2)) ≤ (16000 * (a1 + 1)) := by omega
theorem oq_ea93747b {a0 a1 a2 : Int} (h0 : a0 ≤ (3200 * a1)) : (a0 + (0 * a2)) ≤ (3200 * (a1 + 1)) := by omega
theorem oq_75e30758 {a0 a1 a2 : Int} (h0 : a0 ≤ (6400 * a1)) (h1 : a1 ≤ a2) (h2 : a2 ≤ 66) : a0 ≤ 2147483647 := by omega
theorem oq_e019f022 {a0 a1 : Int} (h0 : a0 ≤ (6400 * a1)) : a0 ≤ (6400 * (a1 + 1)) := by omega
theorem oq_40793e9a {a0 : Int} (h0 : a0 = 0) : a0 ≤ (6400 * 0) := by omega
/-! Two streams: where they meet without going alike -/
theorem jz_and {x : Int64} : (0 : Int64) &&& x = 0 := Classical.byContradiction (fun q => by
  obtain ⟨i, _, h⟩ := jb_ne.mp q
  exact jb_z (jb_a.mp h).1)
theorem jz_or {x y : Int64} (h : x ||| y = 0) : x = 0 ∧ y = 0 := ⟨Classical.byContradiction (fun q => by
  obtain ⟨i, hi, b⟩ := jb_ne.mp q
  exact jb_ne.mpr ⟨i, hi, jb_or.mpr (Or.inl b)⟩ h), Classical.byContradiction (fun q => by
  obtain ⟨i, hi, b⟩ := jb_ne.mp q
  exact jb_ne.mpr ⟨i, hi, jb_or.mpr (Or.inr b)⟩ h)⟩
theorem jb_1s {j : Nat} (hj : j < 64) : bJ (lN 18446744073709551615) j := by
  have e : (lN 18446744073709551615).toBitVec = BitVec.allOnes 64 := by decide +kernel
  unfold bJ
  rw [e, BitVec.getLsbD_allOnes]
  exact decide_eq_true hj
theorem jb_not {x : Int64} {j : Nat} (hj : j < 64) : bJ (x ^^^ lN 18446744073709551615) j ↔ ¬ bJ x j := by
  rw [jb_xr]
  have o := jb_1s hj
  exact ⟨fun q h => q ⟨fun _ => o, fun _ => h⟩, fun q h => q (h.mpr o)⟩
/-- what meetsOf works out: the cells of both, less those where both go alike -/
def mtF (s : PS) (x y z : Int) : Nat → Int64
  | 0 => gD s 3 (x * 2 + z).toNat &&& gD s 3 (y * 2 + z).toNat
  | g + 1 => mtF s x y z g &&& ((gD s 4 ((x * 7 + (g : Int)) * 2 + z).toNat &&& gD s 4 ((y * 7 + (g : Int)) * 2 + z).toNat) ^^^ lN 18446744073709551615)
theorem mt_up {s t : PS} {x y z c : Int} {u : Int64} (hq : u = mtF s x y z c.toNat) (h : ∀ j, gD t 4 j = gD s 4 j) (c0 : 0 ≤ c) : u &&& ((gD t 4 ((x * 7 + c) * 2 + z).toNat &&& gD t 4 ((y * 7 + c) * 2 + z).toNat) ^^^ lN 18446744073709551615) = mtF s x y z (c + 1).toNat := by
  rw [show (c + 1).toNat = c.toNat + 1 by first | exact oq_c30340c4 c0 | omega]
  show _ = mtF s x y z c.toNat &&& ((gD s 4 ((x * 7 + ((c.toNat : Nat) : Int)) * 2 + z).toNat &&& gD s 4 ((y * 7 + ((c.toNat : Nat) : Int)) * 2 + z).toNat) ^^^ lN 18446744073709551615)
  rw [← hq, h, h, show ((c.toNat : Nat) : Int) = c by first | exact oq_94c0d625 c0 | omega]
theorem mt_z {s : PS} {x y z : Int} {g : Nat} (h : mtF s x y z g = 0) : ∀ n : Nat, mtF s x y z (g + n) = 0
  | 0 => h
  | n + 1 => by
    show mtF s x y z (g + n) &&& _ = 0
    rw [mt_z h n]; exact jz_and
theorem mt_out {s : PS} {x y z c : Int} {u : Int64} (hq : u = mtF s x y z c.toNat) (hu : u = 0) (h0 : 0 ≤ c) (h1 : c ≤ 7) : u = mtF s x y z 7 := by
  have h := mt_z (hq.symm.trans hu) (7 - c.toNat)
  rw [show c.toNat + (7 - c.toNat) = 7 by first | exact oq_d34f0741 h1 | omega] at h
  rw [hu, h]
theorem mt_c {s t : PS} {x y z : Int} (h1 : ∀ j, gD t 3 j = gD s 3 j) (h2 : ∀ j, gD t 4 j = gD s 4 j) : ∀ g : Nat, mtF t x y z g = mtF s x y z g
  | 0 => by show gD t 3 _ &&& gD t 3 _ = gD s 3 _ &&& gD s 3 _; rw [h1, h1]
  | g + 1 => by
    show mtF t x y z g &&& ((gD t 4 _ &&& gD t 4 _) ^^^ _) = mtF s x y z g &&& ((gD s 4 _ &&& gD s 4 _) ^^^ _)
    rw [mt_c h1 h2 g, h2, h2]
theorem mt_b {s : PS} {x y z : Int} {j : Nat} (hj : j < 64) : ∀ g : Nat, bJ (mtF s x y z g) j ↔ (bJ (gD s 3 (x * 2 + z).toNat) j ∧ bJ (gD s 3 (y * 2 + z).toNat) j) ∧ ∀ h : Nat, h < g → ¬ (bJ (gD s 4 ((x * 7 + (h : Int)) * 2 + z).toNat) j ∧ bJ (gD s 4 ((y * 7 + (h : Int)) * 2 + z).toNat) j)
  | 0 => by
    show bJ (gD s 3 (x * 2 + z).toNat &&& gD s 3 (y * 2 + z).toNat) j ↔ _
    rw [jb_a]
    exact ⟨fun q => ⟨q, fun h hh => absurd hh (by first | exact oq_1f4bc0d3 | omega)⟩, fun q => q.1⟩
  | g + 1 => by
    show bJ (mtF s x y z g &&& ((gD s 4 ((x * 7 + (g : Int)) * 2 + z).toNat &&& gD s 4 ((y * 7 + (g : Int)) * 2 + z).toNat) ^^^ lN 18446744073709551615)) j ↔ _
    rw [jb_a, mt_b hj g, jb_not hj, jb_a]
    constructor
    · rintro ⟨⟨a, b⟩, c⟩
      refine ⟨a, fun h hh => ?_⟩
      by_cases e : h = g
      · rw [e]; exact c
      · exact b h (by first | exact oq_dad8d58a e hh | omega)
    · rintro ⟨a, b⟩
      exact ⟨⟨a, fun h hh => b h (by first | exact oq_9165f1af hh | omega)⟩, b g (by first | exact oq_626cdfd6 | omega)⟩
/-- the way of stream x, as the class keeps it -/
abbrev fwC (s : PS) (x : Nat) : Nat → Int := fun k => iC s 1 (24 * x + k)
abbrev WYC (s : PS) : WyS := (fwC s, fun x => iC s 2 x)
theorem mt_air {s : PS} (h : AIR s) {a b : Nat} (ha : (a : Int) < iI s 9) (hb : (b : Int) < iI s 9) {z j : Nat} (hz : z < 2) (hj : j < 64) : bJ (mtF s a b z 7) j ↔ ∃ k : Nat, (k : Int) < iC s 2 a ∧ fwC s a k = ((64 * z + j : Nat) : Int) ∧ mtP (fwC s a) (fwC s b) (iC s 2 a) (iC s 2 b) k := by
  have ra := h.2 a ha
  have rb := h.2 b hb
  obtain ⟨wa, ma, ga, -⟩ := ra
  obtain ⟨wb, mb, gb, -⟩ := rb
  have ma' := ma (64 * z + j) (by first | exact oq_ed418a60 hj hz | omega)
  have mb' := mb (64 * z + j) (by first | exact oq_ed418a60 hj hz | omega)
  rw [show (64 * z + j) / 64 = z by first | exact oq_027073b9 hj | omega, show (64 * z + j) % 64 = j by first | exact oq_66b58032 hj hz | omega] at ma' mb'
  rw [mt_b hj 7, show ((a : Int) * 2 + (z : Int)).toNat = 2 * a + z by first | exact oq_cdc142b7 | omega, show ((b : Int) * 2 + (z : Int)).toNat = 2 * b + z by first | exact oq_cdc142b7 | omega, ma', mb']
  have gg : ∀ g : Nat, g < 7 → (bJ (gD s 4 (((a : Int) * 7 + (g : Int)) * 2 + (z : Int)).toNat) j ↔ ∃ k : Nat, (k : Int) < iC s 2 a ∧ fwC s a k = ((64 * z + j : Nat) : Int) ∧ goK (fwC s a) (iC s 2 a) k = (g : Int)) := by
    intro g hg
    have := ga g (64 * z + j) hg (by first | exact oq_ed418a60 hj hz | omega)
    rw [show (64 * z + j) / 64 = z by first | exact oq_027073b9 hj | omega, show (64 * z + j) % 64 = j by first | exact oq_66b58032 hj hz | omega, show 14 * a + 2 * g + z = (((a : Int) * 7 + (g : Int)) * 2 + (z : Int)).toNat by first | exact oq_45c9cdfc | omega] at this
    exact this
  have gh : ∀ g : Nat, g < 7 → (bJ (gD s 4 (((b : Int) * 7 + (g : Int)) * 2 + (z : Int)).toNat) j ↔ ∃ k : Nat, (k : Int) < iC s 2 b ∧ fwC s b k = ((64 * z + j : Nat) : Int) ∧ goK (fwC s b) (iC s 2 b) k = (g : Int)) := by
    intro g hg
    have := gb g (64 * z + j) hg (by first | exact oq_ed418a60 hj hz | omega)
    rw [show (64 * z + j) / 64 = z by first | exact oq_027073b9 hj | omega, show (64 * z + j) % 64 = j by first | exact oq_66b58032 hj hz | omega, show 14 * b + 2 * g + z = (((b : Int) * 7 + (g : Int)) * 2 + (z : Int)).toNat by first | exact oq_45c9cdfc | omega] at this
    exact this
  constructor
  · rintro ⟨⟨⟨k, k1, k2⟩, ⟨l, l1, l2⟩⟩, no⟩
    refine ⟨k, k1, k2, l, l1, ?_, fun q => ?_⟩
    · show fwC s b l = fwC s a k
      exact l2.trans k2.symm
    · have r := @gok_r (fwC s a) (iC s 2 a) k
      refine no (goK (fwC s a) (iC s 2 a) k).toNat (by first | exact oq_de29a9d3 r.2 | omega) ⟨(gg _ (by first | exact oq_de29a9d3 r.2 | omega)).mpr ⟨k, k1, k2, by first | exact oq_06748ff4 r.1 | omega⟩, (gh _ (by first | exact oq_de29a9d3 r.2 | omega)).mpr ⟨l, l1, l2, by first | exact oq_d1d635bc r.1 q | omega⟩⟩
  · rintro ⟨k, k1, k2, l, l1, l2, l3⟩
    have l4 : fwC s b l = ((64 * z + j : Nat) : Int) := l2.trans k2
    refine ⟨⟨⟨k, k1, k2⟩, ⟨l, l1, l4⟩⟩, fun g hg q => ?_⟩
    obtain ⟨q1, q2⟩ := q
    obtain ⟨k', e1, e2, e3⟩ := (gg g hg).mp q1
    obtain ⟨l', f1, f2, f3⟩ := (gh g hg).mp q2
    have ek := wa.2.2.2 k' k e1 k1 (e2.trans k2.symm)
    have el := wb.2.2.2 l' l f1 l1 (f2.trans l4.symm)
    subst ek el
    exact l3 (e3.trans f3.symm)
/-- in how many cells of a set two streams meet so -/
theorem mt_cnt {s : PS} (h : AIR s) {a b : Nat} (ha : (a : Int) < iI s 9) (hb : (b : Int) < iI s 9) {lo hi : Int64} : bnN (mtF s a b 0 7 &&& lo) + bnN (mtF s a b 1 7 &&& hi) = mtW (inL lo hi) (fwC s a) (fwC s b) (iC s 2 a) (iC s 2 b) := by
  have wa := (h.2 a ha).1
  have c := cnt_inj (g := fun k => (fwC s a k).toNat) (M := 128) (X := fun i => inL lo hi (i : Int) ∧ ∃ k : Nat, (k : Int) < iC s 2 a ∧ fwC s a k = (i : Int) ∧ mtP (fwC s a) (fwC s b) (iC s 2 a) (iC s 2 b) k) (n := (iC s 2 a).toNat) (fun k hk => by
    have r := wa.2.1 k (by first | exact oq_cc24202f hk | omega)
    replace r : 0 ≤ iC s 1 (24 * a + k) ∧ iC s 1 (24 * a + k) ≤ 127 := r
    show (iC s 1 (24 * a + k)).toNat < 128
    omega) (fun k l hk hl e => by
    have r1 := wa.2.1 k (by first | exact oq_cc24202f hk | omega)
    have r2 := wa.2.1 l (by first | exact oq_bc8b14c0 hl hk | omega)
    replace r1 : 0 ≤ iC s 1 (24 * a + k) ∧ iC s 1 (24 * a + k) ≤ 127 := r1
    replace r2 : 0 ≤ iC s 1 (24 * a + l) ∧ iC s 1 (24 * a + l) ≤ 127 := r2
    replace e : (iC s 1 (24 * a + k)).toNat = (iC s 1 (24 * a + l)).toNat := e
    exact wa.2.2.2 k l (by first | exact oq_cc24202f hk | omega) (by first | exact oq_bc8b14c0 hl hk | omega) (by show iC s 1 (24 * a + k) = iC s 1 (24 * a + l); omega))
  have e2 : sm (fun k => i01 (inL lo hi (((fwC s a k).toNat : Nat) : Int) ∧ ∃ k' : Nat, (k' : Int) < iC s 2 a ∧ fwC s a k' = (((fwC s a k).toNat : Nat) : Int) ∧ mtP (fwC s a) (fwC s b) (iC s 2 a) (iC s 2 b) k')) (iC s 2 a).toNat = mtW (inL lo hi) (fwC s a) (fwC s b) (iC s 2 a) (iC s 2 b) := by
    refine sm_eq (fun k hk => i01_c ?_)
    have r1 := wa.2.1 k (by first | exact oq_cc24202f hk | omega)
    replace r1 : 0 ≤ iC s 1 (24 * a + k) ∧ iC s 1 (24 * a + k) ≤ 127 := r1
    have e : (((fwC s a k).toNat : Nat) : Int) = fwC s a k := by show ((iC s 1 (24 * a + k)).toNat : Int) = iC s 1 (24 * a + k); omega
    rw [e]
    constructor
    · rintro ⟨q1, k', q2, q3, q4⟩
      have ek := wa.2.2.2 k' k q2 (by first | exact oq_9a3c261c q2 hk | omega) q3
      rw [ek] at q4
      exact ⟨q1, q4⟩
    · rintro ⟨q1, q2⟩
      exact ⟨q1, k, by first | exact oq_cc24202f hk | omega, rfl, q2⟩
  rw [← e2]
  refine Eq.trans ?_ c
  rw [show (128 : Nat) = 64 + 64 from rfl, sm_cat]
  have p0 : bnN (mtF s a b 0 7 &&& lo) = sm (fun i => i01 ((∃ k, k < (iC s 2 a).toNat ∧ (fwC s a k).toNat = i) ∧ inL lo hi (i : Int) ∧ ∃ k : Nat, (k : Int) < iC s 2 a ∧ fwC s a k = (i : Int) ∧ mtP (fwC s a) (fwC s b) (iC s 2 a) (iC s 2 b) k)) 64 := by
    refine sm_eq (fun j hj => i01_c ?_)
    have m := mt_air h ha hb (z := 0) (j := j) (by first | exact oq_1ee0fd4c | omega) hj
    rw [show 64 * 0 + j = j by first | exact oq_f3c40dc3 | omega] at m
    rw [jb_a]
    constructor
    · rintro ⟨q1, q2⟩
      obtain ⟨k, k1, k2, k3⟩ := m.mp q1
      exact ⟨⟨k, by first | exact oq_bbbf5d6d k1 | omega, by first | exact oq_c26122b5 k2 | omega⟩, Or.inl ⟨by first | exact oq_a3593015 | omega, by first | exact oq_405b1b8c hj | omega, by rw [show ((j : Int)).toNat = j by first | exact oq_3d866207 | omega]; exact q2⟩, k, k1, k2, k3⟩
    · rintro ⟨-, q2, q3⟩
      refine ⟨m.mpr q3, ?_⟩
      rcases q2 with ⟨-, -, q⟩ | ⟨q, -, -⟩
      · rw [show ((j : Int)).toNat = j by first | exact oq_3d866207 | omega] at q; exact q
      · omega
  have p1 : bnN (mtF s a b 1 7 &&& hi) = sm (fun j => (fun i : Nat => i01 ((∃ k, k < (iC s 2 a).toNat ∧ (fwC s a k).toNat = i) ∧ inL lo hi (i : Int) ∧ ∃ k : Nat, (k : Int) < iC s 2 a ∧ fwC s a k = (i : Int) ∧ mtP (fwC s a) (fwC s b) (iC s 2 a) (iC s 2 b) k)) (64 + j)) 64 := by
    refine sm_eq (fun j hj => i01_c ?_)
    have m := mt_air h ha hb (z := 1) (j := j) (by first | exact oq_0a9164f0 | omega) hj
    rw [show 64 * 1 + j = 64 + j by first | exact oq_47f04fc6 | omega] at m
    rw [jb_a]
    constructor
    · rintro ⟨q1, q2⟩
      obtain ⟨k, k1, k2, k3⟩ := m.mp q1
      exact ⟨⟨k, by first | exact oq_bbbf5d6d k1 | omega, by first | exact oq_0dbfae1d k2 | omega⟩, Or.inr ⟨by first | exact oq_1a7bd503 | omega, by first | exact oq_0a8f0ae8 hj | omega, by rw [show (((64 + j : Nat) : Int) - 64).toNat = j by first | exact oq_d9c5a060 | omega]; exact q2⟩, k, k1, k2, k3⟩
    · rintro ⟨-, q2, q3⟩
      refine ⟨m.mpr q3, ?_⟩
      rcases q2 with ⟨-, q, -⟩ | ⟨-, -, q⟩
      · omega
      · rw [show (((64 + j : Nat) : Int) - 64).toNat = j by first | exact oq_d9c5a060 | omega] at q; exact q
  rw [p0, p1]
/-! The couples that pairUp writes down, told by any sum over them -/
def pr12 : Nat → Int := sm (fun a => 11 - (a : Int))
theorem pr_bd : ∀ a : Nat, a < 12 → pr12 a ≤ 55 + (a : Int) := by decide +kernel
theorem pr_up {a : Int} (h : 0 ≤ a) : pr12 (a + 1).toNat = pr12 a.toNat + (11 - a) := by
  rw [show (a + 1).toNat = a.toNat + 1 by first | exact oq_c30340c4 h | omega]
  show pr12 a.toNat + (11 - ((a.toNat : Nat) : Int)) = _
  omega
abbrev CpH : Type := Nat → Nat → Int64 → Int64 → Int
def CPH (s : PS) (H : CpH) (a : Nat) : Nat → Int := fun b => if a < b then H a b (mtF s a b 0 7) (mtF s a b 1 7) else 0
def CPS (t : PS) (H : CpH) (n : Nat) : Int := sm (fun c => H (iC t 6 c / 12).toNat (iC t 6 c % 12).toNat (gD t 7 (2 * c)) (gD t 7 (2 * c + 1))) n
def CPO (n a : Int) (s t : PS) : Prop := (0 ≤ iI t 10 ∧ iI t 10 ≤ pr12 a.toNat) ∧ ∀ H : CpH, (∀ a b, H a b 0 0 = 0) → CPS t H (iI t 10).toNat = sm (fun a' => sm (CPH s H a') n.toNat) a.toNat
def CPP (n a b : Int) (s t : PS) : Prop := (0 ≤ iI t 10 ∧ iI t 10 ≤ pr12 a.toNat + (b - a - 1)) ∧ ∀ H : CpH, (∀ a b, H a b 0 0 = 0) → CPS t H (iI t 10).toNat = sm (fun a' => sm (CPH s H a') n.toNat) a.toNat + sm (CPH s H a.toNat) b.toNat
theorem cpo_0 {n : Int} {s t : PS} (h : iI t 10 = 0) : CPO n 0 s t := by
  refine ⟨by rw [h]; decide, fun H _ => ?_⟩
  rw [h]; rfl
theorem cpp_0 {n a : Int} {s t : PS} (h : CPO n a s t) (a0 : 0 ≤ a) : CPP n a (a + 1) s t := by
  refine ⟨⟨h.1.1, by have := h.1.2; omega⟩, fun H hH => ?_⟩
  rw [h.2 H hH, sm_0 (f := CPH s H a.toNat) (fun j hj => if_neg (by first | exact oq_9312e54f hj a0 | omega)), Int.add_zero]
theorem cpp_o {n a b : Int} {s t : PS} (h : CPP n a b s t) (a0 : 0 ≤ a) (hb : b = n) (hn : n ≤ 12) : CPO n (a + 1) s t := by
  subst hb
  refine ⟨⟨h.1.1, by have := h.1.2; rw [pr_up a0]; omega⟩, fun H hH => ?_⟩
  rw [h.2 H hH, show (a + 1).toNat = a.toNat + 1 by first | exact oq_c30340c4 a0 | omega]
  rfl
theorem cph_at {s : PS} {H : CpH} {a b : Int} (a0 : 0 ≤ a) (ab : a < b) : CPH s H a.toNat b.toNat = H a.toNat b.toNat (mtF s a b 0 7) (mtF s a b 1 7) := by
  show (if a.toNat < b.toNat then H a.toNat b.toNat (mtF s ((a.toNat : Nat) : Int) ((b.toNat : Nat) : Int) 0 7) (mtF s ((a.toNat : Nat) : Int) ((b.toNat : Nat) : Int) 1 7) else 0) = _
  rw [if_pos (by first | exact oq_d7fadd27 ab a0 | omega), show ((a.toNat : Nat) : Int) = a by first | exact oq_94c0d625 a0 | omega, show ((b.toNat : Nat) : Int) = b by first | exact oq_e381c3c3 ab a0 | omega]
theorem cpp_n {n a b : Int} {s t : PS} {lo hi : Int64} (h : CPP n a b s t) (a0 : 0 ≤ a) (ab : a < b) (e0 : lo = mtF s a b 0 7) (e1 : hi = mtF s a b 1 7) (hz : lo ||| hi = 0) : CPP n a (b + 1) s t := by
  refine ⟨⟨h.1.1, by have := h.1.2; omega⟩, fun H hH => ?_⟩
  have z := jz_or hz
  rw [h.2 H hH, show (b + 1).toNat = b.toNat + 1 by first | exact oq_ee487973 ab a0 | omega]
  show _ = _ + (sm (CPH s H a.toNat) b.toNat + CPH s H a.toNat b.toNat)
  rw [cph_at a0 ab, ← e0, ← e1, z.1, z.2, hH, Int.add_zero]
theorem cpp_y {n a b : Int} {s t t1 t2 t3 t4 : PS} {lo hi : Int64} (h : CPP n a b s t) (a0 : 0 ≤ a) (ab : a < b) (b1 : b ≤ 11) (e0 : lo = mtF s a b 0 7) (e1 : hi = mtF s a b 1 7) (h1 : t1 = uC t 6 (iI t 10).toNat (Int32.ofInt (a * 12 + b))) (h2 : t2 = uD t1 7 (iI t1 10 * 2).toNat lo) (h3 : t3 = uD t2 7 (iI t2 10 * 2 + 1).toNat hi) (h4 : t4 = uI t3 10 (Int32.ofInt (iI t3 10 + 1))) : CPP n a (b + 1) s t4 := by
  have hN := h.1
  have pb := pr_bd a.toNat (by first | exact oq_ae306297 b1 ab | omega)
  have q1 : iI t1 10 = iI t 10 := by subst h1; rfl
  have q2 : iI t2 10 = iI t 10 := by subst h1 h2; rfl
  have q3 : iI t3 10 = iI t 10 := by subst h1 h2 h3; rfl
  have q4 : iI t4 10 = iI t 10 + 1 := by
    rw [h4, q3]
    exact iI_u ⟨by first | exact oq_74de1e16 hN.1 | omega, by first | exact oq_70bf3b5d pb hN.2 b1 a0 | omega⟩
  obtain ⟨N, hNN⟩ : ∃ N : Nat, N = (iI t 10).toNat := ⟨_, rfl⟩
  have h1' : t1 = uC t 6 N (Int32.ofInt (a * 12 + b)) := by rw [hNN]; exact h1
  have h2' : t2 = uD t1 7 (2 * N) lo := by rw [h2, show (iI t1 10 * 2).toNat = 2 * N by first | exact oq_d4c87826 hNN q1 | omega]
  have h3' : t3 = uD t2 7 (2 * N + 1) hi := by rw [h3, show (iI t2 10 * 2 + 1).toNat = 2 * N + 1 by first | exact oq_c389aa2b hNN q2 hN.1 | omega]
  have ct : ∀ c, iC t4 6 c = iC t1 6 c := by intro c; subst h4 h3' h2'; rfl
  have c1 : ∀ c, c ≠ N → iC t4 6 c = iC t 6 c := by
    intro c hc
    rw [ct, h1']; exact iC_n hc
  have c2 : iC t4 6 N = a * 12 + b := by
    rw [ct, h1']; exact iC_u ⟨by first | exact oq_a4dde2ab ab a0 | omega, by first | exact oq_692a027b b1 ab | omega⟩
  have dt : ∀ j, gD t4 7 j = gD t3 7 j := by intro j; subst h4; rfl
  have dr : ∀ j, gD t1 7 j = gD t 7 j := by intro j; subst h1'; rfl
  have d1 : gD t4 7 (2 * N + 1) = hi := by rw [dt, h3']; exact gD_u
  have d2 : gD t4 7 (2 * N) = lo := by rw [dt, h3', gD_n (by first | exact oq_6ed16e4a | omega), h2']; exact gD_u
  have d3 : ∀ j, j < 2 * N → gD t4 7 j = gD t 7 j := by
    intro j hj
    rw [dt, h3', gD_n (by first | exact oq_abfbec0a hj | omega), h2', gD_n (by first | exact oq_d19249f6 hj | omega), dr]
  refine ⟨by rw [q4]; omega, fun H hH => ?_⟩
  have old := h.2 H hH
  rw [← hNN] at old
  rw [q4, show (iI t 10 + 1).toNat = N + 1 by first | exact oq_33fd9894 hNN hN.1 | omega]
  have f1 : CPS t4 H N = CPS t H N := sm_eq (fun c hc => by
    rw [c1 c (by first | exact oq_456eaa4f hc | omega), d3 _ (by first | exact oq_3b143464 hc | omega), d3 _ (by first | exact oq_1870fb98 hc | omega)])
  show CPS t4 H N + H (iC t4 6 N / 12).toNat (iC t4 6 N % 12).toNat (gD t4 7 (2 * N)) (gD t4 7 (2 * N + 1)) = _
  rw [f1, c2, d1, d2, old, show ((a * 12 + b) / 12).toNat = a.toNat by first | exact oq_0b7274ac b1 ab a0 | omega, show ((a * 12 + b) % 12).toNat = b.toNat by omega, show (b + 1).toNat = b.toNat + 1 by first | exact oq_ee487973 ab a0 | omega]
  show _ = _ + (sm (CPH s H a.toNat) b.toNat + CPH s H a.toNat b.toNat)
  rw [cph_at a0 ab, ← e0, ← e1, Int.add_assoc]
/-- the couples of the class: those of its masks -/
def CPL (s : PS) : Prop := (0 ≤ iI s 10 ∧ iI s 10 ≤ 66) ∧ ∀ H : CpH, (∀ a b, H a b 0 0 = 0) → CPS s H (iI s 10).toNat = sm (fun a => sm (CPH s H a) (iI s 9).toNat) (iI s 9).toNat
theorem CPL_fm {L M : List Nat} {s t : PS} (F : Fm L M s t) (h : (9 ∉ L ∧ 10 ∉ L) ∧ 6 ∉ M ∧ 7 + 1000 ∉ M ∧ 3 + 1000 ∉ M ∧ 4 + 1000 ∉ M) (r : CPL s) : CPL t := by
  have e1 : iI t 9 = iI s 9 := fm_i F h.1.1
  have e2 : iI t 10 = iI s 10 := fm_i F h.1.2
  have e3 : ∀ j, iC t 6 j = iC s 6 j := fun j => fm_c F h.2.1
  have e4 : ∀ j, gD t 7 j = gD s 7 j := fun j => fm_dd F h.2.2.1
  have e5 : ∀ x y z : Int, mtF t x y z 7 = mtF s x y z 7 := fun x y z => mt_c (fun j => fm_dd F h.2.2.2.1) (fun j => fm_dd F h.2.2.2.2) 7
  refine ⟨by rw [e2]; exact r.1, fun H hH => ?_⟩
  have z := r.2 H hH
  unfold CPS CPH at z ⊢
  simp only [e1, e2, e3, e4, e5]
  exact z
theorem cpl_of {n : Int} {s t : PS} (h : CPO n n s t) (hn : n = iI t 9) (h0 : 0 ≤ n ∧ n ≤ 12) (h1 : ∀ j, gD t 3 j = gD s 3 j) (h2 : ∀ j, gD t 4 j = gD s 4 j) : CPL t := by
  have e5 : ∀ x y z : Int, mtF t x y z 7 = mtF s x y z 7 := fun x y z => mt_c h1 h2 7
  have pb : pr12 n.toNat ≤ 66 := by
    by_cases c : n = 12
    · rw [c]; decide +kernel
    · have := pr_bd n.toNat (by first | exact oq_7fd980b8 c h0.2 | omega); omega
  refine ⟨⟨h.1.1, by have := h.1.2; omega⟩, fun H hH => ?_⟩
  rw [h.2 H hH, ← hn]
  unfold CPH
  simp only [e5]
/-! The ear: what listen writes down -/
/-- the steps of a stream, kind by kind, against a set -/
abbrev fsT (s : PS) (x : Int) (κ : Nat) : Int64 := gD s 5 (x * 5 + (κ : Int)).toNat
noncomputable def fsO (s : PS) (x : Int) (lo hi : Int64) (n : Nat) : Int := sm (fun κ => bnN (fsT s x κ &&& (hrK κ lo hi ^^^ thK κ lo hi))) n
noncomputable def fsI (s : PS) (x : Int) (lo hi : Int64) (n : Nat) : Int := sm (fun κ => bnN (fsT s x κ &&& hrK κ lo hi &&& thK κ lo hi)) n
noncomputable def fsC (s : PS) (x : Int) (lo hi : Int64) : Int := bnN (fsT s x 4 &&& hrK 4 lo hi &&& thK 4 lo hi)
theorem fso_r {s : PS} {x : Int} {lo hi : Int64} {n : Nat} : 0 ≤ fsO s x lo hi n ∧ fsO s x lo hi n ≤ (n : Int) * 64 := ⟨sm_nn (fun _ _ => (bnN_r _).1), sm_bd (fun _ _ => (bnN_r _).2)⟩
theorem fsi_r {s : PS} {x : Int} {lo hi : Int64} {n : Nat} : 0 ≤ fsI s x lo hi n ∧ fsI s x lo hi n ≤ (n : Int) * 64 := ⟨sm_nn (fun _ _ => (bnN_r _).1), sm_bd (fun _ _ => (bnN_r _).2)⟩
theorem fsc_r {s : PS} {x : Int} {lo hi : Int64} : 0 ≤ fsC s x lo hi ∧ fsC s x lo hi ≤ 64 := bnN_r _
theorem fs_c {s t : PS} {x : Int} {lo hi : Int64} (h : ∀ j, gD t 5 j = gD s 5 j) (n : Nat) : fsO t x lo hi n = fsO s x lo hi n ∧ fsI t x lo hi n = fsI s x lo hi n ∧ fsC t x lo hi = fsC s x lo hi := by
  refine ⟨sm_eq (fun κ _ => by simp only [fsT, h]), sm_eq (fun κ _ => by simp only [fsT, h]), by unfold fsC; simp only [fsT, h]⟩
theorem bc_z : bnN (0 : Int64) = 0 := sm_0 (fun j _ => i01_f (fun q => jb_z q))
def FSQ (s : PS) (x : Int) (lo hi : Int64) (c ov wi cl : Int) : Prop := ov = fsO s x lo hi c.toNat ∧ wi = fsI s x lo hi c.toNat ∧ cl = if c ≤ 4 then 0 else fsC s x lo hi
theorem fsq_0 {s : PS} {x : Int} {lo hi : Int64} : FSQ s x lo hi 0 0 0 0 := ⟨rfl, rfl, rfl⟩
theorem fsq_y {s t : PS} {x c ov wi cl e1 e2 cl' : Int} {lo hi here there : Int64} (h : FSQ s x lo hi c ov wi cl) (hs : ∀ j, gD t 5 j = gD s 5 j) (c0 : 0 ≤ c) (c4 : c ≤ 4) (hh : here = hrK c.toNat lo hi) (ht : there = thK c.toNat lo hi) (b1 : e1 = bnN (gD t 5 (x * 5 + c).toNat &&& here &&& there)) (b2 : e2 = bnN (gD t 5 (x * 5 + c).toNat &&& (here ^^^ there))) (hc : (c = 4 ∧ cl' = e1) ∨ (c ≠ 4 ∧ cl' = 0)) : FSQ s x lo hi (c + 1) (ov + e2) (wi + e1) cl' := by
  obtain ⟨h1, h2, h3⟩ := h
  rw [hs] at b1 b2
  have ec : (((c.toNat : Nat) : Int)) = c := by first | exact oq_94c0d625 c0 | omega
  subst hh ht
  unfold FSQ
  rw [show (c + 1).toNat = c.toNat + 1 by first | exact oq_225ea673 ec c0 | omega]
  refine ⟨?_, ?_, ?_⟩
  · show _ = fsO s x lo hi c.toNat + bnN (gD s 5 (x * 5 + ((c.toNat : Nat) : Int)).toNat &&& (hrK c.toNat lo hi ^^^ thK c.toNat lo hi))
    rw [ec, ← b2, h1]
  · show _ = fsI s x lo hi c.toNat + bnN (gD s 5 (x * 5 + ((c.toNat : Nat) : Int)).toNat &&& hrK c.toNat lo hi &&& thK c.toNat lo hi)
    rw [ec, ← b1, h2]
  · rcases hc with ⟨q1, q2⟩ | ⟨q1, q2⟩
    · subst q1
      rw [if_neg (by decide), q2, b1]
      rfl
    · rw [if_pos (by first | exact oq_3b89ccc1 q1 c4 | omega)]; exact q2
theorem fsq_z {s t : PS} {x c ov wi cl : Int} {lo hi : Int64} (h : FSQ s x lo hi c ov wi cl) (hs : ∀ j, gD t 5 j = gD s 5 j) (c0 : 0 ≤ c) (c4 : c ≤ 4) (hz : gD t 5 (x * 5 + c).toNat = 0) : FSQ s x lo hi (c + 1) ov wi cl := by
  have e3 := h.2.2
  rw [if_pos c4] at e3
  have r := fsq_y (e1 := 0) (e2 := 0) (cl' := 0) h hs c0 c4 rfl rfl (by rw [hz, jz_and, show (0 : Int64) &&& thK c.toNat lo hi = 0 from jz_and]; exact bc_z.symm) (by rw [hz, jz_and]; exact bc_z.symm) (by first | exact oq_93cdc1b4 c4 | omega)
  rw [Int.add_zero, Int.add_zero] at r
  rw [e3]; exact r
/-- behind followSteps -/
def FSR (OV IN CL VI : Nat) (x : Int) (lo hi : Int64) (s t : PS) : Prop := (∀ j, iC t OV j = if j = (iI s VI).toNat then fsO s x lo hi 5 else iC s OV j) ∧ (∀ j, iC t IN j = if j = (iI s VI).toNat then fsI s x lo hi 5 else iC s IN j) ∧ ∀ j, iC t CL j = if j = (iI s VI).toNat then fsC s x lo hi else iC s CL j
theorem fsr_of {OV IN CL VI : Nat} {x ov wi cl c : Int} {lo hi : Int64} {s t t1 t2 t3 : PS} (h : FSQ s x lo hi c ov wi cl) (hc : c = 5) (g1 : SAM OV s t) (g2 : SAM IN s t) (g3 : SAM CL s t) (hv : iI t VI = iI s VI) (d1 : OV ≠ IN) (d2 : OV ≠ CL) (d3 : IN ≠ CL) (h1 : t1 = uC t OV (iI t VI).toNat (Int32.ofInt ov)) (h2 : t2 = uC t1 IN (iI t1 VI).toNat (Int32.ofInt wi)) (h3 : t3 = uC t2 CL (iI t2 VI).toNat (Int32.ofInt cl)) : FSR OV IN CL VI x lo hi s t3 := by
  subst hc
  obtain ⟨e1, e2, e3⟩ := h
  rw [if_neg (by decide)] at e3
  have r1 := @fso_r s x lo hi 5
  have r2 := @fsi_r s x lo hi 5
  have r3 := @fsc_r s x lo hi
  have v1 : iI t1 VI = iI s VI := by rw [← hv]; subst h1; rfl
  have v2 : iI t2 VI = iI s VI := by rw [← v1]; subst h2; rfl
  rw [hv] at h1
  rw [v1] at h2
  rw [v2] at h3
  unfold FSR
  generalize (iI s VI).toNat = n at h1 h2 h3 ⊢
  replace e1 : ov = fsO s x lo hi 5 := e1
  replace e2 : wi = fsI s x lo hi 5 := e2
  refine ⟨fun j => ?_, fun j => ?_, fun j => ?_⟩
  · rw [h3, iC_a d2, h2, iC_a d1, h1]
    by_cases z : j = n
    · rw [if_pos z, z, iC_u ⟨by first | exact oq_b3df2c6f e1 r1.1 | omega, by first | exact oq_8b6bb85b e1 r1.2 | omega⟩, e1]
    · rw [if_neg z, iC_n z]; exact g1 j
  · rw [h3, iC_a d3, h2]
    by_cases z : j = n
    · rw [if_pos z, z, iC_u ⟨by first | exact oq_b3df2c6f e2 r2.1 | omega, by first | exact oq_8b6bb85b e2 r2.2 | omega⟩, e2]
    · rw [if_neg z, iC_n z, h1, iC_a (fun q => d1 q.symm)]; exact g2 j
  · rw [h3]
    by_cases z : j = n
    · rw [if_pos z, z, iC_u ⟨by first | exact oq_f885fad9 r3.1 e3 | omega, by first | exact oq_6a7e65e7 r3.2 e3 | omega⟩, e3]
    · rw [if_neg z, iC_n z, h2, iC_a (fun q => d3 q.symm), h1, iC_a (fun q => d2 q.symm)]; exact g3 j
/-- the streams that come to a set -/
abbrev VsG : Type := Nat → Int → Int → Int → Int
noncomputable def VSG (s : PS) (G : VsG) (lo hi : Int64) : Nat → Int := fun x => if (gD s 3 ((x : Int) * 2).toNat &&& lo) ||| (gD s 3 ((x : Int) * 2 + 1).toNat &&& hi) = 0 then 0 else G x (fsO s x lo hi 5) (fsI s x lo hi 5) (fsC s x lo hi)
def VSS (VG OV IN CL : Nat) (t : PS) (G : VsG) (n : Nat) : Int := sm (fun i => G (iC t VG i).toNat (iC t OV i) (iC t IN i) (iC t CL i)) n
def VSQ (VG OV IN CL VI : Nat) (lo hi : Int64) (c : Int) (s t : PS) : Prop := (0 ≤ iI t VI ∧ iI t VI ≤ c) ∧ (∀ i : Nat, (i : Int) < iI t VI → (0 ≤ iC t OV i ∧ iC t OV i ≤ 320) ∧ (0 ≤ iC t IN i ∧ iC t IN i ≤ 320) ∧ 0 ≤ iC t CL i ∧ iC t CL i ≤ 64) ∧ ∀ G : VsG, VSS VG OV IN CL t G (iI t VI).toNat = sm (VSG s G lo hi) c.toNat
theorem vsq_0 {VG OV IN CL VI : Nat} {lo hi : Int64} {s t : PS} (h : iI t VI = 0) : VSQ VG OV IN CL VI lo hi 0 s t := by
  refine ⟨by first | exact And.intro (oq_0b35aa92 h) (oq_1af0b4f8 h) | omega, fun i hi => by first | exact And.intro (And.intro (oq_f47d4981 hi h) (oq_88f4553f hi h)) (And.intro (And.intro (oq_f47d4981 hi h) (oq_88f4553f hi h)) (And.intro (oq_f47d4981 hi h) (oq_5feb4f70 hi h))) | omega, fun G => ?_⟩
  rw [h]; rfl
theorem vsq_n {VG OV IN CL VI : Nat} {lo hi : Int64} {c : Int} {s t : PS} (h : VSQ VG OV IN CL VI lo hi c s t) (c0 : 0 ≤ c) (hm : ∀ j, gD t 3 j = gD s 3 j) (hz : (gD t 3 (c * 2).toNat &&& lo) ||| (gD t 3 (c * 2 + 1).toNat &&& hi) = 0) : VSQ VG OV IN CL VI lo hi (c + 1) s t := by
  refine ⟨by have := h.1; omega, h.2.1, fun G => ?_⟩
  rw [h.2.2 G, show (c + 1).toNat = c.toNat + 1 by first | exact oq_c30340c4 c0 | omega]
  show _ = sm (VSG s G lo hi) c.toNat + VSG s G lo hi c.toNat
  have e : VSG s G lo hi c.toNat = 0 := by
    refine if_pos ?_
    rw [show ((c.toNat : Nat) : Int) = c by first | exact oq_94c0d625 c0 | omega, ← hm, ← hm]; exact hz
  rw [e, Int.add_zero]
theorem vsq_y {VG OV IN CL VI : Nat} {lo hi : Int64} {c : Int} {s t t1 t2 t3 : PS} (h : VSQ VG OV IN CL VI lo hi c s t) (c0 : 0 ≤ c) (c1 : c ≤ 11) (hm : ∀ j, gD t 3 j = gD s 3 j) (hn : (gD t 3 (c * 2).toNat &&& lo) ||| (gD t 3 (c * 2 + 1).toNat &&& hi) ≠ 0) (hs : ∀ j, gD t1 5 j = gD s 5 j) (d1 : VG ≠ OV) (d2 : VG ≠ IN) (d3 : VG ≠ CL) (h1 : t1 = uC t VG (iI t VI).toNat (Int32.ofInt c)) (f2 : FSR OV IN CL VI c lo hi t1 t2) (g2 : SAM VG t1 t2) (v2 : iI t2 VI = iI t1 VI) (h3 : t3 = uI t2 VI (Int32.ofInt (iI t2 VI + 1))) : VSQ VG OV IN CL VI lo hi (c + 1) s t3 := by
  have v1 : iI t1 VI = iI t VI := by subst h1; rfl
  have q0 := h.1
  have v3 : iI t3 VI = iI t VI + 1 := by
    rw [h3, v2, v1]
    exact iI_u ⟨by first | exact oq_74de1e16 q0.1 | omega, by first | exact oq_66b77d0b q0.2 c1 | omega⟩
  obtain ⟨f1, f3, f4⟩ := f2
  rw [v1] at f1 f3 f4
  have ff := fs_c (x := c) (lo := lo) (hi := hi) hs 5
  rw [ff.1] at f1
  rw [ff.2.1] at f3
  rw [ff.2.2] at f4
  have t3c : ∀ a j, iC t3 a j = iC t2 a j := by intro a j; subst h3; rfl
  have a1 : ∀ j, iC t1 OV j = iC t OV j := by intro j; rw [h1]; exact iC_a (fun q => d1 q.symm)
  have a2 : ∀ j, iC t1 IN j = iC t IN j := by intro j; rw [h1]; exact iC_a (fun q => d2 q.symm)
  have a3 : ∀ j, iC t1 CL j = iC t CL j := by intro j; rw [h1]; exact iC_a (fun q => d3 q.symm)
  obtain ⟨N, hN⟩ : ∃ N : Nat, N = (iI t VI).toNat := ⟨_, rfl⟩
  rw [← hN] at f1 f3 f4 h1
  have b1 : ∀ j, iC t3 VG j = if j = N then c else iC t VG j := by
    intro j
    rw [t3c, g2 j, h1]
    by_cases z : j = N
    · rw [if_pos z, z]; exact iC_u ⟨by first | exact oq_fa4e5087 c0 | omega, by first | exact oq_36716223 c1 | omega⟩
    · rw [if_neg z]; exact iC_n z
  have r1 := @fso_r s c lo hi 5
  have r2 := @fsi_r s c lo hi 5
  have r3 := @fsc_r s c lo hi
  refine ⟨by first | exact And.intro (oq_b50d5e62 v3 q0.1) (oq_c0ae7328 v3 q0.2) | omega, fun i hi' => ?_, fun G => ?_⟩
  · rw [t3c, t3c, t3c, f1, f3, f4]
    by_cases z : i = N
    · rw [if_pos z, if_pos z, if_pos z]; omega
    · rw [if_neg z, if_neg z, if_neg z, a1, a2, a3]; exact h.2.1 i (by first | exact oq_cb019596 z hi' hN v3 | omega)
  · rw [v3, show (iI t VI + 1).toNat = N + 1 by first | exact oq_33fd9894 hN q0.1 | omega, show (c + 1).toNat = c.toNat + 1 by first | exact oq_c30340c4 c0 | omega]
    show VSS VG OV IN CL t3 G N + G (iC t3 VG N).toNat (iC t3 OV N) (iC t3 IN N) (iC t3 CL N) = sm (VSG s G lo hi) c.toNat + VSG s G lo hi c.toNat
    have e1 : VSS VG OV IN CL t3 G N = VSS VG OV IN CL t G N := sm_eq (fun i hi' => by
      rw [b1, t3c, t3c, t3c, f1, f3, f4, if_neg (by first | exact oq_c7ddc228 hi' | omega), if_neg (by first | exact oq_c7ddc228 hi' | omega), if_neg (by first | exact oq_c7ddc228 hi' | omega), if_neg (by first | exact oq_c7ddc228 hi' | omega), a1, a2, a3])
    have e2 : VSG s G lo hi c.toNat = G c.toNat (fsO s c lo hi 5) (fsI s c lo hi 5) (fsC s c lo hi) := by
      show (if (gD s 3 (((c.toNat : Nat) : Int) * 2).toNat &&& lo) ||| (gD s 3 (((c.toNat : Nat) : Int) * 2 + 1).toNat &&& hi) = 0 then 0 else G c.toNat (fsO s ((c.toNat : Nat) : Int) lo hi 5) (fsI s ((c.toNat : Nat) : Int) lo hi 5) (fsC s ((c.toNat : Nat) : Int) lo hi)) = _
      rw [show ((c.toNat : Nat) : Int) = c by first | exact oq_94c0d625 c0 | omega, if_neg (by rw [← hm, ← hm]; exact hn)]
    rw [e1, e2, b1, if_pos rfl, t3c, t3c, t3c, f1, f3, f4, if_pos rfl, if_pos rfl, if_pos rfl, hN, h.2.2 G]
/-- the couples that meet in a set -/
abbrev MtG : Type := Nat → Nat → Int → Int
noncomputable def MTG (s : PS) (G : MtG) (lo hi : Int64) : Nat → Int := fun k => G (iC s 6 k / 12).toNat (iC s 6 k % 12).toNat (bnN (gD s 7 ((k : Int) * 2).toNat &&& lo) + bnN (gD s 7 ((k : Int) * 2 + 1).toNat &&& hi))
def MTS (FI SE OF : Nat) (t : PS) (G : MtG) (n : Nat) : Int := sm (fun i => G (iC t FI i).toNat (iC t SE i).toNat (iC t OF i)) n
def MTQ (FI SE OF ME : Nat) (lo hi : Int64) (c : Int) (s t : PS) : Prop := (0 ≤ iI t ME ∧ iI t ME ≤ c) ∧ (∀ i : Nat, (i : Int) < iI t ME → 0 ≤ iC t OF i ∧ iC t OF i ≤ 128) ∧ ∀ G : MtG, (∀ a b, G a b 0 = 0) → MTS FI SE OF t G (iI t ME).toNat = sm (MTG s G lo hi) c.toNat
theorem mtq_0 {FI SE OF ME : Nat} {lo hi : Int64} {s t : PS} (h : iI t ME = 0) : MTQ FI SE OF ME lo hi 0 s t := by
  refine ⟨by first | exact And.intro (oq_0b35aa92 h) (oq_1af0b4f8 h) | omega, fun i hi => by first | exact And.intro (oq_f47d4981 hi h) (oq_9763cd69 hi h) | omega, fun G _ => ?_⟩
  rw [h]; rfl
theorem mtq_n {FI SE OF ME : Nat} {lo hi : Int64} {c e1 e2 : Int} {s t : PS} (h : MTQ FI SE OF ME lo hi c s t) (c0 : 0 ≤ c) (hm : ∀ j, gD t 7 j = gD s 7 j) (b1 : e1 = bnN (gD t 7 (c * 2).toNat &&& lo)) (b2 : e2 = bnN (gD t 7 (c * 2 + 1).toNat &&& hi)) (hz : e1 + e2 ≤ 0) : MTQ FI SE OF ME lo hi (c + 1) s t := by
  rw [hm] at b1 b2
  have r1 := bnN_r (gD s 7 (c * 2).toNat &&& lo)
  have r2 := bnN_r (gD s 7 (c * 2 + 1).toNat &&& hi)
  refine ⟨by have := h.1; omega, h.2.1, fun G hG => ?_⟩
  rw [h.2.2 G hG, show (c + 1).toNat = c.toNat + 1 by first | exact oq_c30340c4 c0 | omega]
  show _ = sm (MTG s G lo hi) c.toNat + MTG s G lo hi c.toNat
  have e : MTG s G lo hi c.toNat = 0 := by
    show G _ _ (bnN (gD s 7 (((c.toNat : Nat) : Int) * 2).toNat &&& lo) + bnN (gD s 7 (((c.toNat : Nat) : Int) * 2 + 1).toNat &&& hi)) = 0
    rw [show ((c.toNat : Nat) : Int) = c by first | exact oq_94c0d625 c0 | omega, ← b1, ← b2, show e1 + e2 = 0 by omega]
    exact hG _ _
  rw [e, Int.add_zero]
theorem mtq_y {FI SE OF ME : Nat} {lo hi : Int64} {c e1 e2 v1 v2 v3 : Int} {s t t1 t2 t3 t4 : PS} (h : MTQ FI SE OF ME lo hi c s t) (c0 : 0 ≤ c) (c1 : c ≤ 65) (hm : ∀ j, gD t 7 j = gD s 7 j) (hc : ∀ j, iC t 6 j = iC s 6 j) (cr : 0 ≤ iC t 6 c.toNat ∧ iC t 6 c.toNat ≤ 143) (b1 : e1 = bnN (gD t 7 (c * 2).toNat &&& lo)) (b2 : e2 = bnN (gD t 7 (c * 2 + 1).toNat &&& hi)) (d1 : FI ≠ SE) (d2 : FI ≠ OF) (d3 : SE ≠ OF) (hv1 : v1 = iC t 6 c.toNat / 12) (hv2 : v2 = iC t 6 c.toNat % 12) (hv3 : v3 = e1 + e2) (h1 : t1 = uC t FI (iI t ME).toNat (Int32.ofInt v1)) (h2 : t2 = uC t1 SE (iI t1 ME).toNat (Int32.ofInt v2)) (h3 : t3 = uC t2 OF (iI t2 ME).toNat (Int32.ofInt v3)) (h4 : t4 = uI t3 ME (Int32.ofInt (iI t3 ME + 1))) : MTQ FI SE OF ME lo hi (c + 1) s t4 := by
  rw [hm] at b1 b2
  rw [hc] at cr hv1 hv2
  have r1 := bnN_r (gD s 7 (c * 2).toNat &&& lo)
  have r2 := bnN_r (gD s 7 (c * 2 + 1).toNat &&& hi)
  have q0 := h.1
  have w1 : iI t1 ME = iI t ME := by subst h1; rfl
  have w2 : iI t2 ME = iI t ME := by rw [← w1]; subst h2; rfl
  have w3 : iI t3 ME = iI t ME := by rw [← w2]; subst h3; rfl
  have w4 : iI t4 ME = iI t ME + 1 := by
    rw [h4, w3]; exact iI_u ⟨by first | exact oq_74de1e16 q0.1 | omega, by first | exact oq_c1af4628 q0.2 c1 | omega⟩
  rw [w1] at h2
  rw [w2] at h3
  obtain ⟨N, hN⟩ : ∃ N : Nat, N = (iI t ME).toNat := ⟨_, rfl⟩
  rw [← hN] at h1 h2 h3
  have t4c : ∀ a j, iC t4 a j = iC t3 a j := by intro a j; subst h4; rfl
  have f1 : ∀ j, iC t4 FI j = if j = N then v1 else iC t FI j := by
    intro j
    rw [t4c, h3, iC_a d2, h2, iC_a d1, h1]
    by_cases z : j = N
    · rw [if_pos z, z]; exact iC_u ⟨by first | exact oq_17e35dd3 hv1 cr.1 | omega, by first | exact oq_d83e136f hv1 cr.2 | omega⟩
    · rw [if_neg z]; exact iC_n z
  have f2 : ∀ j, iC t4 SE j = if j = N then v2 else iC t SE j := by
    intro j
    rw [t4c, h3, iC_a d3, h2]
    by_cases z : j = N
    · rw [if_pos z, z]; exact iC_u ⟨by first | exact oq_d2cb47fb hv2 | omega, by first | exact oq_e7822c1f hv2 | omega⟩
    · rw [if_neg z, iC_n z, h1]; exact iC_a (fun q => d1 q.symm)
  have f3 : ∀ j, iC t4 OF j = if j = N then v3 else iC t OF j := by
    intro j
    rw [t4c, h3]
    by_cases z : j = N
    · rw [if_pos z, z]; exact iC_u ⟨by omega, by omega⟩
    · rw [if_neg z, iC_n z, h2, iC_a (fun q => d3 q.symm), h1]; exact iC_a (fun q => d2 q.symm)
  refine ⟨by first | exact And.intro (oq_b50d5e62 w4 q0.1) (oq_c0ae7328 w4 q0.2) | omega, fun i hi' => ?_, fun G hG => ?_⟩
  · rw [f3]
    by_cases z : i = N
    · rw [if_pos z]; omega
    · rw [if_neg z]; exact h.2.1 i (by first | exact oq_cb019596 z hi' hN w4 | omega)
  · rw [w4, show (iI t ME + 1).toNat = N + 1 by first | exact oq_33fd9894 hN q0.1 | omega, show (c + 1).toNat = c.toNat + 1 by first | exact oq_c30340c4 c0 | omega]
    show MTS FI SE OF t4 G N + G (iC t4 FI N).toNat (iC t4 SE N).toNat (iC t4 OF N) = sm (MTG s G lo hi) c.toNat + MTG s G lo hi c.toNat
    have e1' : MTS FI SE OF t4 G N = MTS FI SE OF t G N := sm_eq (fun i hi' => by
      rw [f1, f2, f3, if_neg (by first | exact oq_c7ddc228 hi' | omega), if_neg (by first | exact oq_c7ddc228 hi' | omega), if_neg (by first | exact oq_c7ddc228 hi' | omega)])
    have e2' : MTG s G lo hi c.toNat = G v1.toNat v2.toNat v3 := by
      show G (iC s 6 c.toNat / 12).toNat (iC s 6 c.toNat % 12).toNat (bnN (gD s 7 (((c.toNat : Nat) : Int) * 2).toNat &&& lo) + bnN (gD s 7 (((c.toNat : Nat) : Int) * 2 + 1).toNat &&& hi)) = _
      rw [show ((c.toNat : Nat) : Int) = c by first | exact oq_94c0d625 c0 | omega, ← b1, ← b2, ← hv1, ← hv2, ← hv3]
    rw [e1', e2', f1, f2, f3, if_pos rfl, if_pos rfl, if_pos rfl, hN, h.2.2 G hG]
/-- what is written down of a set, while nothing of it changes -/
def LSN (lo hi : Int64) (s : PS) : Prop := VSQ 26 27 28 29 22 lo hi (iI s 9) s s ∧ MTQ 30 31 32 23 lo hi (iI s 10) s s
theorem vsq_c {VG OV IN CL VI : Nat} {lo hi : Int64} {c c' : Int} {s t u v : PS} (h : VSQ VG OV IN CL VI lo hi c s t) (ec : c' = c) (e1 : ∀ j, gD u 3 j = gD s 3 j) (e2 : ∀ j, gD u 5 j = gD s 5 j) (f0 : iI v VI = iI t VI) (f1 : ∀ j, iC v VG j = iC t VG j) (f2 : ∀ j, iC v OV j = iC t OV j) (f3 : ∀ j, iC v IN j = iC t IN j) (f4 : ∀ j, iC v CL j = iC t CL j) : VSQ VG OV IN CL VI lo hi c' u v := by
  subst ec
  have g : ∀ (x : Int) n, fsO u x lo hi n = fsO s x lo hi n ∧ fsI u x lo hi n = fsI s x lo hi n ∧ fsC u x lo hi = fsC s x lo hi := fun x n => fs_c e2 n
  unfold VSQ VSS VSG at h ⊢
  simp only [f0, f1, f2, f3, f4, e1, (g _ _).1, (g _ _).2.1, (g _ 0).2.2]
  exact h
theorem mtq_c {FI SE OF ME : Nat} {lo hi : Int64} {c c' : Int} {s t u v : PS} (h : MTQ FI SE OF ME lo hi c s t) (ec : c' = c) (e1 : ∀ j, gD u 7 j = gD s 7 j) (e2 : ∀ j, iC u 6 j = iC s 6 j) (f0 : iI v ME = iI t ME) (f1 : ∀ j, iC v FI j = iC t FI j) (f2 : ∀ j, iC v SE j = iC t SE j) (f3 : ∀ j, iC v OF j = iC t OF j) : MTQ FI SE OF ME lo hi c' u v := by
  subst ec
  unfold MTQ MTS MTG at h ⊢
  simp only [f0, f1, f2, f3, e1, e2]
  exact h
theorem LSN_fm {lo hi : Int64} {L M : List Nat} {s t : PS} (F : Fm L M s t) (h : (9 ∉ L ∧ 10 ∉ L ∧ 22 ∉ L ∧ 23 ∉ L) ∧ (26 ∉ M ∧ 27 ∉ M ∧ 28 ∉ M ∧ 29 ∉ M ∧ 30 ∉ M ∧ 31 ∉ M ∧ 32 ∉ M) ∧ 6 ∉ M ∧ 7 + 1000 ∉ M ∧ 3 + 1000 ∉ M ∧ 5 + 1000 ∉ M) (r : LSN lo hi s) : LSN lo hi t :=
  ⟨vsq_c r.1 (fm_i F h.1.1) (fun _ => fm_dd F h.2.2.2.2.1) (fun _ => fm_dd F h.2.2.2.2.2) (fm_i F h.1.2.2.1) (fun _ => fm_c F h.2.1.1) (fun _ => fm_c F h.2.1.2.1) (fun _ => fm_c F h.2.1.2.2.1) (fun _ => fm_c F h.2.1.2.2.2.1),
   mtq_c r.2 (fm_i F h.1.2.1) (fun _ => fm_dd F h.2.2.2.1) (fun _ => fm_c F h.2.2.1) (fm_i F h.1.2.2.2) (fun _ => fm_c F h.2.1.2.2.2.2.1) (fun _ => fm_c F h.2.1.2.2.2.2.2.1) (fun _ => fm_c F h.2.1.2.2.2.2.2.2)⟩
/-! What is written down says what the document's sums say -/
theorem vis_air {s : PS} (h : AIR s) {x : Nat} (hx : (x : Int) < iI s 9) {lo hi : Int64} : (gD s 3 ((x : Int) * 2).toNat &&& lo) ||| (gD s 3 ((x : Int) * 2 + 1).toNat &&& hi) ≠ 0 ↔ viH (inL lo hi) (fwC s x) (iC s 2 x) := by
  have m := (h.2 x hx).2.1
  have w := (h.2 x hx).1
  rw [show ((x : Int) * 2).toNat = 2 * x by first | exact oq_d10e6373 | omega, show ((x : Int) * 2 + 1).toNat = 2 * x + 1 by first | exact oq_def1a1f8 | omega, jb_ne]
  constructor
  · rintro ⟨i, hi', b⟩
    rcases jb_or.mp b with q | q
    · obtain ⟨q1, q2⟩ := jb_a.mp q
      have z := m i (by first | exact oq_d0f9435a hi' | omega)
      rw [show i / 64 = 0 by first | exact oq_04ce3b1a hi' | omega, show i % 64 = i by first | exact oq_11c9d0aa hi' | omega, Nat.add_zero] at z
      obtain ⟨k, k1, k2⟩ := z.mp q1
      refine ⟨k, k1, Or.inl ?_⟩
      show 0 ≤ iC s 1 (24 * x + k) ∧ iC s 1 (24 * x + k) < 64 ∧ bJ lo (iC s 1 (24 * x + k)).toNat
      rw [k2]
      exact ⟨by first | exact oq_a3593015 | omega, by first | exact oq_405b1b8c hi' | omega, by rw [show ((i : Int)).toNat = i by first | exact oq_3d866207 | omega]; exact q2⟩
    · obtain ⟨q1, q2⟩ := jb_a.mp q
      have z := m (64 + i) (by first | exact oq_dbba00b6 hi' | omega)
      rw [show (64 + i) / 64 = 1 by first | exact oq_f17a76d7 hi' | omega, show (64 + i) % 64 = i by first | exact oq_f6e7ab53 hi' | omega] at z
      obtain ⟨k, k1, k2⟩ := z.mp q1
      refine ⟨k, k1, Or.inr ?_⟩
      show 64 ≤ iC s 1 (24 * x + k) ∧ iC s 1 (24 * x + k) < 128 ∧ bJ hi (iC s 1 (24 * x + k) - 64).toNat
      rw [k2]
      exact ⟨by first | exact oq_1a7bd503 | omega, by first | exact oq_0a8f0ae8 hi' | omega, by rw [show (((64 + i : Nat) : Int) - 64).toNat = i by first | exact oq_d9c5a060 | omega]; exact q2⟩
  · rintro ⟨k, k1, k2⟩
    have r := w.2.1 k k1
    obtain ⟨d, hd⟩ : ∃ d : Nat, iC s 1 (24 * x + k) = (d : Int) := ⟨(iC s 1 (24 * x + k)).toNat, by have r' : 0 ≤ iC s 1 (24 * x + k) := r.1; omega⟩
    replace r : iC s 1 (24 * x + k) ≤ 127 := r.2
    have z := (m d (by first | exact oq_a8972afc r hd | omega)).mpr ⟨k, k1, hd⟩
    replace k2 : inL lo hi (iC s 1 (24 * x + k)) := k2
    rw [hd] at k2
    rcases k2 with ⟨q1, q2, q3⟩ | ⟨q1, q2, q3⟩
    · rw [show d / 64 = 0 by first | exact oq_12ad7178 q2 q1 | omega, show d % 64 = d by first | exact oq_5e605950 q2 q1 | omega, Nat.add_zero] at z
      rw [show ((d : Int)).toNat = d by first | exact oq_c70b3307 q1 | omega] at q3
      exact ⟨d, by first | exact oq_cb60b78e q2 | omega, jb_or.mpr (Or.inl (jb_a.mpr ⟨z, q3⟩))⟩
    · rw [show d / 64 = 1 by first | exact oq_a0022b33 q2 q1 | omega, show d % 64 = d - 64 by first | exact oq_ddadd8e9 q2 q1 | omega] at z
      rw [show ((d : Int) - 64).toNat = d - 64 by first | exact oq_623b4b9a q1 | omega] at q3
      exact ⟨d - 64, by first | exact oq_a29f848b q2 | omega, jb_or.mpr (Or.inr (jb_a.mpr ⟨z, q3⟩))⟩
theorem fs_air {s : PS} (h : AIR s) {x : Nat} (hx : (x : Int) < iI s 9) {lo hi : Int64} : fsO s x lo hi 5 = ovH (inL lo hi) (fwC s x) (iC s 2 x - 1).toNat ∧ fsI s x lo hi 5 = inH (inL lo hi) (fwC s x) (iC s 2 x - 1).toNat ∧ fsC s x lo hi = clH (inL lo hi) (fwC s x) (iC s 2 x - 1).toNat := by
  obtain ⟨w, -, -, st⟩ := h.2 x hx
  have hT : ∀ κ j : Nat, κ < 5 → j < 64 → (bJ (fsT s x κ) j ↔ stP (fwC s x) (iC s 2 x) (iC s 2 x) κ j) := by
    intro κ j hκ hj
    show bJ (gD s 5 ((x : Int) * 5 + (κ : Int)).toNat) j ↔ _
    rw [show ((x : Int) * 5 + (κ : Int)).toNat = 5 * x + κ by first | exact oq_7479b010 | omega]
    exact st κ j hκ hj
  exact ⟨ov_bits w hT, in_bits w hT, cl_bits w hT⟩
theorem vi_no {S : Int → Prop} {f : Nat → Int} {z : Int} (h : ¬ viH S f z) : ovH S f (z - 1).toNat = 0 ∧ inH S f (z - 1).toNat = 0 ∧ clH S f (z - 1).toNat = 0 := by
  have no : ∀ k : Nat, (k : Int) < z → ¬ S (f k) := fun k hk q => h ⟨k, hk, q⟩
  exact ⟨sm_0 (fun k hk => i01_f (fun q => q ⟨fun a => absurd a (no k (by first | exact oq_15e35fec hk | omega)), fun a => absurd a (no (k + 1) (by first | exact oq_672aa8ea hk | omega))⟩)), sm_0 (fun k hk => i01_f (fun q => no k (by first | exact oq_15e35fec hk | omega) q.1)), sm_0 (fun k hk => i01_f (fun q => no k (by first | exact oq_15e35fec hk | omega) q.1))⟩
theorem vsg_air {s : PS} (h : AIR s) {x : Nat} (hx : (x : Int) < iI s 9) {lo hi : Int64} {G : VsG} : VSG s G lo hi x = @ite Int (viH (inL lo hi) (fwC s x) (iC s 2 x)) (Classical.propDecidable _) (G x (ovH (inL lo hi) (fwC s x) (iC s 2 x - 1).toNat) (inH (inL lo hi) (fwC s x) (iC s 2 x - 1).toNat) (clH (inL lo hi) (fwC s x) (iC s 2 x - 1).toNat)) 0 := by
  have v := vis_air h hx (lo := lo) (hi := hi)
  have f := fs_air h hx (lo := lo) (hi := hi)
  by_cases c : viH (inL lo hi) (fwC s x) (iC s 2 x)
  · rw [if_pos c]
    refine (if_neg (v.mpr c)).trans ?_
    rw [f.1, f.2.1, f.2.2]
  · rw [if_neg c]
    exact if_pos (Classical.byContradiction (fun q => c (v.mp q)))
noncomputable def iaH (S : Int → Prop) (w : WyS) (mo : Nat → Int) (n : Nat) : Int := sm (fun s => mo s * inH S (w.1 s) (w.2 s - 1).toNat) n
theorem lsn_sums {s : PS} {lo hi : Int64} (h : AIR s) (l : LSN lo hi s) (h0 : 0 ≤ iI s 9) (mo : Nat → Int) :
    VSS 26 27 28 29 s (fun x _ _ _ => mo x) (iI s 22).toNat = waH (inL lo hi) (WYC s) mo (iI s 9).toNat ∧
    VSS 26 27 28 29 s (fun x o _ _ => mo x * o) (iI s 22).toNat = oaH (inL lo hi) (WYC s) mo (iI s 9).toNat ∧
    VSS 26 27 28 29 s (fun x _ i _ => mo x * i) (iI s 22).toNat = iaH (inL lo hi) (WYC s) mo (iI s 9).toNat ∧
    VSS 26 27 28 29 s (fun x _ _ c => mo x * c) (iI s 22).toNat = caH (inL lo hi) (WYC s) mo (iI s 9).toNat := by
  have g := l.1.2.2
  refine ⟨?_, ?_, ?_, ?_⟩
  · rw [g]
    refine sm_eq (fun x hx => ?_)
    rw [vsg_air h (by first | exact oq_cc24202f hx | omega)]
    show _ = i01 (viH (inL lo hi) (fwC s x) (iC s 2 x)) * mo x
    by_cases c : viH (inL lo hi) (fwC s x) (iC s 2 x)
    · rw [if_pos c, i01_t c, Int.one_mul]
    · rw [if_neg c, i01_f c, Int.zero_mul]
  · rw [g]
    refine sm_eq (fun x hx => ?_)
    rw [vsg_air h (by first | exact oq_cc24202f hx | omega)]
    show _ = mo x * ovH (inL lo hi) (fwC s x) (iC s 2 x - 1).toNat
    by_cases c : viH (inL lo hi) (fwC s x) (iC s 2 x)
    · rw [if_pos c]
    · rw [if_neg c, (vi_no c).1, Int.mul_zero]
  · rw [g]
    refine sm_eq (fun x hx => ?_)
    rw [vsg_air h (by first | exact oq_cc24202f hx | omega)]
    show _ = mo x * inH (inL lo hi) (fwC s x) (iC s 2 x - 1).toNat
    by_cases c : viH (inL lo hi) (fwC s x) (iC s 2 x)
    · rw [if_pos c]
    · rw [if_neg c, (vi_no c).2.1, Int.mul_zero]
  · rw [g]
    refine sm_eq (fun x hx => ?_)
    rw [vsg_air h (by first | exact oq_cc24202f hx | omega)]
    show _ = mo x * clH (inL lo hi) (fwC s x) (iC s 2 x - 1).toNat
    by_cases c : viH (inL lo hi) (fwC s x) (iC s 2 x)
    · rw [if_pos c]
    · rw [if_neg c, (vi_no c).2.2, Int.mul_zero]
theorem lsn_cr {s : PS} {lo hi : Int64} (h : AIR s) (p : CPL s) (l : LSN lo hi s) (h0 : 0 ≤ iI s 9) (mo : Nat → Int) : MTS 30 31 32 s (fun a b k => k * min (mo a) (mo b)) (iI s 23).toNat = crH (inL lo hi) (WYC s) mo (iI s 9).toNat := by
  rw [l.2.2.2 (fun a b k => k * min (mo a) (mo b)) (fun _ _ => Int.zero_mul _)]
  have z := p.2 (fun a b m0 m1 => (bnN (m0 &&& lo) + bnN (m1 &&& hi)) * min (mo a) (mo b)) (fun a b => by rw [jz_and, jz_and, bc_z]; exact Int.zero_mul _)
  have e : sm (MTG s (fun a b k => k * min (mo a) (mo b)) lo hi) (iI s 10).toNat = CPS s (fun a b m0 m1 => (bnN (m0 &&& lo) + bnN (m1 &&& hi)) * min (mo a) (mo b)) (iI s 10).toNat := sm_eq (fun k _ => by
    show (bnN (gD s 7 ((k : Int) * 2).toNat &&& lo) + bnN (gD s 7 ((k : Int) * 2 + 1).toNat &&& hi)) * _ = (bnN (gD s 7 (2 * k) &&& lo) + bnN (gD s 7 (2 * k + 1) &&& hi)) * _
    rw [show ((k : Int) * 2).toNat = 2 * k by first | exact oq_d10e6373 | omega, show ((k : Int) * 2 + 1).toNat = 2 * k + 1 by first | exact oq_def1a1f8 | omega])
  rw [e, z]
  refine sm_eq (fun a ha => sm_eq (fun b hb => ?_))
  show (if a < b then (bnN (mtF s a b 0 7 &&& lo) + bnN (mtF s a b 1 7 &&& hi)) * min (mo a) (mo b) else 0) = if a < b then mtW (inL lo hi) (fwC s a) (fwC s b) (iC s 2 a) (iC s 2 b) * min (mo a) (mo b) else 0
  rw [mt_cnt h (by first | exact oq_b20fffc2 hb ha | omega) (by first | exact oq_bc8b14c0 hb ha | omega)]
/-! hear: the sums -/
def moX (s : PS) (q w : Int) (x : Nat) : Int := if (x : Int) = w then 0 else iC s 11 (q * 12 + (x : Int)).toNat
theorem mox_0 {s : PS} {q w v : Int} (h0 : 0 ≤ v) (h : v = w) : (0 : Int) = moX s q w v.toNat := (if_pos (by first | exact oq_5c13330e h h0 | omega)).symm
theorem mox_1 {s : PS} {q w v r i : Int} (h0 : 0 ≤ v) (h : v ≠ w) (hr : r = q * 12) (hi : i = r + v) : iC s 11 i.toNat = moX s q w v.toNat := by
  refine Eq.trans ?_ (if_neg (by first | exact oq_5417fdf5 h h0 | omega)).symm
  rw [show (q * 12 + ((v.toNat : Nat) : Int)).toNat = i.toNat by first | exact oq_545008b5 hi hr h0 | omega]
theorem mul_bd {x y a b : Int} (x0 : 0 ≤ x) (x1 : x ≤ a) (y0 : 0 ≤ y) (y1 : y ≤ b) : 0 ≤ x * y ∧ x * y ≤ a * b := ⟨Int.mul_nonneg x0 y0, Int.mul_le_mul x1 y1 y0 (by first | exact oq_12a1f9e1 x1 x0 | omega)⟩
def HRQ (s : PS) (q w c wa ov cl : Int) : Prop := wa = VSS 26 27 28 29 s (fun x _ _ _ => moX s q w x) c.toNat ∧ ov = VSS 26 27 28 29 s (fun x o _ _ => moX s q w x * o) c.toNat ∧ cl = VSS 26 27 28 29 s (fun x _ _ k => moX s q w x * k) c.toNat
theorem hrq_0 {s : PS} {q w : Int} : HRQ s q w 0 0 0 0 := ⟨rfl, rfl, rfl⟩
theorem hrq_up {s : PS} {q w c wa ov cl m o k : Int} (h : HRQ s q w c wa ov cl) (c0 : 0 ≤ c) (hm : m = moX s q w (iC s 26 c.toNat).toNat) (ho : o = iC s 27 c.toNat) (hk : k = iC s 29 c.toNat) : HRQ s q w (c + 1) (wa + m) (ov + m * o) (cl + m * k) := by
  obtain ⟨h1, h2, h3⟩ := h
  unfold HRQ
  rw [show (c + 1).toNat = c.toNat + 1 by first | exact oq_c30340c4 c0 | omega]
  subst hm ho hk h1 h2 h3
  exact ⟨rfl, rfl, rfl⟩
def HRC (s : PS) (q w c cr : Int) : Prop := cr = MTS 30 31 32 s (fun a b k => k * min (moX s q w a) (moX s q w b)) c.toNat
theorem mox_nn {s : PS} {q w : Int} {x : Nat} (h : ∀ j, j < 288 → 0 ≤ iC s 11 j) (hq : 0 ≤ q ∧ q ≤ 23) (hx : x < 12) : 0 ≤ moX s q w x := by
  unfold moX
  by_cases c : (x : Int) = w
  · rw [if_pos c]; decide
  · rw [if_neg c]; exact h _ (by first | exact oq_daaeabf1 hx hq.2 | omega)
theorem hrc_y {s : PS} {q w c cr o m k a b : Int} (h : HRC s q w c cr) (c0 : 0 ≤ c) (ho : o = iC s 32 c.toNat) (ha : a = moX s q w (iC s 30 c.toNat).toNat) (hb : b = moX s q w (iC s 31 c.toNat).toNat) (hm : m = min a b) (hk : k = o * m) : HRC s q w (c + 1) (cr + k) := by
  unfold HRC at h ⊢
  rw [show (c + 1).toNat = c.toNat + 1 by first | exact oq_c30340c4 c0 | omega]
  subst hk hm ha hb ho h
  rfl
theorem hrc_n {s : PS} {q w c cr : Int} (h : HRC s q w c cr) (c0 : 0 ≤ c) (hn : ∀ j, j < 288 → 0 ≤ iC s 11 j) (hq : 0 ≤ q ∧ q ≤ 23) (ra : 0 ≤ iC s 30 c.toNat ∧ iC s 30 c.toNat ≤ 11) (rb : 0 ≤ iC s 31 c.toNat ∧ iC s 31 c.toNat ≤ 11) (hz : iC s 30 c.toNat = w ∨ iC s 31 c.toNat = w) : HRC s q w (c + 1) cr := by
  have r := hrc_y (o := _) (k := _) h c0 rfl rfl rfl rfl rfl
  have na := @mox_nn s q w (iC s 30 c.toNat).toNat hn hq (by first | exact oq_9c5fa447 ra.2 | omega)
  have nb := @mox_nn s q w (iC s 31 c.toNat).toNat hn hq (by first | exact oq_9c5fa447 rb.2 | omega)
  have z : min (moX s q w (iC s 30 c.toNat).toNat) (moX s q w (iC s 31 c.toNat).toNat) = 0 := by
    rcases hz with z1 | z1
    · have e : moX s q w (iC s 30 c.toNat).toNat = 0 := (mox_0 ra.1 z1).symm
      omega
    · have e : moX s q w (iC s 31 c.toNat).toNat = 0 := (mox_0 rb.1 z1).symm
      omega
  rw [z, Int.mul_zero, Int.add_zero] at r
  exact r
/-- behind hear -/
def HRD (q w : Int) (s t : PS) : Prop := iC t 33 0 = VSS 26 27 28 29 s (fun x _ _ _ => moX s q w x) (iI s 22).toNat ∧ iC t 33 1 = MTS 30 31 32 s (fun a b k => k * min (moX s q w a) (moX s q w b)) (iI s 23).toNat ∧ iC t 33 2 = VSS 26 27 28 29 s (fun x o _ _ => moX s q w x * o) (iI s 22).toNat ∧ iC t 33 3 = VSS 26 27 28 29 s (fun x _ _ k => moX s q w x * k) (iI s 22).toNat ∧ ∀ j, 4 ≤ j → iC t 33 j = iC s 33 j
theorem hrd_of {q w wa cr ov cl c d : Int} {s t t1 t2 t3 t4 : PS} (h : HRQ s q w c wa ov cl) (hc : c = iI s 22) (g : HRC s q w d cr) (hd : d = iI s 23) (sa : SAM 33 s t) (r1 : rng wa) (r2 : rng cr) (r3 : rng ov) (r4 : rng cl) (h1 : t1 = uC t 33 (0 : Int).toNat (Int32.ofInt wa)) (h2 : t2 = uC t1 33 (1 : Int).toNat (Int32.ofInt cr)) (h3 : t3 = uC t2 33 (2 : Int).toNat (Int32.ofInt ov)) (h4 : t4 = uC t3 33 (3 : Int).toNat (Int32.ofInt cl)) : HRD q w s t4 := by
  subst hc hd
  replace h1 : t1 = uC t 33 0 (Int32.ofInt wa) := h1
  replace h2 : t2 = uC t1 33 1 (Int32.ofInt cr) := h2
  replace h3 : t3 = uC t2 33 2 (Int32.ofInt ov) := h3
  replace h4 : t4 = uC t3 33 3 (Int32.ofInt cl) := h4
  refine ⟨?_, ?_, ?_, ?_, fun j hj => ?_⟩
  · rw [h4, iC_n (by decide), h3, iC_n (by decide), h2, iC_n (by decide), h1, iC_u r1]; exact h.1
  · rw [h4, iC_n (by decide), h3, iC_n (by decide), h2, iC_u r2]; exact g
  · rw [h4, iC_n (by decide), h3, iC_u r3]; exact h.2.1
  · rw [h4, iC_u r4]; exact h.2.2
  · rw [h4, iC_n (by first | exact oq_673ede27 hj | omega), h3, iC_n (by first | exact oq_1c9cabe5 hj | omega), h2, iC_n (by first | exact oq_92b348c9 hj | omega), h1, iC_n (by first | exact oq_3e235905 hj | omega)]; exact sa j
theorem cpp_c {L M : List Nat} {n a b : Int} {s t u : PS} (h : CPP n a b s t) (F : Fm L M t u) (hx : 10 ∉ L ∧ 6 ∉ M ∧ 7 + 1000 ∉ M) : CPP n a b s u := by
  have e2 : iI u 10 = iI t 10 := fm_i F hx.1
  have e3 : ∀ j, iC u 6 j = iC t 6 j := fun j => fm_c F hx.2.1
  have e4 : ∀ j, gD u 7 j = gD t 7 j := fun j => fm_dd F hx.2.2
  unfold CPP CPS at h ⊢
  simp only [e2, e3, e4]
  exact h
def HEH (lo hi : Int64) (x : Int) (t : PS) : Prop := iC t 33 4 = bnN lo + bnN hi ∧ iC t 33 5 = bnN lo ∧ iC t 33 6 = x
theorem heh_of {lo hi : Int64} {x e1 e2 e3 : Int} {s t1 t2 t3 : PS} (b1 : e1 = bnN lo) (b2 : e2 = bnN hi) (b3 : e3 = bnN lo) (hx : rng x) (h1 : t1 = uC s 33 (4 : Int).toNat (Int32.ofInt (e1 + e2))) (h2 : t2 = uC t1 33 (5 : Int).toNat (Int32.ofInt e3)) (h3 : t3 = uC t2 33 (6 : Int).toNat (Int32.ofInt x)) : HEH lo hi x t3 := by
  have r1 := bnN_r lo
  have r2 := bnN_r hi
  replace h1 : t1 = uC s 33 4 (Int32.ofInt (e1 + e2)) := h1
  replace h2 : t2 = uC t1 33 5 (Int32.ofInt e3) := h2
  replace h3 : t3 = uC t2 33 6 (Int32.ofInt x) := h3
  refine ⟨?_, ?_, ?_⟩
  · rw [h3, iC_n (by decide), h2, iC_n (by decide), h1, iC_u ⟨by first | exact oq_eb5d3e59 r2.1 r1.1 b2 b1 | omega, by first | exact oq_1c4faf05 r2.2 r1.2 b2 b1 | omega⟩, b1, b2]
  · rw [h3, iC_n (by decide), h2, iC_u ⟨by first | exact oq_f885fad9 r1.1 b3 | omega, by first | exact oq_6a7e65e7 r1.2 b3 | omega⟩, b3]
  · rw [h3, iC_u hx]
theorem heh_s {lo hi : Int64} {x : Int} {s t : PS} (h : HEH lo hi x s) (g : SAM 33 s t) : HEH lo hi x t := ⟨(g 4).trans h.1, (g 5).trans h.2.1, (g 6).trans h.2.2⟩
theorem lsn_of {lo hi : Int64} {c d : Int} {s t u : PS} (h : VSQ 26 27 28 29 22 lo hi c s t) (g : MTQ 30 31 32 23 lo hi d s u) (hc : c = iI s 9) (hd : d = iI s 10) (hc2 : iI u 9 = iI s 9) (hd2 : iI u 10 = iI s 10) (e1 : ∀ j, gD u 3 j = gD s 3 j) (e2 : ∀ j, gD u 5 j = gD s 5 j) (e3 : ∀ j, gD u 7 j = gD s 7 j) (e4 : ∀ j, iC u 6 j = iC s 6 j) (f0 : iI u 22 = iI t 22) (f1 : SAM 26 t u) (f2 : SAM 27 t u) (f3 : SAM 28 t u) (f4 : SAM 29 t u) : LSN lo hi u :=
  ⟨vsq_c h (hc2.trans hc.symm) e1 e2 f0 f1 f2 f3 f4, mtq_c g (hd2.trans hd.symm) e3 e4 rfl (fun _ => rfl) (fun _ => rfl) (fun _ => rfl)⟩
/-- of the streams that come: as it stood -/
def VSE (s : PS) (lo hi : Int64) (t : PS) : Prop := VSQ 26 27 28 29 22 lo hi (iI s 9) s t
theorem vse_of {c : Int} {lo hi : Int64} {s t u : PS} (h : VSQ 26 27 28 29 22 lo hi c s t) (hc : c = iI s 9) (f : iI u 22 = iI t 22 ∧ SAM 26 t u ∧ SAM 27 t u ∧ SAM 28 t u ∧ SAM 29 t u) : VSE s lo hi u := vsq_c h hc.symm (fun _ => rfl) (fun _ => rfl) f.1 f.2.1 f.2.2.1 f.2.2.2.1 f.2.2.2.2
theorem lsn_e {d : Int} {lo hi : Int64} {s u : PS} (h : VSE s lo hi u) (g : MTQ 30 31 32 23 lo hi d s u) (hd : d = iI s 10) (hc2 : iI u 9 = iI s 9) (hd2 : iI u 10 = iI s 10) (e1 : ∀ j, gD u 3 j = gD s 3 j) (e2 : ∀ j, gD u 5 j = gD s 5 j) (e3 : ∀ j, gD u 7 j = gD s 7 j) (e4 : ∀ j, iC u 6 j = iC s 6 j) : LSN lo hi u := lsn_of h g rfl hd hc2 hd2 e1 e2 e3 e4 rfl (fun _ => rfl) (fun _ => rfl) (fun _ => rfl) (fun _ => rfl)
theorem mty_sam {a : Nat} {t t1 t2 t3 t4 : PS} {i1 i2 i3 : Nat} {x1 x2 x3 x4 : Int32} (h1 : t1 = uC t 30 i1 x1) (h2 : t2 = uC t1 31 i2 x2) (h3 : t3 = uC t2 32 i3 x3) (h4 : t4 = uI t3 23 x4) (d : a ≠ 30 ∧ a ≠ 31 ∧ a ≠ 32) : SAM a t t4 := by
  subst h1 h2 h3 h4
  intro j
  show iC (uC (uC (uC t 30 i1 x1) 31 i2 x2) 32 i3 x3) a j = _
  rw [iC_a d.2.2, iC_a d.2.1, iC_a d.1]
theorem mty_vi {t t1 t2 t3 t4 : PS} {i1 i2 i3 : Nat} {x1 x2 x3 x4 : Int32} (h1 : t1 = uC t 30 i1 x1) (h2 : t2 = uC t1 31 i2 x2) (h3 : t3 = uC t2 32 i3 x3) (h4 : t4 = uI t3 23 x4) : iI t4 22 = iI t 22 := by
  subst h1 h2 h3 h4; rfl
theorem bd_mos {s : PS} (I : Bd s) {j : Nat} (hj : j < 288) : 0 ≤ iC s 11 j ∧ iC s 11 j ≤ 50 := I.2 11 j hj
section M87n
variable {l : Launch} {s0 : State} {D : va_G} {tys : List (ClassId × FieldType)} {a0 : Array Value} {A : Nat → Nat} {dT : Nat → ClassId} {s : PS}
set_option maxRecDepth 4000 in
theorem c9_meetsOf3 (G : GX l s0 D tys a0 dT) (I : Bd s) {x y z : Int} (p0 : 0 ≤ x ∧ x ≤ 11) (p1 : 0 ≤ y ∧ y ≤ 11) (p2 : 0 ≤ z ∧ z ≤ 1) : CT l s0 D A dT 111 (rmN 111) [.ref (A 3), .int (Int32.ofInt x), .int (Int32.ofInt y), .int (Int32.ofInt z)] s (fun o t => Bd t ∧ Fm [] [] s t ∧ ∃ e : Int64, o = .inl (some (.long e)) ∧ (e = mtF s x y z 7)) := by
  refine ct_ofX G (by decide) (Nat.le_of_ble_eq_true rfl) (fun k X E ET hRt hXt q => ?_)
  show WS k 0 [(0, .ref (A 3)), (1, .int (Int32.ofInt x)), (2, .int (Int32.ofInt y)), (3, .int (Int32.ofInt z))] [] _ 0 0
  have F : Fm [] [] s s := fm_rf _ _ s
  have L26 : ∀ (n : Nat) (t : PS) (xv : Int) (yv : Int) (zv : Int) (un : Int64) (g : Int), Bd t → Fm [] [] s t → (un = mtF s x y z (g).toNat) → ((xv = x ∧ yv = y ∧ zv = z) ∧ (0 ≤ xv ∧ xv ≤ 11) ∧ (0 ≤ yv ∧ yv ≤ 11) ∧ (0 ≤ zv ∧ zv ≤ 1) ∧ 0 ≤ g ∧ g ≤ 7) → (7 - g : Int).toNat < n → (∀ (t' : PS) (un' : Int64) (g' : Int), Bd t' → Fm [] [] s t' → (un' = mtF s x y z 7) → (0 ≤ g') → WS k 88 [(0, .ref (A 3)), (1, .int (Int32.ofInt xv)), (2, .int (Int32.ofInt yv)), (3, .int (Int32.ofInt zv)), (4, .long un'), (6, .int (Int32.ofInt g'))] [] (Wd A dT t') 0 0) → WS k 26 [(0, .ref (A 3)), (1, .int (Int32.ofInt xv)), (2, .int (Int32.ofInt yv)), (3, .int (Int32.ofInt zv)), (4, .long un), (6, .int (Int32.ofInt g))] [] (Wd A dT t) 0 0 := by
    intro n
    induction n with
    | zero =>
      intro t xv yv zv un g I F hq hi hm kx
      exact absurd hm (Nat.not_lt_zero _)
    | succ n ih =>
      intro t xv yv zv un g I F hq hi hm kx
      refine z_load X (x := g) rfl (List.Mem.tail _ (List.Mem.tail _ (List.Mem.tail _ (List.Mem.tail _ (List.Mem.tail _ (List.Mem.head _)))))) (z_bipush X rfl (z_icmp_ge X (t := 88) rfl rfl ⟨by first | exact oq_fa4e5087 hi.2.2.2.2.1 | omega, by first | exact oq_0e78ca7d hi.2.2.2.2.2 | omega⟩ (by decide) (fun g1001 => ?_) (fun g1001 => ?_)))
      ·
        refine WS_pq [0, 1, 2, 3, 4, 5] (lv' := [(0, .ref (A 3)), (1, .int (Int32.ofInt xv)), (2, .int (Int32.ofInt yv)), (3, .int (Int32.ofInt zv)), (4, .long un), (6, .int (Int32.ofInt g))]) rfl ?_
        exact kx _ un g I F (by rw [hq, show g = 7 by first | exact oq_ef1de250 g1001 hi.2.2.2.2.2 | omega]; rfl) (by first | exact hi.2.2.2.2.1 | omega)
      ·
        refine w_lload X.1 (ax_d X (show cdA 111 33 = some (.lload 4, 2, 0, 0, 0) from rfl)) (x := un) (List.Mem.tail _ (List.Mem.tail _ (List.Mem.tail _ (List.Mem.tail _ (List.Mem.head _))))) (w_lconst X.1 (ax_d X (show cdA 111 35 = some (.lconst 0, 1, 0, 0, 0) from rfl)) (z := (0 : Int64)) (by decide) (z_jcmp X rfl (fun z1002 => ?_) (fun z1002 c1003 hc1003 ic1003 => ?_)))
        ·
          refine z_if_eq X (t := 88) rfl rfl (by decide) (fun g1004 => ?_) (fun g1004 => ?_)
          ·
            refine WS_pq [0, 1, 2, 3, 4, 5] (lv' := [(0, .ref (A 3)), (1, .int (Int32.ofInt xv)), (2, .int (Int32.ofInt yv)), (3, .int (Int32.ofInt zv)), (4, .long un), (6, .int (Int32.ofInt g))]) rfl ?_
            exact kx _ un g I F (mt_out hq z1002 (by first | exact hi.2.2.2.2.1 | omega) (by first | exact hi.2.2.2.2.2 | omega)) (by first | exact hi.2.2.2.2.1 | omega)
          ·
            exfalso
            omega
        ·
          refine z_if_eq X (t := 88) rfl rfl ⟨by first | exact hc1003.1 | omega, by first | exact hc1003.2 | omega⟩ (fun g1005 => ?_) (fun g1005 => ?_)
          ·
            refine WS_pq [0, 1, 2, 3, 4, 5] (lv' := [(0, .ref (A 3)), (1, .int (Int32.ofInt xv)), (2, .int (Int32.ofInt yv)), (3, .int (Int32.ofInt zv)), (4, .long un), (6, .int (Int32.ofInt g))]) rfl ?_
            exact kx _ un g I F (by rw [hq, show g = 7 by first | exact oq_4883396f g1005 ic1003 | omega]; rfl) (by first | exact hi.2.2.2.2.1 | omega)
          ·
            refine w_lload X.1 (ax_d X (show cdA 111 40 = some (.lload 4, 2, 0, 0, 0) from rfl)) (x := un) (List.Mem.tail _ (List.Mem.tail _ (List.Mem.tail _ (List.Mem.tail _ (List.Mem.head _))))) (z_aload_n X (x := A 3) rfl (List.Mem.head _) (s_getR X 3 rfl (c518_ok rfl) rfl rfl (z_load_n X (x := xv) rfl (List.Mem.tail _ (List.Mem.head _)) (z_bipush X rfl (z_mul X rfl (z_load X (x := g) rfl (List.Mem.tail _ (List.Mem.tail _ (List.Mem.tail _ (List.Mem.tail _ (List.Mem.tail _ (List.Mem.head _)))))) (z_add X rfl (z_const X rfl (z_mul X rfl (z_load_n X (x := zv) rfl (List.Mem.tail _ (List.Mem.tail _ (List.Mem.tail _ (List.Mem.head _)))) (z_add X rfl ?_)))))))))))
            refine z_lalE X 7 rfl (by decide) rfl (by first | exact oq_2eda81cf hi.2.2.2.2.1 hi.2.1.1 hi.2.2.2.1.1 | omega) (show ((((xv * 7) + g) * 2) + zv) < 168 by first | exact oq_be9e68b2 hi.2.1.2 g1001 hi.2.2.2.1.2 | omega) (by decide) (z_aload_n X (x := A 3) rfl (List.Mem.head _) (s_getR X 3 rfl (c518_ok rfl) rfl rfl (z_load_n X (x := yv) rfl (List.Mem.tail _ (List.Mem.tail _ (List.Mem.head _))) (z_bipush X rfl (z_mul X rfl (z_load X (x := g) rfl (List.Mem.tail _ (List.Mem.tail _ (List.Mem.tail _ (List.Mem.tail _ (List.Mem.tail _ (List.Mem.head _)))))) (z_add X rfl (z_const X rfl (z_mul X rfl (z_load_n X (x := zv) rfl (List.Mem.tail _ (List.Mem.tail _ (List.Mem.tail _ (List.Mem.head _)))) (z_add X rfl ?_)))))))))))
            refine z_lalE X 7 rfl (by decide) rfl (by first | exact oq_2eda81cf hi.2.2.2.2.1 hi.2.2.1.1 hi.2.2.2.1.1 | omega) (show ((((yv * 7) + g) * 2) + zv) < 168 by first | exact oq_be9e68b2 hi.2.2.1.2 g1001 hi.2.2.2.1.2 | omega) (by decide) (w_land X.1 (ax_d X (show cdA 111 74 = some (.land, 1, 0, 0, 0) from rfl)) (z_ldc2E X rfl (w_lxor X.1 (ax_d X (show cdA 111 78 = some (.lxor, 1, 0, 0, 0) from rfl)) (w_land X.1 (ax_d X (show cdA 111 79 = some (.land, 1, 0, 0, 0) from rfl)) (w_lstore X.1 (lv' := [(4, .long (un &&& (((gD t 4 (((((xv * 7) + g) * 2) + zv)).toNat) &&& (gD t 4 (((((yv * 7) + g) * 2) + zv)).toNat)) ^^^ (lN 18446744073709551615)))), (0, .ref (A 3)), (1, .int (Int32.ofInt xv)), (2, .int (Int32.ofInt yv)), (3, .int (Int32.ofInt zv)), (6, .int (Int32.ofInt g))]) (ax_d X (show cdA 111 80 = some (.lstore 4, 2, 0, 0, 0) from rfl)) (by rw [X.2.1.2.2]; decide) (fun _ h => h) (z_inc X (x := g) (lv' := [(6, .int (Int32.ofInt (g + 1))), (4, .long (un &&& (((gD t 4 (((((xv * 7) + g) * 2) + zv)).toNat) &&& (gD t 4 (((((yv * 7) + g) * 2) + zv)).toNat)) ^^^ (lN 18446744073709551615)))), (0, .ref (A 3)), (1, .int (Int32.ofInt xv)), (2, .int (Int32.ofInt yv)), (3, .int (Int32.ofInt zv))]) rfl (by decide) (List.Mem.tail _ (List.Mem.tail _ (List.Mem.tail _ (List.Mem.tail _ (List.Mem.tail _ (List.Mem.head _)))))) (fun _ h => h) (z_goto X (t := 26) rfl rfl (WS_pq [2, 3, 4, 5, 1, 0] (lv' := [(0, .ref (A 3)), (1, .int (Int32.ofInt xv)), (2, .int (Int32.ofInt yv)), (3, .int (Int32.ofInt zv)), (4, .long (un &&& (((gD t 4 (((((xv * 7) + g) * 2) + zv)).toNat) &&& (gD t 4 (((((yv * 7) + g) * 2) + zv)).toNat)) ^^^ (lN 18446744073709551615)))), (6, .int (Int32.ofInt (g + 1)))]) rfl ?_))))))))
            exact ih _ xv yv zv (un &&& (((gD t 4 (((((xv * 7) + g) * 2) + zv)).toNat) &&& (gD t 4 (((((yv * 7) + g) * 2) + zv)).toNat)) ^^^ (lN 18446744073709551615))) (g + 1) I F (by rw [← show xv = x by first | exact hi.1.1 | (clear g1005; omega) | omega, ← show yv = y by first | exact hi.1.2.1 | (clear g1005; omega) | omega, ← show zv = z by first | exact hi.1.2.2 | (clear g1005; omega) | omega] at hq ⊢; exact mt_up hq (fun j => fm_dd F (by decide)) (by first | exact hi.2.2.2.2.1 | (clear g1005; omega) | omega)) (by first | exact ⟨And.intro (hi.1.1) (And.intro (hi.1.2.1) (hi.1.2.2)), And.intro (hi.2.1.1) (hi.2.1.2), And.intro (hi.2.2.1.1) (hi.2.2.1.2), And.intro (hi.2.2.2.1.1) (hi.2.2.2.1.2), oq_54f49eb5 hi.2.2.2.2.1, oq_c22ff062 g1001⟩ | omega) (by first | exact qk_me hm (by decide) (oq_4b3bf825 g1001) | exact oq_b624e90c g1001 hm | omega) kx
  refine z_aload_n X (x := A 3) rfl (List.Mem.head _) (s_getR X 3 rfl (c518_ok rfl) rfl rfl (z_load_n X (x := x) rfl (List.Mem.tail _ (List.Mem.head _)) (z_const X rfl (z_mul X rfl (z_load_n X (x := z) rfl (List.Mem.tail _ (List.Mem.tail _ (List.Mem.tail _ (List.Mem.head _)))) (z_add X rfl (z_lalE X 6 rfl (by decide) rfl (by first | exact oq_ff754f74 p0.1 p2.1 | omega) (show ((x * 2) + z) < 24 by first | exact oq_7b14761e p0.2 p2.2 | omega) (by decide) (z_aload_n X (x := A 3) rfl (List.Mem.head _) (s_getR X 3 rfl (c518_ok rfl) rfl rfl (z_load_n X (x := y) rfl (List.Mem.tail _ (List.Mem.tail _ (List.Mem.head _))) (z_const X rfl ?_)))))))))))
  refine z_mul X rfl (z_load_n X (x := z) rfl (List.Mem.tail _ (List.Mem.tail _ (List.Mem.tail _ (List.Mem.head _)))) (z_add X rfl (z_lalE X 6 rfl (by decide) rfl (by first | exact oq_ff754f74 p1.1 p2.1 | omega) (show ((y * 2) + z) < 24 by first | exact oq_7b14761e p1.2 p2.2 | omega) (by decide) (w_land X.1 (ax_d X (show cdA 111 20 = some (.land, 1, 0, 0, 0) from rfl)) (w_lstore X.1 (lv' := [(4, .long ((gD s 3 (((x * 2) + z)).toNat) &&& (gD s 3 (((y * 2) + z)).toNat))), (0, .ref (A 3)), (1, .int (Int32.ofInt x)), (2, .int (Int32.ofInt y)), (3, .int (Int32.ofInt z))]) (ax_d X (show cdA 111 21 = some (.lstore 4, 2, 0, 0, 0) from rfl)) (by rw [X.2.1.2.2]; decide) (fun _ h => h) (z_const X rfl (z_store X (lv' := [(6, .int (Int32.ofInt 0)), (4, .long ((gD s 3 (((x * 2) + z)).toNat) &&& (gD s 3 (((y * 2) + z)).toNat))), (0, .ref (A 3)), (1, .int (Int32.ofInt x)), (2, .int (Int32.ofInt y)), (3, .int (Int32.ofInt z))]) rfl (by decide) (fun _ h => h) (WS_pq [2, 3, 4, 5, 1, 0] (lv' := [(0, .ref (A 3)), (1, .int (Int32.ofInt x)), (2, .int (Int32.ofInt y)), (3, .int (Int32.ofInt z)), (4, .long ((gD s 3 (((x * 2) + z)).toNat) &&& (gD s 3 (((y * 2) + z)).toNat))), (6, .int (Int32.ofInt 0))]) rfl (L26 ((7 - 0 : Int).toNat + 1) s x y z ((gD s 3 (((x * 2) + z)).toNat) &&& (gD s 3 (((y * 2) + z)).toNat)) 0 I F rfl (by first | exact ⟨And.intro (by decide) (And.intro (by decide) (by decide)), And.intro (p0.1) (p0.2), And.intro (p1.1) (p1.2), And.intro (p2.1) (p2.2), by decide, by decide⟩ | exact And.intro (And.intro (rfl) (And.intro (rfl) (rfl))) (And.intro (And.intro (p0.1) (p0.2)) (And.intro (And.intro (p1.1) (p1.2)) (And.intro (And.intro (p2.1) (p2.2)) (And.intro (oq_0fe6b7e2) (oq_95e5e7fc))))) | omega) (Nat.lt_succ_self _) ?_)))))))))
  intro s1 x2 x3 Is1 Fs1 Qs1 hs1
  exact w_lload X.1 (ax_d X (show cdA 111 88 = some (.lload 4, 2, 0, 0, 0) from rfl)) (x := x2) (List.Mem.tail _ (List.Mem.tail _ (List.Mem.tail _ (List.Mem.tail _ (List.Mem.head _))))) (w_lret X.1 q hRt (ax_d X (show cdA 111 90 = some (.lreturn, 1, 0, 0, 0) from rfl)) (Nat.zero_le _) (Nat.zero_le _) ⟨_, rfl, Is1, Fs1, x2, rfl, Qs1⟩)
set_option maxRecDepth 4000 in
theorem c9_pairUp3 (G : GX l s0 D tys a0 dT) (I : Bd s)  : CT l s0 D A dT 110 (rmN 110) [.ref (A 3)] s (fun o t => Bd t ∧ Fm [10] [6, 1007] s t ∧ o = .inl none ∧ (CPL t)) := by
  refine ct_ofX G (by decide) (Nat.le_of_ble_eq_true rfl) (fun k X E ET hRt hXt q => ?_)
  show WS k 0 [(0, .ref (A 3))] [] _ 0 0
  have F : Fm [10] [6, 1007] s s := fm_rf _ _ s
  have b1 := bi_9 I
  have b2 := bi_10 I
  have L19 : ∀ (n : Nat) (t : PS) (a b : Int), Bd t → Fm [10] [6, 1007] s t → (CPP (iI s 9) a b s t) → ((0 ≤ a ∧ a + 1 ≤ b) ∧ b ≤ iI s 9 ∧ iI t 9 = iI s 9 ∧ iI s 9 ≤ 12) → (12 - b : Int).toNat < n → (∀ (t' : PS) (b' : Int), Bd t' → Fm [10] [6, 1007] s t' → (CPP (iI s 9) a b' s t') → ((0 ≤ a ∧ a + 1 ≤ iI s 9) ∧ b' = iI s 9 ∧ iI t' 9 = iI s 9) → WS k 120 [(0, .ref (A 3)), (1, .int (Int32.ofInt a)), (2, .int (Int32.ofInt b'))] [] (Wd A dT t') 0 0) → WS k 19 [(0, .ref (A 3)), (1, .int (Int32.ofInt a)), (2, .int (Int32.ofInt b))] [] (Wd A dT t) 0 0 := by
    intro n
    induction n with
    | zero =>
      intro t a b I F hq hi hm kx
      exact absurd hm (Nat.not_lt_zero _)
    | succ n ih =>
      intro t a b I F hq hi hm kx
      have b1001 := bi_9 I
      have b1002 := bi_10 I
      refine z_load_n X (x := b) rfl (List.Mem.tail _ (List.Mem.tail _ (List.Mem.head _))) (z_aload_n X (x := A 3) rfl (List.Mem.head _) (z_getI X 3 rfl (c518_ok rfl) rfl rfl ?_))
      have b1003 := bi_9 I
      refine z_icmp_ge X (t := 120) rfl rfl ⟨by first | exact oq_7a2963c7 hi.1.2 hi.1.1 | omega, by first | exact oq_39d2cc6e hi.2.1 hi.2.2.2 | omega⟩ (rng_to _) (fun g1004 => ?_) (fun g1004 => ?_)
      ·
        refine WS_pq [0, 1, 2] (lv' := [(0, .ref (A 3)), (1, .int (Int32.ofInt a)), (2, .int (Int32.ofInt b))]) rfl ?_
        exact kx _ b I F hq (by first | exact ⟨And.intro (hi.1.1) (oq_091fd3db hi.1.2 hi.2.1), oq_537ca82a hi.2.1 g1004 hi.2.2.1, hi.2.2.1⟩ | omega)
      ·
        refine z_aload_n X (x := A 3) rfl (List.Mem.head _) (z_load_n X (x := a) rfl (List.Mem.tail _ (List.Mem.head _)) (z_load_n X (x := b) rfl (List.Mem.tail _ (List.Mem.tail _ (List.Mem.head _))) (z_const X rfl (z_callV X 3 (rm := rmN 111) (As := [.int (Int32.ofInt a), .int (Int32.ofInt b), .int (Int32.ofInt 0)]) (st := []) rfl rfl (by decide) rfl (by rw [E.1, E.2.1, E.2.2.1]; exact c9_meetsOf3 G I (by first | exact ⟨hi.1.1, oq_c0b5fb85 hi.1.2 g1004 b1003.2⟩ | omega) (by first | exact ⟨oq_85bc47d7 hi.1.2 hi.1.1, oq_e4d7f3c5 g1004 b1003.2⟩ | omega) (by first | exact ⟨by decide, by decide⟩ | omega)) ⟨by rw [E.2.2.2]; exact (show (rmN 111).frames + 1 ≤ (rmN 110).frames by decide), by rw [E.2.2.2]; exact (show 8 + (mNL (miB 111) + 11) + (rmN 111).locals ≤ (rmN 110).locals by decide), by rw [E.2.2.2]; exact (show 0 + (rmN 111).cells ≤ (rmN 110).cells by decide), by rw [E.2.2.2]; exact (show 0 + (rmN 111).slots ≤ (rmN 110).slots by decide)⟩ (Nat.le_of_ble_eq_true rfl) (fun vv s1005 hq => ?_) (fun ee s1005 hq => ?_)))))
        rotate_left
        · obtain ⟨Is1005, Fs1005, e1006, hv, hps1005⟩ := hq; cases hv
        obtain ⟨Is1005, Fs1005, e1006, hv, hps1005⟩ := hq
        cases hv
        have Gs1005 := fm_tq F Fs1005 rfl rfl
        have ws1005_9 : iI s1005 9 = iI t 9 := fm_iq Fs1005 rfl
        have ws1005_10 : iI s1005 10 = iI t 10 := fm_iq Fs1005 rfl
        show WS k 34 [(0, .ref (A 3)), (1, .int (Int32.ofInt a)), (2, .int (Int32.ofInt b))] [.long e1006] (Wd A dT s1005) 0 0
        refine w_lstore_n X.1 (lv' := [(3, .long e1006), (0, .ref (A 3)), (1, .int (Int32.ofInt a)), (2, .int (Int32.ofInt b))]) (ax_d X (show cdA 110 34 = some (.lstore_n 3, 1, 0, 0, 0) from rfl)) (by rw [X.2.1.2.2]; decide) (fun _ h => h) (z_aload_n X (x := A 3) rfl (List.Mem.tail _ (List.Mem.head _)) (z_load_n X (x := a) rfl (List.Mem.tail _ (List.Mem.tail _ (List.Mem.head _))) (z_load_n X (x := b) rfl (List.Mem.tail _ (List.Mem.tail _ (List.Mem.tail _ (List.Mem.head _)))) (z_const X rfl (z_callV X 3 (rm := rmN 111) (As := [.int (Int32.ofInt a), .int (Int32.ofInt b), .int (Int32.ofInt 1)]) (st := []) rfl rfl (by decide) rfl (by rw [E.1, E.2.1, E.2.2.1]; exact c9_meetsOf3 G Is1005 (by first | exact ⟨hi.1.1, oq_c0b5fb85 hi.1.2 g1004 b1003.2⟩ | omega) (by first | exact ⟨oq_85bc47d7 hi.1.2 hi.1.1, oq_e4d7f3c5 g1004 b1003.2⟩ | omega) (by first | exact ⟨by decide, by decide⟩ | omega)) ⟨by rw [E.2.2.2]; exact (show (rmN 111).frames + 1 ≤ (rmN 110).frames by decide), by rw [E.2.2.2]; exact (show 8 + (mNL (miB 111) + 11) + (rmN 111).locals ≤ (rmN 110).locals by decide), by rw [E.2.2.2]; exact (show 0 + (rmN 111).cells ≤ (rmN 110).cells by decide), by rw [E.2.2.2]; exact (show 0 + (rmN 111).slots ≤ (rmN 110).slots by decide)⟩ (Nat.le_of_ble_eq_true rfl) (fun vv s1007 hq => ?_) (fun ee s1007 hq => ?_))))))
        rotate_left
        · obtain ⟨Is1007, Fs1007, e1008, hv, hps1007⟩ := hq; cases hv
        obtain ⟨Is1007, Fs1007, e1008, hv, hps1007⟩ := hq
        cases hv
        have Gs1007 := fm_tq Gs1005 Fs1007 rfl rfl
        have ws1007_9 : iI s1007 9 = iI s1005 9 := fm_iq Fs1007 rfl
        have ws1007_10 : iI s1007 10 = iI s1005 10 := fm_iq Fs1007 rfl
        show WS k 42 [(3, .long e1006), (0, .ref (A 3)), (1, .int (Int32.ofInt a)), (2, .int (Int32.ofInt b))] [.long e1008] (Wd A dT s1007) 0 0
        refine w_lstore X.1 (lv' := [(5, .long e1008), (3, .long e1006), (0, .ref (A 3)), (1, .int (Int32.ofInt a)), (2, .int (Int32.ofInt b))]) (ax_d X (show cdA 110 42 = some (.lstore 5, 2, 0, 0, 0) from rfl)) (by rw [X.2.1.2.2]; decide) (fun _ h => h) (w_lload_n X.1 (ax_d X (show cdA 110 44 = some (.lload_n 3, 1, 0, 0, 0) from rfl)) (x := e1006) (List.Mem.tail _ (List.Mem.head _)) (w_lload X.1 (ax_d X (show cdA 110 45 = some (.lload 5, 2, 0, 0, 0) from rfl)) (x := e1008) (List.Mem.head _) (w_lor X.1 (ax_d X (show cdA 110 47 = some (.lor, 1, 0, 0, 0) from rfl)) (w_lconst X.1 (ax_d X (show cdA 110 48 = some (.lconst 0, 1, 0, 0, 0) from rfl)) (z := (0 : Int64)) (by decide) (z_jcmp X rfl (fun z1009 => ?_) (fun z1009 c1010 hc1010 ic1010 => ?_))))))
        ·
          refine z_if_eq X (t := 114) rfl rfl (by decide) (fun g1011 => ?_) (fun g1011 => ?_)
          ·
            refine z_inc X (x := b) (lv' := [(2, .int (Int32.ofInt (b + 1))), (5, .long e1008), (3, .long e1006), (0, .ref (A 3)), (1, .int (Int32.ofInt a))]) rfl (by decide) (List.Mem.tail _ (List.Mem.tail _ (List.Mem.tail _ (List.Mem.tail _ (List.Mem.head _))))) (fun _ h => h) (z_goto X (t := 19) rfl rfl (WS_pq [3, 4, 0] (lv' := [(0, .ref (A 3)), (1, .int (Int32.ofInt a)), (2, .int (Int32.ofInt (b + 1)))]) rfl ?_))
            exact ih _ a (b + 1) Is1007 Gs1007 (cpp_n (cpp_c (cpp_c hq Fs1005 (by decide)) Fs1007 (by decide)) (by first | exact hi.1.1 | omega) (by first | exact oq_c2cbe6f3 hi.1.2 | omega) (hps1005.trans (mt_c (fun j => fm_dd F (by decide)) (fun j => fm_dd F (by decide)) 7)) (hps1007.trans (mt_c (fun j => fm_dd Gs1005 (by decide)) (fun j => fm_dd Gs1005 (by decide)) 7)) z1009) (by first | exact ⟨And.intro (hi.1.1) (oq_c88d0a11 hi.1.2), oq_8a89b3ae g1004 hi.2.2.1, oq_878618b1 ws1007_9 ws1005_9 hi.2.2.1, hi.2.2.2⟩ | omega) (by first | exact qk_me hm (by decide) (oq_b575e8c1 g1004 b1003.2) | exact oq_d41732c5 g1004 b1003.2 hm | omega) kx
          ·
            exfalso
            omega
        ·
          refine z_if_eq X (t := 114) rfl rfl ⟨by first | exact hc1010.1 | omega, by first | exact hc1010.2 | omega⟩ (fun g1012 => ?_) (fun g1012 => ?_)
          ·
            refine z_inc X (x := b) (lv' := [(2, .int (Int32.ofInt (b + 1))), (5, .long e1008), (3, .long e1006), (0, .ref (A 3)), (1, .int (Int32.ofInt a))]) rfl (by decide) (List.Mem.tail _ (List.Mem.tail _ (List.Mem.tail _ (List.Mem.tail _ (List.Mem.head _))))) (fun _ h => h) (z_goto X (t := 19) rfl rfl (WS_pq [3, 4, 0] (lv' := [(0, .ref (A 3)), (1, .int (Int32.ofInt a)), (2, .int (Int32.ofInt (b + 1)))]) rfl ?_))
            exact ih _ a (b + 1) Is1007 Gs1007 (by exfalso; have z := (cpp_c (cpp_c hq Fs1005 (by decide)) Fs1007 (by decide)).1; have pb := pr_bd a.toNat (by first | exact oq_c33c854b g1004 b1003.2 hi.1.2 | omega); omega) (by first | exact ⟨And.intro (hi.1.1) (oq_c88d0a11 hi.1.2), oq_8a89b3ae g1004 hi.2.2.1, oq_878618b1 ws1007_9 ws1005_9 hi.2.2.1, hi.2.2.2⟩ | omega) (by first | exact qk_me hm (by decide) (oq_b575e8c1 g1004 b1003.2) | exact oq_d41732c5 g1004 b1003.2 hm | omega) kx
          ·
            refine z_aload_n X (x := A 3) rfl (List.Mem.tail _ (List.Mem.tail _ (List.Mem.head _))) (z_getI X 3 rfl (c518_ok rfl) rfl rfl ?_)
            have b1013 := bi_10 Is1007
            refine z_bipush X rfl (z_icmp_ge X (t := 114) rfl rfl (rng_to _) (by decide) (fun g1014 => ?_) (fun g1014 => ?_))
            ·
              refine z_inc X (x := b) (lv' := [(2, .int (Int32.ofInt (b + 1))), (5, .long e1008), (3, .long e1006), (0, .ref (A 3)), (1, .int (Int32.ofInt a))]) rfl (by decide) (List.Mem.tail _ (List.Mem.tail _ (List.Mem.tail _ (List.Mem.tail _ (List.Mem.head _))))) (fun _ h => h) (z_goto X (t := 19) rfl rfl (WS_pq [3, 4, 0] (lv' := [(0, .ref (A 3)), (1, .int (Int32.ofInt a)), (2, .int (Int32.ofInt (b + 1)))]) rfl ?_))
              exact ih _ a (b + 1) Is1007 Gs1007 (by exfalso; have z := (cpp_c (cpp_c hq Fs1005 (by decide)) Fs1007 (by decide)).1; have pb := pr_bd a.toNat (by first | exact oq_c33c854b g1004 b1003.2 hi.1.2 | (clear g1012; omega) | omega); omega) (by first | exact ⟨And.intro (hi.1.1) (oq_c88d0a11 hi.1.2), oq_8a89b3ae g1004 hi.2.2.1, oq_878618b1 ws1007_9 ws1005_9 hi.2.2.1, hi.2.2.2⟩ | omega) (by first | exact qk_me hm (by decide) (oq_b575e8c1 g1004 b1003.2) | exact oq_d41732c5 g1004 b1003.2 hm | omega) kx
            ·
              refine z_aload_n X (x := A 3) rfl (List.Mem.tail _ (List.Mem.tail _ (List.Mem.head _))) (s_getR X 3 rfl (c518_ok rfl) rfl rfl (z_aload_n X (x := A 3) rfl (List.Mem.tail _ (List.Mem.tail _ (List.Mem.head _))) (z_getI X 3 rfl (c518_ok rfl) rfl rfl ?_)))
              have b1015 := bi_10 Is1007
              refine z_load_n X (x := a) rfl (List.Mem.tail _ (List.Mem.tail _ (List.Mem.tail _ (List.Mem.head _)))) (z_bipush X rfl (z_mul X rfl (z_load_n X (x := b) rfl (List.Mem.tail _ (List.Mem.tail _ (List.Mem.tail _ (List.Mem.tail _ (List.Mem.head _))))) (z_add X rfl (z_ast X 9 rfl (c518_ok rfl) rfl (by first | exact b1015.1 | omega) (show (iI s1007 10) < 66 by first | exact g1014 | omega) (cbig_ok rfl) (wd_gen (fun s1016 hs1016 => ?_)))))))
              have Is1016 : Bd s1016 := eqB hs1016 (bd_C Is1007 (show (0 : Int) ≤ ((a * 12) + b) ∧ ((a * 12) + b) ≤ 143 by first | exact ⟨oq_938dc1a3 hi.1.1 hi.1.2, oq_86fb23b7 hi.1.2 g1004 b1003.2⟩ | omega) ⟨by first | exact oq_805207af hi.1.1 hi.1.2 | omega, by first | exact oq_2f3ce8a7 hi.1.2 g1004 b1003.2 | omega⟩)
              have Fs1016 := eqF hs1016 (fm_C Gs1007 (inl_ok (a := 6) rfl))
              have ws1016_9 : iI s1016 9 = iI s1007 9 := eqI hs1016 rfl
              have ws1016_10 : iI s1016 10 = iI s1007 10 := eqI hs1016 rfl
              refine z_aload_n X (x := A 3) rfl (List.Mem.tail _ (List.Mem.tail _ (List.Mem.head _))) (s_getR X 3 rfl (c518_ok rfl) rfl rfl (z_aload_n X (x := A 3) rfl (List.Mem.tail _ (List.Mem.tail _ (List.Mem.head _))) (z_getI X 3 rfl (c518_ok rfl) rfl rfl ?_)))
              have b1017 := bi_10 Is1016
              refine z_const X rfl (z_mul X rfl (w_lload_n X.1 (ax_d X (show cdA 110 87 = some (.lload_n 3, 1, 0, 0, 0) from rfl)) (x := e1006) (List.Mem.tail _ (List.Mem.head _)) (z_last X 10 rfl (c518_ok rfl) rfl (by first | exact oq_cfc6ac54 b1017.1 | omega) (show ((iI s1016 10) * 2) < 132 by first | exact oq_0ba3fcc8 ws1016_10 g1014 | omega) (cbig_ok rfl) (wd_gen (fun s1018 hs1018 => ?_)))))
              have Is1018 : Bd s1018 := eqB hs1018 (bd_D Is1016)
              have Fs1018 : Fm [10] [6, 1007] s s1018 := by rw [hs1018]; exact fm_D Fs1016 (show 7 + 1000 ∈ _ by decide)
              have ws1018_9 : iI s1018 9 = iI s1016 9 := eqI hs1018 rfl
              have ws1018_10 : iI s1018 10 = iI s1016 10 := eqI hs1018 rfl
              refine z_aload_n X (x := A 3) rfl (List.Mem.tail _ (List.Mem.tail _ (List.Mem.head _))) (s_getR X 3 rfl (c518_ok rfl) rfl rfl (z_aload_n X (x := A 3) rfl (List.Mem.tail _ (List.Mem.tail _ (List.Mem.head _))) (z_getI X 3 rfl (c518_ok rfl) rfl rfl ?_)))
              have b1019 := bi_10 Is1018
              refine z_const X rfl (z_mul X rfl (z_const X rfl (z_add X rfl (w_lload X.1 (ax_d X (show cdA 110 101 = some (.lload 5, 2, 0, 0, 0) from rfl)) (x := e1008) (List.Mem.head _) (z_last X 10 rfl (c518_ok rfl) rfl (by first | exact oq_8a3e0277 b1019.1 | omega) (show (((iI s1018 10) * 2) + 1) < 132 by first | exact oq_1191648c ws1018_10 ws1016_10 g1014 | omega) (cbig_ok rfl) (wd_gen (fun s1020 hs1020 => ?_)))))))
              have Is1020 : Bd s1020 := eqB hs1020 (bd_D Is1018)
              have Fs1020 : Fm [10] [6, 1007] s s1020 := by rw [hs1020]; exact fm_D Fs1018 (show 7 + 1000 ∈ _ by decide)
              have ws1020_9 : iI s1020 9 = iI s1018 9 := eqI hs1020 rfl
              have ws1020_10 : iI s1020 10 = iI s1018 10 := eqI hs1020 rfl
              refine z_aload_n X (x := A 3) rfl (List.Mem.tail _ (List.Mem.tail _ (List.Mem.head _))) (w_dup X.1 (ax_d X (show cdA 110 105 = some (.dup, 1, 0, 0, 0) from rfl)) rfl (z_getI X 3 rfl (c518_ok rfl) rfl rfl ?_))
              have b1021 := bi_10 Is1020
              refine z_const X rfl (z_add X rfl (s_putI X 3 rfl (c518_ok rfl) rfl rfl (by decide) rfl rfl rfl (wd_gen (fun s1022 hs1022 => ?_))))
              have Is1022 : Bd s1022 := eqB hs1022 (bd_I Is1020 (show (0 : Int) ≤ ((iI s1020 10) + 1) ∧ ((iI s1020 10) + 1) ≤ 66 by first | exact ⟨oq_54f49eb5 b1021.1, oq_98f08201 ws1020_10 ws1018_10 ws1016_10 g1014⟩ | omega) ⟨by first | exact oq_74de1e16 b1021.1 | omega, by first | exact oq_d99c2177 b1021.2 | omega⟩)
              have Fs1022 := eqF hs1022 (fm_I Fs1020 (inl_ok (a := 10) rfl))
              have vs1022 : iI s1022 10 = ((iI s1020 10) + 1) := eqI hs1022 (iI_u ⟨by first | exact oq_74de1e16 b1021.1 | omega, by first | exact oq_d99c2177 b1021.2 | omega⟩)
              have ws1022_9 : iI s1022 9 = iI s1020 9 := eqI hs1022 rfl
              refine z_inc X (x := b) (lv' := [(2, .int (Int32.ofInt (b + 1))), (5, .long e1008), (3, .long e1006), (0, .ref (A 3)), (1, .int (Int32.ofInt a))]) rfl (by decide) (List.Mem.tail _ (List.Mem.tail _ (List.Mem.tail _ (List.Mem.tail _ (List.Mem.head _))))) (fun _ h => h) (z_goto X (t := 19) rfl rfl (WS_pq [3, 4, 0] (lv' := [(0, .ref (A 3)), (1, .int (Int32.ofInt a)), (2, .int (Int32.ofInt (b + 1)))]) rfl ?_))
              exact ih _ a (b + 1) Is1022 Fs1022 (cpp_y (cpp_c (cpp_c hq Fs1005 (by decide)) Fs1007 (by decide)) (by first | exact hi.1.1 | (clear g1012; omega) | omega) (by first | exact oq_c2cbe6f3 hi.1.2 | (clear g1012; omega) | omega) (by first | exact oq_e4d7f3c5 g1004 b1003.2 | (clear g1012; omega) | omega) (hps1005.trans (mt_c (fun j => fm_dd F (by decide)) (fun j => fm_dd F (by decide)) 7)) (hps1007.trans (mt_c (fun j => fm_dd Gs1005 (by decide)) (fun j => fm_dd Gs1005 (by decide)) 7)) hs1016 hs1018 hs1020 hs1022) (by first | exact ⟨And.intro (hi.1.1) (oq_c88d0a11 hi.1.2), oq_8a89b3ae g1004 hi.2.2.1, oq_cc03667a ws1022_9 ws1020_9 ws1018_9 ws1016_9 ws1007_9 ws1005_9 hi.2.2.1, hi.2.2.2⟩ | omega) (by first | exact qk_me hm (by decide) (oq_b575e8c1 g1004 b1003.2) | exact oq_d41732c5 g1004 b1003.2 hm | omega) kx
  have L7 : ∀ (n : Nat) (t : PS) (a : Int), Bd t → Fm [10] [6, 1007] s t → (CPO (iI s 9) a s t) → ((0 ≤ a ∧ a ≤ iI s 9) ∧ iI t 9 = iI s 9 ∧ iI s 9 ≤ 12) → (12 - a : Int).toNat < n → (∀ (t' : PS) (a' : Int), Bd t' → Fm [10] [6, 1007] s t' → (CPO (iI s 9) a' s t') → (a' = iI s 9 ∧ iI t' 9 = iI s 9) → WS k 126 [(0, .ref (A 3)), (1, .int (Int32.ofInt a'))] [] (Wd A dT t') 0 0) → WS k 7 [(0, .ref (A 3)), (1, .int (Int32.ofInt a))] [] (Wd A dT t) 0 0 := by
    intro n
    induction n with
    | zero =>
      intro t a I F hq hi hm kx
      exact absurd hm (Nat.not_lt_zero _)
    | succ n ih =>
      intro t a I F hq hi hm kx
      have b2001 := bi_9 I
      have b2002 := bi_10 I
      refine z_load_n X (x := a) rfl (List.Mem.tail _ (List.Mem.head _)) (z_aload_n X (x := A 3) rfl (List.Mem.head _) (z_getI X 3 rfl (c518_ok rfl) rfl rfl ?_))
      have b2003 := bi_9 I
      refine z_icmp_ge X (t := 126) rfl rfl ⟨by first | exact oq_fa4e5087 hi.1.1 | omega, by first | exact oq_39d2cc6e hi.1.2 hi.2.2 | omega⟩ (rng_to _) (fun g2004 => ?_) (fun g2004 => ?_)
      ·
        refine WS_pq [0, 1] (lv' := [(0, .ref (A 3)), (1, .int (Int32.ofInt a))]) rfl ?_
        exact kx _ a I F hq (by first | exact ⟨oq_537ca82a hi.1.2 g2004 hi.2.1, hi.2.1⟩ | omega)
      ·
        refine z_load_n X (x := a) rfl (List.Mem.tail _ (List.Mem.head _)) (z_const X rfl (z_add X rfl (z_store_n X (lv' := [(2, .int (Int32.ofInt (a + 1))), (0, .ref (A 3)), (1, .int (Int32.ofInt a))]) rfl (by decide) (fun _ h => h) (WS_pq [1, 2, 0] (lv' := [(0, .ref (A 3)), (1, .int (Int32.ofInt a)), (2, .int (Int32.ofInt (a + 1)))]) rfl (L19 ((12 - (a + 1) : Int).toNat + 1) t a (a + 1) I F (cpp_0 hq (by first | exact hi.1.1 | omega)) (by first | exact ⟨And.intro (hi.1.1) (by decide), oq_8a89b3ae g2004 hi.2.1, hi.2.1, hi.2.2⟩ | exact And.intro (And.intro (hi.1.1) (oq_2d8c9f7f)) (And.intro (oq_8a89b3ae g2004 hi.2.1) (And.intro (hi.2.1) (hi.2.2))) | omega) (Nat.lt_succ_self _) ?_)))))
        intro s2005 x2006 Is2005 Fs2005 Qs2005 hs2005
        have b2007 := bi_9 Is2005
        have b2008 := bi_10 Is2005
        refine z_inc X (x := a) (lv' := [(1, .int (Int32.ofInt (a + 1))), (0, .ref (A 3)), (2, .int (Int32.ofInt x2006))]) rfl (by decide) (List.Mem.tail _ (List.Mem.head _)) (fun _ h => h) (z_goto X (t := 7) rfl rfl (WS_pq [1, 0] (lv' := [(0, .ref (A 3)), (1, .int (Int32.ofInt (a + 1)))]) rfl ?_))
        exact ih _ (a + 1) Is2005 Fs2005 (cpp_o Qs2005 (by first | exact hs2005.1.1 | omega) (by first | exact hs2005.2.1 | omega) (by first | exact hi.2.2 | omega)) (by first | exact ⟨And.intro (oq_54f49eb5 hs2005.1.1) (hs2005.1.2), hs2005.2.2, hi.2.2⟩ | omega) (by first | exact qk_me hm (by decide) (oq_cb22635a hs2005.1.2 hi.2.2) | exact oq_ec4b8a25 hs2005.1.2 g2004 b2003.2 hm hi.2.2 | omega) kx
  refine z_aload_n X (x := A 3) rfl (List.Mem.head _) (z_const X rfl (s_putI X 3 rfl (c518_ok rfl) rfl rfl (by decide) rfl rfl rfl (wd_gen (fun s3 hs3 => ?_))))
  have Is3 : Bd s3 := eqB hs3 (bd_I I (show (0 : Int) ≤ 0 ∧ 0 ≤ 66 by first | exact ⟨by decide, by decide⟩ | omega) (by decide))
  have Fs3 := eqF hs3 (fm_I F (inl_ok (a := 10) rfl))
  have vs3 : iI s3 10 = 0 := eqI hs3 (iI_u (by decide))
  have ws3_9 : iI s3 9 = iI s 9 := eqI hs3 rfl
  refine z_const X rfl (z_store_n X (lv' := [(1, .int (Int32.ofInt 0)), (0, .ref (A 3))]) rfl (by decide) (fun _ h => h) (WS_pq [1, 0] (lv' := [(0, .ref (A 3)), (1, .int (Int32.ofInt 0))]) rfl (L7 ((12 - 0 : Int).toNat + 1) s3 0 Is3 Fs3 (cpo_0 (by first | exact vs3 | omega)) (by first | exact ⟨And.intro (by decide) (b1.1), ws3_9, b1.2⟩ | omega) (Nat.lt_succ_self _) ?_)))
  intro s4 x5 Is4 Fs4 Qs4 hs4
  have b6 := bi_9 Is4
  have b7 := bi_10 Is4
  exact w_vret X.1 q hRt (ax_d X (show cdA 110 126 = some (.return_, 1, 0, 0, 0) from rfl)) (Nat.zero_le _) (Nat.zero_le _) ⟨_, rfl, Is4, Fs4, rfl, (cpl_of (n := iI s 9) (by have z := Qs4; rw [show x5 = iI s 9 by first | exact hs4.1 | omega] at z; exact z) (by first | exact oq_18d11be6 hs4.2 | omega) (by first | exact And.intro (b1.1) (b1.2) | omega) (fun j => fm_dd Fs4 (by decide)) (fun j => fm_dd Fs4 (by decide)))⟩
set_option maxRecDepth 4000 in
theorem c0_follow3 (G : GX l s0 D tys a0 dT) (I : Bd s) {x : Int} {aj bj : Int64} (p0 : 0 ≤ x ∧ x ≤ 11) (p1 : iI s 22 ≤ 11) : CT l s0 D A dT 2 (rmN 2) [.ref (A 31), .int (Int32.ofInt x), .long aj, .long bj] s (fun o t => Bd t ∧ Fm [] [27, 28, 29] s t ∧ o = .inl none ∧ (FSR 27 28 29 22 x aj bj s t)) := by
  refine ct_ofX G (by decide) (Nat.le_of_ble_eq_true rfl) (fun k X E ET hRt hXt q => ?_)
  show WS k 0 [(0, .ref (A 31)), (1, .int (Int32.ofInt x)), (2, .long aj), (4, .long bj)] [] _ 0 0
  have F : Fm [] [27, 28, 29] s s := fm_rf _ _ s
  have b1 := bi_22 I
  have L12 : ∀ (n : Nat) (t : PS) (xv : Int) (av : Int64) (bv : Int64) (ov : Int) (wi : Int) (cl : Int) (kd : Int), Bd t → Fm [] [27, 28, 29] s t → (FSQ s xv av bv kd ov wi cl ∧ SAM 27 s t ∧ SAM 28 s t ∧ SAM 29 s t) → ((xv = x ∧ 0 ≤ xv ∧ xv ≤ 11) ∧ (0 ≤ ov ∧ ov ≤ 64 * kd) ∧ (0 ≤ wi ∧ wi ≤ 64 * kd) ∧ (0 ≤ cl ∧ cl ≤ 64) ∧ 0 ≤ kd ∧ kd ≤ 5 ∧ iI t 22 = iI s 22) → (5 - kd : Int).toNat < n → (∀ (t' : PS) (ov' : Int) (wi' : Int) (cl' : Int) (kd' : Int), Bd t' → Fm [] [27, 28, 29] s t' → (FSQ s xv av bv kd' ov' wi' cl' ∧ SAM 27 s t' ∧ SAM 28 s t' ∧ SAM 29 s t') → (kd' = 5 ∧ iI t' 22 = iI s 22 ∧ rng ov' ∧ rng wi' ∧ rng cl') → WS k 148 [(0, .ref (A 31)), (1, .int (Int32.ofInt xv)), (2, .long av), (4, .long bv), (6, .int (Int32.ofInt ov')), (7, .int (Int32.ofInt wi')), (8, .int (Int32.ofInt cl')), (9, .int (Int32.ofInt kd'))] [] (Wd A dT t') 0 0) → WS k 12 [(0, .ref (A 31)), (1, .int (Int32.ofInt xv)), (2, .long av), (4, .long bv), (6, .int (Int32.ofInt ov)), (7, .int (Int32.ofInt wi)), (8, .int (Int32.ofInt cl)), (9, .int (Int32.ofInt kd))] [] (Wd A dT t) 0 0 := by
    intro n
    induction n with
    | zero =>
      intro t xv av bv ov wi cl kd I F hq hi hm kx
      exact absurd hm (Nat.not_lt_zero _)
    | succ n ih =>
      intro t xv av bv ov wi cl kd I F hq hi hm kx
      have b1001 := bi_22 I
      refine z_load X (x := kd) rfl (List.Mem.tail _ (List.Mem.tail _ (List.Mem.tail _ (List.Mem.tail _ (List.Mem.tail _ (List.Mem.tail _ (List.Mem.tail _ (List.Mem.head _)))))))) (z_const X rfl (z_icmp_ge X (t := 148) rfl rfl ⟨by first | exact oq_fa4e5087 hi.2.2.2.2.1 | omega, by first | exact oq_a3dd55e5 hi.2.2.2.2.2.1 | omega⟩ (by decide) (fun g1002 => ?_) (fun g1002 => ?_)))
      ·
        refine WS_pq [0, 1, 2, 3, 4, 5, 6, 7] (lv' := [(0, .ref (A 31)), (1, .int (Int32.ofInt xv)), (2, .long av), (4, .long bv), (6, .int (Int32.ofInt ov)), (7, .int (Int32.ofInt wi)), (8, .int (Int32.ofInt cl)), (9, .int (Int32.ofInt kd))]) rfl ?_
        exact kx _ ov wi cl kd I F hq (by first | exact ⟨oq_17a66154 hi.2.2.2.2.2.1 g1002, hi.2.2.2.2.2.2, And.intro (oq_fa4e5087 hi.2.1.1) (oq_4719918c hi.2.1.2 hi.2.2.2.2.2.1), And.intro (oq_fa4e5087 hi.2.2.1.1) (oq_4719918c hi.2.2.1.2 hi.2.2.2.2.2.1), oq_fa4e5087 hi.2.2.2.1.1, oq_f37db25f hi.2.2.2.1.2⟩ | omega)
      ·
        refine z_aload_n X (x := A 31) rfl (List.Mem.head _) (s_getR X 31 rfl (c518_ok rfl) rfl rfl (s_getR X 3 rfl (c518_ok rfl) rfl rfl (z_load_n X (x := xv) rfl (List.Mem.tail _ (List.Mem.head _)) (z_const X rfl (z_mul X rfl (z_load X (x := kd) rfl (List.Mem.tail _ (List.Mem.tail _ (List.Mem.tail _ (List.Mem.tail _ (List.Mem.tail _ (List.Mem.tail _ (List.Mem.tail _ (List.Mem.head _)))))))) (z_add X rfl (z_lalE X 8 rfl (by decide) rfl (by first | exact oq_59a253bd hi.1.2.1 hi.2.2.2.2.1 | omega) (show ((xv * 5) + kd) < 60 by first | exact oq_7279bf48 hi.1.2.2 g1002 | omega) (by decide) (w_lstore X.1 (lv' := [(10, .long (gD t 5 (((xv * 5) + kd)).toNat)), (0, .ref (A 31)), (1, .int (Int32.ofInt xv)), (2, .long av), (4, .long bv), (6, .int (Int32.ofInt ov)), (7, .int (Int32.ofInt wi)), (8, .int (Int32.ofInt cl)), (9, .int (Int32.ofInt kd))]) (ax_d X (show cdA 2 32 = some (.lstore 10, 2, 0, 0, 0) from rfl)) (by rw [X.2.1.2.2]; decide) (fun _ h => h) (w_lload X.1 (ax_d X (show cdA 2 34 = some (.lload 10, 2, 0, 0, 0) from rfl)) (x := (gD t 5 (((xv * 5) + kd)).toNat)) (List.Mem.head _) (w_lconst X.1 (ax_d X (show cdA 2 36 = some (.lconst 0, 1, 0, 0, 0) from rfl)) (z := (0 : Int64)) (by decide) ?_)))))))))))
        refine z_jcmp X rfl (fun z1003 => ?_) (fun z1003 c1004 hc1004 ic1004 => ?_)
        ·
          refine z_if_eq X (t := 142) rfl rfl (by decide) (fun g1005 => ?_) (fun g1005 => ?_)
          ·
            refine z_inc X (x := kd) (lv' := [(9, .int (Int32.ofInt (kd + 1))), (10, .long (gD t 5 (((xv * 5) + kd)).toNat)), (0, .ref (A 31)), (1, .int (Int32.ofInt xv)), (2, .long av), (4, .long bv), (6, .int (Int32.ofInt ov)), (7, .int (Int32.ofInt wi)), (8, .int (Int32.ofInt cl))]) rfl (by decide) (List.Mem.tail _ (List.Mem.tail _ (List.Mem.tail _ (List.Mem.tail _ (List.Mem.tail _ (List.Mem.tail _ (List.Mem.tail _ (List.Mem.tail _ (List.Mem.head _))))))))) (fun _ h => h) (z_goto X (t := 12) rfl rfl (WS_pq [2, 3, 4, 5, 6, 7, 8, 0] (lv' := [(0, .ref (A 31)), (1, .int (Int32.ofInt xv)), (2, .long av), (4, .long bv), (6, .int (Int32.ofInt ov)), (7, .int (Int32.ofInt wi)), (8, .int (Int32.ofInt cl)), (9, .int (Int32.ofInt (kd + 1)))]) rfl ?_))
            exact ih _ xv av bv ov wi cl (kd + 1) I F ⟨fsq_z hq.1 (fun j => fm_dd F (by decide)) (by first | exact hi.2.2.2.2.1 | omega) (by first | exact oq_c8e0c7cb g1002 | omega) z1003, hq.2⟩ (by first | exact ⟨And.intro (hi.1.1) (And.intro (hi.1.2.1) (hi.1.2.2)), And.intro (hi.2.1.1) (oq_1256f433 hi.2.1.2), And.intro (hi.2.2.1.1) (oq_1256f433 hi.2.2.1.2), And.intro (hi.2.2.2.1.1) (hi.2.2.2.1.2), oq_54f49eb5 hi.2.2.2.2.1, oq_c2445583 g1002, hi.2.2.2.2.2.2⟩ | omega) (by first | exact qk_me hm (by decide) (oq_33241a94 g1002) | exact oq_fa9057d0 g1002 hm | omega) kx
          ·
            exfalso
            omega
        ·
          as_aux_lemma =>
           refine z_if_eq X (t := 142) rfl rfl ⟨by first | exact hc1004.1 | omega, by first | exact hc1004.2 | omega⟩ (fun g1006 => ?_) (fun g1006 => ?_)
           ·
             refine z_inc X (x := kd) (lv' := [(9, .int (Int32.ofInt (kd + 1))), (10, .long (gD t 5 (((xv * 5) + kd)).toNat)), (0, .ref (A 31)), (1, .int (Int32.ofInt xv)), (2, .long av), (4, .long bv), (6, .int (Int32.ofInt ov)), (7, .int (Int32.ofInt wi)), (8, .int (Int32.ofInt cl))]) rfl (by decide) (List.Mem.tail _ (List.Mem.tail _ (List.Mem.tail _ (List.Mem.tail _ (List.Mem.tail _ (List.Mem.tail _ (List.Mem.tail _ (List.Mem.tail _ (List.Mem.head _))))))))) (fun _ h => h) (z_goto X (t := 12) rfl rfl (WS_pq [2, 3, 4, 5, 6, 7, 8, 0] (lv' := [(0, .ref (A 31)), (1, .int (Int32.ofInt xv)), (2, .long av), (4, .long bv), (6, .int (Int32.ofInt ov)), (7, .int (Int32.ofInt wi)), (8, .int (Int32.ofInt cl)), (9, .int (Int32.ofInt (kd + 1)))]) rfl ?_))
             exact ih _ xv av bv ov wi cl (kd + 1) I F (by exfalso; omega) (by first | exact ⟨And.intro (hi.1.1) (And.intro (hi.1.2.1) (hi.1.2.2)), And.intro (hi.2.1.1) (oq_1256f433 hi.2.1.2), And.intro (hi.2.2.1.1) (oq_1256f433 hi.2.2.1.2), And.intro (hi.2.2.2.1.1) (hi.2.2.2.1.2), oq_54f49eb5 hi.2.2.2.2.1, oq_c2445583 g1002, hi.2.2.2.2.2.2⟩ | omega) (by first | exact qk_me hm (by decide) (oq_33241a94 g1002) | exact oq_fa9057d0 g1002 hm | omega) kx
           ·
             refine z_load X (x := kd) rfl (List.Mem.tail _ (List.Mem.tail _ (List.Mem.tail _ (List.Mem.tail _ (List.Mem.tail _ (List.Mem.tail _ (List.Mem.tail _ (List.Mem.tail _ (List.Mem.head _))))))))) (z_const X rfl (z_icmp_eq X (t := 53) rfl rfl ⟨by first | exact oq_fa4e5087 hi.2.2.2.2.1 | omega, by first | exact oq_85aa3fe6 g1002 | omega⟩ (by decide) (fun g1007 => ?_) (fun g1007 => ?_)))
             ·
               refine w_lload X.1 (ax_d X (show cdA 2 53 = some (.lload 4, 2, 0, 0, 0) from rfl)) (x := bv) (List.Mem.tail _ (List.Mem.tail _ (List.Mem.tail _ (List.Mem.tail _ (List.Mem.head _))))) (z_goto X (t := 59) rfl rfl (w_lstore X.1 (lv' := [(12, .long bv), (10, .long (gD t 5 (((xv * 5) + kd)).toNat)), (0, .ref (A 31)), (1, .int (Int32.ofInt xv)), (2, .long av), (4, .long bv), (6, .int (Int32.ofInt ov)), (7, .int (Int32.ofInt wi)), (8, .int (Int32.ofInt cl)), (9, .int (Int32.ofInt kd))]) (ax_d X (show cdA 2 59 = some (.lstore 12, 2, 0, 0, 0) from rfl)) (by rw [X.2.1.2.2]; decide) (fun _ h => h) (z_load X (x := kd) rfl (List.Mem.tail _ (List.Mem.tail _ (List.Mem.tail _ (List.Mem.tail _ (List.Mem.tail _ (List.Mem.tail _ (List.Mem.tail _ (List.Mem.tail _ (List.Mem.tail _ (List.Mem.head _)))))))))) (z_const X rfl (z_icmp_ne X (t := 72) rfl rfl ⟨by first | exact oq_c4d5fd5b g1007 | omega, by first | exact oq_9b80f9a5 g1007 | omega⟩ (by decide) (fun g1008 => ?_) (fun g1008 => ?_))))))
               ·
                 refine z_load X (x := kd) rfl (List.Mem.tail _ (List.Mem.tail _ (List.Mem.tail _ (List.Mem.tail _ (List.Mem.tail _ (List.Mem.tail _ (List.Mem.tail _ (List.Mem.tail _ (List.Mem.tail _ (List.Mem.head _)))))))))) (z_const X rfl (z_icmp_ge X (t := 85) rfl rfl ⟨by first | exact oq_c4d5fd5b g1007 | omega, by first | exact oq_9b80f9a5 g1007 | omega⟩ (by decide) (fun g1009 => ?_) (fun g1009 => ?_)))
                 ·
                   as_aux_lemma =>
                    refine w_lload X.1 (ax_d X (show cdA 2 85 = some (.lload 12, 2, 0, 0, 0) from rfl)) (x := bv) (List.Mem.head _) (z_bipush X rfl (z_jushr X rfl (w_lstore X.1 (lv' := [(14, .long (jushr bv 8)), (12, .long bv), (10, .long (gD t 5 (((xv * 5) + kd)).toNat)), (0, .ref (A 31)), (1, .int (Int32.ofInt xv)), (2, .long av), (4, .long bv), (6, .int (Int32.ofInt ov)), (7, .int (Int32.ofInt wi)), (8, .int (Int32.ofInt cl)), (9, .int (Int32.ofInt kd))]) (ax_d X (show cdA 2 90 = some (.lstore 14, 2, 0, 0, 0) from rfl)) (by rw [X.2.1.2.2]; decide) (fun _ h => h) (w_lload X.1 (ax_d X (show cdA 2 92 = some (.lload 10, 2, 0, 0, 0) from rfl)) (x := (gD t 5 (((xv * 5) + kd)).toNat)) (List.Mem.tail _ (List.Mem.tail _ (List.Mem.head _))) (w_lload X.1 (ax_d X (show cdA 2 94 = some (.lload 12, 2, 0, 0, 0) from rfl)) (x := bv) (List.Mem.tail _ (List.Mem.head _)) (w_land X.1 (ax_d X (show cdA 2 96 = some (.land, 1, 0, 0, 0) from rfl)) (w_lload X.1 (ax_d X (show cdA 2 97 = some (.lload 14, 2, 0, 0, 0) from rfl)) (x := (jushr bv 8)) (List.Mem.head _) (w_land X.1 (ax_d X (show cdA 2 99 = some (.land, 1, 0, 0, 0) from rfl)) (z_callS X (rm := rmN 298) (As := [.long (((gD t 5 (((xv * 5) + kd)).toNat) &&& bv) &&& (jushr bv 8))]) (st := []) rfl rfl (by rw [E.1, E.2.1, E.2.2.1]; exact j_bitL3 G I ) ⟨by rw [E.2.2.2]; exact (show (rmN 298).frames + 1 ≤ (rmN 2).frames by decide), by rw [E.2.2.2]; exact (show 8 + (mNL (miB 298) + 11) + (rmN 298).locals ≤ (rmN 2).locals by decide), by rw [E.2.2.2]; exact (show 0 + (rmN 298).cells ≤ (rmN 2).cells by decide), by rw [E.2.2.2]; exact (show 0 + (rmN 298).slots ≤ (rmN 2).slots by decide)⟩ (Nat.le_of_ble_eq_true rfl) (fun vv s1010 hq => ?_) (fun ee s1010 hq => ?_))))))))))
                    rotate_left
                    · obtain ⟨rfl, e1011, hv, hrs1010, hps1010⟩ := hq; cases hv
                    obtain ⟨rfl, e1011, hv, hrs1010, hps1010⟩ := hq
                    cases hv
                    show WS k 103 [(14, .long (jushr bv 8)), (12, .long bv), (10, .long (gD t 5 (((xv * 5) + kd)).toNat)), (0, .ref (A 31)), (1, .int (Int32.ofInt xv)), (2, .long av), (4, .long bv), (6, .int (Int32.ofInt ov)), (7, .int (Int32.ofInt wi)), (8, .int (Int32.ofInt cl)), (9, .int (Int32.ofInt kd))] [.int (Int32.ofInt e1011)] (Wd A dT t) 0 0
                    refine z_store X (lv' := [(16, .int (Int32.ofInt e1011)), (14, .long (jushr bv 8)), (12, .long bv), (10, .long (gD t 5 (((xv * 5) + kd)).toNat)), (0, .ref (A 31)), (1, .int (Int32.ofInt xv)), (2, .long av), (4, .long bv), (6, .int (Int32.ofInt ov)), (7, .int (Int32.ofInt wi)), (8, .int (Int32.ofInt cl)), (9, .int (Int32.ofInt kd))]) rfl (by decide) (fun _ h => h) (z_load X (x := ov) rfl (List.Mem.tail _ (List.Mem.tail _ (List.Mem.tail _ (List.Mem.tail _ (List.Mem.tail _ (List.Mem.tail _ (List.Mem.tail _ (List.Mem.tail _ (List.Mem.head _))))))))) (w_lload X.1 (ax_d X (show cdA 2 107 = some (.lload 10, 2, 0, 0, 0) from rfl)) (x := (gD t 5 (((xv * 5) + kd)).toNat)) (List.Mem.tail _ (List.Mem.tail _ (List.Mem.tail _ (List.Mem.head _)))) (w_lload X.1 (ax_d X (show cdA 2 109 = some (.lload 12, 2, 0, 0, 0) from rfl)) (x := bv) (List.Mem.tail _ (List.Mem.tail _ (List.Mem.head _))) (w_lload X.1 (ax_d X (show cdA 2 111 = some (.lload 14, 2, 0, 0, 0) from rfl)) (x := (jushr bv 8)) (List.Mem.tail _ (List.Mem.head _)) (w_lxor X.1 (ax_d X (show cdA 2 113 = some (.lxor, 1, 0, 0, 0) from rfl)) (w_land X.1 (ax_d X (show cdA 2 114 = some (.land, 1, 0, 0, 0) from rfl)) (z_callS X (rm := rmN 298) (As := [.long ((gD t 5 (((xv * 5) + kd)).toNat) &&& (bv ^^^ (jushr bv 8)))]) (st := [.int (Int32.ofInt ov)]) rfl rfl (by rw [E.1, E.2.1, E.2.2.1]; exact j_bitL3 G I ) ⟨by rw [E.2.2.2]; exact (show (rmN 298).frames + 1 ≤ (rmN 2).frames by decide), by rw [E.2.2.2]; exact (show 8 + (mNL (miB 298) + 11) + (rmN 298).locals ≤ (rmN 2).locals by decide), by rw [E.2.2.2]; exact (show 0 + (rmN 298).cells ≤ (rmN 2).cells by decide), by rw [E.2.2.2]; exact (show 0 + (rmN 298).slots ≤ (rmN 2).slots by decide)⟩ (Nat.le_of_ble_eq_true rfl) (fun vv s1012 hq => ?_) (fun ee s1012 hq => ?_))))))))
                    rotate_left
                    · obtain ⟨rfl, e1013, hv, hrs1012, hps1012⟩ := hq; cases hv
                    obtain ⟨rfl, e1013, hv, hrs1012, hps1012⟩ := hq
                    cases hv
                    show WS k 118 [(16, .int (Int32.ofInt e1011)), (14, .long (jushr bv 8)), (12, .long bv), (10, .long (gD t 5 (((xv * 5) + kd)).toNat)), (0, .ref (A 31)), (1, .int (Int32.ofInt xv)), (2, .long av), (4, .long bv), (6, .int (Int32.ofInt ov)), (7, .int (Int32.ofInt wi)), (8, .int (Int32.ofInt cl)), (9, .int (Int32.ofInt kd))] [.int (Int32.ofInt e1013), .int (Int32.ofInt ov)] (Wd A dT t) 0 0
                    refine z_add X rfl (z_store X (lv' := [(6, .int (Int32.ofInt (ov + e1013))), (16, .int (Int32.ofInt e1011)), (14, .long (jushr bv 8)), (12, .long bv), (10, .long (gD t 5 (((xv * 5) + kd)).toNat)), (0, .ref (A 31)), (1, .int (Int32.ofInt xv)), (2, .long av), (4, .long bv), (7, .int (Int32.ofInt wi)), (8, .int (Int32.ofInt cl)), (9, .int (Int32.ofInt kd))]) rfl (by decide) (fun _ h => h) (z_load X (x := wi) rfl (List.Mem.tail _ (List.Mem.tail _ (List.Mem.tail _ (List.Mem.tail _ (List.Mem.tail _ (List.Mem.tail _ (List.Mem.tail _ (List.Mem.tail _ (List.Mem.tail _ (List.Mem.head _)))))))))) (z_load X (x := e1011) rfl (List.Mem.tail _ (List.Mem.head _)) (z_add X rfl (z_store X (lv' := [(7, .int (Int32.ofInt (wi + e1011))), (6, .int (Int32.ofInt (ov + e1013))), (16, .int (Int32.ofInt e1011)), (14, .long (jushr bv 8)), (12, .long bv), (10, .long (gD t 5 (((xv * 5) + kd)).toNat)), (0, .ref (A 31)), (1, .int (Int32.ofInt xv)), (2, .long av), (4, .long bv), (8, .int (Int32.ofInt cl)), (9, .int (Int32.ofInt kd))]) rfl (by decide) (fun _ h => h) (z_load X (x := kd) rfl (List.Mem.tail _ (List.Mem.tail _ (List.Mem.tail _ (List.Mem.tail _ (List.Mem.tail _ (List.Mem.tail _ (List.Mem.tail _ (List.Mem.tail _ (List.Mem.tail _ (List.Mem.tail _ (List.Mem.tail _ (List.Mem.head _)))))))))))) (z_const X rfl (z_icmp_ne X (t := 139) rfl rfl ⟨by first | exact oq_87f30858 g1009 | omega, by first | exact oq_9b80f9a5 g1007 | omega⟩ (by decide) (fun g1014 => ?_) (fun g1014 => ?_)))))))))
                    ·
                      as_aux_lemma =>
                       refine z_const X rfl (z_store X (lv' := [(8, .int (Int32.ofInt 0)), (7, .int (Int32.ofInt (wi + e1011))), (6, .int (Int32.ofInt (ov + e1013))), (16, .int (Int32.ofInt e1011)), (14, .long (jushr bv 8)), (12, .long bv), (10, .long (gD t 5 (((xv * 5) + kd)).toNat)), (0, .ref (A 31)), (1, .int (Int32.ofInt xv)), (2, .long av), (4, .long bv), (9, .int (Int32.ofInt kd))]) rfl (by decide) (fun _ h => h) (z_inc X (x := kd) (lv' := [(9, .int (Int32.ofInt (kd + 1))), (8, .int (Int32.ofInt 0)), (7, .int (Int32.ofInt (wi + e1011))), (6, .int (Int32.ofInt (ov + e1013))), (16, .int (Int32.ofInt e1011)), (14, .long (jushr bv 8)), (12, .long bv), (10, .long (gD t 5 (((xv * 5) + kd)).toNat)), (0, .ref (A 31)), (1, .int (Int32.ofInt xv)), (2, .long av), (4, .long bv)]) rfl (by decide) (List.Mem.tail _ (List.Mem.tail _ (List.Mem.tail _ (List.Mem.tail _ (List.Mem.tail _ (List.Mem.tail _ (List.Mem.tail _ (List.Mem.tail _ (List.Mem.tail _ (List.Mem.tail _ (List.Mem.tail _ (List.Mem.head _)))))))))))) (fun _ h => h) (z_goto X (t := 12) rfl rfl (WS_pq [8, 9, 10, 11, 3, 2, 1, 0] (lv' := [(0, .ref (A 31)), (1, .int (Int32.ofInt xv)), (2, .long av), (4, .long bv), (6, .int (Int32.ofInt (ov + e1013))), (7, .int (Int32.ofInt (wi + e1011))), (8, .int (Int32.ofInt 0)), (9, .int (Int32.ofInt (kd + 1)))]) rfl ?_))))
                       exact ih _ xv av bv (ov + e1013) (wi + e1011) 0 (kd + 1) I F ⟨fsq_y (here := bv) (there := (jushr bv 8)) hq.1 (fun j => fm_dd F (by decide)) (by first | exact hi.2.2.2.2.1 | (clear g1014 g1008 g1006; omega) | (clear g1008 g1006; omega) | omega) (by first | exact oq_76809eae g1007 | (clear g1014 g1008 g1006; omega) | (clear g1008 g1006; omega) | omega) (by first | (exfalso; omega) | (unfold hrK; first | rw [if_pos (by first | (clear g1014 g1008 g1006; omega) | (clear g1008 g1006; omega) | omega)] | rw [if_neg (by first | (clear g1014 g1008 g1006; omega) | (clear g1008 g1006; omega) | omega)])) (by first | (exfalso; omega) | (unfold thK hrK; first | rw [if_pos (by first | (clear g1014 g1008 g1006; omega) | (clear g1008 g1006; omega) | omega)] | (rw [if_neg (by first | (clear g1014 g1008 g1006; omega) | (clear g1008 g1006; omega) | omega), if_pos (by first | (clear g1014 g1008 g1006; omega) | (clear g1008 g1006; omega) | omega)]; first | rw [if_pos (by first | (clear g1014 g1008 g1006; omega) | (clear g1008 g1006; omega) | omega)] | rw [if_neg (by first | (clear g1014 g1008 g1006; omega) | (clear g1008 g1006; omega) | omega)]) | (rw [if_neg (by first | (clear g1014 g1008 g1006; omega) | (clear g1008 g1006; omega) | omega), if_neg (by first | (clear g1014 g1008 g1006; omega) | (clear g1008 g1006; omega) | omega)]; first | rw [if_pos (by first | (clear g1014 g1008 g1006; omega) | (clear g1008 g1006; omega) | omega)] | rw [if_neg (by first | (clear g1014 g1008 g1006; omega) | (clear g1008 g1006; omega) | omega)]))) hps1010.1 hps1012.1 (by first | exact Or.inl (And.intro (oq_d12a73a8 g1009 g1007) (oq_bc19b612 g1009 g1007)) | (clear g1014 g1008 g1006; omega) | (clear g1008 g1006; omega) | omega), hq.2⟩ (by first | exact ⟨And.intro (hi.1.1) (And.intro (hi.1.2.1) (hi.1.2.2)), oq_25d2d060 g1009 g1007, oq_25d2d060 g1009 g1007, And.intro (by decide) (by decide), oq_28b1915a g1009, oq_15127c44 g1007, hi.2.2.2.2.2.2⟩ | omega) (by first | exact qk_me hm (by decide) (oq_fa4db026 g1007) | exact oq_6148d5e5 g1009 g1007 | omega) kx
                    ·
                      as_aux_lemma =>
                       refine z_load X (x := e1011) rfl (List.Mem.tail _ (List.Mem.tail _ (List.Mem.head _))) (z_goto X (t := 140) rfl rfl (z_store X (lv' := [(8, .int (Int32.ofInt e1011)), (7, .int (Int32.ofInt (wi + e1011))), (6, .int (Int32.ofInt (ov + e1013))), (16, .int (Int32.ofInt e1011)), (14, .long (jushr bv 8)), (12, .long bv), (10, .long (gD t 5 (((xv * 5) + kd)).toNat)), (0, .ref (A 31)), (1, .int (Int32.ofInt xv)), (2, .long av), (4, .long bv), (9, .int (Int32.ofInt kd))]) rfl (by decide) (fun _ h => h) (z_inc X (x := kd) (lv' := [(9, .int (Int32.ofInt (kd + 1))), (8, .int (Int32.ofInt e1011)), (7, .int (Int32.ofInt (wi + e1011))), (6, .int (Int32.ofInt (ov + e1013))), (16, .int (Int32.ofInt e1011)), (14, .long (jushr bv 8)), (12, .long bv), (10, .long (gD t 5 (((xv * 5) + kd)).toNat)), (0, .ref (A 31)), (1, .int (Int32.ofInt xv)), (2, .long av), (4, .long bv)]) rfl (by decide) (List.Mem.tail _ (List.Mem.tail _ (List.Mem.tail _ (List.Mem.tail _ (List.Mem.tail _ (List.Mem.tail _ (List.Mem.tail _ (List.Mem.tail _ (List.Mem.tail _ (List.Mem.tail _ (List.Mem.tail _ (List.Mem.head _)))))))))))) (fun _ h => h) (z_goto X (t := 12) rfl rfl (WS_pq [8, 9, 10, 11, 3, 2, 1, 0] (lv' := [(0, .ref (A 31)), (1, .int (Int32.ofInt xv)), (2, .long av), (4, .long bv), (6, .int (Int32.ofInt (ov + e1013))), (7, .int (Int32.ofInt (wi + e1011))), (8, .int (Int32.ofInt e1011)), (9, .int (Int32.ofInt (kd + 1)))]) rfl ?_)))))
                       exact ih _ xv av bv (ov + e1013) (wi + e1011) e1011 (kd + 1) I F ⟨fsq_y (here := bv) (there := (jushr bv 8)) hq.1 (fun j => fm_dd F (by decide)) (by first | exact hi.2.2.2.2.1 | (clear g1008 g1006; omega) | (clear g1006; omega) | omega) (by first | exact oq_76809eae g1007 | (clear g1008 g1006; omega) | (clear g1006; omega) | omega) (by first | (exfalso; omega) | (unfold hrK; first | rw [if_pos (by first | (clear g1008 g1006; omega) | (clear g1006; omega) | omega)] | rw [if_neg (by first | (clear g1008 g1006; omega) | (clear g1006; omega) | omega)])) (by first | (exfalso; omega) | (unfold thK hrK; first | rw [if_pos (by first | (clear g1008 g1006; omega) | (clear g1006; omega) | omega)] | (rw [if_neg (by first | (clear g1008 g1006; omega) | (clear g1006; omega) | omega), if_pos (by first | (clear g1008 g1006; omega) | (clear g1006; omega) | omega)]; first | rw [if_pos (by first | (clear g1008 g1006; omega) | (clear g1006; omega) | omega)] | rw [if_neg (by first | (clear g1008 g1006; omega) | (clear g1006; omega) | omega)]) | (rw [if_neg (by first | (clear g1008 g1006; omega) | (clear g1006; omega) | omega), if_neg (by first | (clear g1008 g1006; omega) | (clear g1006; omega) | omega)]; first | rw [if_pos (by first | (clear g1008 g1006; omega) | (clear g1006; omega) | omega)] | rw [if_neg (by first | (clear g1008 g1006; omega) | (clear g1006; omega) | omega)]))) hps1010.1 hps1012.1 (by first | exact Or.inl (And.intro (g1014) (rfl)) | (clear g1008 g1006; omega) | (clear g1006; omega) | omega), hq.2⟩ (by first | exact ⟨And.intro (hi.1.1) (And.intro (hi.1.2.1) (hi.1.2.2)), oq_cdf84dd2 g1014 g1007, oq_cdf84dd2 g1014 g1007, oq_7f2763ea g1014 g1007, oq_177a211a g1014, oq_04e08c97 g1014, hi.2.2.2.2.2.2⟩ | omega) (by first | exact qk_me hm (by decide) (oq_f619ccd3 g1014) | exact oq_c7685525 g1014 g1007 | omega) kx
                 ·
                   as_aux_lemma =>
                    refine w_lload X.1 (ax_d X (show cdA 2 78 = some (.lload 12, 2, 0, 0, 0) from rfl)) (x := bv) (List.Mem.head _) (z_const X rfl (z_jushr X rfl (z_goto X (t := 90) rfl rfl (w_lstore X.1 (lv' := [(14, .long (jushr bv 1)), (12, .long bv), (10, .long (gD t 5 (((xv * 5) + kd)).toNat)), (0, .ref (A 31)), (1, .int (Int32.ofInt xv)), (2, .long av), (4, .long bv), (6, .int (Int32.ofInt ov)), (7, .int (Int32.ofInt wi)), (8, .int (Int32.ofInt cl)), (9, .int (Int32.ofInt kd))]) (ax_d X (show cdA 2 90 = some (.lstore 14, 2, 0, 0, 0) from rfl)) (by rw [X.2.1.2.2]; decide) (fun _ h => h) (w_lload X.1 (ax_d X (show cdA 2 92 = some (.lload 10, 2, 0, 0, 0) from rfl)) (x := (gD t 5 (((xv * 5) + kd)).toNat)) (List.Mem.tail _ (List.Mem.tail _ (List.Mem.head _))) (w_lload X.1 (ax_d X (show cdA 2 94 = some (.lload 12, 2, 0, 0, 0) from rfl)) (x := bv) (List.Mem.tail _ (List.Mem.head _)) (w_land X.1 (ax_d X (show cdA 2 96 = some (.land, 1, 0, 0, 0) from rfl)) (w_lload X.1 (ax_d X (show cdA 2 97 = some (.lload 14, 2, 0, 0, 0) from rfl)) (x := (jushr bv 1)) (List.Mem.head _) (w_land X.1 (ax_d X (show cdA 2 99 = some (.land, 1, 0, 0, 0) from rfl)) (z_callS X (rm := rmN 298) (As := [.long (((gD t 5 (((xv * 5) + kd)).toNat) &&& bv) &&& (jushr bv 1))]) (st := []) rfl rfl (by rw [E.1, E.2.1, E.2.2.1]; exact j_bitL3 G I ) ⟨by rw [E.2.2.2]; exact (show (rmN 298).frames + 1 ≤ (rmN 2).frames by decide), by rw [E.2.2.2]; exact (show 8 + (mNL (miB 298) + 11) + (rmN 298).locals ≤ (rmN 2).locals by decide), by rw [E.2.2.2]; exact (show 0 + (rmN 298).cells ≤ (rmN 2).cells by decide), by rw [E.2.2.2]; exact (show 0 + (rmN 298).slots ≤ (rmN 2).slots by decide)⟩ (Nat.le_of_ble_eq_true rfl) (fun vv s1015 hq => ?_) (fun ee s1015 hq => ?_)))))))))))
                    rotate_left
                    · obtain ⟨rfl, e1016, hv, hrs1015, hps1015⟩ := hq; cases hv
                    obtain ⟨rfl, e1016, hv, hrs1015, hps1015⟩ := hq
                    cases hv
                    show WS k 103 [(14, .long (jushr bv 1)), (12, .long bv), (10, .long (gD t 5 (((xv * 5) + kd)).toNat)), (0, .ref (A 31)), (1, .int (Int32.ofInt xv)), (2, .long av), (4, .long bv), (6, .int (Int32.ofInt ov)), (7, .int (Int32.ofInt wi)), (8, .int (Int32.ofInt cl)), (9, .int (Int32.ofInt kd))] [.int (Int32.ofInt e1016)] (Wd A dT t) 0 0
                    refine z_store X (lv' := [(16, .int (Int32.ofInt e1016)), (14, .long (jushr bv 1)), (12, .long bv), (10, .long (gD t 5 (((xv * 5) + kd)).toNat)), (0, .ref (A 31)), (1, .int (Int32.ofInt xv)), (2, .long av), (4, .long bv), (6, .int (Int32.ofInt ov)), (7, .int (Int32.ofInt wi)), (8, .int (Int32.ofInt cl)), (9, .int (Int32.ofInt kd))]) rfl (by decide) (fun _ h => h) (z_load X (x := ov) rfl (List.Mem.tail _ (List.Mem.tail _ (List.Mem.tail _ (List.Mem.tail _ (List.Mem.tail _ (List.Mem.tail _ (List.Mem.tail _ (List.Mem.tail _ (List.Mem.head _))))))))) (w_lload X.1 (ax_d X (show cdA 2 107 = some (.lload 10, 2, 0, 0, 0) from rfl)) (x := (gD t 5 (((xv * 5) + kd)).toNat)) (List.Mem.tail _ (List.Mem.tail _ (List.Mem.tail _ (List.Mem.head _)))) (w_lload X.1 (ax_d X (show cdA 2 109 = some (.lload 12, 2, 0, 0, 0) from rfl)) (x := bv) (List.Mem.tail _ (List.Mem.tail _ (List.Mem.head _))) (w_lload X.1 (ax_d X (show cdA 2 111 = some (.lload 14, 2, 0, 0, 0) from rfl)) (x := (jushr bv 1)) (List.Mem.tail _ (List.Mem.head _)) (w_lxor X.1 (ax_d X (show cdA 2 113 = some (.lxor, 1, 0, 0, 0) from rfl)) (w_land X.1 (ax_d X (show cdA 2 114 = some (.land, 1, 0, 0, 0) from rfl)) (z_callS X (rm := rmN 298) (As := [.long ((gD t 5 (((xv * 5) + kd)).toNat) &&& (bv ^^^ (jushr bv 1)))]) (st := [.int (Int32.ofInt ov)]) rfl rfl (by rw [E.1, E.2.1, E.2.2.1]; exact j_bitL3 G I ) ⟨by rw [E.2.2.2]; exact (show (rmN 298).frames + 1 ≤ (rmN 2).frames by decide), by rw [E.2.2.2]; exact (show 8 + (mNL (miB 298) + 11) + (rmN 298).locals ≤ (rmN 2).locals by decide), by rw [E.2.2.2]; exact (show 0 + (rmN 298).cells ≤ (rmN 2).cells by decide), by rw [E.2.2.2]; exact (show 0 + (rmN 298).slots ≤ (rmN 2).slots by decide)⟩ (Nat.le_of_ble_eq_true rfl) (fun vv s1017 hq => ?_) (fun ee s1017 hq => ?_))))))))
                    rotate_left
                    · obtain ⟨rfl, e1018, hv, hrs1017, hps1017⟩ := hq; cases hv
                    obtain ⟨rfl, e1018, hv, hrs1017, hps1017⟩ := hq
                    cases hv
                    show WS k 118 [(16, .int (Int32.ofInt e1016)), (14, .long (jushr bv 1)), (12, .long bv), (10, .long (gD t 5 (((xv * 5) + kd)).toNat)), (0, .ref (A 31)), (1, .int (Int32.ofInt xv)), (2, .long av), (4, .long bv), (6, .int (Int32.ofInt ov)), (7, .int (Int32.ofInt wi)), (8, .int (Int32.ofInt cl)), (9, .int (Int32.ofInt kd))] [.int (Int32.ofInt e1018), .int (Int32.ofInt ov)] (Wd A dT t) 0 0
                    refine z_add X rfl (z_store X (lv' := [(6, .int (Int32.ofInt (ov + e1018))), (16, .int (Int32.ofInt e1016)), (14, .long (jushr bv 1)), (12, .long bv), (10, .long (gD t 5 (((xv * 5) + kd)).toNat)), (0, .ref (A 31)), (1, .int (Int32.ofInt xv)), (2, .long av), (4, .long bv), (7, .int (Int32.ofInt wi)), (8, .int (Int32.ofInt cl)), (9, .int (Int32.ofInt kd))]) rfl (by decide) (fun _ h => h) (z_load X (x := wi) rfl (List.Mem.tail _ (List.Mem.tail _ (List.Mem.tail _ (List.Mem.tail _ (List.Mem.tail _ (List.Mem.tail _ (List.Mem.tail _ (List.Mem.tail _ (List.Mem.tail _ (List.Mem.head _)))))))))) (z_load X (x := e1016) rfl (List.Mem.tail _ (List.Mem.head _)) (z_add X rfl (z_store X (lv' := [(7, .int (Int32.ofInt (wi + e1016))), (6, .int (Int32.ofInt (ov + e1018))), (16, .int (Int32.ofInt e1016)), (14, .long (jushr bv 1)), (12, .long bv), (10, .long (gD t 5 (((xv * 5) + kd)).toNat)), (0, .ref (A 31)), (1, .int (Int32.ofInt xv)), (2, .long av), (4, .long bv), (8, .int (Int32.ofInt cl)), (9, .int (Int32.ofInt kd))]) rfl (by decide) (fun _ h => h) (z_load X (x := kd) rfl (List.Mem.tail _ (List.Mem.tail _ (List.Mem.tail _ (List.Mem.tail _ (List.Mem.tail _ (List.Mem.tail _ (List.Mem.tail _ (List.Mem.tail _ (List.Mem.tail _ (List.Mem.tail _ (List.Mem.tail _ (List.Mem.head _)))))))))))) (z_const X rfl (z_icmp_ne X (t := 139) rfl rfl ⟨by first | exact oq_c4d5fd5b g1007 | omega, by first | exact oq_f6d1716d g1009 | omega⟩ (by decide) (fun g1019 => ?_) (fun g1019 => ?_)))))))))
                    ·
                      as_aux_lemma =>
                       refine z_const X rfl (z_store X (lv' := [(8, .int (Int32.ofInt 0)), (7, .int (Int32.ofInt (wi + e1016))), (6, .int (Int32.ofInt (ov + e1018))), (16, .int (Int32.ofInt e1016)), (14, .long (jushr bv 1)), (12, .long bv), (10, .long (gD t 5 (((xv * 5) + kd)).toNat)), (0, .ref (A 31)), (1, .int (Int32.ofInt xv)), (2, .long av), (4, .long bv), (9, .int (Int32.ofInt kd))]) rfl (by decide) (fun _ h => h) (z_inc X (x := kd) (lv' := [(9, .int (Int32.ofInt (kd + 1))), (8, .int (Int32.ofInt 0)), (7, .int (Int32.ofInt (wi + e1016))), (6, .int (Int32.ofInt (ov + e1018))), (16, .int (Int32.ofInt e1016)), (14, .long (jushr bv 1)), (12, .long bv), (10, .long (gD t 5 (((xv * 5) + kd)).toNat)), (0, .ref (A 31)), (1, .int (Int32.ofInt xv)), (2, .long av), (4, .long bv)]) rfl (by decide) (List.Mem.tail _ (List.Mem.tail _ (List.Mem.tail _ (List.Mem.tail _ (List.Mem.tail _ (List.Mem.tail _ (List.Mem.tail _ (List.Mem.tail _ (List.Mem.tail _ (List.Mem.tail _ (List.Mem.tail _ (List.Mem.head _)))))))))))) (fun _ h => h) (z_goto X (t := 12) rfl rfl (WS_pq [8, 9, 10, 11, 3, 2, 1, 0] (lv' := [(0, .ref (A 31)), (1, .int (Int32.ofInt xv)), (2, .long av), (4, .long bv), (6, .int (Int32.ofInt (ov + e1018))), (7, .int (Int32.ofInt (wi + e1016))), (8, .int (Int32.ofInt 0)), (9, .int (Int32.ofInt (kd + 1)))]) rfl ?_))))
                       exact ih _ xv av bv (ov + e1018) (wi + e1016) 0 (kd + 1) I F ⟨fsq_y (here := bv) (there := (jushr bv 1)) hq.1 (fun j => fm_dd F (by decide)) (by first | exact hi.2.2.2.2.1 | (clear g1019 g1008 g1006; omega) | (clear g1008 g1006; omega) | omega) (by first | exact oq_651bdbd8 g1009 | (clear g1019 g1008 g1006; omega) | (clear g1008 g1006; omega) | omega) (by first | (exfalso; omega) | (unfold hrK; first | rw [if_pos (by first | exact Or.inl (oq_b7cf0fd9 g1009 g1007) | (clear g1019 g1008 g1006; omega) | (clear g1008 g1006; omega) | omega)] | rw [if_neg (by first | (clear g1019 g1008 g1006; omega) | (clear g1008 g1006; omega) | omega)])) (by first | (exfalso; omega) | (unfold thK hrK; first | rw [if_pos (by first | (clear g1019 g1008 g1006; omega) | (clear g1008 g1006; omega) | omega)] | (rw [if_neg (by first | exact oq_407f866a g1009 | (clear g1019 g1008 g1006; omega) | (clear g1008 g1006; omega) | omega), if_pos (by first | exact oq_eaaea1eb g1009 | (clear g1019 g1008 g1006; omega) | (clear g1008 g1006; omega) | omega)]; first | rw [if_pos (by first | exact Or.inl (oq_b7cf0fd9 g1009 g1007) | (clear g1019 g1008 g1006; omega) | (clear g1008 g1006; omega) | omega)] | rw [if_neg (by first | (clear g1019 g1008 g1006; omega) | (clear g1008 g1006; omega) | omega)]) | (rw [if_neg (by first | (clear g1019 g1008 g1006; omega) | (clear g1008 g1006; omega) | omega), if_neg (by first | (clear g1019 g1008 g1006; omega) | (clear g1008 g1006; omega) | omega)]; first | rw [if_pos (by first | (clear g1019 g1008 g1006; omega) | (clear g1008 g1006; omega) | omega)] | rw [if_neg (by first | (clear g1019 g1008 g1006; omega) | (clear g1008 g1006; omega) | omega)]))) hps1015.1 hps1017.1 (by first | exact Or.inr (And.intro (g1019) (rfl)) | (clear g1019 g1008 g1006; omega) | (clear g1008 g1006; omega) | omega), hq.2⟩ (by first | exact ⟨And.intro (hi.1.1) (And.intro (hi.1.2.1) (hi.1.2.2)), by first | exact And.intro (oq_d8d6a599 hps1017.2.1 hi.2.1.1) (oq_1c7ec0b4 hps1017.2.2 hi.2.1.2) | (clear g1019 g1008 g1006; omega) | (clear g1008 g1006; omega) | omega, by first | exact And.intro (oq_d8d6a599 hps1015.2.1 hi.2.2.1.1) (oq_1c7ec0b4 hps1015.2.2 hi.2.2.1.2) | (clear g1019 g1008 g1006; omega) | (clear g1008 g1006; omega) | omega, And.intro (by decide) (by decide), oq_69f0c9b9 g1007, oq_c62f093d g1009, hi.2.2.2.2.2.2⟩ | omega) (by first | exact qk_me hm (by decide) (oq_a4e4bc10 g1009) | exact oq_f402bcda g1009 hm | omega) kx
                    ·
                      as_aux_lemma =>
                       refine z_load X (x := e1016) rfl (List.Mem.tail _ (List.Mem.tail _ (List.Mem.head _))) (z_goto X (t := 140) rfl rfl (z_store X (lv' := [(8, .int (Int32.ofInt e1016)), (7, .int (Int32.ofInt (wi + e1016))), (6, .int (Int32.ofInt (ov + e1018))), (16, .int (Int32.ofInt e1016)), (14, .long (jushr bv 1)), (12, .long bv), (10, .long (gD t 5 (((xv * 5) + kd)).toNat)), (0, .ref (A 31)), (1, .int (Int32.ofInt xv)), (2, .long av), (4, .long bv), (9, .int (Int32.ofInt kd))]) rfl (by decide) (fun _ h => h) (z_inc X (x := kd) (lv' := [(9, .int (Int32.ofInt (kd + 1))), (8, .int (Int32.ofInt e1016)), (7, .int (Int32.ofInt (wi + e1016))), (6, .int (Int32.ofInt (ov + e1018))), (16, .int (Int32.ofInt e1016)), (14, .long (jushr bv 1)), (12, .long bv), (10, .long (gD t 5 (((xv * 5) + kd)).toNat)), (0, .ref (A 31)), (1, .int (Int32.ofInt xv)), (2, .long av), (4, .long bv)]) rfl (by decide) (List.Mem.tail _ (List.Mem.tail _ (List.Mem.tail _ (List.Mem.tail _ (List.Mem.tail _ (List.Mem.tail _ (List.Mem.tail _ (List.Mem.tail _ (List.Mem.tail _ (List.Mem.tail _ (List.Mem.tail _ (List.Mem.head _)))))))))))) (fun _ h => h) (z_goto X (t := 12) rfl rfl (WS_pq [8, 9, 10, 11, 3, 2, 1, 0] (lv' := [(0, .ref (A 31)), (1, .int (Int32.ofInt xv)), (2, .long av), (4, .long bv), (6, .int (Int32.ofInt (ov + e1018))), (7, .int (Int32.ofInt (wi + e1016))), (8, .int (Int32.ofInt e1016)), (9, .int (Int32.ofInt (kd + 1)))]) rfl ?_)))))
                       exact ih _ xv av bv (ov + e1018) (wi + e1016) e1016 (kd + 1) I F ⟨fsq_y (here := bv) (there := (jushr bv 1)) hq.1 (fun j => fm_dd F (by decide)) (by first | exact hi.2.2.2.2.1 | (clear g1008 g1006; omega) | (clear g1006; omega) | omega) (by first | exact oq_651bdbd8 g1009 | (clear g1008 g1006; omega) | (clear g1006; omega) | omega) (by first | (exfalso; omega) | (unfold hrK; first | rw [if_pos (by first | (clear g1008 g1006; omega) | (clear g1006; omega) | omega)] | rw [if_neg (by first | (clear g1008 g1006; omega) | (clear g1006; omega) | omega)])) (by first | (exfalso; omega) | (unfold thK hrK; first | rw [if_pos (by first | (clear g1008 g1006; omega) | (clear g1006; omega) | omega)] | (rw [if_neg (by first | (clear g1008 g1006; omega) | (clear g1006; omega) | omega), if_pos (by first | (clear g1008 g1006; omega) | (clear g1006; omega) | omega)]; first | rw [if_pos (by first | (clear g1008 g1006; omega) | (clear g1006; omega) | omega)] | rw [if_neg (by first | (clear g1008 g1006; omega) | (clear g1006; omega) | omega)]) | (rw [if_neg (by first | (clear g1008 g1006; omega) | (clear g1006; omega) | omega), if_neg (by first | (clear g1008 g1006; omega) | (clear g1006; omega) | omega)]; first | rw [if_pos (by first | (clear g1008 g1006; omega) | (clear g1006; omega) | omega)] | rw [if_neg (by first | (clear g1008 g1006; omega) | (clear g1006; omega) | omega)]))) hps1015.1 hps1017.1 (by first | exact Or.inl (And.intro (g1019) (rfl)) | (clear g1008 g1006; omega) | (clear g1006; omega) | omega), hq.2⟩ (by first | exact ⟨And.intro (hi.1.1) (And.intro (hi.1.2.1) (hi.1.2.2)), oq_fa5877f3 g1019 g1009, oq_fa5877f3 g1019 g1009, oq_821f40af g1019 g1009, oq_177a211a g1019, oq_04e08c97 g1019, hi.2.2.2.2.2.2⟩ | omega) (by first | exact qk_me hm (by decide) (oq_f619ccd3 g1019) | exact oq_3fb7a02b g1019 g1009 | omega) kx
               ·
                 as_aux_lemma =>
                  refine w_lload X.1 (ax_d X (show cdA 2 67 = some (.lload 4, 2, 0, 0, 0) from rfl)) (x := bv) (List.Mem.tail _ (List.Mem.tail _ (List.Mem.tail _ (List.Mem.tail _ (List.Mem.tail _ (List.Mem.head _)))))) (z_goto X (t := 90) rfl rfl (w_lstore X.1 (lv' := [(14, .long bv), (12, .long bv), (10, .long (gD t 5 (((xv * 5) + kd)).toNat)), (0, .ref (A 31)), (1, .int (Int32.ofInt xv)), (2, .long av), (4, .long bv), (6, .int (Int32.ofInt ov)), (7, .int (Int32.ofInt wi)), (8, .int (Int32.ofInt cl)), (9, .int (Int32.ofInt kd))]) (ax_d X (show cdA 2 90 = some (.lstore 14, 2, 0, 0, 0) from rfl)) (by rw [X.2.1.2.2]; decide) (fun _ h => h) (w_lload X.1 (ax_d X (show cdA 2 92 = some (.lload 10, 2, 0, 0, 0) from rfl)) (x := (gD t 5 (((xv * 5) + kd)).toNat)) (List.Mem.tail _ (List.Mem.tail _ (List.Mem.head _))) (w_lload X.1 (ax_d X (show cdA 2 94 = some (.lload 12, 2, 0, 0, 0) from rfl)) (x := bv) (List.Mem.tail _ (List.Mem.head _)) (w_land X.1 (ax_d X (show cdA 2 96 = some (.land, 1, 0, 0, 0) from rfl)) (w_lload X.1 (ax_d X (show cdA 2 97 = some (.lload 14, 2, 0, 0, 0) from rfl)) (x := bv) (List.Mem.head _) (w_land X.1 (ax_d X (show cdA 2 99 = some (.land, 1, 0, 0, 0) from rfl)) (z_callS X (rm := rmN 298) (As := [.long (((gD t 5 (((xv * 5) + kd)).toNat) &&& bv) &&& bv)]) (st := []) rfl rfl (by rw [E.1, E.2.1, E.2.2.1]; exact j_bitL3 G I ) ⟨by rw [E.2.2.2]; exact (show (rmN 298).frames + 1 ≤ (rmN 2).frames by decide), by rw [E.2.2.2]; exact (show 8 + (mNL (miB 298) + 11) + (rmN 298).locals ≤ (rmN 2).locals by decide), by rw [E.2.2.2]; exact (show 0 + (rmN 298).cells ≤ (rmN 2).cells by decide), by rw [E.2.2.2]; exact (show 0 + (rmN 298).slots ≤ (rmN 2).slots by decide)⟩ (Nat.le_of_ble_eq_true rfl) (fun vv s1020 hq => ?_) (fun ee s1020 hq => ?_)))))))))
                  rotate_left
                  · obtain ⟨rfl, e1021, hv, hrs1020, hps1020⟩ := hq; cases hv
                  obtain ⟨rfl, e1021, hv, hrs1020, hps1020⟩ := hq
                  cases hv
                  show WS k 103 [(14, .long bv), (12, .long bv), (10, .long (gD t 5 (((xv * 5) + kd)).toNat)), (0, .ref (A 31)), (1, .int (Int32.ofInt xv)), (2, .long av), (4, .long bv), (6, .int (Int32.ofInt ov)), (7, .int (Int32.ofInt wi)), (8, .int (Int32.ofInt cl)), (9, .int (Int32.ofInt kd))] [.int (Int32.ofInt e1021)] (Wd A dT t) 0 0
                  refine z_store X (lv' := [(16, .int (Int32.ofInt e1021)), (14, .long bv), (12, .long bv), (10, .long (gD t 5 (((xv * 5) + kd)).toNat)), (0, .ref (A 31)), (1, .int (Int32.ofInt xv)), (2, .long av), (4, .long bv), (6, .int (Int32.ofInt ov)), (7, .int (Int32.ofInt wi)), (8, .int (Int32.ofInt cl)), (9, .int (Int32.ofInt kd))]) rfl (by decide) (fun _ h => h) (z_load X (x := ov) rfl (List.Mem.tail _ (List.Mem.tail _ (List.Mem.tail _ (List.Mem.tail _ (List.Mem.tail _ (List.Mem.tail _ (List.Mem.tail _ (List.Mem.tail _ (List.Mem.head _))))))))) (w_lload X.1 (ax_d X (show cdA 2 107 = some (.lload 10, 2, 0, 0, 0) from rfl)) (x := (gD t 5 (((xv * 5) + kd)).toNat)) (List.Mem.tail _ (List.Mem.tail _ (List.Mem.tail _ (List.Mem.head _)))) (w_lload X.1 (ax_d X (show cdA 2 109 = some (.lload 12, 2, 0, 0, 0) from rfl)) (x := bv) (List.Mem.tail _ (List.Mem.tail _ (List.Mem.head _))) (w_lload X.1 (ax_d X (show cdA 2 111 = some (.lload 14, 2, 0, 0, 0) from rfl)) (x := bv) (List.Mem.tail _ (List.Mem.head _)) (w_lxor X.1 (ax_d X (show cdA 2 113 = some (.lxor, 1, 0, 0, 0) from rfl)) (w_land X.1 (ax_d X (show cdA 2 114 = some (.land, 1, 0, 0, 0) from rfl)) (z_callS X (rm := rmN 298) (As := [.long ((gD t 5 (((xv * 5) + kd)).toNat) &&& (bv ^^^ bv))]) (st := [.int (Int32.ofInt ov)]) rfl rfl (by rw [E.1, E.2.1, E.2.2.1]; exact j_bitL3 G I ) ⟨by rw [E.2.2.2]; exact (show (rmN 298).frames + 1 ≤ (rmN 2).frames by decide), by rw [E.2.2.2]; exact (show 8 + (mNL (miB 298) + 11) + (rmN 298).locals ≤ (rmN 2).locals by decide), by rw [E.2.2.2]; exact (show 0 + (rmN 298).cells ≤ (rmN 2).cells by decide), by rw [E.2.2.2]; exact (show 0 + (rmN 298).slots ≤ (rmN 2).slots by decide)⟩ (Nat.le_of_ble_eq_true rfl) (fun vv s1022 hq => ?_) (fun ee s1022 hq => ?_))))))))
                  rotate_left
                  · obtain ⟨rfl, e1023, hv, hrs1022, hps1022⟩ := hq; cases hv
                  obtain ⟨rfl, e1023, hv, hrs1022, hps1022⟩ := hq
                  cases hv
                  show WS k 118 [(16, .int (Int32.ofInt e1021)), (14, .long bv), (12, .long bv), (10, .long (gD t 5 (((xv * 5) + kd)).toNat)), (0, .ref (A 31)), (1, .int (Int32.ofInt xv)), (2, .long av), (4, .long bv), (6, .int (Int32.ofInt ov)), (7, .int (Int32.ofInt wi)), (8, .int (Int32.ofInt cl)), (9, .int (Int32.ofInt kd))] [.int (Int32.ofInt e1023), .int (Int32.ofInt ov)] (Wd A dT t) 0 0
                  refine z_add X rfl (z_store X (lv' := [(6, .int (Int32.ofInt (ov + e1023))), (16, .int (Int32.ofInt e1021)), (14, .long bv), (12, .long bv), (10, .long (gD t 5 (((xv * 5) + kd)).toNat)), (0, .ref (A 31)), (1, .int (Int32.ofInt xv)), (2, .long av), (4, .long bv), (7, .int (Int32.ofInt wi)), (8, .int (Int32.ofInt cl)), (9, .int (Int32.ofInt kd))]) rfl (by decide) (fun _ h => h) (z_load X (x := wi) rfl (List.Mem.tail _ (List.Mem.tail _ (List.Mem.tail _ (List.Mem.tail _ (List.Mem.tail _ (List.Mem.tail _ (List.Mem.tail _ (List.Mem.tail _ (List.Mem.tail _ (List.Mem.head _)))))))))) (z_load X (x := e1021) rfl (List.Mem.tail _ (List.Mem.head _)) (z_add X rfl (z_store X (lv' := [(7, .int (Int32.ofInt (wi + e1021))), (6, .int (Int32.ofInt (ov + e1023))), (16, .int (Int32.ofInt e1021)), (14, .long bv), (12, .long bv), (10, .long (gD t 5 (((xv * 5) + kd)).toNat)), (0, .ref (A 31)), (1, .int (Int32.ofInt xv)), (2, .long av), (4, .long bv), (8, .int (Int32.ofInt cl)), (9, .int (Int32.ofInt kd))]) rfl (by decide) (fun _ h => h) (z_load X (x := kd) rfl (List.Mem.tail _ (List.Mem.tail _ (List.Mem.tail _ (List.Mem.tail _ (List.Mem.tail _ (List.Mem.tail _ (List.Mem.tail _ (List.Mem.tail _ (List.Mem.tail _ (List.Mem.tail _ (List.Mem.tail _ (List.Mem.head _)))))))))))) (z_const X rfl (z_icmp_ne X (t := 139) rfl rfl ⟨by first | exact oq_92a22ab8 g1008 | omega, by first | exact oq_422db60c g1008 | omega⟩ (by decide) (fun g1024 => ?_) (fun g1024 => ?_)))))))))
                  ·
                    as_aux_lemma =>
                     refine z_const X rfl (z_store X (lv' := [(8, .int (Int32.ofInt 0)), (7, .int (Int32.ofInt (wi + e1021))), (6, .int (Int32.ofInt (ov + e1023))), (16, .int (Int32.ofInt e1021)), (14, .long bv), (12, .long bv), (10, .long (gD t 5 (((xv * 5) + kd)).toNat)), (0, .ref (A 31)), (1, .int (Int32.ofInt xv)), (2, .long av), (4, .long bv), (9, .int (Int32.ofInt kd))]) rfl (by decide) (fun _ h => h) (z_inc X (x := kd) (lv' := [(9, .int (Int32.ofInt (kd + 1))), (8, .int (Int32.ofInt 0)), (7, .int (Int32.ofInt (wi + e1021))), (6, .int (Int32.ofInt (ov + e1023))), (16, .int (Int32.ofInt e1021)), (14, .long bv), (12, .long bv), (10, .long (gD t 5 (((xv * 5) + kd)).toNat)), (0, .ref (A 31)), (1, .int (Int32.ofInt xv)), (2, .long av), (4, .long bv)]) rfl (by decide) (List.Mem.tail _ (List.Mem.tail _ (List.Mem.tail _ (List.Mem.tail _ (List.Mem.tail _ (List.Mem.tail _ (List.Mem.tail _ (List.Mem.tail _ (List.Mem.tail _ (List.Mem.tail _ (List.Mem.tail _ (List.Mem.head _)))))))))))) (fun _ h => h) (z_goto X (t := 12) rfl rfl (WS_pq [8, 9, 10, 11, 3, 2, 1, 0] (lv' := [(0, .ref (A 31)), (1, .int (Int32.ofInt xv)), (2, .long av), (4, .long bv), (6, .int (Int32.ofInt (ov + e1023))), (7, .int (Int32.ofInt (wi + e1021))), (8, .int (Int32.ofInt 0)), (9, .int (Int32.ofInt (kd + 1)))]) rfl ?_))))
                     exact ih _ xv av bv (ov + e1023) (wi + e1021) 0 (kd + 1) I F ⟨fsq_y (here := bv) (there := bv) hq.1 (fun j => fm_dd F (by decide)) (by first | exact hi.2.2.2.2.1 | (clear g1024 g1006; omega) | (clear g1006; omega) | omega) (by first | exact oq_76809eae g1007 | (clear g1024 g1006; omega) | (clear g1006; omega) | omega) (by first | (exfalso; omega) | (unfold hrK; first | rw [if_pos (by first | (clear g1024 g1006; omega) | (clear g1006; omega) | omega)] | rw [if_neg (by first | (clear g1024 g1006; omega) | (clear g1006; omega) | omega)])) (by first | (exfalso; omega) | (unfold thK hrK; first | rw [if_pos (by first | (clear g1024 g1006; omega) | (clear g1006; omega) | omega)] | (rw [if_neg (by first | (clear g1024 g1006; omega) | (clear g1006; omega) | omega), if_pos (by first | (clear g1024 g1006; omega) | (clear g1006; omega) | omega)]; first | rw [if_pos (by first | (clear g1024 g1006; omega) | (clear g1006; omega) | omega)] | rw [if_neg (by first | (clear g1024 g1006; omega) | (clear g1006; omega) | omega)]) | (rw [if_neg (by first | (clear g1024 g1006; omega) | (clear g1006; omega) | omega), if_neg (by first | (clear g1024 g1006; omega) | (clear g1006; omega) | omega)]; first | rw [if_pos (by first | (clear g1024 g1006; omega) | (clear g1006; omega) | omega)] | rw [if_neg (by first | (clear g1024 g1006; omega) | (clear g1006; omega) | omega)]))) hps1020.1 hps1022.1 (by first | exact Or.inl (And.intro (g1008) (oq_830d2eaf g1008 g1007)) | (clear g1024 g1006; omega) | (clear g1006; omega) | omega), hq.2⟩ (by first | exact ⟨And.intro (hi.1.1) (And.intro (hi.1.2.1) (hi.1.2.2)), oq_cdf84dd2 g1008 g1007, oq_cdf84dd2 g1008 g1007, And.intro (by decide) (by decide), oq_177a211a g1008, oq_04e08c97 g1008, hi.2.2.2.2.2.2⟩ | omega) (by first | exact qk_me hm (by decide) (oq_f619ccd3 g1008) | exact oq_c7685525 g1008 g1007 | omega) kx
                  ·
                    refine z_load X (x := e1021) rfl (List.Mem.tail _ (List.Mem.tail _ (List.Mem.head _))) (z_goto X (t := 140) rfl rfl (z_store X (lv' := [(8, .int (Int32.ofInt e1021)), (7, .int (Int32.ofInt (wi + e1021))), (6, .int (Int32.ofInt (ov + e1023))), (16, .int (Int32.ofInt e1021)), (14, .long bv), (12, .long bv), (10, .long (gD t 5 (((xv * 5) + kd)).toNat)), (0, .ref (A 31)), (1, .int (Int32.ofInt xv)), (2, .long av), (4, .long bv), (9, .int (Int32.ofInt kd))]) rfl (by decide) (fun _ h => h) (z_inc X (x := kd) (lv' := [(9, .int (Int32.ofInt (kd + 1))), (8, .int (Int32.ofInt e1021)), (7, .int (Int32.ofInt (wi + e1021))), (6, .int (Int32.ofInt (ov + e1023))), (16, .int (Int32.ofInt e1021)), (14, .long bv), (12, .long bv), (10, .long (gD t 5 (((xv * 5) + kd)).toNat)), (0, .ref (A 31)), (1, .int (Int32.ofInt xv)), (2, .long av), (4, .long bv)]) rfl (by decide) (List.Mem.tail _ (List.Mem.tail _ (List.Mem.tail _ (List.Mem.tail _ (List.Mem.tail _ (List.Mem.tail _ (List.Mem.tail _ (List.Mem.tail _ (List.Mem.tail _ (List.Mem.tail _ (List.Mem.tail _ (List.Mem.head _)))))))))))) (fun _ h => h) (z_goto X (t := 12) rfl rfl (WS_pq [8, 9, 10, 11, 3, 2, 1, 0] (lv' := [(0, .ref (A 31)), (1, .int (Int32.ofInt xv)), (2, .long av), (4, .long bv), (6, .int (Int32.ofInt (ov + e1023))), (7, .int (Int32.ofInt (wi + e1021))), (8, .int (Int32.ofInt e1021)), (9, .int (Int32.ofInt (kd + 1)))]) rfl ?_)))))
                    exact ih _ xv av bv (ov + e1023) (wi + e1021) e1021 (kd + 1) I F ⟨fsq_y (here := bv) (there := bv) hq.1 (fun j => fm_dd F (by decide)) (by first | exact hi.2.2.2.2.1 | (clear g1006; omega) | omega) (by first | exact oq_76809eae g1007 | (clear g1006; omega) | omega) (by first | (exfalso; omega) | (unfold hrK; first | rw [if_pos (by first | (clear g1006; omega) | omega)] | rw [if_neg (by first | (clear g1006; omega) | omega)])) (by first | (exfalso; omega) | (unfold thK hrK; first | rw [if_pos (by first | (clear g1006; omega) | omega)] | (rw [if_neg (by first | (clear g1006; omega) | omega), if_pos (by first | (clear g1006; omega) | omega)]; first | rw [if_pos (by first | (clear g1006; omega) | omega)] | rw [if_neg (by first | (clear g1006; omega) | omega)]) | (rw [if_neg (by first | (clear g1006; omega) | omega), if_neg (by first | (clear g1006; omega) | omega)]; first | rw [if_pos (by first | (clear g1006; omega) | omega)] | rw [if_neg (by first | (clear g1006; omega) | omega)]))) hps1020.1 hps1022.1 (by first | exact Or.inl (And.intro (g1024) (rfl)) | (clear g1006; omega) | omega), hq.2⟩ (by first | exact ⟨And.intro (hi.1.1) (And.intro (hi.1.2.1) (hi.1.2.2)), oq_cdf84dd2 g1024 g1007, oq_cdf84dd2 g1024 g1007, oq_7f2763ea g1024 g1007, oq_177a211a g1024, oq_04e08c97 g1024, hi.2.2.2.2.2.2⟩ | omega) (by first | exact qk_me hm (by decide) (oq_f619ccd3 g1024) | exact oq_c7685525 g1024 g1007 | omega) kx
             ·
               as_aux_lemma =>
                refine z_load X (x := kd) rfl (List.Mem.tail _ (List.Mem.tail _ (List.Mem.tail _ (List.Mem.tail _ (List.Mem.tail _ (List.Mem.tail _ (List.Mem.tail _ (List.Mem.tail _ (List.Mem.head _))))))))) (z_const X rfl (z_icmp_ne X (t := 58) rfl rfl ⟨by first | exact oq_fa4e5087 hi.2.2.2.2.1 | omega, by first | exact oq_85aa3fe6 g1002 | omega⟩ (by decide) (fun g1025 => ?_) (fun g1025 => ?_)))
                ·
                  refine w_lload_n X.1 (ax_d X (show cdA 2 58 = some (.lload_n 2, 1, 0, 0, 0) from rfl)) (x := av) (List.Mem.tail _ (List.Mem.tail _ (List.Mem.tail _ (List.Mem.head _)))) (w_lstore X.1 (lv' := [(12, .long av), (10, .long (gD t 5 (((xv * 5) + kd)).toNat)), (0, .ref (A 31)), (1, .int (Int32.ofInt xv)), (2, .long av), (4, .long bv), (6, .int (Int32.ofInt ov)), (7, .int (Int32.ofInt wi)), (8, .int (Int32.ofInt cl)), (9, .int (Int32.ofInt kd))]) (ax_d X (show cdA 2 59 = some (.lstore 12, 2, 0, 0, 0) from rfl)) (by rw [X.2.1.2.2]; decide) (fun _ h => h) (z_load X (x := kd) rfl (List.Mem.tail _ (List.Mem.tail _ (List.Mem.tail _ (List.Mem.tail _ (List.Mem.tail _ (List.Mem.tail _ (List.Mem.tail _ (List.Mem.tail _ (List.Mem.tail _ (List.Mem.head _)))))))))) (z_const X rfl (z_icmp_ne X (t := 72) rfl rfl ⟨by first | exact oq_fa4e5087 hi.2.2.2.2.1 | omega, by first | exact oq_85aa3fe6 g1002 | omega⟩ (by decide) (fun g1026 => ?_) (fun g1026 => ?_)))))
                  ·
                    refine z_load X (x := kd) rfl (List.Mem.tail _ (List.Mem.tail _ (List.Mem.tail _ (List.Mem.tail _ (List.Mem.tail _ (List.Mem.tail _ (List.Mem.tail _ (List.Mem.tail _ (List.Mem.tail _ (List.Mem.head _)))))))))) (z_const X rfl (z_icmp_ge X (t := 85) rfl rfl ⟨by first | exact oq_fa4e5087 hi.2.2.2.2.1 | omega, by first | exact oq_85aa3fe6 g1002 | omega⟩ (by decide) (fun g1027 => ?_) (fun g1027 => ?_)))
                    ·
                      refine w_lload X.1 (ax_d X (show cdA 2 85 = some (.lload 12, 2, 0, 0, 0) from rfl)) (x := av) (List.Mem.head _) (z_bipush X rfl (z_jushr X rfl (w_lstore X.1 (lv' := [(14, .long (jushr av 8)), (12, .long av), (10, .long (gD t 5 (((xv * 5) + kd)).toNat)), (0, .ref (A 31)), (1, .int (Int32.ofInt xv)), (2, .long av), (4, .long bv), (6, .int (Int32.ofInt ov)), (7, .int (Int32.ofInt wi)), (8, .int (Int32.ofInt cl)), (9, .int (Int32.ofInt kd))]) (ax_d X (show cdA 2 90 = some (.lstore 14, 2, 0, 0, 0) from rfl)) (by rw [X.2.1.2.2]; decide) (fun _ h => h) (w_lload X.1 (ax_d X (show cdA 2 92 = some (.lload 10, 2, 0, 0, 0) from rfl)) (x := (gD t 5 (((xv * 5) + kd)).toNat)) (List.Mem.tail _ (List.Mem.tail _ (List.Mem.head _))) (w_lload X.1 (ax_d X (show cdA 2 94 = some (.lload 12, 2, 0, 0, 0) from rfl)) (x := av) (List.Mem.tail _ (List.Mem.head _)) (w_land X.1 (ax_d X (show cdA 2 96 = some (.land, 1, 0, 0, 0) from rfl)) (w_lload X.1 (ax_d X (show cdA 2 97 = some (.lload 14, 2, 0, 0, 0) from rfl)) (x := (jushr av 8)) (List.Mem.head _) (w_land X.1 (ax_d X (show cdA 2 99 = some (.land, 1, 0, 0, 0) from rfl)) (z_callS X (rm := rmN 298) (As := [.long (((gD t 5 (((xv * 5) + kd)).toNat) &&& av) &&& (jushr av 8))]) (st := []) rfl rfl (by rw [E.1, E.2.1, E.2.2.1]; exact j_bitL3 G I ) ⟨by rw [E.2.2.2]; exact (show (rmN 298).frames + 1 ≤ (rmN 2).frames by decide), by rw [E.2.2.2]; exact (show 8 + (mNL (miB 298) + 11) + (rmN 298).locals ≤ (rmN 2).locals by decide), by rw [E.2.2.2]; exact (show 0 + (rmN 298).cells ≤ (rmN 2).cells by decide), by rw [E.2.2.2]; exact (show 0 + (rmN 298).slots ≤ (rmN 2).slots by decide)⟩ (Nat.le_of_ble_eq_true rfl) (fun vv s1028 hq => ?_) (fun ee s1028 hq => ?_))))))))))
                      rotate_left
                      · obtain ⟨rfl, e1029, hv, hrs1028, hps1028⟩ := hq; cases hv
                      obtain ⟨rfl, e1029, hv, hrs1028, hps1028⟩ := hq
                      cases hv
                      show WS k 103 [(14, .long (jushr av 8)), (12, .long av), (10, .long (gD t 5 (((xv * 5) + kd)).toNat)), (0, .ref (A 31)), (1, .int (Int32.ofInt xv)), (2, .long av), (4, .long bv), (6, .int (Int32.ofInt ov)), (7, .int (Int32.ofInt wi)), (8, .int (Int32.ofInt cl)), (9, .int (Int32.ofInt kd))] [.int (Int32.ofInt e1029)] (Wd A dT t) 0 0
                      refine z_store X (lv' := [(16, .int (Int32.ofInt e1029)), (14, .long (jushr av 8)), (12, .long av), (10, .long (gD t 5 (((xv * 5) + kd)).toNat)), (0, .ref (A 31)), (1, .int (Int32.ofInt xv)), (2, .long av), (4, .long bv), (6, .int (Int32.ofInt ov)), (7, .int (Int32.ofInt wi)), (8, .int (Int32.ofInt cl)), (9, .int (Int32.ofInt kd))]) rfl (by decide) (fun _ h => h) (z_load X (x := ov) rfl (List.Mem.tail _ (List.Mem.tail _ (List.Mem.tail _ (List.Mem.tail _ (List.Mem.tail _ (List.Mem.tail _ (List.Mem.tail _ (List.Mem.tail _ (List.Mem.head _))))))))) (w_lload X.1 (ax_d X (show cdA 2 107 = some (.lload 10, 2, 0, 0, 0) from rfl)) (x := (gD t 5 (((xv * 5) + kd)).toNat)) (List.Mem.tail _ (List.Mem.tail _ (List.Mem.tail _ (List.Mem.head _)))) (w_lload X.1 (ax_d X (show cdA 2 109 = some (.lload 12, 2, 0, 0, 0) from rfl)) (x := av) (List.Mem.tail _ (List.Mem.tail _ (List.Mem.head _))) (w_lload X.1 (ax_d X (show cdA 2 111 = some (.lload 14, 2, 0, 0, 0) from rfl)) (x := (jushr av 8)) (List.Mem.tail _ (List.Mem.head _)) (w_lxor X.1 (ax_d X (show cdA 2 113 = some (.lxor, 1, 0, 0, 0) from rfl)) (w_land X.1 (ax_d X (show cdA 2 114 = some (.land, 1, 0, 0, 0) from rfl)) (z_callS X (rm := rmN 298) (As := [.long ((gD t 5 (((xv * 5) + kd)).toNat) &&& (av ^^^ (jushr av 8)))]) (st := [.int (Int32.ofInt ov)]) rfl rfl (by rw [E.1, E.2.1, E.2.2.1]; exact j_bitL3 G I ) ⟨by rw [E.2.2.2]; exact (show (rmN 298).frames + 1 ≤ (rmN 2).frames by decide), by rw [E.2.2.2]; exact (show 8 + (mNL (miB 298) + 11) + (rmN 298).locals ≤ (rmN 2).locals by decide), by rw [E.2.2.2]; exact (show 0 + (rmN 298).cells ≤ (rmN 2).cells by decide), by rw [E.2.2.2]; exact (show 0 + (rmN 298).slots ≤ (rmN 2).slots by decide)⟩ (Nat.le_of_ble_eq_true rfl) (fun vv s1030 hq => ?_) (fun ee s1030 hq => ?_))))))))
                      rotate_left
                      · obtain ⟨rfl, e1031, hv, hrs1030, hps1030⟩ := hq; cases hv
                      obtain ⟨rfl, e1031, hv, hrs1030, hps1030⟩ := hq
                      cases hv
                      show WS k 118 [(16, .int (Int32.ofInt e1029)), (14, .long (jushr av 8)), (12, .long av), (10, .long (gD t 5 (((xv * 5) + kd)).toNat)), (0, .ref (A 31)), (1, .int (Int32.ofInt xv)), (2, .long av), (4, .long bv), (6, .int (Int32.ofInt ov)), (7, .int (Int32.ofInt wi)), (8, .int (Int32.ofInt cl)), (9, .int (Int32.ofInt kd))] [.int (Int32.ofInt e1031), .int (Int32.ofInt ov)] (Wd A dT t) 0 0
                      refine z_add X rfl (z_store X (lv' := [(6, .int (Int32.ofInt (ov + e1031))), (16, .int (Int32.ofInt e1029)), (14, .long (jushr av 8)), (12, .long av), (10, .long (gD t 5 (((xv * 5) + kd)).toNat)), (0, .ref (A 31)), (1, .int (Int32.ofInt xv)), (2, .long av), (4, .long bv), (7, .int (Int32.ofInt wi)), (8, .int (Int32.ofInt cl)), (9, .int (Int32.ofInt kd))]) rfl (by decide) (fun _ h => h) (z_load X (x := wi) rfl (List.Mem.tail _ (List.Mem.tail _ (List.Mem.tail _ (List.Mem.tail _ (List.Mem.tail _ (List.Mem.tail _ (List.Mem.tail _ (List.Mem.tail _ (List.Mem.tail _ (List.Mem.head _)))))))))) (z_load X (x := e1029) rfl (List.Mem.tail _ (List.Mem.head _)) (z_add X rfl (z_store X (lv' := [(7, .int (Int32.ofInt (wi + e1029))), (6, .int (Int32.ofInt (ov + e1031))), (16, .int (Int32.ofInt e1029)), (14, .long (jushr av 8)), (12, .long av), (10, .long (gD t 5 (((xv * 5) + kd)).toNat)), (0, .ref (A 31)), (1, .int (Int32.ofInt xv)), (2, .long av), (4, .long bv), (8, .int (Int32.ofInt cl)), (9, .int (Int32.ofInt kd))]) rfl (by decide) (fun _ h => h) (z_load X (x := kd) rfl (List.Mem.tail _ (List.Mem.tail _ (List.Mem.tail _ (List.Mem.tail _ (List.Mem.tail _ (List.Mem.tail _ (List.Mem.tail _ (List.Mem.tail _ (List.Mem.tail _ (List.Mem.tail _ (List.Mem.tail _ (List.Mem.head _)))))))))))) (z_const X rfl (z_icmp_ne X (t := 139) rfl rfl ⟨by first | exact oq_87f30858 g1027 | omega, by first | exact oq_85aa3fe6 g1002 | omega⟩ (by decide) (fun g1032 => ?_) (fun g1032 => ?_)))))))))
                      ·
                        as_aux_lemma =>
                         refine z_const X rfl (z_store X (lv' := [(8, .int (Int32.ofInt 0)), (7, .int (Int32.ofInt (wi + e1029))), (6, .int (Int32.ofInt (ov + e1031))), (16, .int (Int32.ofInt e1029)), (14, .long (jushr av 8)), (12, .long av), (10, .long (gD t 5 (((xv * 5) + kd)).toNat)), (0, .ref (A 31)), (1, .int (Int32.ofInt xv)), (2, .long av), (4, .long bv), (9, .int (Int32.ofInt kd))]) rfl (by decide) (fun _ h => h) (z_inc X (x := kd) (lv' := [(9, .int (Int32.ofInt (kd + 1))), (8, .int (Int32.ofInt 0)), (7, .int (Int32.ofInt (wi + e1029))), (6, .int (Int32.ofInt (ov + e1031))), (16, .int (Int32.ofInt e1029)), (14, .long (jushr av 8)), (12, .long av), (10, .long (gD t 5 (((xv * 5) + kd)).toNat)), (0, .ref (A 31)), (1, .int (Int32.ofInt xv)), (2, .long av), (4, .long bv)]) rfl (by decide) (List.Mem.tail _ (List.Mem.tail _ (List.Mem.tail _ (List.Mem.tail _ (List.Mem.tail _ (List.Mem.tail _ (List.Mem.tail _ (List.Mem.tail _ (List.Mem.tail _ (List.Mem.tail _ (List.Mem.tail _ (List.Mem.head _)))))))))))) (fun _ h => h) (z_goto X (t := 12) rfl rfl (WS_pq [8, 9, 10, 11, 3, 2, 1, 0] (lv' := [(0, .ref (A 31)), (1, .int (Int32.ofInt xv)), (2, .long av), (4, .long bv), (6, .int (Int32.ofInt (ov + e1031))), (7, .int (Int32.ofInt (wi + e1029))), (8, .int (Int32.ofInt 0)), (9, .int (Int32.ofInt (kd + 1)))]) rfl ?_))))
                         exact ih _ xv av bv (ov + e1031) (wi + e1029) 0 (kd + 1) I F ⟨fsq_y (here := av) (there := (jushr av 8)) hq.1 (fun j => fm_dd F (by decide)) (by first | exact hi.2.2.2.2.1 | (clear g1032 g1026 g1025 g1007 g1006; omega) | (clear g1026 g1025 g1007 g1006; omega) | omega) (by first | exact oq_c8e0c7cb g1002 | (clear g1032 g1026 g1025 g1007 g1006; omega) | (clear g1026 g1025 g1007 g1006; omega) | omega) (by first | (exfalso; omega) | (unfold hrK; first | rw [if_pos (by first | (clear g1032 g1026 g1025 g1007 g1006; omega) | (clear g1026 g1025 g1007 g1006; omega) | omega)] | rw [if_neg (by first | exact oq_f00a347d g1027 g1025 | (clear g1032 g1026 g1025 g1007 g1006; omega) | (clear g1026 g1025 g1007 g1006; omega) | omega)])) (by first | (exfalso; omega) | (unfold thK hrK; first | rw [if_pos (by first | (clear g1032 g1026 g1025 g1007 g1006; omega) | (clear g1026 g1025 g1007 g1006; omega) | omega)] | (rw [if_neg (by first | exact oq_e7596824 g1032 g1002 | (clear g1032 g1026 g1025 g1007 g1006; omega) | (clear g1026 g1025 g1007 g1006; omega) | omega), if_pos (by first | (clear g1032 g1026 g1025 g1007 g1006; omega) | (clear g1026 g1025 g1007 g1006; omega) | omega)]; first | rw [if_pos (by first | (clear g1032 g1026 g1025 g1007 g1006; omega) | (clear g1026 g1025 g1007 g1006; omega) | omega)] | rw [if_neg (by first | (clear g1032 g1026 g1025 g1007 g1006; omega) | (clear g1026 g1025 g1007 g1006; omega) | omega)]) | (rw [if_neg (by first | exact oq_e7596824 g1032 g1002 | (clear g1032 g1026 g1025 g1007 g1006; omega) | (clear g1026 g1025 g1007 g1006; omega) | omega), if_neg (by first | exact oq_2be7be13 g1027 | (clear g1032 g1026 g1025 g1007 g1006; omega) | (clear g1026 g1025 g1007 g1006; omega) | omega)]; first | rw [if_pos (by first | (clear g1032 g1026 g1025 g1007 g1006; omega) | (clear g1026 g1025 g1007 g1006; omega) | omega)] | rw [if_neg (by first | exact oq_f00a347d g1027 g1025 | (clear g1032 g1026 g1025 g1007 g1006; omega) | (clear g1026 g1025 g1007 g1006; omega) | omega)]))) hps1028.1 hps1030.1 (by first | exact Or.inr (And.intro (g1032) (rfl)) | (clear g1032 g1026 g1025 g1007 g1006; omega) | (clear g1026 g1025 g1007 g1006; omega) | omega), hq.2⟩ (by first | exact ⟨And.intro (hi.1.1) (And.intro (hi.1.2.1) (hi.1.2.2)), by first | exact And.intro (oq_d8d6a599 hps1030.2.1 hi.2.1.1) (oq_1c7ec0b4 hps1030.2.2 hi.2.1.2) | (clear g1032 g1026 g1025 g1007 g1006; omega) | (clear g1026 g1025 g1007 g1006; omega) | omega, by first | exact And.intro (oq_d8d6a599 hps1028.2.1 hi.2.2.1.1) (oq_1c7ec0b4 hps1028.2.2 hi.2.2.1.2) | (clear g1032 g1026 g1025 g1007 g1006; omega) | (clear g1026 g1025 g1007 g1006; omega) | omega, And.intro (by decide) (by decide), oq_28b1915a g1027, oq_c2445583 g1002, hi.2.2.2.2.2.2⟩ | omega) (by first | exact qk_me hm (by decide) (oq_33241a94 g1002) | exact oq_fa9057d0 g1002 hm | omega) kx
                      ·
                        as_aux_lemma =>
                         refine z_load X (x := e1029) rfl (List.Mem.tail _ (List.Mem.tail _ (List.Mem.head _))) (z_goto X (t := 140) rfl rfl (z_store X (lv' := [(8, .int (Int32.ofInt e1029)), (7, .int (Int32.ofInt (wi + e1029))), (6, .int (Int32.ofInt (ov + e1031))), (16, .int (Int32.ofInt e1029)), (14, .long (jushr av 8)), (12, .long av), (10, .long (gD t 5 (((xv * 5) + kd)).toNat)), (0, .ref (A 31)), (1, .int (Int32.ofInt xv)), (2, .long av), (4, .long bv), (9, .int (Int32.ofInt kd))]) rfl (by decide) (fun _ h => h) (z_inc X (x := kd) (lv' := [(9, .int (Int32.ofInt (kd + 1))), (8, .int (Int32.ofInt e1029)), (7, .int (Int32.ofInt (wi + e1029))), (6, .int (Int32.ofInt (ov + e1031))), (16, .int (Int32.ofInt e1029)), (14, .long (jushr av 8)), (12, .long av), (10, .long (gD t 5 (((xv * 5) + kd)).toNat)), (0, .ref (A 31)), (1, .int (Int32.ofInt xv)), (2, .long av), (4, .long bv)]) rfl (by decide) (List.Mem.tail _ (List.Mem.tail _ (List.Mem.tail _ (List.Mem.tail _ (List.Mem.tail _ (List.Mem.tail _ (List.Mem.tail _ (List.Mem.tail _ (List.Mem.tail _ (List.Mem.tail _ (List.Mem.tail _ (List.Mem.head _)))))))))))) (fun _ h => h) (z_goto X (t := 12) rfl rfl (WS_pq [8, 9, 10, 11, 3, 2, 1, 0] (lv' := [(0, .ref (A 31)), (1, .int (Int32.ofInt xv)), (2, .long av), (4, .long bv), (6, .int (Int32.ofInt (ov + e1031))), (7, .int (Int32.ofInt (wi + e1029))), (8, .int (Int32.ofInt e1029)), (9, .int (Int32.ofInt (kd + 1)))]) rfl ?_)))))
                         exact ih _ xv av bv (ov + e1031) (wi + e1029) e1029 (kd + 1) I F ⟨fsq_y (here := av) (there := (jushr av 8)) hq.1 (fun j => fm_dd F (by decide)) (by first | exact hi.2.2.2.2.1 | (clear g1026 g1025 g1007 g1006; omega) | (clear g1025 g1007 g1006; omega) | omega) (by first | exact oq_2a0590ce g1032 | (clear g1026 g1025 g1007 g1006; omega) | (clear g1025 g1007 g1006; omega) | omega) (by first | (exfalso; omega) | (unfold hrK; first | rw [if_pos (by first | (clear g1026 g1025 g1007 g1006; omega) | (clear g1025 g1007 g1006; omega) | omega)] | rw [if_neg (by first | (clear g1026 g1025 g1007 g1006; omega) | (clear g1025 g1007 g1006; omega) | omega)])) (by first | (exfalso; omega) | (unfold thK hrK; first | rw [if_pos (by first | (clear g1026 g1025 g1007 g1006; omega) | (clear g1025 g1007 g1006; omega) | omega)] | (rw [if_neg (by first | (clear g1026 g1025 g1007 g1006; omega) | (clear g1025 g1007 g1006; omega) | omega), if_pos (by first | (clear g1026 g1025 g1007 g1006; omega) | (clear g1025 g1007 g1006; omega) | omega)]; first | rw [if_pos (by first | (clear g1026 g1025 g1007 g1006; omega) | (clear g1025 g1007 g1006; omega) | omega)] | rw [if_neg (by first | (clear g1026 g1025 g1007 g1006; omega) | (clear g1025 g1007 g1006; omega) | omega)]) | (rw [if_neg (by first | (clear g1026 g1025 g1007 g1006; omega) | (clear g1025 g1007 g1006; omega) | omega), if_neg (by first | (clear g1026 g1025 g1007 g1006; omega) | (clear g1025 g1007 g1006; omega) | omega)]; first | rw [if_pos (by first | (clear g1026 g1025 g1007 g1006; omega) | (clear g1025 g1007 g1006; omega) | omega)] | rw [if_neg (by first | (clear g1026 g1025 g1007 g1006; omega) | (clear g1025 g1007 g1006; omega) | omega)]))) hps1028.1 hps1030.1 (by first | exact Or.inl (And.intro (g1032) (rfl)) | (clear g1026 g1025 g1007 g1006; omega) | (clear g1025 g1007 g1006; omega) | omega), hq.2⟩ (by first | exact ⟨And.intro (hi.1.1) (And.intro (hi.1.2.1) (hi.1.2.2)), oq_c618798b g1032 g1026, oq_c618798b g1032 g1026, oq_f732f4b2 g1032 g1026, oq_177a211a g1032, oq_04e08c97 g1032, hi.2.2.2.2.2.2⟩ | omega) (by first | exact qk_me hm (by decide) (oq_f619ccd3 g1032) | exact oq_c285dd32 g1032 hm | omega) kx
                    ·
                      as_aux_lemma =>
                       refine w_lload X.1 (ax_d X (show cdA 2 78 = some (.lload 12, 2, 0, 0, 0) from rfl)) (x := av) (List.Mem.head _) (z_const X rfl (z_jushr X rfl (z_goto X (t := 90) rfl rfl (w_lstore X.1 (lv' := [(14, .long (jushr av 1)), (12, .long av), (10, .long (gD t 5 (((xv * 5) + kd)).toNat)), (0, .ref (A 31)), (1, .int (Int32.ofInt xv)), (2, .long av), (4, .long bv), (6, .int (Int32.ofInt ov)), (7, .int (Int32.ofInt wi)), (8, .int (Int32.ofInt cl)), (9, .int (Int32.ofInt kd))]) (ax_d X (show cdA 2 90 = some (.lstore 14, 2, 0, 0, 0) from rfl)) (by rw [X.2.1.2.2]; decide) (fun _ h => h) (w_lload X.1 (ax_d X (show cdA 2 92 = some (.lload 10, 2, 0, 0, 0) from rfl)) (x := (gD t 5 (((xv * 5) + kd)).toNat)) (List.Mem.tail _ (List.Mem.tail _ (List.Mem.head _))) (w_lload X.1 (ax_d X (show cdA 2 94 = some (.lload 12, 2, 0, 0, 0) from rfl)) (x := av) (List.Mem.tail _ (List.Mem.head _)) (w_land X.1 (ax_d X (show cdA 2 96 = some (.land, 1, 0, 0, 0) from rfl)) (w_lload X.1 (ax_d X (show cdA 2 97 = some (.lload 14, 2, 0, 0, 0) from rfl)) (x := (jushr av 1)) (List.Mem.head _) (w_land X.1 (ax_d X (show cdA 2 99 = some (.land, 1, 0, 0, 0) from rfl)) (z_callS X (rm := rmN 298) (As := [.long (((gD t 5 (((xv * 5) + kd)).toNat) &&& av) &&& (jushr av 1))]) (st := []) rfl rfl (by rw [E.1, E.2.1, E.2.2.1]; exact j_bitL3 G I ) ⟨by rw [E.2.2.2]; exact (show (rmN 298).frames + 1 ≤ (rmN 2).frames by decide), by rw [E.2.2.2]; exact (show 8 + (mNL (miB 298) + 11) + (rmN 298).locals ≤ (rmN 2).locals by decide), by rw [E.2.2.2]; exact (show 0 + (rmN 298).cells ≤ (rmN 2).cells by decide), by rw [E.2.2.2]; exact (show 0 + (rmN 298).slots ≤ (rmN 2).slots by decide)⟩ (Nat.le_of_ble_eq_true rfl) (fun vv s1033 hq => ?_) (fun ee s1033 hq => ?_)))))))))))
                       rotate_left
                       · obtain ⟨rfl, e1034, hv, hrs1033, hps1033⟩ := hq; cases hv
                       obtain ⟨rfl, e1034, hv, hrs1033, hps1033⟩ := hq
                       cases hv
                       show WS k 103 [(14, .long (jushr av 1)), (12, .long av), (10, .long (gD t 5 (((xv * 5) + kd)).toNat)), (0, .ref (A 31)), (1, .int (Int32.ofInt xv)), (2, .long av), (4, .long bv), (6, .int (Int32.ofInt ov)), (7, .int (Int32.ofInt wi)), (8, .int (Int32.ofInt cl)), (9, .int (Int32.ofInt kd))] [.int (Int32.ofInt e1034)] (Wd A dT t) 0 0
                       refine z_store X (lv' := [(16, .int (Int32.ofInt e1034)), (14, .long (jushr av 1)), (12, .long av), (10, .long (gD t 5 (((xv * 5) + kd)).toNat)), (0, .ref (A 31)), (1, .int (Int32.ofInt xv)), (2, .long av), (4, .long bv), (6, .int (Int32.ofInt ov)), (7, .int (Int32.ofInt wi)), (8, .int (Int32.ofInt cl)), (9, .int (Int32.ofInt kd))]) rfl (by decide) (fun _ h => h) (z_load X (x := ov) rfl (List.Mem.tail _ (List.Mem.tail _ (List.Mem.tail _ (List.Mem.tail _ (List.Mem.tail _ (List.Mem.tail _ (List.Mem.tail _ (List.Mem.tail _ (List.Mem.head _))))))))) (w_lload X.1 (ax_d X (show cdA 2 107 = some (.lload 10, 2, 0, 0, 0) from rfl)) (x := (gD t 5 (((xv * 5) + kd)).toNat)) (List.Mem.tail _ (List.Mem.tail _ (List.Mem.tail _ (List.Mem.head _)))) (w_lload X.1 (ax_d X (show cdA 2 109 = some (.lload 12, 2, 0, 0, 0) from rfl)) (x := av) (List.Mem.tail _ (List.Mem.tail _ (List.Mem.head _))) (w_lload X.1 (ax_d X (show cdA 2 111 = some (.lload 14, 2, 0, 0, 0) from rfl)) (x := (jushr av 1)) (List.Mem.tail _ (List.Mem.head _)) (w_lxor X.1 (ax_d X (show cdA 2 113 = some (.lxor, 1, 0, 0, 0) from rfl)) (w_land X.1 (ax_d X (show cdA 2 114 = some (.land, 1, 0, 0, 0) from rfl)) (z_callS X (rm := rmN 298) (As := [.long ((gD t 5 (((xv * 5) + kd)).toNat) &&& (av ^^^ (jushr av 1)))]) (st := [.int (Int32.ofInt ov)]) rfl rfl (by rw [E.1, E.2.1, E.2.2.1]; exact j_bitL3 G I ) ⟨by rw [E.2.2.2]; exact (show (rmN 298).frames + 1 ≤ (rmN 2).frames by decide), by rw [E.2.2.2]; exact (show 8 + (mNL (miB 298) + 11) + (rmN 298).locals ≤ (rmN 2).locals by decide), by rw [E.2.2.2]; exact (show 0 + (rmN 298).cells ≤ (rmN 2).cells by decide), by rw [E.2.2.2]; exact (show 0 + (rmN 298).slots ≤ (rmN 2).slots by decide)⟩ (Nat.le_of_ble_eq_true rfl) (fun vv s1035 hq => ?_) (fun ee s1035 hq => ?_))))))))
                       rotate_left
                       · obtain ⟨rfl, e1036, hv, hrs1035, hps1035⟩ := hq; cases hv
                       obtain ⟨rfl, e1036, hv, hrs1035, hps1035⟩ := hq
                       cases hv
                       show WS k 118 [(16, .int (Int32.ofInt e1034)), (14, .long (jushr av 1)), (12, .long av), (10, .long (gD t 5 (((xv * 5) + kd)).toNat)), (0, .ref (A 31)), (1, .int (Int32.ofInt xv)), (2, .long av), (4, .long bv), (6, .int (Int32.ofInt ov)), (7, .int (Int32.ofInt wi)), (8, .int (Int32.ofInt cl)), (9, .int (Int32.ofInt kd))] [.int (Int32.ofInt e1036), .int (Int32.ofInt ov)] (Wd A dT t) 0 0
                       refine z_add X rfl (z_store X (lv' := [(6, .int (Int32.ofInt (ov + e1036))), (16, .int (Int32.ofInt e1034)), (14, .long (jushr av 1)), (12, .long av), (10, .long (gD t 5 (((xv * 5) + kd)).toNat)), (0, .ref (A 31)), (1, .int (Int32.ofInt xv)), (2, .long av), (4, .long bv), (7, .int (Int32.ofInt wi)), (8, .int (Int32.ofInt cl)), (9, .int (Int32.ofInt kd))]) rfl (by decide) (fun _ h => h) (z_load X (x := wi) rfl (List.Mem.tail _ (List.Mem.tail _ (List.Mem.tail _ (List.Mem.tail _ (List.Mem.tail _ (List.Mem.tail _ (List.Mem.tail _ (List.Mem.tail _ (List.Mem.tail _ (List.Mem.head _)))))))))) (z_load X (x := e1034) rfl (List.Mem.tail _ (List.Mem.head _)) (z_add X rfl (z_store X (lv' := [(7, .int (Int32.ofInt (wi + e1034))), (6, .int (Int32.ofInt (ov + e1036))), (16, .int (Int32.ofInt e1034)), (14, .long (jushr av 1)), (12, .long av), (10, .long (gD t 5 (((xv * 5) + kd)).toNat)), (0, .ref (A 31)), (1, .int (Int32.ofInt xv)), (2, .long av), (4, .long bv), (8, .int (Int32.ofInt cl)), (9, .int (Int32.ofInt kd))]) rfl (by decide) (fun _ h => h) (z_load X (x := kd) rfl (List.Mem.tail _ (List.Mem.tail _ (List.Mem.tail _ (List.Mem.tail _ (List.Mem.tail _ (List.Mem.tail _ (List.Mem.tail _ (List.Mem.tail _ (List.Mem.tail _ (List.Mem.tail _ (List.Mem.tail _ (List.Mem.head _)))))))))))) (z_const X rfl (z_icmp_ne X (t := 139) rfl rfl ⟨by first | exact oq_fa4e5087 hi.2.2.2.2.1 | omega, by first | exact oq_f6d1716d g1027 | omega⟩ (by decide) (fun g1037 => ?_) (fun g1037 => ?_)))))))))
                       ·
                         as_aux_lemma =>
                          refine z_const X rfl (z_store X (lv' := [(8, .int (Int32.ofInt 0)), (7, .int (Int32.ofInt (wi + e1034))), (6, .int (Int32.ofInt (ov + e1036))), (16, .int (Int32.ofInt e1034)), (14, .long (jushr av 1)), (12, .long av), (10, .long (gD t 5 (((xv * 5) + kd)).toNat)), (0, .ref (A 31)), (1, .int (Int32.ofInt xv)), (2, .long av), (4, .long bv), (9, .int (Int32.ofInt kd))]) rfl (by decide) (fun _ h => h) (z_inc X (x := kd) (lv' := [(9, .int (Int32.ofInt (kd + 1))), (8, .int (Int32.ofInt 0)), (7, .int (Int32.ofInt (wi + e1034))), (6, .int (Int32.ofInt (ov + e1036))), (16, .int (Int32.ofInt e1034)), (14, .long (jushr av 1)), (12, .long av), (10, .long (gD t 5 (((xv * 5) + kd)).toNat)), (0, .ref (A 31)), (1, .int (Int32.ofInt xv)), (2, .long av), (4, .long bv)]) rfl (by decide) (List.Mem.tail _ (List.Mem.tail _ (List.Mem.tail _ (List.Mem.tail _ (List.Mem.tail _ (List.Mem.tail _ (List.Mem.tail _ (List.Mem.tail _ (List.Mem.tail _ (List.Mem.tail _ (List.Mem.tail _ (List.Mem.head _)))))))))))) (fun _ h => h) (z_goto X (t := 12) rfl rfl (WS_pq [8, 9, 10, 11, 3, 2, 1, 0] (lv' := [(0, .ref (A 31)), (1, .int (Int32.ofInt xv)), (2, .long av), (4, .long bv), (6, .int (Int32.ofInt (ov + e1036))), (7, .int (Int32.ofInt (wi + e1034))), (8, .int (Int32.ofInt 0)), (9, .int (Int32.ofInt (kd + 1)))]) rfl ?_))))
                          exact ih _ xv av bv (ov + e1036) (wi + e1034) 0 (kd + 1) I F ⟨fsq_y (here := av) (there := (jushr av 1)) hq.1 (fun j => fm_dd F (by decide)) (by first | exact hi.2.2.2.2.1 | (clear g1037 g1026 g1025 g1007 g1006; omega) | (clear g1026 g1025 g1007 g1006; omega) | omega) (by first | exact oq_651bdbd8 g1027 | (clear g1037 g1026 g1025 g1007 g1006; omega) | (clear g1026 g1025 g1007 g1006; omega) | omega) (by first | (exfalso; omega) | (unfold hrK; first | rw [if_pos (by first | (clear g1037 g1026 g1025 g1007 g1006; omega) | (clear g1026 g1025 g1007 g1006; omega) | omega)] | rw [if_neg (by first | exact oq_b23d70ec g1027 g1007 | (clear g1037 g1026 g1025 g1007 g1006; omega) | (clear g1026 g1025 g1007 g1006; omega) | omega)])) (by first | (exfalso; omega) | (unfold thK hrK; first | rw [if_pos (by first | (clear g1037 g1026 g1025 g1007 g1006; omega) | (clear g1026 g1025 g1007 g1006; omega) | omega)] | (rw [if_neg (by first | exact oq_407f866a g1027 | (clear g1037 g1026 g1025 g1007 g1006; omega) | (clear g1026 g1025 g1007 g1006; omega) | omega), if_pos (by first | exact oq_eaaea1eb g1027 | (clear g1037 g1026 g1025 g1007 g1006; omega) | (clear g1026 g1025 g1007 g1006; omega) | omega)]; first | rw [if_pos (by first | (clear g1037 g1026 g1025 g1007 g1006; omega) | (clear g1026 g1025 g1007 g1006; omega) | omega)] | rw [if_neg (by first | exact oq_b23d70ec g1027 g1007 | (clear g1037 g1026 g1025 g1007 g1006; omega) | (clear g1026 g1025 g1007 g1006; omega) | omega)]) | (rw [if_neg (by first | (clear g1037 g1026 g1025 g1007 g1006; omega) | (clear g1026 g1025 g1007 g1006; omega) | omega), if_neg (by first | (clear g1037 g1026 g1025 g1007 g1006; omega) | (clear g1026 g1025 g1007 g1006; omega) | omega)]; first | rw [if_pos (by first | (clear g1037 g1026 g1025 g1007 g1006; omega) | (clear g1026 g1025 g1007 g1006; omega) | omega)] | rw [if_neg (by first | (clear g1037 g1026 g1025 g1007 g1006; omega) | (clear g1026 g1025 g1007 g1006; omega) | omega)]))) hps1033.1 hps1035.1 (by first | exact Or.inr (And.intro (g1037) (rfl)) | (clear g1037 g1026 g1025 g1007 g1006; omega) | (clear g1026 g1025 g1007 g1006; omega) | omega), hq.2⟩ (by first | exact ⟨And.intro (hi.1.1) (And.intro (hi.1.2.1) (hi.1.2.2)), by first | exact And.intro (oq_d8d6a599 hps1035.2.1 hi.2.1.1) (oq_1c7ec0b4 hps1035.2.2 hi.2.1.2) | (clear g1037 g1026 g1025 g1007 g1006; omega) | (clear g1026 g1025 g1007 g1006; omega) | omega, by first | exact And.intro (oq_d8d6a599 hps1033.2.1 hi.2.2.1.1) (oq_1c7ec0b4 hps1033.2.2 hi.2.2.1.2) | (clear g1037 g1026 g1025 g1007 g1006; omega) | (clear g1026 g1025 g1007 g1006; omega) | omega, And.intro (by decide) (by decide), oq_54f49eb5 hi.2.2.2.2.1, oq_c62f093d g1027, hi.2.2.2.2.2.2⟩ | omega) (by first | exact qk_me hm (by decide) (oq_a4e4bc10 g1027) | exact oq_f402bcda g1027 hm | omega) kx
                       ·
                         as_aux_lemma =>
                          refine z_load X (x := e1034) rfl (List.Mem.tail _ (List.Mem.tail _ (List.Mem.head _))) (z_goto X (t := 140) rfl rfl (z_store X (lv' := [(8, .int (Int32.ofInt e1034)), (7, .int (Int32.ofInt (wi + e1034))), (6, .int (Int32.ofInt (ov + e1036))), (16, .int (Int32.ofInt e1034)), (14, .long (jushr av 1)), (12, .long av), (10, .long (gD t 5 (((xv * 5) + kd)).toNat)), (0, .ref (A 31)), (1, .int (Int32.ofInt xv)), (2, .long av), (4, .long bv), (9, .int (Int32.ofInt kd))]) rfl (by decide) (fun _ h => h) (z_inc X (x := kd) (lv' := [(9, .int (Int32.ofInt (kd + 1))), (8, .int (Int32.ofInt e1034)), (7, .int (Int32.ofInt (wi + e1034))), (6, .int (Int32.ofInt (ov + e1036))), (16, .int (Int32.ofInt e1034)), (14, .long (jushr av 1)), (12, .long av), (10, .long (gD t 5 (((xv * 5) + kd)).toNat)), (0, .ref (A 31)), (1, .int (Int32.ofInt xv)), (2, .long av), (4, .long bv)]) rfl (by decide) (List.Mem.tail _ (List.Mem.tail _ (List.Mem.tail _ (List.Mem.tail _ (List.Mem.tail _ (List.Mem.tail _ (List.Mem.tail _ (List.Mem.tail _ (List.Mem.tail _ (List.Mem.tail _ (List.Mem.tail _ (List.Mem.head _)))))))))))) (fun _ h => h) (z_goto X (t := 12) rfl rfl (WS_pq [8, 9, 10, 11, 3, 2, 1, 0] (lv' := [(0, .ref (A 31)), (1, .int (Int32.ofInt xv)), (2, .long av), (4, .long bv), (6, .int (Int32.ofInt (ov + e1036))), (7, .int (Int32.ofInt (wi + e1034))), (8, .int (Int32.ofInt e1034)), (9, .int (Int32.ofInt (kd + 1)))]) rfl ?_)))))
                          exact ih _ xv av bv (ov + e1036) (wi + e1034) e1034 (kd + 1) I F ⟨fsq_y (here := av) (there := (jushr av 1)) hq.1 (fun j => fm_dd F (by decide)) (by first | exact hi.2.2.2.2.1 | (clear g1026 g1025 g1007 g1006; omega) | (clear g1025 g1007 g1006; omega) | omega) (by first | exact oq_651bdbd8 g1027 | (clear g1026 g1025 g1007 g1006; omega) | (clear g1025 g1007 g1006; omega) | omega) (by first | (exfalso; omega) | (unfold hrK; first | rw [if_pos (by first | (clear g1026 g1025 g1007 g1006; omega) | (clear g1025 g1007 g1006; omega) | omega)] | rw [if_neg (by first | (clear g1026 g1025 g1007 g1006; omega) | (clear g1025 g1007 g1006; omega) | omega)])) (by first | (exfalso; omega) | (unfold thK hrK; first | rw [if_pos (by first | (clear g1026 g1025 g1007 g1006; omega) | (clear g1025 g1007 g1006; omega) | omega)] | (rw [if_neg (by first | (clear g1026 g1025 g1007 g1006; omega) | (clear g1025 g1007 g1006; omega) | omega), if_pos (by first | (clear g1026 g1025 g1007 g1006; omega) | (clear g1025 g1007 g1006; omega) | omega)]; first | rw [if_pos (by first | (clear g1026 g1025 g1007 g1006; omega) | (clear g1025 g1007 g1006; omega) | omega)] | rw [if_neg (by first | (clear g1026 g1025 g1007 g1006; omega) | (clear g1025 g1007 g1006; omega) | omega)]) | (rw [if_neg (by first | (clear g1026 g1025 g1007 g1006; omega) | (clear g1025 g1007 g1006; omega) | omega), if_neg (by first | (clear g1026 g1025 g1007 g1006; omega) | (clear g1025 g1007 g1006; omega) | omega)]; first | rw [if_pos (by first | (clear g1026 g1025 g1007 g1006; omega) | (clear g1025 g1007 g1006; omega) | omega)] | rw [if_neg (by first | (clear g1026 g1025 g1007 g1006; omega) | (clear g1025 g1007 g1006; omega) | omega)]))) hps1033.1 hps1035.1 (by first | exact Or.inl (And.intro (g1037) (rfl)) | (clear g1026 g1025 g1007 g1006; omega) | (clear g1025 g1007 g1006; omega) | omega), hq.2⟩ (by first | exact ⟨And.intro (hi.1.1) (And.intro (hi.1.2.1) (hi.1.2.2)), oq_fa5877f3 g1037 g1027, oq_fa5877f3 g1037 g1027, oq_821f40af g1037 g1027, oq_177a211a g1037, oq_04e08c97 g1037, hi.2.2.2.2.2.2⟩ | omega) (by first | exact qk_me hm (by decide) (oq_f619ccd3 g1037) | exact oq_3fb7a02b g1037 g1027 | omega) kx
                  ·
                    as_aux_lemma =>
                     refine w_lload X.1 (ax_d X (show cdA 2 67 = some (.lload 4, 2, 0, 0, 0) from rfl)) (x := bv) (List.Mem.tail _ (List.Mem.tail _ (List.Mem.tail _ (List.Mem.tail _ (List.Mem.tail _ (List.Mem.head _)))))) (z_goto X (t := 90) rfl rfl (w_lstore X.1 (lv' := [(14, .long bv), (12, .long av), (10, .long (gD t 5 (((xv * 5) + kd)).toNat)), (0, .ref (A 31)), (1, .int (Int32.ofInt xv)), (2, .long av), (4, .long bv), (6, .int (Int32.ofInt ov)), (7, .int (Int32.ofInt wi)), (8, .int (Int32.ofInt cl)), (9, .int (Int32.ofInt kd))]) (ax_d X (show cdA 2 90 = some (.lstore 14, 2, 0, 0, 0) from rfl)) (by rw [X.2.1.2.2]; decide) (fun _ h => h) (w_lload X.1 (ax_d X (show cdA 2 92 = some (.lload 10, 2, 0, 0, 0) from rfl)) (x := (gD t 5 (((xv * 5) + kd)).toNat)) (List.Mem.tail _ (List.Mem.tail _ (List.Mem.head _))) (w_lload X.1 (ax_d X (show cdA 2 94 = some (.lload 12, 2, 0, 0, 0) from rfl)) (x := av) (List.Mem.tail _ (List.Mem.head _)) (w_land X.1 (ax_d X (show cdA 2 96 = some (.land, 1, 0, 0, 0) from rfl)) (w_lload X.1 (ax_d X (show cdA 2 97 = some (.lload 14, 2, 0, 0, 0) from rfl)) (x := bv) (List.Mem.head _) (w_land X.1 (ax_d X (show cdA 2 99 = some (.land, 1, 0, 0, 0) from rfl)) (z_callS X (rm := rmN 298) (As := [.long (((gD t 5 (((xv * 5) + kd)).toNat) &&& av) &&& bv)]) (st := []) rfl rfl (by rw [E.1, E.2.1, E.2.2.1]; exact j_bitL3 G I ) ⟨by rw [E.2.2.2]; exact (show (rmN 298).frames + 1 ≤ (rmN 2).frames by decide), by rw [E.2.2.2]; exact (show 8 + (mNL (miB 298) + 11) + (rmN 298).locals ≤ (rmN 2).locals by decide), by rw [E.2.2.2]; exact (show 0 + (rmN 298).cells ≤ (rmN 2).cells by decide), by rw [E.2.2.2]; exact (show 0 + (rmN 298).slots ≤ (rmN 2).slots by decide)⟩ (Nat.le_of_ble_eq_true rfl) (fun vv s1038 hq => ?_) (fun ee s1038 hq => ?_)))))))))
                     rotate_left
                     · obtain ⟨rfl, e1039, hv, hrs1038, hps1038⟩ := hq; cases hv
                     obtain ⟨rfl, e1039, hv, hrs1038, hps1038⟩ := hq
                     cases hv
                     show WS k 103 [(14, .long bv), (12, .long av), (10, .long (gD t 5 (((xv * 5) + kd)).toNat)), (0, .ref (A 31)), (1, .int (Int32.ofInt xv)), (2, .long av), (4, .long bv), (6, .int (Int32.ofInt ov)), (7, .int (Int32.ofInt wi)), (8, .int (Int32.ofInt cl)), (9, .int (Int32.ofInt kd))] [.int (Int32.ofInt e1039)] (Wd A dT t) 0 0
                     refine z_store X (lv' := [(16, .int (Int32.ofInt e1039)), (14, .long bv), (12, .long av), (10, .long (gD t 5 (((xv * 5) + kd)).toNat)), (0, .ref (A 31)), (1, .int (Int32.ofInt xv)), (2, .long av), (4, .long bv), (6, .int (Int32.ofInt ov)), (7, .int (Int32.ofInt wi)), (8, .int (Int32.ofInt cl)), (9, .int (Int32.ofInt kd))]) rfl (by decide) (fun _ h => h) (z_load X (x := ov) rfl (List.Mem.tail _ (List.Mem.tail _ (List.Mem.tail _ (List.Mem.tail _ (List.Mem.tail _ (List.Mem.tail _ (List.Mem.tail _ (List.Mem.tail _ (List.Mem.head _))))))))) (w_lload X.1 (ax_d X (show cdA 2 107 = some (.lload 10, 2, 0, 0, 0) from rfl)) (x := (gD t 5 (((xv * 5) + kd)).toNat)) (List.Mem.tail _ (List.Mem.tail _ (List.Mem.tail _ (List.Mem.head _)))) (w_lload X.1 (ax_d X (show cdA 2 109 = some (.lload 12, 2, 0, 0, 0) from rfl)) (x := av) (List.Mem.tail _ (List.Mem.tail _ (List.Mem.head _))) (w_lload X.1 (ax_d X (show cdA 2 111 = some (.lload 14, 2, 0, 0, 0) from rfl)) (x := bv) (List.Mem.tail _ (List.Mem.head _)) (w_lxor X.1 (ax_d X (show cdA 2 113 = some (.lxor, 1, 0, 0, 0) from rfl)) (w_land X.1 (ax_d X (show cdA 2 114 = some (.land, 1, 0, 0, 0) from rfl)) (z_callS X (rm := rmN 298) (As := [.long ((gD t 5 (((xv * 5) + kd)).toNat) &&& (av ^^^ bv))]) (st := [.int (Int32.ofInt ov)]) rfl rfl (by rw [E.1, E.2.1, E.2.2.1]; exact j_bitL3 G I ) ⟨by rw [E.2.2.2]; exact (show (rmN 298).frames + 1 ≤ (rmN 2).frames by decide), by rw [E.2.2.2]; exact (show 8 + (mNL (miB 298) + 11) + (rmN 298).locals ≤ (rmN 2).locals by decide), by rw [E.2.2.2]; exact (show 0 + (rmN 298).cells ≤ (rmN 2).cells by decide), by rw [E.2.2.2]; exact (show 0 + (rmN 298).slots ≤ (rmN 2).slots by decide)⟩ (Nat.le_of_ble_eq_true rfl) (fun vv s1040 hq => ?_) (fun ee s1040 hq => ?_))))))))
                     rotate_left
                     · obtain ⟨rfl, e1041, hv, hrs1040, hps1040⟩ := hq; cases hv
                     obtain ⟨rfl, e1041, hv, hrs1040, hps1040⟩ := hq
                     cases hv
                     show WS k 118 [(16, .int (Int32.ofInt e1039)), (14, .long bv), (12, .long av), (10, .long (gD t 5 (((xv * 5) + kd)).toNat)), (0, .ref (A 31)), (1, .int (Int32.ofInt xv)), (2, .long av), (4, .long bv), (6, .int (Int32.ofInt ov)), (7, .int (Int32.ofInt wi)), (8, .int (Int32.ofInt cl)), (9, .int (Int32.ofInt kd))] [.int (Int32.ofInt e1041), .int (Int32.ofInt ov)] (Wd A dT t) 0 0
                     refine z_add X rfl (z_store X (lv' := [(6, .int (Int32.ofInt (ov + e1041))), (16, .int (Int32.ofInt e1039)), (14, .long bv), (12, .long av), (10, .long (gD t 5 (((xv * 5) + kd)).toNat)), (0, .ref (A 31)), (1, .int (Int32.ofInt xv)), (2, .long av), (4, .long bv), (7, .int (Int32.ofInt wi)), (8, .int (Int32.ofInt cl)), (9, .int (Int32.ofInt kd))]) rfl (by decide) (fun _ h => h) (z_load X (x := wi) rfl (List.Mem.tail _ (List.Mem.tail _ (List.Mem.tail _ (List.Mem.tail _ (List.Mem.tail _ (List.Mem.tail _ (List.Mem.tail _ (List.Mem.tail _ (List.Mem.tail _ (List.Mem.head _)))))))))) (z_load X (x := e1039) rfl (List.Mem.tail _ (List.Mem.head _)) (z_add X rfl (z_store X (lv' := [(7, .int (Int32.ofInt (wi + e1039))), (6, .int (Int32.ofInt (ov + e1041))), (16, .int (Int32.ofInt e1039)), (14, .long bv), (12, .long av), (10, .long (gD t 5 (((xv * 5) + kd)).toNat)), (0, .ref (A 31)), (1, .int (Int32.ofInt xv)), (2, .long av), (4, .long bv), (8, .int (Int32.ofInt cl)), (9, .int (Int32.ofInt kd))]) rfl (by decide) (fun _ h => h) (z_load X (x := kd) rfl (List.Mem.tail _ (List.Mem.tail _ (List.Mem.tail _ (List.Mem.tail _ (List.Mem.tail _ (List.Mem.tail _ (List.Mem.tail _ (List.Mem.tail _ (List.Mem.tail _ (List.Mem.tail _ (List.Mem.tail _ (List.Mem.head _)))))))))))) (z_const X rfl (z_icmp_ne X (t := 139) rfl rfl ⟨by first | exact oq_92a22ab8 g1026 | omega, by first | exact oq_422db60c g1026 | omega⟩ (by decide) (fun g1042 => ?_) (fun g1042 => ?_)))))))))
                     ·
                       as_aux_lemma =>
                        refine z_const X rfl (z_store X (lv' := [(8, .int (Int32.ofInt 0)), (7, .int (Int32.ofInt (wi + e1039))), (6, .int (Int32.ofInt (ov + e1041))), (16, .int (Int32.ofInt e1039)), (14, .long bv), (12, .long av), (10, .long (gD t 5 (((xv * 5) + kd)).toNat)), (0, .ref (A 31)), (1, .int (Int32.ofInt xv)), (2, .long av), (4, .long bv), (9, .int (Int32.ofInt kd))]) rfl (by decide) (fun _ h => h) (z_inc X (x := kd) (lv' := [(9, .int (Int32.ofInt (kd + 1))), (8, .int (Int32.ofInt 0)), (7, .int (Int32.ofInt (wi + e1039))), (6, .int (Int32.ofInt (ov + e1041))), (16, .int (Int32.ofInt e1039)), (14, .long bv), (12, .long av), (10, .long (gD t 5 (((xv * 5) + kd)).toNat)), (0, .ref (A 31)), (1, .int (Int32.ofInt xv)), (2, .long av), (4, .long bv)]) rfl (by decide) (List.Mem.tail _ (List.Mem.tail _ (List.Mem.tail _ (List.Mem.tail _ (List.Mem.tail _ (List.Mem.tail _ (List.Mem.tail _ (List.Mem.tail _ (List.Mem.tail _ (List.Mem.tail _ (List.Mem.tail _ (List.Mem.head _)))))))))))) (fun _ h => h) (z_goto X (t := 12) rfl rfl (WS_pq [8, 9, 10, 11, 3, 2, 1, 0] (lv' := [(0, .ref (A 31)), (1, .int (Int32.ofInt xv)), (2, .long av), (4, .long bv), (6, .int (Int32.ofInt (ov + e1041))), (7, .int (Int32.ofInt (wi + e1039))), (8, .int (Int32.ofInt 0)), (9, .int (Int32.ofInt (kd + 1)))]) rfl ?_))))
                        exact ih _ xv av bv (ov + e1041) (wi + e1039) 0 (kd + 1) I F ⟨fsq_y (here := av) (there := bv) hq.1 (fun j => fm_dd F (by decide)) (by first | exact hi.2.2.2.2.1 | (clear g1042 g1025 g1007 g1006; omega) | (clear g1025 g1007 g1006; omega) | omega) (by first | exact oq_2a0590ce g1026 | (clear g1042 g1025 g1007 g1006; omega) | (clear g1025 g1007 g1006; omega) | omega) (by first | (exfalso; omega) | (unfold hrK; first | rw [if_pos (by first | (clear g1042 g1025 g1007 g1006; omega) | (clear g1025 g1007 g1006; omega) | omega)] | rw [if_neg (by first | (clear g1042 g1025 g1007 g1006; omega) | (clear g1025 g1007 g1006; omega) | omega)])) (by first | (exfalso; omega) | (unfold thK hrK; first | rw [if_pos (by first | (clear g1042 g1025 g1007 g1006; omega) | (clear g1025 g1007 g1006; omega) | omega)] | (rw [if_neg (by first | (clear g1042 g1025 g1007 g1006; omega) | (clear g1025 g1007 g1006; omega) | omega), if_pos (by first | (clear g1042 g1025 g1007 g1006; omega) | (clear g1025 g1007 g1006; omega) | omega)]; first | rw [if_pos (by first | (clear g1042 g1025 g1007 g1006; omega) | (clear g1025 g1007 g1006; omega) | omega)] | rw [if_neg (by first | (clear g1042 g1025 g1007 g1006; omega) | (clear g1025 g1007 g1006; omega) | omega)]) | (rw [if_neg (by first | (clear g1042 g1025 g1007 g1006; omega) | (clear g1025 g1007 g1006; omega) | omega), if_neg (by first | (clear g1042 g1025 g1007 g1006; omega) | (clear g1025 g1007 g1006; omega) | omega)]; first | rw [if_pos (by first | (clear g1042 g1025 g1007 g1006; omega) | (clear g1025 g1007 g1006; omega) | omega)] | rw [if_neg (by first | (clear g1042 g1025 g1007 g1006; omega) | (clear g1025 g1007 g1006; omega) | omega)]))) hps1038.1 hps1040.1 (by first | exact Or.inl (And.intro (g1026) (oq_441b24d9 g1042 g1026)) | (clear g1042 g1025 g1007 g1006; omega) | (clear g1025 g1007 g1006; omega) | omega), hq.2⟩ (by first | exact ⟨And.intro (hi.1.1) (And.intro (hi.1.2.1) (hi.1.2.2)), oq_c455f342 g1042 g1026, oq_c455f342 g1042 g1026, And.intro (by decide) (by decide), oq_177a211a g1026, oq_04e08c97 g1026, hi.2.2.2.2.2.2⟩ | omega) (by first | exact qk_me hm (by decide) (oq_f619ccd3 g1026) | exact oq_c285dd32 g1026 hm | omega) kx
                     ·
                       as_aux_lemma =>
                        refine z_load X (x := e1039) rfl (List.Mem.tail _ (List.Mem.tail _ (List.Mem.head _))) (z_goto X (t := 140) rfl rfl (z_store X (lv' := [(8, .int (Int32.ofInt e1039)), (7, .int (Int32.ofInt (wi + e1039))), (6, .int (Int32.ofInt (ov + e1041))), (16, .int (Int32.ofInt e1039)), (14, .long bv), (12, .long av), (10, .long (gD t 5 (((xv * 5) + kd)).toNat)), (0, .ref (A 31)), (1, .int (Int32.ofInt xv)), (2, .long av), (4, .long bv), (9, .int (Int32.ofInt kd))]) rfl (by decide) (fun _ h => h) (z_inc X (x := kd) (lv' := [(9, .int (Int32.ofInt (kd + 1))), (8, .int (Int32.ofInt e1039)), (7, .int (Int32.ofInt (wi + e1039))), (6, .int (Int32.ofInt (ov + e1041))), (16, .int (Int32.ofInt e1039)), (14, .long bv), (12, .long av), (10, .long (gD t 5 (((xv * 5) + kd)).toNat)), (0, .ref (A 31)), (1, .int (Int32.ofInt xv)), (2, .long av), (4, .long bv)]) rfl (by decide) (List.Mem.tail _ (List.Mem.tail _ (List.Mem.tail _ (List.Mem.tail _ (List.Mem.tail _ (List.Mem.tail _ (List.Mem.tail _ (List.Mem.tail _ (List.Mem.tail _ (List.Mem.tail _ (List.Mem.tail _ (List.Mem.head _)))))))))))) (fun _ h => h) (z_goto X (t := 12) rfl rfl (WS_pq [8, 9, 10, 11, 3, 2, 1, 0] (lv' := [(0, .ref (A 31)), (1, .int (Int32.ofInt xv)), (2, .long av), (4, .long bv), (6, .int (Int32.ofInt (ov + e1041))), (7, .int (Int32.ofInt (wi + e1039))), (8, .int (Int32.ofInt e1039)), (9, .int (Int32.ofInt (kd + 1)))]) rfl ?_)))))
                        exact ih _ xv av bv (ov + e1041) (wi + e1039) e1039 (kd + 1) I F ⟨fsq_y (here := av) (there := bv) hq.1 (fun j => fm_dd F (by decide)) (by first | exact hi.2.2.2.2.1 | (clear g1025 g1007 g1006; omega) | (clear g1007 g1006; omega) | omega) (by first | exact oq_2a0590ce g1042 | (clear g1025 g1007 g1006; omega) | (clear g1007 g1006; omega) | omega) (by first | (exfalso; omega) | (unfold hrK; first | rw [if_pos (by first | (clear g1025 g1007 g1006; omega) | (clear g1007 g1006; omega) | omega)] | rw [if_neg (by first | exact oq_0ea6a29b g1042 | (clear g1025 g1007 g1006; omega) | (clear g1007 g1006; omega) | omega)])) (by first | (exfalso; omega) | (unfold thK hrK; first | rw [if_pos (by first | exact oq_a081f251 g1042 | (clear g1025 g1007 g1006; omega) | (clear g1007 g1006; omega) | omega)] | (rw [if_neg (by first | (clear g1025 g1007 g1006; omega) | (clear g1007 g1006; omega) | omega), if_pos (by first | (clear g1025 g1007 g1006; omega) | (clear g1007 g1006; omega) | omega)]; first | rw [if_pos (by first | (clear g1025 g1007 g1006; omega) | (clear g1007 g1006; omega) | omega)] | rw [if_neg (by first | (clear g1025 g1007 g1006; omega) | (clear g1007 g1006; omega) | omega)]) | (rw [if_neg (by first | (clear g1025 g1007 g1006; omega) | (clear g1007 g1006; omega) | omega), if_neg (by first | (clear g1025 g1007 g1006; omega) | (clear g1007 g1006; omega) | omega)]; first | rw [if_pos (by first | (clear g1025 g1007 g1006; omega) | (clear g1007 g1006; omega) | omega)] | rw [if_neg (by first | (clear g1025 g1007 g1006; omega) | (clear g1007 g1006; omega) | omega)]))) hps1038.1 hps1040.1 (by first | exact Or.inl (And.intro (g1042) (rfl)) | (clear g1025 g1007 g1006; omega) | (clear g1007 g1006; omega) | omega), hq.2⟩ (by first | exact And.intro (And.intro (hi.1.1) (And.intro (hi.1.2.1) (hi.1.2.2))) (And.intro (And.intro (oq_d8d6a599 hps1040.2.1 hi.2.1.1) (oq_1c7ec0b4 hps1040.2.2 hi.2.1.2)) (And.intro (And.intro (oq_d8d6a599 hps1038.2.1 hi.2.2.1.1) (oq_1c7ec0b4 hps1038.2.2 hi.2.2.1.2)) (And.intro (And.intro (hps1038.2.1) (hps1038.2.2)) (And.intro (oq_177a211a g1042) (And.intro (oq_04e08c97 g1042) (hi.2.2.2.2.2.2)))))) | (clear g1025 g1007 g1006; omega) | (clear g1007 g1006; omega) | omega) (by first | exact qk_me hm (by decide) (oq_f619ccd3 g1042) | exact oq_c285dd32 g1042 hm | omega) kx
                ·
                  as_aux_lemma =>
                   refine w_lload X.1 (ax_d X (show cdA 2 53 = some (.lload 4, 2, 0, 0, 0) from rfl)) (x := bv) (List.Mem.tail _ (List.Mem.tail _ (List.Mem.tail _ (List.Mem.tail _ (List.Mem.head _))))) (z_goto X (t := 59) rfl rfl (w_lstore X.1 (lv' := [(12, .long bv), (10, .long (gD t 5 (((xv * 5) + kd)).toNat)), (0, .ref (A 31)), (1, .int (Int32.ofInt xv)), (2, .long av), (4, .long bv), (6, .int (Int32.ofInt ov)), (7, .int (Int32.ofInt wi)), (8, .int (Int32.ofInt cl)), (9, .int (Int32.ofInt kd))]) (ax_d X (show cdA 2 59 = some (.lstore 12, 2, 0, 0, 0) from rfl)) (by rw [X.2.1.2.2]; decide) (fun _ h => h) (z_load X (x := kd) rfl (List.Mem.tail _ (List.Mem.tail _ (List.Mem.tail _ (List.Mem.tail _ (List.Mem.tail _ (List.Mem.tail _ (List.Mem.tail _ (List.Mem.tail _ (List.Mem.tail _ (List.Mem.head _)))))))))) (z_const X rfl (z_icmp_ne X (t := 72) rfl rfl ⟨by first | exact oq_5e17cb06 g1025 | omega, by first | exact oq_ebfd4642 g1025 | omega⟩ (by decide) (fun g1043 => ?_) (fun g1043 => ?_))))))
                   ·
                     refine z_load X (x := kd) rfl (List.Mem.tail _ (List.Mem.tail _ (List.Mem.tail _ (List.Mem.tail _ (List.Mem.tail _ (List.Mem.tail _ (List.Mem.tail _ (List.Mem.tail _ (List.Mem.tail _ (List.Mem.head _)))))))))) (z_const X rfl (z_icmp_ge X (t := 85) rfl rfl ⟨by first | exact oq_5e17cb06 g1025 | omega, by first | exact oq_ebfd4642 g1025 | omega⟩ (by decide) (fun g1044 => ?_) (fun g1044 => ?_)))
                     ·
                       refine w_lload X.1 (ax_d X (show cdA 2 85 = some (.lload 12, 2, 0, 0, 0) from rfl)) (x := bv) (List.Mem.head _) (z_bipush X rfl (z_jushr X rfl (w_lstore X.1 (lv' := [(14, .long (jushr bv 8)), (12, .long bv), (10, .long (gD t 5 (((xv * 5) + kd)).toNat)), (0, .ref (A 31)), (1, .int (Int32.ofInt xv)), (2, .long av), (4, .long bv), (6, .int (Int32.ofInt ov)), (7, .int (Int32.ofInt wi)), (8, .int (Int32.ofInt cl)), (9, .int (Int32.ofInt kd))]) (ax_d X (show cdA 2 90 = some (.lstore 14, 2, 0, 0, 0) from rfl)) (by rw [X.2.1.2.2]; decide) (fun _ h => h) (w_lload X.1 (ax_d X (show cdA 2 92 = some (.lload 10, 2, 0, 0, 0) from rfl)) (x := (gD t 5 (((xv * 5) + kd)).toNat)) (List.Mem.tail _ (List.Mem.tail _ (List.Mem.head _))) (w_lload X.1 (ax_d X (show cdA 2 94 = some (.lload 12, 2, 0, 0, 0) from rfl)) (x := bv) (List.Mem.tail _ (List.Mem.head _)) (w_land X.1 (ax_d X (show cdA 2 96 = some (.land, 1, 0, 0, 0) from rfl)) (w_lload X.1 (ax_d X (show cdA 2 97 = some (.lload 14, 2, 0, 0, 0) from rfl)) (x := (jushr bv 8)) (List.Mem.head _) (w_land X.1 (ax_d X (show cdA 2 99 = some (.land, 1, 0, 0, 0) from rfl)) (z_callS X (rm := rmN 298) (As := [.long (((gD t 5 (((xv * 5) + kd)).toNat) &&& bv) &&& (jushr bv 8))]) (st := []) rfl rfl (by rw [E.1, E.2.1, E.2.2.1]; exact j_bitL3 G I ) ⟨by rw [E.2.2.2]; exact (show (rmN 298).frames + 1 ≤ (rmN 2).frames by decide), by rw [E.2.2.2]; exact (show 8 + (mNL (miB 298) + 11) + (rmN 298).locals ≤ (rmN 2).locals by decide), by rw [E.2.2.2]; exact (show 0 + (rmN 298).cells ≤ (rmN 2).cells by decide), by rw [E.2.2.2]; exact (show 0 + (rmN 298).slots ≤ (rmN 2).slots by decide)⟩ (Nat.le_of_ble_eq_true rfl) (fun vv s1045 hq => ?_) (fun ee s1045 hq => ?_))))))))))
                       rotate_left
                       · obtain ⟨rfl, e1046, hv, hrs1045, hps1045⟩ := hq; cases hv
                       obtain ⟨rfl, e1046, hv, hrs1045, hps1045⟩ := hq
                       cases hv
                       show WS k 103 [(14, .long (jushr bv 8)), (12, .long bv), (10, .long (gD t 5 (((xv * 5) + kd)).toNat)), (0, .ref (A 31)), (1, .int (Int32.ofInt xv)), (2, .long av), (4, .long bv), (6, .int (Int32.ofInt ov)), (7, .int (Int32.ofInt wi)), (8, .int (Int32.ofInt cl)), (9, .int (Int32.ofInt kd))] [.int (Int32.ofInt e1046)] (Wd A dT t) 0 0
                       refine z_store X (lv' := [(16, .int (Int32.ofInt e1046)), (14, .long (jushr bv 8)), (12, .long bv), (10, .long (gD t 5 (((xv * 5) + kd)).toNat)), (0, .ref (A 31)), (1, .int (Int32.ofInt xv)), (2, .long av), (4, .long bv), (6, .int (Int32.ofInt ov)), (7, .int (Int32.ofInt wi)), (8, .int (Int32.ofInt cl)), (9, .int (Int32.ofInt kd))]) rfl (by decide) (fun _ h => h) (z_load X (x := ov) rfl (List.Mem.tail _ (List.Mem.tail _ (List.Mem.tail _ (List.Mem.tail _ (List.Mem.tail _ (List.Mem.tail _ (List.Mem.tail _ (List.Mem.tail _ (List.Mem.head _))))))))) (w_lload X.1 (ax_d X (show cdA 2 107 = some (.lload 10, 2, 0, 0, 0) from rfl)) (x := (gD t 5 (((xv * 5) + kd)).toNat)) (List.Mem.tail _ (List.Mem.tail _ (List.Mem.tail _ (List.Mem.head _)))) (w_lload X.1 (ax_d X (show cdA 2 109 = some (.lload 12, 2, 0, 0, 0) from rfl)) (x := bv) (List.Mem.tail _ (List.Mem.tail _ (List.Mem.head _))) (w_lload X.1 (ax_d X (show cdA 2 111 = some (.lload 14, 2, 0, 0, 0) from rfl)) (x := (jushr bv 8)) (List.Mem.tail _ (List.Mem.head _)) (w_lxor X.1 (ax_d X (show cdA 2 113 = some (.lxor, 1, 0, 0, 0) from rfl)) (w_land X.1 (ax_d X (show cdA 2 114 = some (.land, 1, 0, 0, 0) from rfl)) (z_callS X (rm := rmN 298) (As := [.long ((gD t 5 (((xv * 5) + kd)).toNat) &&& (bv ^^^ (jushr bv 8)))]) (st := [.int (Int32.ofInt ov)]) rfl rfl (by rw [E.1, E.2.1, E.2.2.1]; exact j_bitL3 G I ) ⟨by rw [E.2.2.2]; exact (show (rmN 298).frames + 1 ≤ (rmN 2).frames by decide), by rw [E.2.2.2]; exact (show 8 + (mNL (miB 298) + 11) + (rmN 298).locals ≤ (rmN 2).locals by decide), by rw [E.2.2.2]; exact (show 0 + (rmN 298).cells ≤ (rmN 2).cells by decide), by rw [E.2.2.2]; exact (show 0 + (rmN 298).slots ≤ (rmN 2).slots by decide)⟩ (Nat.le_of_ble_eq_true rfl) (fun vv s1047 hq => ?_) (fun ee s1047 hq => ?_))))))))
                       rotate_left
                       · obtain ⟨rfl, e1048, hv, hrs1047, hps1047⟩ := hq; cases hv
                       obtain ⟨rfl, e1048, hv, hrs1047, hps1047⟩ := hq
                       cases hv
                       show WS k 118 [(16, .int (Int32.ofInt e1046)), (14, .long (jushr bv 8)), (12, .long bv), (10, .long (gD t 5 (((xv * 5) + kd)).toNat)), (0, .ref (A 31)), (1, .int (Int32.ofInt xv)), (2, .long av), (4, .long bv), (6, .int (Int32.ofInt ov)), (7, .int (Int32.ofInt wi)), (8, .int (Int32.ofInt cl)), (9, .int (Int32.ofInt kd))] [.int (Int32.ofInt e1048), .int (Int32.ofInt ov)] (Wd A dT t) 0 0
                       refine z_add X rfl (z_store X (lv' := [(6, .int (Int32.ofInt (ov + e1048))), (16, .int (Int32.ofInt e1046)), (14, .long (jushr bv 8)), (12, .long bv), (10, .long (gD t 5 (((xv * 5) + kd)).toNat)), (0, .ref (A 31)), (1, .int (Int32.ofInt xv)), (2, .long av), (4, .long bv), (7, .int (Int32.ofInt wi)), (8, .int (Int32.ofInt cl)), (9, .int (Int32.ofInt kd))]) rfl (by decide) (fun _ h => h) (z_load X (x := wi) rfl (List.Mem.tail _ (List.Mem.tail _ (List.Mem.tail _ (List.Mem.tail _ (List.Mem.tail _ (List.Mem.tail _ (List.Mem.tail _ (List.Mem.tail _ (List.Mem.tail _ (List.Mem.head _)))))))))) (z_load X (x := e1046) rfl (List.Mem.tail _ (List.Mem.head _)) (z_add X rfl (z_store X (lv' := [(7, .int (Int32.ofInt (wi + e1046))), (6, .int (Int32.ofInt (ov + e1048))), (16, .int (Int32.ofInt e1046)), (14, .long (jushr bv 8)), (12, .long bv), (10, .long (gD t 5 (((xv * 5) + kd)).toNat)), (0, .ref (A 31)), (1, .int (Int32.ofInt xv)), (2, .long av), (4, .long bv), (8, .int (Int32.ofInt cl)), (9, .int (Int32.ofInt kd))]) rfl (by decide) (fun _ h => h) (z_load X (x := kd) rfl (List.Mem.tail _ (List.Mem.tail _ (List.Mem.tail _ (List.Mem.tail _ (List.Mem.tail _ (List.Mem.tail _ (List.Mem.tail _ (List.Mem.tail _ (List.Mem.tail _ (List.Mem.tail _ (List.Mem.tail _ (List.Mem.head _)))))))))))) (z_const X rfl (z_icmp_ne X (t := 139) rfl rfl ⟨by first | exact oq_87f30858 g1044 | omega, by first | exact oq_ebfd4642 g1025 | omega⟩ (by decide) (fun g1049 => ?_) (fun g1049 => ?_)))))))))
                       ·
                         as_aux_lemma =>
                          refine z_const X rfl (z_store X (lv' := [(8, .int (Int32.ofInt 0)), (7, .int (Int32.ofInt (wi + e1046))), (6, .int (Int32.ofInt (ov + e1048))), (16, .int (Int32.ofInt e1046)), (14, .long (jushr bv 8)), (12, .long bv), (10, .long (gD t 5 (((xv * 5) + kd)).toNat)), (0, .ref (A 31)), (1, .int (Int32.ofInt xv)), (2, .long av), (4, .long bv), (9, .int (Int32.ofInt kd))]) rfl (by decide) (fun _ h => h) (z_inc X (x := kd) (lv' := [(9, .int (Int32.ofInt (kd + 1))), (8, .int (Int32.ofInt 0)), (7, .int (Int32.ofInt (wi + e1046))), (6, .int (Int32.ofInt (ov + e1048))), (16, .int (Int32.ofInt e1046)), (14, .long (jushr bv 8)), (12, .long bv), (10, .long (gD t 5 (((xv * 5) + kd)).toNat)), (0, .ref (A 31)), (1, .int (Int32.ofInt xv)), (2, .long av), (4, .long bv)]) rfl (by decide) (List.Mem.tail _ (List.Mem.tail _ (List.Mem.tail _ (List.Mem.tail _ (List.Mem.tail _ (List.Mem.tail _ (List.Mem.tail _ (List.Mem.tail _ (List.Mem.tail _ (List.Mem.tail _ (List.Mem.tail _ (List.Mem.head _)))))))))))) (fun _ h => h) (z_goto X (t := 12) rfl rfl (WS_pq [8, 9, 10, 11, 3, 2, 1, 0] (lv' := [(0, .ref (A 31)), (1, .int (Int32.ofInt xv)), (2, .long av), (4, .long bv), (6, .int (Int32.ofInt (ov + e1048))), (7, .int (Int32.ofInt (wi + e1046))), (8, .int (Int32.ofInt 0)), (9, .int (Int32.ofInt (kd + 1)))]) rfl ?_))))
                          exact ih _ xv av bv (ov + e1048) (wi + e1046) 0 (kd + 1) I F ⟨fsq_y (here := bv) (there := (jushr bv 8)) hq.1 (fun j => fm_dd F (by decide)) (by first | exact hi.2.2.2.2.1 | (clear g1049 g1043 g1007 g1006; omega) | (clear g1043 g1007 g1006; omega) | omega) (by first | exact oq_4c92b049 g1025 | (clear g1049 g1043 g1007 g1006; omega) | (clear g1043 g1007 g1006; omega) | omega) (by first | (exfalso; omega) | (unfold hrK; first | rw [if_pos (by first | exact Or.inr (oq_31dc8c85 g1025) | (clear g1049 g1043 g1007 g1006; omega) | (clear g1043 g1007 g1006; omega) | omega)] | rw [if_neg (by first | (clear g1049 g1043 g1007 g1006; omega) | (clear g1043 g1007 g1006; omega) | omega)])) (by first | (exfalso; omega) | (unfold thK hrK; first | rw [if_pos (by first | (clear g1049 g1043 g1007 g1006; omega) | (clear g1043 g1007 g1006; omega) | omega)] | (rw [if_neg (by first | exact oq_1400b2a9 g1025 | (clear g1049 g1043 g1007 g1006; omega) | (clear g1043 g1007 g1006; omega) | omega), if_pos (by first | (clear g1049 g1043 g1007 g1006; omega) | (clear g1043 g1007 g1006; omega) | omega)]; first | rw [if_pos (by first | (clear g1049 g1043 g1007 g1006; omega) | (clear g1043 g1007 g1006; omega) | omega)] | rw [if_neg (by first | (clear g1049 g1043 g1007 g1006; omega) | (clear g1043 g1007 g1006; omega) | omega)]) | (rw [if_neg (by first | exact oq_1400b2a9 g1025 | (clear g1049 g1043 g1007 g1006; omega) | (clear g1043 g1007 g1006; omega) | omega), if_neg (by first | exact oq_e7db82d6 g1025 | (clear g1049 g1043 g1007 g1006; omega) | (clear g1043 g1007 g1006; omega) | omega)]; first | rw [if_pos (by first | exact Or.inr (oq_31dc8c85 g1025) | (clear g1049 g1043 g1007 g1006; omega) | (clear g1043 g1007 g1006; omega) | omega)] | rw [if_neg (by first | (clear g1049 g1043 g1007 g1006; omega) | (clear g1043 g1007 g1006; omega) | omega)]))) hps1045.1 hps1047.1 (by first | exact Or.inr (And.intro (g1049) (rfl)) | (clear g1049 g1043 g1007 g1006; omega) | (clear g1043 g1007 g1006; omega) | omega), hq.2⟩ (by first | exact ⟨And.intro (hi.1.1) (And.intro (hi.1.2.1) (hi.1.2.2)), by first | exact And.intro (oq_d8d6a599 hps1047.2.1 hi.2.1.1) (oq_1c7ec0b4 hps1047.2.2 hi.2.1.2) | (clear g1049 g1043 g1007 g1006; omega) | (clear g1043 g1007 g1006; omega) | omega, by first | exact And.intro (oq_d8d6a599 hps1045.2.1 hi.2.2.1.1) (oq_1c7ec0b4 hps1045.2.2 hi.2.2.1.2) | (clear g1049 g1043 g1007 g1006; omega) | (clear g1043 g1007 g1006; omega) | omega, And.intro (by decide) (by decide), oq_28b1915a g1044, oq_34527ac9 g1025, hi.2.2.2.2.2.2⟩ | omega) (by first | exact qk_me hm (by decide) (oq_a78fb3de g1025) | exact oq_43811612 g1025 hm | omega) kx
                       ·
                         as_aux_lemma =>
                          refine z_load X (x := e1046) rfl (List.Mem.tail _ (List.Mem.tail _ (List.Mem.head _))) (z_goto X (t := 140) rfl rfl (z_store X (lv' := [(8, .int (Int32.ofInt e1046)), (7, .int (Int32.ofInt (wi + e1046))), (6, .int (Int32.ofInt (ov + e1048))), (16, .int (Int32.ofInt e1046)), (14, .long (jushr bv 8)), (12, .long bv), (10, .long (gD t 5 (((xv * 5) + kd)).toNat)), (0, .ref (A 31)), (1, .int (Int32.ofInt xv)), (2, .long av), (4, .long bv), (9, .int (Int32.ofInt kd))]) rfl (by decide) (fun _ h => h) (z_inc X (x := kd) (lv' := [(9, .int (Int32.ofInt (kd + 1))), (8, .int (Int32.ofInt e1046)), (7, .int (Int32.ofInt (wi + e1046))), (6, .int (Int32.ofInt (ov + e1048))), (16, .int (Int32.ofInt e1046)), (14, .long (jushr bv 8)), (12, .long bv), (10, .long (gD t 5 (((xv * 5) + kd)).toNat)), (0, .ref (A 31)), (1, .int (Int32.ofInt xv)), (2, .long av), (4, .long bv)]) rfl (by decide) (List.Mem.tail _ (List.Mem.tail _ (List.Mem.tail _ (List.Mem.tail _ (List.Mem.tail _ (List.Mem.tail _ (List.Mem.tail _ (List.Mem.tail _ (List.Mem.tail _ (List.Mem.tail _ (List.Mem.tail _ (List.Mem.head _)))))))))))) (fun _ h => h) (z_goto X (t := 12) rfl rfl (WS_pq [8, 9, 10, 11, 3, 2, 1, 0] (lv' := [(0, .ref (A 31)), (1, .int (Int32.ofInt xv)), (2, .long av), (4, .long bv), (6, .int (Int32.ofInt (ov + e1048))), (7, .int (Int32.ofInt (wi + e1046))), (8, .int (Int32.ofInt e1046)), (9, .int (Int32.ofInt (kd + 1)))]) rfl ?_)))))
                          exact ih _ xv av bv (ov + e1048) (wi + e1046) e1046 (kd + 1) I F ⟨fsq_y (here := bv) (there := (jushr bv 8)) hq.1 (fun j => fm_dd F (by decide)) (by first | exact hi.2.2.2.2.1 | (clear g1043 g1007 g1006; omega) | (clear g1007 g1006; omega) | omega) (by first | exact oq_4c92b049 g1025 | (clear g1043 g1007 g1006; omega) | (clear g1007 g1006; omega) | omega) (by first | (exfalso; omega) | (unfold hrK; first | rw [if_pos (by first | (clear g1043 g1007 g1006; omega) | (clear g1007 g1006; omega) | omega)] | rw [if_neg (by first | (clear g1043 g1007 g1006; omega) | (clear g1007 g1006; omega) | omega)])) (by first | (exfalso; omega) | (unfold thK hrK; first | rw [if_pos (by first | (clear g1043 g1007 g1006; omega) | (clear g1007 g1006; omega) | omega)] | (rw [if_neg (by first | (clear g1043 g1007 g1006; omega) | (clear g1007 g1006; omega) | omega), if_pos (by first | (clear g1043 g1007 g1006; omega) | (clear g1007 g1006; omega) | omega)]; first | rw [if_pos (by first | (clear g1043 g1007 g1006; omega) | (clear g1007 g1006; omega) | omega)] | rw [if_neg (by first | (clear g1043 g1007 g1006; omega) | (clear g1007 g1006; omega) | omega)]) | (rw [if_neg (by first | (clear g1043 g1007 g1006; omega) | (clear g1007 g1006; omega) | omega), if_neg (by first | (clear g1043 g1007 g1006; omega) | (clear g1007 g1006; omega) | omega)]; first | rw [if_pos (by first | (clear g1043 g1007 g1006; omega) | (clear g1007 g1006; omega) | omega)] | rw [if_neg (by first | (clear g1043 g1007 g1006; omega) | (clear g1007 g1006; omega) | omega)]))) hps1045.1 hps1047.1 (by first | exact Or.inl (And.intro (g1049) (rfl)) | (clear g1043 g1007 g1006; omega) | (clear g1007 g1006; omega) | omega), hq.2⟩ (by first | exact ⟨And.intro (hi.1.1) (And.intro (hi.1.2.1) (hi.1.2.2)), oq_5030e323 g1049 g1025, oq_5030e323 g1049 g1025, oq_6d05eb5d g1049 g1025, oq_177a211a g1049, oq_04e08c97 g1049, hi.2.2.2.2.2.2⟩ | omega) (by first | exact qk_me hm (by decide) (oq_f619ccd3 g1049) | exact oq_6bed0c83 g1049 g1025 | omega) kx
                     ·
                       as_aux_lemma =>
                        refine w_lload X.1 (ax_d X (show cdA 2 78 = some (.lload 12, 2, 0, 0, 0) from rfl)) (x := bv) (List.Mem.head _) (z_const X rfl (z_jushr X rfl (z_goto X (t := 90) rfl rfl (w_lstore X.1 (lv' := [(14, .long (jushr bv 1)), (12, .long bv), (10, .long (gD t 5 (((xv * 5) + kd)).toNat)), (0, .ref (A 31)), (1, .int (Int32.ofInt xv)), (2, .long av), (4, .long bv), (6, .int (Int32.ofInt ov)), (7, .int (Int32.ofInt wi)), (8, .int (Int32.ofInt cl)), (9, .int (Int32.ofInt kd))]) (ax_d X (show cdA 2 90 = some (.lstore 14, 2, 0, 0, 0) from rfl)) (by rw [X.2.1.2.2]; decide) (fun _ h => h) (w_lload X.1 (ax_d X (show cdA 2 92 = some (.lload 10, 2, 0, 0, 0) from rfl)) (x := (gD t 5 (((xv * 5) + kd)).toNat)) (List.Mem.tail _ (List.Mem.tail _ (List.Mem.head _))) (w_lload X.1 (ax_d X (show cdA 2 94 = some (.lload 12, 2, 0, 0, 0) from rfl)) (x := bv) (List.Mem.tail _ (List.Mem.head _)) (w_land X.1 (ax_d X (show cdA 2 96 = some (.land, 1, 0, 0, 0) from rfl)) (w_lload X.1 (ax_d X (show cdA 2 97 = some (.lload 14, 2, 0, 0, 0) from rfl)) (x := (jushr bv 1)) (List.Mem.head _) (w_land X.1 (ax_d X (show cdA 2 99 = some (.land, 1, 0, 0, 0) from rfl)) (z_callS X (rm := rmN 298) (As := [.long (((gD t 5 (((xv * 5) + kd)).toNat) &&& bv) &&& (jushr bv 1))]) (st := []) rfl rfl (by rw [E.1, E.2.1, E.2.2.1]; exact j_bitL3 G I ) ⟨by rw [E.2.2.2]; exact (show (rmN 298).frames + 1 ≤ (rmN 2).frames by decide), by rw [E.2.2.2]; exact (show 8 + (mNL (miB 298) + 11) + (rmN 298).locals ≤ (rmN 2).locals by decide), by rw [E.2.2.2]; exact (show 0 + (rmN 298).cells ≤ (rmN 2).cells by decide), by rw [E.2.2.2]; exact (show 0 + (rmN 298).slots ≤ (rmN 2).slots by decide)⟩ (Nat.le_of_ble_eq_true rfl) (fun vv s1050 hq => ?_) (fun ee s1050 hq => ?_)))))))))))
                        rotate_left
                        · obtain ⟨rfl, e1051, hv, hrs1050, hps1050⟩ := hq; cases hv
                        obtain ⟨rfl, e1051, hv, hrs1050, hps1050⟩ := hq
                        cases hv
                        show WS k 103 [(14, .long (jushr bv 1)), (12, .long bv), (10, .long (gD t 5 (((xv * 5) + kd)).toNat)), (0, .ref (A 31)), (1, .int (Int32.ofInt xv)), (2, .long av), (4, .long bv), (6, .int (Int32.ofInt ov)), (7, .int (Int32.ofInt wi)), (8, .int (Int32.ofInt cl)), (9, .int (Int32.ofInt kd))] [.int (Int32.ofInt e1051)] (Wd A dT t) 0 0
                        refine z_store X (lv' := [(16, .int (Int32.ofInt e1051)), (14, .long (jushr bv 1)), (12, .long bv), (10, .long (gD t 5 (((xv * 5) + kd)).toNat)), (0, .ref (A 31)), (1, .int (Int32.ofInt xv)), (2, .long av), (4, .long bv), (6, .int (Int32.ofInt ov)), (7, .int (Int32.ofInt wi)), (8, .int (Int32.ofInt cl)), (9, .int (Int32.ofInt kd))]) rfl (by decide) (fun _ h => h) (z_load X (x := ov) rfl (List.Mem.tail _ (List.Mem.tail _ (List.Mem.tail _ (List.Mem.tail _ (List.Mem.tail _ (List.Mem.tail _ (List.Mem.tail _ (List.Mem.tail _ (List.Mem.head _))))))))) (w_lload X.1 (ax_d X (show cdA 2 107 = some (.lload 10, 2, 0, 0, 0) from rfl)) (x := (gD t 5 (((xv * 5) + kd)).toNat)) (List.Mem.tail _ (List.Mem.tail _ (List.Mem.tail _ (List.Mem.head _)))) (w_lload X.1 (ax_d X (show cdA 2 109 = some (.lload 12, 2, 0, 0, 0) from rfl)) (x := bv) (List.Mem.tail _ (List.Mem.tail _ (List.Mem.head _))) (w_lload X.1 (ax_d X (show cdA 2 111 = some (.lload 14, 2, 0, 0, 0) from rfl)) (x := (jushr bv 1)) (List.Mem.tail _ (List.Mem.head _)) (w_lxor X.1 (ax_d X (show cdA 2 113 = some (.lxor, 1, 0, 0, 0) from rfl)) (w_land X.1 (ax_d X (show cdA 2 114 = some (.land, 1, 0, 0, 0) from rfl)) (z_callS X (rm := rmN 298) (As := [.long ((gD t 5 (((xv * 5) + kd)).toNat) &&& (bv ^^^ (jushr bv 1)))]) (st := [.int (Int32.ofInt ov)]) rfl rfl (by rw [E.1, E.2.1, E.2.2.1]; exact j_bitL3 G I ) ⟨by rw [E.2.2.2]; exact (show (rmN 298).frames + 1 ≤ (rmN 2).frames by decide), by rw [E.2.2.2]; exact (show 8 + (mNL (miB 298) + 11) + (rmN 298).locals ≤ (rmN 2).locals by decide), by rw [E.2.2.2]; exact (show 0 + (rmN 298).cells ≤ (rmN 2).cells by decide), by rw [E.2.2.2]; exact (show 0 + (rmN 298).slots ≤ (rmN 2).slots by decide)⟩ (Nat.le_of_ble_eq_true rfl) (fun vv s1052 hq => ?_) (fun ee s1052 hq => ?_))))))))
                        rotate_left
                        · obtain ⟨rfl, e1053, hv, hrs1052, hps1052⟩ := hq; cases hv
                        obtain ⟨rfl, e1053, hv, hrs1052, hps1052⟩ := hq
                        cases hv
                        show WS k 118 [(16, .int (Int32.ofInt e1051)), (14, .long (jushr bv 1)), (12, .long bv), (10, .long (gD t 5 (((xv * 5) + kd)).toNat)), (0, .ref (A 31)), (1, .int (Int32.ofInt xv)), (2, .long av), (4, .long bv), (6, .int (Int32.ofInt ov)), (7, .int (Int32.ofInt wi)), (8, .int (Int32.ofInt cl)), (9, .int (Int32.ofInt kd))] [.int (Int32.ofInt e1053), .int (Int32.ofInt ov)] (Wd A dT t) 0 0
                        refine z_add X rfl (z_store X (lv' := [(6, .int (Int32.ofInt (ov + e1053))), (16, .int (Int32.ofInt e1051)), (14, .long (jushr bv 1)), (12, .long bv), (10, .long (gD t 5 (((xv * 5) + kd)).toNat)), (0, .ref (A 31)), (1, .int (Int32.ofInt xv)), (2, .long av), (4, .long bv), (7, .int (Int32.ofInt wi)), (8, .int (Int32.ofInt cl)), (9, .int (Int32.ofInt kd))]) rfl (by decide) (fun _ h => h) (z_load X (x := wi) rfl (List.Mem.tail _ (List.Mem.tail _ (List.Mem.tail _ (List.Mem.tail _ (List.Mem.tail _ (List.Mem.tail _ (List.Mem.tail _ (List.Mem.tail _ (List.Mem.tail _ (List.Mem.head _)))))))))) (z_load X (x := e1051) rfl (List.Mem.tail _ (List.Mem.head _)) (z_add X rfl (z_store X (lv' := [(7, .int (Int32.ofInt (wi + e1051))), (6, .int (Int32.ofInt (ov + e1053))), (16, .int (Int32.ofInt e1051)), (14, .long (jushr bv 1)), (12, .long bv), (10, .long (gD t 5 (((xv * 5) + kd)).toNat)), (0, .ref (A 31)), (1, .int (Int32.ofInt xv)), (2, .long av), (4, .long bv), (8, .int (Int32.ofInt cl)), (9, .int (Int32.ofInt kd))]) rfl (by decide) (fun _ h => h) (z_load X (x := kd) rfl (List.Mem.tail _ (List.Mem.tail _ (List.Mem.tail _ (List.Mem.tail _ (List.Mem.tail _ (List.Mem.tail _ (List.Mem.tail _ (List.Mem.tail _ (List.Mem.tail _ (List.Mem.tail _ (List.Mem.tail _ (List.Mem.head _)))))))))))) (z_const X rfl (z_icmp_ne X (t := 139) rfl rfl ⟨by first | exact oq_5e17cb06 g1025 | omega, by first | exact oq_f6d1716d g1044 | omega⟩ (by decide) (fun g1054 => ?_) (fun g1054 => ?_)))))))))
                        ·
                          as_aux_lemma =>
                           refine z_const X rfl (z_store X (lv' := [(8, .int (Int32.ofInt 0)), (7, .int (Int32.ofInt (wi + e1051))), (6, .int (Int32.ofInt (ov + e1053))), (16, .int (Int32.ofInt e1051)), (14, .long (jushr bv 1)), (12, .long bv), (10, .long (gD t 5 (((xv * 5) + kd)).toNat)), (0, .ref (A 31)), (1, .int (Int32.ofInt xv)), (2, .long av), (4, .long bv), (9, .int (Int32.ofInt kd))]) rfl (by decide) (fun _ h => h) (z_inc X (x := kd) (lv' := [(9, .int (Int32.ofInt (kd + 1))), (8, .int (Int32.ofInt 0)), (7, .int (Int32.ofInt (wi + e1051))), (6, .int (Int32.ofInt (ov + e1053))), (16, .int (Int32.ofInt e1051)), (14, .long (jushr bv 1)), (12, .long bv), (10, .long (gD t 5 (((xv * 5) + kd)).toNat)), (0, .ref (A 31)), (1, .int (Int32.ofInt xv)), (2, .long av), (4, .long bv)]) rfl (by decide) (List.Mem.tail _ (List.Mem.tail _ (List.Mem.tail _ (List.Mem.tail _ (List.Mem.tail _ (List.Mem.tail _ (List.Mem.tail _ (List.Mem.tail _ (List.Mem.tail _ (List.Mem.tail _ (List.Mem.tail _ (List.Mem.head _)))))))))))) (fun _ h => h) (z_goto X (t := 12) rfl rfl (WS_pq [8, 9, 10, 11, 3, 2, 1, 0] (lv' := [(0, .ref (A 31)), (1, .int (Int32.ofInt xv)), (2, .long av), (4, .long bv), (6, .int (Int32.ofInt (ov + e1053))), (7, .int (Int32.ofInt (wi + e1051))), (8, .int (Int32.ofInt 0)), (9, .int (Int32.ofInt (kd + 1)))]) rfl ?_))))
                           exact ih _ xv av bv (ov + e1053) (wi + e1051) 0 (kd + 1) I F ⟨fsq_y (here := bv) (there := (jushr bv 1)) hq.1 (fun j => fm_dd F (by decide)) (by first | exact hi.2.2.2.2.1 | (clear g1054 g1043 g1007 g1006; omega) | (clear g1043 g1007 g1006; omega) | omega) (by first | exact oq_651bdbd8 g1044 | (clear g1054 g1043 g1007 g1006; omega) | (clear g1043 g1007 g1006; omega) | omega) (by first | (exfalso; omega) | (unfold hrK; first | rw [if_pos (by first | (clear g1054 g1043 g1007 g1006; omega) | (clear g1043 g1007 g1006; omega) | omega)] | rw [if_neg (by first | (clear g1054 g1043 g1007 g1006; omega) | (clear g1043 g1007 g1006; omega) | omega)])) (by first | (exfalso; omega) | (unfold thK hrK; first | rw [if_pos (by first | (clear g1054 g1043 g1007 g1006; omega) | (clear g1043 g1007 g1006; omega) | omega)] | (rw [if_neg (by first | (clear g1054 g1043 g1007 g1006; omega) | (clear g1043 g1007 g1006; omega) | omega), if_pos (by first | (clear g1054 g1043 g1007 g1006; omega) | (clear g1043 g1007 g1006; omega) | omega)]; first | rw [if_pos (by first | (clear g1054 g1043 g1007 g1006; omega) | (clear g1043 g1007 g1006; omega) | omega)] | rw [if_neg (by first | (clear g1054 g1043 g1007 g1006; omega) | (clear g1043 g1007 g1006; omega) | omega)]) | (rw [if_neg (by first | (clear g1054 g1043 g1007 g1006; omega) | (clear g1043 g1007 g1006; omega) | omega), if_neg (by first | (clear g1054 g1043 g1007 g1006; omega) | (clear g1043 g1007 g1006; omega) | omega)]; first | rw [if_pos (by first | (clear g1054 g1043 g1007 g1006; omega) | (clear g1043 g1007 g1006; omega) | omega)] | rw [if_neg (by first | (clear g1054 g1043 g1007 g1006; omega) | (clear g1043 g1007 g1006; omega) | omega)]))) hps1050.1 hps1052.1 (by first | exact Or.inl (And.intro (oq_54864a4f g1044 g1025) (oq_943f1165 g1044 g1025)) | (clear g1054 g1043 g1007 g1006; omega) | (clear g1043 g1007 g1006; omega) | omega), hq.2⟩ (by first | exact ⟨And.intro (hi.1.1) (And.intro (hi.1.2.1) (hi.1.2.2)), oq_0e63c7f6 g1044 g1025, oq_0e63c7f6 g1044 g1025, And.intro (by decide) (by decide), oq_eb44aa74 g1025, oq_c62f093d g1044, hi.2.2.2.2.2.2⟩ | omega) (by first | exact qk_me hm (by decide) (oq_a4e4bc10 g1044) | exact oq_da84de76 g1044 g1025 | omega) kx
                        ·
                          as_aux_lemma =>
                           refine z_load X (x := e1051) rfl (List.Mem.tail _ (List.Mem.tail _ (List.Mem.head _))) (z_goto X (t := 140) rfl rfl (z_store X (lv' := [(8, .int (Int32.ofInt e1051)), (7, .int (Int32.ofInt (wi + e1051))), (6, .int (Int32.ofInt (ov + e1053))), (16, .int (Int32.ofInt e1051)), (14, .long (jushr bv 1)), (12, .long bv), (10, .long (gD t 5 (((xv * 5) + kd)).toNat)), (0, .ref (A 31)), (1, .int (Int32.ofInt xv)), (2, .long av), (4, .long bv), (9, .int (Int32.ofInt kd))]) rfl (by decide) (fun _ h => h) (z_inc X (x := kd) (lv' := [(9, .int (Int32.ofInt (kd + 1))), (8, .int (Int32.ofInt e1051)), (7, .int (Int32.ofInt (wi + e1051))), (6, .int (Int32.ofInt (ov + e1053))), (16, .int (Int32.ofInt e1051)), (14, .long (jushr bv 1)), (12, .long bv), (10, .long (gD t 5 (((xv * 5) + kd)).toNat)), (0, .ref (A 31)), (1, .int (Int32.ofInt xv)), (2, .long av), (4, .long bv)]) rfl (by decide) (List.Mem.tail _ (List.Mem.tail _ (List.Mem.tail _ (List.Mem.tail _ (List.Mem.tail _ (List.Mem.tail _ (List.Mem.tail _ (List.Mem.tail _ (List.Mem.tail _ (List.Mem.tail _ (List.Mem.tail _ (List.Mem.head _)))))))))))) (fun _ h => h) (z_goto X (t := 12) rfl rfl (WS_pq [8, 9, 10, 11, 3, 2, 1, 0] (lv' := [(0, .ref (A 31)), (1, .int (Int32.ofInt xv)), (2, .long av), (4, .long bv), (6, .int (Int32.ofInt (ov + e1053))), (7, .int (Int32.ofInt (wi + e1051))), (8, .int (Int32.ofInt e1051)), (9, .int (Int32.ofInt (kd + 1)))]) rfl ?_)))))
                           exact ih _ xv av bv (ov + e1053) (wi + e1051) e1051 (kd + 1) I F ⟨fsq_y (here := bv) (there := (jushr bv 1)) hq.1 (fun j => fm_dd F (by decide)) (by first | exact hi.2.2.2.2.1 | (clear g1043 g1007 g1006; omega) | (clear g1007 g1006; omega) | omega) (by first | exact oq_651bdbd8 g1044 | (clear g1043 g1007 g1006; omega) | (clear g1007 g1006; omega) | omega) (by first | (exfalso; omega) | (unfold hrK; first | rw [if_pos (by first | (clear g1043 g1007 g1006; omega) | (clear g1007 g1006; omega) | omega)] | rw [if_neg (by first | (clear g1043 g1007 g1006; omega) | (clear g1007 g1006; omega) | omega)])) (by first | (exfalso; omega) | (unfold thK hrK; first | rw [if_pos (by first | (clear g1043 g1007 g1006; omega) | (clear g1007 g1006; omega) | omega)] | (rw [if_neg (by first | (clear g1043 g1007 g1006; omega) | (clear g1007 g1006; omega) | omega), if_pos (by first | (clear g1043 g1007 g1006; omega) | (clear g1007 g1006; omega) | omega)]; first | rw [if_pos (by first | (clear g1043 g1007 g1006; omega) | (clear g1007 g1006; omega) | omega)] | rw [if_neg (by first | (clear g1043 g1007 g1006; omega) | (clear g1007 g1006; omega) | omega)]) | (rw [if_neg (by first | (clear g1043 g1007 g1006; omega) | (clear g1007 g1006; omega) | omega), if_neg (by first | (clear g1043 g1007 g1006; omega) | (clear g1007 g1006; omega) | omega)]; first | rw [if_pos (by first | (clear g1043 g1007 g1006; omega) | (clear g1007 g1006; omega) | omega)] | rw [if_neg (by first | (clear g1043 g1007 g1006; omega) | (clear g1007 g1006; omega) | omega)]))) hps1050.1 hps1052.1 (by first | exact Or.inl (And.intro (g1054) (rfl)) | (clear g1043 g1007 g1006; omega) | (clear g1007 g1006; omega) | omega), hq.2⟩ (by first | exact ⟨And.intro (hi.1.1) (And.intro (hi.1.2.1) (hi.1.2.2)), oq_fa5877f3 g1054 g1044, oq_fa5877f3 g1054 g1044, oq_821f40af g1054 g1044, oq_177a211a g1054, oq_04e08c97 g1054, hi.2.2.2.2.2.2⟩ | omega) (by first | exact qk_me hm (by decide) (oq_f619ccd3 g1054) | exact oq_3fb7a02b g1054 g1044 | omega) kx
                   ·
                     as_aux_lemma =>
                      refine w_lload X.1 (ax_d X (show cdA 2 67 = some (.lload 4, 2, 0, 0, 0) from rfl)) (x := bv) (List.Mem.tail _ (List.Mem.tail _ (List.Mem.tail _ (List.Mem.tail _ (List.Mem.tail _ (List.Mem.head _)))))) (z_goto X (t := 90) rfl rfl (w_lstore X.1 (lv' := [(14, .long bv), (12, .long bv), (10, .long (gD t 5 (((xv * 5) + kd)).toNat)), (0, .ref (A 31)), (1, .int (Int32.ofInt xv)), (2, .long av), (4, .long bv), (6, .int (Int32.ofInt ov)), (7, .int (Int32.ofInt wi)), (8, .int (Int32.ofInt cl)), (9, .int (Int32.ofInt kd))]) (ax_d X (show cdA 2 90 = some (.lstore 14, 2, 0, 0, 0) from rfl)) (by rw [X.2.1.2.2]; decide) (fun _ h => h) (w_lload X.1 (ax_d X (show cdA 2 92 = some (.lload 10, 2, 0, 0, 0) from rfl)) (x := (gD t 5 (((xv * 5) + kd)).toNat)) (List.Mem.tail _ (List.Mem.tail _ (List.Mem.head _))) (w_lload X.1 (ax_d X (show cdA 2 94 = some (.lload 12, 2, 0, 0, 0) from rfl)) (x := bv) (List.Mem.tail _ (List.Mem.head _)) (w_land X.1 (ax_d X (show cdA 2 96 = some (.land, 1, 0, 0, 0) from rfl)) (w_lload X.1 (ax_d X (show cdA 2 97 = some (.lload 14, 2, 0, 0, 0) from rfl)) (x := bv) (List.Mem.head _) (w_land X.1 (ax_d X (show cdA 2 99 = some (.land, 1, 0, 0, 0) from rfl)) (z_callS X (rm := rmN 298) (As := [.long (((gD t 5 (((xv * 5) + kd)).toNat) &&& bv) &&& bv)]) (st := []) rfl rfl (by rw [E.1, E.2.1, E.2.2.1]; exact j_bitL3 G I ) ⟨by rw [E.2.2.2]; exact (show (rmN 298).frames + 1 ≤ (rmN 2).frames by decide), by rw [E.2.2.2]; exact (show 8 + (mNL (miB 298) + 11) + (rmN 298).locals ≤ (rmN 2).locals by decide), by rw [E.2.2.2]; exact (show 0 + (rmN 298).cells ≤ (rmN 2).cells by decide), by rw [E.2.2.2]; exact (show 0 + (rmN 298).slots ≤ (rmN 2).slots by decide)⟩ (Nat.le_of_ble_eq_true rfl) (fun vv s1055 hq => ?_) (fun ee s1055 hq => ?_)))))))))
                      rotate_left
                      · obtain ⟨rfl, e1056, hv, hrs1055, hps1055⟩ := hq; cases hv
                      obtain ⟨rfl, e1056, hv, hrs1055, hps1055⟩ := hq
                      cases hv
                      show WS k 103 [(14, .long bv), (12, .long bv), (10, .long (gD t 5 (((xv * 5) + kd)).toNat)), (0, .ref (A 31)), (1, .int (Int32.ofInt xv)), (2, .long av), (4, .long bv), (6, .int (Int32.ofInt ov)), (7, .int (Int32.ofInt wi)), (8, .int (Int32.ofInt cl)), (9, .int (Int32.ofInt kd))] [.int (Int32.ofInt e1056)] (Wd A dT t) 0 0
                      refine z_store X (lv' := [(16, .int (Int32.ofInt e1056)), (14, .long bv), (12, .long bv), (10, .long (gD t 5 (((xv * 5) + kd)).toNat)), (0, .ref (A 31)), (1, .int (Int32.ofInt xv)), (2, .long av), (4, .long bv), (6, .int (Int32.ofInt ov)), (7, .int (Int32.ofInt wi)), (8, .int (Int32.ofInt cl)), (9, .int (Int32.ofInt kd))]) rfl (by decide) (fun _ h => h) (z_load X (x := ov) rfl (List.Mem.tail _ (List.Mem.tail _ (List.Mem.tail _ (List.Mem.tail _ (List.Mem.tail _ (List.Mem.tail _ (List.Mem.tail _ (List.Mem.tail _ (List.Mem.head _))))))))) (w_lload X.1 (ax_d X (show cdA 2 107 = some (.lload 10, 2, 0, 0, 0) from rfl)) (x := (gD t 5 (((xv * 5) + kd)).toNat)) (List.Mem.tail _ (List.Mem.tail _ (List.Mem.tail _ (List.Mem.head _)))) (w_lload X.1 (ax_d X (show cdA 2 109 = some (.lload 12, 2, 0, 0, 0) from rfl)) (x := bv) (List.Mem.tail _ (List.Mem.tail _ (List.Mem.head _))) (w_lload X.1 (ax_d X (show cdA 2 111 = some (.lload 14, 2, 0, 0, 0) from rfl)) (x := bv) (List.Mem.tail _ (List.Mem.head _)) (w_lxor X.1 (ax_d X (show cdA 2 113 = some (.lxor, 1, 0, 0, 0) from rfl)) (w_land X.1 (ax_d X (show cdA 2 114 = some (.land, 1, 0, 0, 0) from rfl)) (z_callS X (rm := rmN 298) (As := [.long ((gD t 5 (((xv * 5) + kd)).toNat) &&& (bv ^^^ bv))]) (st := [.int (Int32.ofInt ov)]) rfl rfl (by rw [E.1, E.2.1, E.2.2.1]; exact j_bitL3 G I ) ⟨by rw [E.2.2.2]; exact (show (rmN 298).frames + 1 ≤ (rmN 2).frames by decide), by rw [E.2.2.2]; exact (show 8 + (mNL (miB 298) + 11) + (rmN 298).locals ≤ (rmN 2).locals by decide), by rw [E.2.2.2]; exact (show 0 + (rmN 298).cells ≤ (rmN 2).cells by decide), by rw [E.2.2.2]; exact (show 0 + (rmN 298).slots ≤ (rmN 2).slots by decide)⟩ (Nat.le_of_ble_eq_true rfl) (fun vv s1057 hq => ?_) (fun ee s1057 hq => ?_))))))))
                      rotate_left
                      · obtain ⟨rfl, e1058, hv, hrs1057, hps1057⟩ := hq; cases hv
                      obtain ⟨rfl, e1058, hv, hrs1057, hps1057⟩ := hq
                      cases hv
                      show WS k 118 [(16, .int (Int32.ofInt e1056)), (14, .long bv), (12, .long bv), (10, .long (gD t 5 (((xv * 5) + kd)).toNat)), (0, .ref (A 31)), (1, .int (Int32.ofInt xv)), (2, .long av), (4, .long bv), (6, .int (Int32.ofInt ov)), (7, .int (Int32.ofInt wi)), (8, .int (Int32.ofInt cl)), (9, .int (Int32.ofInt kd))] [.int (Int32.ofInt e1058), .int (Int32.ofInt ov)] (Wd A dT t) 0 0
                      refine z_add X rfl (z_store X (lv' := [(6, .int (Int32.ofInt (ov + e1058))), (16, .int (Int32.ofInt e1056)), (14, .long bv), (12, .long bv), (10, .long (gD t 5 (((xv * 5) + kd)).toNat)), (0, .ref (A 31)), (1, .int (Int32.ofInt xv)), (2, .long av), (4, .long bv), (7, .int (Int32.ofInt wi)), (8, .int (Int32.ofInt cl)), (9, .int (Int32.ofInt kd))]) rfl (by decide) (fun _ h => h) (z_load X (x := wi) rfl (List.Mem.tail _ (List.Mem.tail _ (List.Mem.tail _ (List.Mem.tail _ (List.Mem.tail _ (List.Mem.tail _ (List.Mem.tail _ (List.Mem.tail _ (List.Mem.tail _ (List.Mem.head _)))))))))) (z_load X (x := e1056) rfl (List.Mem.tail _ (List.Mem.head _)) (z_add X rfl (z_store X (lv' := [(7, .int (Int32.ofInt (wi + e1056))), (6, .int (Int32.ofInt (ov + e1058))), (16, .int (Int32.ofInt e1056)), (14, .long bv), (12, .long bv), (10, .long (gD t 5 (((xv * 5) + kd)).toNat)), (0, .ref (A 31)), (1, .int (Int32.ofInt xv)), (2, .long av), (4, .long bv), (8, .int (Int32.ofInt cl)), (9, .int (Int32.ofInt kd))]) rfl (by decide) (fun _ h => h) (z_load X (x := kd) rfl (List.Mem.tail _ (List.Mem.tail _ (List.Mem.tail _ (List.Mem.tail _ (List.Mem.tail _ (List.Mem.tail _ (List.Mem.tail _ (List.Mem.tail _ (List.Mem.tail _ (List.Mem.tail _ (List.Mem.tail _ (List.Mem.head _)))))))))))) (z_const X rfl (z_icmp_ne X (t := 139) rfl rfl ⟨by first | exact oq_92a22ab8 g1043 | omega, by first | exact oq_422db60c g1043 | omega⟩ (by decide) (fun g1059 => ?_) (fun g1059 => ?_)))))))))
                      ·
                        as_aux_lemma =>
                         refine z_const X rfl (z_store X (lv' := [(8, .int (Int32.ofInt 0)), (7, .int (Int32.ofInt (wi + e1056))), (6, .int (Int32.ofInt (ov + e1058))), (16, .int (Int32.ofInt e1056)), (14, .long bv), (12, .long bv), (10, .long (gD t 5 (((xv * 5) + kd)).toNat)), (0, .ref (A 31)), (1, .int (Int32.ofInt xv)), (2, .long av), (4, .long bv), (9, .int (Int32.ofInt kd))]) rfl (by decide) (fun _ h => h) (z_inc X (x := kd) (lv' := [(9, .int (Int32.ofInt (kd + 1))), (8, .int (Int32.ofInt 0)), (7, .int (Int32.ofInt (wi + e1056))), (6, .int (Int32.ofInt (ov + e1058))), (16, .int (Int32.ofInt e1056)), (14, .long bv), (12, .long bv), (10, .long (gD t 5 (((xv * 5) + kd)).toNat)), (0, .ref (A 31)), (1, .int (Int32.ofInt xv)), (2, .long av), (4, .long bv)]) rfl (by decide) (List.Mem.tail _ (List.Mem.tail _ (List.Mem.tail _ (List.Mem.tail _ (List.Mem.tail _ (List.Mem.tail _ (List.Mem.tail _ (List.Mem.tail _ (List.Mem.tail _ (List.Mem.tail _ (List.Mem.tail _ (List.Mem.head _)))))))))))) (fun _ h => h) (z_goto X (t := 12) rfl rfl (WS_pq [8, 9, 10, 11, 3, 2, 1, 0] (lv' := [(0, .ref (A 31)), (1, .int (Int32.ofInt xv)), (2, .long av), (4, .long bv), (6, .int (Int32.ofInt (ov + e1058))), (7, .int (Int32.ofInt (wi + e1056))), (8, .int (Int32.ofInt 0)), (9, .int (Int32.ofInt (kd + 1)))]) rfl ?_))))
                         exact ih _ xv av bv (ov + e1058) (wi + e1056) 0 (kd + 1) I F ⟨fsq_y (here := bv) (there := bv) hq.1 (fun j => fm_dd F (by decide)) (by first | exact hi.2.2.2.2.1 | (clear g1059 g1007 g1006; omega) | (clear g1007 g1006; omega) | omega) (by first | exact oq_4c92b049 g1025 | (clear g1059 g1007 g1006; omega) | (clear g1007 g1006; omega) | omega) (by first | (exfalso; omega) | (unfold hrK; first | rw [if_pos (by first | (clear g1059 g1007 g1006; omega) | (clear g1007 g1006; omega) | omega)] | rw [if_neg (by first | (clear g1059 g1007 g1006; omega) | (clear g1007 g1006; omega) | omega)])) (by first | (exfalso; omega) | (unfold thK hrK; first | rw [if_pos (by first | (clear g1059 g1007 g1006; omega) | (clear g1007 g1006; omega) | omega)] | (rw [if_neg (by first | (clear g1059 g1007 g1006; omega) | (clear g1007 g1006; omega) | omega), if_pos (by first | (clear g1059 g1007 g1006; omega) | (clear g1007 g1006; omega) | omega)]; first | rw [if_pos (by first | (clear g1059 g1007 g1006; omega) | (clear g1007 g1006; omega) | omega)] | rw [if_neg (by first | (clear g1059 g1007 g1006; omega) | (clear g1007 g1006; omega) | omega)]) | (rw [if_neg (by first | (clear g1059 g1007 g1006; omega) | (clear g1007 g1006; omega) | omega), if_neg (by first | (clear g1059 g1007 g1006; omega) | (clear g1007 g1006; omega) | omega)]; first | rw [if_pos (by first | (clear g1059 g1007 g1006; omega) | (clear g1007 g1006; omega) | omega)] | rw [if_neg (by first | (clear g1059 g1007 g1006; omega) | (clear g1007 g1006; omega) | omega)]))) hps1055.1 hps1057.1 (by first | exact Or.inl (And.intro (g1043) (oq_8afcc667 g1043 g1025)) | (clear g1059 g1007 g1006; omega) | (clear g1007 g1006; omega) | omega), hq.2⟩ (by first | exact ⟨And.intro (hi.1.1) (And.intro (hi.1.2.1) (hi.1.2.2)), oq_5030e323 g1043 g1025, oq_5030e323 g1043 g1025, And.intro (by decide) (by decide), oq_177a211a g1043, oq_04e08c97 g1043, hi.2.2.2.2.2.2⟩ | omega) (by first | exact qk_me hm (by decide) (oq_f619ccd3 g1043) | exact oq_6bed0c83 g1043 g1025 | omega) kx
                      ·
                        as_aux_lemma =>
                         refine z_load X (x := e1056) rfl (List.Mem.tail _ (List.Mem.tail _ (List.Mem.head _))) (z_goto X (t := 140) rfl rfl (z_store X (lv' := [(8, .int (Int32.ofInt e1056)), (7, .int (Int32.ofInt (wi + e1056))), (6, .int (Int32.ofInt (ov + e1058))), (16, .int (Int32.ofInt e1056)), (14, .long bv), (12, .long bv), (10, .long (gD t 5 (((xv * 5) + kd)).toNat)), (0, .ref (A 31)), (1, .int (Int32.ofInt xv)), (2, .long av), (4, .long bv), (9, .int (Int32.ofInt kd))]) rfl (by decide) (fun _ h => h) (z_inc X (x := kd) (lv' := [(9, .int (Int32.ofInt (kd + 1))), (8, .int (Int32.ofInt e1056)), (7, .int (Int32.ofInt (wi + e1056))), (6, .int (Int32.ofInt (ov + e1058))), (16, .int (Int32.ofInt e1056)), (14, .long bv), (12, .long bv), (10, .long (gD t 5 (((xv * 5) + kd)).toNat)), (0, .ref (A 31)), (1, .int (Int32.ofInt xv)), (2, .long av), (4, .long bv)]) rfl (by decide) (List.Mem.tail _ (List.Mem.tail _ (List.Mem.tail _ (List.Mem.tail _ (List.Mem.tail _ (List.Mem.tail _ (List.Mem.tail _ (List.Mem.tail _ (List.Mem.tail _ (List.Mem.tail _ (List.Mem.tail _ (List.Mem.head _)))))))))))) (fun _ h => h) (z_goto X (t := 12) rfl rfl (WS_pq [8, 9, 10, 11, 3, 2, 1, 0] (lv' := [(0, .ref (A 31)), (1, .int (Int32.ofInt xv)), (2, .long av), (4, .long bv), (6, .int (Int32.ofInt (ov + e1058))), (7, .int (Int32.ofInt (wi + e1056))), (8, .int (Int32.ofInt e1056)), (9, .int (Int32.ofInt (kd + 1)))]) rfl ?_)))))
                         exact ih _ xv av bv (ov + e1058) (wi + e1056) e1056 (kd + 1) I F ⟨fsq_y (here := bv) (there := bv) hq.1 (fun j => fm_dd F (by decide)) (by first | exact hi.2.2.2.2.1 | (clear g1007 g1006; omega) | (clear g1006; omega) | omega) (by first | exact oq_4c92b049 g1025 | (clear g1007 g1006; omega) | (clear g1006; omega) | omega) (by first | (exfalso; omega) | (unfold hrK; first | rw [if_pos (by first | (clear g1007 g1006; omega) | (clear g1006; omega) | omega)] | rw [if_neg (by first | (clear g1007 g1006; omega) | (clear g1006; omega) | omega)])) (by first | (exfalso; omega) | (unfold thK hrK; first | rw [if_pos (by first | (clear g1007 g1006; omega) | (clear g1006; omega) | omega)] | (rw [if_neg (by first | (clear g1007 g1006; omega) | (clear g1006; omega) | omega), if_pos (by first | (clear g1007 g1006; omega) | (clear g1006; omega) | omega)]; first | rw [if_pos (by first | (clear g1007 g1006; omega) | (clear g1006; omega) | omega)] | rw [if_neg (by first | (clear g1007 g1006; omega) | (clear g1006; omega) | omega)]) | (rw [if_neg (by first | (clear g1007 g1006; omega) | (clear g1006; omega) | omega), if_neg (by first | (clear g1007 g1006; omega) | (clear g1006; omega) | omega)]; first | rw [if_pos (by first | (clear g1007 g1006; omega) | (clear g1006; omega) | omega)] | rw [if_neg (by first | (clear g1007 g1006; omega) | (clear g1006; omega) | omega)]))) hps1055.1 hps1057.1 (by first | exact Or.inl (And.intro (g1059) (rfl)) | (clear g1007 g1006; omega) | (clear g1006; omega) | omega), hq.2⟩ (by first | exact ⟨And.intro (hi.1.1) (And.intro (hi.1.2.1) (hi.1.2.2)), oq_5030e323 g1059 g1025, oq_5030e323 g1059 g1025, oq_6d05eb5d g1059 g1025, oq_177a211a g1059, oq_04e08c97 g1059, hi.2.2.2.2.2.2⟩ | omega) (by first | exact qk_me hm (by decide) (oq_f619ccd3 g1059) | exact oq_6bed0c83 g1059 g1025 | omega) kx
  refine z_const X rfl (z_store X (lv' := [(6, .int (Int32.ofInt 0)), (0, .ref (A 31)), (1, .int (Int32.ofInt x)), (2, .long aj), (4, .long bj)]) rfl (by decide) (fun _ h => h) (z_const X rfl (z_store X (lv' := [(7, .int (Int32.ofInt 0)), (6, .int (Int32.ofInt 0)), (0, .ref (A 31)), (1, .int (Int32.ofInt x)), (2, .long aj), (4, .long bj)]) rfl (by decide) (fun _ h => h) (z_const X rfl (z_store X (lv' := [(8, .int (Int32.ofInt 0)), (7, .int (Int32.ofInt 0)), (6, .int (Int32.ofInt 0)), (0, .ref (A 31)), (1, .int (Int32.ofInt x)), (2, .long aj), (4, .long bj)]) rfl (by decide) (fun _ h => h) (z_const X rfl (z_store X (lv' := [(9, .int (Int32.ofInt 0)), (8, .int (Int32.ofInt 0)), (7, .int (Int32.ofInt 0)), (6, .int (Int32.ofInt 0)), (0, .ref (A 31)), (1, .int (Int32.ofInt x)), (2, .long aj), (4, .long bj)]) rfl (by decide) (fun _ h => h) (WS_pq [4, 5, 6, 7, 3, 2, 1, 0] (lv' := [(0, .ref (A 31)), (1, .int (Int32.ofInt x)), (2, .long aj), (4, .long bj), (6, .int (Int32.ofInt 0)), (7, .int (Int32.ofInt 0)), (8, .int (Int32.ofInt 0)), (9, .int (Int32.ofInt 0))]) rfl (L12 ((5 - 0 : Int).toNat + 1) s x aj bj 0 0 0 0 I F ⟨fsq_0, sam_rf, sam_rf, sam_rf⟩ (by first | exact ⟨And.intro (by decide) (And.intro (p0.1) (p0.2)), And.intro (by decide) (by decide), And.intro (by decide) (by decide), And.intro (by decide) (by decide), by decide, by decide, by decide⟩ | exact And.intro (And.intro (rfl) (And.intro (p0.1) (p0.2))) (And.intro (And.intro (oq_0fe6b7e2) (oq_9aca9e24)) (And.intro (And.intro (oq_0fe6b7e2) (oq_9aca9e24)) (And.intro (And.intro (oq_0fe6b7e2) (oq_3337728f)) (And.intro (oq_0fe6b7e2) (And.intro (oq_6bb8b9a8) (rfl)))))) | omega) (Nat.lt_succ_self _) ?_)))))))))
  intro s2 x3 x4 x5 x6 Is2 Fs2 Qs2 hs2
  have b7 := bi_22 Is2
  refine z_aload_n X (x := A 31) rfl (List.Mem.head _) (s_getR X 31 rfl (c518_ok rfl) rfl rfl (z_aload_n X (x := A 31) rfl (List.Mem.head _) (z_getI X 31 rfl (c518_ok rfl) rfl rfl ?_)))
  have b8 := bi_22 Is2
  refine z_load X (x := x3) rfl (List.Mem.tail _ (List.Mem.tail _ (List.Mem.tail _ (List.Mem.tail _ (List.Mem.head _))))) (z_ast X 33 rfl (c518_ok rfl) rfl (by first | exact b8.1 | omega) (show (iI s2 22) < 12 by first | exact oq_210fcd76 hs2.2.1 p1 | omega) (cbig_ok rfl) (wd_gen (fun s9 hs9 => ?_)))
  have Is9 : Bd s9 := eqB hs9 (bd_C Is2 (show ((-2147483648) : Int) ≤ x3 ∧ x3 ≤ 2147483647 by first | exact ⟨hs2.2.2.1.1, hs2.2.2.1.2⟩ | omega) ⟨by first | exact hs2.2.2.1.1 | omega, by first | exact hs2.2.2.1.2 | omega⟩)
  have Fs9 := eqF hs9 (fm_C Fs2 (inl_ok (a := 27) rfl))
  have ws9_22 : iI s9 22 = iI s2 22 := eqI hs9 rfl
  refine z_aload_n X (x := A 31) rfl (List.Mem.head _) (s_getR X 31 rfl (c518_ok rfl) rfl rfl (z_aload_n X (x := A 31) rfl (List.Mem.head _) (z_getI X 31 rfl (c518_ok rfl) rfl rfl ?_)))
  have b10 := bi_22 Is9
  refine z_load X (x := x4) rfl (List.Mem.tail _ (List.Mem.tail _ (List.Mem.tail _ (List.Mem.tail _ (List.Mem.tail _ (List.Mem.head _)))))) (z_ast X 34 rfl (c518_ok rfl) rfl (by first | exact b10.1 | omega) (show (iI s9 22) < 12 by first | exact oq_e2284db0 ws9_22 hs2.2.1 p1 | omega) (cbig_ok rfl) (wd_gen (fun s11 hs11 => ?_)))
  have Is11 : Bd s11 := eqB hs11 (bd_C Is9 (show ((-2147483648) : Int) ≤ x4 ∧ x4 ≤ 2147483647 by first | exact ⟨hs2.2.2.2.1.1, hs2.2.2.2.1.2⟩ | omega) ⟨by first | exact hs2.2.2.2.1.1 | omega, by first | exact hs2.2.2.2.1.2 | omega⟩)
  have Fs11 := eqF hs11 (fm_C Fs9 (inl_ok (a := 28) rfl))
  have ws11_22 : iI s11 22 = iI s9 22 := eqI hs11 rfl
  refine z_aload_n X (x := A 31) rfl (List.Mem.head _) (s_getR X 31 rfl (c518_ok rfl) rfl rfl (z_aload_n X (x := A 31) rfl (List.Mem.head _) (z_getI X 31 rfl (c518_ok rfl) rfl rfl ?_)))
  have b12 := bi_22 Is11
  refine z_load X (x := x5) rfl (List.Mem.tail _ (List.Mem.tail _ (List.Mem.tail _ (List.Mem.tail _ (List.Mem.tail _ (List.Mem.tail _ (List.Mem.head _))))))) (z_ast X 35 rfl (c518_ok rfl) rfl (by first | exact b12.1 | omega) (show (iI s11 22) < 12 by first | exact oq_e6fd60ce ws11_22 ws9_22 hs2.2.1 p1 | omega) (cbig_ok rfl) (wd_gen (fun s13 hs13 => ?_)))
  have Is13 : Bd s13 := eqB hs13 (bd_C Is11 (show ((-2147483648) : Int) ≤ x5 ∧ x5 ≤ 2147483647 by first | exact ⟨hs2.2.2.2.2.1, hs2.2.2.2.2.2⟩ | omega) ⟨by first | exact hs2.2.2.2.2.1 | omega, by first | exact hs2.2.2.2.2.2 | omega⟩)
  have Fs13 := eqF hs13 (fm_C Fs11 (inl_ok (a := 29) rfl))
  have ws13_22 : iI s13 22 = iI s11 22 := eqI hs13 rfl
  exact w_vret X.1 q hRt (ax_d X (show cdA 2 181 = some (.return_, 1, 0, 0, 0) from rfl)) (Nat.zero_le _) (Nat.zero_le _) ⟨_, rfl, Is13, Fs13, rfl, (fsr_of Qs2.1 (by first | exact hs2.1 | omega) Qs2.2.1 Qs2.2.2.1 Qs2.2.2.2 (by first | exact hs2.2.1 | omega) (by decide) (by decide) (by decide) hs9 hs11 hs13)⟩
set_option maxRecDepth 4000 in
theorem c0_listen3 (G : GX l s0 D tys a0 dT) (I : Bd s) {x : Int} {aj bj : Int64} (p0 : rng x) : CT l s0 D A dT 1 (rmN 1) [.ref (A 31), .long aj, .long bj, .int (Int32.ofInt x)] s (fun o t => Bd t ∧ Fm [22, 23] [33, 26, 27, 28, 29, 30, 31, 32] s t ∧ o = .inl none ∧ (LSN aj bj t ∧ HEH aj bj x t)) := by
  refine ct_ofX G (by decide) (Nat.le_of_ble_eq_true rfl) (fun k X E ET hRt hXt q => ?_)
  show WS k 0 [(0, .ref (A 31)), (1, .long aj), (3, .long bj), (5, .int (Int32.ofInt x))] [] _ 0 0
  have F : Fm [22, 23] [33, 26, 27, 28, 29, 30, 31, 32] s s := fm_rf _ _ s
  have b1 := bi_22 I
  have b2 := bi_23 I
  have b3 := bi_9 I
  have b4 := bi_10 I
  have L42 : ∀ (n : Nat) (t : PS) (av : Int64) (bv : Int64) (c : Int), Bd t → Fm [22, 23] [33, 26, 27, 28, 29, 30, 31, 32] s t → (VSQ 26 27 28 29 22 av bv c s t ∧ HEH av bv x t) → ((0 ≤ c ∧ c ≤ iI s 9) ∧ iI t 22 ≤ c ∧ iI t 9 = iI s 9 ∧ iI t 10 = iI s 10) → (12 - c : Int).toNat < n → (∀ (t' : PS) (c' : Int), Bd t' → Fm [22, 23] [33, 26, 27, 28, 29, 30, 31, 32] s t' → (VSQ 26 27 28 29 22 av bv c' s t' ∧ HEH av bv x t') → (c' = iI s 9 ∧ iI t' 9 = iI s 9 ∧ iI t' 10 = iI s 10) → WS k 125 [(0, .ref (A 31)), (1, .long av), (3, .long bv), (6, .int (Int32.ofInt c'))] [] (Wd A dT t') 0 0) → WS k 42 [(0, .ref (A 31)), (1, .long av), (3, .long bv), (6, .int (Int32.ofInt c))] [] (Wd A dT t) 0 0 := by
    intro n
    induction n with
    | zero =>
      intro t av bv c I F hq hi hm kx
      exact absurd hm (Nat.not_lt_zero _)
    | succ n ih =>
      intro t av bv c I F hq hi hm kx
      have b1001 := bi_22 I
      have b1002 := bi_23 I
      have b1003 := bi_9 I
      have b1004 := bi_10 I
      refine z_load X (x := c) rfl (List.Mem.tail _ (List.Mem.tail _ (List.Mem.tail _ (List.Mem.head _)))) (z_aload_n X (x := A 31) rfl (List.Mem.head _) (s_getR X 31 rfl (c518_ok rfl) rfl rfl (z_getI X 3 rfl (c518_ok rfl) rfl rfl ?_)))
      have b1005 := bi_9 I
      refine z_icmp_ge X (t := 125) rfl rfl ⟨by first | exact oq_fa4e5087 hi.1.1 | omega, by first | exact oq_39d2cc6e hi.1.2 b3.2 | omega⟩ (rng_to _) (fun g1006 => ?_) (fun g1006 => ?_)
      ·
        refine WS_pq [0, 1, 2, 3] (lv' := [(0, .ref (A 31)), (1, .long av), (3, .long bv), (6, .int (Int32.ofInt c))]) rfl ?_
        exact kx _ c I F hq (by first | exact ⟨oq_dae09544 hi.1.2 hi.2.2.1 g1006, hi.2.2.1, hi.2.2.2⟩ | omega)
      ·
        refine z_aload_n X (x := A 31) rfl (List.Mem.head _) (s_getR X 31 rfl (c518_ok rfl) rfl rfl (s_getR X 3 rfl (c518_ok rfl) rfl rfl (z_load X (x := c) rfl (List.Mem.tail _ (List.Mem.tail _ (List.Mem.tail _ (List.Mem.head _)))) (z_const X rfl (z_mul X rfl (z_lalE X 6 rfl (by decide) rfl (by first | exact oq_cfc6ac54 hi.1.1 | omega) (show (c * 2) < 24 by first | exact oq_e062d2c8 g1006 b1005.2 | omega) (by decide) (w_lload_n X.1 (ax_d X (show cdA 1 66 = some (.lload_n 1, 1, 0, 0, 0) from rfl)) (x := av) (List.Mem.tail _ (List.Mem.head _)) (w_land X.1 (ax_d X (show cdA 1 67 = some (.land, 1, 0, 0, 0) from rfl)) (z_aload_n X (x := A 31) rfl (List.Mem.head _) (s_getR X 31 rfl (c518_ok rfl) rfl rfl (s_getR X 3 rfl (c518_ok rfl) rfl rfl ?_)))))))))))
        refine z_load X (x := c) rfl (List.Mem.tail _ (List.Mem.tail _ (List.Mem.tail _ (List.Mem.head _)))) (z_const X rfl (z_mul X rfl (z_const X rfl (z_add X rfl (z_lalE X 6 rfl (by decide) rfl (by first | exact oq_8a3e0277 hi.1.1 | omega) (show ((c * 2) + 1) < 24 by first | exact oq_0edc0603 g1006 b1005.2 | omega) (by decide) (w_lload_n X.1 (ax_d X (show cdA 1 82 = some (.lload_n 3, 1, 0, 0, 0) from rfl)) (x := bv) (List.Mem.tail _ (List.Mem.tail _ (List.Mem.head _))) (w_land X.1 (ax_d X (show cdA 1 83 = some (.land, 1, 0, 0, 0) from rfl)) (w_lor X.1 (ax_d X (show cdA 1 84 = some (.lor, 1, 0, 0, 0) from rfl)) (w_lconst X.1 (ax_d X (show cdA 1 85 = some (.lconst 0, 1, 0, 0, 0) from rfl)) (z := (0 : Int64)) (by decide) (z_jcmp X rfl (fun z1007 => ?_) (fun z1007 c1008 hc1008 ic1008 => ?_)))))))))))
        ·
          refine z_if_eq X (t := 119) rfl rfl (by decide) (fun g1009 => ?_) (fun g1009 => ?_)
          ·
            refine z_inc X (x := c) (lv' := [(6, .int (Int32.ofInt (c + 1))), (0, .ref (A 31)), (1, .long av), (3, .long bv)]) rfl (by decide) (List.Mem.tail _ (List.Mem.tail _ (List.Mem.tail _ (List.Mem.head _)))) (fun _ h => h) (z_goto X (t := 42) rfl rfl (WS_pq [1, 2, 3, 0] (lv' := [(0, .ref (A 31)), (1, .long av), (3, .long bv), (6, .int (Int32.ofInt (c + 1)))]) rfl ?_))
            exact ih _ av bv (c + 1) I F ⟨vsq_n hq.1 (by first | exact hi.1.1 | omega) (fun j => fm_dd F (by decide)) z1007, hq.2⟩ (by first | exact ⟨And.intro (oq_54f49eb5 hi.1.1) (oq_8a89b3ae g1006 hi.2.2.1), oq_03182e9e hi.2.1, hi.2.2.1, hi.2.2.2⟩ | omega) (by first | exact qk_me hm (by decide) (oq_b575e8c1 g1006 b1005.2) | exact oq_d41732c5 g1006 b1005.2 hm | omega) kx
          ·
            exfalso
            omega
        ·
          refine z_if_eq X (t := 119) rfl rfl ⟨by first | exact hc1008.1 | omega, by first | exact hc1008.2 | omega⟩ (fun g1010 => ?_) (fun g1010 => ?_)
          ·
            refine z_inc X (x := c) (lv' := [(6, .int (Int32.ofInt (c + 1))), (0, .ref (A 31)), (1, .long av), (3, .long bv)]) rfl (by decide) (List.Mem.tail _ (List.Mem.tail _ (List.Mem.tail _ (List.Mem.head _)))) (fun _ h => h) (z_goto X (t := 42) rfl rfl (WS_pq [1, 2, 3, 0] (lv' := [(0, .ref (A 31)), (1, .long av), (3, .long bv), (6, .int (Int32.ofInt (c + 1)))]) rfl ?_))
            exact ih _ av bv (c + 1) I F (by exfalso; omega) (by first | exact ⟨And.intro (oq_54f49eb5 hi.1.1) (oq_8a89b3ae g1006 hi.2.2.1), oq_03182e9e hi.2.1, hi.2.2.1, hi.2.2.2⟩ | omega) (by first | exact qk_me hm (by decide) (oq_b575e8c1 g1006 b1005.2) | exact oq_d41732c5 g1006 b1005.2 hm | omega) kx
          ·
            refine z_aload_n X (x := A 31) rfl (List.Mem.head _) (s_getR X 31 rfl (c518_ok rfl) rfl rfl (z_aload_n X (x := A 31) rfl (List.Mem.head _) (z_getI X 31 rfl (c518_ok rfl) rfl rfl ?_)))
            have b1011 := bi_22 I
            refine z_load X (x := c) rfl (List.Mem.tail _ (List.Mem.tail _ (List.Mem.tail _ (List.Mem.head _)))) (z_ast X 32 rfl (c518_ok rfl) rfl (by first | exact b1011.1 | omega) (show (iI t 22) < 12 by first | exact oq_79196c7f hi.2.1 g1006 b1005.2 | omega) (cbig_ok rfl) (wd_gen (fun s1012 hs1012 => ?_)))
            have Is1012 : Bd s1012 := eqB hs1012 (bd_C I (show (0 : Int) ≤ c ∧ c ≤ 11 by first | exact ⟨hi.1.1, oq_e4d7f3c5 g1006 b1005.2⟩ | omega) ⟨by first | exact oq_fa4e5087 hi.1.1 | omega, by first | exact oq_8be37138 g1006 b1005.2 | omega⟩)
            have Fs1012 := eqF hs1012 (fm_C F (inl_ok (a := 26) rfl))
            have ws1012_22 : iI s1012 22 = iI t 22 := eqI hs1012 rfl
            have ws1012_23 : iI s1012 23 = iI t 23 := eqI hs1012 rfl
            have ws1012_9 : iI s1012 9 = iI t 9 := eqI hs1012 rfl
            have ws1012_10 : iI s1012 10 = iI t 10 := eqI hs1012 rfl
            refine z_aload_n X (x := A 31) rfl (List.Mem.head _) (z_load X (x := c) rfl (List.Mem.tail _ (List.Mem.tail _ (List.Mem.tail _ (List.Mem.head _)))) (w_lload_n X.1 (ax_d X (show cdA 1 104 = some (.lload_n 1, 1, 0, 0, 0) from rfl)) (x := av) (List.Mem.tail _ (List.Mem.head _)) (w_lload_n X.1 (ax_d X (show cdA 1 105 = some (.lload_n 3, 1, 0, 0, 0) from rfl)) (x := bv) (List.Mem.tail _ (List.Mem.tail _ (List.Mem.head _))) (zcV_v0 X E 31 (As := [.int (Int32.ofInt c), .long av, .long bv]) (st := []) rfl rfl rfl rfl (c0_follow3 G Is1012 (by first | exact ⟨hi.1.1, oq_e4d7f3c5 g1006 b1005.2⟩ | omega) (by first | exact oq_2f168143 ws1012_22 hi.2.1 g1006 b1005.2 | omega)) rfl (Nat.le_of_ble_eq_true rfl) (fun s1013 Is1013 Fs1013 hps1013 => ?_)))))
            have Gs1013 := fm_tq Fs1012 Fs1013 rfl rfl
            have ws1013_22 : iI s1013 22 = iI s1012 22 := fm_iq Fs1013 rfl
            have ws1013_23 : iI s1013 23 = iI s1012 23 := fm_iq Fs1013 rfl
            have ws1013_9 : iI s1013 9 = iI s1012 9 := fm_iq Fs1013 rfl
            have ws1013_10 : iI s1013 10 = iI s1012 10 := fm_iq Fs1013 rfl
            have aws1013_26 : SAM 26 s1012 s1013 := sam_ts (sam_rf (a := 26) (s := s1012)) (sam_fm Fs1013 (by decide))
            have aws1013_33 : SAM 33 s1012 s1013 := sam_ts (sam_rf (a := 33) (s := s1012)) (sam_fm Fs1013 (by decide))
            refine z_aload_n X (x := A 31) rfl (List.Mem.head _) (w_dup X.1 (ax_d X (show cdA 1 110 = some (.dup, 1, 0, 0, 0) from rfl)) rfl (z_getI X 31 rfl (c518_ok rfl) rfl rfl ?_))
            have b1015 := bi_22 Is1013
            refine z_const X rfl (z_add X rfl (s_putI X 31 rfl (c518_ok rfl) rfl rfl (by decide) rfl rfl rfl (wd_gen (fun s1016 hs1016 => ?_))))
            have Is1016 : Bd s1016 := eqB hs1016 (bd_I Is1013 (show (0 : Int) ≤ ((iI s1013 22) + 1) ∧ ((iI s1013 22) + 1) ≤ 12 by first | exact ⟨oq_54f49eb5 b1015.1, oq_1fea0193 ws1013_22 ws1012_22 hi.2.1 g1006 b1005.2⟩ | omega) ⟨by first | exact oq_74de1e16 b1015.1 | omega, by first | exact oq_76a8a5b7 b1015.2 | omega⟩)
            have Fs1016 := eqF hs1016 (fm_I Gs1013 (inl_ok (a := 22) rfl))
            have vs1016 : iI s1016 22 = ((iI s1013 22) + 1) := eqI hs1016 (iI_u ⟨by first | exact oq_74de1e16 b1015.1 | omega, by first | exact oq_76a8a5b7 b1015.2 | omega⟩)
            have ws1016_23 : iI s1016 23 = iI s1013 23 := eqI hs1016 rfl
            have ws1016_9 : iI s1016 9 = iI s1013 9 := eqI hs1016 rfl
            have ws1016_10 : iI s1016 10 = iI s1013 10 := eqI hs1016 rfl
            have aws1016_26 : SAM 26 s1012 s1016 := by rw [hs1016]; exact aws1013_26
            have aws1016_33 : SAM 33 s1012 s1016 := by rw [hs1016]; exact aws1013_33
            refine z_inc X (x := c) (lv' := [(6, .int (Int32.ofInt (c + 1))), (0, .ref (A 31)), (1, .long av), (3, .long bv)]) rfl (by decide) (List.Mem.tail _ (List.Mem.tail _ (List.Mem.tail _ (List.Mem.head _)))) (fun _ h => h) (z_goto X (t := 42) rfl rfl (WS_pq [1, 2, 3, 0] (lv' := [(0, .ref (A 31)), (1, .long av), (3, .long bv), (6, .int (Int32.ofInt (c + 1)))]) rfl ?_))
            exact ih _ av bv (c + 1) Is1016 Fs1016 ⟨vsq_y hq.1 (by first | exact hi.1.1 | (clear g1010; omega) | omega) (by first | exact oq_e4d7f3c5 g1006 b1005.2 | (clear g1010; omega) | omega) (fun j => fm_dd F (by decide)) z1007 (fun j => fm_dd Fs1012 (by decide)) (by decide) (by decide) (by decide) hs1012 hps1013 aws1013_26 (by first | exact ws1013_22 | (clear g1010; omega) | omega) hs1016, heh_s hq.2 (by have z1 := hs1012; have z2 := hs1016; subst z1 z2; exact fun j => (aws1013_33 j).trans (iC_a (by decide)))⟩ (by first | exact ⟨And.intro (oq_54f49eb5 hi.1.1) (oq_8a89b3ae g1006 hi.2.2.1), oq_ecb13324 vs1016 hi.2.1 ws1013_22 ws1012_22, oq_ac0e91e1 ws1016_9 ws1013_9 ws1012_9 hi.2.2.1, oq_45b593e3 ws1016_10 hi.2.2.2 ws1013_10 ws1012_10⟩ | omega) (by first | exact qk_me hm (by decide) (oq_b575e8c1 g1006 b1005.2) | exact oq_d41732c5 g1006 b1005.2 hm | omega) kx
  have L133 : ∀ (n : Nat) (t : PS) (av : Int64) (bv : Int64) (c : Int), Bd t → Fm [22, 23] [33, 26, 27, 28, 29, 30, 31, 32] s t → (MTQ 30 31 32 23 av bv c s t ∧ VSE s av bv t ∧ HEH av bv x t) → ((0 ≤ c ∧ c ≤ iI s 10) ∧ iI t 23 ≤ c ∧ iI t 9 = iI s 9 ∧ iI t 10 = iI s 10) → (66 - c : Int).toNat < n → (∀ (t' : PS) (c' : Int), Bd t' → Fm [22, 23] [33, 26, 27, 28, 29, 30, 31, 32] s t' → (MTQ 30 31 32 23 av bv c' s t' ∧ VSE s av bv t' ∧ HEH av bv x t') → (c' = iI s 10 ∧ iI t' 9 = iI s 9 ∧ iI t' 10 = iI s 10) → WS k 260 [(0, .ref (A 31)), (1, .long av), (3, .long bv), (6, .int (Int32.ofInt c'))] [] (Wd A dT t') 0 0) → WS k 133 [(0, .ref (A 31)), (1, .long av), (3, .long bv), (6, .int (Int32.ofInt c))] [] (Wd A dT t) 0 0 := by
    intro n
    induction n with
    | zero =>
      intro t av bv c I F hq hi hm kx
      exact absurd hm (Nat.not_lt_zero _)
    | succ n ih =>
      intro t av bv c I F hq hi hm kx
      have b2001 := bi_22 I
      have b2002 := bi_23 I
      have b2003 := bi_9 I
      have b2004 := bi_10 I
      refine z_load X (x := c) rfl (List.Mem.tail _ (List.Mem.tail _ (List.Mem.tail _ (List.Mem.head _)))) (z_aload_n X (x := A 31) rfl (List.Mem.head _) (s_getR X 31 rfl (c518_ok rfl) rfl rfl (z_getI X 3 rfl (c518_ok rfl) rfl rfl ?_)))
      have b2005 := bi_10 I
      refine z_icmp_ge X (t := 260) rfl rfl ⟨by first | exact oq_fa4e5087 hi.1.1 | omega, by first | exact oq_b63fabfa hi.1.2 b4.2 | omega⟩ (rng_to _) (fun g2006 => ?_) (fun g2006 => ?_)
      ·
        refine WS_pq [0, 1, 2, 3] (lv' := [(0, .ref (A 31)), (1, .long av), (3, .long bv), (6, .int (Int32.ofInt c))]) rfl ?_
        exact kx _ c I F hq (by first | exact ⟨oq_dae09544 hi.1.2 hi.2.2.2 g2006, hi.2.2.1, hi.2.2.2⟩ | omega)
      ·
        refine z_aload_n X (x := A 31) rfl (List.Mem.head _) (s_getR X 31 rfl (c518_ok rfl) rfl rfl (s_getR X 3 rfl (c518_ok rfl) rfl rfl (z_load X (x := c) rfl (List.Mem.tail _ (List.Mem.tail _ (List.Mem.tail _ (List.Mem.head _)))) (z_const X rfl (z_mul X rfl (z_lalE X 10 rfl (by decide) rfl (by first | exact oq_cfc6ac54 hi.1.1 | omega) (show (c * 2) < 132 by first | exact oq_ff78435a g2006 b2005.2 | omega) (by decide) (w_lload_n X.1 (ax_d X (show cdA 1 157 = some (.lload_n 1, 1, 0, 0, 0) from rfl)) (x := av) (List.Mem.tail _ (List.Mem.head _)) (w_land X.1 (ax_d X (show cdA 1 158 = some (.land, 1, 0, 0, 0) from rfl)) (z_callS X (rm := rmN 298) (As := [.long ((gD t 7 ((c * 2)).toNat) &&& av)]) (st := []) rfl rfl (by rw [E.1, E.2.1, E.2.2.1]; exact j_bitL3 G I ) ⟨by rw [E.2.2.2]; exact (show (rmN 298).frames + 1 ≤ (rmN 1).frames by decide), by rw [E.2.2.2]; exact (show 8 + (mNL (miB 298) + 11) + (rmN 298).locals ≤ (rmN 1).locals by decide), by rw [E.2.2.2]; exact (show 0 + (rmN 298).cells ≤ (rmN 1).cells by decide), by rw [E.2.2.2]; exact (show 0 + (rmN 298).slots ≤ (rmN 1).slots by decide)⟩ (Nat.le_of_ble_eq_true rfl) (fun vv s2007 hq => ?_) (fun ee s2007 hq => ?_))))))))))
        rotate_left
        · obtain ⟨rfl, e2008, hv, hrs2007, hps2007⟩ := hq; cases hv
        obtain ⟨rfl, e2008, hv, hrs2007, hps2007⟩ := hq
        cases hv
        show WS k 162 [(0, .ref (A 31)), (1, .long av), (3, .long bv), (6, .int (Int32.ofInt c))] [.int (Int32.ofInt e2008)] (Wd A dT t) 0 0
        refine z_aload_n X (x := A 31) rfl (List.Mem.head _) (s_getR X 31 rfl (c518_ok rfl) rfl rfl (s_getR X 3 rfl (c518_ok rfl) rfl rfl (z_load X (x := c) rfl (List.Mem.tail _ (List.Mem.tail _ (List.Mem.tail _ (List.Mem.head _)))) (z_const X rfl (z_mul X rfl (z_const X rfl (z_add X rfl (z_lalE X 10 rfl (by decide) rfl (by first | exact oq_8a3e0277 hi.1.1 | omega) (show ((c * 2) + 1) < 132 by first | exact oq_643e2065 g2006 b2005.2 | omega) (by decide) (w_lload_n X.1 (ax_d X (show cdA 1 176 = some (.lload_n 3, 1, 0, 0, 0) from rfl)) (x := bv) (List.Mem.tail _ (List.Mem.tail _ (List.Mem.head _))) (w_land X.1 (ax_d X (show cdA 1 177 = some (.land, 1, 0, 0, 0) from rfl)) (z_callS X (rm := rmN 298) (As := [.long ((gD t 7 (((c * 2) + 1)).toNat) &&& bv)]) (st := [.int (Int32.ofInt e2008)]) rfl rfl (by rw [E.1, E.2.1, E.2.2.1]; exact j_bitL3 G I ) ⟨by rw [E.2.2.2]; exact (show (rmN 298).frames + 1 ≤ (rmN 1).frames by decide), by rw [E.2.2.2]; exact (show 8 + (mNL (miB 298) + 11) + (rmN 298).locals ≤ (rmN 1).locals by decide), by rw [E.2.2.2]; exact (show 0 + (rmN 298).cells ≤ (rmN 1).cells by decide), by rw [E.2.2.2]; exact (show 0 + (rmN 298).slots ≤ (rmN 1).slots by decide)⟩ (Nat.le_of_ble_eq_true rfl) (fun vv s2009 hq => ?_) (fun ee s2009 hq => ?_))))))))))))
        rotate_left
        · obtain ⟨rfl, e2010, hv, hrs2009, hps2009⟩ := hq; cases hv
        obtain ⟨rfl, e2010, hv, hrs2009, hps2009⟩ := hq
        cases hv
        show WS k 181 [(0, .ref (A 31)), (1, .long av), (3, .long bv), (6, .int (Int32.ofInt c))] [.int (Int32.ofInt e2010), .int (Int32.ofInt e2008)] (Wd A dT t) 0 0
        refine z_add X rfl (z_store X (lv' := [(7, .int (Int32.ofInt (e2008 + e2010))), (0, .ref (A 31)), (1, .long av), (3, .long bv), (6, .int (Int32.ofInt c))]) rfl (by decide) (fun _ h => h) (z_load X (x := (e2008 + e2010)) rfl (List.Mem.head _) (z_if_le X (t := 254) rfl rfl ⟨by first | exact oq_46831602 hps2009.2.1 hps2007.2.1 | omega, by first | exact oq_2163ea32 hps2009.2.2 hps2007.2.2 | omega⟩ (fun g2011 => ?_) (fun g2011 => ?_))))
        ·
          refine z_inc X (x := c) (lv' := [(6, .int (Int32.ofInt (c + 1))), (7, .int (Int32.ofInt (e2008 + e2010))), (0, .ref (A 31)), (1, .long av), (3, .long bv)]) rfl (by decide) (List.Mem.tail _ (List.Mem.tail _ (List.Mem.tail _ (List.Mem.tail _ (List.Mem.head _))))) (fun _ h => h) (z_goto X (t := 133) rfl rfl (WS_pq [2, 3, 4, 0] (lv' := [(0, .ref (A 31)), (1, .long av), (3, .long bv), (6, .int (Int32.ofInt (c + 1)))]) rfl ?_))
          exact ih _ av bv (c + 1) I F ⟨mtq_n hq.1 (by first | exact hi.1.1 | omega) (fun j => fm_dd F (by decide)) hps2007.1 hps2009.1 (by first | exact g2011 | omega), hq.2⟩ (by first | exact ⟨And.intro (oq_54f49eb5 hi.1.1) (oq_8a89b3ae g2006 hi.2.2.2), oq_03182e9e hi.2.1, hi.2.2.1, hi.2.2.2⟩ | omega) (by first | exact qk_me hm (by decide) (oq_dd0e9829 g2006 b2005.2) | exact oq_2d4b017a g2006 hm hi.2.2.2 b4.2 | omega) kx
        ·
          refine z_aload_n X (x := A 31) rfl (List.Mem.tail _ (List.Mem.head _)) (s_getR X 31 rfl (c518_ok rfl) rfl rfl (z_aload_n X (x := A 31) rfl (List.Mem.tail _ (List.Mem.head _)) (z_getI X 31 rfl (c518_ok rfl) rfl rfl ?_)))
          have b2012 := bi_23 I
          refine z_aload_n X (x := A 31) rfl (List.Mem.tail _ (List.Mem.head _)) (s_getR X 31 rfl (c518_ok rfl) rfl rfl (s_getR X 3 rfl (c518_ok rfl) rfl rfl (z_load X (x := c) rfl (List.Mem.tail _ (List.Mem.tail _ (List.Mem.tail _ (List.Mem.tail _ (List.Mem.head _))))) (z_ald X 9 rfl (c518_ok rfl) rfl (by first | exact hi.1.1 | omega) (show c < 66 by first | exact oq_256e4529 g2006 b2005.2 | omega) (cbig_ok rfl) ?_))))
          have b2013 := bc_6 I (show (c).toNat < 66 by first | exact oq_d7ff7873 g2006 b2005.2 | omega)
          refine z_bipush X rfl (z_quot X rfl (by first | exact b2013.1 | omega) (rng_to _) (by decide) (by decide) (z_ast X 36 rfl (c518_ok rfl) rfl (by first | exact b2012.1 | omega) (show (iI t 23) < 66 by first | exact oq_d4c01b64 hi.2.1 g2006 b2005.2 | omega) (cbig_ok rfl) (wd_gen (fun s2014 hs2014 => ?_))))
          have Is2014 : Bd s2014 := eqB hs2014 (bd_C I (show (0 : Int) ≤ ((iC t 6 (c).toNat) / 12) ∧ ((iC t 6 (c).toNat) / 12) ≤ 11 by first | exact ⟨oq_37eb78e0 b2013.1, oq_a03fe580 b2013.2⟩ | omega) ⟨by first | exact oq_e17ab641 b2013.1 | omega, by first | exact oq_c285d9d6 b2013.2 | omega⟩)
          have Fs2014 := eqF hs2014 (fm_C F (inl_ok (a := 30) rfl))
          have ws2014_22 : iI s2014 22 = iI t 22 := eqI hs2014 rfl
          have ws2014_23 : iI s2014 23 = iI t 23 := eqI hs2014 rfl
          have ws2014_9 : iI s2014 9 = iI t 9 := eqI hs2014 rfl
          have ws2014_10 : iI s2014 10 = iI t 10 := eqI hs2014 rfl
          refine z_aload_n X (x := A 31) rfl (List.Mem.tail _ (List.Mem.head _)) (s_getR X 31 rfl (c518_ok rfl) rfl rfl (z_aload_n X (x := A 31) rfl (List.Mem.tail _ (List.Mem.head _)) (z_getI X 31 rfl (c518_ok rfl) rfl rfl ?_)))
          have b2015 := bi_23 Is2014
          refine z_aload_n X (x := A 31) rfl (List.Mem.tail _ (List.Mem.head _)) (s_getR X 31 rfl (c518_ok rfl) rfl rfl (s_getR X 3 rfl (c518_ok rfl) rfl rfl (z_load X (x := c) rfl (List.Mem.tail _ (List.Mem.tail _ (List.Mem.tail _ (List.Mem.tail _ (List.Mem.head _))))) (z_ald X 9 rfl (c518_ok rfl) rfl (by first | exact hi.1.1 | omega) (show c < 66 by first | exact oq_256e4529 g2006 b2005.2 | omega) (cbig_ok rfl) ?_))))
          have b2016 := bc_6 Is2014 (show (c).toNat < 66 by first | exact oq_d7ff7873 g2006 b2005.2 | omega)
          refine z_bipush X rfl (z_mod X rfl (by first | exact b2016.1 | omega) (rng_to _) (by decide) (by decide) (z_ast X 37 rfl (c518_ok rfl) rfl (by first | exact b2015.1 | omega) (show (iI s2014 23) < 66 by first | exact oq_249c640e ws2014_23 hi.2.1 g2006 b2005.2 | omega) (cbig_ok rfl) (wd_gen (fun s2017 hs2017 => ?_))))
          have Is2017 : Bd s2017 := eqB hs2017 (bd_C Is2014 (show (0 : Int) ≤ ((iC s2014 6 (c).toNat) % 12) ∧ ((iC s2014 6 (c).toNat) % 12) ≤ 11 by first | exact ⟨oq_b83041cc, oq_e286272e⟩ | omega) ⟨by first | exact oq_9d26ea27 | omega, by first | exact oq_6634e3d0 | omega⟩)
          have Fs2017 := eqF hs2017 (fm_C Fs2014 (inl_ok (a := 31) rfl))
          have ws2017_22 : iI s2017 22 = iI s2014 22 := eqI hs2017 rfl
          have ws2017_23 : iI s2017 23 = iI s2014 23 := eqI hs2017 rfl
          have ws2017_9 : iI s2017 9 = iI s2014 9 := eqI hs2017 rfl
          have ws2017_10 : iI s2017 10 = iI s2014 10 := eqI hs2017 rfl
          refine z_aload_n X (x := A 31) rfl (List.Mem.tail _ (List.Mem.head _)) (s_getR X 31 rfl (c518_ok rfl) rfl rfl (z_aload_n X (x := A 31) rfl (List.Mem.tail _ (List.Mem.head _)) (z_getI X 31 rfl (c518_ok rfl) rfl rfl ?_)))
          have b2018 := bi_23 Is2017
          refine z_load X (x := (e2008 + e2010)) rfl (List.Mem.head _) (z_ast X 38 rfl (c518_ok rfl) rfl (by first | exact b2018.1 | omega) (show (iI s2017 23) < 66 by first | exact oq_141bb310 ws2017_23 ws2014_23 hi.2.1 g2006 b2005.2 | omega) (cbig_ok rfl) (wd_gen (fun s2019 hs2019 => ?_)))
          have Is2019 : Bd s2019 := eqB hs2019 (bd_C Is2017 (show ((-2147483648) : Int) ≤ (e2008 + e2010) ∧ (e2008 + e2010) ≤ 2147483647 by first | exact ⟨oq_936627ac g2011, by first | exact oq_2163ea32 hps2009.2.2 hps2007.2.2 | omega⟩ | omega) ⟨by first | exact oq_936627ac g2011 | omega, by first | exact oq_2163ea32 hps2009.2.2 hps2007.2.2 | omega⟩)
          have Fs2019 := eqF hs2019 (fm_C Fs2017 (inl_ok (a := 32) rfl))
          have ws2019_22 : iI s2019 22 = iI s2017 22 := eqI hs2019 rfl
          have ws2019_23 : iI s2019 23 = iI s2017 23 := eqI hs2019 rfl
          have ws2019_9 : iI s2019 9 = iI s2017 9 := eqI hs2019 rfl
          have ws2019_10 : iI s2019 10 = iI s2017 10 := eqI hs2019 rfl
          refine z_aload_n X (x := A 31) rfl (List.Mem.tail _ (List.Mem.head _)) (w_dup X.1 (ax_d X (show cdA 1 245 = some (.dup, 1, 0, 0, 0) from rfl)) rfl (z_getI X 31 rfl (c518_ok rfl) rfl rfl ?_))
          have b2020 := bi_23 Is2019
          refine z_const X rfl (z_add X rfl (s_putI X 31 rfl (c518_ok rfl) rfl rfl (by decide) rfl rfl rfl (wd_gen (fun s2021 hs2021 => ?_))))
          have Is2021 : Bd s2021 := eqB hs2021 (bd_I Is2019 (show (0 : Int) ≤ ((iI s2019 23) + 1) ∧ ((iI s2019 23) + 1) ≤ 66 by first | exact ⟨oq_54f49eb5 b2020.1, oq_44cce968 ws2019_23 ws2017_23 ws2014_23 g2006 b2005.2 hi.2.1⟩ | omega) ⟨by first | exact oq_74de1e16 b2020.1 | omega, by first | exact oq_d99c2177 b2020.2 | omega⟩)
          have Fs2021 := eqF hs2021 (fm_I Fs2019 (inl_ok (a := 23) rfl))
          have vs2021 : iI s2021 23 = ((iI s2019 23) + 1) := eqI hs2021 (iI_u ⟨by first | exact oq_74de1e16 b2020.1 | omega, by first | exact oq_d99c2177 b2020.2 | omega⟩)
          have ws2021_22 : iI s2021 22 = iI s2019 22 := eqI hs2021 rfl
          have ws2021_9 : iI s2021 9 = iI s2019 9 := eqI hs2021 rfl
          have ws2021_10 : iI s2021 10 = iI s2019 10 := eqI hs2021 rfl
          refine z_inc X (x := c) (lv' := [(6, .int (Int32.ofInt (c + 1))), (7, .int (Int32.ofInt (e2008 + e2010))), (0, .ref (A 31)), (1, .long av), (3, .long bv)]) rfl (by decide) (List.Mem.tail _ (List.Mem.tail _ (List.Mem.tail _ (List.Mem.tail _ (List.Mem.head _))))) (fun _ h => h) (z_goto X (t := 133) rfl rfl (WS_pq [2, 3, 4, 0] (lv' := [(0, .ref (A 31)), (1, .long av), (3, .long bv), (6, .int (Int32.ofInt (c + 1)))]) rfl ?_))
          exact ih _ av bv (c + 1) Is2021 Fs2021 ⟨mtq_y hq.1 (by first | exact hi.1.1 | omega) (by first | exact oq_1967bdf8 g2006 hi.2.2.2 b4.2 | omega) (fun j => fm_dd F (by decide)) (fun j => fm_c F (by decide)) (by first | exact And.intro (b2013.1) (b2013.2) | omega) hps2007.1 hps2009.1 (by decide) (by decide) (by decide) rfl (by rw [hs2014, iC_a (by decide)]) rfl hs2014 hs2017 hs2019 hs2021, vse_of hq.2.1 rfl ⟨mty_vi hs2014 hs2017 hs2019 hs2021, mty_sam hs2014 hs2017 hs2019 hs2021 (by decide), mty_sam hs2014 hs2017 hs2019 hs2021 (by decide), mty_sam hs2014 hs2017 hs2019 hs2021 (by decide), mty_sam hs2014 hs2017 hs2019 hs2021 (by decide)⟩, heh_s hq.2.2 (mty_sam hs2014 hs2017 hs2019 hs2021 (by decide))⟩ (by first | exact ⟨And.intro (oq_54f49eb5 hi.1.1) (oq_8a89b3ae g2006 hi.2.2.2), oq_a50d5726 vs2021 hi.2.1 ws2019_23 ws2014_23 ws2017_23, oq_b4d295d9 ws2021_9 hi.2.2.1 ws2019_9 ws2017_9 ws2014_9, oq_469c7eaf ws2021_10 ws2019_10 ws2017_10 ws2014_10 hi.2.2.2⟩ | omega) (by first | exact qk_me hm (by decide) (oq_dd0e9829 g2006 b2005.2) | exact oq_2d4b017a g2006 hm hi.2.2.2 b4.2 | omega) kx
  refine z_aload_n X (x := A 31) rfl (List.Mem.head _) (s_getR X 31 rfl (c518_ok rfl) rfl rfl (z_const X rfl (w_lload_n X.1 (ax_d X (show cdA 1 5 = some (.lload_n 1, 1, 0, 0, 0) from rfl)) (x := aj) (List.Mem.tail _ (List.Mem.head _)) (z_callS X (rm := rmN 298) (As := [.long aj]) (st := [.int (Int32.ofInt 4), .ref (A 39)]) rfl rfl (by rw [E.1, E.2.1, E.2.2.1]; exact j_bitL3 G I ) ⟨by rw [E.2.2.2]; exact (show (rmN 298).frames + 1 ≤ (rmN 1).frames by decide), by rw [E.2.2.2]; exact (show 8 + (mNL (miB 298) + 11) + (rmN 298).locals ≤ (rmN 1).locals by decide), by rw [E.2.2.2]; exact (show 0 + (rmN 298).cells ≤ (rmN 1).cells by decide), by rw [E.2.2.2]; exact (show 0 + (rmN 298).slots ≤ (rmN 1).slots by decide)⟩ (Nat.le_of_ble_eq_true rfl) (fun vv s5 hq => ?_) (fun ee s5 hq => ?_)))))
  rotate_left
  · obtain ⟨rfl, e6, hv, hrs5, hps5⟩ := hq; cases hv
  obtain ⟨rfl, e6, hv, hrs5, hps5⟩ := hq
  cases hv
  show WS k 9 [(0, .ref (A 31)), (1, .long aj), (3, .long bj), (5, .int (Int32.ofInt x))] [.int (Int32.ofInt e6), .int (Int32.ofInt 4), .ref (A 39)] (Wd A dT s) 0 0
  refine w_lload_n X.1 (ax_d X (show cdA 1 9 = some (.lload_n 3, 1, 0, 0, 0) from rfl)) (x := bj) (List.Mem.tail _ (List.Mem.tail _ (List.Mem.head _))) (z_callS X (rm := rmN 298) (As := [.long bj]) (st := [.int (Int32.ofInt e6), .int (Int32.ofInt 4), .ref (A 39)]) rfl rfl (by rw [E.1, E.2.1, E.2.2.1]; exact j_bitL3 G I ) ⟨by rw [E.2.2.2]; exact (show (rmN 298).frames + 1 ≤ (rmN 1).frames by decide), by rw [E.2.2.2]; exact (show 8 + (mNL (miB 298) + 11) + (rmN 298).locals ≤ (rmN 1).locals by decide), by rw [E.2.2.2]; exact (show 0 + (rmN 298).cells ≤ (rmN 1).cells by decide), by rw [E.2.2.2]; exact (show 0 + (rmN 298).slots ≤ (rmN 1).slots by decide)⟩ (Nat.le_of_ble_eq_true rfl) (fun vv s7 hq => ?_) (fun ee s7 hq => ?_))
  rotate_left
  · obtain ⟨rfl, e8, hv, hrs7, hps7⟩ := hq; cases hv
  obtain ⟨rfl, e8, hv, hrs7, hps7⟩ := hq
  cases hv
  show WS k 13 [(0, .ref (A 31)), (1, .long aj), (3, .long bj), (5, .int (Int32.ofInt x))] [.int (Int32.ofInt e8), .int (Int32.ofInt e6), .int (Int32.ofInt 4), .ref (A 39)] (Wd A dT s) 0 0
  refine z_add X rfl (z_ast X 39 rfl (c518_ok rfl) rfl (by decide) (show 4 < 7 by decide) (cbig_ok rfl) (wd_gen (fun s9 hs9 => ?_)))
  have Is9 : Bd s9 := eqB hs9 (bd_C I (show ((-2147483648) : Int) ≤ (e6 + e8) ∧ (e6 + e8) ≤ 2147483647 by first | exact ⟨oq_34aac425 hps5.2.1 hps7.2.1, oq_67767ef8 hps5.2.2 hps7.2.2⟩ | omega) ⟨by first | exact oq_34aac425 hps5.2.1 hps7.2.1 | omega, by first | exact oq_67767ef8 hps5.2.2 hps7.2.2 | omega⟩)
  have Fs9 := eqF hs9 (fm_C F (inl_ok (a := 33) rfl))
  have ws9_22 : iI s9 22 = iI s 22 := eqI hs9 rfl
  have ws9_23 : iI s9 23 = iI s 23 := eqI hs9 rfl
  have ws9_9 : iI s9 9 = iI s 9 := eqI hs9 rfl
  have ws9_10 : iI s9 10 = iI s 10 := eqI hs9 rfl
  refine z_aload_n X (x := A 31) rfl (List.Mem.head _) (s_getR X 31 rfl (c518_ok rfl) rfl rfl (z_const X rfl (w_lload_n X.1 (ax_d X (show cdA 1 20 = some (.lload_n 1, 1, 0, 0, 0) from rfl)) (x := aj) (List.Mem.tail _ (List.Mem.head _)) (z_callS X (rm := rmN 298) (As := [.long aj]) (st := [.int (Int32.ofInt 5), .ref (A 39)]) rfl rfl (by rw [E.1, E.2.1, E.2.2.1]; exact j_bitL3 G Is9 ) ⟨by rw [E.2.2.2]; exact (show (rmN 298).frames + 1 ≤ (rmN 1).frames by decide), by rw [E.2.2.2]; exact (show 8 + (mNL (miB 298) + 11) + (rmN 298).locals ≤ (rmN 1).locals by decide), by rw [E.2.2.2]; exact (show 0 + (rmN 298).cells ≤ (rmN 1).cells by decide), by rw [E.2.2.2]; exact (show 0 + (rmN 298).slots ≤ (rmN 1).slots by decide)⟩ (Nat.le_of_ble_eq_true rfl) (fun vv s10 hq => ?_) (fun ee s10 hq => ?_)))))
  rotate_left
  · obtain ⟨rfl, e11, hv, hrs10, hps10⟩ := hq; cases hv
  obtain ⟨rfl, e11, hv, hrs10, hps10⟩ := hq
  cases hv
  show WS k 24 [(0, .ref (A 31)), (1, .long aj), (3, .long bj), (5, .int (Int32.ofInt x))] [.int (Int32.ofInt e11), .int (Int32.ofInt 5), .ref (A 39)] (Wd A dT s9) 0 0
  refine z_ast X 39 rfl (c518_ok rfl) rfl (by decide) (show 5 < 7 by decide) (cbig_ok rfl) (wd_gen (fun s12 hs12 => ?_))
  have Is12 : Bd s12 := eqB hs12 (bd_C Is9 (show ((-2147483648) : Int) ≤ e11 ∧ e11 ≤ 2147483647 by first | exact ⟨oq_fa4e5087 hps10.2.1, oq_f37db25f hps10.2.2⟩ | omega) hrs10)
  have Fs12 := eqF hs12 (fm_C Fs9 (inl_ok (a := 33) rfl))
  have ws12_22 : iI s12 22 = iI s9 22 := eqI hs12 rfl
  have ws12_23 : iI s12 23 = iI s9 23 := eqI hs12 rfl
  have ws12_9 : iI s12 9 = iI s9 9 := eqI hs12 rfl
  have ws12_10 : iI s12 10 = iI s9 10 := eqI hs12 rfl
  refine z_aload_n X (x := A 31) rfl (List.Mem.head _) (s_getR X 31 rfl (c518_ok rfl) rfl rfl (z_bipush X rfl (z_load X (x := x) rfl (List.Mem.tail _ (List.Mem.tail _ (List.Mem.tail _ (List.Mem.head _)))) (z_ast X 39 rfl (c518_ok rfl) rfl (by decide) (show 6 < 7 by decide) (cbig_ok rfl) (wd_gen (fun s13 hs13 => ?_))))))
  have Is13 : Bd s13 := eqB hs13 (bd_C Is12 (show ((-2147483648) : Int) ≤ x ∧ x ≤ 2147483647 by first | exact ⟨p0.1, p0.2⟩ | omega) ⟨by first | exact p0.1 | omega, by first | exact p0.2 | omega⟩)
  have Fs13 := eqF hs13 (fm_C Fs12 (inl_ok (a := 33) rfl))
  have ws13_22 : iI s13 22 = iI s12 22 := eqI hs13 rfl
  have ws13_23 : iI s13 23 = iI s12 23 := eqI hs13 rfl
  have ws13_9 : iI s13 9 = iI s12 9 := eqI hs13 rfl
  have ws13_10 : iI s13 10 = iI s12 10 := eqI hs13 rfl
  have hHE : HEH aj bj x s13 := heh_of hps5.1 hps7.1 hps10.1 ⟨by first | exact p0.1 | omega, by first | exact p0.2 | omega⟩ hs9 hs12 hs13
  refine z_aload_n X (x := A 31) rfl (List.Mem.head _) (z_const X rfl (s_putI X 31 rfl (c518_ok rfl) rfl rfl (by decide) rfl rfl rfl (wd_gen (fun s14 hs14 => ?_))))
  have Is14 : Bd s14 := eqB hs14 (bd_I Is13 (show (0 : Int) ≤ 0 ∧ 0 ≤ 12 by first | exact ⟨by decide, by decide⟩ | omega) (by decide))
  have Fs14 := eqF hs14 (fm_I Fs13 (inl_ok (a := 22) rfl))
  have vs14 : iI s14 22 = 0 := eqI hs14 (iI_u (by decide))
  have ws14_23 : iI s14 23 = iI s13 23 := eqI hs14 rfl
  have ws14_9 : iI s14 9 = iI s13 9 := eqI hs14 rfl
  have ws14_10 : iI s14 10 = iI s13 10 := eqI hs14 rfl
  refine z_const X rfl (z_store X (lv' := [(6, .int (Int32.ofInt 0)), (0, .ref (A 31)), (1, .long aj), (3, .long bj), (5, .int (Int32.ofInt x))]) rfl (by decide) (fun _ h => h) (WS_pq [1, 2, 3, 0] (lv' := [(0, .ref (A 31)), (1, .long aj), (3, .long bj), (6, .int (Int32.ofInt 0))]) rfl (L42 ((12 - 0 : Int).toNat + 1) s14 aj bj 0 Is14 Fs14 ⟨vsq_0 (by first | exact vs14 | omega), heh_s hHE (by have z := hs14; subst z; exact fun _ => rfl)⟩ (by first | exact ⟨And.intro (by decide) (b3.1), oq_1af0b4f8 vs14, oq_45b593e3 ws14_9 ws9_9 ws13_9 ws12_9, oq_45b593e3 ws14_10 ws9_10 ws13_10 ws12_10⟩ | omega) (Nat.lt_succ_self _) ?_)))
  intro s15 x16 Is15 Fs15 Qs15 hs15
  have b17 := bi_22 Is15
  have b18 := bi_23 Is15
  have b19 := bi_9 Is15
  have b20 := bi_10 Is15
  refine z_aload_n X (x := A 31) rfl (List.Mem.head _) (z_const X rfl (s_putI X 31 rfl (c518_ok rfl) rfl rfl (by decide) rfl rfl rfl (wd_gen (fun s21 hs21 => ?_))))
  have Is21 : Bd s21 := eqB hs21 (bd_I Is15 (show (0 : Int) ≤ 0 ∧ 0 ≤ 66 by first | exact ⟨by decide, by decide⟩ | omega) (by decide))
  have Fs21 := eqF hs21 (fm_I Fs15 (inl_ok (a := 23) rfl))
  have vs21 : iI s21 23 = 0 := eqI hs21 (iI_u (by decide))
  have ws21_22 : iI s21 22 = iI s15 22 := eqI hs21 rfl
  have ws21_9 : iI s21 9 = iI s15 9 := eqI hs21 rfl
  have ws21_10 : iI s21 10 = iI s15 10 := eqI hs21 rfl
  refine z_const X rfl (z_store X (lv' := [(6, .int (Int32.ofInt 0)), (0, .ref (A 31)), (1, .long aj), (3, .long bj)]) rfl (by decide) (fun _ h => h) (WS_pq [1, 2, 3, 0] (lv' := [(0, .ref (A 31)), (1, .long aj), (3, .long bj), (6, .int (Int32.ofInt 0))]) rfl (L133 ((66 - 0 : Int).toNat + 1) s21 aj bj 0 Is21 Fs21 ⟨mtq_0 (by first | exact vs21 | omega), vse_of Qs15.1 (by first | exact hs15.1 | omega) (by have z := hs21; subst z; exact ⟨rfl, fun _ => rfl, fun _ => rfl, fun _ => rfl, fun _ => rfl⟩), heh_s Qs15.2 (by have z := hs21; subst z; exact fun _ => rfl)⟩ (by first | exact ⟨And.intro (by decide) (b4.1), oq_1af0b4f8 vs21, oq_1aa5be9e ws21_9 hs15.2.1, oq_1aa5be9e ws21_10 hs15.2.2⟩ | omega) (Nat.lt_succ_self _) ?_)))
  intro s22 x23 Is22 Fs22 Qs22 hs22
  have b24 := bi_22 Is22
  have b25 := bi_23 Is22
  have b26 := bi_9 Is22
  have b27 := bi_10 Is22
  exact w_vret X.1 q hRt (ax_d X (show cdA 1 260 = some (.return_, 1, 0, 0, 0) from rfl)) (Nat.zero_le _) (Nat.zero_le _) ⟨_, rfl, Is22, Fs22, rfl, ⟨lsn_e Qs22.2.1 Qs22.1 (by first | exact hs22.1 | omega) (by first | exact hs22.2.1 | omega) (by first | exact hs22.2.2 | omega) (fun j => fm_dd Fs22 (by decide)) (fun j => fm_dd Fs22 (by decide)) (fun j => fm_dd Fs22 (by decide)) (fun j => fm_c Fs22 (by decide)), Qs22.2.2⟩⟩
set_option maxRecDepth 4000 in
theorem c0_hear3 (G : GX l s0 D tys a0 dT) {aj bj : Int64} (I : Bd s) (jLSN : LSN aj bj s) {x y : Int} (p0 : 0 ≤ x ∧ x ≤ 23) (p1 : rng y) : CT l s0 D A dT 3 (rmN 3) [.ref (A 31), .int (Int32.ofInt x), .int (Int32.ofInt y)] s (fun o t => Bd t ∧ Fm [] [33] s t ∧ o = .inl none ∧ (HRD x y s t)) := by
  refine ct_ofX G (by decide) (Nat.le_of_ble_eq_true rfl) (fun k X E ET hRt hXt q => ?_)
  show WS k 0 [(0, .ref (A 31)), (1, .int (Int32.ofInt x)), (2, .int (Int32.ofInt y))] [] _ 0 0
  have F : Fm [] [33] s s := fm_rf _ _ s
  have I0 := I
  have b1 := bi_22 I
  have b2 := bi_23 I
  have L20 : ∀ (n : Nat) (t : PS) (yv ro wa cr ov cl c : Int), Bd t → Fm [] [33] s t → LSN aj bj t → (HRQ s x y c wa ov cl ∧ SAM 33 s t) → ((yv = y ∧ ro = x * 12 ∧ cr = 0) ∧ (0 ≤ wa ∧ wa ≤ 50 * c) ∧ (0 ≤ ov ∧ ov ≤ 16000 * c) ∧ (0 ≤ cl ∧ cl ≤ 3200 * c) ∧ (0 ≤ c ∧ c ≤ iI s 22) ∧ iI t 22 = iI s 22 ∧ iI t 23 = iI s 23) → (12 - c : Int).toNat < n → (∀ (t' : PS) (wa' cr' ov' cl' c' : Int), Bd t' → Fm [] [33] s t' → LSN aj bj t' → (HRQ s x y c' wa' ov' cl' ∧ SAM 33 s t') → ((yv = y ∧ ro = x * 12 ∧ cr' = 0) ∧ rng wa' ∧ rng ov' ∧ rng cl' ∧ c' = iI s 22 ∧ iI t' 22 = iI s 22 ∧ iI t' 23 = iI s 23) → WS k 106 [(0, .ref (A 31)), (2, .int (Int32.ofInt yv)), (3, .int (Int32.ofInt ro)), (4, .int (Int32.ofInt wa')), (5, .int (Int32.ofInt cr')), (6, .int (Int32.ofInt ov')), (7, .int (Int32.ofInt cl')), (8, .int (Int32.ofInt c'))] [] (Wd A dT t') 0 0) → WS k 20 [(0, .ref (A 31)), (2, .int (Int32.ofInt yv)), (3, .int (Int32.ofInt ro)), (4, .int (Int32.ofInt wa)), (5, .int (Int32.ofInt cr)), (6, .int (Int32.ofInt ov)), (7, .int (Int32.ofInt cl)), (8, .int (Int32.ofInt c))] [] (Wd A dT t) 0 0 := by
    intro n
    induction n with
    | zero =>
      intro t yv ro wa cr ov cl c I F jjLSN hq hi hm kx
      exact absurd hm (Nat.not_lt_zero _)
    | succ n ih =>
      intro t yv ro wa cr ov cl c I F jjLSN hq hi hm kx
      have b1001 := bi_22 I
      have b1002 := bi_23 I
      refine z_load X (x := c) rfl (List.Mem.tail _ (List.Mem.tail _ (List.Mem.tail _ (List.Mem.tail _ (List.Mem.tail _ (List.Mem.tail _ (List.Mem.tail _ (List.Mem.head _)))))))) (z_aload_n X (x := A 31) rfl (List.Mem.head _) (z_getI X 31 rfl (c518_ok rfl) rfl rfl ?_))
      have b1003 := bi_22 I
      refine z_icmp_ge X (t := 106) rfl rfl ⟨by first | exact oq_fa4e5087 hi.2.2.2.2.1.1 | omega, by first | exact oq_39d2cc6e hi.2.2.2.2.1.2 b1.2 | omega⟩ (rng_to _) (fun g1004 => ?_) (fun g1004 => ?_)
      ·
        refine WS_pq [0, 1, 2, 3, 4, 5, 6, 7] (lv' := [(0, .ref (A 31)), (2, .int (Int32.ofInt yv)), (3, .int (Int32.ofInt ro)), (4, .int (Int32.ofInt wa)), (5, .int (Int32.ofInt cr)), (6, .int (Int32.ofInt ov)), (7, .int (Int32.ofInt cl)), (8, .int (Int32.ofInt c))]) rfl ?_
        exact kx _ wa cr ov cl c I F jjLSN hq (by first | exact ⟨And.intro (hi.1.1) (And.intro (hi.1.2.1) (hi.1.2.2)), And.intro (oq_fa4e5087 hi.2.1.1) (oq_4b50503d hi.2.1.2 hi.2.2.2.2.1.2 b1.2), And.intro (oq_fa4e5087 hi.2.2.1.1) (oq_c53e923f hi.2.2.1.2 hi.2.2.2.2.1.2 b1.2), And.intro (oq_fa4e5087 hi.2.2.2.1.1) (oq_525751f8 hi.2.2.2.1.2 hi.2.2.2.2.1.2 b1.2), oq_dae09544 hi.2.2.2.2.1.2 hi.2.2.2.2.2.1 g1004, hi.2.2.2.2.2.1, hi.2.2.2.2.2.2⟩ | omega)
      ·
        refine z_aload_n X (x := A 31) rfl (List.Mem.head _) (s_getR X 31 rfl (c518_ok rfl) rfl rfl (z_load X (x := c) rfl (List.Mem.tail _ (List.Mem.tail _ (List.Mem.tail _ (List.Mem.tail _ (List.Mem.tail _ (List.Mem.tail _ (List.Mem.tail _ (List.Mem.head _)))))))) (z_ald X 32 rfl (c518_ok rfl) rfl (by first | exact hi.2.2.2.2.1.1 | omega) (show c < 12 by first | exact oq_f36e82a8 g1004 b1003.2 | omega) (cbig_ok rfl) ?_)))
        have b1005 := bc_26 I (show (c).toNat < 12 by first | exact oq_2dac6850 g1004 b1003.2 | omega)
        refine z_load_n X (x := yv) rfl (List.Mem.tail _ (List.Mem.head _)) (z_icmp_ne X (t := 44) rfl rfl (rng_to _) ⟨by first | exact oq_6bc29d15 hi.1.1 p1.1 | omega, by first | exact oq_60a194f9 hi.1.1 p1.2 | omega⟩ (fun g1006 => ?_) (fun g1006 => ?_))
        ·
          refine z_aload_n X (x := A 31) rfl (List.Mem.head _) (s_getR X 31 rfl (c518_ok rfl) rfl rfl (s_getR X 3 rfl (c518_ok rfl) rfl rfl (z_load_n X (x := ro) rfl (List.Mem.tail _ (List.Mem.tail _ (List.Mem.head _))) (z_aload_n X (x := A 31) rfl (List.Mem.head _) (s_getR X 31 rfl (c518_ok rfl) rfl rfl (z_load X (x := c) rfl (List.Mem.tail _ (List.Mem.tail _ (List.Mem.tail _ (List.Mem.tail _ (List.Mem.tail _ (List.Mem.tail _ (List.Mem.tail _ (List.Mem.head _)))))))) (z_ald X 32 rfl (c518_ok rfl) rfl (by first | exact hi.2.2.2.2.1.1 | omega) (show c < 12 by first | exact oq_f36e82a8 g1004 b1003.2 | omega) (cbig_ok rfl) ?_)))))))
          have b1007 := bc_26 I (show (c).toNat < 12 by first | exact oq_2dac6850 g1004 b1003.2 | omega)
          refine z_add X rfl (z_ald X 14 rfl (c518_ok rfl) rfl (by first | exact oq_eb3aeb04 hi.1.2.1 b1007.1 p0.1 | omega) (show (ro + (iC t 26 (c).toNat)) < 288 by first | exact oq_1e648b75 hi.1.2.1 b1007.2 p0.2 | omega) (cbig_ok rfl) ?_)
          have b1008 := bc_11 I (show ((ro + (iC t 26 (c).toNat))).toNat < 288 by first | exact oq_a9f1a1f4 hi.1.2.1 b1007.2 p0.2 | omega)
          have hmo : (iC t 11 ((ro + (iC t 26 (c).toNat))).toNat) = moX s x y (iC s 26 (c : Int).toNat).toNat := by rw [← mox_1 (s := s) (q := x) (w := y) (r := ro) (v := iC s 26 (c : Int).toNat) (i := ro + iC s 26 (c : Int).toNat) (by have z := ((sam_fm F (by decide) : SAM 26 s t) (c : Int).toNat); omega) (by have z := ((sam_fm F (by decide) : SAM 26 s t) (c : Int).toNat); omega) (by first | exact hi.1.2.1 | (clear g1006; omega) | omega) rfl, ← (sam_fm F (by decide) : SAM 26 s t) (c : Int).toNat]; exact (sam_fm F (by decide) : SAM 11 s t) _
          have hLb := jjLSN.1.2.1 (c : Int).toNat (by first | exact oq_084ea114 g1004 hi.2.2.2.2.1.1 | (clear g1006; omega) | omega)
          have hP1 := mul_bd (show 0 ≤ (iC t 11 ((ro + (iC t 26 (c).toNat))).toNat) by first | exact b1008.1 | (clear g1006; omega) | omega) (show (iC t 11 ((ro + (iC t 26 (c).toNat))).toNat) ≤ 50 by first | exact b1008.2 | (clear g1006; omega) | omega) hLb.1.1 hLb.1.2
          have hP2 := mul_bd (show 0 ≤ (iC t 11 ((ro + (iC t 26 (c).toNat))).toNat) by first | exact b1008.1 | (clear g1006; omega) | omega) (show (iC t 11 ((ro + (iC t 26 (c).toNat))).toNat) ≤ 50 by first | exact b1008.2 | (clear g1006; omega) | omega) hLb.2.2.1 hLb.2.2.2
          refine z_store X (lv' := [(9, .int (Int32.ofInt (iC t 11 ((ro + (iC t 26 (c).toNat))).toNat))), (0, .ref (A 31)), (2, .int (Int32.ofInt yv)), (3, .int (Int32.ofInt ro)), (4, .int (Int32.ofInt wa)), (5, .int (Int32.ofInt cr)), (6, .int (Int32.ofInt ov)), (7, .int (Int32.ofInt cl)), (8, .int (Int32.ofInt c))]) rfl (by decide) (fun _ h => h) (z_load X (x := wa) rfl (List.Mem.tail _ (List.Mem.tail _ (List.Mem.tail _ (List.Mem.tail _ (List.Mem.head _))))) (z_load X (x := (iC t 11 ((ro + (iC t 26 (c).toNat))).toNat)) rfl (List.Mem.head _) (z_add X rfl (z_store X (lv' := [(4, .int (Int32.ofInt (wa + (iC t 11 ((ro + (iC t 26 (c).toNat))).toNat)))), (9, .int (Int32.ofInt (iC t 11 ((ro + (iC t 26 (c).toNat))).toNat))), (0, .ref (A 31)), (2, .int (Int32.ofInt yv)), (3, .int (Int32.ofInt ro)), (5, .int (Int32.ofInt cr)), (6, .int (Int32.ofInt ov)), (7, .int (Int32.ofInt cl)), (8, .int (Int32.ofInt c))]) rfl (by decide) (fun _ h => h) (z_load X (x := ov) rfl (List.Mem.tail _ (List.Mem.tail _ (List.Mem.tail _ (List.Mem.tail _ (List.Mem.tail _ (List.Mem.tail _ (List.Mem.head _))))))) (z_load X (x := (iC t 11 ((ro + (iC t 26 (c).toNat))).toNat)) rfl (List.Mem.tail _ (List.Mem.head _)) (z_aload_n X (x := A 31) rfl (List.Mem.tail _ (List.Mem.tail _ (List.Mem.head _))) (s_getR X 31 rfl (c518_ok rfl) rfl rfl (z_load X (x := c) rfl (List.Mem.tail _ (List.Mem.tail _ (List.Mem.tail _ (List.Mem.tail _ (List.Mem.tail _ (List.Mem.tail _ (List.Mem.tail _ (List.Mem.tail _ (List.Mem.head _))))))))) (z_ald X 33 rfl (c518_ok rfl) rfl (by first | exact hi.2.2.2.2.1.1 | omega) (show c < 12 by first | exact oq_f36e82a8 g1004 b1003.2 | omega) (cbig_ok rfl) ?_))))))))))
          have b1009 := bc_27 I (show (c).toNat < 12 by first | exact oq_2dac6850 g1004 b1003.2 | omega)
          refine z_mul X rfl (z_add X rfl (z_store X (lv' := [(6, .int (Int32.ofInt (ov + ((iC t 11 ((ro + (iC t 26 (c).toNat))).toNat) * (iC t 27 (c).toNat))))), (4, .int (Int32.ofInt (wa + (iC t 11 ((ro + (iC t 26 (c).toNat))).toNat)))), (9, .int (Int32.ofInt (iC t 11 ((ro + (iC t 26 (c).toNat))).toNat))), (0, .ref (A 31)), (2, .int (Int32.ofInt yv)), (3, .int (Int32.ofInt ro)), (5, .int (Int32.ofInt cr)), (7, .int (Int32.ofInt cl)), (8, .int (Int32.ofInt c))]) rfl (by decide) (fun _ h => h) (z_load X (x := cl) rfl (List.Mem.tail _ (List.Mem.tail _ (List.Mem.tail _ (List.Mem.tail _ (List.Mem.tail _ (List.Mem.tail _ (List.Mem.tail _ (List.Mem.head _)))))))) (z_load X (x := (iC t 11 ((ro + (iC t 26 (c).toNat))).toNat)) rfl (List.Mem.tail _ (List.Mem.tail _ (List.Mem.head _))) (z_aload_n X (x := A 31) rfl (List.Mem.tail _ (List.Mem.tail _ (List.Mem.tail _ (List.Mem.head _)))) (s_getR X 31 rfl (c518_ok rfl) rfl rfl (z_load X (x := c) rfl (List.Mem.tail _ (List.Mem.tail _ (List.Mem.tail _ (List.Mem.tail _ (List.Mem.tail _ (List.Mem.tail _ (List.Mem.tail _ (List.Mem.tail _ (List.Mem.head _))))))))) (z_ald X 35 rfl (c518_ok rfl) rfl (by first | exact hi.2.2.2.2.1.1 | omega) (show c < 12 by first | exact oq_f36e82a8 g1004 b1003.2 | omega) (cbig_ok rfl) ?_))))))))
          have b1010 := bc_29 I (show (c).toNat < 12 by first | exact oq_2dac6850 g1004 b1003.2 | omega)
          refine z_mul X rfl (z_add X rfl (z_store X (lv' := [(7, .int (Int32.ofInt (cl + ((iC t 11 ((ro + (iC t 26 (c).toNat))).toNat) * (iC t 29 (c).toNat))))), (6, .int (Int32.ofInt (ov + ((iC t 11 ((ro + (iC t 26 (c).toNat))).toNat) * (iC t 27 (c).toNat))))), (4, .int (Int32.ofInt (wa + (iC t 11 ((ro + (iC t 26 (c).toNat))).toNat)))), (9, .int (Int32.ofInt (iC t 11 ((ro + (iC t 26 (c).toNat))).toNat))), (0, .ref (A 31)), (2, .int (Int32.ofInt yv)), (3, .int (Int32.ofInt ro)), (5, .int (Int32.ofInt cr)), (8, .int (Int32.ofInt c))]) rfl (by decide) (fun _ h => h) (z_inc X (x := c) (lv' := [(8, .int (Int32.ofInt (c + 1))), (7, .int (Int32.ofInt (cl + ((iC t 11 ((ro + (iC t 26 (c).toNat))).toNat) * (iC t 29 (c).toNat))))), (6, .int (Int32.ofInt (ov + ((iC t 11 ((ro + (iC t 26 (c).toNat))).toNat) * (iC t 27 (c).toNat))))), (4, .int (Int32.ofInt (wa + (iC t 11 ((ro + (iC t 26 (c).toNat))).toNat)))), (9, .int (Int32.ofInt (iC t 11 ((ro + (iC t 26 (c).toNat))).toNat))), (0, .ref (A 31)), (2, .int (Int32.ofInt yv)), (3, .int (Int32.ofInt ro)), (5, .int (Int32.ofInt cr))]) rfl (by decide) (List.Mem.tail _ (List.Mem.tail _ (List.Mem.tail _ (List.Mem.tail _ (List.Mem.tail _ (List.Mem.tail _ (List.Mem.tail _ (List.Mem.tail _ (List.Mem.head _))))))))) (fun _ h => h) (z_goto X (t := 20) rfl rfl (WS_pq [5, 6, 7, 3, 8, 2, 1, 0] (lv' := [(0, .ref (A 31)), (2, .int (Int32.ofInt yv)), (3, .int (Int32.ofInt ro)), (4, .int (Int32.ofInt (wa + (iC t 11 ((ro + (iC t 26 (c).toNat))).toNat)))), (5, .int (Int32.ofInt cr)), (6, .int (Int32.ofInt (ov + ((iC t 11 ((ro + (iC t 26 (c).toNat))).toNat) * (iC t 27 (c).toNat))))), (7, .int (Int32.ofInt (cl + ((iC t 11 ((ro + (iC t 26 (c).toNat))).toNat) * (iC t 29 (c).toNat))))), (8, .int (Int32.ofInt (c + 1)))]) rfl ?_)))))
          exact ih _ yv ro (wa + (iC t 11 ((ro + (iC t 26 (c).toNat))).toNat)) cr (ov + ((iC t 11 ((ro + (iC t 26 (c).toNat))).toNat) * (iC t 27 (c).toNat))) (cl + ((iC t 11 ((ro + (iC t 26 (c).toNat))).toNat) * (iC t 29 (c).toNat))) (c + 1) I F jjLSN ⟨hrq_up hq.1 (by first | exact hi.2.2.2.2.1.1 | (clear g1006; omega) | omega) hmo ((sam_fm F (by decide) : SAM 27 s t) _) ((sam_fm F (by decide) : SAM 29 s t) _), hq.2⟩ (by first | exact ⟨And.intro (hi.1.1) (And.intro (hi.1.2.1) (hi.1.2.2)), And.intro (oq_dd29f52d hi.2.1.1 b1008.1) (oq_d1fd8eeb hi.2.1.2 b1008.2), by first | exact And.intro (oq_d8d6a599 hP1.1 hi.2.2.1.1) (oq_6c95c441 hP1.2 hi.2.2.1.2) | (clear g1006; omega) | omega, by first | exact And.intro (oq_d8d6a599 hP2.1 hi.2.2.2.1.1) (oq_2df07b19 hP2.2 hi.2.2.2.1.2) | (clear g1006; omega) | omega, And.intro (oq_54f49eb5 hi.2.2.2.2.1.1) (oq_8a89b3ae g1004 hi.2.2.2.2.2.1), hi.2.2.2.2.2.1, hi.2.2.2.2.2.2⟩ | omega) (by first | exact qk_me hm (by decide) (oq_b575e8c1 g1004 b1003.2) | exact oq_d41732c5 g1004 b1003.2 hm | omega) kx
        ·
          refine z_const X rfl (z_goto X (t := 61) rfl rfl ?_)
          have hmo : (0 : Int) = moX s x y (iC s 26 (c : Int).toNat).toNat := mox_0 (by have z := ((sam_fm F (by decide) : SAM 26 s t) (c : Int).toNat); omega) (by have z := ((sam_fm F (by decide) : SAM 26 s t) (c : Int).toNat); omega)
          have hLb := jjLSN.1.2.1 (c : Int).toNat (by first | exact oq_084ea114 g1004 hi.2.2.2.2.1.1 | omega)
          have hP1 := mul_bd (show 0 ≤ 0 by decide) (show 0 ≤ 50 by decide) hLb.1.1 hLb.1.2
          have hP2 := mul_bd (show 0 ≤ 0 by decide) (show 0 ≤ 50 by decide) hLb.2.2.1 hLb.2.2.2
          refine z_store X (lv' := [(9, .int (Int32.ofInt 0)), (0, .ref (A 31)), (2, .int (Int32.ofInt yv)), (3, .int (Int32.ofInt ro)), (4, .int (Int32.ofInt wa)), (5, .int (Int32.ofInt cr)), (6, .int (Int32.ofInt ov)), (7, .int (Int32.ofInt cl)), (8, .int (Int32.ofInt c))]) rfl (by decide) (fun _ h => h) (z_load X (x := wa) rfl (List.Mem.tail _ (List.Mem.tail _ (List.Mem.tail _ (List.Mem.tail _ (List.Mem.head _))))) (z_load X (x := 0) rfl (List.Mem.head _) (z_add X rfl (z_store X (lv' := [(4, .int (Int32.ofInt (wa + 0))), (9, .int (Int32.ofInt 0)), (0, .ref (A 31)), (2, .int (Int32.ofInt yv)), (3, .int (Int32.ofInt ro)), (5, .int (Int32.ofInt cr)), (6, .int (Int32.ofInt ov)), (7, .int (Int32.ofInt cl)), (8, .int (Int32.ofInt c))]) rfl (by decide) (fun _ h => h) (z_load X (x := ov) rfl (List.Mem.tail _ (List.Mem.tail _ (List.Mem.tail _ (List.Mem.tail _ (List.Mem.tail _ (List.Mem.tail _ (List.Mem.head _))))))) (z_load X (x := 0) rfl (List.Mem.tail _ (List.Mem.head _)) (z_aload_n X (x := A 31) rfl (List.Mem.tail _ (List.Mem.tail _ (List.Mem.head _))) (s_getR X 31 rfl (c518_ok rfl) rfl rfl (z_load X (x := c) rfl (List.Mem.tail _ (List.Mem.tail _ (List.Mem.tail _ (List.Mem.tail _ (List.Mem.tail _ (List.Mem.tail _ (List.Mem.tail _ (List.Mem.tail _ (List.Mem.head _))))))))) (z_ald X 33 rfl (c518_ok rfl) rfl (by first | exact hi.2.2.2.2.1.1 | omega) (show c < 12 by first | exact oq_f36e82a8 g1004 b1003.2 | omega) (cbig_ok rfl) ?_))))))))))
          have b1011 := bc_27 I (show (c).toNat < 12 by first | exact oq_2dac6850 g1004 b1003.2 | omega)
          refine z_mul X rfl (z_add X rfl (z_store X (lv' := [(6, .int (Int32.ofInt (ov + (0 * (iC t 27 (c).toNat))))), (4, .int (Int32.ofInt (wa + 0))), (9, .int (Int32.ofInt 0)), (0, .ref (A 31)), (2, .int (Int32.ofInt yv)), (3, .int (Int32.ofInt ro)), (5, .int (Int32.ofInt cr)), (7, .int (Int32.ofInt cl)), (8, .int (Int32.ofInt c))]) rfl (by decide) (fun _ h => h) (z_load X (x := cl) rfl (List.Mem.tail _ (List.Mem.tail _ (List.Mem.tail _ (List.Mem.tail _ (List.Mem.tail _ (List.Mem.tail _ (List.Mem.tail _ (List.Mem.head _)))))))) (z_load X (x := 0) rfl (List.Mem.tail _ (List.Mem.tail _ (List.Mem.head _))) (z_aload_n X (x := A 31) rfl (List.Mem.tail _ (List.Mem.tail _ (List.Mem.tail _ (List.Mem.head _)))) (s_getR X 31 rfl (c518_ok rfl) rfl rfl (z_load X (x := c) rfl (List.Mem.tail _ (List.Mem.tail _ (List.Mem.tail _ (List.Mem.tail _ (List.Mem.tail _ (List.Mem.tail _ (List.Mem.tail _ (List.Mem.tail _ (List.Mem.head _))))))))) (z_ald X 35 rfl (c518_ok rfl) rfl (by first | exact hi.2.2.2.2.1.1 | omega) (show c < 12 by first | exact oq_f36e82a8 g1004 b1003.2 | omega) (cbig_ok rfl) ?_))))))))
          have b1012 := bc_29 I (show (c).toNat < 12 by first | exact oq_2dac6850 g1004 b1003.2 | omega)
          refine z_mul X rfl (z_add X rfl (z_store X (lv' := [(7, .int (Int32.ofInt (cl + (0 * (iC t 29 (c).toNat))))), (6, .int (Int32.ofInt (ov + (0 * (iC t 27 (c).toNat))))), (4, .int (Int32.ofInt (wa + 0))), (9, .int (Int32.ofInt 0)), (0, .ref (A 31)), (2, .int (Int32.ofInt yv)), (3, .int (Int32.ofInt ro)), (5, .int (Int32.ofInt cr)), (8, .int (Int32.ofInt c))]) rfl (by decide) (fun _ h => h) (z_inc X (x := c) (lv' := [(8, .int (Int32.ofInt (c + 1))), (7, .int (Int32.ofInt (cl + (0 * (iC t 29 (c).toNat))))), (6, .int (Int32.ofInt (ov + (0 * (iC t 27 (c).toNat))))), (4, .int (Int32.ofInt (wa + 0))), (9, .int (Int32.ofInt 0)), (0, .ref (A 31)), (2, .int (Int32.ofInt yv)), (3, .int (Int32.ofInt ro)), (5, .int (Int32.ofInt cr))]) rfl (by decide) (List.Mem.tail _ (List.Mem.tail _ (List.Mem.tail _ (List.Mem.tail _ (List.Mem.tail _ (List.Mem.tail _ (List.Mem.tail _ (List.Mem.tail _ (List.Mem.head _))))))))) (fun _ h => h) (z_goto X (t := 20) rfl rfl (WS_pq [5, 6, 7, 3, 8, 2, 1, 0] (lv' := [(0, .ref (A 31)), (2, .int (Int32.ofInt yv)), (3, .int (Int32.ofInt ro)), (4, .int (Int32.ofInt (wa + 0))), (5, .int (Int32.ofInt cr)), (6, .int (Int32.ofInt (ov + (0 * (iC t 27 (c).toNat))))), (7, .int (Int32.ofInt (cl + (0 * (iC t 29 (c).toNat))))), (8, .int (Int32.ofInt (c + 1)))]) rfl ?_)))))
          exact ih _ yv ro (wa + 0) cr (ov + (0 * (iC t 27 (c).toNat))) (cl + (0 * (iC t 29 (c).toNat))) (c + 1) I F jjLSN ⟨hrq_up hq.1 (by first | exact hi.2.2.2.2.1.1 | omega) hmo ((sam_fm F (by decide) : SAM 27 s t) _) ((sam_fm F (by decide) : SAM 29 s t) _), hq.2⟩ (by first | exact ⟨And.intro (hi.1.1) (And.intro (hi.1.2.1) (hi.1.2.2)), And.intro (oq_590e7a3f hi.2.1.1) (oq_d2f84ed4 hi.2.1.2), And.intro (oq_ba6cc275 hi.2.2.1.1) (oq_a7ab7dd1 hi.2.2.1.2), And.intro (oq_ba6cc275 hi.2.2.2.1.1) (oq_ea93747b hi.2.2.2.1.2), And.intro (oq_54f49eb5 hi.2.2.2.2.1.1) (oq_8a89b3ae g1004 hi.2.2.2.2.2.1), hi.2.2.2.2.2.1, hi.2.2.2.2.2.2⟩ | omega) (by first | exact qk_me hm (by decide) (oq_b575e8c1 g1004 b1003.2) | exact oq_d41732c5 g1004 b1003.2 hm | omega) kx
  have L109 : ∀ (n : Nat) (t : PS) (yv ro wa cr ov cl c : Int), Bd t → Fm [] [33] s t → LSN aj bj t → (HRC s x y c cr ∧ SAM 33 s t) → ((yv = y ∧ ro = x * 12) ∧ (rng wa ∧ rng ov ∧ rng cl) ∧ (0 ≤ cr ∧ cr ≤ 6400 * c) ∧ (0 ≤ c ∧ c ≤ iI s 23) ∧ iI t 23 = iI s 23) → (66 - c : Int).toNat < n → (∀ (t' : PS) (cr' c' : Int), Bd t' → Fm [] [33] s t' → LSN aj bj t' → (HRC s x y c' cr' ∧ SAM 33 s t') → (rng cr' ∧ c' = iI s 23) → WS k 196 [(0, .ref (A 31)), (2, .int (Int32.ofInt yv)), (3, .int (Int32.ofInt ro)), (4, .int (Int32.ofInt wa)), (5, .int (Int32.ofInt cr')), (6, .int (Int32.ofInt ov)), (7, .int (Int32.ofInt cl)), (8, .int (Int32.ofInt c'))] [] (Wd A dT t') 0 0) → WS k 109 [(0, .ref (A 31)), (2, .int (Int32.ofInt yv)), (3, .int (Int32.ofInt ro)), (4, .int (Int32.ofInt wa)), (5, .int (Int32.ofInt cr)), (6, .int (Int32.ofInt ov)), (7, .int (Int32.ofInt cl)), (8, .int (Int32.ofInt c))] [] (Wd A dT t) 0 0 := by
    intro n
    induction n with
    | zero =>
      intro t yv ro wa cr ov cl c I F jjLSN hq hi hm kx
      exact absurd hm (Nat.not_lt_zero _)
    | succ n ih =>
      intro t yv ro wa cr ov cl c I F jjLSN hq hi hm kx
      have b2001 := bi_22 I
      have b2002 := bi_23 I
      refine z_load X (x := c) rfl (List.Mem.tail _ (List.Mem.tail _ (List.Mem.tail _ (List.Mem.tail _ (List.Mem.tail _ (List.Mem.tail _ (List.Mem.tail _ (List.Mem.head _)))))))) (z_aload_n X (x := A 31) rfl (List.Mem.head _) (z_getI X 31 rfl (c518_ok rfl) rfl rfl ?_))
      have b2003 := bi_23 I
      refine z_icmp_ge X (t := 196) rfl rfl ⟨by first | exact oq_fa4e5087 hi.2.2.2.1.1 | omega, by first | exact oq_b63fabfa hi.2.2.2.1.2 b2.2 | omega⟩ (rng_to _) (fun g2004 => ?_) (fun g2004 => ?_)
      ·
        refine WS_pq [0, 1, 2, 3, 4, 5, 6, 7] (lv' := [(0, .ref (A 31)), (2, .int (Int32.ofInt yv)), (3, .int (Int32.ofInt ro)), (4, .int (Int32.ofInt wa)), (5, .int (Int32.ofInt cr)), (6, .int (Int32.ofInt ov)), (7, .int (Int32.ofInt cl)), (8, .int (Int32.ofInt c))]) rfl ?_
        exact kx _ cr c I F jjLSN hq (by first | exact ⟨And.intro (oq_fa4e5087 hi.2.2.1.1) (oq_75e30758 hi.2.2.1.2 hi.2.2.2.1.2 b2.2), oq_dae09544 hi.2.2.2.1.2 hi.2.2.2.2 g2004⟩ | omega)
      ·
        refine z_aload_n X (x := A 31) rfl (List.Mem.head _) (s_getR X 31 rfl (c518_ok rfl) rfl rfl (z_load X (x := c) rfl (List.Mem.tail _ (List.Mem.tail _ (List.Mem.tail _ (List.Mem.tail _ (List.Mem.tail _ (List.Mem.tail _ (List.Mem.tail _ (List.Mem.head _)))))))) (z_ald X 36 rfl (c518_ok rfl) rfl (by first | exact hi.2.2.2.1.1 | omega) (show c < 66 by first | exact oq_256e4529 g2004 b2003.2 | omega) (cbig_ok rfl) ?_)))
        have b2005 := bc_30 I (show (c).toNat < 66 by first | exact oq_d7ff7873 g2004 b2003.2 | omega)
        refine z_load_n X (x := yv) rfl (List.Mem.tail _ (List.Mem.head _)) (z_icmp_eq X (t := 190) rfl rfl (rng_to _) ⟨by first | exact oq_6bc29d15 hi.1.1 p1.1 | omega, by first | exact oq_60a194f9 hi.1.1 p1.2 | omega⟩ (fun g2006 => ?_) (fun g2006 => ?_))
        ·
          refine z_inc X (x := c) (lv' := [(8, .int (Int32.ofInt (c + 1))), (0, .ref (A 31)), (2, .int (Int32.ofInt yv)), (3, .int (Int32.ofInt ro)), (4, .int (Int32.ofInt wa)), (5, .int (Int32.ofInt cr)), (6, .int (Int32.ofInt ov)), (7, .int (Int32.ofInt cl))]) rfl (by decide) (List.Mem.tail _ (List.Mem.tail _ (List.Mem.tail _ (List.Mem.tail _ (List.Mem.tail _ (List.Mem.tail _ (List.Mem.tail _ (List.Mem.head _)))))))) (fun _ h => h) (z_goto X (t := 109) rfl rfl (WS_pq [1, 2, 3, 4, 5, 6, 7, 0] (lv' := [(0, .ref (A 31)), (2, .int (Int32.ofInt yv)), (3, .int (Int32.ofInt ro)), (4, .int (Int32.ofInt wa)), (5, .int (Int32.ofInt cr)), (6, .int (Int32.ofInt ov)), (7, .int (Int32.ofInt cl)), (8, .int (Int32.ofInt (c + 1)))]) rfl ?_))
          exact ih _ yv ro wa cr ov cl (c + 1) I F jjLSN ⟨hrc_n hq.1 (by first | exact hi.2.2.2.1.1 | omega) (fun j hj => (bd_mos I0 hj).1) (by first | exact And.intro (p0.1) (p0.2) | omega) (I0.2 30 (c : Int).toNat (show (c : Int).toNat < 66 by first | exact oq_f5c742f1 g2004 hi.2.2.2.2 b2.2 | omega)) (I0.2 31 (c : Int).toNat (show (c : Int).toNat < 66 by first | exact oq_f5c742f1 g2004 hi.2.2.2.2 b2.2 | omega)) (by have z1 : iC t 30 (c : Int).toNat = iC s 30 (c : Int).toNat := sam_fm F (by decide) _; have z2 : iC t 31 (c : Int).toNat = iC s 31 (c : Int).toNat := sam_fm F (by decide) _; omega), hq.2⟩ (by first | exact ⟨And.intro (hi.1.1) (hi.1.2), And.intro (And.intro (hi.2.1.1.1) (hi.2.1.1.2)) (And.intro (And.intro (hi.2.1.2.1.1) (hi.2.1.2.1.2)) (And.intro (hi.2.1.2.2.1) (hi.2.1.2.2.2))), And.intro (hi.2.2.1.1) (oq_e019f022 hi.2.2.1.2), And.intro (oq_54f49eb5 hi.2.2.2.1.1) (oq_8a89b3ae g2004 hi.2.2.2.2), hi.2.2.2.2⟩ | omega) (by first | exact qk_me hm (by decide) (oq_dd0e9829 g2004 b2003.2) | exact oq_2d4b017a g2004 hm hi.2.2.2.2 b2.2 | omega) kx
        ·
          refine z_aload_n X (x := A 31) rfl (List.Mem.head _) (s_getR X 31 rfl (c518_ok rfl) rfl rfl (z_load X (x := c) rfl (List.Mem.tail _ (List.Mem.tail _ (List.Mem.tail _ (List.Mem.tail _ (List.Mem.tail _ (List.Mem.tail _ (List.Mem.tail _ (List.Mem.head _)))))))) (z_ald X 37 rfl (c518_ok rfl) rfl (by first | exact hi.2.2.2.1.1 | omega) (show c < 66 by first | exact oq_256e4529 g2004 b2003.2 | omega) (cbig_ok rfl) ?_)))
          have b2007 := bc_31 I (show (c).toNat < 66 by first | exact oq_d7ff7873 g2004 b2003.2 | omega)
          refine z_load_n X (x := yv) rfl (List.Mem.tail _ (List.Mem.head _)) (z_icmp_eq X (t := 190) rfl rfl (rng_to _) ⟨by first | exact oq_6bc29d15 hi.1.1 p1.1 | omega, by first | exact oq_60a194f9 hi.1.1 p1.2 | omega⟩ (fun g2008 => ?_) (fun g2008 => ?_))
          ·
            refine z_inc X (x := c) (lv' := [(8, .int (Int32.ofInt (c + 1))), (0, .ref (A 31)), (2, .int (Int32.ofInt yv)), (3, .int (Int32.ofInt ro)), (4, .int (Int32.ofInt wa)), (5, .int (Int32.ofInt cr)), (6, .int (Int32.ofInt ov)), (7, .int (Int32.ofInt cl))]) rfl (by decide) (List.Mem.tail _ (List.Mem.tail _ (List.Mem.tail _ (List.Mem.tail _ (List.Mem.tail _ (List.Mem.tail _ (List.Mem.tail _ (List.Mem.head _)))))))) (fun _ h => h) (z_goto X (t := 109) rfl rfl (WS_pq [1, 2, 3, 4, 5, 6, 7, 0] (lv' := [(0, .ref (A 31)), (2, .int (Int32.ofInt yv)), (3, .int (Int32.ofInt ro)), (4, .int (Int32.ofInt wa)), (5, .int (Int32.ofInt cr)), (6, .int (Int32.ofInt ov)), (7, .int (Int32.ofInt cl)), (8, .int (Int32.ofInt (c + 1)))]) rfl ?_))
            exact ih _ yv ro wa cr ov cl (c + 1) I F jjLSN ⟨hrc_n hq.1 (by first | exact hi.2.2.2.1.1 | (clear g2006; omega) | omega) (fun j hj => (bd_mos I0 hj).1) (by first | exact And.intro (p0.1) (p0.2) | (clear g2006; omega) | omega) (I0.2 30 (c : Int).toNat (show (c : Int).toNat < 66 by first | exact oq_f5c742f1 g2004 hi.2.2.2.2 b2.2 | (clear g2006; omega) | omega)) (I0.2 31 (c : Int).toNat (show (c : Int).toNat < 66 by first | exact oq_f5c742f1 g2004 hi.2.2.2.2 b2.2 | (clear g2006; omega) | omega)) (by have z1 : iC t 30 (c : Int).toNat = iC s 30 (c : Int).toNat := sam_fm F (by decide) _; have z2 : iC t 31 (c : Int).toNat = iC s 31 (c : Int).toNat := sam_fm F (by decide) _; omega), hq.2⟩ (by first | exact ⟨And.intro (hi.1.1) (hi.1.2), And.intro (And.intro (hi.2.1.1.1) (hi.2.1.1.2)) (And.intro (And.intro (hi.2.1.2.1.1) (hi.2.1.2.1.2)) (And.intro (hi.2.1.2.2.1) (hi.2.1.2.2.2))), And.intro (hi.2.2.1.1) (oq_e019f022 hi.2.2.1.2), And.intro (oq_54f49eb5 hi.2.2.2.1.1) (oq_8a89b3ae g2004 hi.2.2.2.2), hi.2.2.2.2⟩ | omega) (by first | exact qk_me hm (by decide) (oq_dd0e9829 g2004 b2003.2) | exact oq_2d4b017a g2004 hm hi.2.2.2.2 b2.2 | omega) kx
          ·
            refine z_load X (x := cr) rfl (List.Mem.tail _ (List.Mem.tail _ (List.Mem.tail _ (List.Mem.tail _ (List.Mem.head _))))) (z_aload_n X (x := A 31) rfl (List.Mem.head _) (s_getR X 31 rfl (c518_ok rfl) rfl rfl (z_load X (x := c) rfl (List.Mem.tail _ (List.Mem.tail _ (List.Mem.tail _ (List.Mem.tail _ (List.Mem.tail _ (List.Mem.tail _ (List.Mem.tail _ (List.Mem.head _)))))))) (z_ald X 38 rfl (c518_ok rfl) rfl (by first | exact hi.2.2.2.1.1 | omega) (show c < 66 by first | exact oq_256e4529 g2004 b2003.2 | omega) (cbig_ok rfl) ?_))))
            have b2009 := bc_32 I (show (c).toNat < 66 by first | exact oq_d7ff7873 g2004 b2003.2 | omega)
            refine z_aload_n X (x := A 31) rfl (List.Mem.head _) (s_getR X 31 rfl (c518_ok rfl) rfl rfl (s_getR X 3 rfl (c518_ok rfl) rfl rfl (z_load_n X (x := ro) rfl (List.Mem.tail _ (List.Mem.tail _ (List.Mem.head _))) (z_aload_n X (x := A 31) rfl (List.Mem.head _) (s_getR X 31 rfl (c518_ok rfl) rfl rfl (z_load X (x := c) rfl (List.Mem.tail _ (List.Mem.tail _ (List.Mem.tail _ (List.Mem.tail _ (List.Mem.tail _ (List.Mem.tail _ (List.Mem.tail _ (List.Mem.head _)))))))) (z_ald X 36 rfl (c518_ok rfl) rfl (by first | exact hi.2.2.2.1.1 | omega) (show c < 66 by first | exact oq_256e4529 g2004 b2003.2 | omega) (cbig_ok rfl) ?_)))))))
            have b2010 := bc_30 I (show (c).toNat < 66 by first | exact oq_d7ff7873 g2004 b2003.2 | omega)
            refine z_add X rfl (z_ald X 14 rfl (c518_ok rfl) rfl (by first | exact oq_eb3aeb04 hi.1.2 b2010.1 p0.1 | omega) (show (ro + (iC t 30 (c).toNat)) < 288 by first | exact oq_1e648b75 hi.1.2 b2010.2 p0.2 | omega) (cbig_ok rfl) ?_)
            have b2011 := bc_11 I (show ((ro + (iC t 30 (c).toNat))).toNat < 288 by first | exact oq_a9f1a1f4 hi.1.2 b2010.2 p0.2 | omega)
            refine z_aload_n X (x := A 31) rfl (List.Mem.head _) (s_getR X 31 rfl (c518_ok rfl) rfl rfl (s_getR X 3 rfl (c518_ok rfl) rfl rfl (z_load_n X (x := ro) rfl (List.Mem.tail _ (List.Mem.tail _ (List.Mem.head _))) (z_aload_n X (x := A 31) rfl (List.Mem.head _) (s_getR X 31 rfl (c518_ok rfl) rfl rfl (z_load X (x := c) rfl (List.Mem.tail _ (List.Mem.tail _ (List.Mem.tail _ (List.Mem.tail _ (List.Mem.tail _ (List.Mem.tail _ (List.Mem.tail _ (List.Mem.head _)))))))) (z_ald X 37 rfl (c518_ok rfl) rfl (by first | exact hi.2.2.2.1.1 | omega) (show c < 66 by first | exact oq_256e4529 g2004 b2003.2 | omega) (cbig_ok rfl) ?_)))))))
            have b2012 := bc_31 I (show (c).toNat < 66 by first | exact oq_d7ff7873 g2004 b2003.2 | omega)
            refine z_add X rfl (z_ald X 14 rfl (c518_ok rfl) rfl (by first | exact oq_eb3aeb04 hi.1.2 b2012.1 p0.1 | omega) (show (ro + (iC t 31 (c).toNat)) < 288 by first | exact oq_1e648b75 hi.1.2 b2012.2 p0.2 | omega) (cbig_ok rfl) ?_)
            have b2013 := bc_11 I (show ((ro + (iC t 31 (c).toNat))).toNat < 288 by first | exact oq_a9f1a1f4 hi.1.2 b2012.2 p0.2 | omega)
            refine z_min X rfl (rng_to _) (rng_to _) (by rw [E.2.2.2]; decide) (by rw [E.2.2.2]; exact Nat.le_of_ble_eq_true rfl) (Nat.zero_le _) (Nat.zero_le _) (fun e2014 he2014 => ?_)
            have hLm := jjLSN.2.2.1 (c : Int).toNat (by first | exact oq_084ea114 g2004 hi.2.2.2.1.1 | (clear g2008 g2006; omega) | (clear g2006; omega) | omega)
            have hP3 := mul_bd hLm.1 hLm.2 (show 0 ≤ e2014 by first | exact oq_03ccc143 he2014 b2013.1 b2011.1 | (clear g2008 g2006; omega) | (clear g2006; omega) | omega) (show e2014 ≤ 50 by first | exact oq_cf461999 he2014 b2011.2 | (clear g2008 g2006; omega) | (clear g2006; omega) | omega)
            refine z_mul X rfl (z_add X rfl (z_store X (lv' := [(5, .int (Int32.ofInt (cr + ((iC t 32 (c).toNat) * e2014)))), (0, .ref (A 31)), (2, .int (Int32.ofInt yv)), (3, .int (Int32.ofInt ro)), (4, .int (Int32.ofInt wa)), (6, .int (Int32.ofInt ov)), (7, .int (Int32.ofInt cl)), (8, .int (Int32.ofInt c))]) rfl (by decide) (fun _ h => h) (z_inc X (x := c) (lv' := [(8, .int (Int32.ofInt (c + 1))), (5, .int (Int32.ofInt (cr + ((iC t 32 (c).toNat) * e2014)))), (0, .ref (A 31)), (2, .int (Int32.ofInt yv)), (3, .int (Int32.ofInt ro)), (4, .int (Int32.ofInt wa)), (6, .int (Int32.ofInt ov)), (7, .int (Int32.ofInt cl))]) rfl (by decide) (List.Mem.tail _ (List.Mem.tail _ (List.Mem.tail _ (List.Mem.tail _ (List.Mem.tail _ (List.Mem.tail _ (List.Mem.tail _ (List.Mem.head _)))))))) (fun _ h => h) (z_goto X (t := 109) rfl rfl (WS_pq [2, 3, 4, 5, 1, 6, 7, 0] (lv' := [(0, .ref (A 31)), (2, .int (Int32.ofInt yv)), (3, .int (Int32.ofInt ro)), (4, .int (Int32.ofInt wa)), (5, .int (Int32.ofInt (cr + ((iC t 32 (c).toNat) * e2014)))), (6, .int (Int32.ofInt ov)), (7, .int (Int32.ofInt cl)), (8, .int (Int32.ofInt (c + 1)))]) rfl ?_)))))
            exact ih _ yv ro wa (cr + ((iC t 32 (c).toNat) * e2014)) ov cl (c + 1) I F jjLSN ⟨hrc_y (a := (iC t 11 ((ro + (iC t 30 (c).toNat))).toNat)) (b := (iC t 11 ((ro + (iC t 31 (c).toNat))).toNat)) hq.1 (by first | exact hi.2.2.2.1.1 | (clear g2008 g2006; omega) | (clear g2006; omega) | omega) ((sam_fm F (by decide) : SAM 32 s t) _) (by rw [← mox_1 (s := s) (q := x) (w := y) (r := ro) (v := iC s 30 (c : Int).toNat) (i := ro + iC s 30 (c : Int).toNat) (by have z : iC t 30 (c : Int).toNat = iC s 30 (c : Int).toNat := sam_fm F (by decide) _; omega) (by have z : iC t 30 (c : Int).toNat = iC s 30 (c : Int).toNat := sam_fm F (by decide) _; omega) (by first | exact hi.1.2 | (clear g2008 g2006; omega) | (clear g2006; omega) | omega) rfl, ← (sam_fm F (by decide) : SAM 30 s t) (c : Int).toNat]; exact (sam_fm F (by decide) : SAM 11 s t) _) (by rw [← mox_1 (s := s) (q := x) (w := y) (r := ro) (v := iC s 31 (c : Int).toNat) (i := ro + iC s 31 (c : Int).toNat) (by have z : iC t 31 (c : Int).toNat = iC s 31 (c : Int).toNat := sam_fm F (by decide) _; omega) (by have z : iC t 31 (c : Int).toNat = iC s 31 (c : Int).toNat := sam_fm F (by decide) _; omega) (by first | exact hi.1.2 | (clear g2008 g2006; omega) | (clear g2006; omega) | omega) rfl, ← (sam_fm F (by decide) : SAM 31 s t) (c : Int).toNat]; exact (sam_fm F (by decide) : SAM 11 s t) _) (by first | (clear g2008 g2006; omega) | (clear g2006; omega) | omega) rfl, hq.2⟩ (by first | exact ⟨And.intro (hi.1.1) (hi.1.2), And.intro (And.intro (hi.2.1.1.1) (hi.2.1.1.2)) (And.intro (And.intro (hi.2.1.2.1.1) (hi.2.1.2.1.2)) (And.intro (hi.2.1.2.2.1) (hi.2.1.2.2.2))), by first | exact And.intro (oq_d8d6a599 hP3.1 hi.2.2.1.1) (oq_c1169d3f hP3.2 hi.2.2.1.2) | (clear g2008 g2006; omega) | (clear g2006; omega) | omega, And.intro (oq_54f49eb5 hi.2.2.2.1.1) (oq_8a89b3ae g2004 hi.2.2.2.2), hi.2.2.2.2⟩ | omega) (by first | exact qk_me hm (by decide) (oq_dd0e9829 g2004 b2003.2) | exact oq_2d4b017a g2004 hm hi.2.2.2.2 b2.2 | omega) kx
  refine z_load_n X (x := x) rfl (List.Mem.tail _ (List.Mem.head _)) (z_bipush X rfl (z_mul X rfl (z_store_n X (lv' := [(3, .int (Int32.ofInt (x * 12))), (0, .ref (A 31)), (1, .int (Int32.ofInt x)), (2, .int (Int32.ofInt y))]) rfl (by decide) (fun _ h => h) (z_const X rfl (z_store X (lv' := [(4, .int (Int32.ofInt 0)), (3, .int (Int32.ofInt (x * 12))), (0, .ref (A 31)), (1, .int (Int32.ofInt x)), (2, .int (Int32.ofInt y))]) rfl (by decide) (fun _ h => h) (z_const X rfl (z_store X (lv' := [(5, .int (Int32.ofInt 0)), (4, .int (Int32.ofInt 0)), (3, .int (Int32.ofInt (x * 12))), (0, .ref (A 31)), (1, .int (Int32.ofInt x)), (2, .int (Int32.ofInt y))]) rfl (by decide) (fun _ h => h) (z_const X rfl (z_store X (lv' := [(6, .int (Int32.ofInt 0)), (5, .int (Int32.ofInt 0)), (4, .int (Int32.ofInt 0)), (3, .int (Int32.ofInt (x * 12))), (0, .ref (A 31)), (1, .int (Int32.ofInt x)), (2, .int (Int32.ofInt y))]) rfl (by decide) (fun _ h => h) (z_const X rfl (z_store X (lv' := [(7, .int (Int32.ofInt 0)), (6, .int (Int32.ofInt 0)), (5, .int (Int32.ofInt 0)), (4, .int (Int32.ofInt 0)), (3, .int (Int32.ofInt (x * 12))), (0, .ref (A 31)), (1, .int (Int32.ofInt x)), (2, .int (Int32.ofInt y))]) rfl (by decide) (fun _ h => h) ?_)))))))))))
  refine z_const X rfl (z_store X (lv' := [(8, .int (Int32.ofInt 0)), (7, .int (Int32.ofInt 0)), (6, .int (Int32.ofInt 0)), (5, .int (Int32.ofInt 0)), (4, .int (Int32.ofInt 0)), (3, .int (Int32.ofInt (x * 12))), (0, .ref (A 31)), (1, .int (Int32.ofInt x)), (2, .int (Int32.ofInt y))]) rfl (by decide) (fun _ h => h) (WS_pq [6, 8, 5, 4, 3, 2, 1, 0] (lv' := [(0, .ref (A 31)), (2, .int (Int32.ofInt y)), (3, .int (Int32.ofInt (x * 12))), (4, .int (Int32.ofInt 0)), (5, .int (Int32.ofInt 0)), (6, .int (Int32.ofInt 0)), (7, .int (Int32.ofInt 0)), (8, .int (Int32.ofInt 0))]) rfl (L20 ((12 - 0 : Int).toNat + 1) s y (x * 12) 0 0 0 0 0 I F jLSN ⟨hrq_0, sam_rf⟩ (by first | exact ⟨And.intro (by decide) (And.intro (by decide) (by decide)), And.intro (by decide) (by decide), And.intro (by decide) (by decide), And.intro (by decide) (by decide), And.intro (by decide) (b1.1), by decide, by decide⟩ | exact And.intro (And.intro (rfl) (And.intro (rfl) (rfl))) (And.intro (And.intro (oq_0fe6b7e2) (oq_599ba080)) (And.intro (And.intro (oq_0fe6b7e2) (oq_5cd146a8)) (And.intro (And.intro (oq_0fe6b7e2) (oq_1b7f0927)) (And.intro (And.intro (oq_0fe6b7e2) (b1.1)) (And.intro (rfl) (rfl)))))) | omega) (Nat.lt_succ_self _) ?_)))
  intro s3 x4 x5 x6 x7 x8 Is3 Fs3 JLSN_s3 Qs3 hs3
  have b9 := bi_22 Is3
  have b10 := bi_23 Is3
  refine z_const X rfl (z_store X (lv' := [(8, .int (Int32.ofInt 0)), (0, .ref (A 31)), (2, .int (Int32.ofInt y)), (3, .int (Int32.ofInt (x * 12))), (4, .int (Int32.ofInt x4)), (5, .int (Int32.ofInt x5)), (6, .int (Int32.ofInt x6)), (7, .int (Int32.ofInt x7))]) rfl (by decide) (fun _ h => h) (WS_pq [1, 2, 3, 4, 5, 6, 7, 0] (lv' := [(0, .ref (A 31)), (2, .int (Int32.ofInt y)), (3, .int (Int32.ofInt (x * 12))), (4, .int (Int32.ofInt x4)), (5, .int (Int32.ofInt x5)), (6, .int (Int32.ofInt x6)), (7, .int (Int32.ofInt x7)), (8, .int (Int32.ofInt 0))]) rfl (L109 ((66 - 0 : Int).toNat + 1) s3 y (x * 12) x4 x5 x6 x7 0 Is3 Fs3 JLSN_s3 ⟨(by show _ = _; rw [show x5 = 0 by first | exact hs3.1.2.2 | omega]; rfl), Qs3.2⟩ (by first | exact ⟨And.intro (by decide) (by decide), And.intro (And.intro (hs3.2.1.1) (hs3.2.1.2)) (And.intro (And.intro (hs3.2.2.1.1) (hs3.2.2.1.2)) (And.intro (hs3.2.2.2.1.1) (hs3.2.2.2.1.2))), And.intro (oq_0b35aa92 hs3.1.2.2) (oq_40793e9a hs3.1.2.2), And.intro (by decide) (b2.1), hs3.2.2.2.2.2.2⟩ | exact And.intro (And.intro (hs3.1.1) (hs3.1.2.1)) (And.intro (And.intro (And.intro (hs3.2.1.1) (hs3.2.1.2)) (And.intro (And.intro (hs3.2.2.1.1) (hs3.2.2.1.2)) (And.intro (hs3.2.2.2.1.1) (hs3.2.2.2.1.2)))) (And.intro (And.intro (oq_0b35aa92 hs3.1.2.2) (oq_40793e9a hs3.1.2.2)) (And.intro (And.intro (oq_0fe6b7e2) (b2.1)) (hs3.2.2.2.2.2.2)))) | omega) (Nat.lt_succ_self _) ?_)))
  intro s11 x12 x13 Is11 Fs11 JLSN_s11 Qs11 hs11
  have b14 := bi_22 Is11
  have b15 := bi_23 Is11
  refine z_aload_n X (x := A 31) rfl (List.Mem.head _) (s_getR X 31 rfl (c518_ok rfl) rfl rfl (z_const X rfl (z_load X (x := x4) rfl (List.Mem.tail _ (List.Mem.tail _ (List.Mem.tail _ (List.Mem.head _)))) (z_ast X 39 rfl (c518_ok rfl) rfl (by decide) (show 0 < 7 by decide) (cbig_ok rfl) (wd_gen (fun s16 hs16 => ?_))))))
  have Is16 : Bd s16 := eqB hs16 (bd_C Is11 (show ((-2147483648) : Int) ≤ x4 ∧ x4 ≤ 2147483647 by first | exact ⟨hs3.2.1.1, hs3.2.1.2⟩ | omega) ⟨by first | exact hs3.2.1.1 | omega, by first | exact hs3.2.1.2 | omega⟩)
  have Fs16 := eqF hs16 (fm_C Fs11 (inl_ok (a := 33) rfl))
  have ws16_22 : iI s16 22 = iI s11 22 := eqI hs16 rfl
  have ws16_23 : iI s16 23 = iI s11 23 := eqI hs16 rfl
  have fs16 : Fm [] [33] s11 s16 := by rw [hs16]; exact fm_C (fm_rf _ _ _) (show 33 ∈ _ by decide)
  refine z_aload_n X (x := A 31) rfl (List.Mem.head _) (s_getR X 31 rfl (c518_ok rfl) rfl rfl (z_const X rfl (z_load X (x := x12) rfl (List.Mem.tail _ (List.Mem.tail _ (List.Mem.tail _ (List.Mem.tail _ (List.Mem.head _))))) (z_ast X 39 rfl (c518_ok rfl) rfl (by decide) (show 1 < 7 by decide) (cbig_ok rfl) (wd_gen (fun s17 hs17 => ?_))))))
  have Is17 : Bd s17 := eqB hs17 (bd_C Is16 (show ((-2147483648) : Int) ≤ x12 ∧ x12 ≤ 2147483647 by first | exact ⟨hs11.1.1, hs11.1.2⟩ | omega) ⟨by first | exact hs11.1.1 | omega, by first | exact hs11.1.2 | omega⟩)
  have Fs17 := eqF hs17 (fm_C Fs16 (inl_ok (a := 33) rfl))
  have ws17_22 : iI s17 22 = iI s16 22 := eqI hs17 rfl
  have ws17_23 : iI s17 23 = iI s16 23 := eqI hs17 rfl
  have fs17 : Fm [] [33] s16 s17 := by rw [hs17]; exact fm_C (fm_rf _ _ _) (show 33 ∈ _ by decide)
  refine z_aload_n X (x := A 31) rfl (List.Mem.head _) (s_getR X 31 rfl (c518_ok rfl) rfl rfl (z_const X rfl (z_load X (x := x6) rfl (List.Mem.tail _ (List.Mem.tail _ (List.Mem.tail _ (List.Mem.tail _ (List.Mem.tail _ (List.Mem.head _)))))) (z_ast X 39 rfl (c518_ok rfl) rfl (by decide) (show 2 < 7 by decide) (cbig_ok rfl) (wd_gen (fun s18 hs18 => ?_))))))
  have Is18 : Bd s18 := eqB hs18 (bd_C Is17 (show ((-2147483648) : Int) ≤ x6 ∧ x6 ≤ 2147483647 by first | exact ⟨hs3.2.2.1.1, hs3.2.2.1.2⟩ | omega) ⟨by first | exact hs3.2.2.1.1 | omega, by first | exact hs3.2.2.1.2 | omega⟩)
  have Fs18 := eqF hs18 (fm_C Fs17 (inl_ok (a := 33) rfl))
  have ws18_22 : iI s18 22 = iI s17 22 := eqI hs18 rfl
  have ws18_23 : iI s18 23 = iI s17 23 := eqI hs18 rfl
  have fs18 : Fm [] [33] s17 s18 := by rw [hs18]; exact fm_C (fm_rf _ _ _) (show 33 ∈ _ by decide)
  refine z_aload_n X (x := A 31) rfl (List.Mem.head _) (s_getR X 31 rfl (c518_ok rfl) rfl rfl (z_const X rfl (z_load X (x := x7) rfl (List.Mem.tail _ (List.Mem.tail _ (List.Mem.tail _ (List.Mem.tail _ (List.Mem.tail _ (List.Mem.tail _ (List.Mem.head _))))))) (z_ast X 39 rfl (c518_ok rfl) rfl (by decide) (show 3 < 7 by decide) (cbig_ok rfl) (wd_gen (fun s19 hs19 => ?_))))))
  have Is19 : Bd s19 := eqB hs19 (bd_C Is18 (show ((-2147483648) : Int) ≤ x7 ∧ x7 ≤ 2147483647 by first | exact ⟨hs3.2.2.2.1.1, hs3.2.2.2.1.2⟩ | omega) ⟨by first | exact hs3.2.2.2.1.1 | omega, by first | exact hs3.2.2.2.1.2 | omega⟩)
  have Fs19 := eqF hs19 (fm_C Fs18 (inl_ok (a := 33) rfl))
  have ws19_22 : iI s19 22 = iI s18 22 := eqI hs19 rfl
  have ws19_23 : iI s19 23 = iI s18 23 := eqI hs19 rfl
  have fs19 : Fm [] [33] s18 s19 := by rw [hs19]; exact fm_C (fm_rf _ _ _) (show 33 ∈ _ by decide)
  exact w_vret X.1 q hRt (ax_d X (show cdA 3 228 = some (.return_, 1, 0, 0, 0) from rfl)) (Nat.zero_le _) (Nat.zero_le _) ⟨_, rfl, Is19, Fs19, rfl, (hrd_of Qs3.1 (by first | exact hs3.2.2.2.2.1 | omega) Qs11.1 (by first | exact hs11.2 | omega) Qs11.2 (by first | exact And.intro (hs3.2.1.1) (hs3.2.1.2) | omega) (by first | exact And.intro (hs11.1.1) (hs11.1.2) | omega) (by first | exact And.intro (hs3.2.2.1.1) (hs3.2.2.1.2) | omega) (by first | exact And.intro (hs3.2.2.2.1.1) (hs3.2.2.2.1.2) | omega) hs16 hs17 hs18 hs19)⟩
end M87n
