theorem oq_c4e726c7 {a0 a1 : Int} (h0 : a0 = a1) (h1 : a1 ≤ 23) : (a0 + 1) ≤ 24 := by omega
theorem oq_63f8c182 {a0 : Int} (h0 : a0 ≠ (-1)) (h1 : a0 ≤ 127) (h2 : (-1) ≤ a0) : (0 ≤ a0 ∧ a0 ≤ 127) := by omega
theorem oq_cff692f0 {a0 a1 : Int} (h0 : a0 < a1) (h1 : a1 ≤ 7) : (a0 + 1) ≤ 7 := by omega
theorem oq_20b7067c {a0 a1 : Int} (h0 : a0 < a1) (h1 : a1 ≤ 7) : 0 < (7 - a0) := by omega
theorem oq_4407eb3c {a0 a1 a2 a3 a4 a5 : Int} (h0 : a0 = a1) (h1 : a2 = a3) (h2 : a1 = a4) (h3 : a3 = a5) (h4 : a5 ≤ a4) : a2 ≤ a0 := by omega
theorem oq_f0661bc9 {a0 : Int} (h0 : a0 ≤ 100) : a0 ≤ 2147483647 := by omega
theorem oq_16ea9949 {a0 : Int} (h0 : a0 < 100) : (a0 + 1) ≤ 100 := by omega
theorem oq_ed5c4e18 {a0 : Int} (h0 : a0 < 100) : 0 < (100 - a0) := by omega
theorem oq_b2d5d781 {a0 : Int} (h0 : a0 ≤ 14) : a0 ≤ 2147483647 := by omega
theorem oq_5903f419 {a0 a1 : Int} (h0 : 0 ≤ a0) (h1 : 0 ≤ a1) : 0 ≤ (((a0 * 7) * 2) + a1) := by omega
theorem oq_7e6b1f23 {a0 a1 : Int} (h0 : a0 ≤ 11) (h1 : a1 < 14) : (((a0 * 7) * 2) + a1) < 168 := by omega
theorem oq_99721bc4 {a0 : Int} (h0 : a0 < 14) : (a0 + 1) ≤ 14 := by omega
theorem oq_bddbca7a {a0 : Int} (h0 : a0 < 14) : 0 < (14 - a0) := by omega
theorem oq_59a253bd {a0 a1 : Int} (h0 : 0 ≤ a0) (h1 : 0 ≤ a1) : 0 ≤ ((a0 * 5) + a1) := by omega
theorem oq_7279bf48 {a0 a1 : Int} (h0 : a0 ≤ 11) (h1 : a1 < 5) : ((a0 * 5) + a1) < 60 := by omega
theorem oq_c2445583 {a0 : Int} (h0 : a0 < 5) : (a0 + 1) ≤ 5 := by omega
theorem oq_33241a94 {a0 : Int} (h0 : a0 < 5) : 0 < (5 - a0) := by omega
theorem oq_cfc6ac54 {a0 : Int} (h0 : 0 ≤ a0) : 0 ≤ (a0 * 2) := by omega
theorem oq_36c3846a {a0 : Int} (h0 : a0 ≤ 11) : (a0 * 2) < 24 := by omega
theorem oq_8a3e0277 {a0 : Int} (h0 : 0 ≤ a0) : 0 ≤ ((a0 * 2) + 1) := by omega
theorem oq_ad30b59c {a0 : Int} (h0 : a0 ≤ 11) : ((a0 * 2) + 1) < 24 := by omega
theorem oq_87ebc822 {a0 a1 a2 : Int} (h0 : a0 < 4) (h1 : a1 ≤ 127) (h2 : a2 ≤ 11) : ((a2 * 5) + (((a0 / 2) * 2) + (a1 / 64))) < 60 := by omega
theorem oq_733cd31a {a0 : Int} (h0 : 0 ≤ a0) : 0 ≤ ((a0 * 5) + 4) := by omega
theorem oq_23e13238 {a0 : Int} (h0 : a0 ≤ 11) : ((a0 * 5) + 4) < 60 := by omega
theorem oq_de70c7d8 {a0 a1 a2 : Int} (h0 : (a0 + a1) ≤ 24) (h1 : a2 < a1) : (a0 + a2) < 24 := by omega
theorem oq_ff24e3f1 {a0 a1 a2 : Int} (h0 : (a0 + a1) ≤ 24) (h1 : a2 < a1) : ((a0 + a2) : Int).toNat < 24 := by omega
theorem oq_c0bd8137 {a0 a1 : Int} (h0 : 0 ≤ a0) (h1 : 0 ≤ a1) : 0 ≤ ((a1 * 2) + (a0 / 64)) := by omega
theorem oq_c80b6473 {a0 a1 : Int} (h0 : a0 ≤ 127) (h1 : a1 ≤ 11) : ((a1 * 2) + (a0 / 64)) < 24 := by omega
theorem oq_ea32c91a {a0 a1 a2 : Int} (h0 : 0 ≤ a0) (h1 : 0 ≤ a1) (h2 : 0 ≤ a2) : 0 ≤ ((((a2 * 7) + a1) * 2) + (a0 / 64)) := by omega
theorem oq_5da8d824 {a0 a1 a2 : Int} (h0 : a0 ≤ 127) (h1 : a1 ≤ 6) (h2 : a2 ≤ 11) : ((((a2 * 7) + a1) * 2) + (a0 / 64)) < 168 := by omega
theorem oq_21f9cd09 {a0 a1 : Int} (h0 : 0 ≤ a0) (h1 : 0 ≤ a1) : 0 ≤ ((a0 + a1) + 1) := by omega
theorem oq_c07d830a {a0 a1 a2 : Int} (h0 : (a0 + a1) ≤ 24) (h1 : (a2 + 1) < a1) : ((a0 + a2) + 1) < 24 := by omega
theorem oq_136cae15 {a0 a1 a2 : Int} (h0 : (a0 + a1) ≤ 24) (h1 : (a2 + 1) < a1) : (((a0 + a2) + 1) : Int).toNat < 24 := by omega
theorem oq_03ccc143 {a0 a1 a2 : Int} (h0 : ((a0 = a1 ∧ a1 ≤ a2) ∨ (a0 = a2 ∧ a2 < a1))) (h1 : 0 ≤ a2) (h2 : 0 ≤ a1) : 0 ≤ a0 := by omega
theorem oq_9c77db17 {a0 a1 a2 : Int} (h0 : ((a0 = a1 ∧ a1 ≤ a2) ∨ (a0 = a2 ∧ a2 < a1))) (h1 : a1 ≤ 127) : a0 ≤ 127 := by omega
theorem oq_f0013a75 {a0 a1 a2 : Int} (h0 : 0 ≤ a0) (h1 : 0 ≤ a1) (h2 : 0 ≤ a2) : 0 ≤ ((((a2 * 7) + a0) * 2) + (a1 / 64)) := by omega
theorem oq_2f745b71 {a0 a1 a2 : Int} (h0 : a0 ≤ 5) (h1 : a1 ≤ 127) (h2 : a2 ≤ 11) : ((((a2 * 7) + a0) * 2) + (a1 / 64)) < 168 := by omega
theorem oq_bbeecdc2 {a0 a1 : Int} (h0 : (a0 + 1) < a1) (h1 : a1 ≤ 24) : (a0 + 1) ≤ 24 := by omega
theorem oq_261750be {a0 a1 : Int} (h0 : (a0 + 1) < a1) (h1 : a1 ≤ 24) : 0 < (24 - a0) := by omega
theorem oq_952f4f1b {a0 a1 a2 : Int} (h0 : 0 ≤ a0) (h1 : 0 ≤ a1) (h2 : 0 ≤ a2) : 0 ≤ ((((a0 * 7) + a1) * 2) + a2) := by omega
theorem oq_46bcb755 {a0 a1 a2 : Int} (h0 : a0 ≤ 11) (h1 : a1 ≤ 1) (h2 : a2 < 7) : ((((a0 * 7) + a2) * 2) + a1) < 168 := by omega
theorem oq_ff754f74 {a0 a1 : Int} (h0 : 0 ≤ a0) (h1 : 0 ≤ a1) : 0 ≤ ((a0 * 2) + a1) := by omega
theorem oq_7b14761e {a0 a1 : Int} (h0 : a0 ≤ 11) (h1 : a1 ≤ 1) : ((a0 * 2) + a1) < 24 := by omega
theorem oq_0f03f1de {a0 a1 : Int} (h0 : 0 ≤ a0) (h1 : 0 ≤ a1) : 0 ≤ ((a0 * 12) + a1) := by omega
theorem oq_46995298 {a0 a1 a2 : Int} (h0 : a0 ≤ 11) (h1 : a1 < a2) (h2 : a2 ≤ 12) : ((a0 * 12) + a1) ≤ 143 := by omega
theorem oq_19cf0865 {a0 a1 : Int} (h0 : 0 ≤ a0) (h1 : 0 ≤ a1) : (-2147483648) ≤ ((a0 * 12) + a1) := by omega
theorem oq_b7b88ba9 {a0 a1 : Int} (h0 : a0 ≤ 11) (h1 : a1 ≤ 12) : ((a0 * 12) + a1) ≤ 2147483647 := by omega
theorem oq_0ba3fcc8 {a0 a1 : Int} (h0 : a0 = a1) (h1 : a1 < 66) : (a0 * 2) < 132 := by omega
theorem oq_1191648c {a0 a1 a2 : Int} (h0 : a0 = a1) (h1 : a1 = a2) (h2 : a2 < 66) : ((a0 * 2) + 1) < 132 := by omega
theorem oq_98f08201 {a0 a1 a2 a3 : Int} (h0 : a0 = a1) (h1 : a1 = a2) (h2 : a2 = a3) (h3 : a3 < 66) : (a0 + 1) ≤ 66 := by omega
theorem oq_d99c2177 {a0 : Int} (h0 : a0 ≤ 66) : (a0 + 1) ≤ 2147483647 := by omega
theorem oq_f2e7d959 {a0 a1 a2 : Int} (h0 : (a0 + a1) ≤ 288) (h1 : a2 < a1) : (a0 + a2) < 288 := by omega
theorem oq_9482db17 {a0 a1 a2 : Int} (h0 : (a0 + a1) ≤ 288) (h1 : a2 < a1) : ((a0 + a2) : Int).toNat < 288 := by omega
theorem oq_cc679ab7 {a0 a1 a2 : Int} (h0 : (a0 + a1) ≤ 288) (h1 : (a2 + 1) < a1) : ((a0 + a2) + 1) < 288 := by omega
theorem oq_11b18baf {a0 a1 a2 : Int} (h0 : (a0 + a1) ≤ 288) (h1 : (a2 + 1) < a1) : (((a0 + a2) + 1) : Int).toNat < 288 := by omega
theorem oq_a1a2e1c8 {a0 : Int} (h0 : a0 < 12) : a0 ≤ 11 := by omega
theorem oq_4854286b {a0 : Int} (h0 : a0 ≤ 24) : (0 + a0) ≤ 24 := by omega
theorem oq_3bc6d8e6 {a0 a1 : Int} (h0 : a0 = a1) (h1 : a1 < 12) : (a0 + 1) ≤ 12 := by omega
theorem oq_64f2e926 {a0 : Int} (h0 : a0 ≤ 66) : a0 ≤ 2147483647 := by omega
theorem oq_9ab75a0e {a0 a1 a2 : Int} (h0 : a0 ≤ 1) (h1 : a1 < a2) (h2 : a2 ≤ 66) : ((a1 * 2) + a0) < 132 := by omega
theorem oq_319a18a4 {a0 a1 : Int} (h0 : a0 < a1) (h1 : a1 ≤ 66) : (a0 + 1) ≤ 66 := by omega
theorem oq_dd0e9829 {a0 a1 : Int} (h0 : a0 < a1) (h1 : a1 ≤ 66) : 0 < (66 - a0) := by omega
theorem oq_2f662a89 {a0 a1 a2 a3 : Int} (h0 : ((a0 < 0 ∧ a1 = (-1)) ∨ ((0 ≤ a0 ∧ ((0 ≤ a2 ∧ a2 ≤ 24) ∧ (a2 ≤ a0 ∧ a1 = (-1)))) ∨ (0 ≤ a0 ∧ ((0 ≤ a2 ∧ a2 ≤ 24) ∧ (a0 < a2 ∧ ((0 ≤ a3 ∧ a3 ≤ 127) ∧ a1 = a3))))))) : (-2147483648) ≤ a1 := by omega
theorem oq_e7a50a6f {a0 a1 a2 a3 : Int} (h0 : ((a0 < 0 ∧ a1 = (-1)) ∨ ((0 ≤ a0 ∧ ((0 ≤ a2 ∧ a2 ≤ 24) ∧ (a2 ≤ a0 ∧ a1 = (-1)))) ∨ (0 ≤ a0 ∧ ((0 ≤ a2 ∧ a2 ≤ 24) ∧ (a0 < a2 ∧ ((0 ≤ a3 ∧ a3 ≤ 127) ∧ a1 = a3))))))) : a1 ≤ 2147483647 := by omega
theorem oq_c5daf206 {a0 a1 a2 a3 : Int} (h0 : ((a0 < 0 ∧ a1 = (-1)) ∨ ((0 ≤ a0 ∧ ((0 ≤ a2 ∧ a2 ≤ 24) ∧ (a2 ≤ a0 ∧ a1 = (-1)))) ∨ (0 ≤ a0 ∧ ((0 ≤ a2 ∧ a2 ≤ 24) ∧ (a0 < a2 ∧ ((0 ≤ a3 ∧ a3 ≤ 127) ∧ a1 = a3))))))) : (-1) ≤ a1 := by omega
theorem oq_1c80a01a {a0 a1 a2 a3 : Int} (h0 : ((a0 < 0 ∧ a1 = (-1)) ∨ ((0 ≤ a0 ∧ ((0 ≤ a2 ∧ a2 ≤ 24) ∧ (a2 ≤ a0 ∧ a1 = (-1)))) ∨ (0 ≤ a0 ∧ ((0 ≤ a2 ∧ a2 ≤ 24) ∧ (a0 < a2 ∧ ((0 ≤ a3 ∧ a3 ≤ 127) ∧ a1 = a3))))))) : a1 ≤ 127 := by omega
theorem oq_4071a75f {a0 a1 : Int} (h0 : 0 ≤ a0) (h1 : 0 ≤ a1) : 0 ≤ ((a0 * 24) + a1) := by omega
theorem oq_54efb6a2 {a0 a1 a2 : Int} (h0 : a0 ≤ 11) (h1 : a1 < a2) (h2 : a2 ≤ 24) : ((a0 * 24) + a1) < 288 := by omega
theorem oq_2f719579 {a0 a1 a2 : Int} (h0 : a0 ≤ 11) (h1 : a1 < a2) (h2 : a2 ≤ 24) : (((a0 * 24) + a1) : Int).toNat < 288 := by omega
theorem oq_68756d7a {a0 : Int} (h0 : (-30) ≤ a0) : (-2147483648) ≤ a0 := by omega
theorem oq_df38adfb {a0 a1 a2 : Int} (h0 : a0 ≤ 11) (h1 : a1 ≤ a2) (h2 : a2 ≤ 23) : ((a0 * 24) + a1) < 288 := by omega
theorem oq_bba4069f {a0 a1 a2 : Int} (h0 : a0 ≤ 11) (h1 : a1 ≤ a2) (h2 : a2 ≤ 23) : (((a0 * 24) + a1) : Int).toNat < 288 := by omega
theorem oq_a302a59b {a0 a1 a2 : Int} (h0 : ((a0 = a1 ∧ a2 ≤ a1) ∨ (a0 = a2 ∧ a1 < a2))) (h1 : a2 ≤ 50) (h2 : a1 ≤ 50) (h3 : 0 ≤ a1) : (0 ≤ a0 ∧ a0 ≤ 50) := by omega
theorem oq_daade761 {a0 a1 : Int} (h0 : 0 ≤ a0) (h1 : a1 ≤ 2) : (-2147483648) ≤ (a0 - a1) := by omega
theorem oq_941e6dcc {a0 a1 : Int} (h0 : a0 ≤ 23) (h1 : 0 ≤ a1) : (a0 - a1) ≤ 2147483647 := by omega
theorem oq_15ca313a {a0 a1 a2 : Int} (h0 : ((a0 = 23 ∧ 23 ≤ (a1 + a2)) ∨ (a0 = (a1 + a2) ∧ (a1 + a2) < 23))) (h1 : 0 ≤ a2) (h2 : 0 ≤ a1) : ((-30) ≤ a0 ∧ a0 ≤ 23) := by omega
theorem oq_b74587d4 {a0 a1 a2 : Int} (h0 : ((a0 = 0 ∧ (a1 - a2) ≤ 0) ∨ (a0 = (a1 - a2) ∧ 0 < (a1 - a2)))) : 0 ≤ a0 := by omega
theorem oq_f627406d {a0 a1 a2 : Int} (h0 : ((a0 = 0 ∧ (a1 - a2) ≤ 0) ∨ (a0 = (a1 - a2) ∧ 0 < (a1 - a2)))) (h1 : 0 ≤ a2) (h2 : a1 ≤ 23) : a0 ≤ 24 := by omega
theorem oq_45988efc {a0 a1 a2 : Int} (h0 : a0 ≤ 23) (h1 : a1 < a2) (h2 : a2 ≤ 12) : ((a0 * 12) + a1) < 288 := by omega
theorem oq_8395bb7c {a0 a1 a2 : Int} (h0 : a0 ≤ 23) (h1 : a1 < a2) (h2 : a2 ≤ 12) : (((a0 * 12) + a1) : Int).toNat < 288 := by omega
theorem oq_1d1618ee {a0 a1 : Int} (h0 : 0 ≤ a0) (h1 : 0 ≤ a1) : 0 ≤ ((a1 * 12) + a0) := by omega
theorem oq_86e8e22d {a0 a1 : Int} (h0 : a0 ≤ 11) (h1 : a1 < 24) : ((a0 * 24) + a1) < 288 := by omega
theorem oq_7d86e3d4 {a0 a1 : Int} (h0 : a0 ≤ 11) (h1 : a1 < 24) : (((a0 * 24) + a1) : Int).toNat < 288 := by omega
theorem oq_46831602 {a0 a1 : Int} (h0 : 0 ≤ a0) (h1 : 0 ≤ a1) : (-2147483648) ≤ (a1 + a0) := by omega
theorem oq_9e0d5d26 {a0 a1 : Int} (h0 : a0 ≤ 50) (h1 : a1 ≤ 1200) : (a1 + a0) ≤ 2147483647 := by omega
theorem oq_b519fb4a {a0 a1 a2 a3 a4 a5 : Int} (h0 : a0 = a1) (h1 : a1 = a2) (h2 : a2 = a3) (h3 : a4 ≤ 50) (h4 : a5 < 24) (h5 : a3 ≤ (50 * a5)) : (a0 + a4) ≤ 1200 := by omega
theorem oq_b1573aec {a0 a1 a2 a3 a4 a5 a6 : Int} (h0 : a0 = (a1 + a2)) (h1 : a1 = a3) (h2 : a3 = a4) (h3 : a4 = a5) (h4 : a2 ≤ 50) (h5 : a5 ≤ (50 * a6)) : a0 ≤ (50 * (a6 + 1)) := by omega
theorem oq_b7d23363 {a0 a1 : Int} (h0 : a0 = a1) (h1 : a1 = 0) : a0 ≤ (50 * 0) := by omega
theorem oq_d4917756 {a0 : Int} (h0 : a0 = 0) : a0 ≤ (50 * 0) := by omega
theorem oq_2fca5ea6 {a0 : Int} (h0 : a0 ≤ 23) : a0 ≤ 24 := by omega
theorem oq_1c973021 {a0 a1 a2 : Int} (h0 : 0 ≤ a0) (h1 : a1 ≤ a2) (h2 : 0 ≤ a1) : 0 ≤ ((a0 * 24) + a2) := by omega
theorem oq_403249cf {a0 a1 : Int} (h0 : a0 ≤ a1) (h1 : a1 ≤ 24) : a0 ≤ 2147483647 := by omega
theorem oq_1253191b {a0 a1 a2 a3 a4 : Int} (h0 : ((a0 = a1 ∧ a1 ≤ a2) ∨ (a0 = a2 ∧ a2 < a1))) (h1 : 0 < a2) (h2 : a3 < a4) (h3 : a4 ≤ 24) (h4 : a2 ≤ a3) (h5 : a1 ≤ 24) (h6 : 0 ≤ a1) : (0 ≤ a0 ∧ a0 ≤ 24) := by omega
theorem oq_1b58957a {a0 a1 : Int} (h0 : a0 ≤ a1) (h1 : 0 < a0) : 0 ≤ (a1 + 1) := by omega
theorem oq_86d733fe {a0 a1 a2 : Int} (h0 : ((a0 = a1 ∧ a1 ≤ a2) ∨ (a0 = a2 ∧ a2 < a1))) (h1 : 0 < a2) (h2 : 0 ≤ a1) : (-2147483648) ≤ a0 := by omega
theorem oq_28aa47c9 {a0 a1 a2 : Int} (h0 : ((a0 = a1 ∧ a1 ≤ a2) ∨ (a0 = a2 ∧ a2 < a1))) (h1 : a1 ≤ 24) : a0 ≤ 2147483647 := by omega
theorem oq_d21c86c8 {a0 a1 a2 : Int} (h0 : ((a0 = a1 ∧ a1 ≤ a2) ∨ (a0 = a2 ∧ a2 < a1))) (h1 : 0 < a2) (h2 : 0 ≤ a1) : 0 ≤ a0 := by omega
theorem oq_6d24c36f {a0 a1 a2 : Int} (h0 : ((a0 = a1 ∧ a1 ≤ a2) ∨ (a0 = a2 ∧ a2 < a1))) (h1 : a1 ≤ 24) : a0 ≤ 24 := by omega
/-! The class: streams -/
section M72
variable {l : Launch} {s0 : State} {D : va_G} {tys : List (ClassId × FieldType)} {a0 : Array Value} {A : Nat → Nat} {dT : Nat → ClassId} {s : PS}
set_option maxRecDepth 4000 in
theorem c9_wipe_68 (G : GX l s0 D tys a0 dT) (I : Bd s) {x : Int} (p0 : 0 ≤ x ∧ x ≤ 11) : CT l s0 D A dT 108 (rmN 108) [.ref (A 68), .int (Int32.ofInt x)] s (fun o t => Bd t ∧ Fm [] [1059, 1060, 1061] s t ∧ o = .inl none ∧ (True)) := by
  refine ct_ofX G (by decide) (Nat.le_of_ble_eq_true rfl) (fun k X E ET hRt hXt q => ?_)
  show WS k 0 [(0, .ref (A 68)), (1, .int (Int32.ofInt x))] [] _ 0 0
  have F : Fm [] [1059, 1060, 1061] s s := fm_rf _ _ s
  have L22 : ∀ (n : Nat) (t : PS) (xv c : Int), Bd t → Fm [] [1059, 1060, 1061] s t → ((0 ≤ xv ∧ xv ≤ 11) ∧ 0 ≤ c ∧ c ≤ 14) → (14 - c : Int).toNat < n → (∀ (t' : PS) (c' : Int), Bd t' → Fm [] [1059, 1060, 1061] s t' → ((0 ≤ xv ∧ xv ≤ 11) ∧ 0 ≤ c' ∧ c' ≤ 14) → WS k 48 [(0, .ref (A 68)), (1, .int (Int32.ofInt xv)), (2, .int (Int32.ofInt c'))] [] (Wd A dT t') 0 0) → WS k 22 [(0, .ref (A 68)), (1, .int (Int32.ofInt xv)), (2, .int (Int32.ofInt c))] [] (Wd A dT t) 0 0 := by
    intro n
    induction n with
    | zero =>
      intro t xv c I F hi hm kx
      exact absurd hm (Nat.not_lt_zero _)
    | succ n ih =>
      intro t xv c I F hi hm kx
      refine z_load_n X (x := c) rfl (List.Mem.tail _ (List.Mem.tail _ (List.Mem.head _))) (z_bipush X rfl (z_icmp_ge X (t := 48) rfl rfl ⟨by first | exact oq_fa4e5087 hi.2.1 | omega, by first | exact oq_b2d5d781 hi.2.2 | omega⟩ (by decide) (fun g1001 => ?_) (fun g1001 => ?_)))
      ·
        refine WS_pq [0, 1, 2] (lv' := [(0, .ref (A 68)), (1, .int (Int32.ofInt xv)), (2, .int (Int32.ofInt c))]) rfl ?_
        exact kx _ c I F (by first | exact ⟨And.intro (hi.1.1) (hi.1.2), hi.2.1, hi.2.2⟩ | omega)
      ·
        refine z_aload_n X (x := A 68) rfl (List.Mem.head _) (s_getR X 68 rfl (c518_ok rfl) rfl rfl (z_load_n X (x := xv) rfl (List.Mem.tail _ (List.Mem.head _)) (z_bipush X rfl (z_mul X rfl (z_const X rfl (z_mul X rfl (z_load_n X (x := c) rfl (List.Mem.tail _ (List.Mem.tail _ (List.Mem.head _))) (z_add X rfl (w_lconst X.1 (ax_d X (show cdA 108 40 = some (.lconst 0, 1, 0, 0, 0) from rfl)) rfl (z_anyJ (fun j1002 => ?_)))))))))))
        refine z_last X 72 rfl (c518_ok rfl) rfl (by first | exact oq_5903f419 hi.1.1 hi.2.1 | omega) (show (((xv * 7) * 2) + c) < 168 by first | exact oq_7e6b1f23 hi.1.2 g1001 | omega) (cbig_ok rfl) (wd_gen (fun s1003 hs1003 => ?_))
        have Is1003 : Bd s1003 := eqB hs1003 (bd_D I)
        have Fs1003 : Fm [] [1059, 1060, 1061] s s1003 := by rw [hs1003]; exact fm_D F (show 60 + 1000 ∈ _ by decide)
        refine z_inc X (x := c) (lv' := [(2, .int (Int32.ofInt (c + 1))), (0, .ref (A 68)), (1, .int (Int32.ofInt xv))]) rfl (by decide) (List.Mem.tail _ (List.Mem.tail _ (List.Mem.head _))) (fun _ h => h) (z_goto X (t := 22) rfl rfl (WS_pq [1, 2, 0] (lv' := [(0, .ref (A 68)), (1, .int (Int32.ofInt xv)), (2, .int (Int32.ofInt (c + 1)))]) rfl ?_))
        exact ih _ xv (c + 1) Is1003 Fs1003 (by first | exact ⟨And.intro (hi.1.1) (hi.1.2), oq_54f49eb5 hi.2.1, oq_99721bc4 g1001⟩ | omega) (by first | exact qk_me hm (by decide) (oq_bddbca7a g1001) | omega) kx
  have L50 : ∀ (n : Nat) (t : PS) (xv c : Int), Bd t → Fm [] [1059, 1060, 1061] s t → ((0 ≤ xv ∧ xv ≤ 11) ∧ 0 ≤ c ∧ c ≤ 5) → (5 - c : Int).toNat < n → (∀ (t' : PS) (c' : Int), Bd t' → Fm [] [1059, 1060, 1061] s t' → ((0 ≤ xv ∧ xv ≤ 11) ∧ 0 ≤ c' ∧ c' ≤ 5) → WS k 72 [(0, .ref (A 68)), (1, .int (Int32.ofInt xv)), (2, .int (Int32.ofInt c'))] [] (Wd A dT t') 0 0) → WS k 50 [(0, .ref (A 68)), (1, .int (Int32.ofInt xv)), (2, .int (Int32.ofInt c))] [] (Wd A dT t) 0 0 := by
    intro n
    induction n with
    | zero =>
      intro t xv c I F hi hm kx
      exact absurd hm (Nat.not_lt_zero _)
    | succ n ih =>
      intro t xv c I F hi hm kx
      refine z_load_n X (x := c) rfl (List.Mem.tail _ (List.Mem.tail _ (List.Mem.head _))) (z_const X rfl (z_icmp_ge X (t := 72) rfl rfl ⟨by first | exact oq_fa4e5087 hi.2.1 | omega, by first | exact oq_a3dd55e5 hi.2.2 | omega⟩ (by decide) (fun g2001 => ?_) (fun g2001 => ?_)))
      ·
        refine WS_pq [0, 1, 2] (lv' := [(0, .ref (A 68)), (1, .int (Int32.ofInt xv)), (2, .int (Int32.ofInt c))]) rfl ?_
        exact kx _ c I F (by first | exact ⟨And.intro (hi.1.1) (hi.1.2), hi.2.1, hi.2.2⟩ | omega)
      ·
        refine z_aload_n X (x := A 68) rfl (List.Mem.head _) (s_getR X 68 rfl (c518_ok rfl) rfl rfl (z_load_n X (x := xv) rfl (List.Mem.tail _ (List.Mem.head _)) (z_const X rfl (z_mul X rfl (z_load_n X (x := c) rfl (List.Mem.tail _ (List.Mem.tail _ (List.Mem.head _))) (z_add X rfl (w_lconst X.1 (ax_d X (show cdA 108 64 = some (.lconst 0, 1, 0, 0, 0) from rfl)) rfl (z_anyJ (fun j2002 => ?_)))))))))
        refine z_last X 73 rfl (c518_ok rfl) rfl (by first | exact oq_59a253bd hi.1.1 hi.2.1 | omega) (show ((xv * 5) + c) < 60 by first | exact oq_7279bf48 hi.1.2 g2001 | omega) (cbig_ok rfl) (wd_gen (fun s2003 hs2003 => ?_))
        have Is2003 : Bd s2003 := eqB hs2003 (bd_D I)
        have Fs2003 : Fm [] [1059, 1060, 1061] s s2003 := by rw [hs2003]; exact fm_D F (show 61 + 1000 ∈ _ by decide)
        refine z_inc X (x := c) (lv' := [(2, .int (Int32.ofInt (c + 1))), (0, .ref (A 68)), (1, .int (Int32.ofInt xv))]) rfl (by decide) (List.Mem.tail _ (List.Mem.tail _ (List.Mem.head _))) (fun _ h => h) (z_goto X (t := 50) rfl rfl (WS_pq [1, 2, 0] (lv' := [(0, .ref (A 68)), (1, .int (Int32.ofInt xv)), (2, .int (Int32.ofInt (c + 1)))]) rfl ?_))
        exact ih _ xv (c + 1) Is2003 Fs2003 (by first | exact ⟨And.intro (hi.1.1) (hi.1.2), oq_54f49eb5 hi.2.1, oq_c2445583 g2001⟩ | omega) (by first | exact qk_me hm (by decide) (oq_33241a94 g2001) | omega) kx
  refine z_aload_n X (x := A 68) rfl (List.Mem.head _) (s_getR X 68 rfl (c518_ok rfl) rfl rfl (z_load_n X (x := x) rfl (List.Mem.tail _ (List.Mem.head _)) (z_const X rfl (z_mul X rfl (w_lconst X.1 (ax_d X (show cdA 108 7 = some (.lconst 0, 1, 0, 0, 0) from rfl)) rfl (z_anyJ (fun j1 => ?_)))))))
  refine z_last X 71 rfl (c518_ok rfl) rfl (by first | exact oq_cfc6ac54 p0.1 | omega) (show (x * 2) < 24 by first | exact oq_36c3846a p0.2 | omega) (cbig_ok rfl) (wd_gen (fun s2 hs2 => ?_))
  have Is2 : Bd s2 := eqB hs2 (bd_D I)
  have Fs2 : Fm [] [1059, 1060, 1061] s s2 := by rw [hs2]; exact fm_D F (show 59 + 1000 ∈ _ by decide)
  refine z_aload_n X (x := A 68) rfl (List.Mem.head _) (s_getR X 68 rfl (c518_ok rfl) rfl rfl (z_load_n X (x := x) rfl (List.Mem.tail _ (List.Mem.head _)) (z_const X rfl (z_mul X rfl (z_const X rfl (z_add X rfl (w_lconst X.1 (ax_d X (show cdA 108 18 = some (.lconst 0, 1, 0, 0, 0) from rfl)) rfl (z_anyJ (fun j3 => ?_)))))))))
  refine z_last X 71 rfl (c518_ok rfl) rfl (by first | exact oq_8a3e0277 p0.1 | omega) (show ((x * 2) + 1) < 24 by first | exact oq_ad30b59c p0.2 | omega) (cbig_ok rfl) (wd_gen (fun s4 hs4 => ?_))
  have Is4 : Bd s4 := eqB hs4 (bd_D Is2)
  have Fs4 : Fm [] [1059, 1060, 1061] s s4 := by rw [hs4]; exact fm_D Fs2 (show 59 + 1000 ∈ _ by decide)
  refine z_const X rfl (z_store_n X (lv' := [(2, .int (Int32.ofInt 0)), (0, .ref (A 68)), (1, .int (Int32.ofInt x))]) rfl (by decide) (fun _ h => h) (WS_pq [1, 2, 0] (lv' := [(0, .ref (A 68)), (1, .int (Int32.ofInt x)), (2, .int (Int32.ofInt 0))]) rfl (L22 ((14 - 0 : Int).toNat + 1) s4 x 0 Is4 Fs4 (by first | exact ⟨And.intro (p0.1) (p0.2), by decide, by decide⟩ | omega) (Nat.lt_succ_self _) ?_)))
  intro s5 x6 Is5 Fs5 hs5
  refine z_const X rfl (z_store_n X (lv' := [(2, .int (Int32.ofInt 0)), (0, .ref (A 68)), (1, .int (Int32.ofInt x))]) rfl (by decide) (fun _ h => h) (WS_pq [1, 2, 0] (lv' := [(0, .ref (A 68)), (1, .int (Int32.ofInt x)), (2, .int (Int32.ofInt 0))]) rfl (L50 ((5 - 0 : Int).toNat + 1) s5 x 0 Is5 Fs5 (by first | exact ⟨And.intro (hs5.1.1) (hs5.1.2), by decide, by decide⟩ | omega) (Nat.lt_succ_self _) ?_)))
  intro s7 x8 Is7 Fs7 hs7
  exact w_vret X.1 q hRt (ax_d X (show cdA 108 72 = some (.return_, 1, 0, 0, 0) from rfl)) (Nat.zero_le _) (Nat.zero_le _) ⟨_, rfl, Is7, Fs7, rfl, trivial⟩
set_option maxRecDepth 4000 in
theorem c9_setStep_68 (G : GX l s0 D tys a0 dT) (I : Bd s) {x y z : Int} (p0 : 0 ≤ x ∧ x ≤ 11) (p1 : 0 ≤ y ∧ y ≤ 127) (p2 : 0 ≤ z ∧ z ≤ 5) : CT l s0 D A dT 109 (rmN 109) [.ref (A 68), .int (Int32.ofInt x), .int (Int32.ofInt y), .int (Int32.ofInt z)] s (fun o t => Bd t ∧ Fm [] [1061] s t ∧ o = .inl none ∧ (True)) := by
  refine ct_ofX G (by decide) (Nat.le_of_ble_eq_true rfl) (fun k X E ET hRt hXt q => ?_)
  show WS k 0 [(0, .ref (A 68)), (1, .int (Int32.ofInt x)), (2, .int (Int32.ofInt y)), (3, .int (Int32.ofInt z))] [] _ 0 0
  have F : Fm [] [1061] s s := fm_rf _ _ s
  refine z_load_n X (x := z) rfl (List.Mem.tail _ (List.Mem.tail _ (List.Mem.tail _ (List.Mem.head _)))) (z_const X rfl (z_icmp_lt X (t := 9) rfl rfl ⟨by first | exact oq_fa4e5087 p2.1 | omega, by first | exact oq_a3dd55e5 p2.2 | omega⟩ (by decide) (fun g1 => ?_) (fun g1 => ?_)))
  ·
    refine z_load_n X (x := z) rfl (List.Mem.tail _ (List.Mem.tail _ (List.Mem.tail _ (List.Mem.head _)))) (z_const X rfl (z_quot X rfl (by first | exact p2.1 | omega) ⟨by first | exact oq_fa4e5087 p2.1 | omega, by first | exact oq_f46e1d28 g1 | omega⟩ (by decide) (by decide) (z_const X rfl (z_mul X rfl (z_load_n X (x := y) rfl (List.Mem.tail _ (List.Mem.tail _ (List.Mem.head _))) (z_bipush X rfl (z_quot X rfl (by first | exact p1.1 | omega) ⟨by first | exact oq_fa4e5087 p1.1 | omega, by first | exact oq_07d346ce p1.2 | omega⟩ (by decide) (by decide) (z_add X rfl (z_store X (lv' := [(4, .int (Int32.ofInt (((z / 2) * 2) + (y / 64)))), (0, .ref (A 68)), (1, .int (Int32.ofInt x)), (2, .int (Int32.ofInt y)), (3, .int (Int32.ofInt z))]) rfl (by decide) (fun _ h => h) (z_aload_n X (x := A 68) rfl (List.Mem.tail _ (List.Mem.head _)) (s_getR X 68 rfl (c518_ok rfl) rfl rfl ?_)))))))))))
    refine z_load_n X (x := x) rfl (List.Mem.tail _ (List.Mem.tail _ (List.Mem.head _))) (z_const X rfl (z_mul X rfl (z_load X (x := (((z / 2) * 2) + (y / 64))) rfl (List.Mem.head _) (z_add X rfl (w_dup2_11 X.1 (ax_d X (show cdA 109 31 = some (.dup2, 1, 0, 0, 0) from rfl)) rfl rfl (z_lald X 73 rfl (c518_ok rfl) rfl (by omega) (show ((x * 5) + (((z / 2) * 2) + (y / 64))) < 60 by first | exact oq_87ebc822 g1 p1.2 p0.2 | omega) (cbig_ok rfl) (fun j2 => ?_)))))))
    refine w_lconst X.1 (ax_d X (show cdA 109 33 = some (.lconst 1, 1, 0, 0, 0) from rfl)) rfl (z_anyJ (fun j3 => ?_))
    refine z_load_n X (x := y) rfl (List.Mem.tail _ (List.Mem.tail _ (List.Mem.tail _ (List.Mem.head _)))) (z_bipush X rfl (z_andm X rfl (by decide) (by decide) (fun y4 hy4 gy4 => ?_)))
    refine w_lshl X.1 (ax_d X (show cdA 109 38 = some (.lshl, 1, 0, 0, 0) from rfl)) (z_anyJ (fun j5 => ?_))
    refine w_lor X.1 (ax_d X (show cdA 109 39 = some (.lor, 1, 0, 0, 0) from rfl)) (z_anyJ (fun j6 => ?_))
    refine z_last X 73 rfl (c518_ok rfl) rfl (by omega) (show ((x * 5) + (((z / 2) * 2) + (y / 64))) < 60 by first | exact oq_87ebc822 g1 p1.2 p0.2 | omega) (cbig_ok rfl) (wd_gen (fun s7 hs7 => ?_))
    have Is7 : Bd s7 := eqB hs7 (bd_D I)
    have Fs7 : Fm [] [1061] s s7 := by rw [hs7]; exact fm_D F (show 61 + 1000 ∈ _ by decide)
    exact w_vret X.1 q hRt (ax_d X (show cdA 109 41 = some (.return_, 1, 0, 0, 0) from rfl)) (Nat.zero_le _) (Nat.zero_le _) ⟨_, rfl, Is7, Fs7, rfl, trivial⟩
  ·
    refine z_const X rfl (z_goto X (t := 19) rfl rfl (z_store X (lv' := [(4, .int (Int32.ofInt 4)), (0, .ref (A 68)), (1, .int (Int32.ofInt x)), (2, .int (Int32.ofInt y)), (3, .int (Int32.ofInt z))]) rfl (by decide) (fun _ h => h) (z_aload_n X (x := A 68) rfl (List.Mem.tail _ (List.Mem.head _)) (s_getR X 68 rfl (c518_ok rfl) rfl rfl (z_load_n X (x := x) rfl (List.Mem.tail _ (List.Mem.tail _ (List.Mem.head _))) (z_const X rfl (z_mul X rfl (z_load X (x := 4) rfl (List.Mem.head _) (z_add X rfl (w_dup2_11 X.1 (ax_d X (show cdA 109 31 = some (.dup2, 1, 0, 0, 0) from rfl)) rfl rfl (z_lald X 73 rfl (c518_ok rfl) rfl (by first | exact oq_733cd31a p0.1 | omega) (show ((x * 5) + 4) < 60 by first | exact oq_23e13238 p0.2 | omega) (cbig_ok rfl) (fun j8 => ?_))))))))))))
    refine w_lconst X.1 (ax_d X (show cdA 109 33 = some (.lconst 1, 1, 0, 0, 0) from rfl)) rfl (z_anyJ (fun j9 => ?_))
    refine z_load_n X (x := y) rfl (List.Mem.tail _ (List.Mem.tail _ (List.Mem.tail _ (List.Mem.head _)))) (z_bipush X rfl (z_andm X rfl (by decide) (by decide) (fun y10 hy10 gy10 => ?_)))
    refine w_lshl X.1 (ax_d X (show cdA 109 38 = some (.lshl, 1, 0, 0, 0) from rfl)) (z_anyJ (fun j11 => ?_))
    refine w_lor X.1 (ax_d X (show cdA 109 39 = some (.lor, 1, 0, 0, 0) from rfl)) (z_anyJ (fun j12 => ?_))
    refine z_last X 73 rfl (c518_ok rfl) rfl (by first | exact oq_733cd31a p0.1 | omega) (show ((x * 5) + 4) < 60 by first | exact oq_23e13238 p0.2 | omega) (cbig_ok rfl) (wd_gen (fun s13 hs13 => ?_))
    have Is13 : Bd s13 := eqB hs13 (bd_D I)
    have Fs13 : Fm [] [1061] s s13 := by rw [hs13]; exact fm_D F (show 61 + 1000 ∈ _ by decide)
    exact w_vret X.1 q hRt (ax_d X (show cdA 109 41 = some (.return_, 1, 0, 0, 0) from rfl)) (Nat.zero_le _) (Nat.zero_le _) ⟨_, rfl, Is13, Fs13, rfl, trivial⟩
set_option maxRecDepth 4000 in
theorem c9_setWay_68_4 (G : GX l s0 D tys a0 dT) (I : Bd s) {x z w : Int} (p0 : 0 ≤ x ∧ x ≤ 11) (p1 : 0 ≤ w ∧ w ≤ 24) (p2 : 0 ≤ z ∧ z + w ≤ 288) : CT l s0 D A dT 107 (rmN 107) [.ref (A 68), .int (Int32.ofInt x), .ref (A 4), .int (Int32.ofInt z), .int (Int32.ofInt w)] s (fun o t => Bd t ∧ Fm [] [57, 58, 1059, 1060, 1061] s t ∧ o = .inl none ∧ (True)) := by
  refine ct_ofX G (by decide) (Nat.le_of_ble_eq_true rfl) (fun k X E ET hRt hXt q => ?_)
  show WS k 0 [(0, .ref (A 68)), (1, .int (Int32.ofInt x)), (2, .ref (A 4)), (3, .int (Int32.ofInt z)), (4, .int (Int32.ofInt w))] [] _ 0 0
  have F : Fm [] [57, 58, 1059, 1060, 1061] s s := fm_rf _ _ s
  have L35 : ∀ (n : Nat) (t : PS) (xv zv wv go c : Int), Bd t → Fm [] [57, 58, 1059, 1060, 1061] s t → ((0 ≤ xv ∧ xv ≤ 11) ∧ (0 ≤ wv ∧ wv ≤ 24) ∧ (0 ≤ zv ∧ zv + wv ≤ 288) ∧ (0 ≤ go ∧ go ≤ 6) ∧ 0 ≤ c ∧ c ≤ 24) → (24 - c : Int).toNat < n → (∀ (t' : PS) (go' c' : Int), Bd t' → Fm [] [57, 58, 1059, 1060, 1061] s t' → ((0 ≤ xv ∧ xv ≤ 11) ∧ (0 ≤ wv ∧ wv ≤ 24) ∧ (0 ≤ zv ∧ zv + wv ≤ 288) ∧ (0 ≤ go' ∧ go' ≤ 6) ∧ 0 ≤ c' ∧ c' ≤ 24) → WS k 153 [(0, .ref (A 68)), (2, .ref (A 4)), (1, .int (Int32.ofInt xv)), (3, .int (Int32.ofInt zv)), (4, .int (Int32.ofInt wv)), (5, .int (Int32.ofInt go')), (6, .int (Int32.ofInt c'))] [] (Wd A dT t') 0 0) → WS k 35 [(0, .ref (A 68)), (2, .ref (A 4)), (1, .int (Int32.ofInt xv)), (3, .int (Int32.ofInt zv)), (4, .int (Int32.ofInt wv)), (5, .int (Int32.ofInt go)), (6, .int (Int32.ofInt c))] [] (Wd A dT t) 0 0 := by
    intro n
    induction n with
    | zero =>
      intro t xv zv wv go c I F hi hm kx
      exact absurd hm (Nat.not_lt_zero _)
    | succ n ih =>
      intro t xv zv wv go c I F hi hm kx
      refine z_load X (x := c) rfl (List.Mem.tail _ (List.Mem.tail _ (List.Mem.tail _ (List.Mem.tail _ (List.Mem.tail _ (List.Mem.tail _ (List.Mem.head _))))))) (z_load X (x := wv) rfl (List.Mem.tail _ (List.Mem.tail _ (List.Mem.tail _ (List.Mem.tail _ (List.Mem.head _))))) (z_icmp_ge X (t := 153) rfl rfl ⟨by first | exact oq_fa4e5087 hi.2.2.2.2.1 | omega, by first | exact oq_5bcd337f hi.2.2.2.2.2 | omega⟩ ⟨by first | exact oq_fa4e5087 hi.2.1.1 | omega, by first | exact oq_5bcd337f hi.2.1.2 | omega⟩ (fun g1001 => ?_) (fun g1001 => ?_)))
      ·
        refine WS_pq [0, 1, 2, 3, 4, 5, 6] (lv' := [(0, .ref (A 68)), (2, .ref (A 4)), (1, .int (Int32.ofInt xv)), (3, .int (Int32.ofInt zv)), (4, .int (Int32.ofInt wv)), (5, .int (Int32.ofInt go)), (6, .int (Int32.ofInt c))]) rfl ?_
        exact kx _ go c I F (by first | exact ⟨And.intro (hi.1.1) (hi.1.2), And.intro (hi.2.1.1) (hi.2.1.2), And.intro (hi.2.2.1.1) (hi.2.2.1.2), And.intro (hi.2.2.2.1.1) (hi.2.2.2.1.2), hi.2.2.2.2.1, hi.2.2.2.2.2⟩ | omega)
      ·
        refine z_aload_n X (x := A 4) rfl (List.Mem.tail _ (List.Mem.head _)) (z_load_n X (x := zv) rfl (List.Mem.tail _ (List.Mem.tail _ (List.Mem.tail _ (List.Mem.head _)))) (z_load X (x := c) rfl (List.Mem.tail _ (List.Mem.tail _ (List.Mem.tail _ (List.Mem.tail _ (List.Mem.tail _ (List.Mem.tail _ (List.Mem.head _))))))) (z_add X rfl (z_ald X 4 rfl (c518_ok rfl) rfl (by first | exact oq_dd29f52d hi.2.2.1.1 hi.2.2.2.2.1 | omega) (show (zv + c) < 288 by first | exact oq_f2e7d959 hi.2.2.1.2 g1001 | omega) (cbig_ok rfl) ?_))))
        have b1002 := bc_1 I (show ((zv + c)).toNat < 288 by first | exact oq_9482db17 hi.2.2.1.2 g1001 | omega)
        refine z_store X (lv' := [(7, .int (Int32.ofInt (iC t 1 ((zv + c)).toNat))), (0, .ref (A 68)), (2, .ref (A 4)), (1, .int (Int32.ofInt xv)), (3, .int (Int32.ofInt zv)), (4, .int (Int32.ofInt wv)), (5, .int (Int32.ofInt go)), (6, .int (Int32.ofInt c))]) rfl (by decide) (fun _ h => h) (z_load X (x := c) rfl (List.Mem.tail _ (List.Mem.tail _ (List.Mem.tail _ (List.Mem.tail _ (List.Mem.tail _ (List.Mem.tail _ (List.Mem.tail _ (List.Mem.head _)))))))) (z_const X rfl (z_add X rfl (z_load X (x := wv) rfl (List.Mem.tail _ (List.Mem.tail _ (List.Mem.tail _ (List.Mem.tail _ (List.Mem.tail _ (List.Mem.head _)))))) (z_icmp_ge X (t := 94) rfl rfl ⟨by first | exact oq_74de1e16 hi.2.2.2.2.1 | omega, by first | exact oq_3a454424 hi.2.2.2.2.2 | omega⟩ ⟨by first | exact oq_fa4e5087 hi.2.1.1 | omega, by first | exact oq_5bcd337f hi.2.1.2 | omega⟩ (fun g1003 => ?_) (fun g1003 => ?_))))))
        ·
          refine w_lconst X.1 (ax_d X (show cdA 107 94 = some (.lconst 1, 1, 0, 0, 0) from rfl)) rfl (z_anyJ (fun j1004 => ?_))
          refine z_load X (x := (iC t 1 ((zv + c)).toNat)) rfl (List.Mem.head _) (z_bipush X rfl (z_andm X rfl (by decide) (by decide) (fun y1005 hy1005 gy1005 => ?_)))
          refine w_lshl X.1 (ax_d X (show cdA 107 100 = some (.lshl, 1, 0, 0, 0) from rfl)) (z_anyJ (fun j1006 => ?_))
          refine w_lstore X.1 (lv' := [(8, .long j1006), (7, .int (Int32.ofInt (iC t 1 ((zv + c)).toNat))), (0, .ref (A 68)), (2, .ref (A 4)), (1, .int (Int32.ofInt xv)), (3, .int (Int32.ofInt zv)), (4, .int (Int32.ofInt wv)), (5, .int (Int32.ofInt go)), (6, .int (Int32.ofInt c))]) (ax_d X (show cdA 107 101 = some (.lstore 8, 2, 0, 0, 0) from rfl)) (by rw [X.2.1.2.2]; decide) (fun _ h => h) (z_aload_n X (x := A 68) rfl (List.Mem.tail _ (List.Mem.tail _ (List.Mem.head _))) (s_getR X 68 rfl (c518_ok rfl) rfl rfl (z_load_n X (x := xv) rfl (List.Mem.tail _ (List.Mem.tail _ (List.Mem.tail _ (List.Mem.tail _ (List.Mem.head _))))) (z_const X rfl (z_mul X rfl (z_load X (x := (iC t 1 ((zv + c)).toNat)) rfl (List.Mem.tail _ (List.Mem.head _)) (z_bipush X rfl (z_quot X rfl (by first | exact b1002.1 | omega) (rng_to _) (by decide) (by decide) (z_add X rfl (w_dup2_11 X.1 (ax_d X (show cdA 107 116 = some (.dup2, 1, 0, 0, 0) from rfl)) rfl rfl (z_lald X 71 rfl (c518_ok rfl) rfl (by first | exact oq_c0bd8137 b1002.1 hi.1.1 | omega) (show ((xv * 2) + ((iC t 1 ((zv + c)).toNat) / 64)) < 24 by first | exact oq_c80b6473 b1002.2 hi.1.2 | omega) (cbig_ok rfl) (fun j1007 => ?_))))))))))))
          refine w_lload X.1 (ax_d X (show cdA 107 118 = some (.lload 8, 2, 0, 0, 0) from rfl)) (x := j1006) (List.Mem.head _) (w_lor X.1 (ax_d X (show cdA 107 120 = some (.lor, 1, 0, 0, 0) from rfl)) (z_anyJ (fun j1008 => ?_)))
          refine z_last X 71 rfl (c518_ok rfl) rfl (by first | exact oq_c0bd8137 b1002.1 hi.1.1 | omega) (show ((xv * 2) + ((iC t 1 ((zv + c)).toNat) / 64)) < 24 by first | exact oq_c80b6473 b1002.2 hi.1.2 | omega) (cbig_ok rfl) (wd_gen (fun s1009 hs1009 => ?_))
          have Is1009 : Bd s1009 := eqB hs1009 (bd_D I)
          have Fs1009 : Fm [] [57, 58, 1059, 1060, 1061] s s1009 := by rw [hs1009]; exact fm_D F (show 59 + 1000 ∈ _ by decide)
          refine z_aload_n X (x := A 68) rfl (List.Mem.tail _ (List.Mem.tail _ (List.Mem.head _))) (s_getR X 68 rfl (c518_ok rfl) rfl rfl (z_load_n X (x := xv) rfl (List.Mem.tail _ (List.Mem.tail _ (List.Mem.tail _ (List.Mem.tail _ (List.Mem.head _))))) (z_bipush X rfl (z_mul X rfl (z_load X (x := go) rfl (List.Mem.tail _ (List.Mem.tail _ (List.Mem.tail _ (List.Mem.tail _ (List.Mem.tail _ (List.Mem.tail _ (List.Mem.tail _ (List.Mem.head _)))))))) (z_add X rfl (z_const X rfl (z_mul X rfl (z_load X (x := (iC t 1 ((zv + c)).toNat)) rfl (List.Mem.tail _ (List.Mem.head _)) (z_bipush X rfl (z_quot X rfl (by first | exact b1002.1 | omega) (rng_to _) (by decide) (by decide) ?_)))))))))))
          refine z_add X rfl (w_dup2_11 X.1 (ax_d X (show cdA 107 141 = some (.dup2, 1, 0, 0, 0) from rfl)) rfl rfl (z_lald X 72 rfl (c518_ok rfl) rfl (by first | exact oq_ea32c91a b1002.1 hi.2.2.2.1.1 hi.1.1 | omega) (show ((((xv * 7) + go) * 2) + ((iC t 1 ((zv + c)).toNat) / 64)) < 168 by first | exact oq_5da8d824 b1002.2 hi.2.2.2.1.2 hi.1.2 | omega) (cbig_ok rfl) (fun j1010 => ?_)))
          refine w_lload X.1 (ax_d X (show cdA 107 143 = some (.lload 8, 2, 0, 0, 0) from rfl)) (x := j1006) (List.Mem.head _) (w_lor X.1 (ax_d X (show cdA 107 145 = some (.lor, 1, 0, 0, 0) from rfl)) (z_anyJ (fun j1011 => ?_)))
          refine z_last X 72 rfl (c518_ok rfl) rfl (by first | exact oq_ea32c91a b1002.1 hi.2.2.2.1.1 hi.1.1 | omega) (show ((((xv * 7) + go) * 2) + ((iC t 1 ((zv + c)).toNat) / 64)) < 168 by first | exact oq_5da8d824 b1002.2 hi.2.2.2.1.2 hi.1.2 | omega) (cbig_ok rfl) (wd_gen (fun s1012 hs1012 => ?_))
          have Is1012 : Bd s1012 := eqB hs1012 (bd_D Is1009)
          have Fs1012 : Fm [] [57, 58, 1059, 1060, 1061] s s1012 := by rw [hs1012]; exact fm_D Fs1009 (show 60 + 1000 ∈ _ by decide)
          refine z_inc X (x := c) (lv' := [(6, .int (Int32.ofInt (c + 1))), (8, .long j1006), (7, .int (Int32.ofInt (iC t 1 ((zv + c)).toNat))), (0, .ref (A 68)), (2, .ref (A 4)), (1, .int (Int32.ofInt xv)), (3, .int (Int32.ofInt zv)), (4, .int (Int32.ofInt wv)), (5, .int (Int32.ofInt go))]) rfl (by decide) (List.Mem.tail _ (List.Mem.tail _ (List.Mem.tail _ (List.Mem.tail _ (List.Mem.tail _ (List.Mem.tail _ (List.Mem.tail _ (List.Mem.tail _ (List.Mem.head _))))))))) (fun _ h => h) (z_goto X (t := 35) rfl rfl (WS_pq [3, 4, 5, 6, 7, 8, 0] (lv' := [(0, .ref (A 68)), (2, .ref (A 4)), (1, .int (Int32.ofInt xv)), (3, .int (Int32.ofInt zv)), (4, .int (Int32.ofInt wv)), (5, .int (Int32.ofInt go)), (6, .int (Int32.ofInt (c + 1)))]) rfl ?_))
          exact ih _ xv zv wv go (c + 1) Is1012 Fs1012 (by first | exact ⟨And.intro (hi.1.1) (hi.1.2), And.intro (hi.2.1.1) (hi.2.1.2), And.intro (hi.2.2.1.1) (hi.2.2.1.2), And.intro (hi.2.2.2.1.1) (hi.2.2.2.1.2), oq_54f49eb5 hi.2.2.2.2.1, oq_41473be0 g1001 hi.2.1.2⟩ | omega) (by first | exact qk_me hm (by decide) (oq_9dea93e6 g1001 hi.2.1.2) | omega) kx
        ·
          refine z_load X (x := (iC t 1 ((zv + c)).toNat)) rfl (List.Mem.head _) (z_aload_n X (x := A 4) rfl (List.Mem.tail _ (List.Mem.tail _ (List.Mem.head _))) (z_load_n X (x := zv) rfl (List.Mem.tail _ (List.Mem.tail _ (List.Mem.tail _ (List.Mem.tail _ (List.Mem.head _))))) (z_load X (x := c) rfl (List.Mem.tail _ (List.Mem.tail _ (List.Mem.tail _ (List.Mem.tail _ (List.Mem.tail _ (List.Mem.tail _ (List.Mem.tail _ (List.Mem.head _)))))))) (z_add X rfl (z_const X rfl (z_add X rfl (z_ald X 4 rfl (c518_ok rfl) rfl (by first | exact oq_21f9cd09 hi.2.2.1.1 hi.2.2.2.2.1 | omega) (show ((zv + c) + 1) < 288 by first | exact oq_cc679ab7 hi.2.2.1.2 g1003 | omega) (cbig_ok rfl) ?_)))))))
          have b1013 := bc_1 I (show (((zv + c) + 1)).toNat < 288 by first | exact oq_11b18baf hi.2.2.1.2 g1003 | omega)
          refine z_callS X (rm := rmN 102) (As := [.int (Int32.ofInt (iC t 1 ((zv + c)).toNat)), .int (Int32.ofInt (iC t 1 (((zv + c) + 1)).toNat))]) (st := []) rfl rfl (by rw [E.1, E.2.1, E.2.2.1]; exact c9_goBetween G I (by first | exact ⟨b1002.1, b1002.2⟩ | omega) (by first | exact ⟨b1013.1, b1013.2⟩ | omega)) ⟨by rw [E.2.2.2]; exact (show (rmN 102).frames + 1 ≤ (rmN 107).frames by decide), by rw [E.2.2.2]; exact (show 8 + (mNL (miB 102) + 11) + (rmN 102).locals ≤ (rmN 107).locals by decide), by rw [E.2.2.2]; exact (show 0 + (rmN 102).cells ≤ (rmN 107).cells by decide), by rw [E.2.2.2]; exact (show 0 + (rmN 102).slots ≤ (rmN 107).slots by decide)⟩ (Nat.le_of_ble_eq_true rfl) (fun vv s1014 hq => ?_) (fun ee s1014 hq => ?_)
          rotate_left
          · obtain ⟨rfl, e1015, hv, hrs1014, hps1014⟩ := hq; cases hv
          obtain ⟨rfl, e1015, hv, hrs1014, hps1014⟩ := hq
          cases hv
          show WS k 72 [(7, .int (Int32.ofInt (iC t 1 ((zv + c)).toNat))), (0, .ref (A 68)), (2, .ref (A 4)), (1, .int (Int32.ofInt xv)), (3, .int (Int32.ofInt zv)), (4, .int (Int32.ofInt wv)), (5, .int (Int32.ofInt go)), (6, .int (Int32.ofInt c))] [.int (Int32.ofInt e1015)] (Wd A dT t) 0 0
          refine z_store X (lv' := [(5, .int (Int32.ofInt e1015)), (7, .int (Int32.ofInt (iC t 1 ((zv + c)).toNat))), (0, .ref (A 68)), (2, .ref (A 4)), (1, .int (Int32.ofInt xv)), (3, .int (Int32.ofInt zv)), (4, .int (Int32.ofInt wv)), (6, .int (Int32.ofInt c))]) rfl (by decide) (fun _ h => h) (z_aload_n X (x := A 68) rfl (List.Mem.tail _ (List.Mem.tail _ (List.Mem.head _))) (z_load_n X (x := xv) rfl (List.Mem.tail _ (List.Mem.tail _ (List.Mem.tail _ (List.Mem.tail _ (List.Mem.head _))))) (z_load X (x := (iC t 1 ((zv + c)).toNat)) rfl (List.Mem.tail _ (List.Mem.head _)) (z_aload_n X (x := A 4) rfl (List.Mem.tail _ (List.Mem.tail _ (List.Mem.tail _ (List.Mem.head _)))) (z_load_n X (x := zv) rfl (List.Mem.tail _ (List.Mem.tail _ (List.Mem.tail _ (List.Mem.tail _ (List.Mem.tail _ (List.Mem.head _)))))) (z_load X (x := c) rfl (List.Mem.tail _ (List.Mem.tail _ (List.Mem.tail _ (List.Mem.tail _ (List.Mem.tail _ (List.Mem.tail _ (List.Mem.tail _ (List.Mem.head _)))))))) (z_add X rfl (z_const X rfl (z_add X rfl (z_ald X 4 rfl (c518_ok rfl) rfl (by first | exact oq_21f9cd09 hi.2.2.1.1 hi.2.2.2.2.1 | omega) (show ((zv + c) + 1) < 288 by first | exact oq_cc679ab7 hi.2.2.1.2 g1003 | omega) (cbig_ok rfl) ?_))))))))))
          have b1016 := bc_1 I (show (((zv + c) + 1)).toNat < 288 by first | exact oq_11b18baf hi.2.2.1.2 g1003 | omega)
          refine z_min X rfl (rng_to _) (rng_to _) (by rw [E.2.2.2]; decide) (by rw [E.2.2.2]; exact Nat.le_of_ble_eq_true rfl) (Nat.zero_le _) (Nat.zero_le _) (fun e1017 he1017 => ?_)
          refine z_load X (x := e1015) rfl (List.Mem.head _) (zcV_v0 X E 68 (As := [.int (Int32.ofInt xv), .int (Int32.ofInt e1017), .int (Int32.ofInt e1015)]) (st := []) rfl rfl rfl rfl (c9_setStep_68 G I (by first | exact ⟨hi.1.1, hi.1.2⟩ | omega) (by first | exact ⟨oq_03ccc143 he1017 b1016.1 b1002.1, oq_9c77db17 he1017 b1002.2⟩ | omega) (by first | exact ⟨hps1014.1, hps1014.2⟩ | omega)) rfl (Nat.le_of_ble_eq_true rfl) (fun s1018 Is1018 Fs1018 hps1018 => ?_))
          have Gs1018 := fm_tq F Fs1018 rfl rfl
          refine w_lconst X.1 (ax_d X (show cdA 107 94 = some (.lconst 1, 1, 0, 0, 0) from rfl)) rfl (z_anyJ (fun j1020 => ?_))
          refine z_load X (x := (iC t 1 ((zv + c)).toNat)) rfl (List.Mem.tail _ (List.Mem.head _)) (z_bipush X rfl (z_andm X rfl (by decide) (by decide) (fun y1021 hy1021 gy1021 => ?_)))
          refine w_lshl X.1 (ax_d X (show cdA 107 100 = some (.lshl, 1, 0, 0, 0) from rfl)) (z_anyJ (fun j1022 => ?_))
          refine w_lstore X.1 (lv' := [(8, .long j1022), (5, .int (Int32.ofInt e1015)), (7, .int (Int32.ofInt (iC t 1 ((zv + c)).toNat))), (0, .ref (A 68)), (2, .ref (A 4)), (1, .int (Int32.ofInt xv)), (3, .int (Int32.ofInt zv)), (4, .int (Int32.ofInt wv)), (6, .int (Int32.ofInt c))]) (ax_d X (show cdA 107 101 = some (.lstore 8, 2, 0, 0, 0) from rfl)) (by rw [X.2.1.2.2]; decide) (fun _ h => h) (z_aload_n X (x := A 68) rfl (List.Mem.tail _ (List.Mem.tail _ (List.Mem.tail _ (List.Mem.head _)))) (s_getR X 68 rfl (c518_ok rfl) rfl rfl (z_load_n X (x := xv) rfl (List.Mem.tail _ (List.Mem.tail _ (List.Mem.tail _ (List.Mem.tail _ (List.Mem.tail _ (List.Mem.head _)))))) (z_const X rfl (z_mul X rfl (z_load X (x := (iC t 1 ((zv + c)).toNat)) rfl (List.Mem.tail _ (List.Mem.tail _ (List.Mem.head _))) (z_bipush X rfl (z_quot X rfl (by first | exact b1002.1 | omega) (rng_to _) (by decide) (by decide) (z_add X rfl (w_dup2_11 X.1 (ax_d X (show cdA 107 116 = some (.dup2, 1, 0, 0, 0) from rfl)) rfl rfl (z_lald X 71 rfl (c518_ok rfl) rfl (by first | exact oq_c0bd8137 b1002.1 hi.1.1 | omega) (show ((xv * 2) + ((iC t 1 ((zv + c)).toNat) / 64)) < 24 by first | exact oq_c80b6473 b1002.2 hi.1.2 | omega) (cbig_ok rfl) (fun j1023 => ?_))))))))))))
          refine w_lload X.1 (ax_d X (show cdA 107 118 = some (.lload 8, 2, 0, 0, 0) from rfl)) (x := j1022) (List.Mem.head _) (w_lor X.1 (ax_d X (show cdA 107 120 = some (.lor, 1, 0, 0, 0) from rfl)) (z_anyJ (fun j1024 => ?_)))
          refine z_last X 71 rfl (c518_ok rfl) rfl (by first | exact oq_c0bd8137 b1002.1 hi.1.1 | omega) (show ((xv * 2) + ((iC t 1 ((zv + c)).toNat) / 64)) < 24 by first | exact oq_c80b6473 b1002.2 hi.1.2 | omega) (cbig_ok rfl) (wd_gen (fun s1025 hs1025 => ?_))
          have Is1025 : Bd s1025 := eqB hs1025 (bd_D Is1018)
          have Fs1025 : Fm [] [57, 58, 1059, 1060, 1061] s s1025 := by rw [hs1025]; exact fm_D Gs1018 (show 59 + 1000 ∈ _ by decide)
          refine z_aload_n X (x := A 68) rfl (List.Mem.tail _ (List.Mem.tail _ (List.Mem.tail _ (List.Mem.head _)))) (s_getR X 68 rfl (c518_ok rfl) rfl rfl (z_load_n X (x := xv) rfl (List.Mem.tail _ (List.Mem.tail _ (List.Mem.tail _ (List.Mem.tail _ (List.Mem.tail _ (List.Mem.head _)))))) (z_bipush X rfl (z_mul X rfl (z_load X (x := e1015) rfl (List.Mem.tail _ (List.Mem.head _)) (z_add X rfl (z_const X rfl (z_mul X rfl (z_load X (x := (iC t 1 ((zv + c)).toNat)) rfl (List.Mem.tail _ (List.Mem.tail _ (List.Mem.head _))) (z_bipush X rfl (z_quot X rfl (by first | exact b1002.1 | omega) (rng_to _) (by decide) (by decide) ?_)))))))))))
          refine z_add X rfl (w_dup2_11 X.1 (ax_d X (show cdA 107 141 = some (.dup2, 1, 0, 0, 0) from rfl)) rfl rfl (z_lald X 72 rfl (c518_ok rfl) rfl (by first | exact oq_f0013a75 hps1014.1 b1002.1 hi.1.1 | omega) (show ((((xv * 7) + e1015) * 2) + ((iC t 1 ((zv + c)).toNat) / 64)) < 168 by first | exact oq_2f745b71 hps1014.2 b1002.2 hi.1.2 | omega) (cbig_ok rfl) (fun j1026 => ?_)))
          refine w_lload X.1 (ax_d X (show cdA 107 143 = some (.lload 8, 2, 0, 0, 0) from rfl)) (x := j1022) (List.Mem.head _) (w_lor X.1 (ax_d X (show cdA 107 145 = some (.lor, 1, 0, 0, 0) from rfl)) (z_anyJ (fun j1027 => ?_)))
          refine z_last X 72 rfl (c518_ok rfl) rfl (by first | exact oq_f0013a75 hps1014.1 b1002.1 hi.1.1 | omega) (show ((((xv * 7) + e1015) * 2) + ((iC t 1 ((zv + c)).toNat) / 64)) < 168 by first | exact oq_2f745b71 hps1014.2 b1002.2 hi.1.2 | omega) (cbig_ok rfl) (wd_gen (fun s1028 hs1028 => ?_))
          have Is1028 : Bd s1028 := eqB hs1028 (bd_D Is1025)
          have Fs1028 : Fm [] [57, 58, 1059, 1060, 1061] s s1028 := by rw [hs1028]; exact fm_D Fs1025 (show 60 + 1000 ∈ _ by decide)
          refine z_inc X (x := c) (lv' := [(6, .int (Int32.ofInt (c + 1))), (8, .long j1022), (5, .int (Int32.ofInt e1015)), (7, .int (Int32.ofInt (iC t 1 ((zv + c)).toNat))), (0, .ref (A 68)), (2, .ref (A 4)), (1, .int (Int32.ofInt xv)), (3, .int (Int32.ofInt zv)), (4, .int (Int32.ofInt wv))]) rfl (by decide) (List.Mem.tail _ (List.Mem.tail _ (List.Mem.tail _ (List.Mem.tail _ (List.Mem.tail _ (List.Mem.tail _ (List.Mem.tail _ (List.Mem.tail _ (List.Mem.head _))))))))) (fun _ h => h) (z_goto X (t := 35) rfl rfl (WS_pq [4, 5, 6, 7, 8, 2, 0] (lv' := [(0, .ref (A 68)), (2, .ref (A 4)), (1, .int (Int32.ofInt xv)), (3, .int (Int32.ofInt zv)), (4, .int (Int32.ofInt wv)), (5, .int (Int32.ofInt e1015)), (6, .int (Int32.ofInt (c + 1)))]) rfl ?_))
          exact ih _ xv zv wv e1015 (c + 1) Is1028 Fs1028 (by first | exact ⟨And.intro (hi.1.1) (hi.1.2), And.intro (hi.2.1.1) (hi.2.1.2), And.intro (hi.2.2.1.1) (hi.2.2.1.2), And.intro (hps1014.1) (oq_b982df86 hps1014.2), oq_54f49eb5 hi.2.2.2.2.1, oq_bbeecdc2 g1003 hi.2.1.2⟩ | omega) (by first | exact qk_me hm (by decide) (oq_261750be g1003 hi.2.1.2) | omega) kx
  refine z_aload_n X (x := A 4) rfl (List.Mem.tail _ (List.Mem.tail _ (List.Mem.head _))) (z_load_n X (x := z) rfl (List.Mem.tail _ (List.Mem.tail _ (List.Mem.tail _ (List.Mem.head _)))) (z_aload_n X (x := A 68) rfl (List.Mem.head _) (s_getR X 68 rfl (c518_ok rfl) rfl rfl (z_load_n X (x := x) rfl (List.Mem.tail _ (List.Mem.head _)) (z_bipush X rfl (z_mul X rfl (z_load X (x := w) rfl (List.Mem.tail _ (List.Mem.tail _ (List.Mem.tail _ (List.Mem.tail _ (List.Mem.head _))))) (z_copy X I 4 69 (st := []) rfl (by decide) (by decide) rfl rfl (by omega) (by omega) (by omega) (show z + w ≤ ((288 : Nat) : Int) by omega) (show (x * 24) + w ≤ ((288 : Nat) : Int) by omega) (by decide) (by rw [E.2.2.2]; decide) (by rw [E.2.2.2]; exact Nat.le_of_ble_eq_true rfl) (fun s1 Is1 Fs1 => ?_)))))))))
  have Gs1 := fm_tq F Fs1 rfl rfl
  refine z_aload_n X (x := A 68) rfl (List.Mem.head _) (s_getR X 68 rfl (c518_ok rfl) rfl rfl (z_load_n X (x := x) rfl (List.Mem.tail _ (List.Mem.head _)) (z_load X (x := w) rfl (List.Mem.tail _ (List.Mem.tail _ (List.Mem.tail _ (List.Mem.tail _ (List.Mem.head _))))) (z_ast X 70 rfl (c518_ok rfl) rfl (by first | exact p0.1 | omega) (show x < 12 by first | exact oq_0ddfcfee p0.2 | omega) (cbig_ok rfl) (wd_gen (fun s2 hs2 => ?_))))))
  have Is2 : Bd s2 := eqB hs2 (bd_C Is1 (show (0 : Int) ≤ w ∧ w ≤ 24 by first | exact ⟨p1.1, p1.2⟩ | omega) ⟨by first | exact oq_fa4e5087 p1.1 | omega, by first | exact oq_5bcd337f p1.2 | omega⟩)
  have Fs2 := eqF hs2 (fm_C Gs1 (inl_ok (a := 58) rfl))
  refine z_aload_n X (x := A 68) rfl (List.Mem.head _) (z_load_n X (x := x) rfl (List.Mem.tail _ (List.Mem.head _)) (zcV_v0 X E 68 (As := [.int (Int32.ofInt x)]) (st := []) rfl rfl rfl rfl (c9_wipe_68 G Is2 (by first | exact ⟨p0.1, p0.2⟩ | omega)) rfl (Nat.le_of_ble_eq_true rfl) (fun s3 Is3 Fs3 hps3 => ?_)))
  have Gs3 := fm_tq Fs2 Fs3 rfl rfl
  refine z_bipush X rfl (z_store X (lv' := [(5, .int (Int32.ofInt 6)), (0, .ref (A 68)), (1, .int (Int32.ofInt x)), (2, .ref (A 4)), (3, .int (Int32.ofInt z)), (4, .int (Int32.ofInt w))]) rfl (by decide) (fun _ h => h) (z_const X rfl (z_store X (lv' := [(6, .int (Int32.ofInt 0)), (5, .int (Int32.ofInt 6)), (0, .ref (A 68)), (1, .int (Int32.ofInt x)), (2, .ref (A 4)), (3, .int (Int32.ofInt z)), (4, .int (Int32.ofInt w))]) rfl (by decide) (fun _ h => h) (WS_pq [2, 4, 3, 5, 6, 1, 0] (lv' := [(0, .ref (A 68)), (2, .ref (A 4)), (1, .int (Int32.ofInt x)), (3, .int (Int32.ofInt z)), (4, .int (Int32.ofInt w)), (5, .int (Int32.ofInt 6)), (6, .int (Int32.ofInt 0))]) rfl (L35 ((24 - 0 : Int).toNat + 1) s3 x z w 6 0 Is3 Gs3 (by first | exact ⟨And.intro (p0.1) (p0.2), And.intro (p1.1) (p1.2), And.intro (p2.1) (p2.2), And.intro (by decide) (by decide), by decide, by decide⟩ | omega) (Nat.lt_succ_self _) ?_)))))
  intro s5 x6 x7 Is5 Fs5 hs5
  exact w_vret X.1 q hRt (ax_d X (show cdA 107 153 = some (.return_, 1, 0, 0, 0) from rfl)) (Nat.zero_le _) (Nat.zero_le _) ⟨_, rfl, Is5, Fs5, rfl, trivial⟩
set_option maxRecDepth 4000 in
theorem c9_setWay_68_92 (G : GX l s0 D tys a0 dT) (I : Bd s) {x z w : Int} (p0 : 0 ≤ x ∧ x ≤ 11) (p1 : 0 ≤ w ∧ w ≤ 24) (p2 : 0 ≤ z ∧ z + w ≤ 24) : CT l s0 D A dT 107 (rmN 107) [.ref (A 68), .int (Int32.ofInt x), .ref (A 92), .int (Int32.ofInt z), .int (Int32.ofInt w)] s (fun o t => Bd t ∧ Fm [] [57, 58, 1059, 1060, 1061] s t ∧ o = .inl none ∧ (True)) := by
  refine ct_ofX G (by decide) (Nat.le_of_ble_eq_true rfl) (fun k X E ET hRt hXt q => ?_)
  show WS k 0 [(0, .ref (A 68)), (1, .int (Int32.ofInt x)), (2, .ref (A 92)), (3, .int (Int32.ofInt z)), (4, .int (Int32.ofInt w))] [] _ 0 0
  have F : Fm [] [57, 58, 1059, 1060, 1061] s s := fm_rf _ _ s
  have L35 : ∀ (n : Nat) (t : PS) (xv zv wv go c : Int), Bd t → Fm [] [57, 58, 1059, 1060, 1061] s t → ((0 ≤ xv ∧ xv ≤ 11) ∧ (0 ≤ wv ∧ wv ≤ 24) ∧ (0 ≤ zv ∧ zv + wv ≤ 24) ∧ (0 ≤ go ∧ go ≤ 6) ∧ 0 ≤ c ∧ c ≤ 24) → (24 - c : Int).toNat < n → (∀ (t' : PS) (go' c' : Int), Bd t' → Fm [] [57, 58, 1059, 1060, 1061] s t' → ((0 ≤ xv ∧ xv ≤ 11) ∧ (0 ≤ wv ∧ wv ≤ 24) ∧ (0 ≤ zv ∧ zv + wv ≤ 24) ∧ (0 ≤ go' ∧ go' ≤ 6) ∧ 0 ≤ c' ∧ c' ≤ 24) → WS k 153 [(0, .ref (A 68)), (2, .ref (A 92)), (1, .int (Int32.ofInt xv)), (3, .int (Int32.ofInt zv)), (4, .int (Int32.ofInt wv)), (5, .int (Int32.ofInt go')), (6, .int (Int32.ofInt c'))] [] (Wd A dT t') 0 0) → WS k 35 [(0, .ref (A 68)), (2, .ref (A 92)), (1, .int (Int32.ofInt xv)), (3, .int (Int32.ofInt zv)), (4, .int (Int32.ofInt wv)), (5, .int (Int32.ofInt go)), (6, .int (Int32.ofInt c))] [] (Wd A dT t) 0 0 := by
    intro n
    induction n with
    | zero =>
      intro t xv zv wv go c I F hi hm kx
      exact absurd hm (Nat.not_lt_zero _)
    | succ n ih =>
      intro t xv zv wv go c I F hi hm kx
      refine z_load X (x := c) rfl (List.Mem.tail _ (List.Mem.tail _ (List.Mem.tail _ (List.Mem.tail _ (List.Mem.tail _ (List.Mem.tail _ (List.Mem.head _))))))) (z_load X (x := wv) rfl (List.Mem.tail _ (List.Mem.tail _ (List.Mem.tail _ (List.Mem.tail _ (List.Mem.head _))))) (z_icmp_ge X (t := 153) rfl rfl ⟨by first | exact oq_fa4e5087 hi.2.2.2.2.1 | omega, by first | exact oq_5bcd337f hi.2.2.2.2.2 | omega⟩ ⟨by first | exact oq_fa4e5087 hi.2.1.1 | omega, by first | exact oq_5bcd337f hi.2.1.2 | omega⟩ (fun g1001 => ?_) (fun g1001 => ?_)))
      ·
        refine WS_pq [0, 1, 2, 3, 4, 5, 6] (lv' := [(0, .ref (A 68)), (2, .ref (A 92)), (1, .int (Int32.ofInt xv)), (3, .int (Int32.ofInt zv)), (4, .int (Int32.ofInt wv)), (5, .int (Int32.ofInt go)), (6, .int (Int32.ofInt c))]) rfl ?_
        exact kx _ go c I F (by first | exact ⟨And.intro (hi.1.1) (hi.1.2), And.intro (hi.2.1.1) (hi.2.1.2), And.intro (hi.2.2.1.1) (hi.2.2.1.2), And.intro (hi.2.2.2.1.1) (hi.2.2.2.1.2), hi.2.2.2.2.1, hi.2.2.2.2.2⟩ | omega)
      ·
        refine z_aload_n X (x := A 92) rfl (List.Mem.tail _ (List.Mem.head _)) (z_load_n X (x := zv) rfl (List.Mem.tail _ (List.Mem.tail _ (List.Mem.tail _ (List.Mem.head _)))) (z_load X (x := c) rfl (List.Mem.tail _ (List.Mem.tail _ (List.Mem.tail _ (List.Mem.tail _ (List.Mem.tail _ (List.Mem.tail _ (List.Mem.head _))))))) (z_add X rfl (z_ald X 92 rfl (c518_ok rfl) rfl (by first | exact oq_dd29f52d hi.2.2.1.1 hi.2.2.2.2.1 | omega) (show (zv + c) < 24 by first | exact oq_de70c7d8 hi.2.2.1.2 g1001 | omega) (cbig_ok rfl) ?_))))
        have b1002 := bc_79 I (show ((zv + c)).toNat < 24 by first | exact oq_ff24e3f1 hi.2.2.1.2 g1001 | omega)
        refine z_store X (lv' := [(7, .int (Int32.ofInt (iC t 79 ((zv + c)).toNat))), (0, .ref (A 68)), (2, .ref (A 92)), (1, .int (Int32.ofInt xv)), (3, .int (Int32.ofInt zv)), (4, .int (Int32.ofInt wv)), (5, .int (Int32.ofInt go)), (6, .int (Int32.ofInt c))]) rfl (by decide) (fun _ h => h) (z_load X (x := c) rfl (List.Mem.tail _ (List.Mem.tail _ (List.Mem.tail _ (List.Mem.tail _ (List.Mem.tail _ (List.Mem.tail _ (List.Mem.tail _ (List.Mem.head _)))))))) (z_const X rfl (z_add X rfl (z_load X (x := wv) rfl (List.Mem.tail _ (List.Mem.tail _ (List.Mem.tail _ (List.Mem.tail _ (List.Mem.tail _ (List.Mem.head _)))))) (z_icmp_ge X (t := 94) rfl rfl ⟨by first | exact oq_74de1e16 hi.2.2.2.2.1 | omega, by first | exact oq_3a454424 hi.2.2.2.2.2 | omega⟩ ⟨by first | exact oq_fa4e5087 hi.2.1.1 | omega, by first | exact oq_5bcd337f hi.2.1.2 | omega⟩ (fun g1003 => ?_) (fun g1003 => ?_))))))
        ·
          refine w_lconst X.1 (ax_d X (show cdA 107 94 = some (.lconst 1, 1, 0, 0, 0) from rfl)) rfl (z_anyJ (fun j1004 => ?_))
          refine z_load X (x := (iC t 79 ((zv + c)).toNat)) rfl (List.Mem.head _) (z_bipush X rfl (z_andm X rfl (by decide) (by decide) (fun y1005 hy1005 gy1005 => ?_)))
          refine w_lshl X.1 (ax_d X (show cdA 107 100 = some (.lshl, 1, 0, 0, 0) from rfl)) (z_anyJ (fun j1006 => ?_))
          refine w_lstore X.1 (lv' := [(8, .long j1006), (7, .int (Int32.ofInt (iC t 79 ((zv + c)).toNat))), (0, .ref (A 68)), (2, .ref (A 92)), (1, .int (Int32.ofInt xv)), (3, .int (Int32.ofInt zv)), (4, .int (Int32.ofInt wv)), (5, .int (Int32.ofInt go)), (6, .int (Int32.ofInt c))]) (ax_d X (show cdA 107 101 = some (.lstore 8, 2, 0, 0, 0) from rfl)) (by rw [X.2.1.2.2]; decide) (fun _ h => h) (z_aload_n X (x := A 68) rfl (List.Mem.tail _ (List.Mem.tail _ (List.Mem.head _))) (s_getR X 68 rfl (c518_ok rfl) rfl rfl (z_load_n X (x := xv) rfl (List.Mem.tail _ (List.Mem.tail _ (List.Mem.tail _ (List.Mem.tail _ (List.Mem.head _))))) (z_const X rfl (z_mul X rfl (z_load X (x := (iC t 79 ((zv + c)).toNat)) rfl (List.Mem.tail _ (List.Mem.head _)) (z_bipush X rfl (z_quot X rfl (by first | exact b1002.1 | omega) (rng_to _) (by decide) (by decide) (z_add X rfl (w_dup2_11 X.1 (ax_d X (show cdA 107 116 = some (.dup2, 1, 0, 0, 0) from rfl)) rfl rfl (z_lald X 71 rfl (c518_ok rfl) rfl (by first | exact oq_c0bd8137 b1002.1 hi.1.1 | omega) (show ((xv * 2) + ((iC t 79 ((zv + c)).toNat) / 64)) < 24 by first | exact oq_c80b6473 b1002.2 hi.1.2 | omega) (cbig_ok rfl) (fun j1007 => ?_))))))))))))
          refine w_lload X.1 (ax_d X (show cdA 107 118 = some (.lload 8, 2, 0, 0, 0) from rfl)) (x := j1006) (List.Mem.head _) (w_lor X.1 (ax_d X (show cdA 107 120 = some (.lor, 1, 0, 0, 0) from rfl)) (z_anyJ (fun j1008 => ?_)))
          refine z_last X 71 rfl (c518_ok rfl) rfl (by first | exact oq_c0bd8137 b1002.1 hi.1.1 | omega) (show ((xv * 2) + ((iC t 79 ((zv + c)).toNat) / 64)) < 24 by first | exact oq_c80b6473 b1002.2 hi.1.2 | omega) (cbig_ok rfl) (wd_gen (fun s1009 hs1009 => ?_))
          have Is1009 : Bd s1009 := eqB hs1009 (bd_D I)
          have Fs1009 : Fm [] [57, 58, 1059, 1060, 1061] s s1009 := by rw [hs1009]; exact fm_D F (show 59 + 1000 ∈ _ by decide)
          refine z_aload_n X (x := A 68) rfl (List.Mem.tail _ (List.Mem.tail _ (List.Mem.head _))) (s_getR X 68 rfl (c518_ok rfl) rfl rfl (z_load_n X (x := xv) rfl (List.Mem.tail _ (List.Mem.tail _ (List.Mem.tail _ (List.Mem.tail _ (List.Mem.head _))))) (z_bipush X rfl (z_mul X rfl (z_load X (x := go) rfl (List.Mem.tail _ (List.Mem.tail _ (List.Mem.tail _ (List.Mem.tail _ (List.Mem.tail _ (List.Mem.tail _ (List.Mem.tail _ (List.Mem.head _)))))))) (z_add X rfl (z_const X rfl (z_mul X rfl (z_load X (x := (iC t 79 ((zv + c)).toNat)) rfl (List.Mem.tail _ (List.Mem.head _)) (z_bipush X rfl (z_quot X rfl (by first | exact b1002.1 | omega) (rng_to _) (by decide) (by decide) ?_)))))))))))
          refine z_add X rfl (w_dup2_11 X.1 (ax_d X (show cdA 107 141 = some (.dup2, 1, 0, 0, 0) from rfl)) rfl rfl (z_lald X 72 rfl (c518_ok rfl) rfl (by first | exact oq_ea32c91a b1002.1 hi.2.2.2.1.1 hi.1.1 | omega) (show ((((xv * 7) + go) * 2) + ((iC t 79 ((zv + c)).toNat) / 64)) < 168 by first | exact oq_5da8d824 b1002.2 hi.2.2.2.1.2 hi.1.2 | omega) (cbig_ok rfl) (fun j1010 => ?_)))
          refine w_lload X.1 (ax_d X (show cdA 107 143 = some (.lload 8, 2, 0, 0, 0) from rfl)) (x := j1006) (List.Mem.head _) (w_lor X.1 (ax_d X (show cdA 107 145 = some (.lor, 1, 0, 0, 0) from rfl)) (z_anyJ (fun j1011 => ?_)))
          refine z_last X 72 rfl (c518_ok rfl) rfl (by first | exact oq_ea32c91a b1002.1 hi.2.2.2.1.1 hi.1.1 | omega) (show ((((xv * 7) + go) * 2) + ((iC t 79 ((zv + c)).toNat) / 64)) < 168 by first | exact oq_5da8d824 b1002.2 hi.2.2.2.1.2 hi.1.2 | omega) (cbig_ok rfl) (wd_gen (fun s1012 hs1012 => ?_))
          have Is1012 : Bd s1012 := eqB hs1012 (bd_D Is1009)
          have Fs1012 : Fm [] [57, 58, 1059, 1060, 1061] s s1012 := by rw [hs1012]; exact fm_D Fs1009 (show 60 + 1000 ∈ _ by decide)
          refine z_inc X (x := c) (lv' := [(6, .int (Int32.ofInt (c + 1))), (8, .long j1006), (7, .int (Int32.ofInt (iC t 79 ((zv + c)).toNat))), (0, .ref (A 68)), (2, .ref (A 92)), (1, .int (Int32.ofInt xv)), (3, .int (Int32.ofInt zv)), (4, .int (Int32.ofInt wv)), (5, .int (Int32.ofInt go))]) rfl (by decide) (List.Mem.tail _ (List.Mem.tail _ (List.Mem.tail _ (List.Mem.tail _ (List.Mem.tail _ (List.Mem.tail _ (List.Mem.tail _ (List.Mem.tail _ (List.Mem.head _))))))))) (fun _ h => h) (z_goto X (t := 35) rfl rfl (WS_pq [3, 4, 5, 6, 7, 8, 0] (lv' := [(0, .ref (A 68)), (2, .ref (A 92)), (1, .int (Int32.ofInt xv)), (3, .int (Int32.ofInt zv)), (4, .int (Int32.ofInt wv)), (5, .int (Int32.ofInt go)), (6, .int (Int32.ofInt (c + 1)))]) rfl ?_))
          exact ih _ xv zv wv go (c + 1) Is1012 Fs1012 (by first | exact ⟨And.intro (hi.1.1) (hi.1.2), And.intro (hi.2.1.1) (hi.2.1.2), And.intro (hi.2.2.1.1) (hi.2.2.1.2), And.intro (hi.2.2.2.1.1) (hi.2.2.2.1.2), oq_54f49eb5 hi.2.2.2.2.1, oq_41473be0 g1001 hi.2.1.2⟩ | omega) (by first | exact qk_me hm (by decide) (oq_9dea93e6 g1001 hi.2.1.2) | omega) kx
        ·
          refine z_load X (x := (iC t 79 ((zv + c)).toNat)) rfl (List.Mem.head _) (z_aload_n X (x := A 92) rfl (List.Mem.tail _ (List.Mem.tail _ (List.Mem.head _))) (z_load_n X (x := zv) rfl (List.Mem.tail _ (List.Mem.tail _ (List.Mem.tail _ (List.Mem.tail _ (List.Mem.head _))))) (z_load X (x := c) rfl (List.Mem.tail _ (List.Mem.tail _ (List.Mem.tail _ (List.Mem.tail _ (List.Mem.tail _ (List.Mem.tail _ (List.Mem.tail _ (List.Mem.head _)))))))) (z_add X rfl (z_const X rfl (z_add X rfl (z_ald X 92 rfl (c518_ok rfl) rfl (by first | exact oq_21f9cd09 hi.2.2.1.1 hi.2.2.2.2.1 | omega) (show ((zv + c) + 1) < 24 by first | exact oq_c07d830a hi.2.2.1.2 g1003 | omega) (cbig_ok rfl) ?_)))))))
          have b1013 := bc_79 I (show (((zv + c) + 1)).toNat < 24 by first | exact oq_136cae15 hi.2.2.1.2 g1003 | omega)
          refine z_callS X (rm := rmN 102) (As := [.int (Int32.ofInt (iC t 79 ((zv + c)).toNat)), .int (Int32.ofInt (iC t 79 (((zv + c) + 1)).toNat))]) (st := []) rfl rfl (by rw [E.1, E.2.1, E.2.2.1]; exact c9_goBetween G I (by first | exact ⟨b1002.1, b1002.2⟩ | omega) (by first | exact ⟨b1013.1, b1013.2⟩ | omega)) ⟨by rw [E.2.2.2]; exact (show (rmN 102).frames + 1 ≤ (rmN 107).frames by decide), by rw [E.2.2.2]; exact (show 8 + (mNL (miB 102) + 11) + (rmN 102).locals ≤ (rmN 107).locals by decide), by rw [E.2.2.2]; exact (show 0 + (rmN 102).cells ≤ (rmN 107).cells by decide), by rw [E.2.2.2]; exact (show 0 + (rmN 102).slots ≤ (rmN 107).slots by decide)⟩ (Nat.le_of_ble_eq_true rfl) (fun vv s1014 hq => ?_) (fun ee s1014 hq => ?_)
          rotate_left
          · obtain ⟨rfl, e1015, hv, hrs1014, hps1014⟩ := hq; cases hv
          obtain ⟨rfl, e1015, hv, hrs1014, hps1014⟩ := hq
          cases hv
          show WS k 72 [(7, .int (Int32.ofInt (iC t 79 ((zv + c)).toNat))), (0, .ref (A 68)), (2, .ref (A 92)), (1, .int (Int32.ofInt xv)), (3, .int (Int32.ofInt zv)), (4, .int (Int32.ofInt wv)), (5, .int (Int32.ofInt go)), (6, .int (Int32.ofInt c))] [.int (Int32.ofInt e1015)] (Wd A dT t) 0 0
          refine z_store X (lv' := [(5, .int (Int32.ofInt e1015)), (7, .int (Int32.ofInt (iC t 79 ((zv + c)).toNat))), (0, .ref (A 68)), (2, .ref (A 92)), (1, .int (Int32.ofInt xv)), (3, .int (Int32.ofInt zv)), (4, .int (Int32.ofInt wv)), (6, .int (Int32.ofInt c))]) rfl (by decide) (fun _ h => h) (z_aload_n X (x := A 68) rfl (List.Mem.tail _ (List.Mem.tail _ (List.Mem.head _))) (z_load_n X (x := xv) rfl (List.Mem.tail _ (List.Mem.tail _ (List.Mem.tail _ (List.Mem.tail _ (List.Mem.head _))))) (z_load X (x := (iC t 79 ((zv + c)).toNat)) rfl (List.Mem.tail _ (List.Mem.head _)) (z_aload_n X (x := A 92) rfl (List.Mem.tail _ (List.Mem.tail _ (List.Mem.tail _ (List.Mem.head _)))) (z_load_n X (x := zv) rfl (List.Mem.tail _ (List.Mem.tail _ (List.Mem.tail _ (List.Mem.tail _ (List.Mem.tail _ (List.Mem.head _)))))) (z_load X (x := c) rfl (List.Mem.tail _ (List.Mem.tail _ (List.Mem.tail _ (List.Mem.tail _ (List.Mem.tail _ (List.Mem.tail _ (List.Mem.tail _ (List.Mem.head _)))))))) (z_add X rfl (z_const X rfl (z_add X rfl (z_ald X 92 rfl (c518_ok rfl) rfl (by first | exact oq_21f9cd09 hi.2.2.1.1 hi.2.2.2.2.1 | omega) (show ((zv + c) + 1) < 24 by first | exact oq_c07d830a hi.2.2.1.2 g1003 | omega) (cbig_ok rfl) ?_))))))))))
          have b1016 := bc_79 I (show (((zv + c) + 1)).toNat < 24 by first | exact oq_136cae15 hi.2.2.1.2 g1003 | omega)
          refine z_min X rfl (rng_to _) (rng_to _) (by rw [E.2.2.2]; decide) (by rw [E.2.2.2]; exact Nat.le_of_ble_eq_true rfl) (Nat.zero_le _) (Nat.zero_le _) (fun e1017 he1017 => ?_)
          refine z_load X (x := e1015) rfl (List.Mem.head _) (zcV_v0 X E 68 (As := [.int (Int32.ofInt xv), .int (Int32.ofInt e1017), .int (Int32.ofInt e1015)]) (st := []) rfl rfl rfl rfl (c9_setStep_68 G I (by first | exact ⟨hi.1.1, hi.1.2⟩ | omega) (by first | exact ⟨oq_03ccc143 he1017 b1016.1 b1002.1, oq_9c77db17 he1017 b1002.2⟩ | omega) (by first | exact ⟨hps1014.1, hps1014.2⟩ | omega)) rfl (Nat.le_of_ble_eq_true rfl) (fun s1018 Is1018 Fs1018 hps1018 => ?_))
          have Gs1018 := fm_tq F Fs1018 rfl rfl
          refine w_lconst X.1 (ax_d X (show cdA 107 94 = some (.lconst 1, 1, 0, 0, 0) from rfl)) rfl (z_anyJ (fun j1020 => ?_))
          refine z_load X (x := (iC t 79 ((zv + c)).toNat)) rfl (List.Mem.tail _ (List.Mem.head _)) (z_bipush X rfl (z_andm X rfl (by decide) (by decide) (fun y1021 hy1021 gy1021 => ?_)))
          refine w_lshl X.1 (ax_d X (show cdA 107 100 = some (.lshl, 1, 0, 0, 0) from rfl)) (z_anyJ (fun j1022 => ?_))
          refine w_lstore X.1 (lv' := [(8, .long j1022), (5, .int (Int32.ofInt e1015)), (7, .int (Int32.ofInt (iC t 79 ((zv + c)).toNat))), (0, .ref (A 68)), (2, .ref (A 92)), (1, .int (Int32.ofInt xv)), (3, .int (Int32.ofInt zv)), (4, .int (Int32.ofInt wv)), (6, .int (Int32.ofInt c))]) (ax_d X (show cdA 107 101 = some (.lstore 8, 2, 0, 0, 0) from rfl)) (by rw [X.2.1.2.2]; decide) (fun _ h => h) (z_aload_n X (x := A 68) rfl (List.Mem.tail _ (List.Mem.tail _ (List.Mem.tail _ (List.Mem.head _)))) (s_getR X 68 rfl (c518_ok rfl) rfl rfl (z_load_n X (x := xv) rfl (List.Mem.tail _ (List.Mem.tail _ (List.Mem.tail _ (List.Mem.tail _ (List.Mem.tail _ (List.Mem.head _)))))) (z_const X rfl (z_mul X rfl (z_load X (x := (iC t 79 ((zv + c)).toNat)) rfl (List.Mem.tail _ (List.Mem.tail _ (List.Mem.head _))) (z_bipush X rfl (z_quot X rfl (by first | exact b1002.1 | omega) (rng_to _) (by decide) (by decide) (z_add X rfl (w_dup2_11 X.1 (ax_d X (show cdA 107 116 = some (.dup2, 1, 0, 0, 0) from rfl)) rfl rfl (z_lald X 71 rfl (c518_ok rfl) rfl (by first | exact oq_c0bd8137 b1002.1 hi.1.1 | omega) (show ((xv * 2) + ((iC t 79 ((zv + c)).toNat) / 64)) < 24 by first | exact oq_c80b6473 b1002.2 hi.1.2 | omega) (cbig_ok rfl) (fun j1023 => ?_))))))))))))
          refine w_lload X.1 (ax_d X (show cdA 107 118 = some (.lload 8, 2, 0, 0, 0) from rfl)) (x := j1022) (List.Mem.head _) (w_lor X.1 (ax_d X (show cdA 107 120 = some (.lor, 1, 0, 0, 0) from rfl)) (z_anyJ (fun j1024 => ?_)))
          refine z_last X 71 rfl (c518_ok rfl) rfl (by first | exact oq_c0bd8137 b1002.1 hi.1.1 | omega) (show ((xv * 2) + ((iC t 79 ((zv + c)).toNat) / 64)) < 24 by first | exact oq_c80b6473 b1002.2 hi.1.2 | omega) (cbig_ok rfl) (wd_gen (fun s1025 hs1025 => ?_))
          have Is1025 : Bd s1025 := eqB hs1025 (bd_D Is1018)
          have Fs1025 : Fm [] [57, 58, 1059, 1060, 1061] s s1025 := by rw [hs1025]; exact fm_D Gs1018 (show 59 + 1000 ∈ _ by decide)
          refine z_aload_n X (x := A 68) rfl (List.Mem.tail _ (List.Mem.tail _ (List.Mem.tail _ (List.Mem.head _)))) (s_getR X 68 rfl (c518_ok rfl) rfl rfl (z_load_n X (x := xv) rfl (List.Mem.tail _ (List.Mem.tail _ (List.Mem.tail _ (List.Mem.tail _ (List.Mem.tail _ (List.Mem.head _)))))) (z_bipush X rfl (z_mul X rfl (z_load X (x := e1015) rfl (List.Mem.tail _ (List.Mem.head _)) (z_add X rfl (z_const X rfl (z_mul X rfl (z_load X (x := (iC t 79 ((zv + c)).toNat)) rfl (List.Mem.tail _ (List.Mem.tail _ (List.Mem.head _))) (z_bipush X rfl (z_quot X rfl (by first | exact b1002.1 | omega) (rng_to _) (by decide) (by decide) ?_)))))))))))
          refine z_add X rfl (w_dup2_11 X.1 (ax_d X (show cdA 107 141 = some (.dup2, 1, 0, 0, 0) from rfl)) rfl rfl (z_lald X 72 rfl (c518_ok rfl) rfl (by first | exact oq_f0013a75 hps1014.1 b1002.1 hi.1.1 | omega) (show ((((xv * 7) + e1015) * 2) + ((iC t 79 ((zv + c)).toNat) / 64)) < 168 by first | exact oq_2f745b71 hps1014.2 b1002.2 hi.1.2 | omega) (cbig_ok rfl) (fun j1026 => ?_)))
          refine w_lload X.1 (ax_d X (show cdA 107 143 = some (.lload 8, 2, 0, 0, 0) from rfl)) (x := j1022) (List.Mem.head _) (w_lor X.1 (ax_d X (show cdA 107 145 = some (.lor, 1, 0, 0, 0) from rfl)) (z_anyJ (fun j1027 => ?_)))
          refine z_last X 72 rfl (c518_ok rfl) rfl (by first | exact oq_f0013a75 hps1014.1 b1002.1 hi.1.1 | omega) (show ((((xv * 7) + e1015) * 2) + ((iC t 79 ((zv + c)).toNat) / 64)) < 168 by first | exact oq_2f745b71 hps1014.2 b1002.2 hi.1.2 | omega) (cbig_ok rfl) (wd_gen (fun s1028 hs1028 => ?_))
          have Is1028 : Bd s1028 := eqB hs1028 (bd_D Is1025)
          have Fs1028 : Fm [] [57, 58, 1059, 1060, 1061] s s1028 := by rw [hs1028]; exact fm_D Fs1025 (show 60 + 1000 ∈ _ by decide)
          refine z_inc X (x := c) (lv' := [(6, .int (Int32.ofInt (c + 1))), (8, .long j1022), (5, .int (Int32.ofInt e1015)), (7, .int (Int32.ofInt (iC t 79 ((zv + c)).toNat))), (0, .ref (A 68)), (2, .ref (A 92)), (1, .int (Int32.ofInt xv)), (3, .int (Int32.ofInt zv)), (4, .int (Int32.ofInt wv))]) rfl (by decide) (List.Mem.tail _ (List.Mem.tail _ (List.Mem.tail _ (List.Mem.tail _ (List.Mem.tail _ (List.Mem.tail _ (List.Mem.tail _ (List.Mem.tail _ (List.Mem.head _))))))))) (fun _ h => h) (z_goto X (t := 35) rfl rfl (WS_pq [4, 5, 6, 7, 8, 2, 0] (lv' := [(0, .ref (A 68)), (2, .ref (A 92)), (1, .int (Int32.ofInt xv)), (3, .int (Int32.ofInt zv)), (4, .int (Int32.ofInt wv)), (5, .int (Int32.ofInt e1015)), (6, .int (Int32.ofInt (c + 1)))]) rfl ?_))
          exact ih _ xv zv wv e1015 (c + 1) Is1028 Fs1028 (by first | exact ⟨And.intro (hi.1.1) (hi.1.2), And.intro (hi.2.1.1) (hi.2.1.2), And.intro (hi.2.2.1.1) (hi.2.2.1.2), And.intro (hps1014.1) (oq_b982df86 hps1014.2), oq_54f49eb5 hi.2.2.2.2.1, oq_bbeecdc2 g1003 hi.2.1.2⟩ | omega) (by first | exact qk_me hm (by decide) (oq_261750be g1003 hi.2.1.2) | omega) kx
  refine z_aload_n X (x := A 92) rfl (List.Mem.tail _ (List.Mem.tail _ (List.Mem.head _))) (z_load_n X (x := z) rfl (List.Mem.tail _ (List.Mem.tail _ (List.Mem.tail _ (List.Mem.head _)))) (z_aload_n X (x := A 68) rfl (List.Mem.head _) (s_getR X 68 rfl (c518_ok rfl) rfl rfl (z_load_n X (x := x) rfl (List.Mem.tail _ (List.Mem.head _)) (z_bipush X rfl (z_mul X rfl (z_load X (x := w) rfl (List.Mem.tail _ (List.Mem.tail _ (List.Mem.tail _ (List.Mem.tail _ (List.Mem.head _))))) (z_copy X I 92 69 (st := []) rfl (by decide) (by decide) rfl rfl (by omega) (by omega) (by omega) (show z + w ≤ ((24 : Nat) : Int) by omega) (show (x * 24) + w ≤ ((288 : Nat) : Int) by omega) (by decide) (by rw [E.2.2.2]; decide) (by rw [E.2.2.2]; exact Nat.le_of_ble_eq_true rfl) (fun s1 Is1 Fs1 => ?_)))))))))
  have Gs1 := fm_tq F Fs1 rfl rfl
  refine z_aload_n X (x := A 68) rfl (List.Mem.head _) (s_getR X 68 rfl (c518_ok rfl) rfl rfl (z_load_n X (x := x) rfl (List.Mem.tail _ (List.Mem.head _)) (z_load X (x := w) rfl (List.Mem.tail _ (List.Mem.tail _ (List.Mem.tail _ (List.Mem.tail _ (List.Mem.head _))))) (z_ast X 70 rfl (c518_ok rfl) rfl (by first | exact p0.1 | omega) (show x < 12 by first | exact oq_0ddfcfee p0.2 | omega) (cbig_ok rfl) (wd_gen (fun s2 hs2 => ?_))))))
  have Is2 : Bd s2 := eqB hs2 (bd_C Is1 (show (0 : Int) ≤ w ∧ w ≤ 24 by first | exact ⟨p1.1, p1.2⟩ | omega) ⟨by first | exact oq_fa4e5087 p1.1 | omega, by first | exact oq_5bcd337f p1.2 | omega⟩)
  have Fs2 := eqF hs2 (fm_C Gs1 (inl_ok (a := 58) rfl))
  refine z_aload_n X (x := A 68) rfl (List.Mem.head _) (z_load_n X (x := x) rfl (List.Mem.tail _ (List.Mem.head _)) (zcV_v0 X E 68 (As := [.int (Int32.ofInt x)]) (st := []) rfl rfl rfl rfl (c9_wipe_68 G Is2 (by first | exact ⟨p0.1, p0.2⟩ | omega)) rfl (Nat.le_of_ble_eq_true rfl) (fun s3 Is3 Fs3 hps3 => ?_)))
  have Gs3 := fm_tq Fs2 Fs3 rfl rfl
  refine z_bipush X rfl (z_store X (lv' := [(5, .int (Int32.ofInt 6)), (0, .ref (A 68)), (1, .int (Int32.ofInt x)), (2, .ref (A 92)), (3, .int (Int32.ofInt z)), (4, .int (Int32.ofInt w))]) rfl (by decide) (fun _ h => h) (z_const X rfl (z_store X (lv' := [(6, .int (Int32.ofInt 0)), (5, .int (Int32.ofInt 6)), (0, .ref (A 68)), (1, .int (Int32.ofInt x)), (2, .ref (A 92)), (3, .int (Int32.ofInt z)), (4, .int (Int32.ofInt w))]) rfl (by decide) (fun _ h => h) (WS_pq [2, 4, 3, 5, 6, 1, 0] (lv' := [(0, .ref (A 68)), (2, .ref (A 92)), (1, .int (Int32.ofInt x)), (3, .int (Int32.ofInt z)), (4, .int (Int32.ofInt w)), (5, .int (Int32.ofInt 6)), (6, .int (Int32.ofInt 0))]) rfl (L35 ((24 - 0 : Int).toNat + 1) s3 x z w 6 0 Is3 Gs3 (by first | exact ⟨And.intro (p0.1) (p0.2), And.intro (p1.1) (p1.2), And.intro (p2.1) (p2.2), And.intro (by decide) (by decide), by decide, by decide⟩ | omega) (Nat.lt_succ_self _) ?_)))))
  intro s5 x6 x7 Is5 Fs5 hs5
  exact w_vret X.1 q hRt (ax_d X (show cdA 107 153 = some (.return_, 1, 0, 0, 0) from rfl)) (Nat.zero_le _) (Nat.zero_le _) ⟨_, rfl, Is5, Fs5, rfl, trivial⟩
set_option maxRecDepth 4000 in
theorem c9_meetsOf_68 (G : GX l s0 D tys a0 dT) (I : Bd s) {x y z : Int} (p0 : 0 ≤ x ∧ x ≤ 11) (p1 : 0 ≤ y ∧ y ≤ 11) (p2 : 0 ≤ z ∧ z ≤ 1) : CT l s0 D A dT 111 (rmN 111) [.ref (A 68), .int (Int32.ofInt x), .int (Int32.ofInt y), .int (Int32.ofInt z)] s (fun o t => Bd t ∧ Fm [] [] s t ∧ ∃ e : Int64, o = .inl (some (.long e)) ∧ (True)) := by
  refine ct_ofX G (by decide) (Nat.le_of_ble_eq_true rfl) (fun k X E ET hRt hXt q => ?_)
  show WS k 0 [(0, .ref (A 68)), (1, .int (Int32.ofInt x)), (2, .int (Int32.ofInt y)), (3, .int (Int32.ofInt z))] [] _ 0 0
  have F : Fm [] [] s s := fm_rf _ _ s
  have L26 : ∀ (n : Nat) (t : PS) (xv : Int) (yv : Int) (zv : Int) (un : Int64) (g : Int), Bd t → Fm [] [] s t → ((0 ≤ xv ∧ xv ≤ 11) ∧ (0 ≤ yv ∧ yv ≤ 11) ∧ (0 ≤ zv ∧ zv ≤ 1) ∧ 0 ≤ g ∧ g ≤ 7) → (7 - g : Int).toNat < n → (∀ (t' : PS) (un' : Int64) (g' : Int), Bd t' → Fm [] [] s t' → ((0 ≤ xv ∧ xv ≤ 11) ∧ (0 ≤ yv ∧ yv ≤ 11) ∧ (0 ≤ zv ∧ zv ≤ 1) ∧ 0 ≤ g' ∧ g' ≤ 7) → WS k 88 [(0, .ref (A 68)), (1, .int (Int32.ofInt xv)), (2, .int (Int32.ofInt yv)), (3, .int (Int32.ofInt zv)), (4, .long un'), (6, .int (Int32.ofInt g'))] [] (Wd A dT t') 0 0) → WS k 26 [(0, .ref (A 68)), (1, .int (Int32.ofInt xv)), (2, .int (Int32.ofInt yv)), (3, .int (Int32.ofInt zv)), (4, .long un), (6, .int (Int32.ofInt g))] [] (Wd A dT t) 0 0 := by
    intro n
    induction n with
    | zero =>
      intro t xv yv zv un g I F hi hm kx
      exact absurd hm (Nat.not_lt_zero _)
    | succ n ih =>
      intro t xv yv zv un g I F hi hm kx
      refine z_load X (x := g) rfl (List.Mem.tail _ (List.Mem.tail _ (List.Mem.tail _ (List.Mem.tail _ (List.Mem.tail _ (List.Mem.head _)))))) (z_bipush X rfl (z_icmp_ge X (t := 88) rfl rfl ⟨by first | exact oq_fa4e5087 hi.2.2.2.1 | omega, by first | exact oq_0e78ca7d hi.2.2.2.2 | omega⟩ (by decide) (fun g1001 => ?_) (fun g1001 => ?_)))
      ·
        refine WS_pq [0, 1, 2, 3, 4, 5] (lv' := [(0, .ref (A 68)), (1, .int (Int32.ofInt xv)), (2, .int (Int32.ofInt yv)), (3, .int (Int32.ofInt zv)), (4, .long un), (6, .int (Int32.ofInt g))]) rfl ?_
        exact kx _ un g I F (by first | exact ⟨And.intro (hi.1.1) (hi.1.2), And.intro (hi.2.1.1) (hi.2.1.2), And.intro (hi.2.2.1.1) (hi.2.2.1.2), hi.2.2.2.1, hi.2.2.2.2⟩ | omega)
      ·
        refine w_lload X.1 (ax_d X (show cdA 111 33 = some (.lload 4, 2, 0, 0, 0) from rfl)) (x := un) (List.Mem.tail _ (List.Mem.tail _ (List.Mem.tail _ (List.Mem.tail _ (List.Mem.head _))))) (w_lconst X.1 (ax_d X (show cdA 111 35 = some (.lconst 0, 1, 0, 0, 0) from rfl)) rfl (z_anyJ (fun j1002 => ?_)))
        refine w_lcmp X.1 (ax_d X (show cdA 111 36 = some (.lcmp, 1, 0, 0, 0) from rfl)) (z_any (fun y1003 hy1003 => ?_))
        refine z_if_eq X (t := 88) rfl rfl hy1003 (fun g1004 => ?_) (fun g1004 => ?_)
        ·
          refine WS_pq [0, 1, 2, 3, 4, 5] (lv' := [(0, .ref (A 68)), (1, .int (Int32.ofInt xv)), (2, .int (Int32.ofInt yv)), (3, .int (Int32.ofInt zv)), (4, .long un), (6, .int (Int32.ofInt g))]) rfl ?_
          exact kx _ un g I F (by first | exact ⟨And.intro (hi.1.1) (hi.1.2), And.intro (hi.2.1.1) (hi.2.1.2), And.intro (hi.2.2.1.1) (hi.2.2.1.2), hi.2.2.2.1, hi.2.2.2.2⟩ | omega)
        ·
          refine w_lload X.1 (ax_d X (show cdA 111 40 = some (.lload 4, 2, 0, 0, 0) from rfl)) (x := un) (List.Mem.tail _ (List.Mem.tail _ (List.Mem.tail _ (List.Mem.tail _ (List.Mem.head _))))) (z_aload_n X (x := A 68) rfl (List.Mem.head _) (s_getR X 68 rfl (c518_ok rfl) rfl rfl (z_load_n X (x := xv) rfl (List.Mem.tail _ (List.Mem.head _)) (z_bipush X rfl (z_mul X rfl (z_load X (x := g) rfl (List.Mem.tail _ (List.Mem.tail _ (List.Mem.tail _ (List.Mem.tail _ (List.Mem.tail _ (List.Mem.head _)))))) (z_add X rfl (z_const X rfl (z_mul X rfl (z_load_n X (x := zv) rfl (List.Mem.tail _ (List.Mem.tail _ (List.Mem.tail _ (List.Mem.head _)))) (z_add X rfl ?_)))))))))))
          refine z_lald X 72 rfl (c518_ok rfl) rfl (by first | exact oq_952f4f1b hi.1.1 hi.2.2.2.1 hi.2.2.1.1 | omega) (show ((((xv * 7) + g) * 2) + zv) < 168 by first | exact oq_46bcb755 hi.1.2 hi.2.2.1.2 g1001 | omega) (cbig_ok rfl) (fun j1005 => ?_)
          refine z_aload_n X (x := A 68) rfl (List.Mem.head _) (s_getR X 68 rfl (c518_ok rfl) rfl rfl (z_load_n X (x := yv) rfl (List.Mem.tail _ (List.Mem.tail _ (List.Mem.head _))) (z_bipush X rfl (z_mul X rfl (z_load X (x := g) rfl (List.Mem.tail _ (List.Mem.tail _ (List.Mem.tail _ (List.Mem.tail _ (List.Mem.tail _ (List.Mem.head _)))))) (z_add X rfl (z_const X rfl (z_mul X rfl (z_load_n X (x := zv) rfl (List.Mem.tail _ (List.Mem.tail _ (List.Mem.tail _ (List.Mem.head _)))) (z_add X rfl (z_lald X 72 rfl (c518_ok rfl) rfl (by first | exact oq_952f4f1b hi.2.1.1 hi.2.2.2.1 hi.2.2.1.1 | omega) (show ((((yv * 7) + g) * 2) + zv) < 168 by first | exact oq_46bcb755 hi.2.1.2 hi.2.2.1.2 g1001 | omega) (cbig_ok rfl) (fun j1006 => ?_))))))))))))
          refine w_land X.1 (ax_d X (show cdA 111 74 = some (.land, 1, 0, 0, 0) from rfl)) (z_anyJ (fun j1007 => ?_))
          refine z_ldc2 X rfl (fun j1008 => ?_)
          refine w_lxor X.1 (ax_d X (show cdA 111 78 = some (.lxor, 1, 0, 0, 0) from rfl)) (z_anyJ (fun j1009 => ?_))
          refine w_land X.1 (ax_d X (show cdA 111 79 = some (.land, 1, 0, 0, 0) from rfl)) (z_anyJ (fun j1010 => ?_))
          refine w_lstore X.1 (lv' := [(4, .long j1010), (0, .ref (A 68)), (1, .int (Int32.ofInt xv)), (2, .int (Int32.ofInt yv)), (3, .int (Int32.ofInt zv)), (6, .int (Int32.ofInt g))]) (ax_d X (show cdA 111 80 = some (.lstore 4, 2, 0, 0, 0) from rfl)) (by rw [X.2.1.2.2]; decide) (fun _ h => h) (z_inc X (x := g) (lv' := [(6, .int (Int32.ofInt (g + 1))), (4, .long j1010), (0, .ref (A 68)), (1, .int (Int32.ofInt xv)), (2, .int (Int32.ofInt yv)), (3, .int (Int32.ofInt zv))]) rfl (by decide) (List.Mem.tail _ (List.Mem.tail _ (List.Mem.tail _ (List.Mem.tail _ (List.Mem.tail _ (List.Mem.head _)))))) (fun _ h => h) (z_goto X (t := 26) rfl rfl (WS_pq [2, 3, 4, 5, 1, 0] (lv' := [(0, .ref (A 68)), (1, .int (Int32.ofInt xv)), (2, .int (Int32.ofInt yv)), (3, .int (Int32.ofInt zv)), (4, .long j1010), (6, .int (Int32.ofInt (g + 1)))]) rfl ?_)))
          exact ih _ xv yv zv j1010 (g + 1) I F (by first | exact ⟨And.intro (hi.1.1) (hi.1.2), And.intro (hi.2.1.1) (hi.2.1.2), And.intro (hi.2.2.1.1) (hi.2.2.1.2), oq_54f49eb5 hi.2.2.2.1, oq_c22ff062 g1001⟩ | omega) (by first | exact qk_me hm (by decide) (oq_4b3bf825 g1001) | omega) kx
  refine z_aload_n X (x := A 68) rfl (List.Mem.head _) (s_getR X 68 rfl (c518_ok rfl) rfl rfl (z_load_n X (x := x) rfl (List.Mem.tail _ (List.Mem.head _)) (z_const X rfl (z_mul X rfl (z_load_n X (x := z) rfl (List.Mem.tail _ (List.Mem.tail _ (List.Mem.tail _ (List.Mem.head _)))) (z_add X rfl (z_lald X 71 rfl (c518_ok rfl) rfl (by first | exact oq_ff754f74 p0.1 p2.1 | omega) (show ((x * 2) + z) < 24 by first | exact oq_7b14761e p0.2 p2.2 | omega) (cbig_ok rfl) (fun j1 => ?_))))))))
  refine z_aload_n X (x := A 68) rfl (List.Mem.head _) (s_getR X 68 rfl (c518_ok rfl) rfl rfl (z_load_n X (x := y) rfl (List.Mem.tail _ (List.Mem.tail _ (List.Mem.head _))) (z_const X rfl (z_mul X rfl (z_load_n X (x := z) rfl (List.Mem.tail _ (List.Mem.tail _ (List.Mem.tail _ (List.Mem.head _)))) (z_add X rfl (z_lald X 71 rfl (c518_ok rfl) rfl (by first | exact oq_ff754f74 p1.1 p2.1 | omega) (show ((y * 2) + z) < 24 by first | exact oq_7b14761e p1.2 p2.2 | omega) (cbig_ok rfl) (fun j2 => ?_))))))))
  refine w_land X.1 (ax_d X (show cdA 111 20 = some (.land, 1, 0, 0, 0) from rfl)) (z_anyJ (fun j3 => ?_))
  refine w_lstore X.1 (lv' := [(4, .long j3), (0, .ref (A 68)), (1, .int (Int32.ofInt x)), (2, .int (Int32.ofInt y)), (3, .int (Int32.ofInt z))]) (ax_d X (show cdA 111 21 = some (.lstore 4, 2, 0, 0, 0) from rfl)) (by rw [X.2.1.2.2]; decide) (fun _ h => h) (z_const X rfl (z_store X (lv' := [(6, .int (Int32.ofInt 0)), (4, .long j3), (0, .ref (A 68)), (1, .int (Int32.ofInt x)), (2, .int (Int32.ofInt y)), (3, .int (Int32.ofInt z))]) rfl (by decide) (fun _ h => h) (WS_pq [2, 3, 4, 5, 1, 0] (lv' := [(0, .ref (A 68)), (1, .int (Int32.ofInt x)), (2, .int (Int32.ofInt y)), (3, .int (Int32.ofInt z)), (4, .long j3), (6, .int (Int32.ofInt 0))]) rfl (L26 ((7 - 0 : Int).toNat + 1) s x y z j3 0 I F (by first | exact ⟨And.intro (p0.1) (p0.2), And.intro (p1.1) (p1.2), And.intro (p2.1) (p2.2), by decide, by decide⟩ | omega) (Nat.lt_succ_self _) ?_))))
  intro s4 x5 x6 Is4 Fs4 hs4
  exact w_lload X.1 (ax_d X (show cdA 111 88 = some (.lload 4, 2, 0, 0, 0) from rfl)) (x := x5) (List.Mem.tail _ (List.Mem.tail _ (List.Mem.tail _ (List.Mem.tail _ (List.Mem.head _))))) (w_lret X.1 q hRt (ax_d X (show cdA 111 90 = some (.lreturn, 1, 0, 0, 0) from rfl)) (Nat.zero_le _) (Nat.zero_le _) ⟨_, rfl, Is4, Fs4, x5, rfl, trivial⟩)
set_option maxRecDepth 4000 in
theorem c9_pairUp_68 (G : GX l s0 D tys a0 dT) (I : Bd s)  : CT l s0 D A dT 110 (rmN 110) [.ref (A 68)] s (fun o t => Bd t ∧ Fm [44] [62, 1063] s t ∧ o = .inl none ∧ (True)) := by
  refine ct_ofX G (by decide) (Nat.le_of_ble_eq_true rfl) (fun k X E ET hRt hXt q => ?_)
  show WS k 0 [(0, .ref (A 68))] [] _ 0 0
  have F : Fm [44] [62, 1063] s s := fm_rf _ _ s
  have b1 := bi_43 I
  have b2 := bi_44 I
  have L19 : ∀ (n : Nat) (t : PS) (a b : Int), Bd t → Fm [44] [62, 1063] s t → ((0 ≤ a ∧ a ≤ 11) ∧ 0 ≤ b ∧ b ≤ 12) → (12 - b : Int).toNat < n → (∀ (t' : PS) (b' : Int), Bd t' → Fm [44] [62, 1063] s t' → ((0 ≤ a ∧ a ≤ 11) ∧ 0 ≤ b' ∧ b' ≤ 12) → WS k 120 [(0, .ref (A 68)), (1, .int (Int32.ofInt a)), (2, .int (Int32.ofInt b'))] [] (Wd A dT t') 0 0) → WS k 19 [(0, .ref (A 68)), (1, .int (Int32.ofInt a)), (2, .int (Int32.ofInt b))] [] (Wd A dT t) 0 0 := by
    intro n
    induction n with
    | zero =>
      intro t a b I F hi hm kx
      exact absurd hm (Nat.not_lt_zero _)
    | succ n ih =>
      intro t a b I F hi hm kx
      have b1001 := bi_43 I
      have b1002 := bi_44 I
      refine z_load_n X (x := b) rfl (List.Mem.tail _ (List.Mem.tail _ (List.Mem.head _))) (z_aload_n X (x := A 68) rfl (List.Mem.head _) (z_getI X 68 rfl (c518_ok rfl) rfl rfl ?_))
      have b1003 := bi_43 I
      refine z_icmp_ge X (t := 120) rfl rfl ⟨by first | exact oq_fa4e5087 hi.2.1 | omega, by first | exact oq_78843a64 hi.2.2 | omega⟩ (rng_to _) (fun g1004 => ?_) (fun g1004 => ?_)
      ·
        refine WS_pq [0, 1, 2] (lv' := [(0, .ref (A 68)), (1, .int (Int32.ofInt a)), (2, .int (Int32.ofInt b))]) rfl ?_
        exact kx _ b I F (by first | exact ⟨And.intro (hi.1.1) (hi.1.2), hi.2.1, hi.2.2⟩ | omega)
      ·
        refine z_aload_n X (x := A 68) rfl (List.Mem.head _) (z_load_n X (x := a) rfl (List.Mem.tail _ (List.Mem.head _)) (z_load_n X (x := b) rfl (List.Mem.tail _ (List.Mem.tail _ (List.Mem.head _))) (z_const X rfl (z_callV X 68 (rm := rmN 111) (As := [.int (Int32.ofInt a), .int (Int32.ofInt b), .int (Int32.ofInt 0)]) (st := []) rfl rfl (by decide) rfl (by rw [E.1, E.2.1, E.2.2.1]; exact c9_meetsOf_68 G I (by first | exact ⟨hi.1.1, hi.1.2⟩ | omega) (by first | exact ⟨hi.2.1, oq_e4d7f3c5 g1004 b1003.2⟩ | omega) (by first | exact ⟨by decide, by decide⟩ | omega)) ⟨by rw [E.2.2.2]; exact (show (rmN 111).frames + 1 ≤ (rmN 110).frames by decide), by rw [E.2.2.2]; exact (show 8 + (mNL (miB 111) + 11) + (rmN 111).locals ≤ (rmN 110).locals by decide), by rw [E.2.2.2]; exact (show 0 + (rmN 111).cells ≤ (rmN 110).cells by decide), by rw [E.2.2.2]; exact (show 0 + (rmN 111).slots ≤ (rmN 110).slots by decide)⟩ (Nat.le_of_ble_eq_true rfl) (fun vv s1005 hq => ?_) (fun ee s1005 hq => ?_)))))
        rotate_left
        · obtain ⟨Is1005, Fs1005, e1006, hv, hrs1005, hps1005⟩ := hq; cases hv
        obtain ⟨Is1005, Fs1005, e1006, hv, hrs1005, hps1005⟩ := hq
        cases hv
        have Gs1005 := fm_tq F Fs1005 rfl rfl
        have ws1005_43 : iI s1005 43 = iI t 43 := fm_iq Fs1005 rfl
        have ws1005_44 : iI s1005 44 = iI t 44 := fm_iq Fs1005 rfl
        show WS k 34 [(0, .ref (A 68)), (1, .int (Int32.ofInt a)), (2, .int (Int32.ofInt b))] [.long e1006] (Wd A dT s1005) 0 0
        refine w_lstore_n X.1 (lv' := [(3, .long e1006), (0, .ref (A 68)), (1, .int (Int32.ofInt a)), (2, .int (Int32.ofInt b))]) (ax_d X (show cdA 110 34 = some (.lstore_n 3, 1, 0, 0, 0) from rfl)) (by rw [X.2.1.2.2]; decide) (fun _ h => h) (z_aload_n X (x := A 68) rfl (List.Mem.tail _ (List.Mem.head _)) (z_load_n X (x := a) rfl (List.Mem.tail _ (List.Mem.tail _ (List.Mem.head _))) (z_load_n X (x := b) rfl (List.Mem.tail _ (List.Mem.tail _ (List.Mem.tail _ (List.Mem.head _)))) (z_const X rfl (z_callV X 68 (rm := rmN 111) (As := [.int (Int32.ofInt a), .int (Int32.ofInt b), .int (Int32.ofInt 1)]) (st := []) rfl rfl (by decide) rfl (by rw [E.1, E.2.1, E.2.2.1]; exact c9_meetsOf_68 G Is1005 (by first | exact ⟨hi.1.1, hi.1.2⟩ | omega) (by first | exact ⟨hi.2.1, oq_e4d7f3c5 g1004 b1003.2⟩ | omega) (by first | exact ⟨by decide, by decide⟩ | omega)) ⟨by rw [E.2.2.2]; exact (show (rmN 111).frames + 1 ≤ (rmN 110).frames by decide), by rw [E.2.2.2]; exact (show 8 + (mNL (miB 111) + 11) + (rmN 111).locals ≤ (rmN 110).locals by decide), by rw [E.2.2.2]; exact (show 0 + (rmN 111).cells ≤ (rmN 110).cells by decide), by rw [E.2.2.2]; exact (show 0 + (rmN 111).slots ≤ (rmN 110).slots by decide)⟩ (Nat.le_of_ble_eq_true rfl) (fun vv s1007 hq => ?_) (fun ee s1007 hq => ?_))))))
        rotate_left
        · obtain ⟨Is1007, Fs1007, e1008, hv, hrs1007, hps1007⟩ := hq; cases hv
        obtain ⟨Is1007, Fs1007, e1008, hv, hrs1007, hps1007⟩ := hq
        cases hv
        have Gs1007 := fm_tq Gs1005 Fs1007 rfl rfl
        have ws1007_43 : iI s1007 43 = iI s1005 43 := fm_iq Fs1007 rfl
        have ws1007_44 : iI s1007 44 = iI s1005 44 := fm_iq Fs1007 rfl
        show WS k 42 [(3, .long e1006), (0, .ref (A 68)), (1, .int (Int32.ofInt a)), (2, .int (Int32.ofInt b))] [.long e1008] (Wd A dT s1007) 0 0
        refine w_lstore X.1 (lv' := [(5, .long e1008), (3, .long e1006), (0, .ref (A 68)), (1, .int (Int32.ofInt a)), (2, .int (Int32.ofInt b))]) (ax_d X (show cdA 110 42 = some (.lstore 5, 2, 0, 0, 0) from rfl)) (by rw [X.2.1.2.2]; decide) (fun _ h => h) (w_lload_n X.1 (ax_d X (show cdA 110 44 = some (.lload_n 3, 1, 0, 0, 0) from rfl)) (x := e1006) (List.Mem.tail _ (List.Mem.head _)) (w_lload X.1 (ax_d X (show cdA 110 45 = some (.lload 5, 2, 0, 0, 0) from rfl)) (x := e1008) (List.Mem.head _) (w_lor X.1 (ax_d X (show cdA 110 47 = some (.lor, 1, 0, 0, 0) from rfl)) (z_anyJ (fun j1009 => ?_)))))
        refine w_lconst X.1 (ax_d X (show cdA 110 48 = some (.lconst 0, 1, 0, 0, 0) from rfl)) rfl (z_anyJ (fun j1010 => ?_))
        refine w_lcmp X.1 (ax_d X (show cdA 110 49 = some (.lcmp, 1, 0, 0, 0) from rfl)) (z_any (fun y1011 hy1011 => ?_))
        refine z_if_eq X (t := 114) rfl rfl hy1011 (fun g1012 => ?_) (fun g1012 => ?_)
        ·
          refine z_inc X (x := b) (lv' := [(2, .int (Int32.ofInt (b + 1))), (5, .long e1008), (3, .long e1006), (0, .ref (A 68)), (1, .int (Int32.ofInt a))]) rfl (by decide) (List.Mem.tail _ (List.Mem.tail _ (List.Mem.tail _ (List.Mem.tail _ (List.Mem.head _))))) (fun _ h => h) (z_goto X (t := 19) rfl rfl (WS_pq [3, 4, 0] (lv' := [(0, .ref (A 68)), (1, .int (Int32.ofInt a)), (2, .int (Int32.ofInt (b + 1)))]) rfl ?_))
          exact ih _ a (b + 1) Is1007 Gs1007 (by first | exact ⟨And.intro (hi.1.1) (hi.1.2), oq_54f49eb5 hi.2.1, oq_4dae995e g1004 b1003.2⟩ | omega) (by first | exact qk_me hm (by decide) (oq_b575e8c1 g1004 b1003.2) | omega) kx
        ·
          refine z_aload_n X (x := A 68) rfl (List.Mem.tail _ (List.Mem.tail _ (List.Mem.head _))) (z_getI X 68 rfl (c518_ok rfl) rfl rfl ?_)
          have b1013 := bi_44 Is1007
          refine z_bipush X rfl (z_icmp_ge X (t := 114) rfl rfl (rng_to _) (by decide) (fun g1014 => ?_) (fun g1014 => ?_))
          ·
            refine z_inc X (x := b) (lv' := [(2, .int (Int32.ofInt (b + 1))), (5, .long e1008), (3, .long e1006), (0, .ref (A 68)), (1, .int (Int32.ofInt a))]) rfl (by decide) (List.Mem.tail _ (List.Mem.tail _ (List.Mem.tail _ (List.Mem.tail _ (List.Mem.head _))))) (fun _ h => h) (z_goto X (t := 19) rfl rfl (WS_pq [3, 4, 0] (lv' := [(0, .ref (A 68)), (1, .int (Int32.ofInt a)), (2, .int (Int32.ofInt (b + 1)))]) rfl ?_))
            exact ih _ a (b + 1) Is1007 Gs1007 (by first | exact ⟨And.intro (hi.1.1) (hi.1.2), oq_54f49eb5 hi.2.1, oq_4dae995e g1004 b1003.2⟩ | omega) (by first | exact qk_me hm (by decide) (oq_b575e8c1 g1004 b1003.2) | omega) kx
          ·
            refine z_aload_n X (x := A 68) rfl (List.Mem.tail _ (List.Mem.tail _ (List.Mem.head _))) (s_getR X 68 rfl (c518_ok rfl) rfl rfl (z_aload_n X (x := A 68) rfl (List.Mem.tail _ (List.Mem.tail _ (List.Mem.head _))) (z_getI X 68 rfl (c518_ok rfl) rfl rfl ?_)))
            have b1015 := bi_44 Is1007
            refine z_load_n X (x := a) rfl (List.Mem.tail _ (List.Mem.tail _ (List.Mem.tail _ (List.Mem.head _)))) (z_bipush X rfl (z_mul X rfl (z_load_n X (x := b) rfl (List.Mem.tail _ (List.Mem.tail _ (List.Mem.tail _ (List.Mem.tail _ (List.Mem.head _))))) (z_add X rfl (z_ast X 74 rfl (c518_ok rfl) rfl (by first | exact b1015.1 | omega) (show (iI s1007 44) < 66 by first | exact g1014 | omega) (cbig_ok rfl) (wd_gen (fun s1016 hs1016 => ?_)))))))
            have Is1016 : Bd s1016 := eqB hs1016 (bd_C Is1007 (show (0 : Int) ≤ ((a * 12) + b) ∧ ((a * 12) + b) ≤ 143 by first | exact ⟨oq_0f03f1de hi.1.1 hi.2.1, oq_46995298 hi.1.2 g1004 b1003.2⟩ | omega) ⟨by first | exact oq_19cf0865 hi.1.1 hi.2.1 | omega, by first | exact oq_b7b88ba9 hi.1.2 hi.2.2 | omega⟩)
            have Fs1016 := eqF hs1016 (fm_C Gs1007 (inl_ok (a := 62) rfl))
            have ws1016_43 : iI s1016 43 = iI s1007 43 := eqI hs1016 rfl
            have ws1016_44 : iI s1016 44 = iI s1007 44 := eqI hs1016 rfl
            refine z_aload_n X (x := A 68) rfl (List.Mem.tail _ (List.Mem.tail _ (List.Mem.head _))) (s_getR X 68 rfl (c518_ok rfl) rfl rfl (z_aload_n X (x := A 68) rfl (List.Mem.tail _ (List.Mem.tail _ (List.Mem.head _))) (z_getI X 68 rfl (c518_ok rfl) rfl rfl ?_)))
            have b1017 := bi_44 Is1016
            refine z_const X rfl (z_mul X rfl (w_lload_n X.1 (ax_d X (show cdA 110 87 = some (.lload_n 3, 1, 0, 0, 0) from rfl)) (x := e1006) (List.Mem.tail _ (List.Mem.head _)) (z_last X 75 rfl (c518_ok rfl) rfl (by first | exact oq_cfc6ac54 b1017.1 | omega) (show ((iI s1016 44) * 2) < 132 by first | exact oq_0ba3fcc8 ws1016_44 g1014 | omega) (cbig_ok rfl) (wd_gen (fun s1018 hs1018 => ?_)))))
            have Is1018 : Bd s1018 := eqB hs1018 (bd_D Is1016)
            have Fs1018 : Fm [44] [62, 1063] s s1018 := by rw [hs1018]; exact fm_D Fs1016 (show 63 + 1000 ∈ _ by decide)
            have ws1018_43 : iI s1018 43 = iI s1016 43 := eqI hs1018 rfl
            have ws1018_44 : iI s1018 44 = iI s1016 44 := eqI hs1018 rfl
            refine z_aload_n X (x := A 68) rfl (List.Mem.tail _ (List.Mem.tail _ (List.Mem.head _))) (s_getR X 68 rfl (c518_ok rfl) rfl rfl (z_aload_n X (x := A 68) rfl (List.Mem.tail _ (List.Mem.tail _ (List.Mem.head _))) (z_getI X 68 rfl (c518_ok rfl) rfl rfl ?_)))
            have b1019 := bi_44 Is1018
            refine z_const X rfl (z_mul X rfl (z_const X rfl (z_add X rfl (w_lload X.1 (ax_d X (show cdA 110 101 = some (.lload 5, 2, 0, 0, 0) from rfl)) (x := e1008) (List.Mem.head _) (z_last X 75 rfl (c518_ok rfl) rfl (by first | exact oq_8a3e0277 b1019.1 | omega) (show (((iI s1018 44) * 2) + 1) < 132 by first | exact oq_1191648c ws1018_44 ws1016_44 g1014 | omega) (cbig_ok rfl) (wd_gen (fun s1020 hs1020 => ?_)))))))
            have Is1020 : Bd s1020 := eqB hs1020 (bd_D Is1018)
            have Fs1020 : Fm [44] [62, 1063] s s1020 := by rw [hs1020]; exact fm_D Fs1018 (show 63 + 1000 ∈ _ by decide)
            have ws1020_43 : iI s1020 43 = iI s1018 43 := eqI hs1020 rfl
            have ws1020_44 : iI s1020 44 = iI s1018 44 := eqI hs1020 rfl
            refine z_aload_n X (x := A 68) rfl (List.Mem.tail _ (List.Mem.tail _ (List.Mem.head _))) (w_dup X.1 (ax_d X (show cdA 110 105 = some (.dup, 1, 0, 0, 0) from rfl)) rfl (z_getI X 68 rfl (c518_ok rfl) rfl rfl ?_))
            have b1021 := bi_44 Is1020
            refine z_const X rfl (z_add X rfl (s_putI X 68 rfl (c518_ok rfl) rfl rfl (by decide) rfl rfl rfl (wd_gen (fun s1022 hs1022 => ?_))))
            have Is1022 : Bd s1022 := eqB hs1022 (bd_I Is1020 (show (0 : Int) ≤ ((iI s1020 44) + 1) ∧ ((iI s1020 44) + 1) ≤ 66 by first | exact ⟨oq_54f49eb5 b1021.1, oq_98f08201 ws1020_44 ws1018_44 ws1016_44 g1014⟩ | omega) ⟨by first | exact oq_74de1e16 b1021.1 | omega, by first | exact oq_d99c2177 b1021.2 | omega⟩)
            have Fs1022 := eqF hs1022 (fm_I Fs1020 (inl_ok (a := 44) rfl))
            have vs1022 : iI s1022 44 = ((iI s1020 44) + 1) := eqI hs1022 (iI_u ⟨by first | exact oq_74de1e16 b1021.1 | omega, by first | exact oq_d99c2177 b1021.2 | omega⟩)
            have ws1022_43 : iI s1022 43 = iI s1020 43 := eqI hs1022 rfl
            refine z_inc X (x := b) (lv' := [(2, .int (Int32.ofInt (b + 1))), (5, .long e1008), (3, .long e1006), (0, .ref (A 68)), (1, .int (Int32.ofInt a))]) rfl (by decide) (List.Mem.tail _ (List.Mem.tail _ (List.Mem.tail _ (List.Mem.tail _ (List.Mem.head _))))) (fun _ h => h) (z_goto X (t := 19) rfl rfl (WS_pq [3, 4, 0] (lv' := [(0, .ref (A 68)), (1, .int (Int32.ofInt a)), (2, .int (Int32.ofInt (b + 1)))]) rfl ?_))
            exact ih _ a (b + 1) Is1022 Fs1022 (by first | exact ⟨And.intro (hi.1.1) (hi.1.2), oq_54f49eb5 hi.2.1, oq_4dae995e g1004 b1003.2⟩ | omega) (by first | exact qk_me hm (by decide) (oq_b575e8c1 g1004 b1003.2) | omega) kx
  have L7 : ∀ (n : Nat) (t : PS) (a : Int), Bd t → Fm [44] [62, 1063] s t → (0 ≤ a ∧ a ≤ 12) → (12 - a : Int).toNat < n → (∀ (t' : PS) (a' : Int), Bd t' → Fm [44] [62, 1063] s t' → (0 ≤ a' ∧ a' ≤ 12) → WS k 126 [(0, .ref (A 68)), (1, .int (Int32.ofInt a'))] [] (Wd A dT t') 0 0) → WS k 7 [(0, .ref (A 68)), (1, .int (Int32.ofInt a))] [] (Wd A dT t) 0 0 := by
    intro n
    induction n with
    | zero =>
      intro t a I F hi hm kx
      exact absurd hm (Nat.not_lt_zero _)
    | succ n ih =>
      intro t a I F hi hm kx
      have b2001 := bi_43 I
      have b2002 := bi_44 I
      refine z_load_n X (x := a) rfl (List.Mem.tail _ (List.Mem.head _)) (z_aload_n X (x := A 68) rfl (List.Mem.head _) (z_getI X 68 rfl (c518_ok rfl) rfl rfl ?_))
      have b2003 := bi_43 I
      refine z_icmp_ge X (t := 126) rfl rfl ⟨by first | exact oq_fa4e5087 hi.1 | omega, by first | exact oq_78843a64 hi.2 | omega⟩ (rng_to _) (fun g2004 => ?_) (fun g2004 => ?_)
      ·
        refine WS_pq [0, 1] (lv' := [(0, .ref (A 68)), (1, .int (Int32.ofInt a))]) rfl ?_
        exact kx _ a I F (by first | exact ⟨hi.1, hi.2⟩ | omega)
      ·
        refine z_load_n X (x := a) rfl (List.Mem.tail _ (List.Mem.head _)) (z_const X rfl (z_add X rfl (z_store_n X (lv' := [(2, .int (Int32.ofInt (a + 1))), (0, .ref (A 68)), (1, .int (Int32.ofInt a))]) rfl (by decide) (fun _ h => h) (WS_pq [1, 2, 0] (lv' := [(0, .ref (A 68)), (1, .int (Int32.ofInt a)), (2, .int (Int32.ofInt (a + 1)))]) rfl (L19 ((12 - (a + 1) : Int).toNat + 1) t a (a + 1) I F (by first | exact ⟨And.intro (hi.1) (oq_e4d7f3c5 g2004 b2003.2), oq_54f49eb5 hi.1, oq_4dae995e g2004 b2003.2⟩ | omega) (Nat.lt_succ_self _) ?_)))))
        intro s2005 x2006 Is2005 Fs2005 hs2005
        have b2007 := bi_43 Is2005
        have b2008 := bi_44 Is2005
        refine z_inc X (x := a) (lv' := [(1, .int (Int32.ofInt (a + 1))), (0, .ref (A 68)), (2, .int (Int32.ofInt x2006))]) rfl (by decide) (List.Mem.tail _ (List.Mem.head _)) (fun _ h => h) (z_goto X (t := 7) rfl rfl (WS_pq [1, 0] (lv' := [(0, .ref (A 68)), (1, .int (Int32.ofInt (a + 1)))]) rfl ?_))
        exact ih _ (a + 1) Is2005 Fs2005 (by first | exact ⟨oq_54f49eb5 hs2005.1.1, oq_51d1204d hs2005.1.2⟩ | omega) (by first | exact qk_me hm (by decide) (oq_8b937940 hs2005.1.2) | omega) kx
  refine z_aload_n X (x := A 68) rfl (List.Mem.head _) (z_const X rfl (s_putI X 68 rfl (c518_ok rfl) rfl rfl (by decide) rfl rfl rfl (wd_gen (fun s3 hs3 => ?_))))
  have Is3 : Bd s3 := eqB hs3 (bd_I I (show (0 : Int) ≤ 0 ∧ 0 ≤ 66 by first | exact ⟨by decide, by decide⟩ | omega) (by decide))
  have Fs3 := eqF hs3 (fm_I F (inl_ok (a := 44) rfl))
  have vs3 : iI s3 44 = 0 := eqI hs3 (iI_u (by decide))
  have ws3_43 : iI s3 43 = iI s 43 := eqI hs3 rfl
  refine z_const X rfl (z_store_n X (lv' := [(1, .int (Int32.ofInt 0)), (0, .ref (A 68))]) rfl (by decide) (fun _ h => h) (WS_pq [1, 0] (lv' := [(0, .ref (A 68)), (1, .int (Int32.ofInt 0))]) rfl (L7 ((12 - 0 : Int).toNat + 1) s3 0 Is3 Fs3 (by first | exact ⟨by decide, by decide⟩ | omega) (Nat.lt_succ_self _) ?_)))
  intro s4 x5 Is4 Fs4 hs4
  have b6 := bi_43 Is4
  have b7 := bi_44 Is4
  exact w_vret X.1 q hRt (ax_d X (show cdA 110 126 = some (.return_, 1, 0, 0, 0) from rfl)) (Nat.zero_le _) (Nat.zero_le _) ⟨_, rfl, Is4, Fs4, rfl, trivial⟩
set_option maxRecDepth 4000 in
theorem c9_allMeets_3 (G : GX l s0 D tys a0 dT) (I : Bd s) {x : Int} (p0 : 0 ≤ x ∧ x ≤ 1) : CT l s0 D A dT 112 (rmN 112) [.ref (A 3), .int (Int32.ofInt x)] s (fun o t => Bd t ∧ Fm [] [] s t ∧ ∃ e : Int64, o = .inl (some (.long e)) ∧ (True)) := by
  refine ct_ofX G (by decide) (Nat.le_of_ble_eq_true rfl) (fun k X E ET hRt hXt q => ?_)
  show WS k 0 [(0, .ref (A 3)), (1, .int (Int32.ofInt x))] [] _ 0 0
  have F : Fm [] [] s s := fm_rf _ _ s
  have b1 := bi_10 I
  have L5 : ∀ (n : Nat) (t : PS) (xv : Int) (al : Int64) (c : Int), Bd t → Fm [] [] s t → ((0 ≤ xv ∧ xv ≤ 1) ∧ 0 ≤ c ∧ c ≤ 66) → (66 - c : Int).toNat < n → (∀ (t' : PS) (al' : Int64) (c' : Int), Bd t' → Fm [] [] s t' → ((0 ≤ xv ∧ xv ≤ 1) ∧ 0 ≤ c' ∧ c' ≤ 66) → WS k 34 [(0, .ref (A 3)), (1, .int (Int32.ofInt xv)), (2, .long al'), (4, .int (Int32.ofInt c'))] [] (Wd A dT t') 0 0) → WS k 5 [(0, .ref (A 3)), (1, .int (Int32.ofInt xv)), (2, .long al), (4, .int (Int32.ofInt c))] [] (Wd A dT t) 0 0 := by
    intro n
    induction n with
    | zero =>
      intro t xv al c I F hi hm kx
      exact absurd hm (Nat.not_lt_zero _)
    | succ n ih =>
      intro t xv al c I F hi hm kx
      have b1001 := bi_10 I
      refine z_load X (x := c) rfl (List.Mem.tail _ (List.Mem.tail _ (List.Mem.tail _ (List.Mem.head _)))) (z_aload_n X (x := A 3) rfl (List.Mem.head _) (z_getI X 3 rfl (c518_ok rfl) rfl rfl ?_))
      have b1002 := bi_10 I
      refine z_icmp_ge X (t := 34) rfl rfl ⟨by first | exact oq_fa4e5087 hi.2.1 | omega, by first | exact oq_64f2e926 hi.2.2 | omega⟩ (rng_to _) (fun g1003 => ?_) (fun g1003 => ?_)
      ·
        refine WS_pq [0, 1, 2, 3] (lv' := [(0, .ref (A 3)), (1, .int (Int32.ofInt xv)), (2, .long al), (4, .int (Int32.ofInt c))]) rfl ?_
        exact kx _ al c I F (by first | exact ⟨And.intro (hi.1.1) (hi.1.2), hi.2.1, hi.2.2⟩ | omega)
      ·
        refine w_lload_n X.1 (ax_d X (show cdA 112 14 = some (.lload_n 2, 1, 0, 0, 0) from rfl)) (x := al) (List.Mem.tail _ (List.Mem.tail _ (List.Mem.head _))) (z_aload_n X (x := A 3) rfl (List.Mem.head _) (s_getR X 3 rfl (c518_ok rfl) rfl rfl (z_load X (x := c) rfl (List.Mem.tail _ (List.Mem.tail _ (List.Mem.tail _ (List.Mem.head _)))) (z_const X rfl (z_mul X rfl (z_load_n X (x := xv) rfl (List.Mem.tail _ (List.Mem.head _)) (z_add X rfl (z_lald X 10 rfl (c518_ok rfl) rfl (by first | exact oq_ff754f74 hi.2.1 hi.1.1 | omega) (show ((c * 2) + xv) < 132 by first | exact oq_9ab75a0e hi.1.2 g1003 b1002.2 | omega) (cbig_ok rfl) (fun j1004 => ?_)))))))))
        refine w_lor X.1 (ax_d X (show cdA 112 26 = some (.lor, 1, 0, 0, 0) from rfl)) (z_anyJ (fun j1005 => ?_))
        refine w_lstore_n X.1 (lv' := [(2, .long j1005), (0, .ref (A 3)), (1, .int (Int32.ofInt xv)), (4, .int (Int32.ofInt c))]) (ax_d X (show cdA 112 27 = some (.lstore_n 2, 1, 0, 0, 0) from rfl)) (by rw [X.2.1.2.2]; decide) (fun _ h => h) (z_inc X (x := c) (lv' := [(4, .int (Int32.ofInt (c + 1))), (2, .long j1005), (0, .ref (A 3)), (1, .int (Int32.ofInt xv))]) rfl (by decide) (List.Mem.tail _ (List.Mem.tail _ (List.Mem.tail _ (List.Mem.head _)))) (fun _ h => h) (z_goto X (t := 5) rfl rfl (WS_pq [2, 3, 1, 0] (lv' := [(0, .ref (A 3)), (1, .int (Int32.ofInt xv)), (2, .long j1005), (4, .int (Int32.ofInt (c + 1)))]) rfl ?_)))
        exact ih _ xv j1005 (c + 1) I F (by first | exact ⟨And.intro (hi.1.1) (hi.1.2), oq_54f49eb5 hi.2.1, oq_319a18a4 g1003 b1002.2⟩ | omega) (by first | exact qk_me hm (by decide) (oq_dd0e9829 g1003 b1002.2) | omega) kx
  refine w_lconst X.1 (ax_d X (show cdA 112 0 = some (.lconst 0, 1, 0, 0, 0) from rfl)) rfl (z_anyJ (fun j2 => ?_))
  refine w_lstore_n X.1 (lv' := [(2, .long j2), (0, .ref (A 3)), (1, .int (Int32.ofInt x))]) (ax_d X (show cdA 112 1 = some (.lstore_n 2, 1, 0, 0, 0) from rfl)) (by rw [X.2.1.2.2]; decide) (fun _ h => h) (z_const X rfl (z_store X (lv' := [(4, .int (Int32.ofInt 0)), (2, .long j2), (0, .ref (A 3)), (1, .int (Int32.ofInt x))]) rfl (by decide) (fun _ h => h) (WS_pq [2, 3, 1, 0] (lv' := [(0, .ref (A 3)), (1, .int (Int32.ofInt x)), (2, .long j2), (4, .int (Int32.ofInt 0))]) rfl (L5 ((66 - 0 : Int).toNat + 1) s x j2 0 I F (by first | exact ⟨And.intro (p0.1) (p0.2), by decide, by decide⟩ | omega) (Nat.lt_succ_self _) ?_))))
  intro s3 x4 x5 Is3 Fs3 hs3
  have b6 := bi_10 Is3
  exact w_lload_n X.1 (ax_d X (show cdA 112 34 = some (.lload_n 2, 1, 0, 0, 0) from rfl)) (x := x4) (List.Mem.tail _ (List.Mem.tail _ (List.Mem.head _))) (w_lret X.1 q hRt (ax_d X (show cdA 112 35 = some (.lreturn, 1, 0, 0, 0) from rfl)) (Nat.zero_le _) (Nat.zero_le _) ⟨_, rfl, Is3, Fs3, x4, rfl, trivial⟩)
set_option maxRecDepth 4000 in
theorem c9_cellAt_3 (G : GX l s0 D tys a0 dT) (I : Bd s) {x y : Int} (p0 : 0 ≤ x ∧ x ≤ 11) (p1 : rng y) : CT l s0 D A dT 113 (rmN 113) [.ref (A 3), .int (Int32.ofInt x), .int (Int32.ofInt y)] s (fun o t => Bd t ∧ Fm [] [] s t ∧ ∃ e, o = .inl (some (.int (Int32.ofInt e))) ∧ rng e ∧ (-1 ≤ e ∧ e ≤ 127)) := by
  refine ct_ofX G (by decide) (Nat.le_of_ble_eq_true rfl) (fun k X E ET hRt hXt q => ?_)
  show WS k 0 [(0, .ref (A 3)), (1, .int (Int32.ofInt x)), (2, .int (Int32.ofInt y))] [] _ 0 0
  have F : Fm [] [] s s := fm_rf _ _ s
  refine z_load_n X (x := y) rfl (List.Mem.tail _ (List.Mem.tail _ (List.Mem.head _))) ?_
  have N1 : ∀ e2 : Int, (((y < 0) ∧ e2 = (-1)) ∨ ((0 ≤ y) ∧ ((0 : Int) ≤ iC s 2 (x).toNat ∧ iC s 2 (x).toNat ≤ 24) ∧ ((iC s 2 (x).toNat) ≤ y) ∧ e2 = (-1)) ∨ ((0 ≤ y) ∧ ((0 : Int) ≤ iC s 2 (x).toNat ∧ iC s 2 (x).toNat ≤ 24) ∧ (y < (iC s 2 (x).toNat)) ∧ ((0 : Int) ≤ iC s 1 (((x * 24) + y)).toNat ∧ iC s 1 (((x * 24) + y)).toNat ≤ 127) ∧ e2 = (iC s 1 (((x * 24) + y)).toNat))) → WS k 29 [(0, .ref (A 3)), (1, .int (Int32.ofInt x)), (2, .int (Int32.ofInt y))] [.int (Int32.ofInt e2)] (Wd A dT s) 0 0 := by
    intro e2 he2
    exact w_iret X.1 q hRt rfl (ax_d X (show cdA 113 29 = some (.ireturn, 1, 0, 0, 0) from rfl)) (Nat.zero_le _) (Nat.zero_le _) ⟨_, rfl, I, F, e2, rfl, ⟨by first | exact oq_2f662a89 he2 | omega, by first | exact oq_e7a50a6f he2 | omega⟩, by first | exact ⟨oq_c5daf206 he2, oq_1c80a01a he2⟩ | omega⟩
  refine z_if_lt X (t := 28) rfl rfl ⟨by first | exact p1.1 | omega, by first | exact p1.2 | omega⟩ (fun g3 => ?_) (fun g3 => ?_)
  ·
    exact z_const X rfl (N1 _ (Or.inl ⟨g3, rfl⟩))
  ·
    refine z_load_n X (x := y) rfl (List.Mem.tail _ (List.Mem.tail _ (List.Mem.head _))) (z_aload_n X (x := A 3) rfl (List.Mem.head _) (s_getR X 3 rfl (c518_ok rfl) rfl rfl (z_load_n X (x := x) rfl (List.Mem.tail _ (List.Mem.head _)) (z_ald X 5 rfl (c518_ok rfl) rfl (by first | exact p0.1 | omega) (show x < 12 by first | exact oq_0ddfcfee p0.2 | omega) (cbig_ok rfl) ?_))))
    have b4 := bc_2 I (show (x).toNat < 12 by first | exact oq_9c5fa447 p0.2 | omega)
    refine z_icmp_ge X (t := 28) rfl rfl ⟨by first | exact p1.1 | omega, by first | exact p1.2 | omega⟩ (rng_to _) (fun g5 => ?_) (fun g5 => ?_)
    ·
      exact z_const X rfl (N1 _ (Or.inr (Or.inl ⟨g3, b4, g5, rfl⟩)))
    ·
      refine z_aload_n X (x := A 3) rfl (List.Mem.head _) (s_getR X 3 rfl (c518_ok rfl) rfl rfl (z_load_n X (x := x) rfl (List.Mem.tail _ (List.Mem.head _)) (z_bipush X rfl (z_mul X rfl (z_load_n X (x := y) rfl (List.Mem.tail _ (List.Mem.tail _ (List.Mem.head _))) (z_add X rfl (z_ald X 4 rfl (c518_ok rfl) rfl (by first | exact oq_4071a75f p0.1 g3 | omega) (show ((x * 24) + y) < 288 by first | exact oq_54efb6a2 p0.2 g5 b4.2 | omega) (cbig_ok rfl) ?_)))))))
      have b6 := bc_1 I (show (((x * 24) + y)).toNat < 288 by first | exact oq_2f719579 p0.2 g5 b4.2 | omega)
      exact z_goto X (t := 29) rfl rfl (N1 _ (Or.inr (Or.inr (⟨g3, b4, g5, b6, rfl⟩))))
set_option maxRecDepth 4000 in
theorem c9_comesTo_3 (G : GX l s0 D tys a0 dT) (I : Bd s) {x y : Int} (p0 : 0 ≤ x ∧ x ≤ 11) (p1 : 0 ≤ y ∧ y ≤ 127) : CT l s0 D A dT 123 (rmN 123) [.ref (A 3), .int (Int32.ofInt x), .int (Int32.ofInt y)] s (fun o t => Bd t ∧ Fm [] [] s t ∧ ∃ e, o = .inl (some (.int (Int32.ofInt e))) ∧ rng e ∧ (e = 0 ∨ e = 1)) := by
  refine ct_ofX G (by decide) (Nat.le_of_ble_eq_true rfl) (fun k X E ET hRt hXt q => ?_)
  show WS k 0 [(0, .ref (A 3)), (1, .int (Int32.ofInt x)), (2, .int (Int32.ofInt y))] [] _ 0 0
  have F : Fm [] [] s s := fm_rf _ _ s
  refine z_aload_n X (x := A 3) rfl (List.Mem.head _) (s_getR X 3 rfl (c518_ok rfl) rfl rfl (z_load_n X (x := x) rfl (List.Mem.tail _ (List.Mem.head _)) (z_const X rfl (z_mul X rfl (z_load_n X (x := y) rfl (List.Mem.tail _ (List.Mem.tail _ (List.Mem.head _))) (z_bipush X rfl (z_quot X rfl (by first | exact p1.1 | omega) ⟨by first | exact oq_fa4e5087 p1.1 | omega, by first | exact oq_07d346ce p1.2 | omega⟩ (by decide) (by decide) (z_add X rfl (z_lald X 6 rfl (c518_ok rfl) rfl (by first | exact oq_c0bd8137 p1.1 p0.1 | omega) (show ((x * 2) + (y / 64)) < 24 by first | exact oq_c80b6473 p1.2 p0.2 | omega) (cbig_ok rfl) (fun j1 => ?_))))))))))
  refine z_load_n X (x := y) rfl (List.Mem.tail _ (List.Mem.tail _ (List.Mem.head _))) (z_bipush X rfl (z_andm X rfl (by decide) (by decide) (fun y2 hy2 gy2 => ?_)))
  refine w_lushr X.1 (ax_d X (show cdA 123 17 = some (.lushr, 1, 0, 0, 0) from rfl)) (z_anyJ (fun j3 => ?_))
  refine w_lconst X.1 (ax_d X (show cdA 123 18 = some (.lconst 1, 1, 0, 0, 0) from rfl)) rfl (z_anyJ (fun j4 => ?_))
  refine w_land X.1 (ax_d X (show cdA 123 19 = some (.land, 1, 0, 0, 0) from rfl)) (z_anyJ (fun j5 => ?_))
  refine w_lconst X.1 (ax_d X (show cdA 123 20 = some (.lconst 0, 1, 0, 0, 0) from rfl)) rfl (z_anyJ (fun j6 => ?_))
  refine w_lcmp X.1 (ax_d X (show cdA 123 21 = some (.lcmp, 1, 0, 0, 0) from rfl)) (z_any (fun y7 hy7 => ?_))
  have N8 : ∀ e9 : Int, (((y7 = 0) ∧ e9 = 0) ∨ ((y7 ≠ 0) ∧ e9 = 1)) → WS k 30 [(0, .ref (A 3)), (1, .int (Int32.ofInt x)), (2, .int (Int32.ofInt y))] [.int (Int32.ofInt e9)] (Wd A dT s) 0 0 := by
    intro e9 he9
    have re9 : 0 ≤ e9 ∧ e9 ≤ 1 := by first | (clear he9; omega) | omega
    exact w_iret X.1 q hRt (nar_ret (by first | exact oq_31e518ae re9.2 re9.1 | omega)) (ax_d X (show cdA 123 30 = some (.ireturn, 1, 0, 0, 0) from rfl)) (Nat.zero_le _) (Nat.zero_le _) ⟨_, rfl, I, F, e9, rfl, ⟨by first | exact oq_fa4e5087 re9.1 | omega, by first | exact oq_22e1e6b0 re9.2 | omega⟩, by first | exact oq_31e518ae re9.2 re9.1 | omega⟩
  refine z_if_eq X (t := 29) rfl rfl hy7 (fun g10 => ?_) (fun g10 => ?_)
  ·
    exact z_const X rfl (N8 _ (Or.inl ⟨g10, rfl⟩))
  ·
    exact z_const X rfl (z_goto X (t := 30) rfl rfl (N8 _ (Or.inr (⟨g10, rfl⟩))))
set_option maxRecDepth 4000 in
theorem c9_countsAt_3 (G : GX l s0 D tys a0 dT) (I : Bd s) {x : Int} (p0 : 0 ≤ x ∧ x ≤ 127) : CT l s0 D A dT 121 (rmN 121) [.ref (A 3), .int (Int32.ofInt x)] s (fun o t => Bd t ∧ Fm [] [] s t ∧ ∃ e, o = .inl (some (.int (Int32.ofInt e))) ∧ rng e ∧ (True)) := by
  refine ct_ofX G (by decide) (Nat.le_of_ble_eq_true rfl) (fun k X E ET hRt hXt q => ?_)
  show WS k 0 [(0, .ref (A 3)), (1, .int (Int32.ofInt x))] [] _ 0 0
  have F : Fm [] [] s s := fm_rf _ _ s
  have b1 := bi_9 I
  have L4 : ∀ (n : Nat) (t : PS) (xv sm0 c : Int), Bd t → Fm [] [] s t → ((0 ≤ xv ∧ xv ≤ 127) ∧ rng sm0 ∧ 0 ≤ c ∧ c ≤ 12) → (12 - c : Int).toNat < n → (∀ (t' : PS) (sm0' c' : Int), Bd t' → Fm [] [] s t' → ((0 ≤ xv ∧ xv ≤ 127) ∧ rng sm0' ∧ 0 ≤ c' ∧ c' ≤ 12) → WS k 36 [(0, .ref (A 3)), (1, .int (Int32.ofInt xv)), (2, .int (Int32.ofInt sm0')), (3, .int (Int32.ofInt c'))] [] (Wd A dT t') 0 0) → WS k 4 [(0, .ref (A 3)), (1, .int (Int32.ofInt xv)), (2, .int (Int32.ofInt sm0)), (3, .int (Int32.ofInt c))] [] (Wd A dT t) 0 0 := by
    intro n
    induction n with
    | zero =>
      intro t xv sm0 c I F hi hm kx
      exact absurd hm (Nat.not_lt_zero _)
    | succ n ih =>
      intro t xv sm0 c I F hi hm kx
      have b1001 := bi_9 I
      refine z_load_n X (x := c) rfl (List.Mem.tail _ (List.Mem.tail _ (List.Mem.tail _ (List.Mem.head _)))) (z_aload_n X (x := A 3) rfl (List.Mem.head _) (z_getI X 3 rfl (c518_ok rfl) rfl rfl ?_))
      have b1002 := bi_9 I
      refine z_icmp_ge X (t := 36) rfl rfl ⟨by first | exact oq_fa4e5087 hi.2.2.1 | omega, by first | exact oq_78843a64 hi.2.2.2 | omega⟩ (rng_to _) (fun g1003 => ?_) (fun g1003 => ?_)
      ·
        refine WS_pq [0, 1, 2, 3] (lv' := [(0, .ref (A 3)), (1, .int (Int32.ofInt xv)), (2, .int (Int32.ofInt sm0)), (3, .int (Int32.ofInt c))]) rfl ?_
        exact kx _ sm0 c I F (by first | exact ⟨And.intro (hi.1.1) (hi.1.2), And.intro (hi.2.1.1) (hi.2.1.2), hi.2.2.1, hi.2.2.2⟩ | omega)
      ·
        refine z_aload_n X (x := A 3) rfl (List.Mem.head _) (z_load_n X (x := c) rfl (List.Mem.tail _ (List.Mem.tail _ (List.Mem.tail _ (List.Mem.head _)))) (z_load_n X (x := xv) rfl (List.Mem.tail _ (List.Mem.head _)) (zcV_i0 X E 3 (As := [.int (Int32.ofInt c), .int (Int32.ofInt xv)]) (st := []) rfl rfl rfl rfl (c9_comesTo_3 G I (by first | exact ⟨hi.2.2.1, oq_e4d7f3c5 g1003 b1002.2⟩ | omega) (by first | exact ⟨hi.1.1, hi.1.2⟩ | omega)) rfl (Nat.le_of_ble_eq_true rfl) (fun s1004 e1005 Is1004 Fs1004 hrs1004 hps1004 => ?_))))
        have Gs1004 := fm_tq F Fs1004 rfl rfl
        have ws1004_9 : iI s1004 9 = iI t 9 := fm_iq Fs1004 rfl
        refine z_if_eq X (t := 30) rfl rfl hrs1004 (fun g1006 => ?_) (fun g1006 => ?_)
        ·
          refine z_inc X (x := c) (lv' := [(3, .int (Int32.ofInt (c + 1))), (0, .ref (A 3)), (1, .int (Int32.ofInt xv)), (2, .int (Int32.ofInt sm0))]) rfl (by decide) (List.Mem.tail _ (List.Mem.tail _ (List.Mem.tail _ (List.Mem.head _)))) (fun _ h => h) (z_goto X (t := 4) rfl rfl (WS_pq [1, 2, 3, 0] (lv' := [(0, .ref (A 3)), (1, .int (Int32.ofInt xv)), (2, .int (Int32.ofInt sm0)), (3, .int (Int32.ofInt (c + 1)))]) rfl ?_))
          exact ih _ xv sm0 (c + 1) Is1004 Gs1004 (by first | exact ⟨And.intro (hi.1.1) (hi.1.2), And.intro (hi.2.1.1) (hi.2.1.2), oq_54f49eb5 hi.2.2.1, oq_4dae995e g1003 b1002.2⟩ | omega) (by first | exact qk_me hm (by decide) (oq_b575e8c1 g1003 b1002.2) | omega) kx
        ·
          refine z_load_n X (x := sm0) rfl (List.Mem.tail _ (List.Mem.tail _ (List.Mem.head _))) (z_aload_n X (x := A 3) rfl (List.Mem.head _) (s_getR X 3 rfl (c518_ok rfl) rfl rfl (z_load_n X (x := c) rfl (List.Mem.tail _ (List.Mem.tail _ (List.Mem.tail _ (List.Mem.head _)))) (z_ald X 15 rfl (c518_ok rfl) rfl (by first | exact hi.2.2.1 | omega) (show c < 12 by first | exact oq_f36e82a8 g1003 b1002.2 | omega) (cbig_ok rfl) ?_))))
          have b1007 := bc_12 Is1004 (show (c).toNat < 12 by first | exact oq_2dac6850 g1003 b1002.2 | omega)
          refine z_add X rfl (z_any (fun y1008 hy1008 => ?_))
          refine z_store_n X (lv' := [(2, .int (Int32.ofInt y1008)), (0, .ref (A 3)), (1, .int (Int32.ofInt xv)), (3, .int (Int32.ofInt c))]) rfl (by decide) (fun _ h => h) (z_inc X (x := c) (lv' := [(3, .int (Int32.ofInt (c + 1))), (2, .int (Int32.ofInt y1008)), (0, .ref (A 3)), (1, .int (Int32.ofInt xv))]) rfl (by decide) (List.Mem.tail _ (List.Mem.tail _ (List.Mem.tail _ (List.Mem.head _)))) (fun _ h => h) (z_goto X (t := 4) rfl rfl (WS_pq [2, 3, 1, 0] (lv' := [(0, .ref (A 3)), (1, .int (Int32.ofInt xv)), (2, .int (Int32.ofInt y1008)), (3, .int (Int32.ofInt (c + 1)))]) rfl ?_)))
          exact ih _ xv y1008 (c + 1) Is1004 Gs1004 (by first | exact ⟨And.intro (hi.1.1) (hi.1.2), And.intro (hy1008.1) (hy1008.2), oq_54f49eb5 hi.2.2.1, oq_4dae995e g1003 b1002.2⟩ | omega) (by first | exact qk_me hm (by decide) (oq_b575e8c1 g1003 b1002.2) | omega) kx
  refine z_const X rfl (z_store_n X (lv' := [(2, .int (Int32.ofInt 0)), (0, .ref (A 3)), (1, .int (Int32.ofInt x))]) rfl (by decide) (fun _ h => h) (z_const X rfl (z_store_n X (lv' := [(3, .int (Int32.ofInt 0)), (2, .int (Int32.ofInt 0)), (0, .ref (A 3)), (1, .int (Int32.ofInt x))]) rfl (by decide) (fun _ h => h) (WS_pq [2, 3, 1, 0] (lv' := [(0, .ref (A 3)), (1, .int (Int32.ofInt x)), (2, .int (Int32.ofInt 0)), (3, .int (Int32.ofInt 0))]) rfl (L4 ((12 - 0 : Int).toNat + 1) s x 0 0 I F (by first | exact ⟨And.intro (p0.1) (p0.2), And.intro (by decide) (by decide), by decide, by decide⟩ | omega) (Nat.lt_succ_self _) ?_)))))
  intro s2 x3 x4 Is2 Fs2 hs2
  have b5 := bi_9 Is2
  refine z_load_n X (x := x3) rfl (List.Mem.tail _ (List.Mem.tail _ (List.Mem.head _))) ?_
  exact w_iret X.1 q hRt rfl (ax_d X (show cdA 121 37 = some (.ireturn, 1, 0, 0, 0) from rfl)) (Nat.zero_le _) (Nat.zero_le _) ⟨_, rfl, Is2, Fs2, x3, rfl, ⟨by first | exact hs2.2.1.1 | omega, by first | exact hs2.2.1.2 | omega⟩, trivial⟩
set_option maxRecDepth 4000 in
theorem c9_shortestStretch_3 (G : GX l s0 D tys a0 dT) (I : Bd s) {x : Int} {lo hi0 : Int64} (p0 : 0 ≤ x ∧ x ≤ 11) : CT l s0 D A dT 120 (rmN 120) [.ref (A 3), .int (Int32.ofInt x), .long lo, .long hi0] s (fun o t => Bd t ∧ Fm [] [] s t ∧ ∃ e, o = .inl (some (.int (Int32.ofInt e))) ∧ rng e ∧ (0 ≤ e ∧ e ≤ 24)) := by
  refine ct_ofX G (by decide) (Nat.le_of_ble_eq_true rfl) (fun k X E ET hRt hXt q => ?_)
  show WS k 0 [(0, .ref (A 3)), (1, .int (Int32.ofInt x)), (2, .long lo), (4, .long hi0)] [] _ 0 0
  have F : Fm [] [] s s := fm_rf _ _ s
  have L10 : ∀ (n : Nat) (t : PS) (xv : Int) (lw : Int64) (hw : Int64) (sh : Int) (ru : Int) (c : Int), Bd t → Fm [] [] s t → ((0 ≤ xv ∧ xv ≤ 11) ∧ (0 ≤ sh ∧ sh ≤ 24) ∧ (0 ≤ ru ∧ ru ≤ c) ∧ c ≤ 24) → (24 - c : Int).toNat < n → (∀ (t' : PS) (sh' : Int) (ru' : Int) (c' : Int), Bd t' → Fm [] [] s t' → ((0 ≤ xv ∧ xv ≤ 11) ∧ (0 ≤ sh' ∧ sh' ≤ 24) ∧ (0 ≤ ru' ∧ ru' ≤ c') ∧ c' ≤ 24) → WS k 90 [(0, .ref (A 3)), (1, .int (Int32.ofInt xv)), (2, .long lw), (4, .long hw), (6, .int (Int32.ofInt sh')), (7, .int (Int32.ofInt ru')), (8, .int (Int32.ofInt c'))] [] (Wd A dT t') 0 0) → WS k 10 [(0, .ref (A 3)), (1, .int (Int32.ofInt xv)), (2, .long lw), (4, .long hw), (6, .int (Int32.ofInt sh)), (7, .int (Int32.ofInt ru)), (8, .int (Int32.ofInt c))] [] (Wd A dT t) 0 0 := by
    intro n
    induction n with
    | zero =>
      intro t xv lw hw sh ru c I F hi hm kx
      exact absurd hm (Nat.not_lt_zero _)
    | succ n ih =>
      intro t xv lw hw sh ru c I F hi hm kx
      refine z_load X (x := c) rfl (List.Mem.tail _ (List.Mem.tail _ (List.Mem.tail _ (List.Mem.tail _ (List.Mem.tail _ (List.Mem.tail _ (List.Mem.head _))))))) (z_aload_n X (x := A 3) rfl (List.Mem.head _) (s_getR X 3 rfl (c518_ok rfl) rfl rfl (z_load_n X (x := xv) rfl (List.Mem.tail _ (List.Mem.head _)) (z_ald X 5 rfl (c518_ok rfl) rfl (by first | exact hi.1.1 | omega) (show xv < 12 by first | exact oq_0ddfcfee hi.1.2 | omega) (cbig_ok rfl) ?_))))
      have b1001 := bc_2 I (show (xv).toNat < 12 by first | exact oq_9c5fa447 hi.1.2 | omega)
      refine z_icmp_ge X (t := 90) rfl rfl ⟨by first | exact oq_e001bc0d hi.2.2.1.2 hi.2.2.1.1 | omega, by first | exact oq_5bcd337f hi.2.2.2 | omega⟩ (rng_to _) (fun g1002 => ?_) (fun g1002 => ?_)
      ·
        refine WS_pq [0, 1, 2, 3, 4, 5, 6] (lv' := [(0, .ref (A 3)), (1, .int (Int32.ofInt xv)), (2, .long lw), (4, .long hw), (6, .int (Int32.ofInt sh)), (7, .int (Int32.ofInt ru)), (8, .int (Int32.ofInt c))]) rfl ?_
        exact kx _ sh ru c I F (by first | exact ⟨And.intro (hi.1.1) (hi.1.2), And.intro (hi.2.1.1) (hi.2.1.2), And.intro (hi.2.2.1.1) (hi.2.2.1.2), hi.2.2.2⟩ | omega)
      ·
        refine z_aload_n X (x := A 3) rfl (List.Mem.head _) (s_getR X 3 rfl (c518_ok rfl) rfl rfl (z_load_n X (x := xv) rfl (List.Mem.tail _ (List.Mem.head _)) (z_bipush X rfl (z_mul X rfl (z_load X (x := c) rfl (List.Mem.tail _ (List.Mem.tail _ (List.Mem.tail _ (List.Mem.tail _ (List.Mem.tail _ (List.Mem.tail _ (List.Mem.head _))))))) (z_add X rfl (z_ald X 4 rfl (c518_ok rfl) rfl (by first | exact oq_1c973021 hi.1.1 hi.2.2.1.2 hi.2.2.1.1 | omega) (show ((xv * 24) + c) < 288 by first | exact oq_54efb6a2 hi.1.2 g1002 b1001.2 | omega) (cbig_ok rfl) ?_)))))))
        have b1003 := bc_1 I (show (((xv * 24) + c)).toNat < 288 by first | exact oq_2f719579 hi.1.2 g1002 b1001.2 | omega)
        refine z_store X (lv' := [(9, .int (Int32.ofInt (iC t 1 (((xv * 24) + c)).toNat))), (0, .ref (A 3)), (1, .int (Int32.ofInt xv)), (2, .long lw), (4, .long hw), (6, .int (Int32.ofInt sh)), (7, .int (Int32.ofInt ru)), (8, .int (Int32.ofInt c))]) rfl (by decide) (fun _ h => h) (z_load X (x := (iC t 1 (((xv * 24) + c)).toNat)) rfl (List.Mem.head _) (z_bipush X rfl ?_))
        have N1004 : ∀ j1005 : Int64, WS k 48 [(9, .int (Int32.ofInt (iC t 1 (((xv * 24) + c)).toNat))), (0, .ref (A 3)), (1, .int (Int32.ofInt xv)), (2, .long lw), (4, .long hw), (6, .int (Int32.ofInt sh)), (7, .int (Int32.ofInt ru)), (8, .int (Int32.ofInt c))] [.long j1005] (Wd A dT t) 0 0 := by
          intro j1005
          refine z_load X (x := (iC t 1 (((xv * 24) + c)).toNat)) rfl (List.Mem.head _) (z_bipush X rfl (z_andm X rfl (by decide) (by decide) (fun y1006 hy1006 gy1006 => ?_)))
          refine w_lushr X.1 (ax_d X (show cdA 120 53 = some (.lushr, 1, 0, 0, 0) from rfl)) (z_anyJ (fun j1007 => ?_))
          refine w_lconst X.1 (ax_d X (show cdA 120 54 = some (.lconst 1, 1, 0, 0, 0) from rfl)) rfl (z_anyJ (fun j1008 => ?_))
          refine w_land X.1 (ax_d X (show cdA 120 55 = some (.land, 1, 0, 0, 0) from rfl)) (z_anyJ (fun j1009 => ?_))
          refine w_lconst X.1 (ax_d X (show cdA 120 56 = some (.lconst 0, 1, 0, 0, 0) from rfl)) rfl (z_anyJ (fun j1010 => ?_))
          refine w_lcmp X.1 (ax_d X (show cdA 120 57 = some (.lcmp, 1, 0, 0, 0) from rfl)) (z_any (fun y1011 hy1011 => ?_))
          refine z_if_eq X (t := 67) rfl rfl hy1011 (fun g1012 => ?_) (fun g1012 => ?_)
          ·
            refine z_load X (x := ru) rfl (List.Mem.tail _ (List.Mem.tail _ (List.Mem.tail _ (List.Mem.tail _ (List.Mem.tail _ (List.Mem.tail _ (List.Mem.head _))))))) (z_if_le X (t := 84) rfl rfl ⟨by first | exact oq_fa4e5087 hi.2.2.1.1 | omega, by first | exact oq_403249cf hi.2.2.1.2 hi.2.2.2 | omega⟩ (fun g1013 => ?_) (fun g1013 => ?_))
            ·
              refine z_inc X (x := c) (lv' := [(8, .int (Int32.ofInt (c + 1))), (9, .int (Int32.ofInt (iC t 1 (((xv * 24) + c)).toNat))), (0, .ref (A 3)), (1, .int (Int32.ofInt xv)), (2, .long lw), (4, .long hw), (6, .int (Int32.ofInt sh)), (7, .int (Int32.ofInt ru))]) rfl (by decide) (List.Mem.tail _ (List.Mem.tail _ (List.Mem.tail _ (List.Mem.tail _ (List.Mem.tail _ (List.Mem.tail _ (List.Mem.tail _ (List.Mem.head _)))))))) (fun _ h => h) (z_goto X (t := 10) rfl rfl (WS_pq [2, 3, 4, 5, 6, 7, 0] (lv' := [(0, .ref (A 3)), (1, .int (Int32.ofInt xv)), (2, .long lw), (4, .long hw), (6, .int (Int32.ofInt sh)), (7, .int (Int32.ofInt ru)), (8, .int (Int32.ofInt (c + 1)))]) rfl ?_))
              exact ih _ xv lw hw sh ru (c + 1) I F (by first | exact ⟨And.intro (hi.1.1) (hi.1.2), And.intro (hi.2.1.1) (hi.2.1.2), And.intro (hi.2.2.1.1) (oq_03182e9e hi.2.2.1.2), oq_41473be0 g1002 b1001.2⟩ | omega) (by first | exact qk_me hm (by decide) (oq_9dea93e6 g1002 b1001.2) | omega) kx
            ·
              refine z_load X (x := sh) rfl (List.Mem.tail _ (List.Mem.tail _ (List.Mem.tail _ (List.Mem.tail _ (List.Mem.tail _ (List.Mem.head _)))))) (z_load X (x := ru) rfl (List.Mem.tail _ (List.Mem.tail _ (List.Mem.tail _ (List.Mem.tail _ (List.Mem.tail _ (List.Mem.tail _ (List.Mem.head _))))))) (z_min X rfl ⟨by first | exact oq_fa4e5087 hi.2.1.1 | omega, by first | exact oq_5bcd337f hi.2.1.2 | omega⟩ ⟨by first | exact oq_97e58444 g1013 | omega, by first | exact oq_403249cf hi.2.2.1.2 hi.2.2.2 | omega⟩ (by rw [E.2.2.2]; decide) (by rw [E.2.2.2]; exact Nat.le_of_ble_eq_true rfl) (Nat.zero_le _) (Nat.zero_le _) (fun e1014 he1014 => ?_)))
              refine z_store X (lv' := [(6, .int (Int32.ofInt e1014)), (9, .int (Int32.ofInt (iC t 1 (((xv * 24) + c)).toNat))), (0, .ref (A 3)), (1, .int (Int32.ofInt xv)), (2, .long lw), (4, .long hw), (7, .int (Int32.ofInt ru)), (8, .int (Int32.ofInt c))]) rfl (by decide) (fun _ h => h) (z_const X rfl (z_store X (lv' := [(7, .int (Int32.ofInt 0)), (6, .int (Int32.ofInt e1014)), (9, .int (Int32.ofInt (iC t 1 (((xv * 24) + c)).toNat))), (0, .ref (A 3)), (1, .int (Int32.ofInt xv)), (2, .long lw), (4, .long hw), (8, .int (Int32.ofInt c))]) rfl (by decide) (fun _ h => h) (z_inc X (x := c) (lv' := [(8, .int (Int32.ofInt (c + 1))), (7, .int (Int32.ofInt 0)), (6, .int (Int32.ofInt e1014)), (9, .int (Int32.ofInt (iC t 1 (((xv * 24) + c)).toNat))), (0, .ref (A 3)), (1, .int (Int32.ofInt xv)), (2, .long lw), (4, .long hw)]) rfl (by decide) (List.Mem.tail _ (List.Mem.tail _ (List.Mem.tail _ (List.Mem.tail _ (List.Mem.tail _ (List.Mem.tail _ (List.Mem.tail _ (List.Mem.head _)))))))) (fun _ h => h) (z_goto X (t := 10) rfl rfl (WS_pq [4, 5, 6, 7, 2, 1, 0] (lv' := [(0, .ref (A 3)), (1, .int (Int32.ofInt xv)), (2, .long lw), (4, .long hw), (6, .int (Int32.ofInt e1014)), (7, .int (Int32.ofInt 0)), (8, .int (Int32.ofInt (c + 1)))]) rfl ?_)))))
              exact ih _ xv lw hw e1014 0 (c + 1) I F (by first | exact ⟨And.intro (hi.1.1) (hi.1.2), oq_1253191b he1014 g1013 g1002 b1001.2 hi.2.2.1.2 hi.2.1.2 hi.2.1.1, And.intro (by decide) (oq_1b58957a hi.2.2.1.2 g1013), oq_41473be0 g1002 b1001.2⟩ | omega) (by first | exact qk_me hm (by decide) (oq_9dea93e6 g1002 b1001.2) | omega) kx
          ·
            refine z_inc X (x := ru) (lv' := [(7, .int (Int32.ofInt (ru + 1))), (9, .int (Int32.ofInt (iC t 1 (((xv * 24) + c)).toNat))), (0, .ref (A 3)), (1, .int (Int32.ofInt xv)), (2, .long lw), (4, .long hw), (6, .int (Int32.ofInt sh)), (8, .int (Int32.ofInt c))]) rfl (by decide) (List.Mem.tail _ (List.Mem.tail _ (List.Mem.tail _ (List.Mem.tail _ (List.Mem.tail _ (List.Mem.tail _ (List.Mem.head _))))))) (fun _ h => h) (z_goto X (t := 84) rfl rfl (z_inc X (x := c) (lv' := [(8, .int (Int32.ofInt (c + 1))), (7, .int (Int32.ofInt (ru + 1))), (9, .int (Int32.ofInt (iC t 1 (((xv * 24) + c)).toNat))), (0, .ref (A 3)), (1, .int (Int32.ofInt xv)), (2, .long lw), (4, .long hw), (6, .int (Int32.ofInt sh))]) rfl (by decide) (List.Mem.tail _ (List.Mem.tail _ (List.Mem.tail _ (List.Mem.tail _ (List.Mem.tail _ (List.Mem.tail _ (List.Mem.tail _ (List.Mem.head _)))))))) (fun _ h => h) (z_goto X (t := 10) rfl rfl (WS_pq [3, 4, 5, 6, 7, 1, 0] (lv' := [(0, .ref (A 3)), (1, .int (Int32.ofInt xv)), (2, .long lw), (4, .long hw), (6, .int (Int32.ofInt sh)), (7, .int (Int32.ofInt (ru + 1))), (8, .int (Int32.ofInt (c + 1)))]) rfl ?_))))
            exact ih _ xv lw hw sh (ru + 1) (c + 1) I F (by first | exact ⟨And.intro (hi.1.1) (hi.1.2), And.intro (hi.2.1.1) (hi.2.1.2), And.intro (oq_54f49eb5 hi.2.2.1.1) (oq_8d48a029 hi.2.2.1.2), oq_41473be0 g1002 b1001.2⟩ | omega) (by first | exact qk_me hm (by decide) (oq_9dea93e6 g1002 b1001.2) | omega) kx
        refine z_icmp_ge X (t := 46) rfl rfl (rng_to _) (by decide) (fun g1015 => ?_) (fun g1015 => ?_)
        ·
          exact w_lload X.1 (ax_d X (show cdA 120 46 = some (.lload 4, 2, 0, 0, 0) from rfl)) (x := hw) (List.Mem.tail _ (List.Mem.tail _ (List.Mem.tail _ (List.Mem.tail _ (List.Mem.head _))))) (N1004 _)
        ·
          exact w_lload_n X.1 (ax_d X (show cdA 120 42 = some (.lload_n 2, 1, 0, 0, 0) from rfl)) (x := lw) (List.Mem.tail _ (List.Mem.tail _ (List.Mem.tail _ (List.Mem.head _)))) (z_goto X (t := 48) rfl rfl (N1004 _))
  refine z_bipush X rfl (z_store X (lv' := [(6, .int (Int32.ofInt 24)), (0, .ref (A 3)), (1, .int (Int32.ofInt x)), (2, .long lo), (4, .long hi0)]) rfl (by decide) (fun _ h => h) (z_const X rfl (z_store X (lv' := [(7, .int (Int32.ofInt 0)), (6, .int (Int32.ofInt 24)), (0, .ref (A 3)), (1, .int (Int32.ofInt x)), (2, .long lo), (4, .long hi0)]) rfl (by decide) (fun _ h => h) (z_const X rfl (z_store X (lv' := [(8, .int (Int32.ofInt 0)), (7, .int (Int32.ofInt 0)), (6, .int (Int32.ofInt 24)), (0, .ref (A 3)), (1, .int (Int32.ofInt x)), (2, .long lo), (4, .long hi0)]) rfl (by decide) (fun _ h => h) (WS_pq [3, 4, 5, 6, 2, 1, 0] (lv' := [(0, .ref (A 3)), (1, .int (Int32.ofInt x)), (2, .long lo), (4, .long hi0), (6, .int (Int32.ofInt 24)), (7, .int (Int32.ofInt 0)), (8, .int (Int32.ofInt 0))]) rfl (L10 ((24 - 0 : Int).toNat + 1) s x lo hi0 24 0 0 I F (by first | exact ⟨And.intro (p0.1) (p0.2), And.intro (by decide) (by decide), And.intro (by decide) (by decide), by decide⟩ | omega) (Nat.lt_succ_self _) ?_)))))))
  intro s1 x2 x3 x4 Is1 Fs1 hs1
  refine z_load X (x := x3) rfl (List.Mem.tail _ (List.Mem.tail _ (List.Mem.tail _ (List.Mem.tail _ (List.Mem.tail _ (List.Mem.head _)))))) (z_if_le X (t := 105) rfl rfl ⟨by first | exact oq_fa4e5087 hs1.2.2.1.1 | omega, by first | exact oq_403249cf hs1.2.2.1.2 hs1.2.2.2 | omega⟩ (fun g5 => ?_) (fun g5 => ?_))
  ·
    refine z_load X (x := x2) rfl (List.Mem.tail _ (List.Mem.tail _ (List.Mem.tail _ (List.Mem.tail _ (List.Mem.head _))))) ?_
    exact w_iret X.1 q hRt rfl (ax_d X (show cdA 120 107 = some (.ireturn, 1, 0, 0, 0) from rfl)) (Nat.zero_le _) (Nat.zero_le _) ⟨_, rfl, Is1, Fs1, x2, rfl, ⟨by first | exact oq_fa4e5087 hs1.2.1.1 | omega, by first | exact oq_5bcd337f hs1.2.1.2 | omega⟩, by first | exact ⟨hs1.2.1.1, hs1.2.1.2⟩ | omega⟩
  ·
    refine z_load X (x := x2) rfl (List.Mem.tail _ (List.Mem.tail _ (List.Mem.tail _ (List.Mem.tail _ (List.Mem.head _))))) (z_load X (x := x3) rfl (List.Mem.tail _ (List.Mem.tail _ (List.Mem.tail _ (List.Mem.tail _ (List.Mem.tail _ (List.Mem.head _)))))) (z_min X rfl ⟨by first | exact oq_fa4e5087 hs1.2.1.1 | omega, by first | exact oq_5bcd337f hs1.2.1.2 | omega⟩ ⟨by first | exact oq_97e58444 g5 | omega, by first | exact oq_403249cf hs1.2.2.1.2 hs1.2.2.2 | omega⟩ (by rw [E.2.2.2]; decide) (by rw [E.2.2.2]; exact Nat.le_of_ble_eq_true rfl) (Nat.zero_le _) (Nat.zero_le _) (fun e6 he6 => ?_)))
    refine z_goto X (t := 107) rfl rfl ?_
    exact w_iret X.1 q hRt rfl (ax_d X (show cdA 120 107 = some (.ireturn, 1, 0, 0, 0) from rfl)) (Nat.zero_le _) (Nat.zero_le _) ⟨_, rfl, Is1, Fs1, e6, rfl, ⟨by first | exact oq_86d733fe he6 g5 hs1.2.1.1 | omega, by first | exact oq_28aa47c9 he6 hs1.2.1.2 | omega⟩, by first | exact ⟨oq_d21c86c8 he6 g5 hs1.2.1.1, oq_6d24c36f he6 hs1.2.1.2⟩ | omega⟩
set_option maxRecDepth 4000 in
theorem c9_shorterThan_3 (G : GX l s0 D tys a0 dT) (I : Bd s) {x : Int} {lo hi0 : Int64} (p0 : 0 ≤ x ∧ x ≤ 9) : CT l s0 D A dT 119 (rmN 119) [.ref (A 3), .int (Int32.ofInt x), .long lo, .long hi0] s (fun o t => Bd t ∧ Fm [] [] s t ∧ ∃ e, o = .inl (some (.int (Int32.ofInt e))) ∧ rng e ∧ (True)) := by
  refine ct_ofX G (by decide) (Nat.le_of_ble_eq_true rfl) (fun k X E ET hRt hXt q => ?_)
  show WS k 0 [(0, .ref (A 3)), (1, .int (Int32.ofInt x)), (2, .long lo), (4, .long hi0)] [] _ 0 0
  have F : Fm [] [] s s := fm_rf _ _ s
  have b1 := bi_9 I
  have L6 : ∀ (n : Nat) (t : PS) (xv : Int) (lw : Int64) (hw : Int64) (bi : Int) (c : Int), Bd t → Fm [] [] s t → ((0 ≤ xv ∧ xv ≤ 9) ∧ rng bi ∧ 0 ≤ c ∧ c ≤ 12) → (12 - c : Int).toNat < n → (∀ (t' : PS) (bi' : Int) (c' : Int), Bd t' → Fm [] [] s t' → ((0 ≤ xv ∧ xv ≤ 9) ∧ rng bi' ∧ 0 ≤ c' ∧ c' ≤ 12) → WS k 43 [(0, .ref (A 3)), (1, .int (Int32.ofInt xv)), (2, .long lw), (4, .long hw), (6, .int (Int32.ofInt bi')), (7, .int (Int32.ofInt c'))] [] (Wd A dT t') 0 0) → WS k 6 [(0, .ref (A 3)), (1, .int (Int32.ofInt xv)), (2, .long lw), (4, .long hw), (6, .int (Int32.ofInt bi)), (7, .int (Int32.ofInt c))] [] (Wd A dT t) 0 0 := by
    intro n
    induction n with
    | zero =>
      intro t xv lw hw bi c I F hi hm kx
      exact absurd hm (Nat.not_lt_zero _)
    | succ n ih =>
      intro t xv lw hw bi c I F hi hm kx
      have b1001 := bi_9 I
      refine z_load X (x := c) rfl (List.Mem.tail _ (List.Mem.tail _ (List.Mem.tail _ (List.Mem.tail _ (List.Mem.tail _ (List.Mem.head _)))))) (z_aload_n X (x := A 3) rfl (List.Mem.head _) (z_getI X 3 rfl (c518_ok rfl) rfl rfl ?_))
      have b1002 := bi_9 I
      refine z_icmp_ge X (t := 43) rfl rfl ⟨by first | exact oq_fa4e5087 hi.2.2.1 | omega, by first | exact oq_78843a64 hi.2.2.2 | omega⟩ (rng_to _) (fun g1003 => ?_) (fun g1003 => ?_)
      ·
        refine WS_pq [0, 1, 2, 3, 4, 5] (lv' := [(0, .ref (A 3)), (1, .int (Int32.ofInt xv)), (2, .long lw), (4, .long hw), (6, .int (Int32.ofInt bi)), (7, .int (Int32.ofInt c))]) rfl ?_
        exact kx _ bi c I F (by first | exact ⟨And.intro (hi.1.1) (hi.1.2), And.intro (hi.2.1.1) (hi.2.1.2), hi.2.2.1, hi.2.2.2⟩ | omega)
      ·
        refine z_aload_n X (x := A 3) rfl (List.Mem.head _) (z_load X (x := c) rfl (List.Mem.tail _ (List.Mem.tail _ (List.Mem.tail _ (List.Mem.tail _ (List.Mem.tail _ (List.Mem.head _)))))) (w_lload_n X.1 (ax_d X (show cdA 119 18 = some (.lload_n 2, 1, 0, 0, 0) from rfl)) (x := lw) (List.Mem.tail _ (List.Mem.tail _ (List.Mem.head _))) (w_lload X.1 (ax_d X (show cdA 119 19 = some (.lload 4, 2, 0, 0, 0) from rfl)) (x := hw) (List.Mem.tail _ (List.Mem.tail _ (List.Mem.tail _ (List.Mem.head _)))) (zcV_i0 X E 3 (As := [.int (Int32.ofInt c), .long lw, .long hw]) (st := []) rfl rfl rfl rfl (c9_shortestStretch_3 G I (by first | exact ⟨hi.2.2.1, oq_e4d7f3c5 g1003 b1002.2⟩ | omega)) rfl (Nat.le_of_ble_eq_true rfl) (fun s1004 e1005 Is1004 Fs1004 hrs1004 hps1004 => ?_)))))
        have Gs1004 := fm_tq F Fs1004 rfl rfl
        have ws1004_9 : iI s1004 9 = iI t 9 := fm_iq Fs1004 rfl
        refine z_load_n X (x := xv) rfl (List.Mem.tail _ (List.Mem.head _)) (z_icmp_ge X (t := 37) rfl rfl hrs1004 ⟨by first | exact oq_fa4e5087 hi.1.1 | omega, by first | exact oq_f7e7bb0e hi.1.2 | omega⟩ (fun g1006 => ?_) (fun g1006 => ?_))
        ·
          refine z_inc X (x := c) (lv' := [(7, .int (Int32.ofInt (c + 1))), (0, .ref (A 3)), (1, .int (Int32.ofInt xv)), (2, .long lw), (4, .long hw), (6, .int (Int32.ofInt bi))]) rfl (by decide) (List.Mem.tail _ (List.Mem.tail _ (List.Mem.tail _ (List.Mem.tail _ (List.Mem.tail _ (List.Mem.head _)))))) (fun _ h => h) (z_goto X (t := 6) rfl rfl (WS_pq [1, 2, 3, 4, 5, 0] (lv' := [(0, .ref (A 3)), (1, .int (Int32.ofInt xv)), (2, .long lw), (4, .long hw), (6, .int (Int32.ofInt bi)), (7, .int (Int32.ofInt (c + 1)))]) rfl ?_))
          exact ih _ xv lw hw bi (c + 1) Is1004 Gs1004 (by first | exact ⟨And.intro (hi.1.1) (hi.1.2), And.intro (hi.2.1.1) (hi.2.1.2), oq_54f49eb5 hi.2.2.1, oq_4dae995e g1003 b1002.2⟩ | omega) (by first | exact qk_me hm (by decide) (oq_b575e8c1 g1003 b1002.2) | omega) kx
        ·
          refine z_load X (x := bi) rfl (List.Mem.tail _ (List.Mem.tail _ (List.Mem.tail _ (List.Mem.tail _ (List.Mem.head _))))) (z_const X rfl (z_load X (x := c) rfl (List.Mem.tail _ (List.Mem.tail _ (List.Mem.tail _ (List.Mem.tail _ (List.Mem.tail _ (List.Mem.head _)))))) (z_bshl X rfl (z_any (fun y1007 hy1007 => ?_)))))
          refine z_bor X rfl (z_any (fun y1008 hy1008 => ?_))
          refine z_store X (lv' := [(6, .int (Int32.ofInt y1008)), (0, .ref (A 3)), (1, .int (Int32.ofInt xv)), (2, .long lw), (4, .long hw), (7, .int (Int32.ofInt c))]) rfl (by decide) (fun _ h => h) (z_inc X (x := c) (lv' := [(7, .int (Int32.ofInt (c + 1))), (6, .int (Int32.ofInt y1008)), (0, .ref (A 3)), (1, .int (Int32.ofInt xv)), (2, .long lw), (4, .long hw)]) rfl (by decide) (List.Mem.tail _ (List.Mem.tail _ (List.Mem.tail _ (List.Mem.tail _ (List.Mem.tail _ (List.Mem.head _)))))) (fun _ h => h) (z_goto X (t := 6) rfl rfl (WS_pq [2, 3, 4, 5, 1, 0] (lv' := [(0, .ref (A 3)), (1, .int (Int32.ofInt xv)), (2, .long lw), (4, .long hw), (6, .int (Int32.ofInt y1008)), (7, .int (Int32.ofInt (c + 1)))]) rfl ?_)))
          exact ih _ xv lw hw y1008 (c + 1) Is1004 Gs1004 (by first | exact ⟨And.intro (hi.1.1) (hi.1.2), And.intro (hy1008.1) (hy1008.2), oq_54f49eb5 hi.2.2.1, oq_4dae995e g1003 b1002.2⟩ | omega) (by first | exact qk_me hm (by decide) (oq_b575e8c1 g1003 b1002.2) | omega) kx
  refine z_const X rfl (z_store X (lv' := [(6, .int (Int32.ofInt 0)), (0, .ref (A 3)), (1, .int (Int32.ofInt x)), (2, .long lo), (4, .long hi0)]) rfl (by decide) (fun _ h => h) (z_const X rfl (z_store X (lv' := [(7, .int (Int32.ofInt 0)), (6, .int (Int32.ofInt 0)), (0, .ref (A 3)), (1, .int (Int32.ofInt x)), (2, .long lo), (4, .long hi0)]) rfl (by decide) (fun _ h => h) (WS_pq [2, 3, 4, 5, 1, 0] (lv' := [(0, .ref (A 3)), (1, .int (Int32.ofInt x)), (2, .long lo), (4, .long hi0), (6, .int (Int32.ofInt 0)), (7, .int (Int32.ofInt 0))]) rfl (L6 ((12 - 0 : Int).toNat + 1) s x lo hi0 0 0 I F (by first | exact ⟨And.intro (p0.1) (p0.2), And.intro (by decide) (by decide), by decide, by decide⟩ | omega) (Nat.lt_succ_self _) ?_)))))
  intro s2 x3 x4 Is2 Fs2 hs2
  have b5 := bi_9 Is2
  refine z_load X (x := x3) rfl (List.Mem.tail _ (List.Mem.tail _ (List.Mem.tail _ (List.Mem.tail _ (List.Mem.head _))))) ?_
  exact w_iret X.1 q hRt rfl (ax_d X (show cdA 119 45 = some (.ireturn, 1, 0, 0, 0) from rfl)) (Nat.zero_le _) (Nat.zero_le _) ⟨_, rfl, Is2, Fs2, x3, rfl, ⟨by first | exact hs2.2.1.1 | omega, by first | exact hs2.2.1.2 | omega⟩, trivial⟩
end M72
