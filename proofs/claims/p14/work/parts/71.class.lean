theorem oq_64d26aad {a0 a1 : Int} (h0 : a0 < a1) (h1 : a1 = 3) : a0 < 3 := by omega
theorem oq_0f8b1e08 {a0 a1 : Int} (h0 : a0 < a1) (h1 : a1 = 3) : (a0 + 1) ≤ 3 := by omega
theorem oq_636d3ff9 {a0 a1 : Int} (h0 : a0 < a1) (h1 : a1 = 3) : 0 < (3 - a0) := by omega
theorem oq_3ba33515 {a0 : Int} (h0 : a0 = 24) : (-2147483648) ≤ a0 := by omega
theorem oq_1a30d88f {a0 : Int} (h0 : a0 = 24) : a0 ≤ 2147483647 := by omega
theorem oq_f04b8b25 {a0 a1 : Int} (h0 : a0 < a1) (h1 : a1 = 24) : a0 < 24 := by omega
theorem oq_2a29062c {a0 a1 : Int} (h0 : a0 < a1) (h1 : a1 = 24) : (a0 + 1) ≤ 24 := by omega
theorem oq_64c68951 {a0 a1 : Int} (h0 : a0 < a1) (h1 : a1 = 24) : 0 < (24 - a0) := by omega
theorem oq_fc89a5e2 {a0 : Int} (h0 : a0 = 8) : (-2147483648) ≤ a0 := by omega
theorem oq_105e271f {a0 : Int} (h0 : a0 = 8) : a0 ≤ 2147483647 := by omega
theorem oq_9b5e226c {a0 a1 : Int} (h0 : a0 < a1) (h1 : a1 = 8) : a0 < 8 := by omega
theorem oq_a1613568 {a0 a1 : Int} (h0 : a0 < a1) (h1 : a1 = 8) : (a0 + 1) ≤ 8 := by omega
theorem oq_a2c770ba {a0 a1 : Int} (h0 : a0 < a1) (h1 : a1 = 8) : 0 < (8 - a0) := by omega
theorem oq_836f9876 {a0 : Int} (h0 : a0 = 256) : (-2147483648) ≤ a0 := by omega
theorem oq_4f2d3355 {a0 : Int} (h0 : a0 = 256) : a0 ≤ 2147483647 := by omega
theorem oq_c879b548 {a0 a1 : Int} (h0 : a0 < a1) (h1 : a1 = 256) : a0 < 256 := by omega
theorem oq_961868b5 {a0 a1 : Int} (h0 : a0 < a1) (h1 : a1 = 256) : (a0 + 1) ≤ 256 := by omega
theorem oq_41a13d55 {a0 a1 : Int} (h0 : a0 < a1) (h1 : a1 = 256) : 0 < (256 - a0) := by omega
theorem oq_b73d3f00 {a0 : Int} (h0 : a0 = 128) : (-2147483648) ≤ a0 := by omega
theorem oq_5d97283a {a0 : Int} (h0 : a0 = 128) : a0 ≤ 2147483647 := by omega
theorem oq_9ea9f5fe {a0 a1 : Int} (h0 : a0 < a1) (h1 : a1 = 128) : a0 < 128 := by omega
theorem oq_b5166a24 {a0 a1 : Int} (h0 : a0 < a1) (h1 : a1 = 128) : (a0 + 1) ≤ 128 := by omega
theorem oq_49db1926 {a0 a1 : Int} (h0 : a0 < a1) (h1 : a1 = 128) : 0 < (128 - a0) := by omega
theorem oq_92a22ab8 {a0 : Int} (h0 : a0 = 4) : (-2147483648) ≤ a0 := by omega
theorem oq_422db60c {a0 : Int} (h0 : a0 = 4) : a0 ≤ 2147483647 := by omega
theorem oq_8e4b0007 {a0 a1 : Int} (h0 : a0 < a1) (h1 : a1 = 4) : a0 < 4 := by omega
theorem oq_e56bd98a {a0 a1 : Int} (h0 : a0 < a1) (h1 : a1 = 4) : (a0 + 1) ≤ 4 := by omega
theorem oq_a6efd014 {a0 a1 : Int} (h0 : a0 < a1) (h1 : a1 = 4) : 0 < (4 - a0) := by omega
theorem oq_c35a0598 {a0 a1 : Int} (h0 : a0 = a1) (h1 : a1 < 200) : (a0 + 1) ≤ 200 := by omega
theorem oq_8b83adc9 {a0 : Int} (h0 : 0 ≤ a0) : 0 < (a0 + 8) := by omega
theorem oq_07cf5768 {a0 : Int} (h0 : (a0 + 20) ≤ 200) : a0 ≤ 196 := by omega
theorem oq_f65ea7aa {a0 : Int} (h0 : (a0 + 20) ≤ 200) : a0 ≤ 180 := by omega
theorem oq_4a84d32d {a0 : Int} (h0 : 200 < (a0 + 20)) : 180 < a0 := by omega
theorem oq_1ca04d49 {a0 a1 a2 : Int} (h0 : ((a0 = 0 ∧ a1 = a2) ∨ ((a0 ≠ 0 ∧ (a2 < 97 ∧ a1 = a2)) ∨ ((a0 ≠ 0 ∧ (97 ≤ a2 ∧ (122 < a2 ∧ a1 = a2))) ∨ (a0 ≠ 0 ∧ (97 ≤ a2 ∧ (a2 ≤ 122 ∧ a1 = (-3)))))))) (h1 : 0 ≤ a2) : (-2147483648) ≤ a1 := by omega
theorem oq_6ba7703b {a0 a1 a2 : Int} (h0 : ((a0 = 0 ∧ a1 = a2) ∨ ((a0 ≠ 0 ∧ (a2 < 97 ∧ a1 = a2)) ∨ ((a0 ≠ 0 ∧ (97 ≤ a2 ∧ (122 < a2 ∧ a1 = a2))) ∨ (a0 ≠ 0 ∧ (97 ≤ a2 ∧ (a2 ≤ 122 ∧ a1 = (-3)))))))) (h1 : a2 < 48) : a1 ≤ 2147483647 := by omega
theorem oq_a6687a98 {a0 : Int} (h0 : a0 < 48) : a0 ≤ 2147483647 := by omega
theorem oq_9ccaf4ac {a0 : Int} (h0 : 97 ≤ a0) : (-2147483648) ≤ a0 := by omega
theorem oq_7e4cb212 {a0 : Int} (h0 : 48 ≤ a0) : (-2147483648) ≤ a0 := by omega
theorem oq_3fba5eee {a0 a1 a2 : Int} (h0 : ((a0 = 0 ∧ a1 = a2) ∨ ((a0 ≠ 0 ∧ (a2 < 97 ∧ a1 = a2)) ∨ ((a0 ≠ 0 ∧ (97 ≤ a2 ∧ (122 < a2 ∧ a1 = a2))) ∨ (a0 ≠ 0 ∧ (97 ≤ a2 ∧ (a2 ≤ 122 ∧ a1 = (-3)))))))) (h1 : 57 < a2) : (-2147483648) ≤ a1 := by omega
theorem oq_fc94949b {a0 a1 a2 : Int} (h0 : ((a0 = 0 ∧ a1 = a2) ∨ ((a0 ≠ 0 ∧ (a2 < 97 ∧ a1 = a2)) ∨ ((a0 ≠ 0 ∧ (97 ≤ a2 ∧ (122 < a2 ∧ a1 = a2))) ∨ (a0 ≠ 0 ∧ (97 ≤ a2 ∧ (a2 ≤ 122 ∧ a1 = (-3)))))))) (h1 : a2 ≤ 255) : a1 ≤ 2147483647 := by omega
theorem oq_eac89bd5 {a0 : Int} (h0 : 57 < a0) : (-2147483648) ≤ a0 := by omega
theorem oq_aac78eb5 {a0 : Int} (h0 : a0 ≤ 4) : a0 ≤ 9 := by omega
theorem oq_228270fa {a0 a1 : Int} (h0 : a0 < a1) (h1 : a1 ≤ 200) : (a0 + 1) ≤ 200 := by omega
theorem oq_61bfd4fa {a0 a1 a2 a3 : Int} (h0 : a0 = a1) (h1 : a2 = (a3 + 1)) (h2 : a3 < a1) : a2 ≤ a0 := by omega
theorem oq_bf2569a2 {a0 a1 a2 a3 : Int} (h0 : a0 = a1) (h1 : a2 = (a3 + 1)) : (a0 - a2) < (a1 - a3) := by omega
theorem oq_74ddc356 {a0 a1 : Int} (h0 : 0 ≤ a0) (h1 : 0 ≤ a1) : (-2147483648) ≤ (((a0 * 10) + a1) - 48) := by omega
theorem oq_507881e8 {a0 a1 : Int} (h0 : a0 ≤ 100000) (h1 : a1 ≤ 255) : (((a0 * 10) + a1) - 48) ≤ 2147483647 := by omega
theorem oq_111e13c5 {a0 a1 a2 : Int} (h0 : ((a0 = 100000 ∧ 100000 ≤ (((a1 * 10) + a2) - 48)) ∨ (a0 = (((a1 * 10) + a2) - 48) ∧ (((a1 * 10) + a2) - 48) < 100000))) : a0 ≤ 100000 := by omega
theorem oq_d5d8953a {a0 a1 a2 : Int} (h0 : ((a0 = 100000 ∧ 100000 ≤ (((a1 * 10) + a2) - 48)) ∨ (a0 = (((a1 * 10) + a2) - 48) ∧ (((a1 * 10) + a2) - 48) < 100000))) (h1 : 0 ≤ a2) (h2 : 0 ≤ a1) : (-2147483648) ≤ a0 := by omega
theorem oq_aae81add {a0 a1 a2 : Int} (h0 : ((a0 = 100000 ∧ 100000 ≤ (((a1 * 10) + a2) - 48)) ∨ (a0 = (((a1 * 10) + a2) - 48) ∧ (((a1 * 10) + a2) - 48) < 100000))) : a0 ≤ 2147483647 := by omega
theorem oq_ff985df0 {a0 a1 a2 : Int} (h0 : a0 = a1) (h1 : a1 < a2) (h2 : a2 ≤ 200) : (a0 + 1) ≤ 200 := by omega
theorem oq_499a7076 {a0 a1 a2 a3 a4 a5 : Int} (h0 : a0 = a1) (h1 : a2 = (a3 + 1)) (h2 : a1 = a4) (h3 : a3 = a5) (h4 : a5 < a4) : a2 ≤ a0 := by omega
theorem oq_552af53c {a0 a1 a2 a3 a4 a5 : Int} (h0 : a0 = (a1 + 1)) (h1 : a2 = a3) (h2 : a3 = a4) (h3 : a1 = a5) (h4 : a4 ≤ a5) : a2 ≤ a0 := by omega
theorem oq_13269827 {a0 a1 a2 a3 : Int} (h0 : a0 = (a1 + 1)) (h1 : a2 = a3) (h2 : a3 ≤ a1) : a2 ≤ a0 := by omega
theorem oq_72ebe5a4 {a0 a1 a2 a3 a4 a5 a6 a7 : Int} (h0 : a0 = a1) (h1 : a2 = a3) (h2 : a1 = a4) (h3 : a3 = a5) (h4 : a4 = a6) (h5 : a5 = a7) (h6 : a7 ≤ a6) : a2 ≤ a0 := by omega
theorem oq_75f1f811 {a0 a1 a2 a3 a4 a5 a6 : Int} (h0 : a0 = a1) (h1 : a2 = a3) (h2 : a1 = a4) (h3 : a3 = a5) (h4 : a5 = a6) (h5 : a4 = a6) : a0 ≤ a2 := by omega
theorem oq_3239b5cf {a0 a1 : Int} (h0 : a0 ≠ (-1)) (h1 : a0 = (-1)) : (a1 + 1) ≤ 200 := by omega
theorem oq_92cb535d {a0 a1 a2 : Int} (h0 : a0 ≠ (-1)) (h1 : a0 = (-1)) : a1 ≤ a2 := by omega
theorem oq_92f9996c {a0 a1 a2 a3 a4 a5 a6 a7 a8 : Int} (h0 : a0 = a1) (h1 : a2 = (a3 + 1)) (h2 : a1 = a4) (h3 : a3 = a5) (h4 : a4 = a6) (h5 : a5 = a7) (h6 : a7 = a8) (h7 : a6 = a8) : a0 ≤ a2 := by omega
theorem oq_6e4ffff9 {a0 a1 a2 : Int} (h0 : a0 = (-3)) (h1 : a0 = (-1)) : a1 ≤ a2 := by omega
theorem oq_d948e2ba {a0 a1 a2 : Int} (h0 : a0 = (-2)) (h1 : a0 = (-1)) : a1 ≤ a2 := by omega
theorem oq_51a58521 {a0 a1 a2 a3 : Int} (h0 : a0 = a1) (h1 : a2 = a3) (h2 : a3 < a1) : a2 ≤ a0 := by omega
theorem oq_c5d7b2c9 {a0 a1 a2 a3 a4 a5 a6 a7 a8 a9 a10 a11 : Int} (h0 : a0 = a1) (h1 : a2 = a3) (h2 : a1 = a4) (h3 : a3 = a5) (h4 : a4 = a6) (h5 : a5 = a7) (h6 : a6 = a8) (h7 : a7 = a9) (h8 : a8 = a10) (h9 : a9 = 0) (h10 : a10 = a11) (h11 : 0 ≤ a11) : a2 ≤ a0 := by omega
theorem oq_3ac7fb06 {a0 a1 : Int} (h0 : ((7 ≤ (a0 % 8) ∧ a1 = (-1)) ∨ ((a0 % 8) < 7 ∧ a1 = (a0 + 1)))) (h1 : 0 ≤ a0) : (-2147483648) ≤ a1 := by omega
theorem oq_df418479 {a0 a1 : Int} (h0 : ((7 ≤ (a0 % 8) ∧ a1 = (-1)) ∨ ((a0 % 8) < 7 ∧ a1 = (a0 + 1)))) (h1 : a0 ≤ 127) : a1 ≤ 2147483647 := by omega
theorem oq_8655ee20 {a0 a1 : Int} (h0 : ((7 ≤ (a0 % 8) ∧ a1 = (-1)) ∨ ((a0 % 8) < 7 ∧ a1 = (a0 + 1)))) (h1 : 0 ≤ a0) : (-1) ≤ a1 := by omega
theorem oq_b7fd8e5d {a0 a1 : Int} (h0 : (((a0 % 8) ≤ 0 ∧ a1 = (-1)) ∨ (0 < (a0 % 8) ∧ a1 = (a0 - 1)))) (h1 : 0 ≤ a0) : (-2147483648) ≤ a1 := by omega
theorem oq_9d1ba81c {a0 a1 : Int} (h0 : (((a0 % 8) ≤ 0 ∧ a1 = (-1)) ∨ (0 < (a0 % 8) ∧ a1 = (a0 - 1)))) (h1 : a0 ≤ 127) : a1 ≤ 2147483647 := by omega
theorem oq_7e4871f0 {a0 a1 : Int} (h0 : (((a0 % 8) ≤ 0 ∧ a1 = (-1)) ∨ (0 < (a0 % 8) ∧ a1 = (a0 - 1)))) (h1 : 0 ≤ a0) : (-1) ≤ a1 := by omega
theorem oq_16d44b6a {a0 a1 : Int} (h0 : (((a0 % 8) ≤ 0 ∧ a1 = (-1)) ∨ (0 < (a0 % 8) ∧ a1 = (a0 - 1)))) (h1 : a0 ≤ 127) : a1 ≤ 127 := by omega
theorem oq_7a2b650a {a0 a1 : Int} (h0 : ((56 ≤ (((a0 / 8) % 8) * 8) ∧ a1 = (-1)) ∨ ((((a0 / 8) % 8) * 8) < 56 ∧ a1 = (a0 + 8)))) (h1 : 0 ≤ a0) : (-2147483648) ≤ a1 := by omega
theorem oq_f231750c {a0 a1 : Int} (h0 : ((56 ≤ (((a0 / 8) % 8) * 8) ∧ a1 = (-1)) ∨ ((((a0 / 8) % 8) * 8) < 56 ∧ a1 = (a0 + 8)))) (h1 : a0 ≤ 127) : a1 ≤ 2147483647 := by omega
theorem oq_ad1df6ed {a0 a1 : Int} (h0 : ((56 ≤ (((a0 / 8) % 8) * 8) ∧ a1 = (-1)) ∨ ((((a0 / 8) % 8) * 8) < 56 ∧ a1 = (a0 + 8)))) (h1 : 0 ≤ a0) : (-1) ≤ a1 := by omega
theorem oq_96d4763a {a0 : Int}  : (-2147483648) ≤ (((a0 / 8) % 8) * 8) := by omega
theorem oq_4d664977 {a0 : Int}  : (((a0 / 8) % 8) * 8) ≤ 2147483647 := by omega
theorem oq_2d0dfc68 {a0 a1 : Int} (h0 : (((((a0 / 8) % 8) * 8) ≤ 0 ∧ a1 = (-1)) ∨ (0 < (((a0 / 8) % 8) * 8) ∧ a1 = (a0 - 8)))) (h1 : 0 ≤ a0) : (-2147483648) ≤ a1 := by omega
theorem oq_83fab6db {a0 a1 : Int} (h0 : (((((a0 / 8) % 8) * 8) ≤ 0 ∧ a1 = (-1)) ∨ (0 < (((a0 / 8) % 8) * 8) ∧ a1 = (a0 - 8)))) (h1 : a0 ≤ 127) : a1 ≤ 2147483647 := by omega
theorem oq_057900c8 {a0 a1 : Int} (h0 : (((((a0 / 8) % 8) * 8) ≤ 0 ∧ a1 = (-1)) ∨ (0 < (((a0 / 8) % 8) * 8) ∧ a1 = (a0 - 8)))) (h1 : a0 ≤ 127) : a1 ≤ 127 := by omega
theorem oq_59c92683 {a0 a1 : Int} (h0 : ((64 ≤ a0 ∧ a1 = (-1)) ∨ (a0 < 64 ∧ a1 = (a0 + 64)))) (h1 : 0 ≤ a0) : (-2147483648) ≤ a1 := by omega
theorem oq_f358200e {a0 a1 : Int} (h0 : ((64 ≤ a0 ∧ a1 = (-1)) ∨ (a0 < 64 ∧ a1 = (a0 + 64)))) : a1 ≤ 2147483647 := by omega
theorem oq_201a3ceb {a0 a1 : Int} (h0 : ((64 ≤ a0 ∧ a1 = (-1)) ∨ (a0 < 64 ∧ a1 = (a0 + 64)))) (h1 : 0 ≤ a0) : (-1) ≤ a1 := by omega
theorem oq_3594ddd9 {a0 a1 : Int} (h0 : ((64 ≤ a0 ∧ a1 = (-1)) ∨ (a0 < 64 ∧ a1 = (a0 + 64)))) : a1 ≤ 127 := by omega
theorem oq_241d06ca {a0 a1 : Int} (h0 : ((a0 < 64 ∧ a1 = (-1)) ∨ (64 ≤ a0 ∧ a1 = (a0 - 64)))) : (-2147483648) ≤ a1 := by omega
theorem oq_b2c34735 {a0 a1 : Int} (h0 : ((a0 < 64 ∧ a1 = (-1)) ∨ (64 ≤ a0 ∧ a1 = (a0 - 64)))) (h1 : a0 ≤ 127) : a1 ≤ 2147483647 := by omega
theorem oq_91d95e88 {a0 a1 : Int} (h0 : ((a0 < 64 ∧ a1 = (-1)) ∨ (64 ≤ a0 ∧ a1 = (a0 - 64)))) : (-1) ≤ a1 := by omega
theorem oq_444e6966 {a0 a1 : Int} (h0 : ((a0 < 64 ∧ a1 = (-1)) ∨ (64 ≤ a0 ∧ a1 = (a0 - 64)))) (h1 : a0 ≤ 127) : a1 ≤ 127 := by omega
/-! The class: small methods -/
section M71
variable {l : Launch} {s0 : State} {D : va_G} {tys : List (ClassId × FieldType)} {a0 : Array Value} {A : Nat → Nat} {dT : Nat → ClassId} {s : PS}
set_option maxRecDepth 4000 in
theorem j_bitL (G : GX l s0 D tys a0 dT) (I : Bd s) {jj : Int64}  : CT l s0 D A dT 298 (rmN 298) [.long jj] s (fun o t => Bd t ∧ Fm [] [] s t ∧ ∃ e, o = .inl (some (.int (Int32.ofInt e))) ∧ rng e ∧ (True)) := by
  refine ct_ofX G (by decide) (Nat.le_of_ble_eq_true rfl) (fun k X E ET hRt hXt q => ?_)
  show WS k 0 [(0, .long jj)] [] _ 0 0
  have F : Fm [] [] s s := fm_rf _ _ s
  refine w_lload_n X.1 (ax_d X (show cdA 298 0 = some (.lload_n 0, 1, 0, 0, 0) from rfl)) (x := jj) (List.Mem.head _) (w_lload_n X.1 (ax_d X (show cdA 298 1 = some (.lload_n 0, 1, 0, 0, 0) from rfl)) (x := jj) (List.Mem.head _) (z_const X rfl (w_lushr X.1 (ax_d X (show cdA 298 3 = some (.lushr, 1, 0, 0, 0) from rfl)) (z_anyJ (fun j1 => ?_)))))
  refine z_ldc2 X rfl (fun j2 => ?_)
  refine w_land X.1 (ax_d X (show cdA 298 7 = some (.land, 1, 0, 0, 0) from rfl)) (z_anyJ (fun j3 => ?_))
  refine w_lsub X.1 (ax_d X (show cdA 298 8 = some (.lsub, 1, 0, 0, 0) from rfl)) (z_anyJ (fun j4 => ?_))
  refine w_lstore_n X.1 (lv' := [(0, .long j4)]) (ax_d X (show cdA 298 9 = some (.lstore_n 0, 1, 0, 0, 0) from rfl)) (by rw [X.2.1.2.2]; decide) (fun _ h => h) (w_lload_n X.1 (ax_d X (show cdA 298 10 = some (.lload_n 0, 1, 0, 0, 0) from rfl)) (x := j4) (List.Mem.head _) (z_ldc2 X rfl (fun j5 => ?_)))
  refine w_land X.1 (ax_d X (show cdA 298 14 = some (.land, 1, 0, 0, 0) from rfl)) (z_anyJ (fun j6 => ?_))
  refine w_lload_n X.1 (ax_d X (show cdA 298 15 = some (.lload_n 0, 1, 0, 0, 0) from rfl)) (x := j4) (List.Mem.head _) (z_const X rfl (w_lushr X.1 (ax_d X (show cdA 298 17 = some (.lushr, 1, 0, 0, 0) from rfl)) (z_anyJ (fun j7 => ?_))))
  refine z_ldc2 X rfl (fun j8 => ?_)
  refine w_land X.1 (ax_d X (show cdA 298 21 = some (.land, 1, 0, 0, 0) from rfl)) (z_anyJ (fun j9 => ?_))
  refine w_ladd X.1 (ax_d X (show cdA 298 22 = some (.ladd, 1, 0, 0, 0) from rfl)) (z_anyJ (fun j10 => ?_))
  refine w_lstore_n X.1 (lv' := [(0, .long j10)]) (ax_d X (show cdA 298 23 = some (.lstore_n 0, 1, 0, 0, 0) from rfl)) (by rw [X.2.1.2.2]; decide) (fun _ h => h) (w_lload_n X.1 (ax_d X (show cdA 298 24 = some (.lload_n 0, 1, 0, 0, 0) from rfl)) (x := j10) (List.Mem.head _) (w_lload_n X.1 (ax_d X (show cdA 298 25 = some (.lload_n 0, 1, 0, 0, 0) from rfl)) (x := j10) (List.Mem.head _) (z_const X rfl (w_lushr X.1 (ax_d X (show cdA 298 27 = some (.lushr, 1, 0, 0, 0) from rfl)) (z_anyJ (fun j11 => ?_))))))
  refine w_ladd X.1 (ax_d X (show cdA 298 28 = some (.ladd, 1, 0, 0, 0) from rfl)) (z_anyJ (fun j12 => ?_))
  refine z_ldc2 X rfl (fun j13 => ?_)
  refine w_land X.1 (ax_d X (show cdA 298 32 = some (.land, 1, 0, 0, 0) from rfl)) (z_anyJ (fun j14 => ?_))
  refine w_lstore_n X.1 (lv' := [(0, .long j14)]) (ax_d X (show cdA 298 33 = some (.lstore_n 0, 1, 0, 0, 0) from rfl)) (by rw [X.2.1.2.2]; decide) (fun _ h => h) (w_lload_n X.1 (ax_d X (show cdA 298 34 = some (.lload_n 0, 1, 0, 0, 0) from rfl)) (x := j14) (List.Mem.head _) (w_lload_n X.1 (ax_d X (show cdA 298 35 = some (.lload_n 0, 1, 0, 0, 0) from rfl)) (x := j14) (List.Mem.head _) (z_bipush X rfl (w_lushr X.1 (ax_d X (show cdA 298 38 = some (.lushr, 1, 0, 0, 0) from rfl)) (z_anyJ (fun j15 => ?_))))))
  refine w_ladd X.1 (ax_d X (show cdA 298 39 = some (.ladd, 1, 0, 0, 0) from rfl)) (z_anyJ (fun j16 => ?_))
  refine w_lstore_n X.1 (lv' := [(0, .long j16)]) (ax_d X (show cdA 298 40 = some (.lstore_n 0, 1, 0, 0, 0) from rfl)) (by rw [X.2.1.2.2]; decide) (fun _ h => h) (w_lload_n X.1 (ax_d X (show cdA 298 41 = some (.lload_n 0, 1, 0, 0, 0) from rfl)) (x := j16) (List.Mem.head _) (w_lload_n X.1 (ax_d X (show cdA 298 42 = some (.lload_n 0, 1, 0, 0, 0) from rfl)) (x := j16) (List.Mem.head _) (z_bipush X rfl (w_lushr X.1 (ax_d X (show cdA 298 45 = some (.lushr, 1, 0, 0, 0) from rfl)) (z_anyJ (fun j17 => ?_))))))
  refine w_ladd X.1 (ax_d X (show cdA 298 46 = some (.ladd, 1, 0, 0, 0) from rfl)) (z_anyJ (fun j18 => ?_))
  refine w_lstore_n X.1 (lv' := [(0, .long j18)]) (ax_d X (show cdA 298 47 = some (.lstore_n 0, 1, 0, 0, 0) from rfl)) (by rw [X.2.1.2.2]; decide) (fun _ h => h) (w_lload_n X.1 (ax_d X (show cdA 298 48 = some (.lload_n 0, 1, 0, 0, 0) from rfl)) (x := j18) (List.Mem.head _) (w_lload_n X.1 (ax_d X (show cdA 298 49 = some (.lload_n 0, 1, 0, 0, 0) from rfl)) (x := j18) (List.Mem.head _) (z_bipush X rfl (w_lushr X.1 (ax_d X (show cdA 298 52 = some (.lushr, 1, 0, 0, 0) from rfl)) (z_anyJ (fun j19 => ?_))))))
  refine w_ladd X.1 (ax_d X (show cdA 298 53 = some (.ladd, 1, 0, 0, 0) from rfl)) (z_anyJ (fun j20 => ?_))
  refine w_lstore_n X.1 (lv' := [(0, .long j20)]) (ax_d X (show cdA 298 54 = some (.lstore_n 0, 1, 0, 0, 0) from rfl)) (by rw [X.2.1.2.2]; decide) (fun _ h => h) (w_lload_n X.1 (ax_d X (show cdA 298 55 = some (.lload_n 0, 1, 0, 0, 0) from rfl)) (x := j20) (List.Mem.head _) (w_l2i X.1 (ax_d X (show cdA 298 56 = some (.l2i, 1, 0, 0, 0) from rfl)) (z_any (fun y21 hy21 => ?_))))
  refine z_bipush X rfl (z_andm X rfl (by decide) (by decide) (fun y22 hy22 gy22 => ?_))
  exact w_iret X.1 q hRt rfl (ax_d X (show cdA 298 60 = some (.ireturn, 1, 0, 0, 0) from rfl)) (Nat.zero_le _) (Nat.zero_le _) ⟨_, rfl, I, F, y22, rfl, ⟨by first | exact oq_fa4e5087 hy22 | omega, by first | exact oq_07d346ce gy22 | omega⟩, trivial⟩
set_option maxRecDepth 4000 in
theorem j_lowL (G : GX l s0 D tys a0 dT) (I : Bd s) {jj : Int64}  : CT l s0 D A dT 297 (rmN 297) [.long jj] s (fun o t => Bd t ∧ Fm [] [] s t ∧ ∃ e : Int64, o = .inl (some (.long e)) ∧ (True)) := by
  refine ct_ofX G (by decide) (Nat.le_of_ble_eq_true rfl) (fun k X E ET hRt hXt q => ?_)
  show WS k 0 [(0, .long jj)] [] _ 0 0
  have F : Fm [] [] s s := fm_rf _ _ s
  refine w_lload_n X.1 (ax_d X (show cdA 297 0 = some (.lload_n 0, 1, 0, 0, 0) from rfl)) (x := jj) (List.Mem.head _) (w_lload_n X.1 (ax_d X (show cdA 297 1 = some (.lload_n 0, 1, 0, 0, 0) from rfl)) (x := jj) (List.Mem.head _) (w_lneg X.1 (ax_d X (show cdA 297 2 = some (.lneg, 1, 0, 0, 0) from rfl)) (z_anyJ (fun j1 => ?_))))
  refine w_land X.1 (ax_d X (show cdA 297 3 = some (.land, 1, 0, 0, 0) from rfl)) (z_anyJ (fun j2 => ?_))
  exact w_lret X.1 q hRt (ax_d X (show cdA 297 4 = some (.lreturn, 1, 0, 0, 0) from rfl)) (Nat.zero_le _) (Nat.zero_le _) ⟨_, rfl, I, F, j2, rfl, trivial⟩
set_option maxRecDepth 4000 in
theorem j_fill_52 (G : GX l s0 D tys a0 dT) (I : Bd s) {x : Int} (p0 : 0 ≤ x ∧ x ≤ 255) : CT l s0 D A dT 312 (rmN 312) [.ref (A 52), .int (Int32.ofInt x)] s (fun o t => Bd t ∧ Fm [] [44] s t ∧ o = .inl none ∧ (True)) := by
  refine ct_ofX G (by decide) (Nat.le_of_ble_eq_true rfl) (fun k X E ET hRt hXt q => ?_)
  show WS k 0 [(0, .ref (A 52)), (1, .int (Int32.ofInt x))] [] _ 0 0
  have F : Fm [] [44] s s := fm_rf _ _ s
  have L5 : ∀ (n : Nat) (t : PS) (xv c ln : Int), Bd t → Fm [] [44] s t → ((0 ≤ xv ∧ xv ≤ 255) ∧ ln = 3 ∧ 0 ≤ c ∧ c ≤ 3) → (3 - c : Int).toNat < n → (∀ (t' : PS) (c' : Int), Bd t' → Fm [] [44] s t' → ((0 ≤ xv ∧ xv ≤ 255) ∧ ln = 3 ∧ 0 ≤ c' ∧ c' ≤ 3) → WS k 20 [(0, .ref (A 52)), (1, .int (Int32.ofInt xv)), (2, .int (Int32.ofInt c')), (3, .int (Int32.ofInt ln))] [] (Wd A dT t') 0 0) → WS k 5 [(0, .ref (A 52)), (1, .int (Int32.ofInt xv)), (2, .int (Int32.ofInt c)), (3, .int (Int32.ofInt ln))] [] (Wd A dT t) 0 0 := by
    intro n
    induction n with
    | zero =>
      intro t xv c ln I F hi hm kx
      exact absurd hm (Nat.not_lt_zero _)
    | succ n ih =>
      intro t xv c ln I F hi hm kx
      refine z_load_n X (x := c) rfl (List.Mem.tail _ (List.Mem.tail _ (List.Mem.head _))) (z_load_n X (x := ln) rfl (List.Mem.tail _ (List.Mem.tail _ (List.Mem.tail _ (List.Mem.head _)))) (z_icmp_ge X (t := 20) rfl rfl ⟨by first | exact oq_fa4e5087 hi.2.2.1 | omega, by first | exact oq_c5520c83 hi.2.2.2 | omega⟩ ⟨by first | exact oq_5e17cb06 hi.2.1 | omega, by first | exact oq_ebfd4642 hi.2.1 | omega⟩ (fun g1001 => ?_) (fun g1001 => ?_)))
      ·
        refine WS_pq [0, 1, 2, 3] (lv' := [(0, .ref (A 52)), (1, .int (Int32.ofInt xv)), (2, .int (Int32.ofInt c)), (3, .int (Int32.ofInt ln))]) rfl ?_
        exact kx _ c I F (by first | exact ⟨And.intro (hi.1.1) (hi.1.2), hi.2.1, hi.2.2.1, hi.2.2.2⟩ | omega)
      ·
        refine z_aload_n X (x := A 52) rfl (List.Mem.head _) (z_load_n X (x := c) rfl (List.Mem.tail _ (List.Mem.tail _ (List.Mem.head _))) (z_load_n X (x := xv) rfl (List.Mem.tail _ (List.Mem.head _)) (z_ast X 52 rfl (c518_ok rfl) rfl (by first | exact hi.2.2.1 | omega) (show c < 3 by first | exact oq_64d26aad g1001 hi.2.1 | omega) (cbig_ok rfl) (wd_gen (fun s1002 hs1002 => ?_)))))
        have Is1002 : Bd s1002 := eqB hs1002 (bd_C I (show (0 : Int) ≤ xv ∧ xv ≤ 255 by first | exact ⟨hi.1.1, hi.1.2⟩ | omega) ⟨by first | exact oq_fa4e5087 hi.1.1 | omega, by first | exact oq_4567a937 hi.1.2 | omega⟩)
        have Fs1002 := eqF hs1002 (fm_C F (inl_ok (a := 44) rfl))
        refine z_inc X (x := c) (lv' := [(2, .int (Int32.ofInt (c + 1))), (0, .ref (A 52)), (1, .int (Int32.ofInt xv)), (3, .int (Int32.ofInt ln))]) rfl (by decide) (List.Mem.tail _ (List.Mem.tail _ (List.Mem.head _))) (fun _ h => h) (z_goto X (t := 5) rfl rfl (WS_pq [1, 2, 0, 3] (lv' := [(0, .ref (A 52)), (1, .int (Int32.ofInt xv)), (2, .int (Int32.ofInt (c + 1))), (3, .int (Int32.ofInt ln))]) rfl ?_))
        exact ih _ xv (c + 1) ln Is1002 Fs1002 (by first | exact ⟨And.intro (hi.1.1) (hi.1.2), hi.2.1, oq_54f49eb5 hi.2.2.1, oq_0f8b1e08 g1001 hi.2.1⟩ | omega) (by first | exact qk_me hm (by decide) (oq_636d3ff9 g1001 hi.2.1) | omega) kx
  refine z_const X rfl (z_store_n X (lv' := [(2, .int (Int32.ofInt 0)), (0, .ref (A 52)), (1, .int (Int32.ofInt x))]) rfl (by decide) (fun _ h => h) (z_aload_n X (x := A 52) rfl (List.Mem.tail _ (List.Mem.head _)) (z_alen X 52 rfl (by decide) rfl rfl (z_store_n X (lv' := [(3, .int (Int32.ofInt 3)), (2, .int (Int32.ofInt 0)), (0, .ref (A 52)), (1, .int (Int32.ofInt x))]) rfl (by decide) (fun _ h => h) (WS_pq [2, 3, 1, 0] (lv' := [(0, .ref (A 52)), (1, .int (Int32.ofInt x)), (2, .int (Int32.ofInt 0)), (3, .int (Int32.ofInt 3))]) rfl (L5 ((3 - 0 : Int).toNat + 1) s x 0 3 I F (by first | exact ⟨And.intro (p0.1) (p0.2), by decide, by decide, by decide⟩ | omega) (Nat.lt_succ_self _) ?_))))))
  intro s1 x2 Is1 Fs1 hs1
  exact w_vret X.1 q hRt (ax_d X (show cdA 312 20 = some (.return_, 1, 0, 0, 0) from rfl)) (Nat.zero_le _) (Nat.zero_le _) ⟨_, rfl, Is1, Fs1, rfl, trivial⟩
set_option maxRecDepth 4000 in
theorem j_fill_58 (G : GX l s0 D tys a0 dT) (I : Bd s) {x : Int} (p0 : (-2147483648) ≤ x ∧ x ≤ 2147483647) : CT l s0 D A dT 312 (rmN 312) [.ref (A 58), .int (Int32.ofInt x)] s (fun o t => Bd t ∧ Fm [] [49] s t ∧ o = .inl none ∧ (True)) := by
  refine ct_ofX G (by decide) (Nat.le_of_ble_eq_true rfl) (fun k X E ET hRt hXt q => ?_)
  show WS k 0 [(0, .ref (A 58)), (1, .int (Int32.ofInt x))] [] _ 0 0
  have F : Fm [] [49] s s := fm_rf _ _ s
  have L5 : ∀ (n : Nat) (t : PS) (xv c ln : Int), Bd t → Fm [] [49] s t → (((-2147483648) ≤ xv ∧ xv ≤ 2147483647) ∧ ln = 24 ∧ 0 ≤ c ∧ c ≤ 24) → (24 - c : Int).toNat < n → (∀ (t' : PS) (c' : Int), Bd t' → Fm [] [49] s t' → (((-2147483648) ≤ xv ∧ xv ≤ 2147483647) ∧ ln = 24 ∧ 0 ≤ c' ∧ c' ≤ 24) → WS k 20 [(0, .ref (A 58)), (1, .int (Int32.ofInt xv)), (2, .int (Int32.ofInt c')), (3, .int (Int32.ofInt ln))] [] (Wd A dT t') 0 0) → WS k 5 [(0, .ref (A 58)), (1, .int (Int32.ofInt xv)), (2, .int (Int32.ofInt c)), (3, .int (Int32.ofInt ln))] [] (Wd A dT t) 0 0 := by
    intro n
    induction n with
    | zero =>
      intro t xv c ln I F hi hm kx
      exact absurd hm (Nat.not_lt_zero _)
    | succ n ih =>
      intro t xv c ln I F hi hm kx
      refine z_load_n X (x := c) rfl (List.Mem.tail _ (List.Mem.tail _ (List.Mem.head _))) (z_load_n X (x := ln) rfl (List.Mem.tail _ (List.Mem.tail _ (List.Mem.tail _ (List.Mem.head _)))) (z_icmp_ge X (t := 20) rfl rfl ⟨by first | exact oq_fa4e5087 hi.2.2.1 | omega, by first | exact oq_5bcd337f hi.2.2.2 | omega⟩ ⟨by first | exact oq_3ba33515 hi.2.1 | omega, by first | exact oq_1a30d88f hi.2.1 | omega⟩ (fun g1001 => ?_) (fun g1001 => ?_)))
      ·
        refine WS_pq [0, 1, 2, 3] (lv' := [(0, .ref (A 58)), (1, .int (Int32.ofInt xv)), (2, .int (Int32.ofInt c)), (3, .int (Int32.ofInt ln))]) rfl ?_
        exact kx _ c I F (by first | exact ⟨And.intro (hi.1.1) (hi.1.2), hi.2.1, hi.2.2.1, hi.2.2.2⟩ | omega)
      ·
        refine z_aload_n X (x := A 58) rfl (List.Mem.head _) (z_load_n X (x := c) rfl (List.Mem.tail _ (List.Mem.tail _ (List.Mem.head _))) (z_load_n X (x := xv) rfl (List.Mem.tail _ (List.Mem.head _)) (z_ast X 58 rfl (c518_ok rfl) rfl (by first | exact hi.2.2.1 | omega) (show c < 24 by first | exact oq_f04b8b25 g1001 hi.2.1 | omega) (cbig_ok rfl) (wd_gen (fun s1002 hs1002 => ?_)))))
        have Is1002 : Bd s1002 := eqB hs1002 (bd_C I (show ((-2147483648) : Int) ≤ xv ∧ xv ≤ 2147483647 by first | exact ⟨hi.1.1, hi.1.2⟩ | omega) ⟨by first | exact hi.1.1 | omega, by first | exact hi.1.2 | omega⟩)
        have Fs1002 := eqF hs1002 (fm_C F (inl_ok (a := 49) rfl))
        refine z_inc X (x := c) (lv' := [(2, .int (Int32.ofInt (c + 1))), (0, .ref (A 58)), (1, .int (Int32.ofInt xv)), (3, .int (Int32.ofInt ln))]) rfl (by decide) (List.Mem.tail _ (List.Mem.tail _ (List.Mem.head _))) (fun _ h => h) (z_goto X (t := 5) rfl rfl (WS_pq [1, 2, 0, 3] (lv' := [(0, .ref (A 58)), (1, .int (Int32.ofInt xv)), (2, .int (Int32.ofInt (c + 1))), (3, .int (Int32.ofInt ln))]) rfl ?_))
        exact ih _ xv (c + 1) ln Is1002 Fs1002 (by first | exact ⟨And.intro (hi.1.1) (hi.1.2), hi.2.1, oq_54f49eb5 hi.2.2.1, oq_2a29062c g1001 hi.2.1⟩ | omega) (by first | exact qk_me hm (by decide) (oq_64c68951 g1001 hi.2.1) | omega) kx
  refine z_const X rfl (z_store_n X (lv' := [(2, .int (Int32.ofInt 0)), (0, .ref (A 58)), (1, .int (Int32.ofInt x))]) rfl (by decide) (fun _ h => h) (z_aload_n X (x := A 58) rfl (List.Mem.tail _ (List.Mem.head _)) (z_alen X 58 rfl (by decide) rfl rfl (z_store_n X (lv' := [(3, .int (Int32.ofInt 24)), (2, .int (Int32.ofInt 0)), (0, .ref (A 58)), (1, .int (Int32.ofInt x))]) rfl (by decide) (fun _ h => h) (WS_pq [2, 3, 1, 0] (lv' := [(0, .ref (A 58)), (1, .int (Int32.ofInt x)), (2, .int (Int32.ofInt 0)), (3, .int (Int32.ofInt 24))]) rfl (L5 ((24 - 0 : Int).toNat + 1) s x 0 24 I F (by first | exact ⟨And.intro (p0.1) (p0.2), by decide, by decide, by decide⟩ | omega) (Nat.lt_succ_self _) ?_))))))
  intro s1 x2 Is1 Fs1 hs1
  exact w_vret X.1 q hRt (ax_d X (show cdA 312 20 = some (.return_, 1, 0, 0, 0) from rfl)) (Nat.zero_le _) (Nat.zero_le _) ⟨_, rfl, Is1, Fs1, rfl, trivial⟩
set_option maxRecDepth 4000 in
theorem j_fill_63 (G : GX l s0 D tys a0 dT) (I : Bd s) {x : Int} (p0 : (-2147483648) ≤ x ∧ x ≤ 2147483647) : CT l s0 D A dT 312 (rmN 312) [.ref (A 63), .int (Int32.ofInt x)] s (fun o t => Bd t ∧ Fm [] [53] s t ∧ o = .inl none ∧ (True)) := by
  refine ct_ofX G (by decide) (Nat.le_of_ble_eq_true rfl) (fun k X E ET hRt hXt q => ?_)
  show WS k 0 [(0, .ref (A 63)), (1, .int (Int32.ofInt x))] [] _ 0 0
  have F : Fm [] [53] s s := fm_rf _ _ s
  have L5 : ∀ (n : Nat) (t : PS) (xv c ln : Int), Bd t → Fm [] [53] s t → (((-2147483648) ≤ xv ∧ xv ≤ 2147483647) ∧ ln = 8 ∧ 0 ≤ c ∧ c ≤ 8) → (8 - c : Int).toNat < n → (∀ (t' : PS) (c' : Int), Bd t' → Fm [] [53] s t' → (((-2147483648) ≤ xv ∧ xv ≤ 2147483647) ∧ ln = 8 ∧ 0 ≤ c' ∧ c' ≤ 8) → WS k 20 [(0, .ref (A 63)), (1, .int (Int32.ofInt xv)), (2, .int (Int32.ofInt c')), (3, .int (Int32.ofInt ln))] [] (Wd A dT t') 0 0) → WS k 5 [(0, .ref (A 63)), (1, .int (Int32.ofInt xv)), (2, .int (Int32.ofInt c)), (3, .int (Int32.ofInt ln))] [] (Wd A dT t) 0 0 := by
    intro n
    induction n with
    | zero =>
      intro t xv c ln I F hi hm kx
      exact absurd hm (Nat.not_lt_zero _)
    | succ n ih =>
      intro t xv c ln I F hi hm kx
      refine z_load_n X (x := c) rfl (List.Mem.tail _ (List.Mem.tail _ (List.Mem.head _))) (z_load_n X (x := ln) rfl (List.Mem.tail _ (List.Mem.tail _ (List.Mem.tail _ (List.Mem.head _)))) (z_icmp_ge X (t := 20) rfl rfl ⟨by first | exact oq_fa4e5087 hi.2.2.1 | omega, by first | exact oq_d3f5d874 hi.2.2.2 | omega⟩ ⟨by first | exact oq_fc89a5e2 hi.2.1 | omega, by first | exact oq_105e271f hi.2.1 | omega⟩ (fun g1001 => ?_) (fun g1001 => ?_)))
      ·
        refine WS_pq [0, 1, 2, 3] (lv' := [(0, .ref (A 63)), (1, .int (Int32.ofInt xv)), (2, .int (Int32.ofInt c)), (3, .int (Int32.ofInt ln))]) rfl ?_
        exact kx _ c I F (by first | exact ⟨And.intro (hi.1.1) (hi.1.2), hi.2.1, hi.2.2.1, hi.2.2.2⟩ | omega)
      ·
        refine z_aload_n X (x := A 63) rfl (List.Mem.head _) (z_load_n X (x := c) rfl (List.Mem.tail _ (List.Mem.tail _ (List.Mem.head _))) (z_load_n X (x := xv) rfl (List.Mem.tail _ (List.Mem.head _)) (z_ast X 63 rfl (c518_ok rfl) rfl (by first | exact hi.2.2.1 | omega) (show c < 8 by first | exact oq_9b5e226c g1001 hi.2.1 | omega) (cbig_ok rfl) (wd_gen (fun s1002 hs1002 => ?_)))))
        have Is1002 : Bd s1002 := eqB hs1002 (bd_C I (show ((-2147483648) : Int) ≤ xv ∧ xv ≤ 2147483647 by first | exact ⟨hi.1.1, hi.1.2⟩ | omega) ⟨by first | exact hi.1.1 | omega, by first | exact hi.1.2 | omega⟩)
        have Fs1002 := eqF hs1002 (fm_C F (inl_ok (a := 53) rfl))
        refine z_inc X (x := c) (lv' := [(2, .int (Int32.ofInt (c + 1))), (0, .ref (A 63)), (1, .int (Int32.ofInt xv)), (3, .int (Int32.ofInt ln))]) rfl (by decide) (List.Mem.tail _ (List.Mem.tail _ (List.Mem.head _))) (fun _ h => h) (z_goto X (t := 5) rfl rfl (WS_pq [1, 2, 0, 3] (lv' := [(0, .ref (A 63)), (1, .int (Int32.ofInt xv)), (2, .int (Int32.ofInt (c + 1))), (3, .int (Int32.ofInt ln))]) rfl ?_))
        exact ih _ xv (c + 1) ln Is1002 Fs1002 (by first | exact ⟨And.intro (hi.1.1) (hi.1.2), hi.2.1, oq_54f49eb5 hi.2.2.1, oq_a1613568 g1001 hi.2.1⟩ | omega) (by first | exact qk_me hm (by decide) (oq_a2c770ba g1001 hi.2.1) | omega) kx
  refine z_const X rfl (z_store_n X (lv' := [(2, .int (Int32.ofInt 0)), (0, .ref (A 63)), (1, .int (Int32.ofInt x))]) rfl (by decide) (fun _ h => h) (z_aload_n X (x := A 63) rfl (List.Mem.tail _ (List.Mem.head _)) (z_alen X 63 rfl (by decide) rfl rfl (z_store_n X (lv' := [(3, .int (Int32.ofInt 8)), (2, .int (Int32.ofInt 0)), (0, .ref (A 63)), (1, .int (Int32.ofInt x))]) rfl (by decide) (fun _ h => h) (WS_pq [2, 3, 1, 0] (lv' := [(0, .ref (A 63)), (1, .int (Int32.ofInt x)), (2, .int (Int32.ofInt 0)), (3, .int (Int32.ofInt 8))]) rfl (L5 ((8 - 0 : Int).toNat + 1) s x 0 8 I F (by first | exact ⟨And.intro (p0.1) (p0.2), by decide, by decide, by decide⟩ | omega) (Nat.lt_succ_self _) ?_))))))
  intro s1 x2 Is1 Fs1 hs1
  exact w_vret X.1 q hRt (ax_d X (show cdA 312 20 = some (.return_, 1, 0, 0, 0) from rfl)) (Nat.zero_le _) (Nat.zero_le _) ⟨_, rfl, Is1, Fs1, rfl, trivial⟩
set_option maxRecDepth 4000 in
theorem j_fill_64 (G : GX l s0 D tys a0 dT) (I : Bd s) {x : Int} (p0 : (-2147483648) ≤ x ∧ x ≤ 2147483647) : CT l s0 D A dT 312 (rmN 312) [.ref (A 64), .int (Int32.ofInt x)] s (fun o t => Bd t ∧ Fm [] [54] s t ∧ o = .inl none ∧ (True)) := by
  refine ct_ofX G (by decide) (Nat.le_of_ble_eq_true rfl) (fun k X E ET hRt hXt q => ?_)
  show WS k 0 [(0, .ref (A 64)), (1, .int (Int32.ofInt x))] [] _ 0 0
  have F : Fm [] [54] s s := fm_rf _ _ s
  have L5 : ∀ (n : Nat) (t : PS) (xv c ln : Int), Bd t → Fm [] [54] s t → (((-2147483648) ≤ xv ∧ xv ≤ 2147483647) ∧ ln = 8 ∧ 0 ≤ c ∧ c ≤ 8) → (8 - c : Int).toNat < n → (∀ (t' : PS) (c' : Int), Bd t' → Fm [] [54] s t' → (((-2147483648) ≤ xv ∧ xv ≤ 2147483647) ∧ ln = 8 ∧ 0 ≤ c' ∧ c' ≤ 8) → WS k 20 [(0, .ref (A 64)), (1, .int (Int32.ofInt xv)), (2, .int (Int32.ofInt c')), (3, .int (Int32.ofInt ln))] [] (Wd A dT t') 0 0) → WS k 5 [(0, .ref (A 64)), (1, .int (Int32.ofInt xv)), (2, .int (Int32.ofInt c)), (3, .int (Int32.ofInt ln))] [] (Wd A dT t) 0 0 := by
    intro n
    induction n with
    | zero =>
      intro t xv c ln I F hi hm kx
      exact absurd hm (Nat.not_lt_zero _)
    | succ n ih =>
      intro t xv c ln I F hi hm kx
      refine z_load_n X (x := c) rfl (List.Mem.tail _ (List.Mem.tail _ (List.Mem.head _))) (z_load_n X (x := ln) rfl (List.Mem.tail _ (List.Mem.tail _ (List.Mem.tail _ (List.Mem.head _)))) (z_icmp_ge X (t := 20) rfl rfl ⟨by first | exact oq_fa4e5087 hi.2.2.1 | omega, by first | exact oq_d3f5d874 hi.2.2.2 | omega⟩ ⟨by first | exact oq_fc89a5e2 hi.2.1 | omega, by first | exact oq_105e271f hi.2.1 | omega⟩ (fun g1001 => ?_) (fun g1001 => ?_)))
      ·
        refine WS_pq [0, 1, 2, 3] (lv' := [(0, .ref (A 64)), (1, .int (Int32.ofInt xv)), (2, .int (Int32.ofInt c)), (3, .int (Int32.ofInt ln))]) rfl ?_
        exact kx _ c I F (by first | exact ⟨And.intro (hi.1.1) (hi.1.2), hi.2.1, hi.2.2.1, hi.2.2.2⟩ | omega)
      ·
        refine z_aload_n X (x := A 64) rfl (List.Mem.head _) (z_load_n X (x := c) rfl (List.Mem.tail _ (List.Mem.tail _ (List.Mem.head _))) (z_load_n X (x := xv) rfl (List.Mem.tail _ (List.Mem.head _)) (z_ast X 64 rfl (c518_ok rfl) rfl (by first | exact hi.2.2.1 | omega) (show c < 8 by first | exact oq_9b5e226c g1001 hi.2.1 | omega) (cbig_ok rfl) (wd_gen (fun s1002 hs1002 => ?_)))))
        have Is1002 : Bd s1002 := eqB hs1002 (bd_C I (show ((-2147483648) : Int) ≤ xv ∧ xv ≤ 2147483647 by first | exact ⟨hi.1.1, hi.1.2⟩ | omega) ⟨by first | exact hi.1.1 | omega, by first | exact hi.1.2 | omega⟩)
        have Fs1002 := eqF hs1002 (fm_C F (inl_ok (a := 54) rfl))
        refine z_inc X (x := c) (lv' := [(2, .int (Int32.ofInt (c + 1))), (0, .ref (A 64)), (1, .int (Int32.ofInt xv)), (3, .int (Int32.ofInt ln))]) rfl (by decide) (List.Mem.tail _ (List.Mem.tail _ (List.Mem.head _))) (fun _ h => h) (z_goto X (t := 5) rfl rfl (WS_pq [1, 2, 0, 3] (lv' := [(0, .ref (A 64)), (1, .int (Int32.ofInt xv)), (2, .int (Int32.ofInt (c + 1))), (3, .int (Int32.ofInt ln))]) rfl ?_))
        exact ih _ xv (c + 1) ln Is1002 Fs1002 (by first | exact ⟨And.intro (hi.1.1) (hi.1.2), hi.2.1, oq_54f49eb5 hi.2.2.1, oq_a1613568 g1001 hi.2.1⟩ | omega) (by first | exact qk_me hm (by decide) (oq_a2c770ba g1001 hi.2.1) | omega) kx
  refine z_const X rfl (z_store_n X (lv' := [(2, .int (Int32.ofInt 0)), (0, .ref (A 64)), (1, .int (Int32.ofInt x))]) rfl (by decide) (fun _ h => h) (z_aload_n X (x := A 64) rfl (List.Mem.tail _ (List.Mem.head _)) (z_alen X 64 rfl (by decide) rfl rfl (z_store_n X (lv' := [(3, .int (Int32.ofInt 8)), (2, .int (Int32.ofInt 0)), (0, .ref (A 64)), (1, .int (Int32.ofInt x))]) rfl (by decide) (fun _ h => h) (WS_pq [2, 3, 1, 0] (lv' := [(0, .ref (A 64)), (1, .int (Int32.ofInt x)), (2, .int (Int32.ofInt 0)), (3, .int (Int32.ofInt 8))]) rfl (L5 ((8 - 0 : Int).toNat + 1) s x 0 8 I F (by first | exact ⟨And.intro (p0.1) (p0.2), by decide, by decide, by decide⟩ | omega) (Nat.lt_succ_self _) ?_))))))
  intro s1 x2 Is1 Fs1 hs1
  exact w_vret X.1 q hRt (ax_d X (show cdA 312 20 = some (.return_, 1, 0, 0, 0) from rfl)) (Nat.zero_le _) (Nat.zero_le _) ⟨_, rfl, Is1, Fs1, rfl, trivial⟩
set_option maxRecDepth 4000 in
theorem j_fill_65 (G : GX l s0 D tys a0 dT) (I : Bd s) {x : Int} (p0 : (-2147483648) ≤ x ∧ x ≤ 2147483647) : CT l s0 D A dT 312 (rmN 312) [.ref (A 65), .int (Int32.ofInt x)] s (fun o t => Bd t ∧ Fm [] [55] s t ∧ o = .inl none ∧ (True)) := by
  refine ct_ofX G (by decide) (Nat.le_of_ble_eq_true rfl) (fun k X E ET hRt hXt q => ?_)
  show WS k 0 [(0, .ref (A 65)), (1, .int (Int32.ofInt x))] [] _ 0 0
  have F : Fm [] [55] s s := fm_rf _ _ s
  have L5 : ∀ (n : Nat) (t : PS) (xv c ln : Int), Bd t → Fm [] [55] s t → (((-2147483648) ≤ xv ∧ xv ≤ 2147483647) ∧ ln = 8 ∧ 0 ≤ c ∧ c ≤ 8) → (8 - c : Int).toNat < n → (∀ (t' : PS) (c' : Int), Bd t' → Fm [] [55] s t' → (((-2147483648) ≤ xv ∧ xv ≤ 2147483647) ∧ ln = 8 ∧ 0 ≤ c' ∧ c' ≤ 8) → WS k 20 [(0, .ref (A 65)), (1, .int (Int32.ofInt xv)), (2, .int (Int32.ofInt c')), (3, .int (Int32.ofInt ln))] [] (Wd A dT t') 0 0) → WS k 5 [(0, .ref (A 65)), (1, .int (Int32.ofInt xv)), (2, .int (Int32.ofInt c)), (3, .int (Int32.ofInt ln))] [] (Wd A dT t) 0 0 := by
    intro n
    induction n with
    | zero =>
      intro t xv c ln I F hi hm kx
      exact absurd hm (Nat.not_lt_zero _)
    | succ n ih =>
      intro t xv c ln I F hi hm kx
      refine z_load_n X (x := c) rfl (List.Mem.tail _ (List.Mem.tail _ (List.Mem.head _))) (z_load_n X (x := ln) rfl (List.Mem.tail _ (List.Mem.tail _ (List.Mem.tail _ (List.Mem.head _)))) (z_icmp_ge X (t := 20) rfl rfl ⟨by first | exact oq_fa4e5087 hi.2.2.1 | omega, by first | exact oq_d3f5d874 hi.2.2.2 | omega⟩ ⟨by first | exact oq_fc89a5e2 hi.2.1 | omega, by first | exact oq_105e271f hi.2.1 | omega⟩ (fun g1001 => ?_) (fun g1001 => ?_)))
      ·
        refine WS_pq [0, 1, 2, 3] (lv' := [(0, .ref (A 65)), (1, .int (Int32.ofInt xv)), (2, .int (Int32.ofInt c)), (3, .int (Int32.ofInt ln))]) rfl ?_
        exact kx _ c I F (by first | exact ⟨And.intro (hi.1.1) (hi.1.2), hi.2.1, hi.2.2.1, hi.2.2.2⟩ | omega)
      ·
        refine z_aload_n X (x := A 65) rfl (List.Mem.head _) (z_load_n X (x := c) rfl (List.Mem.tail _ (List.Mem.tail _ (List.Mem.head _))) (z_load_n X (x := xv) rfl (List.Mem.tail _ (List.Mem.head _)) (z_ast X 65 rfl (c518_ok rfl) rfl (by first | exact hi.2.2.1 | omega) (show c < 8 by first | exact oq_9b5e226c g1001 hi.2.1 | omega) (cbig_ok rfl) (wd_gen (fun s1002 hs1002 => ?_)))))
        have Is1002 : Bd s1002 := eqB hs1002 (bd_C I (show ((-2147483648) : Int) ≤ xv ∧ xv ≤ 2147483647 by first | exact ⟨hi.1.1, hi.1.2⟩ | omega) ⟨by first | exact hi.1.1 | omega, by first | exact hi.1.2 | omega⟩)
        have Fs1002 := eqF hs1002 (fm_C F (inl_ok (a := 55) rfl))
        refine z_inc X (x := c) (lv' := [(2, .int (Int32.ofInt (c + 1))), (0, .ref (A 65)), (1, .int (Int32.ofInt xv)), (3, .int (Int32.ofInt ln))]) rfl (by decide) (List.Mem.tail _ (List.Mem.tail _ (List.Mem.head _))) (fun _ h => h) (z_goto X (t := 5) rfl rfl (WS_pq [1, 2, 0, 3] (lv' := [(0, .ref (A 65)), (1, .int (Int32.ofInt xv)), (2, .int (Int32.ofInt (c + 1))), (3, .int (Int32.ofInt ln))]) rfl ?_))
        exact ih _ xv (c + 1) ln Is1002 Fs1002 (by first | exact ⟨And.intro (hi.1.1) (hi.1.2), hi.2.1, oq_54f49eb5 hi.2.2.1, oq_a1613568 g1001 hi.2.1⟩ | omega) (by first | exact qk_me hm (by decide) (oq_a2c770ba g1001 hi.2.1) | omega) kx
  refine z_const X rfl (z_store_n X (lv' := [(2, .int (Int32.ofInt 0)), (0, .ref (A 65)), (1, .int (Int32.ofInt x))]) rfl (by decide) (fun _ h => h) (z_aload_n X (x := A 65) rfl (List.Mem.tail _ (List.Mem.head _)) (z_alen X 65 rfl (by decide) rfl rfl (z_store_n X (lv' := [(3, .int (Int32.ofInt 8)), (2, .int (Int32.ofInt 0)), (0, .ref (A 65)), (1, .int (Int32.ofInt x))]) rfl (by decide) (fun _ h => h) (WS_pq [2, 3, 1, 0] (lv' := [(0, .ref (A 65)), (1, .int (Int32.ofInt x)), (2, .int (Int32.ofInt 0)), (3, .int (Int32.ofInt 8))]) rfl (L5 ((8 - 0 : Int).toNat + 1) s x 0 8 I F (by first | exact ⟨And.intro (p0.1) (p0.2), by decide, by decide, by decide⟩ | omega) (Nat.lt_succ_self _) ?_))))))
  intro s1 x2 Is1 Fs1 hs1
  exact w_vret X.1 q hRt (ax_d X (show cdA 312 20 = some (.return_, 1, 0, 0, 0) from rfl)) (Nat.zero_le _) (Nat.zero_le _) ⟨_, rfl, Is1, Fs1, rfl, trivial⟩
set_option maxRecDepth 4000 in
theorem j_fill_89 (G : GX l s0 D tys a0 dT) (I : Bd s) {x : Int} (p0 : (-2147483648) ≤ x ∧ x ≤ 2147483647) : CT l s0 D A dT 312 (rmN 312) [.ref (A 89), .int (Int32.ofInt x)] s (fun o t => Bd t ∧ Fm [] [76] s t ∧ o = .inl none ∧ (True)) := by
  refine ct_ofX G (by decide) (Nat.le_of_ble_eq_true rfl) (fun k X E ET hRt hXt q => ?_)
  show WS k 0 [(0, .ref (A 89)), (1, .int (Int32.ofInt x))] [] _ 0 0
  have F : Fm [] [76] s s := fm_rf _ _ s
  have L5 : ∀ (n : Nat) (t : PS) (xv c ln : Int), Bd t → Fm [] [76] s t → (((-2147483648) ≤ xv ∧ xv ≤ 2147483647) ∧ ln = 256 ∧ 0 ≤ c ∧ c ≤ 256) → (256 - c : Int).toNat < n → (∀ (t' : PS) (c' : Int), Bd t' → Fm [] [76] s t' → (((-2147483648) ≤ xv ∧ xv ≤ 2147483647) ∧ ln = 256 ∧ 0 ≤ c' ∧ c' ≤ 256) → WS k 20 [(0, .ref (A 89)), (1, .int (Int32.ofInt xv)), (2, .int (Int32.ofInt c')), (3, .int (Int32.ofInt ln))] [] (Wd A dT t') 0 0) → WS k 5 [(0, .ref (A 89)), (1, .int (Int32.ofInt xv)), (2, .int (Int32.ofInt c)), (3, .int (Int32.ofInt ln))] [] (Wd A dT t) 0 0 := by
    intro n
    induction n with
    | zero =>
      intro t xv c ln I F hi hm kx
      exact absurd hm (Nat.not_lt_zero _)
    | succ n ih =>
      intro t xv c ln I F hi hm kx
      refine z_load_n X (x := c) rfl (List.Mem.tail _ (List.Mem.tail _ (List.Mem.head _))) (z_load_n X (x := ln) rfl (List.Mem.tail _ (List.Mem.tail _ (List.Mem.tail _ (List.Mem.head _)))) (z_icmp_ge X (t := 20) rfl rfl ⟨by first | exact oq_fa4e5087 hi.2.2.1 | omega, by first | exact oq_09cd9fc1 hi.2.2.2 | omega⟩ ⟨by first | exact oq_836f9876 hi.2.1 | omega, by first | exact oq_4f2d3355 hi.2.1 | omega⟩ (fun g1001 => ?_) (fun g1001 => ?_)))
      ·
        refine WS_pq [0, 1, 2, 3] (lv' := [(0, .ref (A 89)), (1, .int (Int32.ofInt xv)), (2, .int (Int32.ofInt c)), (3, .int (Int32.ofInt ln))]) rfl ?_
        exact kx _ c I F (by first | exact ⟨And.intro (hi.1.1) (hi.1.2), hi.2.1, hi.2.2.1, hi.2.2.2⟩ | omega)
      ·
        refine z_aload_n X (x := A 89) rfl (List.Mem.head _) (z_load_n X (x := c) rfl (List.Mem.tail _ (List.Mem.tail _ (List.Mem.head _))) (z_load_n X (x := xv) rfl (List.Mem.tail _ (List.Mem.head _)) (z_ast X 89 rfl (c518_ok rfl) rfl (by first | exact hi.2.2.1 | omega) (show c < 256 by first | exact oq_c879b548 g1001 hi.2.1 | omega) (cbig_ok rfl) (wd_gen (fun s1002 hs1002 => ?_)))))
        have Is1002 : Bd s1002 := eqB hs1002 (bd_C I (show ((-2147483648) : Int) ≤ xv ∧ xv ≤ 2147483647 by first | exact ⟨hi.1.1, hi.1.2⟩ | omega) ⟨by first | exact hi.1.1 | omega, by first | exact hi.1.2 | omega⟩)
        have Fs1002 := eqF hs1002 (fm_C F (inl_ok (a := 76) rfl))
        refine z_inc X (x := c) (lv' := [(2, .int (Int32.ofInt (c + 1))), (0, .ref (A 89)), (1, .int (Int32.ofInt xv)), (3, .int (Int32.ofInt ln))]) rfl (by decide) (List.Mem.tail _ (List.Mem.tail _ (List.Mem.head _))) (fun _ h => h) (z_goto X (t := 5) rfl rfl (WS_pq [1, 2, 0, 3] (lv' := [(0, .ref (A 89)), (1, .int (Int32.ofInt xv)), (2, .int (Int32.ofInt (c + 1))), (3, .int (Int32.ofInt ln))]) rfl ?_))
        exact ih _ xv (c + 1) ln Is1002 Fs1002 (by first | exact ⟨And.intro (hi.1.1) (hi.1.2), hi.2.1, oq_54f49eb5 hi.2.2.1, oq_961868b5 g1001 hi.2.1⟩ | omega) (by first | exact qk_me hm (by decide) (oq_41a13d55 g1001 hi.2.1) | omega) kx
  refine z_const X rfl (z_store_n X (lv' := [(2, .int (Int32.ofInt 0)), (0, .ref (A 89)), (1, .int (Int32.ofInt x))]) rfl (by decide) (fun _ h => h) (z_aload_n X (x := A 89) rfl (List.Mem.tail _ (List.Mem.head _)) (z_alen X 89 rfl (by decide) rfl rfl (z_store_n X (lv' := [(3, .int (Int32.ofInt 256)), (2, .int (Int32.ofInt 0)), (0, .ref (A 89)), (1, .int (Int32.ofInt x))]) rfl (by decide) (fun _ h => h) (WS_pq [2, 3, 1, 0] (lv' := [(0, .ref (A 89)), (1, .int (Int32.ofInt x)), (2, .int (Int32.ofInt 0)), (3, .int (Int32.ofInt 256))]) rfl (L5 ((256 - 0 : Int).toNat + 1) s x 0 256 I F (by first | exact ⟨And.intro (p0.1) (p0.2), by decide, by decide, by decide⟩ | omega) (Nat.lt_succ_self _) ?_))))))
  intro s1 x2 Is1 Fs1 hs1
  exact w_vret X.1 q hRt (ax_d X (show cdA 312 20 = some (.return_, 1, 0, 0, 0) from rfl)) (Nat.zero_le _) (Nat.zero_le _) ⟨_, rfl, Is1, Fs1, rfl, trivial⟩
set_option maxRecDepth 4000 in
theorem j_fill_90 (G : GX l s0 D tys a0 dT) (I : Bd s) {x : Int} (p0 : (-2147483648) ≤ x ∧ x ≤ 2147483647) : CT l s0 D A dT 312 (rmN 312) [.ref (A 90), .int (Int32.ofInt x)] s (fun o t => Bd t ∧ Fm [] [77] s t ∧ o = .inl none ∧ (True)) := by
  refine ct_ofX G (by decide) (Nat.le_of_ble_eq_true rfl) (fun k X E ET hRt hXt q => ?_)
  show WS k 0 [(0, .ref (A 90)), (1, .int (Int32.ofInt x))] [] _ 0 0
  have F : Fm [] [77] s s := fm_rf _ _ s
  have L5 : ∀ (n : Nat) (t : PS) (xv c ln : Int), Bd t → Fm [] [77] s t → (((-2147483648) ≤ xv ∧ xv ≤ 2147483647) ∧ ln = 128 ∧ 0 ≤ c ∧ c ≤ 128) → (128 - c : Int).toNat < n → (∀ (t' : PS) (c' : Int), Bd t' → Fm [] [77] s t' → (((-2147483648) ≤ xv ∧ xv ≤ 2147483647) ∧ ln = 128 ∧ 0 ≤ c' ∧ c' ≤ 128) → WS k 20 [(0, .ref (A 90)), (1, .int (Int32.ofInt xv)), (2, .int (Int32.ofInt c')), (3, .int (Int32.ofInt ln))] [] (Wd A dT t') 0 0) → WS k 5 [(0, .ref (A 90)), (1, .int (Int32.ofInt xv)), (2, .int (Int32.ofInt c)), (3, .int (Int32.ofInt ln))] [] (Wd A dT t) 0 0 := by
    intro n
    induction n with
    | zero =>
      intro t xv c ln I F hi hm kx
      exact absurd hm (Nat.not_lt_zero _)
    | succ n ih =>
      intro t xv c ln I F hi hm kx
      refine z_load_n X (x := c) rfl (List.Mem.tail _ (List.Mem.tail _ (List.Mem.head _))) (z_load_n X (x := ln) rfl (List.Mem.tail _ (List.Mem.tail _ (List.Mem.tail _ (List.Mem.head _)))) (z_icmp_ge X (t := 20) rfl rfl ⟨by first | exact oq_fa4e5087 hi.2.2.1 | omega, by first | exact oq_4ee82282 hi.2.2.2 | omega⟩ ⟨by first | exact oq_b73d3f00 hi.2.1 | omega, by first | exact oq_5d97283a hi.2.1 | omega⟩ (fun g1001 => ?_) (fun g1001 => ?_)))
      ·
        refine WS_pq [0, 1, 2, 3] (lv' := [(0, .ref (A 90)), (1, .int (Int32.ofInt xv)), (2, .int (Int32.ofInt c)), (3, .int (Int32.ofInt ln))]) rfl ?_
        exact kx _ c I F (by first | exact ⟨And.intro (hi.1.1) (hi.1.2), hi.2.1, hi.2.2.1, hi.2.2.2⟩ | omega)
      ·
        refine z_aload_n X (x := A 90) rfl (List.Mem.head _) (z_load_n X (x := c) rfl (List.Mem.tail _ (List.Mem.tail _ (List.Mem.head _))) (z_load_n X (x := xv) rfl (List.Mem.tail _ (List.Mem.head _)) (z_ast X 90 rfl (c518_ok rfl) rfl (by first | exact hi.2.2.1 | omega) (show c < 128 by first | exact oq_9ea9f5fe g1001 hi.2.1 | omega) (cbig_ok rfl) (wd_gen (fun s1002 hs1002 => ?_)))))
        have Is1002 : Bd s1002 := eqB hs1002 (bd_C I (show ((-2147483648) : Int) ≤ xv ∧ xv ≤ 2147483647 by first | exact ⟨hi.1.1, hi.1.2⟩ | omega) ⟨by first | exact hi.1.1 | omega, by first | exact hi.1.2 | omega⟩)
        have Fs1002 := eqF hs1002 (fm_C F (inl_ok (a := 77) rfl))
        refine z_inc X (x := c) (lv' := [(2, .int (Int32.ofInt (c + 1))), (0, .ref (A 90)), (1, .int (Int32.ofInt xv)), (3, .int (Int32.ofInt ln))]) rfl (by decide) (List.Mem.tail _ (List.Mem.tail _ (List.Mem.head _))) (fun _ h => h) (z_goto X (t := 5) rfl rfl (WS_pq [1, 2, 0, 3] (lv' := [(0, .ref (A 90)), (1, .int (Int32.ofInt xv)), (2, .int (Int32.ofInt (c + 1))), (3, .int (Int32.ofInt ln))]) rfl ?_))
        exact ih _ xv (c + 1) ln Is1002 Fs1002 (by first | exact ⟨And.intro (hi.1.1) (hi.1.2), hi.2.1, oq_54f49eb5 hi.2.2.1, oq_b5166a24 g1001 hi.2.1⟩ | omega) (by first | exact qk_me hm (by decide) (oq_49db1926 g1001 hi.2.1) | omega) kx
  refine z_const X rfl (z_store_n X (lv' := [(2, .int (Int32.ofInt 0)), (0, .ref (A 90)), (1, .int (Int32.ofInt x))]) rfl (by decide) (fun _ h => h) (z_aload_n X (x := A 90) rfl (List.Mem.tail _ (List.Mem.head _)) (z_alen X 90 rfl (by decide) rfl rfl (z_store_n X (lv' := [(3, .int (Int32.ofInt 128)), (2, .int (Int32.ofInt 0)), (0, .ref (A 90)), (1, .int (Int32.ofInt x))]) rfl (by decide) (fun _ h => h) (WS_pq [2, 3, 1, 0] (lv' := [(0, .ref (A 90)), (1, .int (Int32.ofInt x)), (2, .int (Int32.ofInt 0)), (3, .int (Int32.ofInt 128))]) rfl (L5 ((128 - 0 : Int).toNat + 1) s x 0 128 I F (by first | exact ⟨And.intro (p0.1) (p0.2), by decide, by decide, by decide⟩ | omega) (Nat.lt_succ_self _) ?_))))))
  intro s1 x2 Is1 Fs1 hs1
  exact w_vret X.1 q hRt (ax_d X (show cdA 312 20 = some (.return_, 1, 0, 0, 0) from rfl)) (Nat.zero_le _) (Nat.zero_le _) ⟨_, rfl, Is1, Fs1, rfl, trivial⟩
set_option maxRecDepth 4000 in
theorem j_fill_178 (G : GX l s0 D tys a0 dT) (I : Bd s) {x : Int} (p0 : (-2147483648) ≤ x ∧ x ≤ 2147483647) : CT l s0 D A dT 312 (rmN 312) [.ref (A 178), .int (Int32.ofInt x)] s (fun o t => Bd t ∧ Fm [] [156] s t ∧ o = .inl none ∧ (True)) := by
  refine ct_ofX G (by decide) (Nat.le_of_ble_eq_true rfl) (fun k X E ET hRt hXt q => ?_)
  show WS k 0 [(0, .ref (A 178)), (1, .int (Int32.ofInt x))] [] _ 0 0
  have F : Fm [] [156] s s := fm_rf _ _ s
  have L5 : ∀ (n : Nat) (t : PS) (xv c ln : Int), Bd t → Fm [] [156] s t → (((-2147483648) ≤ xv ∧ xv ≤ 2147483647) ∧ ln = 4 ∧ 0 ≤ c ∧ c ≤ 4) → (4 - c : Int).toNat < n → (∀ (t' : PS) (c' : Int), Bd t' → Fm [] [156] s t' → (((-2147483648) ≤ xv ∧ xv ≤ 2147483647) ∧ ln = 4 ∧ 0 ≤ c' ∧ c' ≤ 4) → WS k 20 [(0, .ref (A 178)), (1, .int (Int32.ofInt xv)), (2, .int (Int32.ofInt c')), (3, .int (Int32.ofInt ln))] [] (Wd A dT t') 0 0) → WS k 5 [(0, .ref (A 178)), (1, .int (Int32.ofInt xv)), (2, .int (Int32.ofInt c)), (3, .int (Int32.ofInt ln))] [] (Wd A dT t) 0 0 := by
    intro n
    induction n with
    | zero =>
      intro t xv c ln I F hi hm kx
      exact absurd hm (Nat.not_lt_zero _)
    | succ n ih =>
      intro t xv c ln I F hi hm kx
      refine z_load_n X (x := c) rfl (List.Mem.tail _ (List.Mem.tail _ (List.Mem.head _))) (z_load_n X (x := ln) rfl (List.Mem.tail _ (List.Mem.tail _ (List.Mem.tail _ (List.Mem.head _)))) (z_icmp_ge X (t := 20) rfl rfl ⟨by first | exact oq_fa4e5087 hi.2.2.1 | omega, by first | exact oq_4a4414da hi.2.2.2 | omega⟩ ⟨by first | exact oq_92a22ab8 hi.2.1 | omega, by first | exact oq_422db60c hi.2.1 | omega⟩ (fun g1001 => ?_) (fun g1001 => ?_)))
      ·
        refine WS_pq [0, 1, 2, 3] (lv' := [(0, .ref (A 178)), (1, .int (Int32.ofInt xv)), (2, .int (Int32.ofInt c)), (3, .int (Int32.ofInt ln))]) rfl ?_
        exact kx _ c I F (by first | exact ⟨And.intro (hi.1.1) (hi.1.2), hi.2.1, hi.2.2.1, hi.2.2.2⟩ | omega)
      ·
        refine z_aload_n X (x := A 178) rfl (List.Mem.head _) (z_load_n X (x := c) rfl (List.Mem.tail _ (List.Mem.tail _ (List.Mem.head _))) (z_load_n X (x := xv) rfl (List.Mem.tail _ (List.Mem.head _)) (z_ast X 178 rfl (c518_ok rfl) rfl (by first | exact hi.2.2.1 | omega) (show c < 4 by first | exact oq_8e4b0007 g1001 hi.2.1 | omega) (cbig_ok rfl) (wd_gen (fun s1002 hs1002 => ?_)))))
        have Is1002 : Bd s1002 := eqB hs1002 (bd_C I (show ((-2147483648) : Int) ≤ xv ∧ xv ≤ 2147483647 by first | exact ⟨hi.1.1, hi.1.2⟩ | omega) ⟨by first | exact hi.1.1 | omega, by first | exact hi.1.2 | omega⟩)
        have Fs1002 := eqF hs1002 (fm_C F (inl_ok (a := 156) rfl))
        refine z_inc X (x := c) (lv' := [(2, .int (Int32.ofInt (c + 1))), (0, .ref (A 178)), (1, .int (Int32.ofInt xv)), (3, .int (Int32.ofInt ln))]) rfl (by decide) (List.Mem.tail _ (List.Mem.tail _ (List.Mem.head _))) (fun _ h => h) (z_goto X (t := 5) rfl rfl (WS_pq [1, 2, 0, 3] (lv' := [(0, .ref (A 178)), (1, .int (Int32.ofInt xv)), (2, .int (Int32.ofInt (c + 1))), (3, .int (Int32.ofInt ln))]) rfl ?_))
        exact ih _ xv (c + 1) ln Is1002 Fs1002 (by first | exact ⟨And.intro (hi.1.1) (hi.1.2), hi.2.1, oq_54f49eb5 hi.2.2.1, oq_e56bd98a g1001 hi.2.1⟩ | omega) (by first | exact qk_me hm (by decide) (oq_a6efd014 g1001 hi.2.1) | omega) kx
  refine z_const X rfl (z_store_n X (lv' := [(2, .int (Int32.ofInt 0)), (0, .ref (A 178)), (1, .int (Int32.ofInt x))]) rfl (by decide) (fun _ h => h) (z_aload_n X (x := A 178) rfl (List.Mem.tail _ (List.Mem.head _)) (z_alen X 178 rfl (by decide) rfl rfl (z_store_n X (lv' := [(3, .int (Int32.ofInt 4)), (2, .int (Int32.ofInt 0)), (0, .ref (A 178)), (1, .int (Int32.ofInt x))]) rfl (by decide) (fun _ h => h) (WS_pq [2, 3, 1, 0] (lv' := [(0, .ref (A 178)), (1, .int (Int32.ofInt x)), (2, .int (Int32.ofInt 0)), (3, .int (Int32.ofInt 4))]) rfl (L5 ((4 - 0 : Int).toNat + 1) s x 0 4 I F (by first | exact ⟨And.intro (p0.1) (p0.2), by decide, by decide, by decide⟩ | omega) (Nat.lt_succ_self _) ?_))))))
  intro s1 x2 Is1 Fs1 hs1
  exact w_vret X.1 q hRt (ax_d X (show cdA 312 20 = some (.return_, 1, 0, 0, 0) from rfl)) (Nat.zero_le _) (Nat.zero_le _) ⟨_, rfl, Is1, Fs1, rfl, trivial⟩
set_option maxRecDepth 4000 in
theorem c10_refuseAt_1 (G : GX l s0 D tys a0 dT) (I : Bd s) {x y : Int} (p0 : 1 ≤ x ∧ x ≤ 4) (p1 : 0 ≤ y ∧ y ≤ 200) : CT l s0 D A dT 133 (rmN 133) [.ref (A 1), .int (Int32.ofInt x), .int (Int32.ofInt y)] s (fun o t => Bd t ∧ Fm [7, 8] [] s t ∧ ∃ e, o = .inl (some (.int (Int32.ofInt e))) ∧ rng e ∧ (e = 0)) := by
  refine ct_ofX G (by decide) (Nat.le_of_ble_eq_true rfl) (fun k X E ET hRt hXt q => ?_)
  show WS k 0 [(0, .ref (A 1)), (1, .int (Int32.ofInt x)), (2, .int (Int32.ofInt y))] [] _ 0 0
  have F : Fm [7, 8] [] s s := fm_rf _ _ s
  refine z_aload_n X (x := A 1) rfl (List.Mem.head _) (z_load_n X (x := x) rfl (List.Mem.tail _ (List.Mem.head _)) (s_putI X 1 rfl (c518_ok rfl) rfl rfl (by decide) rfl rfl rfl (wd_gen (fun s1 hs1 => ?_))))
  have Is1 : Bd s1 := eqB hs1 (bd_I I (show (0 : Int) ≤ x ∧ x ≤ 9 by first | exact ⟨oq_2a6e3b50 p0.1, oq_aac78eb5 p0.2⟩ | omega) ⟨by first | exact oq_9462313e p0.1 | omega, by first | exact oq_4a4414da p0.2 | omega⟩)
  have Fs1 := eqF hs1 (fm_I F (inl_ok (a := 7) rfl))
  have vs1 : iI s1 7 = x := eqI hs1 (iI_u ⟨by first | exact oq_9462313e p0.1 | omega, by first | exact oq_4a4414da p0.2 | omega⟩)
  refine z_aload_n X (x := A 1) rfl (List.Mem.head _) (z_load_n X (x := y) rfl (List.Mem.tail _ (List.Mem.tail _ (List.Mem.head _))) (s_putI X 1 rfl (c518_ok rfl) rfl rfl (by decide) rfl rfl rfl (wd_gen (fun s2 hs2 => ?_))))
  have Is2 : Bd s2 := eqB hs2 (bd_I Is1 (show ((-1) : Int) ≤ y ∧ y ≤ 200 by first | exact ⟨oq_ca54ea22 p1.1, p1.2⟩ | omega) ⟨by first | exact oq_fa4e5087 p1.1 | omega, by first | exact oq_52af2b96 p1.2 | omega⟩)
  have Fs2 := eqF hs2 (fm_I Fs1 (inl_ok (a := 8) rfl))
  have vs2 : iI s2 8 = y := eqI hs2 (iI_u ⟨by first | exact oq_fa4e5087 p1.1 | omega, by first | exact oq_52af2b96 p1.2 | omega⟩)
  refine z_const X rfl ?_
  exact w_iret X.1 q hRt (nar_ret (by first | exact Or.inl (by decide) | omega)) (ax_d X (show cdA 133 11 = some (.ireturn, 1, 0, 0, 0) from rfl)) (Nat.zero_le _) (Nat.zero_le _) ⟨_, rfl, Is2, Fs2, 0, rfl, (by decide), by decide⟩
set_option maxRecDepth 4000 in
theorem c10_refuse_1 (G : GX l s0 D tys a0 dT) (I : Bd s) {x : Int} (p0 : 1 ≤ x ∧ x ≤ 4) : CT l s0 D A dT 132 (rmN 132) [.ref (A 1), .int (Int32.ofInt x)] s (fun o t => Bd t ∧ Fm [7, 8] [] s t ∧ ∃ e, o = .inl (some (.int (Int32.ofInt e))) ∧ rng e ∧ (e = 0)) := by
  refine ct_ofX G (by decide) (Nat.le_of_ble_eq_true rfl) (fun k X E ET hRt hXt q => ?_)
  show WS k 0 [(0, .ref (A 1)), (1, .int (Int32.ofInt x))] [] _ 0 0
  have F : Fm [7, 8] [] s s := fm_rf _ _ s
  refine z_aload_n X (x := A 1) rfl (List.Mem.head _) (z_load_n X (x := x) rfl (List.Mem.tail _ (List.Mem.head _)) (z_aload_n X (x := A 1) rfl (List.Mem.head _) (z_getI X 1 rfl (c518_ok rfl) rfl rfl ?_)))
  have b1 := bi_4 I
  refine zcV_i0 X E 1 (As := [.int (Int32.ofInt x), .int (Int32.ofInt (iI s 4))]) (st := []) rfl rfl rfl rfl (c10_refuseAt_1 G I (by first | exact ⟨p0.1, p0.2⟩ | omega) (by first | exact ⟨b1.1, b1.2⟩ | omega)) rfl (Nat.le_of_ble_eq_true rfl) (fun s2 e3 Is2 Fs2 hrs2 hps2 => ?_)
  have Gs2 := fm_tq F Fs2 rfl rfl
  exact w_iret X.1 q hRt (nar_ret (by first | exact Or.inl (hps2) | omega)) (ax_d X (show cdA 132 9 = some (.ireturn, 1, 0, 0, 0) from rfl)) (Nat.zero_le _) (Nat.zero_le _) ⟨_, rfl, Is2, Gs2, e3, rfl, hrs2, by first | exact hps2 | omega⟩
set_option maxRecDepth 4000 in
theorem c9_stepFrom (G : GX l s0 D tys a0 dT) (I : Bd s) {x y : Int} (p0 : 0 ≤ x ∧ x ≤ 127) (p1 : 0 ≤ y ∧ y ≤ 5) : CT l s0 D A dT 100 (rmN 100) [.int (Int32.ofInt x), .int (Int32.ofInt y)] s (fun o t => s = t ∧ ∃ e, o = .inl (some (.int (Int32.ofInt e))) ∧ rng e ∧ (-1 ≤ e ∧ e ≤ 127)) := by
  refine ct_ofX G (by decide) (Nat.le_of_ble_eq_true rfl) (fun k X E ET hRt hXt q => ?_)
  show WS k 0 [(0, .int (Int32.ofInt x)), (1, .int (Int32.ofInt y))] [] _ 0 0
  have F : Fm [] [] s s := fm_rf _ _ s
  refine z_load_n X (x := y) rfl (List.Mem.tail _ (List.Mem.head _)) ?_
  rcases (show y = 0 ∨ y = 1 ∨ y = 2 ∨ y = 3 ∨ y = 4 ∨ y = 5 by omega) with gs | gs | gs | gs | gs | gs
  ·
    rw [gs]
    refine w_tabIn X.1 (dflt := 135) (lo := 0) (hi := 5) (offs := #[39, 56, 71, 89, 105, 120]) (len := 39) (off := 39) (t := 40) (ax_d X (show cdA 100 1 = some (.tableswitch 135 0 5 #[39, 56, 71, 89, 105, 120], 39, 0, 0, 0) from rfl)) (by decide) (by decide) (by decide) (by decide) (z_load_n X (x := x) rfl (List.Mem.head _) (z_bipush X rfl (z_and7 X rfl (by omega) (z_bipush X rfl ?_))))
    have N1 : ∀ e2 : Int, (((7 ≤ (x % 8)) ∧ e2 = (-1)) ∨ (((x % 8) < 7) ∧ e2 = (x + 1))) → WS k 56 [(0, .int (Int32.ofInt x)), (1, .int (Int32.ofInt 0))] [.int (Int32.ofInt e2)] (Wd A dT s) 0 0 := by
      intro e2 he2
      exact w_iret X.1 q hRt rfl (ax_d X (show cdA 100 56 = some (.ireturn, 1, 0, 0, 0) from rfl)) (Nat.zero_le _) (Nat.zero_le _) ⟨_, rfl, rfl, e2, rfl, ⟨by first | exact oq_3ac7fb06 he2 p0.1 | omega, by first | exact oq_df418479 he2 p0.2 | omega⟩, by first | exact ⟨oq_8655ee20 he2 p0.1, by first | (clear he2; omega) | omega⟩ | omega⟩
    refine z_icmp_ge X (t := 55) rfl rfl ⟨by first | exact oq_e86162eb | omega, by first | exact oq_70086759 | omega⟩ (by decide) (fun g3 => ?_) (fun g3 => ?_)
    ·
      exact z_const X rfl (N1 _ (Or.inl ⟨g3, rfl⟩))
    ·
      exact z_load_n X (x := x) rfl (List.Mem.head _) (z_const X rfl (z_add X rfl (z_goto X (t := 56) rfl rfl (N1 _ (Or.inr (⟨g3, rfl⟩))))))
  ·
    rw [gs]
    refine w_tabIn X.1 (dflt := 135) (lo := 0) (hi := 5) (offs := #[39, 56, 71, 89, 105, 120]) (len := 39) (off := 56) (t := 57) (ax_d X (show cdA 100 1 = some (.tableswitch 135 0 5 #[39, 56, 71, 89, 105, 120], 39, 0, 0, 0) from rfl)) (by decide) (by decide) (by decide) (by decide) (z_load_n X (x := x) rfl (List.Mem.head _) (z_bipush X rfl (z_and7 X rfl (by omega) ?_)))
    have N4 : ∀ e5 : Int, ((((x % 8) ≤ 0) ∧ e5 = (-1)) ∨ ((0 < (x % 8)) ∧ e5 = (x - 1))) → WS k 71 [(0, .int (Int32.ofInt x)), (1, .int (Int32.ofInt 1))] [.int (Int32.ofInt e5)] (Wd A dT s) 0 0 := by
      intro e5 he5
      exact w_iret X.1 q hRt rfl (ax_d X (show cdA 100 71 = some (.ireturn, 1, 0, 0, 0) from rfl)) (Nat.zero_le _) (Nat.zero_le _) ⟨_, rfl, rfl, e5, rfl, ⟨by first | exact oq_b7fd8e5d he5 p0.1 | omega, by first | exact oq_9d1ba81c he5 p0.2 | omega⟩, by first | exact ⟨oq_7e4871f0 he5 p0.1, oq_16d44b6a he5 p0.2⟩ | omega⟩
    refine z_if_le X (t := 70) rfl rfl ⟨by first | exact oq_e86162eb | omega, by first | exact oq_70086759 | omega⟩ (fun g6 => ?_) (fun g6 => ?_)
    ·
      exact z_const X rfl (N4 _ (Or.inl ⟨g6, rfl⟩))
    ·
      exact z_load_n X (x := x) rfl (List.Mem.head _) (z_const X rfl (z_sub X rfl (z_goto X (t := 71) rfl rfl (N4 _ (Or.inr (⟨g6, rfl⟩))))))
  ·
    rw [gs]
    refine w_tabIn X.1 (dflt := 135) (lo := 0) (hi := 5) (offs := #[39, 56, 71, 89, 105, 120]) (len := 39) (off := 71) (t := 72) (ax_d X (show cdA 100 1 = some (.tableswitch 135 0 5 #[39, 56, 71, 89, 105, 120], 39, 0, 0, 0) from rfl)) (by decide) (by decide) (by decide) (by decide) (z_load_n X (x := x) rfl (List.Mem.head _) (z_bipush X rfl (z_and56 X rfl (by omega) (z_bipush X rfl ?_))))
    have N7 : ∀ e8 : Int, (((56 ≤ (x / 8 % 8 * 8)) ∧ e8 = (-1)) ∨ (((x / 8 % 8 * 8) < 56) ∧ e8 = (x + 8))) → WS k 89 [(0, .int (Int32.ofInt x)), (1, .int (Int32.ofInt 2))] [.int (Int32.ofInt e8)] (Wd A dT s) 0 0 := by
      intro e8 he8
      exact w_iret X.1 q hRt rfl (ax_d X (show cdA 100 89 = some (.ireturn, 1, 0, 0, 0) from rfl)) (Nat.zero_le _) (Nat.zero_le _) ⟨_, rfl, rfl, e8, rfl, ⟨by first | exact oq_7a2b650a he8 p0.1 | omega, by first | exact oq_f231750c he8 p0.2 | omega⟩, by first | exact ⟨oq_ad1df6ed he8 p0.1, by first | (clear he8; omega) | omega⟩ | omega⟩
    refine z_icmp_ge X (t := 88) rfl rfl ⟨by first | exact oq_96d4763a | omega, by first | exact oq_4d664977 | omega⟩ (by decide) (fun g9 => ?_) (fun g9 => ?_)
    ·
      exact z_const X rfl (N7 _ (Or.inl ⟨g9, rfl⟩))
    ·
      exact z_load_n X (x := x) rfl (List.Mem.head _) (z_bipush X rfl (z_add X rfl (z_goto X (t := 89) rfl rfl (N7 _ (Or.inr (⟨g9, rfl⟩))))))
  ·
    rw [gs]
    refine w_tabIn X.1 (dflt := 135) (lo := 0) (hi := 5) (offs := #[39, 56, 71, 89, 105, 120]) (len := 39) (off := 89) (t := 90) (ax_d X (show cdA 100 1 = some (.tableswitch 135 0 5 #[39, 56, 71, 89, 105, 120], 39, 0, 0, 0) from rfl)) (by decide) (by decide) (by decide) (by decide) (z_load_n X (x := x) rfl (List.Mem.head _) (z_bipush X rfl (z_and56 X rfl (by omega) ?_)))
    have N10 : ∀ e11 : Int, ((((x / 8 % 8 * 8) ≤ 0) ∧ e11 = (-1)) ∨ ((0 < (x / 8 % 8 * 8)) ∧ e11 = (x - 8))) → WS k 105 [(0, .int (Int32.ofInt x)), (1, .int (Int32.ofInt 3))] [.int (Int32.ofInt e11)] (Wd A dT s) 0 0 := by
      intro e11 he11
      exact w_iret X.1 q hRt rfl (ax_d X (show cdA 100 105 = some (.ireturn, 1, 0, 0, 0) from rfl)) (Nat.zero_le _) (Nat.zero_le _) ⟨_, rfl, rfl, e11, rfl, ⟨by first | exact oq_2d0dfc68 he11 p0.1 | omega, by first | exact oq_83fab6db he11 p0.2 | omega⟩, by first | exact ⟨by first | (clear he11; omega) | omega, oq_057900c8 he11 p0.2⟩ | omega⟩
    refine z_if_le X (t := 104) rfl rfl ⟨by first | exact oq_96d4763a | omega, by first | exact oq_4d664977 | omega⟩ (fun g12 => ?_) (fun g12 => ?_)
    ·
      exact z_const X rfl (N10 _ (Or.inl ⟨g12, rfl⟩))
    ·
      exact z_load_n X (x := x) rfl (List.Mem.head _) (z_bipush X rfl (z_sub X rfl (z_goto X (t := 105) rfl rfl (N10 _ (Or.inr (⟨g12, rfl⟩))))))
  ·
    rw [gs]
    refine w_tabIn X.1 (dflt := 135) (lo := 0) (hi := 5) (offs := #[39, 56, 71, 89, 105, 120]) (len := 39) (off := 105) (t := 106) (ax_d X (show cdA 100 1 = some (.tableswitch 135 0 5 #[39, 56, 71, 89, 105, 120], 39, 0, 0, 0) from rfl)) (by decide) (by decide) (by decide) (by decide) (z_load_n X (x := x) rfl (List.Mem.head _) (z_bipush X rfl ?_))
    have N13 : ∀ e14 : Int, (((64 ≤ x) ∧ e14 = (-1)) ∨ ((x < 64) ∧ e14 = (x + 64))) → WS k 120 [(0, .int (Int32.ofInt x)), (1, .int (Int32.ofInt 4))] [.int (Int32.ofInt e14)] (Wd A dT s) 0 0 := by
      intro e14 he14
      exact w_iret X.1 q hRt rfl (ax_d X (show cdA 100 120 = some (.ireturn, 1, 0, 0, 0) from rfl)) (Nat.zero_le _) (Nat.zero_le _) ⟨_, rfl, rfl, e14, rfl, ⟨by first | exact oq_59c92683 he14 p0.1 | omega, by first | exact oq_f358200e he14 | omega⟩, by first | exact ⟨oq_201a3ceb he14 p0.1, oq_3594ddd9 he14⟩ | omega⟩
    refine z_icmp_ge X (t := 119) rfl rfl ⟨by first | exact oq_fa4e5087 p0.1 | omega, by first | exact oq_07d346ce p0.2 | omega⟩ (by decide) (fun g15 => ?_) (fun g15 => ?_)
    ·
      exact z_const X rfl (N13 _ (Or.inl ⟨g15, rfl⟩))
    ·
      exact z_load_n X (x := x) rfl (List.Mem.head _) (z_bipush X rfl (z_add X rfl (z_goto X (t := 120) rfl rfl (N13 _ (Or.inr (⟨g15, rfl⟩))))))
  ·
    rw [gs]
    refine w_tabIn X.1 (dflt := 135) (lo := 0) (hi := 5) (offs := #[39, 56, 71, 89, 105, 120]) (len := 39) (off := 120) (t := 121) (ax_d X (show cdA 100 1 = some (.tableswitch 135 0 5 #[39, 56, 71, 89, 105, 120], 39, 0, 0, 0) from rfl)) (by decide) (by decide) (by decide) (by decide) (z_load_n X (x := x) rfl (List.Mem.head _) (z_bipush X rfl ?_))
    have N16 : ∀ e17 : Int, (((x < 64) ∧ e17 = (-1)) ∨ ((64 ≤ x) ∧ e17 = (x - 64))) → WS k 135 [(0, .int (Int32.ofInt x)), (1, .int (Int32.ofInt 5))] [.int (Int32.ofInt e17)] (Wd A dT s) 0 0 := by
      intro e17 he17
      exact w_iret X.1 q hRt rfl (ax_d X (show cdA 100 135 = some (.ireturn, 1, 0, 0, 0) from rfl)) (Nat.zero_le _) (Nat.zero_le _) ⟨_, rfl, rfl, e17, rfl, ⟨by first | exact oq_241d06ca he17 | omega, by first | exact oq_b2c34735 he17 p0.2 | omega⟩, by first | exact ⟨oq_91d95e88 he17, oq_444e6966 he17 p0.2⟩ | omega⟩
    refine z_icmp_lt X (t := 134) rfl rfl ⟨by first | exact oq_fa4e5087 p0.1 | omega, by first | exact oq_07d346ce p0.2 | omega⟩ (by decide) (fun g18 => ?_) (fun g18 => ?_)
    ·
      exact z_const X rfl (N16 _ (Or.inl ⟨g18, rfl⟩))
    ·
      exact z_load_n X (x := x) rfl (List.Mem.head _) (z_bipush X rfl (z_sub X rfl (z_goto X (t := 135) rfl rfl (N16 _ (Or.inr (⟨g18, rfl⟩))))))
set_option maxRecDepth 4000 in
theorem c9_goBetween (G : GX l s0 D tys a0 dT) (I : Bd s) {x y : Int} (p0 : 0 ≤ x ∧ x ≤ 127) (p1 : 0 ≤ y ∧ y ≤ 127) : CT l s0 D A dT 102 (rmN 102) [.int (Int32.ofInt x), .int (Int32.ofInt y)] s (fun o t => s = t ∧ ∃ e, o = .inl (some (.int (Int32.ofInt e))) ∧ rng e ∧ (0 ≤ e ∧ e ≤ 5)) := by
  refine ct_ofX G (by decide) (Nat.le_of_ble_eq_true rfl) (fun k X E ET hRt hXt q => ?_)
  show WS k 0 [(0, .int (Int32.ofInt x)), (1, .int (Int32.ofInt y))] [] _ 0 0
  have F : Fm [] [] s s := fm_rf _ _ s
  refine z_load_n X (x := y) rfl (List.Mem.tail _ (List.Mem.head _)) (z_load_n X (x := x) rfl (List.Mem.head _) (z_sub X rfl ?_))
  rcases (show (y - x) = (-8) ∨ (y - x) = (-1) ∨ (y - x) = 1 ∨ (y - x) = 8 ∨ (y - x) = 64 ∨ ((y - x) ≠ (-8) ∧ (y - x) ≠ (-1) ∧ (y - x) ≠ 1 ∧ (y - x) ≠ 8 ∧ (y - x) ≠ 64) by omega) with gs | gs | gs | gs | gs | gs
  ·
    rw [gs]
    refine w_lookup X.1 (dflt := 59) (ps := #[((-8), 55), ((-1), 51), (1, 49), (8, 53), (64, 57)]) (len := 49) (off := 55) (t := 58) (by rw [X.2.1.1]; decide +kernel) (by decide) (by decide) (by decide) (z_const X rfl ?_)
    exact w_iret X.1 q hRt rfl (ax_d X (show cdA 102 59 = some (.ireturn, 1, 0, 0, 0) from rfl)) (Nat.zero_le _) (Nat.zero_le _) ⟨_, rfl, rfl, 3, rfl, (by decide), by first | exact ⟨by decide, by decide⟩ | omega⟩
  ·
    rw [gs]
    refine w_lookup X.1 (dflt := 59) (ps := #[((-8), 55), ((-1), 51), (1, 49), (8, 53), (64, 57)]) (len := 49) (off := 51) (t := 54) (by rw [X.2.1.1]; decide +kernel) (by decide) (by decide) (by decide) (z_const X rfl ?_)
    exact w_iret X.1 q hRt rfl (ax_d X (show cdA 102 55 = some (.ireturn, 1, 0, 0, 0) from rfl)) (Nat.zero_le _) (Nat.zero_le _) ⟨_, rfl, rfl, 1, rfl, (by decide), by first | exact ⟨by decide, by decide⟩ | omega⟩
  ·
    rw [gs]
    refine w_lookup X.1 (dflt := 59) (ps := #[((-8), 55), ((-1), 51), (1, 49), (8, 53), (64, 57)]) (len := 49) (off := 49) (t := 52) (by rw [X.2.1.1]; decide +kernel) (by decide) (by decide) (by decide) (z_const X rfl ?_)
    exact w_iret X.1 q hRt rfl (ax_d X (show cdA 102 53 = some (.ireturn, 1, 0, 0, 0) from rfl)) (Nat.zero_le _) (Nat.zero_le _) ⟨_, rfl, rfl, 0, rfl, (by decide), by first | exact ⟨by decide, by decide⟩ | omega⟩
  ·
    rw [gs]
    refine w_lookup X.1 (dflt := 59) (ps := #[((-8), 55), ((-1), 51), (1, 49), (8, 53), (64, 57)]) (len := 49) (off := 53) (t := 56) (by rw [X.2.1.1]; decide +kernel) (by decide) (by decide) (by decide) (z_const X rfl ?_)
    exact w_iret X.1 q hRt rfl (ax_d X (show cdA 102 57 = some (.ireturn, 1, 0, 0, 0) from rfl)) (Nat.zero_le _) (Nat.zero_le _) ⟨_, rfl, rfl, 2, rfl, (by decide), by first | exact ⟨by decide, by decide⟩ | omega⟩
  ·
    rw [gs]
    refine w_lookup X.1 (dflt := 59) (ps := #[((-8), 55), ((-1), 51), (1, 49), (8, 53), (64, 57)]) (len := 49) (off := 57) (t := 60) (by rw [X.2.1.1]; decide +kernel) (by decide) (by decide) (by decide) (z_const X rfl ?_)
    exact w_iret X.1 q hRt rfl (ax_d X (show cdA 102 61 = some (.ireturn, 1, 0, 0, 0) from rfl)) (Nat.zero_le _) (Nat.zero_le _) ⟨_, rfl, rfl, 4, rfl, (by decide), by first | exact ⟨by decide, by decide⟩ | omega⟩
  ·
    refine w_lookup X.1 (dflt := 59) (ps := #[((-8), 55), ((-1), 51), (1, 49), (8, 53), (64, 57)]) (len := 49) (off := 59) (t := 62) (by rw [X.2.1.1]; decide +kernel) (by decide) (by rw [zi ⟨by first | (clear gs; omega) | omega, by first | (clear gs; omega) | omega⟩]; show Op.lookupswitch.offset [((-8), 55), ((-1), 51), (1, 49), (8, 53), (64, 57)] _ _ = _; rw [Op.lookupswitch.offset_cons, if_neg (by first | (clear gs; omega) | omega), Op.lookupswitch.offset_cons, if_neg (by first | (clear gs; omega) | omega), Op.lookupswitch.offset_cons, if_neg (by first | (clear gs; omega) | omega), Op.lookupswitch.offset_cons, if_neg (by first | (clear gs; omega) | omega), Op.lookupswitch.offset_cons, if_neg (by first | (clear gs; omega) | omega)]; rfl) (by decide) (z_const X rfl ?_)
    exact w_iret X.1 q hRt rfl (ax_d X (show cdA 102 63 = some (.ireturn, 1, 0, 0, 0) from rfl)) (Nat.zero_le _) (Nat.zero_le _) ⟨_, rfl, rfl, 5, rfl, (by decide), by first | exact ⟨by decide, by decide⟩ | omega⟩
end M71
