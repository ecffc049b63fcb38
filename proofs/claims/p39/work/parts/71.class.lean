section
theorem oq_64d26aad {a0 a1 : Int} (h0 : a0 < a1) (h1 : a1 = 3) : a0 < 3 := by omega
theorem oq_0f8b1e08 {a0 a1 : Int} (h0 : a0 < a1) (h1 : a1 = 3) : (a0 + 1) ≤ 3 := by omega
theorem oq_636d3ff9 {a0 a1 : Int} (h0 : a0 < a1) (h1 : a1 = 3) : 0 < (3 - a0) := by omega
theorem oq_3ba33515 {a0 : Int} (h0 : a0 = 24) : (-2147483648) ≤ a0 := by omega
theorem oq_1a30d88f {a0 : Int} (h0 : a0 = 24) : a0 ≤ 2147483647 := by omega
theorem oq_f04b8b25 {a0 a1 : Int} (h0 : a0 < a1) (h1 : a1 = 24) : a0 < 24 := by omega
theorem oq_2a29062c {a0 a1 : Int} (h0 : a0 < a1) (h1 : a1 = 24) : (a0 + 1) ≤ 24 := by omega
theorem oq_64c68951 {a0 a1 : Int} (h0 : a0 < a1) (h1 : a1 = 24) : 0 < (24 - a0) := by omega
theorem oq_fc89a5e2 {a0 : Int} (h0 : a0 = 8) : (-2147483648) ≤ a0 := by omega
theorem oq_105e271f {a0 : Int} (h0 : a0 = 8) : a0 ≤ 2147483647 := by omega
theorem oq_9b5e226c {a0 a1 : Int} (h0 : a0 < a1) (h1 : a1 = 8) : a0 < 8 := by omega
theorem oq_a1613568 {a0 a1 : Int} (h0 : a0 < a1) (h1 : a1 = 8) : (a0 + 1) ≤ 8 := by omega
theorem oq_a2c770ba {a0 a1 : Int} (h0 : a0 < a1) (h1 : a1 = 8) : 0 < (8 - a0) := by omega
theorem oq_836f9876 {a0 : Int} (h0 : a0 = 256) : (-2147483648) ≤ a0 := by omega
theorem oq_4f2d3355 {a0 : Int} (h0 : a0 = 256) : a0 ≤ 2147483647 := by omega
theorem oq_c879b548 {a0 a1 : Int} (h0 : a0 < a1) (h1 : a1 = 256) : a0 < 256 := by omega
theorem oq_961868b5 {a0 a1 : Int} (h0 : a0 < a1) (h1 : a1 = 256) : (a0 + 1) ≤ 256 := by omega
theorem oq_41a13d55 {a0 a1 : Int} (h0 : a0 < a1) (h1 : a1 = 256) : 0 < (256 - a0) := by omega
theorem oq_b73d3f00 {a0 : Int} (h0 : a0 = 128) : (-2147483648) ≤ a0 := by omega
theorem oq_5d97283a {a0 : Int} (h0 : a0 = 128) : a0 ≤ 2147483647 := by omega
theorem oq_9ea9f5fe {a0 a1 : Int} (h0 : a0 < a1) (h1 : a1 = 128) : a0 < 128 := by omega
theorem oq_b5166a24 {a0 a1 : Int} (h0 : a0 < a1) (h1 : a1 = 128) : (a0 + 1) ≤ 128 := by omega
theorem oq_49db1926 {a0 a1 : Int} (h0 : a0 < a1) (h1 : a1 = 128) : 0 < (128 - a0) := by omega
theorem oq_92a22ab8 {a0 : Int} (h0 : a0 = 4) : (-2147483648) ≤ a0 := by omega
theorem oq_422db60c {a0 : Int} (h0 : a0 = 4) : a0 ≤ 2147483647 := by omega
theorem oq_8e4b0007 {a0 a1 : Int} (h0 : a0 < a1) (h1 : a1 = 4) : a0 < 4 := by omega
theorem oq_e56bd98a {a0 a1 : Int} (h0 : a0 < a1) (h1 : a1 = 4) : (a0 + 1) ≤ 4 := by omega
theorem oq_a6efd014 {a0 a1 : Int} (h0 : a0 < a1) (h1 : a1 = 4) : 0 < (4 - a0) := by omega
theorem oq_c35a0598 {a0 a1 : Int} (h0 : a0 = a1) (h1 : a1 < 200) : (a0 + 1) ≤ 200 := by omega
theorem oq_8b83adc9 {a0 : Int} (h0 : 0 ≤ a0) : 0 < (a0 + 8) := by omega
theorem oq_07cf5768 {a0 : Int} (h0 : (a0 + 20) ≤ 200) : a0 ≤ 196 := by omega
theorem oq_f65ea7aa {a0 : Int} (h0 : (a0 + 20) ≤ 200) : a0 ≤ 180 := by omega
theorem oq_4a84d32d {a0 : Int} (h0 : 200 < (a0 + 20)) : 180 < a0 := by omega
theorem oq_1ca04d49 {a0 a1 a2 : Int} (h0 : ((a0 = 0 ∧ a1 = a2) ∨ ((a0 ≠ 0 ∧ (a2 < 97 ∧ a1 = a2)) ∨ ((a0 ≠ 0 ∧ (97 ≤ a2 ∧ (122 < a2 ∧ a1 = a2))) ∨ (a0 ≠ 0 ∧ (97 ≤ a2 ∧ (a2 ≤ 122 ∧ a1 = (-3)))))))) (h1 : 0 ≤ a2) : (-2147483648) ≤ a1 := by omega
theorem oq_6ba7703b {a0 a1 a2 : Int} (h0 : ((a0 = 0 ∧ a1 = a2) ∨ ((a0 ≠ 0 ∧ (a2 < 97 ∧ a1 = a2)) ∨ ((a0 ≠ 0 ∧ (97 ≤ a2 ∧ (122 < a2 ∧ a1 = a2))) ∨ (a0 ≠ 0 ∧ (97 ≤ a2 ∧ (a2 ≤ 122 ∧ a1 = (-3)))))))) (h1 : a2 < 48) : a1 ≤ 2147483647 := by omega
theorem oq_a6687a98 {a0 : Int} (h0 : a0 < 48) : a0 ≤ 2147483647 := by omega
theorem oq_9ccaf4ac {a0 : Int} (h0 : 97 ≤ a0) : (-2147483648) ≤ a0 := by omega
theorem oq_7e4cb212 {a0 : Int} (h0 : 48 ≤ a0) : (-2147483648) ≤ a0 := by omega
theorem oq_3fba5eee {a0 a1 a2 : Int} (h0 : ((a0 = 0 ∧ a1 = a2) ∨ ((a0 ≠ 0 ∧ (a2 < 97 ∧ a1 = a2)) ∨ ((a0 ≠ 0 ∧ (97 ≤ a2 ∧ (122 < a2 ∧ a1 = a2))) ∨ (a0 ≠ 0 ∧ (97 ≤ a2 ∧ (a2 ≤ 122 ∧ a1 = (-3)))))))) (h1 : 57 < a2) : (-2147483648) ≤ a1 := by omega
theorem oq_fc94949b {a0 a1 a2 : Int} (h0 : ((a0 = 0 ∧ a1 = a2) ∨ ((a0 ≠ 0 ∧ (a2 < 97 ∧ a1 = a2)) ∨ ((a0 ≠ 0 ∧ (97 ≤ a2 ∧ (122 < a2 ∧ a1 = a2))) ∨ (a0 ≠ 0 ∧ (97 ≤ a2 ∧ (a2 ≤ 122 ∧ a1 = (-3)))))))) (h1 : a2 ≤ 255) : a1 ≤ 2147483647 := by omega
theorem oq_eac89bd5 {a0 : Int} (h0 : 57 < a0) : (-2147483648) ≤ a0 := by omega
theorem oq_aac78eb5 {a0 : Int} (h0 : a0 ≤ 4) : a0 ≤ 9 := by omega
theorem oq_228270fa {a0 a1 : Int} (h0 : a0 < a1) (h1 : a1 ≤ 200) : (a0 + 1) ≤ 200 := by omega
theorem oq_61bfd4fa {a0 a1 a2 a3 : Int} (h0 : a0 = a1) (h1 : a2 = (a3 + 1)) (h2 : a3 < a1) : a2 ≤ a0 := by omega
theorem oq_bf2569a2 {a0 a1 a2 a3 : Int} (h0 : a0 = a1) (h1 : a2 = (a3 + 1)) : (a0 - a2) < (a1 - a3) := by omega
theorem oq_74ddc356 {a0 a1 : Int} (h0 : 0 ≤ a0) (h1 : 0 ≤ a1) : (-2147483648) ≤ (((a0 * 10) + a1) - 48) := by omega
theorem oq_507881e8 {a0 a1 : Int} (h0 : a0 ≤ 100000) (h1 : a1 ≤ 255) : (((a0 * 10) + a1) - 48) ≤ 2147483647 := by omega
theorem oq_111e13c5 {a0 a1 a2 : Int} (h0 : ((a0 = 100000 ∧ 100000 ≤ (((a1 * 10) + a2) - 48)) ∨ (a0 = (((a1 * 10) + a2) - 48) ∧ (((a1 * 10) + a2) - 48) < 100000))) : a0 ≤ 100000 := by omega
theorem oq_d5d8953a {a0 a1 a2 : Int} (h0 : ((a0 = 100000 ∧ 100000 ≤ (((a1 * 10) + a2) - 48)) ∨ (a0 = (((a1 * 10) + a2) - 48) ∧ (((a1 * 10) + a2) - 48) < 100000))) (h1 : 0 ≤ a2) (h2 : 0 ≤ a1) : (-2147483648) ≤ a0 := by omega
theorem oq_aae81add {a0 a1 a2 : Int} (h0 : ((a0 = 100000 ∧ 100000 ≤ (((a1 * 10) + a2) - 48)) ∨ (a0 = (((a1 * 10) + a2) - 48) ∧ (((a1 * 10) + a2) - 48) < 100000))) : a0 ≤ 2147483647 := by omega
theorem oq_ff985df0 {a0 a1 a2 : Int} (h0 : a0 = a1) (h1 : a1 < a2) (h2 : a2 ≤ 200) : (a0 + 1) ≤ 200 := by omega
theorem oq_499a7076 {a0 a1 a2 a3 a4 a5 : Int} (h0 : a0 = a1) (h1 : a2 = (a3 + 1)) (h2 : a1 = a4) (h3 : a3 = a5) (h4 : a5 < a4) : a2 ≤ a0 := by omega
theorem oq_552af53c {a0 a1 a2 a3 a4 a5 : Int} (h0 : a0 = (a1 + 1)) (h1 : a2 = a3) (h2 : a3 = a4) (h3 : a1 = a5) (h4 : a4 ≤ a5) : a2 ≤ a0 := by omega
theorem oq_13269827 {a0 a1 a2 a3 : Int} (h0 : a0 = (a1 + 1)) (h1 : a2 = a3) (h2 : a3 ≤ a1) : a2 ≤ a0 := by omega
theorem oq_72ebe5a4 {a0 a1 a2 a3 a4 a5 a6 a7 : Int} (h0 : a0 = a1) (h1 : a2 = a3) (h2 : a1 = a4) (h3 : a3 = a5) (h4 : a4 = a6) (h5 : a5 = a7) (h6 : a7 ≤ a6) : a2 ≤ a0 := by omega
theorem oq_75f1f811 {a0 a1 a2 a3 a4 a5 a6 : Int} (h0 : a0 = a1) (h1 : a2 = a3) (h2 : a1 = a4) (h3 : a3 = a5) (h4 : a5 = a6) (h5 : a4 = a6) : a0 ≤ a2 := by omega
theorem oq_3239b5cf {a0 a1 : Int} (h0 : a0 ≠ (-1)) (h1 : a0 = (-1)) : (a1 + 1) ≤ 200 := by omega
theorem oq_92cb535d {a0 a1 a2 : Int} (h0 : a0 ≠ (-1)) (h1 : a0 = (-1)) : a1 ≤ a2 := by omega
theorem oq_92f9996c {a0 a1 a2 a3 a4 a5 a6 a7 a8 : Int} (h0 : a0 = a1) (h1 : a2 = (a3 + 1)) (h2 : a1 = a4) (h3 : a3 = a5) (h4 : a4 = a6) (h5 : a5 = a7) (h6 : a7 = a8) (h7 : a6 = a8) : a0 ≤ a2 := by omega
theorem oq_6e4ffff9 {a0 a1 a2 : Int} (h0 : a0 = (-3)) (h1 : a0 = (-1)) : a1 ≤ a2 := by omega
theorem oq_d948e2ba {a0 a1 a2 : Int} (h0 : a0 = (-2)) (h1 : a0 = (-1)) : a1 ≤ a2 := by omega
theorem oq_51a58521 {a0 a1 a2 a3 : Int} (h0 : a0 = a1) (h1 : a2 = a3) (h2 : a3 < a1) : a2 ≤ a0 := by omega
theorem oq_c5d7b2c9 {a0 a1 a2 a3 a4 a5 a6 a7 a8 a9 a10 a11 : Int} (h0 : a0 = a1) (h1 : a2 = a3) (h2 : a1 = a4) (h3 : a3 = a5) (h4 : a4 = a6) (h5 : a5 = a7) (h6 : a6 = a8) (h7 : a7 = a9) (h8 : a8 = a10) (h9 : a9 = 0) (h10 : a10 = a11) (h11 : 0 ≤ a11) : a2 ≤ a0 := by omega
theorem oq_3ac7fb06 {a0 a1 : Int} (h0 : ((7 ≤ (a0 % 8) ∧ a1 = (-1)) ∨ ((a0 % 8) < 7 ∧ a1 = (a0 + 1)))) (h1 : 0 ≤ a0) : (-2147483648) ≤ a1 := by omega
theorem oq_df418479 {a0 a1 : Int} (h0 : ((7 ≤ (a0 % 8) ∧ a1 = (-1)) ∨ ((a0 % 8) < 7 ∧ a1 = (a0 + 1)))) (h1 : a0 ≤ 127) : a1 ≤ 2147483647 := by omega
theorem oq_8655ee20 {a0 a1 : Int} (h0 : ((7 ≤ (a0 % 8) ∧ a1 = (-1)) ∨ ((a0 % 8) < 7 ∧ a1 = (a0 + 1)))) (h1 : 0 ≤ a0) : (-1) ≤ a1 := by omega
theorem oq_b7fd8e5d {a0 a1 : Int} (h0 : (((a0 % 8) ≤ 0 ∧ a1 = (-1)) ∨ (0 < (a0 % 8) ∧ a1 = (a0 - 1)))) (h1 : 0 ≤ a0) : (-2147483648) ≤ a1 := by omega
theorem oq_9d1ba81c {a0 a1 : Int} (h0 : (((a0 % 8) ≤ 0 ∧ a1 = (-1)) ∨ (0 < (a0 % 8) ∧ a1 = (a0 - 1)))) (h1 : a0 ≤ 127) : a1 ≤ 2147483647 := by omega
theorem oq_7e4871f0 {a0 a1 : Int} (h0 : (((a0 % 8) ≤ 0 ∧ a1 = (-1)) ∨ (0 < (a0 % 8) ∧ a1 = (a0 - 1)))) (h1 : 0 ≤ a0) : (-1) ≤ a1 := by omega
theorem oq_16d44b6a {a0 a1 : Int} (h0 : (((a0 % 8) ≤ 0 ∧ a1 = (-1)) ∨ (0 < (a0 % 8) ∧ a1 = (a0 - 1)))) (h1 : a0 ≤ 127) : a1 ≤ 127 := by omega
theorem oq_7a2b650a {a0 a1 : Int} (h0 : ((56 ≤ (((a0 / 8) % 8) * 8) ∧ a1 = (-1)) ∨ ((((a0 / 8) % 8) * 8) < 56 ∧ a1 = (a0 + 8)))) (h1 : 0 ≤ a0) : (-2147483648) ≤ a1 := by omega
theorem oq_f231750c {a0 a1 : Int} (h0 : ((56 ≤ (((a0 / 8) % 8) * 8) ∧ a1 = (-1)) ∨ ((((a0 / 8) % 8) * 8) < 56 ∧ a1 = (a0 + 8)))) (h1 : a0 ≤ 127) : a1 ≤ 2147483647 := by omega
theorem oq_ad1df6ed {a0 a1 : Int} (h0 : ((56 ≤ (((a0 / 8) % 8) * 8) ∧ a1 = (-1)) ∨ ((((a0 / 8) % 8) * 8) < 56 ∧ a1 = (a0 + 8)))) (h1 : 0 ≤ a0) : (-1) ≤ a1 := by omega
theorem oq_96d4763a {a0 : Int}  : (-2147483648) ≤ (((a0 / 8) % 8) * 8) := by omega
theorem oq_4d664977 {a0 : Int}  : (((a0 / 8) % 8) * 8) ≤ 2147483647 := by omega
theorem oq_2d0dfc68 {a0 a1 : Int} (h0 : (((((a0 / 8) % 8) * 8) ≤ 0 ∧ a1 = (-1)) ∨ (0 < (((a0 / 8) % 8) * 8) ∧ a1 = (a0 - 8)))) (h1 : 0 ≤ a0) : (-2147483648) ≤ a1 := by omega
theorem oq_83fab6db {a0 a1 : Int} (h0 : (((((a0 / 8) % 8) * 8) ≤ 0 ∧ a1 = (-1)) ∨ (0 < (((a0 / 8) % 8) * 8) ∧ a1 = (a0 - 8)))) (h1 : a0 ≤ 127) : a1 ≤ 2147483647 := by omega
theorem oq_057900c8 {a0 a1 : Int} (h0 : (((((a0 / 8) % 8) * 8) ≤ 0 ∧ a1 = (-1)) ∨ (0 < (((a0 / 8) % 8) * 8) ∧ a1 = (a0 - 8)))) (h1 : a0 ≤ 127) : a1 ≤ 127 := by omega
theorem oq_59c92683 {a0 a1 : Int} (h0 : ((64 ≤ a0 ∧ a1 = (-1)) ∨ (a0 < 64 ∧ a1 = (a0 + 64)))) (h1 : 0 ≤ a0) : (-2147483648) ≤ a1 := by omega
theorem oq_f358200e {a0 a1 : Int} (h0 : ((64 ≤ a0 ∧ a1 = (-1)) ∨ (a0 < 64 ∧ a1 = (a0 + 64)))) : a1 ≤ 2147483647 := by omega
theorem oq_201a3ceb {a0 a1 : Int} (h0 : ((64 ≤ a0 ∧ a1 = (-1)) ∨ (a0 < 64 ∧ a1 = (a0 + 64)))) (h1 : 0 ≤ a0) : (-1) ≤ a1 := by omega
theorem oq_3594ddd9 {a0 a1 : Int} (h0 : ((64 ≤ a0 ∧ a1 = (-1)) ∨ (a0 < 64 ∧ a1 = (a0 + 64)))) : a1 ≤ 127 := by omega
theorem oq_241d06ca {a0 a1 : Int} (h0 : ((a0 < 64 ∧ a1 = (-1)) ∨ (64 ≤ a0 ∧ a1 = (a0 - 64)))) : (-2147483648) ≤ a1 := by omega
theorem oq_b2c34735 {a0 a1 : Int} (h0 : ((a0 < 64 ∧ a1 = (-1)) ∨ (64 ≤ a0 ∧ a1 = (a0 - 64)))) (h1 : a0 ≤ 127) : a1 ≤ 2147483647 := by omega
theorem oq_91d95e88 {a0 a1 : Int} (h0 : ((a0 < 64 ∧ a1 = (-1)) ∨ (64 ≤ a0 ∧ a1 = (a0 - 64)))) : (-1) ≤ a1 := by omega
theorem oq_444e6966 {a0 a1 : Int} (h0 : ((a0 < 64 ∧ a1 = (-1)) ∨ (64 ≤ a0 ∧ a1 = (a0 - 64)))) (h1 : a0 ≤ 127) : a1 ≤ 127 := by omega
/-! The class: small methods -/
section M71
variable {l : Launch} {s0 : State} {D : va_G} {tys : List (ClassId × FieldType)} {a0 : Array Value} {A : Nat → Nat} {dT : Nat → ClassId} {s : PS}
set_option maxRecDepth 4000 in
theorem j_bitL (G : GX l s0 D tys a0 dT) (I : Bd s) {jj : Int64}  : CT l s0 D A dT 298 (rmN 298) [.long jj] s (fun o t => Bd t ∧ Fm [] [] s t ∧ ∃ e, o = .inl (some (.int (Int32.ofInt e))) ∧ rng e ∧ (True)) := by
  refine ct_ofX G (by decide) (Nat.le_of_ble_eq_true rfl) (fun k X E ET hRt hXt q => ?_)
  show WS k 0 [(0, .long jj)] [] _ 0 0
  have F : Fm [] [] s s := fm_rf _ _ s
  refine w_lload_n X.1 (ax_d X (show cdA 298 0 = some (.lload_n 0, 1, 0, 0, 0) from rfl)) (x := jj) (List.Mem.head _) (w_lload_n X.1 (ax_d X (show cdA 298 1 = some (.lload_n 0, 1, 0, 0, 0) from rfl)) (x := jj) (List.Mem.head _) (z_const X rfl (w_lushr X.1 (ax_d X (show cdA 298 3 = some (.lushr, 1, 0, 0, 0) from rfl)) (z_anyJ (fun j1 => ?_)))))
  refine z_ldc2 X rfl (fun j2 => ?_)
  refine w_land X.1 (ax_d X (show cdA 298 7 = some (.land, 1, 0, 0, 0) from rfl)) (z_anyJ (fun j3 => ?_))
  refine w_lsub X.1 (ax_d X (show cdA 298 8 = some (.lsub, 1, 0, 0, 0) from rfl)) (z_anyJ (fun j4 => ?_))
  refine w_lstore_n X.1 (lv' := [(0, .long j4)]) (ax_d X (show cdA 298 9 = some (.lstore_n 0, 1, 0, 0, 0) from rfl)) (by rw [X.2.1.2.2]; decide) (fun _ h => h) (w_lload_n X.1 (ax_d X (show cdA 298 10 = some (.lload_n 0, 1, 0, 0, 0) from rfl)) (x := j4) (List.Mem.head _) (z_ldc2 X rfl (fun j5 => ?_)))
  refine w_land X.1 (ax_d X (show cdA 298 14 = some (.land, 1, 0, 0, 0) from rfl)) (z_anyJ (fun j6 => ?_))
  refine w_lload_n X.1 (ax_d X (show cdA 298 15 = some (.lload_n 0, 1, 0, 0, 0) from rfl)) (x := j4) (List.Mem.head _) (z_const X rfl (w_lushr X.1 (ax_d X (show cdA 298 17 = some (.lushr, 1, 0, 0, 0) from rfl)) (z_anyJ (fun j7 => ?_))))
  refine z_ldc2 X rfl (fun j8 => ?_)
  refine w_land X.1 (ax_d X (show cdA 298 21 = some (.land, 1, 0, 0, 0) from rfl)) (z_anyJ (fun j9 => ?_))
  refine w_ladd X.1 (ax_d X (show cdA 298 22 = some (.ladd, 1, 0, 0, 0) from rfl)) (z_anyJ (fun j10 => ?_))
  refine w_lstore_n X.1 (lv' := [(0, .long j10)]) (ax_d X (show cdA 298 23 = some (.lstore_n 0, 1, 0, 0, 0) from rfl)) (by rw [X.2.1.2.2]; decide) (fun _ h => h) (w_lload_n X.1 (ax_d X (show cdA 298 24 = some (.lload_n 0, 1, 0, 0, 0) from rfl)) (x := j10) (List.Mem.head _) (w_lload_n X.1 (ax_d X (show cdA 298 25 = some (.lload_n 0, 1, 0, 0, 0) from rfl)) (x := j10) (List.Mem.head _) (z_const X rfl (w_lushr X.1 (ax_d X (show cdA 298 27 = some (.lushr, 1, 0, 0, 0) from rfl)) (z_anyJ (fun j11 => ?_))))))
  refine w_ladd X.1 (ax_d X (show cdA 298 28 = some (.ladd, 1, 0, 0, 0) from rfl)) (z_anyJ (fun j12 => ?_))
  refine z_ldc2 X rfl (fun j13 => ?_)
  refine w_land X.1 (ax_d X (show cdA 298 32 = some (.land, 1, 0, 0, 0) from rfl)) (z_anyJ (fun j14 => ?_))
  refine w_lstore_n X.1 (lv' := [(0, .long j14)]) (ax_d X (show cdA 298 33 = some (.lstore_n 0, 1, 0, 0, 0) from rfl)) (by rw [X.2.1.2.2]; decide) (fun _ h => h) (w_lload_n X.1 (ax_d X (show cdA 298 34 = some (.lload_n 0, 1, 0, 0, 0) from rfl)) (x := j14) (List.Mem.head _) (w_lload_n X.1 (ax_d X (show cdA 298 35 = some (.lload_n 0, 1, 0, 0, 0) from rfl)) (x := j14) (List.Mem.head _) (z_bipush X rfl (w_lushr X.1 (ax_d X (show cdA 298 38 = some (.lushr, 1, 0, 0, 0) from rfl)) (z_anyJ (fun j15 => ?_))))))
  refine w_ladd X.1 (ax_d X (show cdA 298 39 = some (.ladd, 1, 0, 0, 0) from rfl)) (z_anyJ (fun j16 => ?_))
  refine w_lstore_n X.1 (lv' := [(0, .long j16)]) (ax_d X (show cdA 298 40 = some (.lstore_n 0, 1, 0, 0, 0) from rfl)) (by rw [X.2.1.2.2]; decide) (fun _ h => h) (w_lload_n X.1 (ax_d X (show cdA 298 41 = some (.lload_n 0, 1, 0, 0, 0) from rfl)) (x := j16) (List.Mem.head _) (w_lload_n X.1 (ax_d X (show cdA 298 42 = some (.lload_n 0, 1, 0, 0, 0) from rfl)) (x := j16) (List.Mem.head _) (z_bipush X rfl (w_lushr X.1 (ax_d X (show cdA 298 45 = some (.lushr, 1, 0, 0, 0) from rfl)) (z_anyJ (fun j17 => ?_))))))
  refine w_ladd X.1 (ax_d X (show cdA 298 46 = some (.ladd, 1, 0, 0, 0) from rfl)) (z_anyJ (fun j18 => ?_))
  refine w_lstore_n X.1 (lv' := [(0, .long j18)]) (ax_d X (show cdA 298 47 = some (.lstore_n 0, 1, 0, 0, 0) from rfl)) (by rw [X.2.1.2.2]; decide) (fun _ h => h) (w_lload_n X.1 (ax_d X (show cdA 298 48 = some (.lload_n 0, 1, 0, 0, 0) from rfl)) (x := j18) (List.Mem.head _) (w_lload_n X.1 (ax_d X (show cdA 298 49 = some (.lload_n 0, 1, 0, 0, 0) from rfl)) (x := j18) (List.Mem.head _) (z_bipush X rfl (w_lushr X.1 (ax_d X (show cdA 298 52 = some (.lushr, 1, 0, 0, 0) from rfl)) (z_anyJ (fun j19 => ?_))))))
  refine w_ladd X.1 (ax_d X (show cdA 298 53 = some (.ladd, 1, 0, 0, 0) from rfl)) (z_anyJ (fun j20 => ?_))
  refine w_lstore_n X.1 (lv' := [(0, .long j20)]) (ax_d X (show cdA 298 54 = some (.lstore_n 0, 1, 0, 0, 0) from rfl)) (by rw [X.2.1.2.2]; decide) (fun _ h => h) (w_lload_n X.1 (ax_d X (show cdA 298 55 = some (.lload_n 0, 1, 0, 0, 0) from rfl)) (x := j20) (List.Mem.head _) (w_l2i X.1 (ax_d X (show cdA 298 56 = some (.l2i, 1, 0, 0, 0) from rfl)) (z_any (fun y21 hy21 => ?_))))
  refine z_bipush X rfl (z_andm X rfl (by decide) (by decide) (fun y22 hy22 gy22 => ?_))
  exact w_iret X.1 q hRt rfl (ax_d X (show cdA 298 60 = some (.ireturn, 1, 0, 0, 0) from rfl)) (Nat.zero_le _) (Nat.zero_le _) ⟨_, rfl, I, F, y22, rfl, ⟨by first | exact oq_fa4e5087 hy22 | omega, by first | exact oq_07d346ce gy22 | omega⟩, trivial⟩
set_option maxRecDepth 4000 in
theorem j_lowL (G : GX l s0 D tys a0 dT) (I : Bd s) {jj : Int64}  : CT l s0 D A dT 297 (rmN 297) [.long jj] s (fun o t => Bd t ∧ Fm [] [] s t ∧ ∃ e : Int64, o = .inl (some (.long e)) ∧ (True)) := by
  refine ct_ofX G (by decide) (Nat.le_of_ble_eq_true rfl) (fun k X E ET hRt hXt q => ?_)
  show WS k 0 [(0, .long jj)] [] _ 0 0
  have F : Fm [] [] s s := fm_rf _ _ s
  refine w_lload_n X.1 (ax_d X (show cdA 297 0 = some (.lload_n 0, 1, 0, 0, 0) from rfl)) (x := jj) (List.Mem.head _) (w_lload_n X.1 (ax_d X (show cdA 297 1 = some (.lload_n 0, 1, 0, 0, 0) from rfl)) (x := jj) (List.Mem.head _) (w_lneg X.1 (ax_d X (show cdA 297 2 = some (.lneg, 1, 0, 0, 0) from rfl)) (z_anyJ (fun j1 => ?_))))
  refine w_land X.1 (ax_d X (show cdA 297 3 = some (.land, 1, 0, 0, 0) from rfl)) (z_anyJ (fun j2 => ?_))
  exact w_lret X.1 q hRt (ax_d X (show cdA 297 4 = some (.lreturn, 1, 0, 0, 0) from rfl)) (Nat.zero_le _) (Nat.zero_le _) ⟨_, rfl, I, F, j2, rfl, trivial⟩
set_option maxRecDepth 4000 in
theorem j_fill_52 (G : GX l s0 D tys a0 dT) (I : Bd s) {x : Int} (p0 : 0 ≤ x ∧ x ≤ 255) : CT l s0 D A dT 312 (rmN 312) [.ref (A 52), .int (Int32.ofInt x)] s (fun o t => Bd t ∧ Fm [] [44] s t ∧ o = .inl none ∧ (True)) := by
  refine ct_ofX G (by decide) (Nat.le_of_ble_eq_true rfl) (fun k X E ET hRt hXt q => ?_)
  show WS k 0 [(0, .ref (A 52)), (1, .int (Int32.ofInt x))] [] _ 0 0
  have F : Fm [] [44] s s := fm_rf _ _ s
  have L5 : ∀ (n : Nat) (t : PS) (xv c ln : Int), Bd t → Fm [] [44] s t → ((0 ≤ xv ∧ xv ≤ 255) ∧ ln = 3 ∧ 0 ≤ c ∧ c ≤ 3) → (3 - c : Int).toNat < n → (∀ (t' : PS) (c' : Int), Bd t' → Fm [] [44] s t' → ((0 ≤ xv ∧ xv ≤ 255) ∧ ln = 3 ∧ 0 ≤ c' ∧ c' ≤ 3) → WS k 20 [(0, .ref (A 52)), (1, .int (Int32.ofInt xv)), (2, .int (Int32.ofInt c')), (3, .int (Int32.ofInt ln))] [] (Wd A dT t') 0 0) → WS k 5 [(0, .ref (A 52)), (1, .int (Int32.ofInt xv)), (2, .int (Int32.ofInt c)), (3, .int (Int32.ofInt ln))] [] (Wd A dT t) 0 0 := by
    intro n
    induction n with
    | zero =>
      intro t xv c ln I F hi hm kx
      exact absurd hm (Nat.not_lt_zero _)
    | succ n ih =>
      intro t xv c ln I F hi hm kx
      refine z_load_n X (x := c) rfl (List.Mem.tail _ (List.Mem.tail _ (List.Mem.head _))) (z_load_n X (x := ln) rfl (List.Mem.tail _ (List.Mem.tail _ (List.Mem.tail _ (List.Mem.head _)))) (z_icmp_ge X (t := 20) rfl rfl ⟨by first | exact oq_fa4e5087 hi.2.2.1 | omega, by first | exact oq_c5520c83 hi.2.2.2 | omega⟩ ⟨by first | exact oq_5e17cb06 hi.2.1 | omega, by first | exact oq_ebfd4642 hi.2.1 | omega⟩ (fun g1001 => ?_) (fun g1001 => ?_)))
      ·
        refine WS_pq [0, 1, 2, 3] (lv' := [(0, .ref (A 52)), (1, .int (Int32.ofInt xv)), (2, .int (Int32.ofInt c)), (3, .int (Int32.ofInt ln))]) rfl ?_
        exact kx _ c I F (by first | exact ⟨And.intro (hi.1.1) (hi.1.2), hi.2.1, hi.2.2.1, hi.2.2.2⟩ | omega)
      ·
        refine z_aload_n X (x := A 52) rfl (List.Mem.head _) (z_load_n X (x := c) rfl (List.Mem.tail _ (List.Mem.tail _ (List.Mem.head _))) (z_load_n X (x := xv) rfl (List.Mem.tail _ (List.Mem.head _)) (z_ast X 52 rfl (c518_ok rfl) rfl (by first | exact hi.2.2.1 | omega) (show c < 3 by first | exact oq_64d26aad g1001 hi.2.1 | omega) (cbig_ok rfl) (wd_gen (fun s1002 hs1002 => ?_)))))
        have Is1002 : Bd s1002 := eqB hs1002 (bd_C I (show (0 : Int) ≤ xv ∧ xv ≤ 255 by first | exact ⟨hi.1.1, hi.1.2⟩ | omega) ⟨by first | exact oq_fa4e5087 hi.1.1 | omega, by first | exact oq_4567a937 hi.1.2 | omega⟩)
        have Fs1002 := eqF hs1002 (fm_C F (inl_ok (a := 44) rfl))
        refine z_inc X (x := c) (lv' := [(2, .int (Int32.ofInt (c + 1))), (0, .ref (A 52)), (1, .int (Int32.ofInt xv)), (3, .int (Int32.ofInt ln))]) rfl (by decide) (List.Mem.tail _ (List.Mem.tail _ (List.Mem.head _))) (fun _ h => h) (z_goto X (t := 5) rfl rfl (WS_pq [1, 2, 0, 3] (lv' := [(0, .ref (A 52)), (1, .int (Int32.ofInt xv)), (2, .int (Int32.ofInt (c + 1))), (3, .int (Int32.ofInt ln))]) rfl ?_))
        exact ih _ xv (c + 1) ln Is1002 Fs1002 (by first | exact ⟨And.intro (hi.1.1) (hi.1.2), hi.2.1, oq_54f49eb5 hi.2.2.1, oq_0f8b1e08 g1001 hi.2.1⟩ | omega) (by first | exact qk_me hm (by decide) (oq_636d3ff9 g1001 hi.2.1) | omega) kx
  refine z_const X rfl (z_store_n X (lv' := [(2, .int (Int32.ofInt 0)), (0, .ref (A 52)), (1, .int (Int32.ofInt x))]) rfl (by decide) (fun _ h => h) (z_aload_n X (x := A 52) rfl (List.Mem.tail _ (List.Mem.head _)) (z_alen X 52 rfl (by decide) rfl rfl (z_store_n X (lv' := [(3, .int (Int32.ofInt 3)), (2, .int (Int32.ofInt 0)), (0, .ref (A 52)), (1, .int (Int32.ofInt x))]) rfl (by decide) (fun _ h => h) (WS_pq [2, 3, 1, 0] (lv' := [(0, .ref (A 52)), (1, .int (Int32.ofInt x)), (2, .int (Int32.ofInt 0)), (3, .int (Int32.ofInt 3))]) rfl (L5 ((3 - 0 : Int).toNat + 1) s x 0 3 I F (by first | exact ⟨And.intro (p0.1) (p0.2), by decide, by decide, by decide⟩ | omega) (Nat.lt_succ_self _) ?_))))))
  intro s1 x2 Is1 Fs1 hs1
  exact w_vret X.1 q hRt (ax_d X (show cdA 312 20 = some (.return_, 1, 0, 0, 0) from rfl)) (Nat.zero_le _) (Nat.zero_le _) ⟨_, rfl, Is1, Fs1, rfl, trivial⟩
set_option maxRecDepth 4000 in
theorem j_fill_58 (G : GX l s0 D tys a0 dT) (I : Bd s) {x : Int} (p0 : (-2147483648) ≤ x ∧ x ≤ 2147483647) : CT l s0 D A dT 312 (rmN 312) [.ref (A 58), .int (Int32.ofInt x)] s (fun o t => Bd t ∧ Fm [] [49] s t ∧ o = .inl none ∧ (True)) := by
  refine ct_ofX G (by decide) (Nat.le_of_ble_eq_true rfl) (fun k X E ET hRt hXt q => ?_)
  show WS k 0 [(0, .ref (A 58)), (1, .int (Int32.ofInt x))] [] _ 0 0
  have F : Fm [] [49] s s := fm_rf _ _ s
  have L5 : ∀ (n : Nat) (t : PS) (xv c ln : Int), Bd t → Fm [] [49] s t → (((-2147483648) ≤ xv ∧ xv ≤ 2147483647) ∧ ln = 24 ∧ 0 ≤ c ∧ c ≤ 24) → (24 - c : Int).toNat < n → (∀ (t' : PS) (c' : Int), Bd t' → Fm [] [49] s t' → (((-2147483648) ≤ xv ∧ xv ≤ 2147483647) ∧ ln = 24 ∧ 0 ≤ c' ∧ c' ≤ 24) → WS k 20 [(0, .ref (A 58)), (1, .int (Int32.ofInt xv)), (2, .int (Int32.ofInt c')), (3, .int (Int32.ofInt ln))] [] (Wd A dT t') 0 0) → WS k 5 [(0, .ref (A 58)), (1, .int (Int32.ofInt xv)), (2, .int (Int32.ofInt c)), (3, .int (Int32.ofInt ln))] [] (Wd A dT t) 0 0 := by
    intro n
    induction n with
    | zero =>
      intro t xv c ln I F hi hm kx
      exact absurd hm (Nat.not_lt_zero _)
    | succ n ih =>
      intro t xv c ln I F hi hm kx
      refine z_load_n X (x := c) rfl (List.Mem.tail _ (List.Mem.tail _ (List.Mem.head _))) (z_load_n X (x := ln) rfl (List.Mem.tail _ (List.Mem.tail _ (List.Mem.tail _ (List.Mem.head _)))) (z_icmp_ge X (t := 20) rfl rfl ⟨by first | exact oq_fa4e5087 hi.2.2.1 | omega, by first | exact oq_5bcd337f hi.2.2.2 | omega⟩ ⟨by first | exact oq_3ba33515 hi.2.1 | omega, by first | exact oq_1a30d88f hi.2.1 | omega⟩ (fun g1001 => ?_) (fun g1001 => ?_)))
      ·
        refine WS_pq [0, 1, 2, 3] (lv' := [(0, .ref (A 58)), (1, .int (Int32.ofInt xv)), (2, .int (Int32.ofInt c)), (3, .int (Int32.ofInt ln))]) rfl ?_
        exact kx _ c I F (by first | exact ⟨And.intro (hi.1.1) (hi.1.2), hi.2.1, hi.2.2.1, hi.2.2.2⟩ | omega)
      ·
        refine z_aload_n X (x := A 58) rfl (List.Mem.head _) (z_load_n X (x := c) rfl (List.Mem.tail _ (List.Mem.tail _ (List.Mem.head _))) (z_load_n X (x := xv) rfl (List.Mem.tail _ (List.Mem.head _)) (z_ast X 58 rfl (c518_ok rfl) rfl (by first | exact hi.2.2.1 | omega) (show c < 24 by first | exact oq_f04b8b25 g1001 hi.2.1 | omega) (cbig_ok rfl) (wd_gen (fun s1002 hs1002 => ?_)))))
        have Is1002 : Bd s1002 := eqB hs1002 (bd_C I (show ((-2147483648) : Int) ≤ xv ∧ xv ≤ 2147483647 by first | exact ⟨hi.1.1, hi.1.2⟩ | omega) ⟨by first | exact hi.1.1 | omega, by first | exact hi.1.2 | omega⟩)
        have Fs1002 := eqF hs1002 (fm_C F (inl_ok (a := 49) rfl))
        refine z_inc X (x := c) (lv' := [(2, .int (Int32.ofInt (c + 1))), (0, .ref (A 58)), (1, .int (Int32.ofInt xv)), (3, .int (Int32.ofInt ln))]) rfl (by decide) (List.Mem.tail _ (List.Mem.tail _ (List.Mem.head _))) (fun _ h => h) (z_goto X (t := 5) rfl rfl (WS_pq [1, 2, 0, 3] (lv' := [(0, .ref (A 58)), (1, .int (Int32.ofInt xv)), (2, .int (Int32.ofInt (c + 1))), (3, .int (Int32.ofInt ln))]) rfl ?_))
        exact ih _ xv (c + 1) ln Is1002 Fs1002 (by first | exact ⟨And.intro (hi.1.1) (hi.1.2), hi.2.1, oq_54f49eb5 hi.2.2.1, oq_2a29062c g1001 hi.2.1⟩ | omega) (by first | exact qk_me hm (by decide) (oq_64c68951 g1001 hi.2.1) | omega) kx
  refine z_const X rfl (z_store_n X (lv' := [(2, .int (Int32.ofInt 0)), (0, .ref (A 58)), (1, .int (Int32.ofInt x))]) rfl (by decide) (fun _ h => h) (z_aload_n X (x := A 58) rfl (List.Mem.tail _ (List.Mem.head _)) (z_alen X 58 rfl (by decide) rfl rfl (z_store_n X (lv' := [(3, .int (Int32.ofInt 24)), (2, .int (Int32.ofInt 0)), (0, .ref (A 58)), (1, .int (Int32.ofInt x))]) rfl (by decide) (fun _ h => h) (WS_pq [2, 3, 1, 0] (lv' := [(0, .ref (A 58)), (1, .int (Int32.ofInt x)), (2, .int (Int32.ofInt 0)), (3, .int (Int32.ofInt 24))]) rfl (L5 ((24 - 0 : Int).toNat + 1) s x 0 24 I F (by first | exact ⟨And.intro (p0.1) (p0.2), by decide, by decide, by decide⟩ | omega) (Nat.lt_succ_self _) ?_))))))
  intro s1 x2 Is1 Fs1 hs1
  exact w_vret X.1 q hRt (ax_d X (show cdA 312 20 = some (.return_, 1, 0, 0, 0) from rfl)) (Nat.zero_le _) (Nat.zero_le _) ⟨_, rfl, Is1, Fs1, rfl, trivial⟩
set_option maxRecDepth 4000 in
theorem j_fill_63 (G : GX l s0 D tys a0 dT) (I : Bd s) {x : Int} (p0 : (-2147483648) ≤ x ∧ x ≤ 2147483647) : CT l s0 D A dT 312 (rmN 312) [.ref (A 63), .int (Int32.ofInt x)] s (fun o t => Bd t ∧ Fm [] [53] s t ∧ o = .inl none ∧ (True)) := by
  refine ct_ofX G (by decide) (Nat.le_of_ble_eq_true rfl) (fun k X E ET hRt hXt q => ?_)
  show WS k 0 [(0, .ref (A 63)), (1, .int (Int32.ofInt x))] [] _ 0 0
  have F : Fm [] [53] s s := fm_rf _ _ s
  have L5 : ∀ (n : Nat) (t : PS) (xv c ln : Int), Bd t → Fm [] [53] s t → (((-2147483648) ≤ xv ∧ xv ≤ 2147483647) ∧ ln = 8 ∧ 0 ≤ c ∧ c ≤ 8) → (8 - c : Int).toNat < n → (∀ (t' : PS) (c' : Int), Bd t' → Fm [] [53] s t' → (((-2147483648) ≤ xv ∧ xv ≤ 2147483647) ∧ ln = 8 ∧ 0 ≤ c' ∧ c' ≤ 8) → WS k 20 [(0, .ref (A 63)), (1, .int (Int32.ofInt xv)), (2, .int (Int32.ofInt c')), (3, .int (Int32.ofInt ln))] [] (Wd A dT t') 0 0) → WS k 5 [(0, .ref (A 63)), (1, .int (Int32.ofInt xv)), (2, .int (Int32.ofInt c)), (3, .int (Int32.ofInt ln))] [] (Wd A dT t) 0 0 := by
    intro n
    induction n with
    | zero =>
      intro t xv c ln I F hi hm kx
      exact absurd hm (Nat.not_lt_zero _)
    | succ n ih =>
      intro t xv c ln I F hi hm kx
      refine z_load_n X (x := c) rfl (List.Mem.tail _ (List.Mem.tail _ (List.Mem.head _))) (z_load_n X (x := ln) rfl (List.Mem.tail _ (List.Mem.tail _ (List.Mem.tail _ (List.Mem.head _)))) (z_icmp_ge X (t := 20) rfl rfl ⟨by first | exact oq_fa4e5087 hi.2.2.1 | omega, by first | exact oq_d3f5d874 hi.2.2.2 | omega⟩ ⟨by first | exact oq_fc89a5e2 hi.2.1 | omega, by first | exact oq_105e271f hi.2.1 | omega⟩ (fun g1001 => ?_) (fun g1001 => ?_)))
      ·
        refine WS_pq [0, 1, 2, 3] (lv' := [(0, .ref (A 63)), (1, .int (Int32.ofInt xv)), (2, .int (Int32.ofInt c)), (3, .int (Int32.ofInt ln))]) rfl ?_
        exact kx _ c I F (by first | exact ⟨And.intro (hi.1.1) (hi.1.2), hi.2.1, hi.2.2.1, hi.2.2.2⟩ | omega)
      ·
        refine z_aload_n X (x := A 63) rfl (List.Mem.head _) (z_load_n X (x := c) rfl (List.Mem.tail _ (List.Mem.tail _ (List.Mem.head _))) (z_load_n X (x := xv) rfl (List.Mem.tail _ (List.Mem.head _)) (z_ast X 63 rfl (c518_ok rfl) rfl (by first | exact hi.2.2.1 | omega) (show c < 8 by first | exact oq_9b5e226c g1001 hi.2.1 | omega) (cbig_ok rfl) (wd_gen (fun s1002 hs1002 => ?_)))))
        have Is1002 : Bd s1002 := eqB hs1002 (bd_C I (show ((-2147483648) : Int) ≤ xv ∧ xv ≤ 2147483647 by first | exact ⟨hi.1.1, hi.1.2⟩ | omega) ⟨by first | exact hi.1.1 | omega, by first | exact hi.1.2 | omega⟩)
        have Fs1002 := eqF hs1002 (fm_C F (inl_ok (a := 53) rfl))
        refine z_inc X (x := c) (lv' := [(2, .int (Int32.ofInt (c + 1))), (0, .ref (A 63)), (1, .int (Int32.ofInt xv)), (3, .int (Int32.ofInt ln))]) rfl (by decide) (List.Mem.tail _ (List.Mem.tail _ (List.Mem.head _))) (fun _ h => h) (z_goto X (t := 5) rfl rfl (WS_pq [1, 2, 0, 3] (lv' := [(0, .ref (A 63)), (1, .int (Int32.ofInt xv)), (2, .int (Int32.ofInt (c + 1))), (3, .int (Int32.ofInt ln))]) rfl ?_))
        exact ih _ xv (c + 1) ln Is1002 Fs1002 (by first | exact ⟨And.intro (hi.1.1) (hi.1.2), hi.2.1, oq_54f49eb5 hi.2.2.1, oq_a1613568 g1001 hi.2.1⟩ | omega) (by first | exact qk_me hm (by decide) (oq_a2c770ba g1001 hi.2.1) | omega) kx
  refine z_const X rfl (z_store_n X (lv' := [(2, .int (Int32.ofInt 0)), (0, .ref (A 63)), (1, .int (Int32.ofInt x))]) rfl (by decide) (fun _ h => h) (z_aload_n X (x := A 63) rfl (List.Mem.tail _ (List.Mem.head _)) (z_alen X 63 rfl (by decide) rfl rfl (z_store_n X (lv' := [(3, .int (Int32.ofInt 8)), (2, .int (Int32.ofInt 0)), (0, .ref (A 63)), (1, .int (Int32.ofInt x))]) rfl (by decide) (fun _ h => h) (WS_pq [2, 3, 1, 0] (lv' := [(0, .ref (A 63)), (1, .int (Int32.ofInt x)), (2, .int (Int32.ofInt 0)), (3, .int (Int32.ofInt 8))]) rfl (L5 ((8 - 0 : Int).toNat + 1) s x 0 8 I F (by first | exact ⟨And.intro (p0.1) (p0.2), by decide, by decide, by decide⟩ | omega) (Nat.lt_succ_self _) ?_))))))
  intro s1 x2 Is1 Fs1 hs1
  exact w_vret X.1 q hRt (ax_d X (show cdA 312 20 = some (.return_, 1, 0, 0, 0) from rfl)) (Nat.zero_le _) (Nat.zero_le _) ⟨_, rfl, Is1, Fs1, rfl, trivial⟩
set_option maxRecDepth 4000 in
theorem j_fill_64 (G : GX l s0 D tys a0 dT) (I : Bd s) {x : Int} (p0 : (-2147483648) ≤ x ∧ x ≤ 2147483647) : CT l s0 D A dT 312 (rmN 312) [.ref (A 64), .int (Int32.ofInt x)] s (fun o t => Bd t ∧ Fm [] [54] s t ∧ o = .inl none ∧ (True)) := by
  refine ct_ofX G (by decide) (Nat.le_of_ble_eq_true rfl) (fun k X E ET hRt hXt q => ?_)
  show WS k 0 [(0, .ref (A 64)), (1, .int (Int32.ofInt x))] [] _ 0 0
  have F : Fm [] [54] s s := fm_rf _ _ s
  have L5 : ∀ (n : Nat) (t : PS) (xv c ln : Int), Bd t → Fm [] [54] s t → (((-2147483648) ≤ xv ∧ xv ≤ 2147483647) ∧ ln = 8 ∧ 0 ≤ c ∧ c ≤ 8) → (8 - c : Int).toNat < n → (∀ (t' : PS) (c' : Int), Bd t' → Fm [] [54] s t' → (((-2147483648) ≤ xv ∧ xv ≤ 2147483647) ∧ ln = 8 ∧ 0 ≤ c' ∧ c' ≤ 8) → WS k 20 [(0, .ref (A 64)), (1, .int (Int32.ofInt xv)), (2, .int (Int32.ofInt c')), (3, .int (Int32.ofInt ln))] [] (Wd A dT t') 0 0) → WS k 5 [(0, .ref (A 64)), (1, .int (Int32.ofInt xv)), (2, .int (Int32.ofInt c)), (3, .int (Int32.ofInt ln))] [] (Wd A dT t) 0 0 := by
    intro n
    induction n with
    | zero =>
      intro t xv c ln I F hi hm kx
      exact absurd hm (Nat.not_lt_zero _)
    | succ n ih =>
      intro t xv c ln I F hi hm kx
      refine z_load_n X (x := c) rfl (List.Mem.tail _ (List.Mem.tail _ (List.Mem.head _))) (z_load_n X (x := ln) rfl (List.Mem.tail _ (List.Mem.tail _ (List.Mem.tail _ (List.Mem.head _)))) (z_icmp_ge X (t := 20) rfl rfl ⟨by first | exact oq_fa4e5087 hi.2.2.1 | omega, by first | exact oq_d3f5d874 hi.2.2.2 | omega⟩ ⟨by first | exact oq_fc89a5e2 hi.2.1 | omega, by first | exact oq_105e271f hi.2.1 | omega⟩ (fun g1001 => ?_) (fun g1001 => ?_)))
      ·
        refine WS_pq [0, 1, 2, 3] (lv' := [(0, .ref (A 64)), (1, .int (Int32.ofInt xv)), (2, .int (Int32.ofInt c)), (3, .int (Int32.ofInt ln))]) rfl ?_
        exact kx _ c I F (by first | exact ⟨And.intro (hi.1.1) (hi.1.2), hi.2.1, hi.2.2.1, hi.2.2.2⟩ | omega)
      ·
        refine z_aload_n X (x := A 64) rfl (List.Mem.head _) (z_load_n X (x := c) rfl (List.Mem.tail _ (List.Mem.tail _ (List.Mem.head _))) (z_load_n X (x := xv) rfl (List.Mem.tail _ (List.Mem.head _)) (z_ast X 64 rfl (c518_ok rfl) rfl (by first | exact hi.2.2.1 | omega) (show c < 8 by first | exact oq_9b5e226c g1001 hi.2.1 | omega) (cbig_ok rfl) (wd_gen (fun s1002 hs1002 => ?_)))))
        have Is1002 : Bd s1002 := eqB hs1002 (bd_C I (show ((-2147483648) : Int) ≤ xv ∧ xv ≤ 2147483647 by first | exact ⟨hi.1.1, hi.1.2⟩ | omega) ⟨by first | exact hi.1.1 | omega, by first | exact hi.1.2 | omega⟩)
        have Fs1002 := eqF hs1002 (fm_C F (inl_ok (a := 54) rfl))
        refine z_inc X (x := c) (lv' := [(2, .int (Int32.ofInt (c + 1))), (0, .ref (A 64)), (1, .int (Int32.ofInt xv)), (3, .int (Int32.ofInt ln))]) rfl (by decide) (List.Mem.tail _ (List.Mem.tail _ (List.Mem.head _))) (fun _ h => h) (z_goto X (t := 5) rfl rfl (WS_pq [1, 2, 0, 3] (lv' := [(0, .ref (A 64)), (1, .int (Int32.ofInt xv)), (2, .int (Int32.ofInt (c + 1))), (3, .int (Int32.ofInt ln))]) rfl ?_))
        exact ih _ xv (c + 1) ln Is1002 Fs1002 (by first | exact ⟨And.intro (hi.1.1) (hi.1.2), hi.2.1, oq_54f49eb5 hi.2.2.1, oq_a1613568 g1001 hi.2.1⟩ | omega) (by first | exact qk_me hm (by decide) (oq_a2c770ba g1001 hi.2.1) | omega) kx
  refine z_const X rfl (z_store_n X (lv' := [(2, .int (Int32.ofInt 0)), (0, .ref (A 64)), (1, .int (Int32.ofInt x))]) rfl (by decide) (fun _ h => h) (z_aload_n X (x := A 64) rfl (List.Mem.tail _ (List.Mem.head _)) (z_alen X 64 rfl (by decide) rfl rfl (z_store_n X (lv' := [(3, .int (Int32.ofInt 8)), (2, .int (Int32.ofInt 0)), (0, .ref (A 64)), (1, .int (Int32.ofInt x))]) rfl (by decide) (fun _ h => h) (WS_pq [2, 3, 1, 0] (lv' := [(0, .ref (A 64)), (1, .int (Int32.ofInt x)), (2, .int (Int32.ofInt 0)), (3, .int (Int32.ofInt 8))]) rfl (L5 ((8 - 0 : Int).toNat + 1) s x 0 8 I F (by first | exact ⟨And.intro (p0.1) (p0.2), by decide, by decide, by decide⟩ | omega) (Nat.lt_succ_self _) ?_))))))
  intro s1 x2 Is1 Fs1 hs1
  exact w_vret X.1 q hRt (ax_d X (show cdA 312 20 = some (.return_, 1, 0, 0, 0) from rfl)) (Nat.zero_le _) (Nat.zero_le _) ⟨_, rfl, Is1, Fs1, rfl, trivial⟩
set_option maxRecDepth 4000 in
theorem j_fill_65 (G : GX l s0 D tys a0 dT) (I : Bd s) {x : Int} (p0 : (-2147483648) ≤ x ∧ x ≤ 2147483647) : CT l s0 D A dT 312 (rmN 312) [.ref (A 65), .int (Int32.ofInt x)] s (fun o t => Bd t ∧ Fm [] [55] s t ∧ o = .inl none ∧ (True)) := by
  refine ct_ofX G (by decide) (Nat.le_of_ble_eq_true rfl) (fun k X E ET hRt hXt q => ?_)
  show WS k 0 [(0, .ref (A 65)), (1, .int (Int32.ofInt x))] [] _ 0 0
  have F : Fm [] [55] s s := fm_rf _ _ s
  have L5 : ∀ (n : Nat) (t : PS) (xv c ln : Int), Bd t → Fm [] [55] s t → (((-2147483648) ≤ xv ∧ xv ≤ 2147483647) ∧ ln = 8 ∧ 0 ≤ c ∧ c ≤ 8) → (8 - c : Int).toNat < n → (∀ (t' : PS) (c' : Int), Bd t' → Fm [] [55] s t' → (((-2147483648) ≤ xv ∧ xv ≤ 2147483647) ∧ ln = 8 ∧ 0 ≤ c' ∧ c' ≤ 8) → WS k 20 [(0, .ref (A 65)), (1, .int (Int32.ofInt xv)), (2, .int (Int32.ofInt c')), (3, .int (Int32.ofInt ln))] [] (Wd A dT t') 0 0) → WS k 5 [(0, .ref (A 65)), (1, .int (Int32.ofInt xv)), (2, .int (Int32.ofInt c)), (3, .int (Int32.ofInt ln))] [] (Wd A dT t) 0 0 := by
    intro n
    induction n with
    | zero =>
      intro t xv c ln I F hi hm kx
      exact absurd hm (Nat.not_lt_zero _)
    | succ n ih =>
      intro t xv c ln I F hi hm kx
      refine z_load_n X (x := c) rfl (List.Mem.tail _ (List.Mem.tail _ (List.Mem.head _))) (z_load_n X (x := ln) rfl (List.Mem.tail _ (List.Mem.tail _ (List.Mem.tail _ (List.Mem.head _)))) (z_icmp_ge X (t := 20) rfl rfl ⟨by first | exact oq_fa4e5087 hi.2.2.1 | omega, by first | exact oq_d3f5d874 hi.2.2.2 | omega⟩ ⟨by first | exact oq_fc89a5e2 hi.2.1 | omega, by first | exact oq_105e271f hi.2.1 | omega⟩ (fun g1001 => ?_) (fun g1001 => ?_)))
      ·
        refine WS_pq [0, 1, 2, 3] (lv' := [(0, .ref (A 65)), (1, .int (Int32.ofInt xv)), (2, .int (Int32.ofInt c)), (3, .int (Int32.ofInt ln))]) rfl ?_
        exact kx _ c I F (by first | exact ⟨And.intro (hi.1.1) (hi.1.2), hi.2.1, hi.2.2.1, hi.2.2.2⟩ | omega)
      ·
        refine z_aload_n X (x := A 65) rfl (List.Mem.head _) (z_load_n X (x := c) rfl (List.Mem.tail _ (List.Mem.tail _ (List.Mem.head _))) (z_load_n X (x := xv) rfl (List.Mem.tail _ (List.Mem.head _)) (z_ast X 65 rfl (c518_ok rfl) rfl (by first | exact hi.2.2.1 | omega) (show c < 8 by first | exact oq_9b5e226c g1001 hi.2.1 | omega) (cbig_ok rfl) (wd_gen (fun s1002 hs1002 => ?_)))))
        have Is1002 : Bd s1002 := eqB hs1002 (bd_C I (show ((-2147483648) : Int) ≤ xv ∧ xv ≤ 2147483647 by first | exact ⟨hi.1.1, hi.1.2⟩ | omega) ⟨by first | exact hi.1.1 | omega, by first | exact hi.1.2 | omega⟩)
        have Fs1002 := eqF hs1002 (fm_C F (inl_ok (a := 55) rfl))
        refine z_inc X (x := c) (lv' := [(2, .int (Int32.ofInt (c + 1))), (0, .ref (A 65)), (1, .int (Int32.ofInt xv)), (3, .int (Int32.ofInt ln))]) rfl (by decide) (List.Mem.tail _ (List.Mem.tail _ (List.Mem.head _))) (fun _ h => h) (z_goto X (t := 5) rfl rfl (WS_pq [1, 2, 0, 3] (lv' := [(0, .ref (A 65)), (1, .int (Int32.ofInt xv)), (2, .int (Int32.ofInt (c + 1))), (3, .int (Int32.ofInt ln))]) rfl ?_))
        exact ih _ xv (c + 1) ln Is1002 Fs1002 (by first | exact ⟨And.intro (hi.1.1) (hi.1.2), hi.2.1, oq_54f49eb5 hi.2.2.1, oq_a1613568 g1001 hi.2.1⟩ | omega) (by first | exact qk_me hm (by decide) (oq_a2c770ba g1001 hi.2.1) | omega) kx
  refine z_const X rfl (z_store_n X (lv' := [(2, .int (Int32.ofInt 0)), (0, .ref (A 65)), (1, .int (Int32.ofInt x))]) rfl (by decide) (fun _ h => h) (z_aload_n X (x := A 65) rfl (List.Mem.tail _ (List.Mem.head _)) (z_alen X 65 rfl (by decide) rfl rfl (z_store_n X (lv' := [(3, .int (Int32.ofInt 8)), (2, .int (Int32.ofInt 0)), (0, .ref (A 65)), (1, .int (Int32.ofInt x))]) rfl (by decide) (fun _ h => h) (WS_pq [2, 3, 1, 0] (lv' := [(0, .ref (A 65)), (1, .int (Int32.ofInt x)), (2, .int (Int32.ofInt 0)), (3, .int (Int32.ofInt 8))]) rfl (L5 ((8 - 0 : Int).toNat + 1) s x 0 8 I F (by first | exact ⟨And.intro (p0.1) (p0.2), by decide, by decide, by decide⟩ | omega) (Nat.lt_succ_self _) ?_))))))
  intro s1 x2 Is1 Fs1 hs1
  exact w_vret X.1 q hRt (ax_d X (show cdA 312 20 = some (.return_, 1, 0, 0, 0) from rfl)) (Nat.zero_le _) (Nat.zero_le _) ⟨_, rfl, Is1, Fs1, rfl, trivial⟩
set_option maxRecDepth 4000 in
theorem j_fill_89 (G : GX l s0 D tys a0 dT) (I : Bd s) {x : Int} (p0 : (-2147483648) ≤ x ∧ x ≤ 2147483647) : CT l s0 D A dT 312 (rmN 312) [.ref (A 89), .int (Int32.ofInt x)] s (fun o t => Bd t ∧ Fm [] [76] s t ∧ o = .inl none ∧ (True)) := by
  refine ct_ofX G (by decide) (Nat.le_of_ble_eq_true rfl) (fun k X E ET hRt hXt q => ?_)
  show WS k 0 [(0, .ref (A 89)), (1, .int (Int32.ofInt x))] [] _ 0 0
  have F : Fm [] [76] s s := fm_rf _ _ s
  have L5 : ∀ (n : Nat) (t : PS) (xv c ln : Int), Bd t → Fm [] [76] s t → (((-2147483648) ≤ xv ∧ xv ≤ 2147483647) ∧ ln = 256 ∧ 0 ≤ c ∧ c ≤ 256) → (256 - c : Int).toNat < n → (∀ (t' : PS) (c' : Int), Bd t' → Fm [] [76] s t' → (((-2147483648) ≤ xv ∧ xv ≤ 2147483647) ∧ ln = 256 ∧ 0 ≤ c' ∧ c' ≤ 256) → WS k 20 [(0, .ref (A 89)), (1, .int (Int32.ofInt xv)), (2, .int (Int32.ofInt c')), (3, .int (Int32.ofInt ln))] [] (Wd A dT t') 0 0) → WS k 5 [(0, .ref (A 89)), (1, .int (Int32.ofInt xv)), (2, .int (Int32.ofInt c)), (3, .int (Int32.ofInt ln))] [] (Wd A dT t) 0 0 := by
    intro n
    induction n with
    | zero =>
      intro t xv c ln I F hi hm kx
      exact absurd hm (Nat.not_lt_zero _)
    | succ n ih =>
      intro t xv c ln I F hi hm kx
      refine z_load_n X (x := c) rfl (List.Mem.tail _ (List.Mem.tail _ (List.Mem.head _))) (z_load_n X (x := ln) rfl (List.Mem.tail _ (List.Mem.tail _ (List.Mem.tail _ (List.Mem.head _)))) (z_icmp_ge X (t := 20) rfl rfl ⟨by first | exact oq_fa4e5087 hi.2.2.1 | omega, by first | exact oq_09cd9fc1 hi.2.2.2 | omega⟩ ⟨by first | exact oq_836f9876 hi.2.1 | omega, by first | exact oq_4f2d3355 hi.2.1 | omega⟩ (fun g1001 => ?_) (fun g1001 => ?_)))
      ·
        refine WS_pq [0, 1, 2, 3] (lv' := [(0, .ref (A 89)), (1, .int (Int32.ofInt xv)), (2, .int (Int32.ofInt c)), (3, .int (Int32.ofInt ln))]) rfl ?_
        exact kx _ c I F (by first | exact ⟨And.intro (hi.1.1) (hi.1.2), hi.2.1, hi.2.2.1, hi.2.2.2⟩ | omega)
      ·
        refine z_aload_n X (x := A 89) rfl (List.Mem.head _) (z_load_n X (x := c) rfl (List.Mem.tail _ (List.Mem.tail _ (List.Mem.head _))) (z_load_n X (x := xv) rfl (List.Mem.tail _ (List.Mem.head _)) (z_ast X 89 rfl (c518_ok rfl) rfl (by first | exact hi.2.2.1 | omega) (show c < 256 by first | exact oq_c879b548 g1001 hi.2.1 | omega) (cbig_ok rfl) (wd_gen (fun s1002 hs1002 => ?_)))))
        have Is1002 : Bd s1002 := eqB hs1002 (bd_C I (show ((-2147483648) : Int) ≤ xv ∧ xv ≤ 2147483647 by first | exact ⟨hi.1.1, hi.1.2⟩ | omega) ⟨by first | exact hi.1.1 | omega, by first | exact hi.1.2 | omega⟩)
        have Fs1002 := eqF hs1002 (fm_C F (inl_ok (a := 76) rfl))
        refine z_inc X (x := c) (lv' := [(2, .int (Int32.ofInt (c + 1))), (0, .ref (A 89)), (1, .int (Int32.ofInt xv)), (3, .int (Int32.ofInt ln))]) rfl (by decide) (List.Mem.tail _ (List.Mem.tail _ (List.Mem.head _))) (fun _ h => h) (z_goto X (t := 5) rfl rfl (WS_pq [1, 2, 0, 3] (lv' := [(0, .ref (A 89)), (1, .int (Int32.ofInt xv)), (2, .int (Int32.ofInt (c + 1))), (3, .int (Int32.ofInt ln))]) rfl ?_))
        exact ih _ xv (c + 1) ln Is1002 Fs1002 (by first | exact ⟨And.intro (hi.1.1) (hi.1.2), hi.2.1, oq_54f49eb5 hi.2.2.1, oq_961868b5 g1001 hi.2.1⟩ | omega) (by first | exact qk_me hm (by decide) (oq_41a13d55 g1001 hi.2.1) | omega) kx
  refine z_const X rfl (z_store_n X (lv' := [(2, .int (Int32.ofInt 0)), (0, .ref (A 89)), (1, .int (Int32.ofInt x))]) rfl (by decide) (fun _ h => h) (z_aload_n X (x := A 89) rfl (List.Mem.tail _ (List.Mem.head _)) (z_alen X 89 rfl (by decide) rfl rfl (z_store_n X (lv' := [(3, .int (Int32.ofInt 256)), (2, .int (Int32.ofInt 0)), (0, .ref (A 89)), (1, .int (Int32.ofInt x))]) rfl (by decide) (fun _ h => h) (WS_pq [2, 3, 1, 0] (lv' := [(0, .ref (A 89)), (1, .int (Int32.ofInt x)), (2, .int (Int32.ofInt 0)), (3, .int (Int32.ofInt 256))]) rfl (L5 ((256 - 0 : Int).toNat + 1) s x 0 256 I F (by first | exact ⟨And.intro (p0.1) (p0.2), by decide, by decide, by decide⟩ | omega) (Nat.lt_succ_self _) ?_))))))
  intro s1 x2 Is1 Fs1 hs1
  exact w_vret X.1 q hRt (ax_d X (show cdA 312 20 = some (.return_, 1, 0, 0, 0) from rfl)) (Nat.zero_le _) (Nat.zero_le _) ⟨_, rfl, Is1, Fs1, rfl, trivial⟩
set_option maxRecDepth 4000 in
theorem j_fill_90 (G : GX l s0 D tys a0 dT) (I : Bd s) {x : Int} (p0 : (-2147483648) ≤ x ∧ x ≤ 2147483647) : CT l s0 D A dT 312 (rmN 312) [.ref (A 90), .int (Int32.ofInt x)] s (fun o t => Bd t ∧ Fm [] [77] s t ∧ o = .inl none ∧ (True)) := by
  refine ct_ofX G (by decide) (Nat.le_of_ble_eq_true rfl) (fun k X E ET hRt hXt q => ?_)
  show WS k 0 [(0, .ref (A 90)), (1, .int (Int32.ofInt x))] [] _ 0 0
  have F : Fm [] [77] s s := fm_rf _ _ s
  have L5 : ∀ (n : Nat) (t : PS) (xv c ln : Int), Bd t → Fm [] [77] s t → (((-2147483648) ≤ xv ∧ xv ≤ 2147483647) ∧ ln = 128 ∧ 0 ≤ c ∧ c ≤ 128) → (128 - c : Int).toNat < n → (∀ (t' : PS) (c' : Int), Bd t' → Fm [] [77] s t' → (((-2147483648) ≤ xv ∧ xv ≤ 2147483647) ∧ ln = 128 ∧ 0 ≤ c' ∧ c' ≤ 128) → WS k 20 [(0, .ref (A 90)), (1, .int (Int32.ofInt xv)), (2, .int (Int32.ofInt c')), (3, .int (Int32.ofInt ln))] [] (Wd A dT t') 0 0) → WS k 5 [(0, .ref (A 90)), (1, .int (Int32.ofInt xv)), (2, .int (Int32.ofInt c)), (3, .int (Int32.ofInt ln))] [] (Wd A dT t) 0 0 := by
    intro n
    induction n with
    | zero =>
      intro t xv c ln I F hi hm kx
      exact absurd hm (Nat.not_lt_zero _)
    | succ n ih =>
      intro t xv c ln I F hi hm kx
      refine z_load_n X (x := c) rfl (List.Mem.tail _ (List.Mem.tail _ (List.Mem.head _))) (z_load_n X (x := ln) rfl (List.Mem.tail _ (List.Mem.tail _ (List.Mem.tail _ (List.Mem.head _)))) (z_icmp_ge X (t := 20) rfl rfl ⟨by first | exact oq_fa4e5087 hi.2.2.1 | omega, by first | exact oq_4ee82282 hi.2.2.2 | omega⟩ ⟨by first | exact oq_b73d3f00 hi.2.1 | omega, by first | exact oq_5d97283a hi.2.1 | omega⟩ (fun g1001 => ?_) (fun g1001 => ?_)))
      ·
        refine WS_pq [0, 1, 2, 3] (lv' := [(0, .ref (A 90)), (1, .int (Int32.ofInt xv)), (2, .int (Int32.ofInt c)), (3, .int (Int32.ofInt ln))]) rfl ?_
        exact kx _ c I F (by first | exact ⟨And.intro (hi.1.1) (hi.1.2), hi.2.1, hi.2.2.1, hi.2.2.2⟩ | omega)
      ·
        refine z_aload_n X (x := A 90) rfl (List.Mem.head _) (z_load_n X (x := c) rfl (List.Mem.tail _ (List.Mem.tail _ (List.Mem.head _))) (z_load_n X (x := xv) rfl (List.Mem.tail _ (List.Mem.head _)) (z_ast X 90 rfl (c518_ok rfl) rfl (by first | exact hi.2.2.1 | omega) (show c < 128 by first | exact oq_9ea9f5fe g1001 hi.2.1 | omega) (cbig_ok rfl) (wd_gen (fun s1002 hs1002 => ?_)))))
        have Is1002 : Bd s1002 := eqB hs1002 (bd_C I (show ((-2147483648) : Int) ≤ xv ∧ xv ≤ 2147483647 by first | exact ⟨hi.1.1, hi.1.2⟩ | omega) ⟨by first | exact hi.1.1 | omega, by first | exact hi.1.2 | omega⟩)
        have Fs1002 := eqF hs1002 (fm_C F (inl_ok (a := 77) rfl))
        refine z_inc X (x := c) (lv' := [(2, .int (Int32.ofInt (c + 1))), (0, .ref (A 90)), (1, .int (Int32.ofInt xv)), (3, .int (Int32.ofInt ln))]) rfl (by decide) (List.Mem.tail _ (List.Mem.tail _ (List.Mem.head _))) (fun _ h => h) (z_goto X (t := 5) rfl rfl (WS_pq [1, 2, 0, 3] (lv' := [(0, .ref (A 90)), (1, .int (Int32.ofInt xv)), (2, .int (Int32.ofInt (c + 1))), (3, .int (Int32.ofInt ln))]) rfl ?_))
        exact ih _ xv (c + 1) ln Is1002 Fs1002 (by first | exact ⟨And.intro (hi.1.1) (hi.1.2), hi.2.1, oq_54f49eb5 hi.2.2.1, oq_b5166a24 g1001 hi.2.1⟩ | omega) (by first | exact qk_me hm (by decide) (oq_49db1926 g1001 hi.2.1) | omega) kx
  refine z_const X rfl (z_store_n X (lv' := [(2, .int (Int32.ofInt 0)), (0, .ref (A 90)), (1, .int (Int32.ofInt x))]) rfl (by decide) (fun _ h => h) (z_aload_n X (x := A 90) rfl (List.Mem.tail _ (List.Mem.head _)) (z_alen X 90 rfl (by decide) rfl rfl (z_store_n X (lv' := [(3, .int (Int32.ofInt 128)), (2, .int (Int32.ofInt 0)), (0, .ref (A 90)), (1, .int (Int32.ofInt x))]) rfl (by decide) (fun _ h => h) (WS_pq [2, 3, 1, 0] (lv' := [(0, .ref (A 90)), (1, .int (Int32.ofInt x)), (2, .int (Int32.ofInt 0)), (3, .int (Int32.ofInt 128))]) rfl (L5 ((128 - 0 : Int).toNat + 1) s x 0 128 I F (by first | exact ⟨And.intro (p0.1) (p0.2), by decide, by decide, by decide⟩ | omega) (Nat.lt_succ_self _) ?_))))))
  intro s1 x2 Is1 Fs1 hs1
  exact w_vret X.1 q hRt (ax_d X (show cdA 312 20 = some (.return_, 1, 0, 0, 0) from rfl)) (Nat.zero_le _) (Nat.zero_le _) ⟨_, rfl, Is1, Fs1, rfl, trivial⟩
set_option maxRecDepth 4000 in
theorem c10_refuseAt_1 (G : GX l s0 D tys a0 dT) (I : Bd s) {x y : Int} (p0 : 1 ≤ x ∧ x ≤ 4) (p1 : 0 ≤ y ∧ y ≤ 200) : CT l s0 D A dT 133 (rmN 133) [.ref (A 1), .int (Int32.ofInt x), .int (Int32.ofInt y)] s (fun o t => Bd t ∧ Fm [7, 8] [] s t ∧ ∃ e, o = .inl (some (.int (Int32.ofInt e))) ∧ rng e ∧ (e = 0)) := by
  refine ct_ofX G (by decide) (Nat.le_of_ble_eq_true rfl) (fun k X E ET hRt hXt q => ?_)
  show WS k 0 [(0, .ref (A 1)), (1, .int (Int32.ofInt x)), (2, .int (Int32.ofInt y))] [] _ 0 0
  have F : Fm [7, 8] [] s s := fm_rf _ _ s
  refine z_aload_n X (x := A 1) rfl (List.Mem.head _) (z_load_n X (x := x) rfl (List.Mem.tail _ (List.Mem.head _)) (s_putI X 1 rfl (c518_ok rfl) rfl rfl (by decide) rfl rfl rfl (wd_gen (fun s1 hs1 => ?_))))
  have Is1 : Bd s1 := eqB hs1 (bd_I I (show (0 : Int) ≤ x ∧ x ≤ 9 by first | exact ⟨oq_2a6e3b50 p0.1, oq_aac78eb5 p0.2⟩ | omega) ⟨by first | exact oq_9462313e p0.1 | omega, by first | exact oq_4a4414da p0.2 | omega⟩)
  have Fs1 := eqF hs1 (fm_I F (inl_ok (a := 7) rfl))
  have vs1 : iI s1 7 = x := eqI hs1 (iI_u ⟨by first | exact oq_9462313e p0.1 | omega, by first | exact oq_4a4414da p0.2 | omega⟩)
  refine z_aload_n X (x := A 1) rfl (List.Mem.head _) (z_load_n X (x := y) rfl (List.Mem.tail _ (List.Mem.tail _ (List.Mem.head _))) (s_putI X 1 rfl (c518_ok rfl) rfl rfl (by decide) rfl rfl rfl (wd_gen (fun s2 hs2 => ?_))))
  have Is2 : Bd s2 := eqB hs2 (bd_I Is1 (show ((-1) : Int) ≤ y ∧ y ≤ 200 by first | exact ⟨oq_ca54ea22 p1.1, p1.2⟩ | omega) ⟨by first | exact oq_fa4e5087 p1.1 | omega, by first | exact oq_52af2b96 p1.2 | omega⟩)
  have Fs2 := eqF hs2 (fm_I Fs1 (inl_ok (a := 8) rfl))
  have vs2 : iI s2 8 = y := eqI hs2 (iI_u ⟨by first | exact oq_fa4e5087 p1.1 | omega, by first | exact oq_52af2b96 p1.2 | omega⟩)
  refine z_const X rfl ?_
  exact w_iret X.1 q hRt (nar_ret (by first | exact Or.inl (by decide) | omega)) (ax_d X (show cdA 133 11 = some (.ireturn, 1, 0, 0, 0) from rfl)) (Nat.zero_le _) (Nat.zero_le _) ⟨_, rfl, Is2, Fs2, 0, rfl, (by decide), by decide⟩
set_option maxRecDepth 4000 in
theorem c10_refuse_1 (G : GX l s0 D tys a0 dT) (I : Bd s) {x : Int} (p0 : 1 ≤ x ∧ x ≤ 4) : CT l s0 D A dT 132 (rmN 132) [.ref (A 1), .int (Int32.ofInt x)] s (fun o t => Bd t ∧ Fm [7, 8] [] s t ∧ ∃ e, o = .inl (some (.int (Int32.ofInt e))) ∧ rng e ∧ (e = 0)) := by
  refine ct_ofX G (by decide) (Nat.le_of_ble_eq_true rfl) (fun k X E ET hRt hXt q => ?_)
  show WS k 0 [(0, .ref (A 1)), (1, .int (Int32.ofInt x))] [] _ 0 0
  have F : Fm [7, 8] [] s s := fm_rf _ _ s
  refine z_aload_n X (x := A 1) rfl (List.Mem.head _) (z_load_n X (x := x) rfl (List.Mem.tail _ (List.Mem.head _)) (z_aload_n X (x := A 1) rfl (List.Mem.head _) (z_getI X 1 rfl (c518_ok rfl) rfl rfl ?_)))
  have b1 := bi_4 I
  refine zcV_i0 X E 1 (As := [.int (Int32.ofInt x), .int (Int32.ofInt (iI s 4))]) (st := []) rfl rfl rfl rfl (c10_refuseAt_1 G I (by first | exact ⟨p0.1, p0.2⟩ | omega) (by first | exact ⟨b1.1, b1.2⟩ | omega)) rfl (Nat.le_of_ble_eq_true rfl) (fun s2 e3 Is2 Fs2 hrs2 hps2 => ?_)
  have Gs2 := fm_tq F Fs2 rfl rfl
  exact w_iret X.1 q hRt (nar_ret (by first | exact Or.inl (hps2) | omega)) (ax_d X (show cdA 132 9 = some (.ireturn, 1, 0, 0, 0) from rfl)) (Nat.zero_le _) (Nat.zero_le _) ⟨_, rfl, Is2, Gs2, e3, rfl, hrs2, by first | exact hps2 | omega⟩
set_option maxRecDepth 4000 in
theorem c9_stepFrom (G : GX l s0 D tys a0 dT) (I : Bd s) {x y : Int} (p0 : 0 ≤ x ∧ x ≤ 127) (p1 : 0 ≤ y ∧ y ≤ 5) : CT l s0 D A dT 100 (rmN 100) [.int (Int32.ofInt x), .int (Int32.ofInt y)] s (fun o t => s = t ∧ ∃ e, o = .inl (some (.int (Int32.ofInt e))) ∧ rng e ∧ (-1 ≤ e ∧ e ≤ 127)) := by
  refine ct_ofX G (by decide) (Nat.le_of_ble_eq_true rfl) (fun k X E ET hRt hXt q => ?_)
  show WS k 0 [(0, .int (Int32.ofInt x)), (1, .int (Int32.ofInt y))] [] _ 0 0
  have F : Fm [] [] s s := fm_rf _ _ s
  refine z_load_n X (x := y) rfl (List.Mem.tail _ (List.Mem.head _)) ?_
  rcases (show y = 0 ∨ y = 1 ∨ y = 2 ∨ y = 3 ∨ y = 4 ∨ y = 5 by omega) with gs | gs | gs | gs | gs | gs
  ·
    rw [gs]
    refine w_tabIn X.1 (dflt := 135) (lo := 0) (hi := 5) (offs := #[39, 56, 71, 89, 105, 120]) (len := 39) (off := 39) (t := 40) (ax_d X (show cdA 100 1 = some (.tableswitch 135 0 5 #[39, 56, 71, 89, 105, 120], 39, 0, 0, 0) from rfl)) (by decide) (by decide) (by decide) (by decide) (z_load_n X (x := x) rfl (List.Mem.head _) (z_bipush X rfl (z_and7 X rfl (by omega) (z_bipush X rfl ?_))))
    have N1 : ∀ e2 : Int, (((7 ≤ (x % 8)) ∧ e2 = (-1)) ∨ (((x % 8) < 7) ∧ e2 = (x + 1))) → WS k 56 [(0, .int (Int32.ofInt x)), (1, .int (Int32.ofInt 0))] [.int (Int32.ofInt e2)] (Wd A dT s) 0 0 := by
      intro e2 he2
      exact w_iret X.1 q hRt rfl (ax_d X (show cdA 100 56 = some (.ireturn, 1, 0, 0, 0) from rfl)) (Nat.zero_le _) (Nat.zero_le _) ⟨_, rfl, rfl, e2, rfl, ⟨by first | exact oq_3ac7fb06 he2 p0.1 | omega, by first | exact oq_df418479 he2 p0.2 | omega⟩, by first | exact ⟨oq_8655ee20 he2 p0.1, by first | (clear he2; omega) | omega⟩ | omega⟩
    refine z_icmp_ge X (t := 55) rfl rfl ⟨by first | exact oq_e86162eb | omega, by first | exact oq_70086759 | omega⟩ (by decide) (fun g3 => ?_) (fun g3 => ?_)
    ·
      exact z_const X rfl (N1 _ (Or.inl ⟨g3, rfl⟩))
    ·
      exact z_load_n X (x := x) rfl (List.Mem.head _) (z_const X rfl (z_add X rfl (z_goto X (t := 56) rfl rfl (N1 _ (Or.inr (⟨g3, rfl⟩))))))
  ·
    rw [gs]
    refine w_tabIn X.1 (dflt := 135) (lo := 0) (hi := 5) (offs := #[39, 56, 71, 89, 105, 120]) (len := 39) (off := 56) (t := 57) (ax_d X (show cdA 100 1 = some (.tableswitch 135 0 5 #[39, 56, 71, 89, 105, 120], 39, 0, 0, 0) from rfl)) (by decide) (by decide) (by decide) (by decide) (z_load_n X (x := x) rfl (List.Mem.head _) (z_bipush X rfl (z_and7 X rfl (by omega) ?_)))
    have N4 : ∀ e5 : Int, ((((x % 8) ≤ 0) ∧ e5 = (-1)) ∨ ((0 < (x % 8)) ∧ e5 = (x - 1))) → WS k 71 [(0, .int (Int32.ofInt x)), (1, .int (Int32.ofInt 1))] [.int (Int32.ofInt e5)] (Wd A dT s) 0 0 := by
      intro e5 he5
      exact w_iret X.1 q hRt rfl (ax_d X (show cdA 100 71 = some (.ireturn, 1, 0, 0, 0) from rfl)) (Nat.zero_le _) (Nat.zero_le _) ⟨_, rfl, rfl, e5, rfl, ⟨by first | exact oq_b7fd8e5d he5 p0.1 | omega, by first | exact oq_9d1ba81c he5 p0.2 | omega⟩, by first | exact ⟨oq_7e4871f0 he5 p0.1, oq_16d44b6a he5 p0.2⟩ | omega⟩
    refine z_if_le X (t := 70) rfl rfl ⟨by first | exact oq_e86162eb | omega, by first | exact oq_70086759 | omega⟩ (fun g6 => ?_) (fun g6 => ?_)
    ·
      exact z_const X rfl (N4 _ (Or.inl ⟨g6, rfl⟩))
    ·
      exact z_load_n X (x := x) rfl (List.Mem.head _) (z_const X rfl (z_sub X rfl (z_goto X (t := 71) rfl rfl (N4 _ (Or.inr (⟨g6, rfl⟩))))))
  ·
    rw [gs]
    refine w_tabIn X.1 (dflt := 135) (lo := 0) (hi := 5) (offs := #[39, 56, 71, 89, 105, 120]) (len := 39) (off := 71) (t := 72) (ax_d X (show cdA 100 1 = some (.tableswitch 135 0 5 #[39, 56, 71, 89, 105, 120], 39, 0, 0, 0) from rfl)) (by decide) (by decide) (by decide) (by decide) (z_load_n X (x := x) rfl (List.Mem.head _) (z_bipush X rfl (z_and56 X rfl (by omega) (z_bipush X rfl ?_))))
    have N7 : ∀ e8 : Int, (((56 ≤ (x / 8 % 8 * 8)) ∧ e8 = (-1)) ∨ (((x / 8 % 8 * 8) < 56) ∧ e8 = (x + 8))) → WS k 89 [(0, .int (Int32.ofInt x)), (1, .int (Int32.ofInt 2))] [.int (Int32.ofInt e8)] (Wd A dT s) 0 0 := by
      intro e8 he8
      exact w_iret X.1 q hRt rfl (ax_d X (show cdA 100 89 = some (.ireturn, 1, 0, 0, 0) from rfl)) (Nat.zero_le _) (Nat.zero_le _) ⟨_, rfl, rfl, e8, rfl, ⟨by first | exact oq_7a2b650a he8 p0.1 | omega, by first | exact oq_f231750c he8 p0.2 | omega⟩, by first | exact ⟨oq_ad1df6ed he8 p0.1, by first | (clear he8; omega) | omega⟩ | omega⟩
    refine z_icmp_ge X (t := 88) rfl rfl ⟨by first | exact oq_96d4763a | omega, by first | exact oq_4d664977 | omega⟩ (by decide) (fun g9 => ?_) (fun g9 => ?_)
    ·
      exact z_const X rfl (N7 _ (Or.inl ⟨g9, rfl⟩))
    ·
      exact z_load_n X (x := x) rfl (List.Mem.head _) (z_bipush X rfl (z_add X rfl (z_goto X (t := 89) rfl rfl (N7 _ (Or.inr (⟨g9, rfl⟩))))))
  ·
    rw [gs]
    refine w_tabIn X.1 (dflt := 135) (lo := 0) (hi := 5) (offs := #[39, 56, 71, 89, 105, 120]) (len := 39) (off := 89) (t := 90) (ax_d X (show cdA 100 1 = some (.tableswitch 135 0 5 #[39, 56, 71, 89, 105, 120], 39, 0, 0, 0) from rfl)) (by decide) (by decide) (by decide) (by decide) (z_load_n X (x := x) rfl (List.Mem.head _) (z_bipush X rfl (z_and56 X rfl (by omega) ?_)))
    have N10 : ∀ e11 : Int, ((((x / 8 % 8 * 8) ≤ 0) ∧ e11 = (-1)) ∨ ((0 < (x / 8 % 8 * 8)) ∧ e11 = (x - 8))) → WS k 105 [(0, .int (Int32.ofInt x)), (1, .int (Int32.ofInt 3))] [.int (Int32.ofInt e11)] (Wd A dT s) 0 0 := by
      intro e11 he11
      exact w_iret X.1 q hRt rfl (ax_d X (show cdA 100 105 = some (.ireturn, 1, 0, 0, 0) from rfl)) (Nat.zero_le _) (Nat.zero_le _) ⟨_, rfl, rfl, e11, rfl, ⟨by first | exact oq_2d0dfc68 he11 p0.1 | omega, by first | exact oq_83fab6db he11 p0.2 | omega⟩, by first | exact ⟨by first | (clear he11; omega) | omega, oq_057900c8 he11 p0.2⟩ | omega⟩
    refine z_if_le X (t := 104) rfl rfl ⟨by first | exact oq_96d4763a | omega, by first | exact oq_4d664977 | omega⟩ (fun g12 => ?_) (fun g12 => ?_)
    ·
      exact z_const X rfl (N10 _ (Or.inl ⟨g12, rfl⟩))
    ·
      exact z_load_n X (x := x) rfl (List.Mem.head _) (z_bipush X rfl (z_sub X rfl (z_goto X (t := 105) rfl rfl (N10 _ (Or.inr (⟨g12, rfl⟩))))))
  ·
    rw [gs]
    refine w_tabIn X.1 (dflt := 135) (lo := 0) (hi := 5) (offs := #[39, 56, 71, 89, 105, 120]) (len := 39) (off := 105) (t := 106) (ax_d X (show cdA 100 1 = some (.tableswitch 135 0 5 #[39, 56, 71, 89, 105, 120], 39, 0, 0, 0) from rfl)) (by decide) (by decide) (by decide) (by decide) (z_load_n X (x := x) rfl (List.Mem.head _) (z_bipush X rfl ?_))
    have N13 : ∀ e14 : Int, (((64 ≤ x) ∧ e14 = (-1)) ∨ ((x < 64) ∧ e14 = (x + 64))) → WS k 120 [(0, .int (Int32.ofInt x)), (1, .int (Int32.ofInt 4))] [.int (Int32.ofInt e14)] (Wd A dT s) 0 0 := by
      intro e14 he14
      exact w_iret X.1 q hRt rfl (ax_d X (show cdA 100 120 = some (.ireturn, 1, 0, 0, 0) from rfl)) (Nat.zero_le _) (Nat.zero_le _) ⟨_, rfl, rfl, e14, rfl, ⟨by first | exact oq_59c92683 he14 p0.1 | omega, by first | exact oq_f358200e he14 | omega⟩, by first | exact ⟨oq_201a3ceb he14 p0.1, oq_3594ddd9 he14⟩ | omega⟩
    refine z_icmp_ge X (t := 119) rfl rfl ⟨by first | exact oq_fa4e5087 p0.1 | omega, by first | exact oq_07d346ce p0.2 | omega⟩ (by decide) (fun g15 => ?_) (fun g15 => ?_)
    ·
      exact z_const X rfl (N13 _ (Or.inl ⟨g15, rfl⟩))
    ·
      exact z_load_n X (x := x) rfl (List.Mem.head _) (z_bipush X rfl (z_add X rfl (z_goto X (t := 120) rfl rfl (N13 _ (Or.inr (⟨g15, rfl⟩))))))
  ·
    rw [gs]
    refine w_tabIn X.1 (dflt := 135) (lo := 0) (hi := 5) (offs := #[39, 56, 71, 89, 105, 120]) (len := 39) (off := 120) (t := 121) (ax_d X (show cdA 100 1 = some (.tableswitch 135 0 5 #[39, 56, 71, 89, 105, 120], 39, 0, 0, 0) from rfl)) (by decide) (by decide) (by decide) (by decide) (z_load_n X (x := x) rfl (List.Mem.head _) (z_bipush X rfl ?_))
    have N16 : ∀ e17 : Int, (((x < 64) ∧ e17 = (-1)) ∨ ((64 ≤ x) ∧ e17 = (x - 64))) → WS k 135 [(0, .int (Int32.ofInt x)), (1, .int (Int32.ofInt 5))] [.int (Int32.ofInt e17)] (Wd A dT s) 0 0 := by
      intro e17 he17
      exact w_iret X.1 q hRt rfl (ax_d X (show cdA 100 135 = some (.ireturn, 1, 0, 0, 0) from rfl)) (Nat.zero_le _) (Nat.zero_le _) ⟨_, rfl, rfl, e17, rfl, ⟨by first | exact oq_241d06ca he17 | omega, by first | exact oq_b2c34735 he17 p0.2 | omega⟩, by first | exact ⟨oq_91d95e88 he17, oq_444e6966 he17 p0.2⟩ | omega⟩
    refine z_icmp_lt X (t := 134) rfl rfl ⟨by first | exact oq_fa4e5087 p0.1 | omega, by first | exact oq_07d346ce p0.2 | omega⟩ (by decide) (fun g18 => ?_) (fun g18 => ?_)
    ·
      exact z_const X rfl (N16 _ (Or.inl ⟨g18, rfl⟩))
    ·
      exact z_load_n X (x := x) rfl (List.Mem.head _) (z_bipush X rfl (z_sub X rfl (z_goto X (t := 135) rfl rfl (N16 _ (Or.inr (⟨g18, rfl⟩))))))
set_option maxRecDepth 4000 in
theorem c9_goBetween (G : GX l s0 D tys a0 dT) (I : Bd s) {x y : Int} (p0 : 0 ≤ x ∧ x ≤ 127) (p1 : 0 ≤ y ∧ y ≤ 127) : CT l s0 D A dT 102 (rmN 102) [.int (Int32.ofInt x), .int (Int32.ofInt y)] s (fun o t => s = t ∧ ∃ e, o = .inl (some (.int (Int32.ofInt e))) ∧ rng e ∧ (0 ≤ e ∧ e ≤ 5)) := by
  refine ct_ofX G (by decide) (Nat.le_of_ble_eq_true rfl) (fun k X E ET hRt hXt q => ?_)
  show WS k 0 [(0, .int (Int32.ofInt x)), (1, .int (Int32.ofInt y))] [] _ 0 0
  have F : Fm [] [] s s := fm_rf _ _ s
  refine z_load_n X (x := y) rfl (List.Mem.tail _ (List.Mem.head _)) (z_load_n X (x := x) rfl (List.Mem.head _) (z_sub X rfl ?_))
  rcases (show (y - x) = (-8) ∨ (y - x) = (-1) ∨ (y - x) = 1 ∨ (y - x) = 8 ∨ (y - x) = 64 ∨ ((y - x) ≠ (-8) ∧ (y - x) ≠ (-1) ∧ (y - x) ≠ 1 ∧ (y - x) ≠ 8 ∧ (y - x) ≠ 64) by omega) with gs | gs | gs | gs | gs | gs
  ·
    rw [gs]
    refine w_lookup X.1 (dflt := 59) (ps := #[((-8), 55), ((-1), 51), (1, 49), (8, 53), (64, 57)]) (len := 49) (off := 55) (t := 58) (by rw [X.2.1.1]; decide +kernel) (by decide) (by decide) (by decide) (z_const X rfl ?_)
    exact w_iret X.1 q hRt rfl (ax_d X (show cdA 102 59 = some (.ireturn, 1, 0, 0, 0) from rfl)) (Nat.zero_le _) (Nat.zero_le _) ⟨_, rfl, rfl, 3, rfl, (by decide), by first | exact ⟨by decide, by decide⟩ | omega⟩
  ·
    rw [gs]
    refine w_lookup X.1 (dflt := 59) (ps := #[((-8), 55), ((-1), 51), (1, 49), (8, 53), (64, 57)]) (len := 49) (off := 51) (t := 54) (by rw [X.2.1.1]; decide +kernel) (by decide) (by decide) (by decide) (z_const X rfl ?_)
    exact w_iret X.1 q hRt rfl (ax_d X (show cdA 102 55 = some (.ireturn, 1, 0, 0, 0) from rfl)) (Nat.zero_le _) (Nat.zero_le _) ⟨_, rfl, rfl, 1, rfl, (by decide), by first | exact ⟨by decide, by decide⟩ | omega⟩
  ·
    rw [gs]
    refine w_lookup X.1 (dflt := 59) (ps := #[((-8), 55), ((-1), 51), (1, 49), (8, 53), (64, 57)]) (len := 49) (off := 49) (t := 52) (by rw [X.2.1.1]; decide +kernel) (by decide) (by decide) (by decide) (z_const X rfl ?_)
    exact w_iret X.1 q hRt rfl (ax_d X (show cdA 102 53 = some (.ireturn, 1, 0, 0, 0) from rfl)) (Nat.zero_le _) (Nat.zero_le _) ⟨_, rfl, rfl, 0, rfl, (by decide), by first | exact ⟨by decide, by decide⟩ | omega⟩
  ·
    rw [gs]
    refine w_lookup X.1 (dflt := 59) (ps := #[((-8), 55), ((-1), 51), (1, 49), (8, 53), (64, 57)]) (len := 49) (off := 53) (t := 56) (by rw [X.2.1.1]; decide +kernel) (by decide) (by decide) (by decide) (z_const X rfl ?_)
    exact w_iret X.1 q hRt rfl (ax_d X (show cdA 102 57 = some (.ireturn, 1, 0, 0, 0) from rfl)) (Nat.zero_le _) (Nat.zero_le _) ⟨_, rfl, rfl, 2, rfl, (by decide), by first | exact ⟨by decide, by decide⟩ | omega⟩
  ·
    rw [gs]
    refine w_lookup X.1 (dflt := 59) (ps := #[((-8), 55), ((-1), 51), (1, 49), (8, 53), (64, 57)]) (len := 49) (off := 57) (t := 60) (by rw [X.2.1.1]; decide +kernel) (by decide) (by decide) (by decide) (z_const X rfl ?_)
    exact w_iret X.1 q hRt rfl (ax_d X (show cdA 102 61 = some (.ireturn, 1, 0, 0, 0) from rfl)) (Nat.zero_le _) (Nat.zero_le _) ⟨_, rfl, rfl, 4, rfl, (by decide), by first | exact ⟨by decide, by decide⟩ | omega⟩
  ·
    refine w_lookup X.1 (dflt := 59) (ps := #[((-8), 55), ((-1), 51), (1, 49), (8, 53), (64, 57)]) (len := 49) (off := 59) (t := 62) (by rw [X.2.1.1]; decide +kernel) (by decide) (by rw [zi ⟨by first | (clear gs; omega) | omega, by first | (clear gs; omega) | omega⟩]; show Op.lookupswitch.offset [((-8), 55), ((-1), 51), (1, 49), (8, 53), (64, 57)] _ _ = _; rw [Op.lookupswitch.offset_cons, if_neg (by first | (clear gs; omega) | omega), Op.lookupswitch.offset_cons, if_neg (by first | (clear gs; omega) | omega), Op.lookupswitch.offset_cons, if_neg (by first | (clear gs; omega) | omega), Op.lookupswitch.offset_cons, if_neg (by first | (clear gs; omega) | omega), Op.lookupswitch.offset_cons, if_neg (by first | (clear gs; omega) | omega)]; rfl) (by decide) (z_const X rfl ?_)
    exact w_iret X.1 q hRt rfl (ax_d X (show cdA 102 63 = some (.ireturn, 1, 0, 0, 0) from rfl)) (Nat.zero_le _) (Nat.zero_le _) ⟨_, rfl, rfl, 5, rfl, (by decide), by first | exact ⟨by decide, by decide⟩ | omega⟩
end M71
end
section
theorem oq_c4e726c7 {a0 a1 : Int} (h0 : a0 = a1) (h1 : a1 ≤ 23) : (a0 + 1) ≤ 24 := by omega
theorem oq_63f8c182 {a0 : Int} (h0 : a0 ≠ (-1)) (h1 : a0 ≤ 127) (h2 : (-1) ≤ a0) : (0 ≤ a0 ∧ a0 ≤ 127) := by omega
theorem oq_cff692f0 {a0 a1 : Int} (h0 : a0 < a1) (h1 : a1 ≤ 7) : (a0 + 1) ≤ 7 := by omega
theorem oq_20b7067c {a0 a1 : Int} (h0 : a0 < a1) (h1 : a1 ≤ 7) : 0 < (7 - a0) := by omega
theorem oq_4407eb3c {a0 a1 a2 a3 a4 a5 : Int} (h0 : a0 = a1) (h1 : a2 = a3) (h2 : a1 = a4) (h3 : a3 = a5) (h4 : a5 ≤ a4) : a2 ≤ a0 := by omega
theorem oq_f0661bc9 {a0 : Int} (h0 : a0 ≤ 100) : a0 ≤ 2147483647 := by omega
theorem oq_16ea9949 {a0 : Int} (h0 : a0 < 100) : (a0 + 1) ≤ 100 := by omega
theorem oq_ed5c4e18 {a0 : Int} (h0 : a0 < 100) : 0 < (100 - a0) := by omega
theorem oq_b2d5d781 {a0 : Int} (h0 : a0 ≤ 14) : a0 ≤ 2147483647 := by omega
theorem oq_5903f419 {a0 a1 : Int} (h0 : 0 ≤ a0) (h1 : 0 ≤ a1) : 0 ≤ (((a0 * 7) * 2) + a1) := by omega
theorem oq_7e6b1f23 {a0 a1 : Int} (h0 : a0 ≤ 11) (h1 : a1 < 14) : (((a0 * 7) * 2) + a1) < 168 := by omega
theorem oq_99721bc4 {a0 : Int} (h0 : a0 < 14) : (a0 + 1) ≤ 14 := by omega
theorem oq_bddbca7a {a0 : Int} (h0 : a0 < 14) : 0 < (14 - a0) := by omega
theorem oq_59a253bd {a0 a1 : Int} (h0 : 0 ≤ a0) (h1 : 0 ≤ a1) : 0 ≤ ((a0 * 5) + a1) := by omega
theorem oq_7279bf48 {a0 a1 : Int} (h0 : a0 ≤ 11) (h1 : a1 < 5) : ((a0 * 5) + a1) < 60 := by omega
theorem oq_c2445583 {a0 : Int} (h0 : a0 < 5) : (a0 + 1) ≤ 5 := by omega
theorem oq_33241a94 {a0 : Int} (h0 : a0 < 5) : 0 < (5 - a0) := by omega
theorem oq_cfc6ac54 {a0 : Int} (h0 : 0 ≤ a0) : 0 ≤ (a0 * 2) := by omega
theorem oq_36c3846a {a0 : Int} (h0 : a0 ≤ 11) : (a0 * 2) < 24 := by omega
theorem oq_8a3e0277 {a0 : Int} (h0 : 0 ≤ a0) : 0 ≤ ((a0 * 2) + 1) := by omega
theorem oq_ad30b59c {a0 : Int} (h0 : a0 ≤ 11) : ((a0 * 2) + 1) < 24 := by omega
theorem oq_87ebc822 {a0 a1 a2 : Int} (h0 : a0 < 4) (h1 : a1 ≤ 127) (h2 : a2 ≤ 11) : ((a2 * 5) + (((a0 / 2) * 2) + (a1 / 64))) < 60 := by omega
theorem oq_733cd31a {a0 : Int} (h0 : 0 ≤ a0) : 0 ≤ ((a0 * 5) + 4) := by omega
theorem oq_23e13238 {a0 : Int} (h0 : a0 ≤ 11) : ((a0 * 5) + 4) < 60 := by omega
theorem oq_de70c7d8 {a0 a1 a2 : Int} (h0 : (a0 + a1) ≤ 24) (h1 : a2 < a1) : (a0 + a2) < 24 := by omega
theorem oq_ff24e3f1 {a0 a1 a2 : Int} (h0 : (a0 + a1) ≤ 24) (h1 : a2 < a1) : ((a0 + a2) : Int).toNat < 24 := by omega
theorem oq_c0bd8137 {a0 a1 : Int} (h0 : 0 ≤ a0) (h1 : 0 ≤ a1) : 0 ≤ ((a1 * 2) + (a0 / 64)) := by omega
theorem oq_c80b6473 {a0 a1 : Int} (h0 : a0 ≤ 127) (h1 : a1 ≤ 11) : ((a1 * 2) + (a0 / 64)) < 24 := by omega
theorem oq_ea32c91a {a0 a1 a2 : Int} (h0 : 0 ≤ a0) (h1 : 0 ≤ a1) (h2 : 0 ≤ a2) : 0 ≤ ((((a2 * 7) + a1) * 2) + (a0 / 64)) := by omega
theorem oq_5da8d824 {a0 a1 a2 : Int} (h0 : a0 ≤ 127) (h1 : a1 ≤ 6) (h2 : a2 ≤ 11) : ((((a2 * 7) + a1) * 2) + (a0 / 64)) < 168 := by omega
theorem oq_21f9cd09 {a0 a1 : Int} (h0 : 0 ≤ a0) (h1 : 0 ≤ a1) : 0 ≤ ((a0 + a1) + 1) := by omega
theorem oq_c07d830a {a0 a1 a2 : Int} (h0 : (a0 + a1) ≤ 24) (h1 : (a2 + 1) < a1) : ((a0 + a2) + 1) < 24 := by omega
theorem oq_136cae15 {a0 a1 a2 : Int} (h0 : (a0 + a1) ≤ 24) (h1 : (a2 + 1) < a1) : (((a0 + a2) + 1) : Int).toNat < 24 := by omega
theorem oq_03ccc143 {a0 a1 a2 : Int} (h0 : ((a0 = a1 ∧ a1 ≤ a2) ∨ (a0 = a2 ∧ a2 < a1))) (h1 : 0 ≤ a2) (h2 : 0 ≤ a1) : 0 ≤ a0 := by omega
theorem oq_9c77db17 {a0 a1 a2 : Int} (h0 : ((a0 = a1 ∧ a1 ≤ a2) ∨ (a0 = a2 ∧ a2 < a1))) (h1 : a1 ≤ 127) : a0 ≤ 127 := by omega
theorem oq_f0013a75 {a0 a1 a2 : Int} (h0 : 0 ≤ a0) (h1 : 0 ≤ a1) (h2 : 0 ≤ a2) : 0 ≤ ((((a2 * 7) + a0) * 2) + (a1 / 64)) := by omega
theorem oq_2f745b71 {a0 a1 a2 : Int} (h0 : a0 ≤ 5) (h1 : a1 ≤ 127) (h2 : a2 ≤ 11) : ((((a2 * 7) + a0) * 2) + (a1 / 64)) < 168 := by omega
theorem oq_bbeecdc2 {a0 a1 : Int} (h0 : (a0 + 1) < a1) (h1 : a1 ≤ 24) : (a0 + 1) ≤ 24 := by omega
theorem oq_261750be {a0 a1 : Int} (h0 : (a0 + 1) < a1) (h1 : a1 ≤ 24) : 0 < (24 - a0) := by omega
theorem oq_952f4f1b {a0 a1 a2 : Int} (h0 : 0 ≤ a0) (h1 : 0 ≤ a1) (h2 : 0 ≤ a2) : 0 ≤ ((((a0 * 7) + a1) * 2) + a2) := by omega
theorem oq_46bcb755 {a0 a1 a2 : Int} (h0 : a0 ≤ 11) (h1 : a1 ≤ 1) (h2 : a2 < 7) : ((((a0 * 7) + a2) * 2) + a1) < 168 := by omega
theorem oq_ff754f74 {a0 a1 : Int} (h0 : 0 ≤ a0) (h1 : 0 ≤ a1) : 0 ≤ ((a0 * 2) + a1) := by omega
theorem oq_7b14761e {a0 a1 : Int} (h0 : a0 ≤ 11) (h1 : a1 ≤ 1) : ((a0 * 2) + a1) < 24 := by omega
theorem oq_0f03f1de {a0 a1 : Int} (h0 : 0 ≤ a0) (h1 : 0 ≤ a1) : 0 ≤ ((a0 * 12) + a1) := by omega
theorem oq_46995298 {a0 a1 a2 : Int} (h0 : a0 ≤ 11) (h1 : a1 < a2) (h2 : a2 ≤ 12) : ((a0 * 12) + a1) ≤ 143 := by omega
theorem oq_19cf0865 {a0 a1 : Int} (h0 : 0 ≤ a0) (h1 : 0 ≤ a1) : (-2147483648) ≤ ((a0 * 12) + a1) := by omega
theorem oq_b7b88ba9 {a0 a1 : Int} (h0 : a0 ≤ 11) (h1 : a1 ≤ 12) : ((a0 * 12) + a1) ≤ 2147483647 := by omega
theorem oq_0ba3fcc8 {a0 a1 : Int} (h0 : a0 = a1) (h1 : a1 < 66) : (a0 * 2) < 132 := by omega
theorem oq_1191648c {a0 a1 a2 : Int} (h0 : a0 = a1) (h1 : a1 = a2) (h2 : a2 < 66) : ((a0 * 2) + 1) < 132 := by omega
theorem oq_98f08201 {a0 a1 a2 a3 : Int} (h0 : a0 = a1) (h1 : a1 = a2) (h2 : a2 = a3) (h3 : a3 < 66) : (a0 + 1) ≤ 66 := by omega
theorem oq_d99c2177 {a0 : Int} (h0 : a0 ≤ 66) : (a0 + 1) ≤ 2147483647 := by omega
theorem oq_f2e7d959 {a0 a1 a2 : Int} (h0 : (a0 + a1) ≤ 288) (h1 : a2 < a1) : (a0 + a2) < 288 := by omega
theorem oq_9482db17 {a0 a1 a2 : Int} (h0 : (a0 + a1) ≤ 288) (h1 : a2 < a1) : ((a0 + a2) : Int).toNat < 288 := by omega
theorem oq_cc679ab7 {a0 a1 a2 : Int} (h0 : (a0 + a1) ≤ 288) (h1 : (a2 + 1) < a1) : ((a0 + a2) + 1) < 288 := by omega
theorem oq_11b18baf {a0 a1 a2 : Int} (h0 : (a0 + a1) ≤ 288) (h1 : (a2 + 1) < a1) : (((a0 + a2) + 1) : Int).toNat < 288 := by omega
theorem oq_a1a2e1c8 {a0 : Int} (h0 : a0 < 12) : a0 ≤ 11 := by omega
theorem oq_4854286b {a0 : Int} (h0 : a0 ≤ 24) : (0 + a0) ≤ 24 := by omega
theorem oq_3bc6d8e6 {a0 a1 : Int} (h0 : a0 = a1) (h1 : a1 < 12) : (a0 + 1) ≤ 12 := by omega
theorem oq_64f2e926 {a0 : Int} (h0 : a0 ≤ 66) : a0 ≤ 2147483647 := by omega
theorem oq_9ab75a0e {a0 a1 a2 : Int} (h0 : a0 ≤ 1) (h1 : a1 < a2) (h2 : a2 ≤ 66) : ((a1 * 2) + a0) < 132 := by omega
theorem oq_319a18a4 {a0 a1 : Int} (h0 : a0 < a1) (h1 : a1 ≤ 66) : (a0 + 1) ≤ 66 := by omega
theorem oq_dd0e9829 {a0 a1 : Int} (h0 : a0 < a1) (h1 : a1 ≤ 66) : 0 < (66 - a0) := by omega
theorem oq_2f662a89 {a0 a1 a2 a3 : Int} (h0 : ((a0 < 0 ∧ a1 = (-1)) ∨ ((0 ≤ a0 ∧ ((0 ≤ a2 ∧ a2 ≤ 24) ∧ (a2 ≤ a0 ∧ a1 = (-1)))) ∨ (0 ≤ a0 ∧ ((0 ≤ a2 ∧ a2 ≤ 24) ∧ (a0 < a2 ∧ ((0 ≤ a3 ∧ a3 ≤ 127) ∧ a1 = a3))))))) : (-2147483648) ≤ a1 := by omega
theorem oq_e7a50a6f {a0 a1 a2 a3 : Int} (h0 : ((a0 < 0 ∧ a1 = (-1)) ∨ ((0 ≤ a0 ∧ ((0 ≤ a2 ∧ a2 ≤ 24) ∧ (a2 ≤ a0 ∧ a1 = (-1)))) ∨ (0 ≤ a0 ∧ ((0 ≤ a2 ∧ a2 ≤ 24) ∧ (a0 < a2 ∧ ((0 ≤ a3 ∧ a3 ≤ 127) ∧ a1 = a3))))))) : a1 ≤ 2147483647 := by omega
theorem oq_c5daf206 {a0 a1 a2 a3 : Int} (h0 : ((a0 < 0 ∧ a1 = (-1)) ∨ ((0 ≤ a0 ∧ ((0 ≤ a2 ∧ a2 ≤ 24) ∧ (a2 ≤ a0 ∧ a1 = (-1)))) ∨ (0 ≤ a0 ∧ ((0 ≤ a2 ∧ a2 ≤ 24) ∧ (a0 < a2 ∧ ((0 ≤ a3 ∧ a3 ≤ 127) ∧ a1 = a3))))))) : (-1) ≤ a1 := by omega
theorem oq_1c80a01a {a0 a1 a2 a3 : Int} (h0 : ((a0 < 0 ∧ a1 = (-1)) ∨ ((0 ≤ a0 ∧ ((0 ≤ a2 ∧ a2 ≤ 24) ∧ (a2 ≤ a0 ∧ a1 = (-1)))) ∨ (0 ≤ a0 ∧ ((0 ≤ a2 ∧ a2 ≤ 24) ∧ (a0 < a2 ∧ ((0 ≤ a3 ∧ a3 ≤ 127) ∧ a1 = a3))))))) : a1 ≤ 127 := by omega
theorem oq_4071a75f {a0 a1 : Int} (h0 : 0 ≤ a0) (h1 : 0 ≤ a1) : 0 ≤ ((a0 * 24) + a1) := by omega
theorem oq_54efb6a2 {a0 a1 a2 : Int} (h0 : a0 ≤ 11) (h1 : a1 < a2) (h2 : a2 ≤ 24) : ((a0 * 24) + a1) < 288 := by omega
theorem oq_2f719579 {a0 a1 a2 : Int} (h0 : a0 ≤ 11) (h1 : a1 < a2) (h2 : a2 ≤ 24) : (((a0 * 24) + a1) : Int).toNat < 288 := by omega
theorem oq_68756d7a {a0 : Int} (h0 : (-30) ≤ a0) : (-2147483648) ≤ a0 := by omega
theorem oq_df38adfb {a0 a1 a2 : Int} (h0 : a0 ≤ 11) (h1 : a1 ≤ a2) (h2 : a2 ≤ 23) : ((a0 * 24) + a1) < 288 := by omega
theorem oq_bba4069f {a0 a1 a2 : Int} (h0 : a0 ≤ 11) (h1 : a1 ≤ a2) (h2 : a2 ≤ 23) : (((a0 * 24) + a1) : Int).toNat < 288 := by omega
theorem oq_a302a59b {a0 a1 a2 : Int} (h0 : ((a0 = a1 ∧ a2 ≤ a1) ∨ (a0 = a2 ∧ a1 < a2))) (h1 : a2 ≤ 50) (h2 : a1 ≤ 50) (h3 : 0 ≤ a1) : (0 ≤ a0 ∧ a0 ≤ 50) := by omega
theorem oq_daade761 {a0 a1 : Int} (h0 : 0 ≤ a0) (h1 : a1 ≤ 2) : (-2147483648) ≤ (a0 - a1) := by omega
theorem oq_941e6dcc {a0 a1 : Int} (h0 : a0 ≤ 23) (h1 : 0 ≤ a1) : (a0 - a1) ≤ 2147483647 := by omega
theorem oq_15ca313a {a0 a1 a2 : Int} (h0 : ((a0 = 23 ∧ 23 ≤ (a1 + a2)) ∨ (a0 = (a1 + a2) ∧ (a1 + a2) < 23))) (h1 : 0 ≤ a2) (h2 : 0 ≤ a1) : ((-30) ≤ a0 ∧ a0 ≤ 23) := by omega
theorem oq_b74587d4 {a0 a1 a2 : Int} (h0 : ((a0 = 0 ∧ (a1 - a2) ≤ 0) ∨ (a0 = (a1 - a2) ∧ 0 < (a1 - a2)))) : 0 ≤ a0 := by omega
theorem oq_f627406d {a0 a1 a2 : Int} (h0 : ((a0 = 0 ∧ (a1 - a2) ≤ 0) ∨ (a0 = (a1 - a2) ∧ 0 < (a1 - a2)))) (h1 : 0 ≤ a2) (h2 : a1 ≤ 23) : a0 ≤ 24 := by omega
theorem oq_45988efc {a0 a1 a2 : Int} (h0 : a0 ≤ 23) (h1 : a1 < a2) (h2 : a2 ≤ 12) : ((a0 * 12) + a1) < 288 := by omega
theorem oq_8395bb7c {a0 a1 a2 : Int} (h0 : a0 ≤ 23) (h1 : a1 < a2) (h2 : a2 ≤ 12) : (((a0 * 12) + a1) : Int).toNat < 288 := by omega
theorem oq_1d1618ee {a0 a1 : Int} (h0 : 0 ≤ a0) (h1 : 0 ≤ a1) : 0 ≤ ((a1 * 12) + a0) := by omega
theorem oq_86e8e22d {a0 a1 : Int} (h0 : a0 ≤ 11) (h1 : a1 < 24) : ((a0 * 24) + a1) < 288 := by omega
theorem oq_7d86e3d4 {a0 a1 : Int} (h0 : a0 ≤ 11) (h1 : a1 < 24) : (((a0 * 24) + a1) : Int).toNat < 288 := by omega
theorem oq_46831602 {a0 a1 : Int} (h0 : 0 ≤ a0) (h1 : 0 ≤ a1) : (-2147483648) ≤ (a1 + a0) := by omega
theorem oq_9e0d5d26 {a0 a1 : Int} (h0 : a0 ≤ 50) (h1 : a1 ≤ 1200) : (a1 + a0) ≤ 2147483647 := by omega
theorem oq_b519fb4a {a0 a1 a2 a3 a4 a5 : Int} (h0 : a0 = a1) (h1 : a1 = a2) (h2 : a2 = a3) (h3 : a4 ≤ 50) (h4 : a5 < 24) (h5 : a3 ≤ (50 * a5)) : (a0 + a4) ≤ 1200 := by omega
theorem oq_b1573aec {a0 a1 a2 a3 a4 a5 a6 : Int} (h0 : a0 = (a1 + a2)) (h1 : a1 = a3) (h2 : a3 = a4) (h3 : a4 = a5) (h4 : a2 ≤ 50) (h5 : a5 ≤ (50 * a6)) : a0 ≤ (50 * (a6 + 1)) := by omega
theorem oq_b7d23363 {a0 a1 : Int} (h0 : a0 = a1) (h1 : a1 = 0) : a0 ≤ (50 * 0) := by omega
theorem oq_d4917756 {a0 : Int} (h0 : a0 = 0) : a0 ≤ (50 * 0) := by omega
theorem oq_2fca5ea6 {a0 : Int} (h0 : a0 ≤ 23) : a0 ≤ 24 := by omega
theorem oq_1c973021 {a0 a1 a2 : Int} (h0 : 0 ≤ a0) (h1 : a1 ≤ a2) (h2 : 0 ≤ a1) : 0 ≤ ((a0 * 24) + a2) := by omega
theorem oq_403249cf {a0 a1 : Int} (h0 : a0 ≤ a1) (h1 : a1 ≤ 24) : a0 ≤ 2147483647 := by omega
theorem oq_1253191b {a0 a1 a2 a3 a4 : Int} (h0 : ((a0 = a1 ∧ a1 ≤ a2) ∨ (a0 = a2 ∧ a2 < a1))) (h1 : 0 < a2) (h2 : a3 < a4) (h3 : a4 ≤ 24) (h4 : a2 ≤ a3) (h5 : a1 ≤ 24) (h6 : 0 ≤ a1) : (0 ≤ a0 ∧ a0 ≤ 24) := by omega
theorem oq_1b58957a {a0 a1 : Int} (h0 : a0 ≤ a1) (h1 : 0 < a0) : 0 ≤ (a1 + 1) := by omega
theorem oq_86d733fe {a0 a1 a2 : Int} (h0 : ((a0 = a1 ∧ a1 ≤ a2) ∨ (a0 = a2 ∧ a2 < a1))) (h1 : 0 < a2) (h2 : 0 ≤ a1) : (-2147483648) ≤ a0 := by omega
theorem oq_28aa47c9 {a0 a1 a2 : Int} (h0 : ((a0 = a1 ∧ a1 ≤ a2) ∨ (a0 = a2 ∧ a2 < a1))) (h1 : a1 ≤ 24) : a0 ≤ 2147483647 := by omega
theorem oq_d21c86c8 {a0 a1 a2 : Int} (h0 : ((a0 = a1 ∧ a1 ≤ a2) ∨ (a0 = a2 ∧ a2 < a1))) (h1 : 0 < a2) (h2 : 0 ≤ a1) : 0 ≤ a0 := by omega
theorem oq_6d24c36f {a0 a1 a2 : Int} (h0 : ((a0 = a1 ∧ a1 ≤ a2) ∨ (a0 = a2 ∧ a2 < a1))) (h1 : a1 ≤ 24) : a0 ≤ 24 := by omega
/-! The class: streams -/
section M72
variable {l : Launch} {s0 : State} {D : va_G} {tys : List (ClassId × FieldType)} {a0 : Array Value} {A : Nat → Nat} {dT : Nat → ClassId} {s : PS}
set_option maxRecDepth 4000 in
theorem c9_wipe_68 (G : GX l s0 D tys a0 dT) (I : Bd s) {x : Int} (p0 : 0 ≤ x ∧ x ≤ 11) : CT l s0 D A dT 108 (rmN 108) [.ref (A 68), .int (Int32.ofInt x)] s (fun o t => Bd t ∧ Fm [] [1059, 1060, 1061] s t ∧ o = .inl none ∧ (True)) := by
  refine ct_ofX G (by decide) (Nat.le_of_ble_eq_true rfl) (fun k X E ET hRt hXt q => ?_)
  show WS k 0 [(0, .ref (A 68)), (1, .int (Int32.ofInt x))] [] _ 0 0
  have F : Fm [] [1059, 1060, 1061] s s := fm_rf _ _ s
  have L22 : ∀ (n : Nat) (t : PS) (xv c : Int), Bd t → Fm [] [1059, 1060, 1061] s t → ((0 ≤ xv ∧ xv ≤ 11) ∧ 0 ≤ c ∧ c ≤ 14) → (14 - c : Int).toNat < n → (∀ (t' : PS) (c' : Int), Bd t' → Fm [] [1059, 1060, 1061] s t' → ((0 ≤ xv ∧ xv ≤ 11) ∧ 0 ≤ c' ∧ c' ≤ 14) → WS k 48 [(0, .ref (A 68)), (1, .int (Int32.ofInt xv)), (2, .int (Int32.ofInt c'))] [] (Wd A dT t') 0 0) → WS k 22 [(0, .ref (A 68)), (1, .int (Int32.ofInt xv)), (2, .int (Int32.ofInt c))] [] (Wd A dT t) 0 0 := by
    intro n
    induction n with
    | zero =>
      intro t xv c I F hi hm kx
      exact absurd hm (Nat.not_lt_zero _)
    | succ n ih =>
      intro t xv c I F hi hm kx
      refine z_load_n X (x := c) rfl (List.Mem.tail _ (List.Mem.tail _ (List.Mem.head _))) (z_bipush X rfl (z_icmp_ge X (t := 48) rfl rfl ⟨by first | exact oq_fa4e5087 hi.2.1 | omega, by first | exact oq_b2d5d781 hi.2.2 | omega⟩ (by decide) (fun g1001 => ?_) (fun g1001 => ?_)))
      ·
        refine WS_pq [0, 1, 2] (lv' := [(0, .ref (A 68)), (1, .int (Int32.ofInt xv)), (2, .int (Int32.ofInt c))]) rfl ?_
        exact kx _ c I F (by first | exact ⟨And.intro (hi.1.1) (hi.1.2), hi.2.1, hi.2.2⟩ | omega)
      ·
        refine z_aload_n X (x := A 68) rfl (List.Mem.head _) (s_getR X 68 rfl (c518_ok rfl) rfl rfl (z_load_n X (x := xv) rfl (List.Mem.tail _ (List.Mem.head _)) (z_bipush X rfl (z_mul X rfl (z_const X rfl (z_mul X rfl (z_load_n X (x := c) rfl (List.Mem.tail _ (List.Mem.tail _ (List.Mem.head _))) (z_add X rfl (w_lconst X.1 (ax_d X (show cdA 108 40 = some (.lconst 0, 1, 0, 0, 0) from rfl)) rfl (z_anyJ (fun j1002 => ?_)))))))))))
        refine z_last X 72 rfl (c518_ok rfl) rfl (by first | exact oq_5903f419 hi.1.1 hi.2.1 | omega) (show (((xv * 7) * 2) + c) < 168 by first | exact oq_7e6b1f23 hi.1.2 g1001 | omega) (cbig_ok rfl) (wd_gen (fun s1003 hs1003 => ?_))
        have Is1003 : Bd s1003 := eqB hs1003 (bd_D I)
        have Fs1003 : Fm [] [1059, 1060, 1061] s s1003 := by rw [hs1003]; exact fm_D F (show 60 + 1000 ∈ _ by decide)
        refine z_inc X (x := c) (lv' := [(2, .int (Int32.ofInt (c + 1))), (0, .ref (A 68)), (1, .int (Int32.ofInt xv))]) rfl (by decide) (List.Mem.tail _ (List.Mem.tail _ (List.Mem.head _))) (fun _ h => h) (z_goto X (t := 22) rfl rfl (WS_pq [1, 2, 0] (lv' := [(0, .ref (A 68)), (1, .int (Int32.ofInt xv)), (2, .int (Int32.ofInt (c + 1)))]) rfl ?_))
        exact ih _ xv (c + 1) Is1003 Fs1003 (by first | exact ⟨And.intro (hi.1.1) (hi.1.2), oq_54f49eb5 hi.2.1, oq_99721bc4 g1001⟩ | omega) (by first | exact qk_me hm (by decide) (oq_bddbca7a g1001) | omega) kx
  have L50 : ∀ (n : Nat) (t : PS) (xv c : Int), Bd t → Fm [] [1059, 1060, 1061] s t → ((0 ≤ xv ∧ xv ≤ 11) ∧ 0 ≤ c ∧ c ≤ 5) → (5 - c : Int).toNat < n → (∀ (t' : PS) (c' : Int), Bd t' → Fm [] [1059, 1060, 1061] s t' → ((0 ≤ xv ∧ xv ≤ 11) ∧ 0 ≤ c' ∧ c' ≤ 5) → WS k 72 [(0, .ref (A 68)), (1, .int (Int32.ofInt xv)), (2, .int (Int32.ofInt c'))] [] (Wd A dT t') 0 0) → WS k 50 [(0, .ref (A 68)), (1, .int (Int32.ofInt xv)), (2, .int (Int32.ofInt c))] [] (Wd A dT t) 0 0 := by
    intro n
    induction n with
    | zero =>
      intro t xv c I F hi hm kx
      exact absurd hm (Nat.not_lt_zero _)
    | succ n ih =>
      intro t xv c I F hi hm kx
      refine z_load_n X (x := c) rfl (List.Mem.tail _ (List.Mem.tail _ (List.Mem.head _))) (z_const X rfl (z_icmp_ge X (t := 72) rfl rfl ⟨by first | exact oq_fa4e5087 hi.2.1 | omega, by first | exact oq_a3dd55e5 hi.2.2 | omega⟩ (by decide) (fun g2001 => ?_) (fun g2001 => ?_)))
      ·
        refine WS_pq [0, 1, 2] (lv' := [(0, .ref (A 68)), (1, .int (Int32.ofInt xv)), (2, .int (Int32.ofInt c))]) rfl ?_
        exact kx _ c I F (by first | exact ⟨And.intro (hi.1.1) (hi.1.2), hi.2.1, hi.2.2⟩ | omega)
      ·
        refine z_aload_n X (x := A 68) rfl (List.Mem.head _) (s_getR X 68 rfl (c518_ok rfl) rfl rfl (z_load_n X (x := xv) rfl (List.Mem.tail _ (List.Mem.head _)) (z_const X rfl (z_mul X rfl (z_load_n X (x := c) rfl (List.Mem.tail _ (List.Mem.tail _ (List.Mem.head _))) (z_add X rfl (w_lconst X.1 (ax_d X (show cdA 108 64 = some (.lconst 0, 1, 0, 0, 0) from rfl)) rfl (z_anyJ (fun j2002 => ?_)))))))))
        refine z_last X 73 rfl (c518_ok rfl) rfl (by first | exact oq_59a253bd hi.1.1 hi.2.1 | omega) (show ((xv * 5) + c) < 60 by first | exact oq_7279bf48 hi.1.2 g2001 | omega) (cbig_ok rfl) (wd_gen (fun s2003 hs2003 => ?_))
        have Is2003 : Bd s2003 := eqB hs2003 (bd_D I)
        have Fs2003 : Fm [] [1059, 1060, 1061] s s2003 := by rw [hs2003]; exact fm_D F (show 61 + 1000 ∈ _ by decide)
        refine z_inc X (x := c) (lv' := [(2, .int (Int32.ofInt (c + 1))), (0, .ref (A 68)), (1, .int (Int32.ofInt xv))]) rfl (by decide) (List.Mem.tail _ (List.Mem.tail _ (List.Mem.head _))) (fun _ h => h) (z_goto X (t := 50) rfl rfl (WS_pq [1, 2, 0] (lv' := [(0, .ref (A 68)), (1, .int (Int32.ofInt xv)), (2, .int (Int32.ofInt (c + 1)))]) rfl ?_))
        exact ih _ xv (c + 1) Is2003 Fs2003 (by first | exact ⟨And.intro (hi.1.1) (hi.1.2), oq_54f49eb5 hi.2.1, oq_c2445583 g2001⟩ | omega) (by first | exact qk_me hm (by decide) (oq_33241a94 g2001) | omega) kx
  refine z_aload_n X (x := A 68) rfl (List.Mem.head _) (s_getR X 68 rfl (c518_ok rfl) rfl rfl (z_load_n X (x := x) rfl (List.Mem.tail _ (List.Mem.head _)) (z_const X rfl (z_mul X rfl (w_lconst X.1 (ax_d X (show cdA 108 7 = some (.lconst 0, 1, 0, 0, 0) from rfl)) rfl (z_anyJ (fun j1 => ?_)))))))
  refine z_last X 71 rfl (c518_ok rfl) rfl (by first | exact oq_cfc6ac54 p0.1 | omega) (show (x * 2) < 24 by first | exact oq_36c3846a p0.2 | omega) (cbig_ok rfl) (wd_gen (fun s2 hs2 => ?_))
  have Is2 : Bd s2 := eqB hs2 (bd_D I)
  have Fs2 : Fm [] [1059, 1060, 1061] s s2 := by rw [hs2]; exact fm_D F (show 59 + 1000 ∈ _ by decide)
  refine z_aload_n X (x := A 68) rfl (List.Mem.head _) (s_getR X 68 rfl (c518_ok rfl) rfl rfl (z_load_n X (x := x) rfl (List.Mem.tail _ (List.Mem.head _)) (z_const X rfl (z_mul X rfl (z_const X rfl (z_add X rfl (w_lconst X.1 (ax_d X (show cdA 108 18 = some (.lconst 0, 1, 0, 0, 0) from rfl)) rfl (z_anyJ (fun j3 => ?_)))))))))
  refine z_last X 71 rfl (c518_ok rfl) rfl (by first | exact oq_8a3e0277 p0.1 | omega) (show ((x * 2) + 1) < 24 by first | exact oq_ad30b59c p0.2 | omega) (cbig_ok rfl) (wd_gen (fun s4 hs4 => ?_))
  have Is4 : Bd s4 := eqB hs4 (bd_D Is2)
  have Fs4 : Fm [] [1059, 1060, 1061] s s4 := by rw [hs4]; exact fm_D Fs2 (show 59 + 1000 ∈ _ by decide)
  refine z_const X rfl (z_store_n X (lv' := [(2, .int (Int32.ofInt 0)), (0, .ref (A 68)), (1, .int (Int32.ofInt x))]) rfl (by decide) (fun _ h => h) (WS_pq [1, 2, 0] (lv' := [(0, .ref (A 68)), (1, .int (Int32.ofInt x)), (2, .int (Int32.ofInt 0))]) rfl (L22 ((14 - 0 : Int).toNat + 1) s4 x 0 Is4 Fs4 (by first | exact ⟨And.intro (p0.1) (p0.2), by decide, by decide⟩ | omega) (Nat.lt_succ_self _) ?_)))
  intro s5 x6 Is5 Fs5 hs5
  refine z_const X rfl (z_store_n X (lv' := [(2, .int (Int32.ofInt 0)), (0, .ref (A 68)), (1, .int (Int32.ofInt x))]) rfl (by decide) (fun _ h => h) (WS_pq [1, 2, 0] (lv' := [(0, .ref (A 68)), (1, .int (Int32.ofInt x)), (2, .int (Int32.ofInt 0))]) rfl (L50 ((5 - 0 : Int).toNat + 1) s5 x 0 Is5 Fs5 (by first | exact ⟨And.intro (hs5.1.1) (hs5.1.2), by decide, by decide⟩ | omega) (Nat.lt_succ_self _) ?_)))
  intro s7 x8 Is7 Fs7 hs7
  exact w_vret X.1 q hRt (ax_d X (show cdA 108 72 = some (.return_, 1, 0, 0, 0) from rfl)) (Nat.zero_le _) (Nat.zero_le _) ⟨_, rfl, Is7, Fs7, rfl, trivial⟩
set_option maxRecDepth 4000 in
theorem c9_setStep_68 (G : GX l s0 D tys a0 dT) (I : Bd s) {x y z : Int} (p0 : 0 ≤ x ∧ x ≤ 11) (p1 : 0 ≤ y ∧ y ≤ 127) (p2 : 0 ≤ z ∧ z ≤ 5) : CT l s0 D A dT 109 (rmN 109) [.ref (A 68), .int (Int32.ofInt x), .int (Int32.ofInt y), .int (Int32.ofInt z)] s (fun o t => Bd t ∧ Fm [] [1061] s t ∧ o = .inl none ∧ (True)) := by
  refine ct_ofX G (by decide) (Nat.le_of_ble_eq_true rfl) (fun k X E ET hRt hXt q => ?_)
  show WS k 0 [(0, .ref (A 68)), (1, .int (Int32.ofInt x)), (2, .int (Int32.ofInt y)), (3, .int (Int32.ofInt z))] [] _ 0 0
  have F : Fm [] [1061] s s := fm_rf _ _ s
  refine z_load_n X (x := z) rfl (List.Mem.tail _ (List.Mem.tail _ (List.Mem.tail _ (List.Mem.head _)))) (z_const X rfl (z_icmp_lt X (t := 9) rfl rfl ⟨by first | exact oq_fa4e5087 p2.1 | omega, by first | exact oq_a3dd55e5 p2.2 | omega⟩ (by decide) (fun g1 => ?_) (fun g1 => ?_)))
  ·
    refine z_load_n X (x := z) rfl (List.Mem.tail _ (List.Mem.tail _ (List.Mem.tail _ (List.Mem.head _)))) (z_const X rfl (z_quot X rfl (by first | exact p2.1 | omega) ⟨by first | exact oq_fa4e5087 p2.1 | omega, by first | exact oq_f46e1d28 g1 | omega⟩ (by decide) (by decide) (z_const X rfl (z_mul X rfl (z_load_n X (x := y) rfl (List.Mem.tail _ (List.Mem.tail _ (List.Mem.head _))) (z_bipush X rfl (z_quot X rfl (by first | exact p1.1 | omega) ⟨by first | exact oq_fa4e5087 p1.1 | omega, by first | exact oq_07d346ce p1.2 | omega⟩ (by decide) (by decide) (z_add X rfl (z_store X (lv' := [(4, .int (Int32.ofInt (((z / 2) * 2) + (y / 64)))), (0, .ref (A 68)), (1, .int (Int32.ofInt x)), (2, .int (Int32.ofInt y)), (3, .int (Int32.ofInt z))]) rfl (by decide) (fun _ h => h) (z_aload_n X (x := A 68) rfl (List.Mem.tail _ (List.Mem.head _)) (s_getR X 68 rfl (c518_ok rfl) rfl rfl ?_)))))))))))
    refine z_load_n X (x := x) rfl (List.Mem.tail _ (List.Mem.tail _ (List.Mem.head _))) (z_const X rfl (z_mul X rfl (z_load X (x := (((z / 2) * 2) + (y / 64))) rfl (List.Mem.head _) (z_add X rfl (w_dup2_11 X.1 (ax_d X (show cdA 109 31 = some (.dup2, 1, 0, 0, 0) from rfl)) rfl rfl (z_lald X 73 rfl (c518_ok rfl) rfl (by omega) (show ((x * 5) + (((z / 2) * 2) + (y / 64))) < 60 by first | exact oq_87ebc822 g1 p1.2 p0.2 | omega) (cbig_ok rfl) (fun j2 => ?_)))))))
    refine w_lconst X.1 (ax_d X (show cdA 109 33 = some (.lconst 1, 1, 0, 0, 0) from rfl)) rfl (z_anyJ (fun j3 => ?_))
    refine z_load_n X (x := y) rfl (List.Mem.tail _ (List.Mem.tail _ (List.Mem.tail _ (List.Mem.head _)))) (z_bipush X rfl (z_andm X rfl (by decide) (by decide) (fun y4 hy4 gy4 => ?_)))
    refine w_lshl X.1 (ax_d X (show cdA 109 38 = some (.lshl, 1, 0, 0, 0) from rfl)) (z_anyJ (fun j5 => ?_))
    refine w_lor X.1 (ax_d X (show cdA 109 39 = some (.lor, 1, 0, 0, 0) from rfl)) (z_anyJ (fun j6 => ?_))
    refine z_last X 73 rfl (c518_ok rfl) rfl (by omega) (show ((x * 5) + (((z / 2) * 2) + (y / 64))) < 60 by first | exact oq_87ebc822 g1 p1.2 p0.2 | omega) (cbig_ok rfl) (wd_gen (fun s7 hs7 => ?_))
    have Is7 : Bd s7 := eqB hs7 (bd_D I)
    have Fs7 : Fm [] [1061] s s7 := by rw [hs7]; exact fm_D F (show 61 + 1000 ∈ _ by decide)
    exact w_vret X.1 q hRt (ax_d X (show cdA 109 41 = some (.return_, 1, 0, 0, 0) from rfl)) (Nat.zero_le _) (Nat.zero_le _) ⟨_, rfl, Is7, Fs7, rfl, trivial⟩
  ·
    refine z_const X rfl (z_goto X (t := 19) rfl rfl (z_store X (lv' := [(4, .int (Int32.ofInt 4)), (0, .ref (A 68)), (1, .int (Int32.ofInt x)), (2, .int (Int32.ofInt y)), (3, .int (Int32.ofInt z))]) rfl (by decide) (fun _ h => h) (z_aload_n X (x := A 68) rfl (List.Mem.tail _ (List.Mem.head _)) (s_getR X 68 rfl (c518_ok rfl) rfl rfl (z_load_n X (x := x) rfl (List.Mem.tail _ (List.Mem.tail _ (List.Mem.head _))) (z_const X rfl (z_mul X rfl (z_load X (x := 4) rfl (List.Mem.head _) (z_add X rfl (w_dup2_11 X.1 (ax_d X (show cdA 109 31 = some (.dup2, 1, 0, 0, 0) from rfl)) rfl rfl (z_lald X 73 rfl (c518_ok rfl) rfl (by first | exact oq_733cd31a p0.1 | omega) (show ((x * 5) + 4) < 60 by first | exact oq_23e13238 p0.2 | omega) (cbig_ok rfl) (fun j8 => ?_))))))))))))
    refine w_lconst X.1 (ax_d X (show cdA 109 33 = some (.lconst 1, 1, 0, 0, 0) from rfl)) rfl (z_anyJ (fun j9 => ?_))
    refine z_load_n X (x := y) rfl (List.Mem.tail _ (List.Mem.tail _ (List.Mem.tail _ (List.Mem.head _)))) (z_bipush X rfl (z_andm X rfl (by decide) (by decide) (fun y10 hy10 gy10 => ?_)))
    refine w_lshl X.1 (ax_d X (show cdA 109 38 = some (.lshl, 1, 0, 0, 0) from rfl)) (z_anyJ (fun j11 => ?_))
    refine w_lor X.1 (ax_d X (show cdA 109 39 = some (.lor, 1, 0, 0, 0) from rfl)) (z_anyJ (fun j12 => ?_))
    refine z_last X 73 rfl (c518_ok rfl) rfl (by first | exact oq_733cd31a p0.1 | omega) (show ((x * 5) + 4) < 60 by first | exact oq_23e13238 p0.2 | omega) (cbig_ok rfl) (wd_gen (fun s13 hs13 => ?_))
    have Is13 : Bd s13 := eqB hs13 (bd_D I)
    have Fs13 : Fm [] [1061] s s13 := by rw [hs13]; exact fm_D F (show 61 + 1000 ∈ _ by decide)
    exact w_vret X.1 q hRt (ax_d X (show cdA 109 41 = some (.return_, 1, 0, 0, 0) from rfl)) (Nat.zero_le _) (Nat.zero_le _) ⟨_, rfl, Is13, Fs13, rfl, trivial⟩
set_option maxRecDepth 4000 in
theorem c9_setWay_68_4 (G : GX l s0 D tys a0 dT) (I : Bd s) {x z w : Int} (p0 : 0 ≤ x ∧ x ≤ 11) (p1 : 0 ≤ w ∧ w ≤ 24) (p2 : 0 ≤ z ∧ z + w ≤ 288) : CT l s0 D A dT 107 (rmN 107) [.ref (A 68), .int (Int32.ofInt x), .ref (A 4), .int (Int32.ofInt z), .int (Int32.ofInt w)] s (fun o t => Bd t ∧ Fm [] [57, 58, 1059, 1060, 1061] s t ∧ o = .inl none ∧ (True)) := by
  refine ct_ofX G (by decide) (Nat.le_of_ble_eq_true rfl) (fun k X E ET hRt hXt q => ?_)
  show WS k 0 [(0, .ref (A 68)), (1, .int (Int32.ofInt x)), (2, .ref (A 4)), (3, .int (Int32.ofInt z)), (4, .int (Int32.ofInt w))] [] _ 0 0
  have F : Fm [] [57, 58, 1059, 1060, 1061] s s := fm_rf _ _ s
  have L35 : ∀ (n : Nat) (t : PS) (xv zv wv go c : Int), Bd t → Fm [] [57, 58, 1059, 1060, 1061] s t → ((0 ≤ xv ∧ xv ≤ 11) ∧ (0 ≤ wv ∧ wv ≤ 24) ∧ (0 ≤ zv ∧ zv + wv ≤ 288) ∧ (0 ≤ go ∧ go ≤ 6) ∧ 0 ≤ c ∧ c ≤ 24) → (24 - c : Int).toNat < n → (∀ (t' : PS) (go' c' : Int), Bd t' → Fm [] [57, 58, 1059, 1060, 1061] s t' → ((0 ≤ xv ∧ xv ≤ 11) ∧ (0 ≤ wv ∧ wv ≤ 24) ∧ (0 ≤ zv ∧ zv + wv ≤ 288) ∧ (0 ≤ go' ∧ go' ≤ 6) ∧ 0 ≤ c' ∧ c' ≤ 24) → WS k 153 [(0, .ref (A 68)), (2, .ref (A 4)), (1, .int (Int32.ofInt xv)), (3, .int (Int32.ofInt zv)), (4, .int (Int32.ofInt wv)), (5, .int (Int32.ofInt go')), (6, .int (Int32.ofInt c'))] [] (Wd A dT t') 0 0) → WS k 35 [(0, .ref (A 68)), (2, .ref (A 4)), (1, .int (Int32.ofInt xv)), (3, .int (Int32.ofInt zv)), (4, .int (Int32.ofInt wv)), (5, .int (Int32.ofInt go)), (6, .int (Int32.ofInt c))] [] (Wd A dT t) 0 0 := by
    intro n
    induction n with
    | zero =>
      intro t xv zv wv go c I F hi hm kx
      exact absurd hm (Nat.not_lt_zero _)
    | succ n ih =>
      intro t xv zv wv go c I F hi hm kx
      refine z_load X (x := c) rfl (List.Mem.tail _ (List.Mem.tail _ (List.Mem.tail _ (List.Mem.tail _ (List.Mem.tail _ (List.Mem.tail _ (List.Mem.head _))))))) (z_load X (x := wv) rfl (List.Mem.tail _ (List.Mem.tail _ (List.Mem.tail _ (List.Mem.tail _ (List.Mem.head _))))) (z_icmp_ge X (t := 153) rfl rfl ⟨by first | exact oq_fa4e5087 hi.2.2.2.2.1 | omega, by first | exact oq_5bcd337f hi.2.2.2.2.2 | omega⟩ ⟨by first | exact oq_fa4e5087 hi.2.1.1 | omega, by first | exact oq_5bcd337f hi.2.1.2 | omega⟩ (fun g1001 => ?_) (fun g1001 => ?_)))
      ·
        refine WS_pq [0, 1, 2, 3, 4, 5, 6] (lv' := [(0, .ref (A 68)), (2, .ref (A 4)), (1, .int (Int32.ofInt xv)), (3, .int (Int32.ofInt zv)), (4, .int (Int32.ofInt wv)), (5, .int (Int32.ofInt go)), (6, .int (Int32.ofInt c))]) rfl ?_
        exact kx _ go c I F (by first | exact ⟨And.intro (hi.1.1) (hi.1.2), And.intro (hi.2.1.1) (hi.2.1.2), And.intro (hi.2.2.1.1) (hi.2.2.1.2), And.intro (hi.2.2.2.1.1) (hi.2.2.2.1.2), hi.2.2.2.2.1, hi.2.2.2.2.2⟩ | omega)
      ·
        refine z_aload_n X (x := A 4) rfl (List.Mem.tail _ (List.Mem.head _)) (z_load_n X (x := zv) rfl (List.Mem.tail _ (List.Mem.tail _ (List.Mem.tail _ (List.Mem.head _)))) (z_load X (x := c) rfl (List.Mem.tail _ (List.Mem.tail _ (List.Mem.tail _ (List.Mem.tail _ (List.Mem.tail _ (List.Mem.tail _ (List.Mem.head _))))))) (z_add X rfl (z_ald X 4 rfl (c518_ok rfl) rfl (by first | exact oq_dd29f52d hi.2.2.1.1 hi.2.2.2.2.1 | omega) (show (zv + c) < 288 by first | exact oq_f2e7d959 hi.2.2.1.2 g1001 | omega) (cbig_ok rfl) ?_))))
        have b1002 := bc_1 I (show ((zv + c)).toNat < 288 by first | exact oq_9482db17 hi.2.2.1.2 g1001 | omega)
        refine z_store X (lv' := [(7, .int (Int32.ofInt (iC t 1 ((zv + c)).toNat))), (0, .ref (A 68)), (2, .ref (A 4)), (1, .int (Int32.ofInt xv)), (3, .int (Int32.ofInt zv)), (4, .int (Int32.ofInt wv)), (5, .int (Int32.ofInt go)), (6, .int (Int32.ofInt c))]) rfl (by decide) (fun _ h => h) (z_load X (x := c) rfl (List.Mem.tail _ (List.Mem.tail _ (List.Mem.tail _ (List.Mem.tail _ (List.Mem.tail _ (List.Mem.tail _ (List.Mem.tail _ (List.Mem.head _)))))))) (z_const X rfl (z_add X rfl (z_load X (x := wv) rfl (List.Mem.tail _ (List.Mem.tail _ (List.Mem.tail _ (List.Mem.tail _ (List.Mem.tail _ (List.Mem.head _)))))) (z_icmp_ge X (t := 94) rfl rfl ⟨by first | exact oq_74de1e16 hi.2.2.2.2.1 | omega, by first | exact oq_3a454424 hi.2.2.2.2.2 | omega⟩ ⟨by first | exact oq_fa4e5087 hi.2.1.1 | omega, by first | exact oq_5bcd337f hi.2.1.2 | omega⟩ (fun g1003 => ?_) (fun g1003 => ?_))))))
        ·
          refine w_lconst X.1 (ax_d X (show cdA 107 94 = some (.lconst 1, 1, 0, 0, 0) from rfl)) rfl (z_anyJ (fun j1004 => ?_))
          refine z_load X (x := (iC t 1 ((zv + c)).toNat)) rfl (List.Mem.head _) (z_bipush X rfl (z_andm X rfl (by decide) (by decide) (fun y1005 hy1005 gy1005 => ?_)))
          refine w_lshl X.1 (ax_d X (show cdA 107 100 = some (.lshl, 1, 0, 0, 0) from rfl)) (z_anyJ (fun j1006 => ?_))
          refine w_lstore X.1 (lv' := [(8, .long j1006), (7, .int (Int32.ofInt (iC t 1 ((zv + c)).toNat))), (0, .ref (A 68)), (2, .ref (A 4)), (1, .int (Int32.ofInt xv)), (3, .int (Int32.ofInt zv)), (4, .int (Int32.ofInt wv)), (5, .int (Int32.ofInt go)), (6, .int (Int32.ofInt c))]) (ax_d X (show cdA 107 101 = some (.lstore 8, 2, 0, 0, 0) from rfl)) (by rw [X.2.1.2.2]; decide) (fun _ h => h) (z_aload_n X (x := A 68) rfl (List.Mem.tail _ (List.Mem.tail _ (List.Mem.head _))) (s_getR X 68 rfl (c518_ok rfl) rfl rfl (z_load_n X (x := xv) rfl (List.Mem.tail _ (List.Mem.tail _ (List.Mem.tail _ (List.Mem.tail _ (List.Mem.head _))))) (z_const X rfl (z_mul X rfl (z_load X (x := (iC t 1 ((zv + c)).toNat)) rfl (List.Mem.tail _ (List.Mem.head _)) (z_bipush X rfl (z_quot X rfl (by first | exact b1002.1 | omega) (rng_to _) (by decide) (by decide) (z_add X rfl (w_dup2_11 X.1 (ax_d X (show cdA 107 116 = some (.dup2, 1, 0, 0, 0) from rfl)) rfl rfl (z_lald X 71 rfl (c518_ok rfl) rfl (by first | exact oq_c0bd8137 b1002.1 hi.1.1 | omega) (show ((xv * 2) + ((iC t 1 ((zv + c)).toNat) / 64)) < 24 by first | exact oq_c80b6473 b1002.2 hi.1.2 | omega) (cbig_ok rfl) (fun j1007 => ?_))))))))))))
          refine w_lload X.1 (ax_d X (show cdA 107 118 = some (.lload 8, 2, 0, 0, 0) from rfl)) (x := j1006) (List.Mem.head _) (w_lor X.1 (ax_d X (show cdA 107 120 = some (.lor, 1, 0, 0, 0) from rfl)) (z_anyJ (fun j1008 => ?_)))
          refine z_last X 71 rfl (c518_ok rfl) rfl (by first | exact oq_c0bd8137 b1002.1 hi.1.1 | omega) (show ((xv * 2) + ((iC t 1 ((zv + c)).toNat) / 64)) < 24 by first | exact oq_c80b6473 b1002.2 hi.1.2 | omega) (cbig_ok rfl) (wd_gen (fun s1009 hs1009 => ?_))
          have Is1009 : Bd s1009 := eqB hs1009 (bd_D I)
          have Fs1009 : Fm [] [57, 58, 1059, 1060, 1061] s s1009 := by rw [hs1009]; exact fm_D F (show 59 + 1000 ∈ _ by decide)
          refine z_aload_n X (x := A 68) rfl (List.Mem.tail _ (List.Mem.tail _ (List.Mem.head _))) (s_getR X 68 rfl (c518_ok rfl) rfl rfl (z_load_n X (x := xv) rfl (List.Mem.tail _ (List.Mem.tail _ (List.Mem.tail _ (List.Mem.tail _ (List.Mem.head _))))) (z_bipush X rfl (z_mul X rfl (z_load X (x := go) rfl (List.Mem.tail _ (List.Mem.tail _ (List.Mem.tail _ (List.Mem.tail _ (List.Mem.tail _ (List.Mem.tail _ (List.Mem.tail _ (List.Mem.head _)))))))) (z_add X rfl (z_const X rfl (z_mul X rfl (z_load X (x := (iC t 1 ((zv + c)).toNat)) rfl (List.Mem.tail _ (List.Mem.head _)) (z_bipush X rfl (z_quot X rfl (by first | exact b1002.1 | omega) (rng_to _) (by decide) (by decide) ?_)))))))))))
          refine z_add X rfl (w_dup2_11 X.1 (ax_d X (show cdA 107 141 = some (.dup2, 1, 0, 0, 0) from rfl)) rfl rfl (z_lald X 72 rfl (c518_ok rfl) rfl (by first | exact oq_ea32c91a b1002.1 hi.2.2.2.1.1 hi.1.1 | omega) (show ((((xv * 7) + go) * 2) + ((iC t 1 ((zv + c)).toNat) / 64)) < 168 by first | exact oq_5da8d824 b1002.2 hi.2.2.2.1.2 hi.1.2 | omega) (cbig_ok rfl) (fun j1010 => ?_)))
          refine w_lload X.1 (ax_d X (show cdA 107 143 = some (.lload 8, 2, 0, 0, 0) from rfl)) (x := j1006) (List.Mem.head _) (w_lor X.1 (ax_d X (show cdA 107 145 = some (.lor, 1, 0, 0, 0) from rfl)) (z_anyJ (fun j1011 => ?_)))
          refine z_last X 72 rfl (c518_ok rfl) rfl (by first | exact oq_ea32c91a b1002.1 hi.2.2.2.1.1 hi.1.1 | omega) (show ((((xv * 7) + go) * 2) + ((iC t 1 ((zv + c)).toNat) / 64)) < 168 by first | exact oq_5da8d824 b1002.2 hi.2.2.2.1.2 hi.1.2 | omega) (cbig_ok rfl) (wd_gen (fun s1012 hs1012 => ?_))
          have Is1012 : Bd s1012 := eqB hs1012 (bd_D Is1009)
          have Fs1012 : Fm [] [57, 58, 1059, 1060, 1061] s s1012 := by rw [hs1012]; exact fm_D Fs1009 (show 60 + 1000 ∈ _ by decide)
          refine z_inc X (x := c) (lv' := [(6, .int (Int32.ofInt (c + 1))), (8, .long j1006), (7, .int (Int32.ofInt (iC t 1 ((zv + c)).toNat))), (0, .ref (A 68)), (2, .ref (A 4)), (1, .int (Int32.ofInt xv)), (3, .int (Int32.ofInt zv)), (4, .int (Int32.ofInt wv)), (5, .int (Int32.ofInt go))]) rfl (by decide) (List.Mem.tail _ (List.Mem.tail _ (List.Mem.tail _ (List.Mem.tail _ (List.Mem.tail _ (List.Mem.tail _ (List.Mem.tail _ (List.Mem.tail _ (List.Mem.head _))))))))) (fun _ h => h) (z_goto X (t := 35) rfl rfl (WS_pq [3, 4, 5, 6, 7, 8, 0] (lv' := [(0, .ref (A 68)), (2, .ref (A 4)), (1, .int (Int32.ofInt xv)), (3, .int (Int32.ofInt zv)), (4, .int (Int32.ofInt wv)), (5, .int (Int32.ofInt go)), (6, .int (Int32.ofInt (c + 1)))]) rfl ?_))
          exact ih _ xv zv wv go (c + 1) Is1012 Fs1012 (by first | exact ⟨And.intro (hi.1.1) (hi.1.2), And.intro (hi.2.1.1) (hi.2.1.2), And.intro (hi.2.2.1.1) (hi.2.2.1.2), And.intro (hi.2.2.2.1.1) (hi.2.2.2.1.2), oq_54f49eb5 hi.2.2.2.2.1, oq_41473be0 g1001 hi.2.1.2⟩ | omega) (by first | exact qk_me hm (by decide) (oq_9dea93e6 g1001 hi.2.1.2) | omega) kx
        ·
          refine z_load X (x := (iC t 1 ((zv + c)).toNat)) rfl (List.Mem.head _) (z_aload_n X (x := A 4) rfl (List.Mem.tail _ (List.Mem.tail _ (List.Mem.head _))) (z_load_n X (x := zv) rfl (List.Mem.tail _ (List.Mem.tail _ (List.Mem.tail _ (List.Mem.tail _ (List.Mem.head _))))) (z_load X (x := c) rfl (List.Mem.tail _ (List.Mem.tail _ (List.Mem.tail _ (List.Mem.tail _ (List.Mem.tail _ (List.Mem.tail _ (List.Mem.tail _ (List.Mem.head _)))))))) (z_add X rfl (z_const X rfl (z_add X rfl (z_ald X 4 rfl (c518_ok rfl) rfl (by first | exact oq_21f9cd09 hi.2.2.1.1 hi.2.2.2.2.1 | omega) (show ((zv + c) + 1) < 288 by first | exact oq_cc679ab7 hi.2.2.1.2 g1003 | omega) (cbig_ok rfl) ?_)))))))
          have b1013 := bc_1 I (show (((zv + c) + 1)).toNat < 288 by first | exact oq_11b18baf hi.2.2.1.2 g1003 | omega)
          refine z_callS X (rm := rmN 102) (As := [.int (Int32.ofInt (iC t 1 ((zv + c)).toNat)), .int (Int32.ofInt (iC t 1 (((zv + c) + 1)).toNat))]) (st := []) rfl rfl (by rw [E.1, E.2.1, E.2.2.1]; exact c9_goBetween G I (by first | exact ⟨b1002.1, b1002.2⟩ | omega) (by first | exact ⟨b1013.1, b1013.2⟩ | omega)) ⟨by rw [E.2.2.2]; exact (show (rmN 102).frames + 1 ≤ (rmN 107).frames by decide), by rw [E.2.2.2]; exact (show 8 + (mNL (miB 102) + 11) + (rmN 102).locals ≤ (rmN 107).locals by decide), by rw [E.2.2.2]; exact (show 0 + (rmN 102).cells ≤ (rmN 107).cells by decide), by rw [E.2.2.2]; exact (show 0 + (rmN 102).slots ≤ (rmN 107).slots by decide)⟩ (Nat.le_of_ble_eq_true rfl) (fun vv s1014 hq => ?_) (fun ee s1014 hq => ?_)
          rotate_left
          · obtain ⟨rfl, e1015, hv, hrs1014, hps1014⟩ := hq; cases hv
          obtain ⟨rfl, e1015, hv, hrs1014, hps1014⟩ := hq
          cases hv
          show WS k 72 [(7, .int (Int32.ofInt (iC t 1 ((zv + c)).toNat))), (0, .ref (A 68)), (2, .ref (A 4)), (1, .int (Int32.ofInt xv)), (3, .int (Int32.ofInt zv)), (4, .int (Int32.ofInt wv)), (5, .int (Int32.ofInt go)), (6, .int (Int32.ofInt c))] [.int (Int32.ofInt e1015)] (Wd A dT t) 0 0
          refine z_store X (lv' := [(5, .int (Int32.ofInt e1015)), (7, .int (Int32.ofInt (iC t 1 ((zv + c)).toNat))), (0, .ref (A 68)), (2, .ref (A 4)), (1, .int (Int32.ofInt xv)), (3, .int (Int32.ofInt zv)), (4, .int (Int32.ofInt wv)), (6, .int (Int32.ofInt c))]) rfl (by decide) (fun _ h => h) (z_aload_n X (x := A 68) rfl (List.Mem.tail _ (List.Mem.tail _ (List.Mem.head _))) (z_load_n X (x := xv) rfl (List.Mem.tail _ (List.Mem.tail _ (List.Mem.tail _ (List.Mem.tail _ (List.Mem.head _))))) (z_load X (x := (iC t 1 ((zv + c)).toNat)) rfl (List.Mem.tail _ (List.Mem.head _)) (z_aload_n X (x := A 4) rfl (List.Mem.tail _ (List.Mem.tail _ (List.Mem.tail _ (List.Mem.head _)))) (z_load_n X (x := zv) rfl (List.Mem.tail _ (List.Mem.tail _ (List.Mem.tail _ (List.Mem.tail _ (List.Mem.tail _ (List.Mem.head _)))))) (z_load X (x := c) rfl (List.Mem.tail _ (List.Mem.tail _ (List.Mem.tail _ (List.Mem.tail _ (List.Mem.tail _ (List.Mem.tail _ (List.Mem.tail _ (List.Mem.head _)))))))) (z_add X rfl (z_const X rfl (z_add X rfl (z_ald X 4 rfl (c518_ok rfl) rfl (by first | exact oq_21f9cd09 hi.2.2.1.1 hi.2.2.2.2.1 | omega) (show ((zv + c) + 1) < 288 by first | exact oq_cc679ab7 hi.2.2.1.2 g1003 | omega) (cbig_ok rfl) ?_))))))))))
          have b1016 := bc_1 I (show (((zv + c) + 1)).toNat < 288 by first | exact oq_11b18baf hi.2.2.1.2 g1003 | omega)
          refine z_min X rfl (rng_to _) (rng_to _) (by rw [E.2.2.2]; decide) (by rw [E.2.2.2]; exact Nat.le_of_ble_eq_true rfl) (Nat.zero_le _) (Nat.zero_le _) (fun e1017 he1017 => ?_)
          refine z_load X (x := e1015) rfl (List.Mem.head _) (zcV_v0 X E 68 (As := [.int (Int32.ofInt xv), .int (Int32.ofInt e1017), .int (Int32.ofInt e1015)]) (st := []) rfl rfl rfl rfl (c9_setStep_68 G I (by first | exact ⟨hi.1.1, hi.1.2⟩ | omega) (by first | exact ⟨oq_03ccc143 he1017 b1016.1 b1002.1, oq_9c77db17 he1017 b1002.2⟩ | omega) (by first | exact ⟨hps1014.1, hps1014.2⟩ | omega)) rfl (Nat.le_of_ble_eq_true rfl) (fun s1018 Is1018 Fs1018 hps1018 => ?_))
          have Gs1018 := fm_tq F Fs1018 rfl rfl
          refine w_lconst X.1 (ax_d X (show cdA 107 94 = some (.lconst 1, 1, 0, 0, 0) from rfl)) rfl (z_anyJ (fun j1020 => ?_))
          refine z_load X (x := (iC t 1 ((zv + c)).toNat)) rfl (List.Mem.tail _ (List.Mem.head _)) (z_bipush X rfl (z_andm X rfl (by decide) (by decide) (fun y1021 hy1021 gy1021 => ?_)))
          refine w_lshl X.1 (ax_d X (show cdA 107 100 = some (.lshl, 1, 0, 0, 0) from rfl)) (z_anyJ (fun j1022 => ?_))
          refine w_lstore X.1 (lv' := [(8, .long j1022), (5, .int (Int32.ofInt e1015)), (7, .int (Int32.ofInt (iC t 1 ((zv + c)).toNat))), (0, .ref (A 68)), (2, .ref (A 4)), (1, .int (Int32.ofInt xv)), (3, .int (Int32.ofInt zv)), (4, .int (Int32.ofInt wv)), (6, .int (Int32.ofInt c))]) (ax_d X (show cdA 107 101 = some (.lstore 8, 2, 0, 0, 0) from rfl)) (by rw [X.2.1.2.2]; decide) (fun _ h => h) (z_aload_n X (x := A 68) rfl (List.Mem.tail _ (List.Mem.tail _ (List.Mem.tail _ (List.Mem.head _)))) (s_getR X 68 rfl (c518_ok rfl) rfl rfl (z_load_n X (x := xv) rfl (List.Mem.tail _ (List.Mem.tail _ (List.Mem.tail _ (List.Mem.tail _ (List.Mem.tail _ (List.Mem.head _)))))) (z_const X rfl (z_mul X rfl (z_load X (x := (iC t 1 ((zv + c)).toNat)) rfl (List.Mem.tail _ (List.Mem.tail _ (List.Mem.head _))) (z_bipush X rfl (z_quot X rfl (by first | exact b1002.1 | omega) (rng_to _) (by decide) (by decide) (z_add X rfl (w_dup2_11 X.1 (ax_d X (show cdA 107 116 = some (.dup2, 1, 0, 0, 0) from rfl)) rfl rfl (z_lald X 71 rfl (c518_ok rfl) rfl (by first | exact oq_c0bd8137 b1002.1 hi.1.1 | omega) (show ((xv * 2) + ((iC t 1 ((zv + c)).toNat) / 64)) < 24 by first | exact oq_c80b6473 b1002.2 hi.1.2 | omega) (cbig_ok rfl) (fun j1023 => ?_))))))))))))
          refine w_lload X.1 (ax_d X (show cdA 107 118 = some (.lload 8, 2, 0, 0, 0) from rfl)) (x := j1022) (List.Mem.head _) (w_lor X.1 (ax_d X (show cdA 107 120 = some (.lor, 1, 0, 0, 0) from rfl)) (z_anyJ (fun j1024 => ?_)))
          refine z_last X 71 rfl (c518_ok rfl) rfl (by first | exact oq_c0bd8137 b1002.1 hi.1.1 | omega) (show ((xv * 2) + ((iC t 1 ((zv + c)).toNat) / 64)) < 24 by first | exact oq_c80b6473 b1002.2 hi.1.2 | omega) (cbig_ok rfl) (wd_gen (fun s1025 hs1025 => ?_))
          have Is1025 : Bd s1025 := eqB hs1025 (bd_D Is1018)
          have Fs1025 : Fm [] [57, 58, 1059, 1060, 1061] s s1025 := by rw [hs1025]; exact fm_D Gs1018 (show 59 + 1000 ∈ _ by decide)
          refine z_aload_n X (x := A 68) rfl (List.Mem.tail _ (List.Mem.tail _ (List.Mem.tail _ (List.Mem.head _)))) (s_getR X 68 rfl (c518_ok rfl) rfl rfl (z_load_n X (x := xv) rfl (List.Mem.tail _ (List.Mem.tail _ (List.Mem.tail _ (List.Mem.tail _ (List.Mem.tail _ (List.Mem.head _)))))) (z_bipush X rfl (z_mul X rfl (z_load X (x := e1015) rfl (List.Mem.tail _ (List.Mem.head _)) (z_add X rfl (z_const X rfl (z_mul X rfl (z_load X (x := (iC t 1 ((zv + c)).toNat)) rfl (List.Mem.tail _ (List.Mem.tail _ (List.Mem.head _))) (z_bipush X rfl (z_quot X rfl (by first | exact b1002.1 | omega) (rng_to _) (by decide) (by decide) ?_)))))))))))
          refine z_add X rfl (w_dup2_11 X.1 (ax_d X (show cdA 107 141 = some (.dup2, 1, 0, 0, 0) from rfl)) rfl rfl (z_lald X 72 rfl (c518_ok rfl) rfl (by first | exact oq_f0013a75 hps1014.1 b1002.1 hi.1.1 | omega) (show ((((xv * 7) + e1015) * 2) + ((iC t 1 ((zv + c)).toNat) / 64)) < 168 by first | exact oq_2f745b71 hps1014.2 b1002.2 hi.1.2 | omega) (cbig_ok rfl) (fun j1026 => ?_)))
          refine w_lload X.1 (ax_d X (show cdA 107 143 = some (.lload 8, 2, 0, 0, 0) from rfl)) (x := j1022) (List.Mem.head _) (w_lor X.1 (ax_d X (show cdA 107 145 = some (.lor, 1, 0, 0, 0) from rfl)) (z_anyJ (fun j1027 => ?_)))
          refine z_last X 72 rfl (c518_ok rfl) rfl (by first | exact oq_f0013a75 hps1014.1 b1002.1 hi.1.1 | omega) (show ((((xv * 7) + e1015) * 2) + ((iC t 1 ((zv + c)).toNat) / 64)) < 168 by first | exact oq_2f745b71 hps1014.2 b1002.2 hi.1.2 | omega) (cbig_ok rfl) (wd_gen (fun s1028 hs1028 => ?_))
          have Is1028 : Bd s1028 := eqB hs1028 (bd_D Is1025)
          have Fs1028 : Fm [] [57, 58, 1059, 1060, 1061] s s1028 := by rw [hs1028]; exact fm_D Fs1025 (show 60 + 1000 ∈ _ by decide)
          refine z_inc X (x := c) (lv' := [(6, .int (Int32.ofInt (c + 1))), (8, .long j1022), (5, .int (Int32.ofInt e1015)), (7, .int (Int32.ofInt (iC t 1 ((zv + c)).toNat))), (0, .ref (A 68)), (2, .ref (A 4)), (1, .int (Int32.ofInt xv)), (3, .int (Int32.ofInt zv)), (4, .int (Int32.ofInt wv))]) rfl (by decide) (List.Mem.tail _ (List.Mem.tail _ (List.Mem.tail _ (List.Mem.tail _ (List.Mem.tail _ (List.Mem.tail _ (List.Mem.tail _ (List.Mem.tail _ (List.Mem.head _))))))))) (fun _ h => h) (z_goto X (t := 35) rfl rfl (WS_pq [4, 5, 6, 7, 8, 2, 0] (lv' := [(0, .ref (A 68)), (2, .ref (A 4)), (1, .int (Int32.ofInt xv)), (3, .int (Int32.ofInt zv)), (4, .int (Int32.ofInt wv)), (5, .int (Int32.ofInt e1015)), (6, .int (Int32.ofInt (c + 1)))]) rfl ?_))
          exact ih _ xv zv wv e1015 (c + 1) Is1028 Fs1028 (by first | exact ⟨And.intro (hi.1.1) (hi.1.2), And.intro (hi.2.1.1) (hi.2.1.2), And.intro (hi.2.2.1.1) (hi.2.2.1.2), And.intro (hps1014.1) (oq_b982df86 hps1014.2), oq_54f49eb5 hi.2.2.2.2.1, oq_bbeecdc2 g1003 hi.2.1.2⟩ | omega) (by first | exact qk_me hm (by decide) (oq_261750be g1003 hi.2.1.2) | omega) kx
  refine z_aload_n X (x := A 4) rfl (List.Mem.tail _ (List.Mem.tail _ (List.Mem.head _))) (z_load_n X (x := z) rfl (List.Mem.tail _ (List.Mem.tail _ (List.Mem.tail _ (List.Mem.head _)))) (z_aload_n X (x := A 68) rfl (List.Mem.head _) (s_getR X 68 rfl (c518_ok rfl) rfl rfl (z_load_n X (x := x) rfl (List.Mem.tail _ (List.Mem.head _)) (z_bipush X rfl (z_mul X rfl (z_load X (x := w) rfl (List.Mem.tail _ (List.Mem.tail _ (List.Mem.tail _ (List.Mem.tail _ (List.Mem.head _))))) (z_copy X I 4 69 (st := []) rfl (by decide) (by decide) rfl rfl (by omega) (by omega) (by omega) (show z + w ≤ ((288 : Nat) : Int) by omega) (show (x * 24) + w ≤ ((288 : Nat) : Int) by omega) (by decide) (by rw [E.2.2.2]; decide) (by rw [E.2.2.2]; exact Nat.le_of_ble_eq_true rfl) (fun s1 Is1 Fs1 => ?_)))))))))
  have Gs1 := fm_tq F Fs1 rfl rfl
  refine z_aload_n X (x := A 68) rfl (List.Mem.head _) (s_getR X 68 rfl (c518_ok rfl) rfl rfl (z_load_n X (x := x) rfl (List.Mem.tail _ (List.Mem.head _)) (z_load X (x := w) rfl (List.Mem.tail _ (List.Mem.tail _ (List.Mem.tail _ (List.Mem.tail _ (List.Mem.head _))))) (z_ast X 70 rfl (c518_ok rfl) rfl (by first | exact p0.1 | omega) (show x < 12 by first | exact oq_0ddfcfee p0.2 | omega) (cbig_ok rfl) (wd_gen (fun s2 hs2 => ?_))))))
  have Is2 : Bd s2 := eqB hs2 (bd_C Is1 (show (0 : Int) ≤ w ∧ w ≤ 24 by first | exact ⟨p1.1, p1.2⟩ | omega) ⟨by first | exact oq_fa4e5087 p1.1 | omega, by first | exact oq_5bcd337f p1.2 | omega⟩)
  have Fs2 := eqF hs2 (fm_C Gs1 (inl_ok (a := 58) rfl))
  refine z_aload_n X (x := A 68) rfl (List.Mem.head _) (z_load_n X (x := x) rfl (List.Mem.tail _ (List.Mem.head _)) (zcV_v0 X E 68 (As := [.int (Int32.ofInt x)]) (st := []) rfl rfl rfl rfl (c9_wipe_68 G Is2 (by first | exact ⟨p0.1, p0.2⟩ | omega)) rfl (Nat.le_of_ble_eq_true rfl) (fun s3 Is3 Fs3 hps3 => ?_)))
  have Gs3 := fm_tq Fs2 Fs3 rfl rfl
  refine z_bipush X rfl (z_store X (lv' := [(5, .int (Int32.ofInt 6)), (0, .ref (A 68)), (1, .int (Int32.ofInt x)), (2, .ref (A 4)), (3, .int (Int32.ofInt z)), (4, .int (Int32.ofInt w))]) rfl (by decide) (fun _ h => h) (z_const X rfl (z_store X (lv' := [(6, .int (Int32.ofInt 0)), (5, .int (Int32.ofInt 6)), (0, .ref (A 68)), (1, .int (Int32.ofInt x)), (2, .ref (A 4)), (3, .int (Int32.ofInt z)), (4, .int (Int32.ofInt w))]) rfl (by decide) (fun _ h => h) (WS_pq [2, 4, 3, 5, 6, 1, 0] (lv' := [(0, .ref (A 68)), (2, .ref (A 4)), (1, .int (Int32.ofInt x)), (3, .int (Int32.ofInt z)), (4, .int (Int32.ofInt w)), (5, .int (Int32.ofInt 6)), (6, .int (Int32.ofInt 0))]) rfl (L35 ((24 - 0 : Int).toNat + 1) s3 x z w 6 0 Is3 Gs3 (by first | exact ⟨And.intro (p0.1) (p0.2), And.intro (p1.1) (p1.2), And.intro (p2.1) (p2.2), And.intro (by decide) (by decide), by decide, by decide⟩ | omega) (Nat.lt_succ_self _) ?_)))))
  intro s5 x6 x7 Is5 Fs5 hs5
  exact w_vret X.1 q hRt (ax_d X (show cdA 107 153 = some (.return_, 1, 0, 0, 0) from rfl)) (Nat.zero_le _) (Nat.zero_le _) ⟨_, rfl, Is5, Fs5, rfl, trivial⟩
set_option maxRecDepth 4000 in
theorem c9_setWay_68_92 (G : GX l s0 D tys a0 dT) (I : Bd s) {x z w : Int} (p0 : 0 ≤ x ∧ x ≤ 11) (p1 : 0 ≤ w ∧ w ≤ 24) (p2 : 0 ≤ z ∧ z + w ≤ 24) : CT l s0 D A dT 107 (rmN 107) [.ref (A 68), .int (Int32.ofInt x), .ref (A 92), .int (Int32.ofInt z), .int (Int32.ofInt w)] s (fun o t => Bd t ∧ Fm [] [57, 58, 1059, 1060, 1061] s t ∧ o = .inl none ∧ (True)) := by
  refine ct_ofX G (by decide) (Nat.le_of_ble_eq_true rfl) (fun k X E ET hRt hXt q => ?_)
  show WS k 0 [(0, .ref (A 68)), (1, .int (Int32.ofInt x)), (2, .ref (A 92)), (3, .int (Int32.ofInt z)), (4, .int (Int32.ofInt w))] [] _ 0 0
  have F : Fm [] [57, 58, 1059, 1060, 1061] s s := fm_rf _ _ s
  have L35 : ∀ (n : Nat) (t : PS) (xv zv wv go c : Int), Bd t → Fm [] [57, 58, 1059, 1060, 1061] s t → ((0 ≤ xv ∧ xv ≤ 11) ∧ (0 ≤ wv ∧ wv ≤ 24) ∧ (0 ≤ zv ∧ zv + wv ≤ 24) ∧ (0 ≤ go ∧ go ≤ 6) ∧ 0 ≤ c ∧ c ≤ 24) → (24 - c : Int).toNat < n → (∀ (t' : PS) (go' c' : Int), Bd t' → Fm [] [57, 58, 1059, 1060, 1061] s t' → ((0 ≤ xv ∧ xv ≤ 11) ∧ (0 ≤ wv ∧ wv ≤ 24) ∧ (0 ≤ zv ∧ zv + wv ≤ 24) ∧ (0 ≤ go' ∧ go' ≤ 6) ∧ 0 ≤ c' ∧ c' ≤ 24) → WS k 153 [(0, .ref (A 68)), (2, .ref (A 92)), (1, .int (Int32.ofInt xv)), (3, .int (Int32.ofInt zv)), (4, .int (Int32.ofInt wv)), (5, .int (Int32.ofInt go')), (6, .int (Int32.ofInt c'))] [] (Wd A dT t') 0 0) → WS k 35 [(0, .ref (A 68)), (2, .ref (A 92)), (1, .int (Int32.ofInt xv)), (3, .int (Int32.ofInt zv)), (4, .int (Int32.ofInt wv)), (5, .int (Int32.ofInt go)), (6, .int (Int32.ofInt c))] [] (Wd A dT t) 0 0 := by
    intro n
    induction n with
    | zero =>
      intro t xv zv wv go c I F hi hm kx
      exact absurd hm (Nat.not_lt_zero _)
    | succ n ih =>
      intro t xv zv wv go c I F hi hm kx
      refine z_load X (x := c) rfl (List.Mem.tail _ (List.Mem.tail _ (List.Mem.tail _ (List.Mem.tail _ (List.Mem.tail _ (List.Mem.tail _ (List.Mem.head _))))))) (z_load X (x := wv) rfl (List.Mem.tail _ (List.Mem.tail _ (List.Mem.tail _ (List.Mem.tail _ (List.Mem.head _))))) (z_icmp_ge X (t := 153) rfl rfl ⟨by first | exact oq_fa4e5087 hi.2.2.2.2.1 | omega, by first | exact oq_5bcd337f hi.2.2.2.2.2 | omega⟩ ⟨by first | exact oq_fa4e5087 hi.2.1.1 | omega, by first | exact oq_5bcd337f hi.2.1.2 | omega⟩ (fun g1001 => ?_) (fun g1001 => ?_)))
      ·
        refine WS_pq [0, 1, 2, 3, 4, 5, 6] (lv' := [(0, .ref (A 68)), (2, .ref (A 92)), (1, .int (Int32.ofInt xv)), (3, .int (Int32.ofInt zv)), (4, .int (Int32.ofInt wv)), (5, .int (Int32.ofInt go)), (6, .int (Int32.ofInt c))]) rfl ?_
        exact kx _ go c I F (by first | exact ⟨And.intro (hi.1.1) (hi.1.2), And.intro (hi.2.1.1) (hi.2.1.2), And.intro (hi.2.2.1.1) (hi.2.2.1.2), And.intro (hi.2.2.2.1.1) (hi.2.2.2.1.2), hi.2.2.2.2.1, hi.2.2.2.2.2⟩ | omega)
      ·
        refine z_aload_n X (x := A 92) rfl (List.Mem.tail _ (List.Mem.head _)) (z_load_n X (x := zv) rfl (List.Mem.tail _ (List.Mem.tail _ (List.Mem.tail _ (List.Mem.head _)))) (z_load X (x := c) rfl (List.Mem.tail _ (List.Mem.tail _ (List.Mem.tail _ (List.Mem.tail _ (List.Mem.tail _ (List.Mem.tail _ (List.Mem.head _))))))) (z_add X rfl (z_ald X 92 rfl (c518_ok rfl) rfl (by first | exact oq_dd29f52d hi.2.2.1.1 hi.2.2.2.2.1 | omega) (show (zv + c) < 24 by first | exact oq_de70c7d8 hi.2.2.1.2 g1001 | omega) (cbig_ok rfl) ?_))))
        have b1002 := bc_79 I (show ((zv + c)).toNat < 24 by first | exact oq_ff24e3f1 hi.2.2.1.2 g1001 | omega)
        refine z_store X (lv' := [(7, .int (Int32.ofInt (iC t 79 ((zv + c)).toNat))), (0, .ref (A 68)), (2, .ref (A 92)), (1, .int (Int32.ofInt xv)), (3, .int (Int32.ofInt zv)), (4, .int (Int32.ofInt wv)), (5, .int (Int32.ofInt go)), (6, .int (Int32.ofInt c))]) rfl (by decide) (fun _ h => h) (z_load X (x := c) rfl (List.Mem.tail _ (List.Mem.tail _ (List.Mem.tail _ (List.Mem.tail _ (List.Mem.tail _ (List.Mem.tail _ (List.Mem.tail _ (List.Mem.head _)))))))) (z_const X rfl (z_add X rfl (z_load X (x := wv) rfl (List.Mem.tail _ (List.Mem.tail _ (List.Mem.tail _ (List.Mem.tail _ (List.Mem.tail _ (List.Mem.head _)))))) (z_icmp_ge X (t := 94) rfl rfl ⟨by first | exact oq_74de1e16 hi.2.2.2.2.1 | omega, by first | exact oq_3a454424 hi.2.2.2.2.2 | omega⟩ ⟨by first | exact oq_fa4e5087 hi.2.1.1 | omega, by first | exact oq_5bcd337f hi.2.1.2 | omega⟩ (fun g1003 => ?_) (fun g1003 => ?_))))))
        ·
          refine w_lconst X.1 (ax_d X (show cdA 107 94 = some (.lconst 1, 1, 0, 0, 0) from rfl)) rfl (z_anyJ (fun j1004 => ?_))
          refine z_load X (x := (iC t 79 ((zv + c)).toNat)) rfl (List.Mem.head _) (z_bipush X rfl (z_andm X rfl (by decide) (by decide) (fun y1005 hy1005 gy1005 => ?_)))
          refine w_lshl X.1 (ax_d X (show cdA 107 100 = some (.lshl, 1, 0, 0, 0) from rfl)) (z_anyJ (fun j1006 => ?_))
          refine w_lstore X.1 (lv' := [(8, .long j1006), (7, .int (Int32.ofInt (iC t 79 ((zv + c)).toNat))), (0, .ref (A 68)), (2, .ref (A 92)), (1, .int (Int32.ofInt xv)), (3, .int (Int32.ofInt zv)), (4, .int (Int32.ofInt wv)), (5, .int (Int32.ofInt go)), (6, .int (Int32.ofInt c))]) (ax_d X (show cdA 107 101 = some (.lstore 8, 2, 0, 0, 0) from rfl)) (by rw [X.2.1.2.2]; decide) (fun _ h => h) (z_aload_n X (x := A 68) rfl (List.Mem.tail _ (List.Mem.tail _ (List.Mem.head _))) (s_getR X 68 rfl (c518_ok rfl) rfl rfl (z_load_n X (x := xv) rfl (List.Mem.tail _ (List.Mem.tail _ (List.Mem.tail _ (List.Mem.tail _ (List.Mem.head _))))) (z_const X rfl (z_mul X rfl (z_load X (x := (iC t 79 ((zv + c)).toNat)) rfl (List.Mem.tail _ (List.Mem.head _)) (z_bipush X rfl (z_quot X rfl (by first | exact b1002.1 | omega) (rng_to _) (by decide) (by decide) (z_add X rfl (w_dup2_11 X.1 (ax_d X (show cdA 107 116 = some (.dup2, 1, 0, 0, 0) from rfl)) rfl rfl (z_lald X 71 rfl (c518_ok rfl) rfl (by first | exact oq_c0bd8137 b1002.1 hi.1.1 | omega) (show ((xv * 2) + ((iC t 79 ((zv + c)).toNat) / 64)) < 24 by first | exact oq_c80b6473 b1002.2 hi.1.2 | omega) (cbig_ok rfl) (fun j1007 => ?_))))))))))))
          refine w_lload X.1 (ax_d X (show cdA 107 118 = some (.lload 8, 2, 0, 0, 0) from rfl)) (x := j1006) (List.Mem.head _) (w_lor X.1 (ax_d X (show cdA 107 120 = some (.lor, 1, 0, 0, 0) from rfl)) (z_anyJ (fun j1008 => ?_)))
          refine z_last X 71 rfl (c518_ok rfl) rfl (by first | exact oq_c0bd8137 b1002.1 hi.1.1 | omega) (show ((xv * 2) + ((iC t 79 ((zv + c)).toNat) / 64)) < 24 by first | exact oq_c80b6473 b1002.2 hi.1.2 | omega) (cbig_ok rfl) (wd_gen (fun s1009 hs1009 => ?_))
          have Is1009 : Bd s1009 := eqB hs1009 (bd_D I)
          have Fs1009 : Fm [] [57, 58, 1059, 1060, 1061] s s1009 := by rw [hs1009]; exact fm_D F (show 59 + 1000 ∈ _ by decide)
          refine z_aload_n X (x := A 68) rfl (List.Mem.tail _ (List.Mem.tail _ (List.Mem.head _))) (s_getR X 68 rfl (c518_ok rfl) rfl rfl (z_load_n X (x := xv) rfl (List.Mem.tail _ (List.Mem.tail _ (List.Mem.tail _ (List.Mem.tail _ (List.Mem.head _))))) (z_bipush X rfl (z_mul X rfl (z_load X (x := go) rfl (List.Mem.tail _ (List.Mem.tail _ (List.Mem.tail _ (List.Mem.tail _ (List.Mem.tail _ (List.Mem.tail _ (List.Mem.tail _ (List.Mem.head _)))))))) (z_add X rfl (z_const X rfl (z_mul X rfl (z_load X (x := (iC t 79 ((zv + c)).toNat)) rfl (List.Mem.tail _ (List.Mem.head _)) (z_bipush X rfl (z_quot X rfl (by first | exact b1002.1 | omega) (rng_to _) (by decide) (by decide) ?_)))))))))))
          refine z_add X rfl (w_dup2_11 X.1 (ax_d X (show cdA 107 141 = some (.dup2, 1, 0, 0, 0) from rfl)) rfl rfl (z_lald X 72 rfl (c518_ok rfl) rfl (by first | exact oq_ea32c91a b1002.1 hi.2.2.2.1.1 hi.1.1 | omega) (show ((((xv * 7) + go) * 2) + ((iC t 79 ((zv + c)).toNat) / 64)) < 168 by first | exact oq_5da8d824 b1002.2 hi.2.2.2.1.2 hi.1.2 | omega) (cbig_ok rfl) (fun j1010 => ?_)))
          refine w_lload X.1 (ax_d X (show cdA 107 143 = some (.lload 8, 2, 0, 0, 0) from rfl)) (x := j1006) (List.Mem.head _) (w_lor X.1 (ax_d X (show cdA 107 145 = some (.lor, 1, 0, 0, 0) from rfl)) (z_anyJ (fun j1011 => ?_)))
          refine z_last X 72 rfl (c518_ok rfl) rfl (by first | exact oq_ea32c91a b1002.1 hi.2.2.2.1.1 hi.1.1 | omega) (show ((((xv * 7) + go) * 2) + ((iC t 79 ((zv + c)).toNat) / 64)) < 168 by first | exact oq_5da8d824 b1002.2 hi.2.2.2.1.2 hi.1.2 | omega) (cbig_ok rfl) (wd_gen (fun s1012 hs1012 => ?_))
          have Is1012 : Bd s1012 := eqB hs1012 (bd_D Is1009)
          have Fs1012 : Fm [] [57, 58, 1059, 1060, 1061] s s1012 := by rw [hs1012]; exact fm_D Fs1009 (show 60 + 1000 ∈ _ by decide)
          refine z_inc X (x := c) (lv' := [(6, .int (Int32.ofInt (c + 1))), (8, .long j1006), (7, .int (Int32.ofInt (iC t 79 ((zv + c)).toNat))), (0, .ref (A 68)), (2, .ref (A 92)), (1, .int (Int32.ofInt xv)), (3, .int (Int32.ofInt zv)), (4, .int (Int32.ofInt wv)), (5, .int (Int32.ofInt go))]) rfl (by decide) (List.Mem.tail _ (List.Mem.tail _ (List.Mem.tail _ (List.Mem.tail _ (List.Mem.tail _ (List.Mem.tail _ (List.Mem.tail _ (List.Mem.tail _ (List.Mem.head _))))))))) (fun _ h => h) (z_goto X (t := 35) rfl rfl (WS_pq [3, 4, 5, 6, 7, 8, 0] (lv' := [(0, .ref (A 68)), (2, .ref (A 92)), (1, .int (Int32.ofInt xv)), (3, .int (Int32.ofInt zv)), (4, .int (Int32.ofInt wv)), (5, .int (Int32.ofInt go)), (6, .int (Int32.ofInt (c + 1)))]) rfl ?_))
          exact ih _ xv zv wv go (c + 1) Is1012 Fs1012 (by first | exact ⟨And.intro (hi.1.1) (hi.1.2), And.intro (hi.2.1.1) (hi.2.1.2), And.intro (hi.2.2.1.1) (hi.2.2.1.2), And.intro (hi.2.2.2.1.1) (hi.2.2.2.1.2), oq_54f49eb5 hi.2.2.2.2.1, oq_41473be0 g1001 hi.2.1.2⟩ | omega) (by first | exact qk_me hm (by decide) (oq_9dea93e6 g1001 hi.2.1.2) | omega) kx
        ·
          refine z_load X (x := (iC t 79 ((zv + c)).toNat)) rfl (List.Mem.head _) (z_aload_n X (x := A 92) rfl (List.Mem.tail _ (List.Mem.tail _ (List.Mem.head _))) (z_load_n X (x := zv) rfl (List.Mem.tail _ (List.Mem.tail _ (List.Mem.tail _ (List.Mem.tail _ (List.Mem.head _))))) (z_load X (x := c) rfl (List.Mem.tail _ (List.Mem.tail _ (List.Mem.tail _ (List.Mem.tail _ (List.Mem.tail _ (List.Mem.tail _ (List.Mem.tail _ (List.Mem.head _)))))))) (z_add X rfl (z_const X rfl (z_add X rfl (z_ald X 92 rfl (c518_ok rfl) rfl (by first | exact oq_21f9cd09 hi.2.2.1.1 hi.2.2.2.2.1 | omega) (show ((zv + c) + 1) < 24 by first | exact oq_c07d830a hi.2.2.1.2 g1003 | omega) (cbig_ok rfl) ?_)))))))
          have b1013 := bc_79 I (show (((zv + c) + 1)).toNat < 24 by first | exact oq_136cae15 hi.2.2.1.2 g1003 | omega)
          refine z_callS X (rm := rmN 102) (As := [.int (Int32.ofInt (iC t 79 ((zv + c)).toNat)), .int (Int32.ofInt (iC t 79 (((zv + c) + 1)).toNat))]) (st := []) rfl rfl (by rw [E.1, E.2.1, E.2.2.1]; exact c9_goBetween G I (by first | exact ⟨b1002.1, b1002.2⟩ | omega) (by first | exact ⟨b1013.1, b1013.2⟩ | omega)) ⟨by rw [E.2.2.2]; exact (show (rmN 102).frames + 1 ≤ (rmN 107).frames by decide), by rw [E.2.2.2]; exact (show 8 + (mNL (miB 102) + 11) + (rmN 102).locals ≤ (rmN 107).locals by decide), by rw [E.2.2.2]; exact (show 0 + (rmN 102).cells ≤ (rmN 107).cells by decide), by rw [E.2.2.2]; exact (show 0 + (rmN 102).slots ≤ (rmN 107).slots by decide)⟩ (Nat.le_of_ble_eq_true rfl) (fun vv s1014 hq => ?_) (fun ee s1014 hq => ?_)
          rotate_left
          · obtain ⟨rfl, e1015, hv, hrs1014, hps1014⟩ := hq; cases hv
          obtain ⟨rfl, e1015, hv, hrs1014, hps1014⟩ := hq
          cases hv
          show WS k 72 [(7, .int (Int32.ofInt (iC t 79 ((zv + c)).toNat))), (0, .ref (A 68)), (2, .ref (A 92)), (1, .int (Int32.ofInt xv)), (3, .int (Int32.ofInt zv)), (4, .int (Int32.ofInt wv)), (5, .int (Int32.ofInt go)), (6, .int (Int32.ofInt c))] [.int (Int32.ofInt e1015)] (Wd A dT t) 0 0
          refine z_store X (lv' := [(5, .int (Int32.ofInt e1015)), (7, .int (Int32.ofInt (iC t 79 ((zv + c)).toNat))), (0, .ref (A 68)), (2, .ref (A 92)), (1, .int (Int32.ofInt xv)), (3, .int (Int32.ofInt zv)), (4, .int (Int32.ofInt wv)), (6, .int (Int32.ofInt c))]) rfl (by decide) (fun _ h => h) (z_aload_n X (x := A 68) rfl (List.Mem.tail _ (List.Mem.tail _ (List.Mem.head _))) (z_load_n X (x := xv) rfl (List.Mem.tail _ (List.Mem.tail _ (List.Mem.tail _ (List.Mem.tail _ (List.Mem.head _))))) (z_load X (x := (iC t 79 ((zv + c)).toNat)) rfl (List.Mem.tail _ (List.Mem.head _)) (z_aload_n X (x := A 92) rfl (List.Mem.tail _ (List.Mem.tail _ (List.Mem.tail _ (List.Mem.head _)))) (z_load_n X (x := zv) rfl (List.Mem.tail _ (List.Mem.tail _ (List.Mem.tail _ (List.Mem.tail _ (List.Mem.tail _ (List.Mem.head _)))))) (z_load X (x := c) rfl (List.Mem.tail _ (List.Mem.tail _ (List.Mem.tail _ (List.Mem.tail _ (List.Mem.tail _ (List.Mem.tail _ (List.Mem.tail _ (List.Mem.head _)))))))) (z_add X rfl (z_const X rfl (z_add X rfl (z_ald X 92 rfl (c518_ok rfl) rfl (by first | exact oq_21f9cd09 hi.2.2.1.1 hi.2.2.2.2.1 | omega) (show ((zv + c) + 1) < 24 by first | exact oq_c07d830a hi.2.2.1.2 g1003 | omega) (cbig_ok rfl) ?_))))))))))
          have b1016 := bc_79 I (show (((zv + c) + 1)).toNat < 24 by first | exact oq_136cae15 hi.2.2.1.2 g1003 | omega)
          refine z_min X rfl (rng_to _) (rng_to _) (by rw [E.2.2.2]; decide) (by rw [E.2.2.2]; exact Nat.le_of_ble_eq_true rfl) (Nat.zero_le _) (Nat.zero_le _) (fun e1017 he1017 => ?_)
          refine z_load X (x := e1015) rfl (List.Mem.head _) (zcV_v0 X E 68 (As := [.int (Int32.ofInt xv), .int (Int32.ofInt e1017), .int (Int32.ofInt e1015)]) (st := []) rfl rfl rfl rfl (c9_setStep_68 G I (by first | exact ⟨hi.1.1, hi.1.2⟩ | omega) (by first | exact ⟨oq_03ccc143 he1017 b1016.1 b1002.1, oq_9c77db17 he1017 b1002.2⟩ | omega) (by first | exact ⟨hps1014.1, hps1014.2⟩ | omega)) rfl (Nat.le_of_ble_eq_true rfl) (fun s1018 Is1018 Fs1018 hps1018 => ?_))
          have Gs1018 := fm_tq F Fs1018 rfl rfl
          refine w_lconst X.1 (ax_d X (show cdA 107 94 = some (.lconst 1, 1, 0, 0, 0) from rfl)) rfl (z_anyJ (fun j1020 => ?_))
          refine z_load X (x := (iC t 79 ((zv + c)).toNat)) rfl (List.Mem.tail _ (List.Mem.head _)) (z_bipush X rfl (z_andm X rfl (by decide) (by decide) (fun y1021 hy1021 gy1021 => ?_)))
          refine w_lshl X.1 (ax_d X (show cdA 107 100 = some (.lshl, 1, 0, 0, 0) from rfl)) (z_anyJ (fun j1022 => ?_))
          refine w_lstore X.1 (lv' := [(8, .long j1022), (5, .int (Int32.ofInt e1015)), (7, .int (Int32.ofInt (iC t 79 ((zv + c)).toNat))), (0, .ref (A 68)), (2, .ref (A 92)), (1, .int (Int32.ofInt xv)), (3, .int (Int32.ofInt zv)), (4, .int (Int32.ofInt wv)), (6, .int (Int32.ofInt c))]) (ax_d X (show cdA 107 101 = some (.lstore 8, 2, 0, 0, 0) from rfl)) (by rw [X.2.1.2.2]; decide) (fun _ h => h) (z_aload_n X (x := A 68) rfl (List.Mem.tail _ (List.Mem.tail _ (List.Mem.tail _ (List.Mem.head _)))) (s_getR X 68 rfl (c518_ok rfl) rfl rfl (z_load_n X (x := xv) rfl (List.Mem.tail _ (List.Mem.tail _ (List.Mem.tail _ (List.Mem.tail _ (List.Mem.tail _ (List.Mem.head _)))))) (z_const X rfl (z_mul X rfl (z_load X (x := (iC t 79 ((zv + c)).toNat)) rfl (List.Mem.tail _ (List.Mem.tail _ (List.Mem.head _))) (z_bipush X rfl (z_quot X rfl (by first | exact b1002.1 | omega) (rng_to _) (by decide) (by decide) (z_add X rfl (w_dup2_11 X.1 (ax_d X (show cdA 107 116 = some (.dup2, 1, 0, 0, 0) from rfl)) rfl rfl (z_lald X 71 rfl (c518_ok rfl) rfl (by first | exact oq_c0bd8137 b1002.1 hi.1.1 | omega) (show ((xv * 2) + ((iC t 79 ((zv + c)).toNat) / 64)) < 24 by first | exact oq_c80b6473 b1002.2 hi.1.2 | omega) (cbig_ok rfl) (fun j1023 => ?_))))))))))))
          refine w_lload X.1 (ax_d X (show cdA 107 118 = some (.lload 8, 2, 0, 0, 0) from rfl)) (x := j1022) (List.Mem.head _) (w_lor X.1 (ax_d X (show cdA 107 120 = some (.lor, 1, 0, 0, 0) from rfl)) (z_anyJ (fun j1024 => ?_)))
          refine z_last X 71 rfl (c518_ok rfl) rfl (by first | exact oq_c0bd8137 b1002.1 hi.1.1 | omega) (show ((xv * 2) + ((iC t 79 ((zv + c)).toNat) / 64)) < 24 by first | exact oq_c80b6473 b1002.2 hi.1.2 | omega) (cbig_ok rfl) (wd_gen (fun s1025 hs1025 => ?_))
          have Is1025 : Bd s1025 := eqB hs1025 (bd_D Is1018)
          have Fs1025 : Fm [] [57, 58, 1059, 1060, 1061] s s1025 := by rw [hs1025]; exact fm_D Gs1018 (show 59 + 1000 ∈ _ by decide)
          refine z_aload_n X (x := A 68) rfl (List.Mem.tail _ (List.Mem.tail _ (List.Mem.tail _ (List.Mem.head _)))) (s_getR X 68 rfl (c518_ok rfl) rfl rfl (z_load_n X (x := xv) rfl (List.Mem.tail _ (List.Mem.tail _ (List.Mem.tail _ (List.Mem.tail _ (List.Mem.tail _ (List.Mem.head _)))))) (z_bipush X rfl (z_mul X rfl (z_load X (x := e1015) rfl (List.Mem.tail _ (List.Mem.head _)) (z_add X rfl (z_const X rfl (z_mul X rfl (z_load X (x := (iC t 79 ((zv + c)).toNat)) rfl (List.Mem.tail _ (List.Mem.tail _ (List.Mem.head _))) (z_bipush X rfl (z_quot X rfl (by first | exact b1002.1 | omega) (rng_to _) (by decide) (by decide) ?_)))))))))))
          refine z_add X rfl (w_dup2_11 X.1 (ax_d X (show cdA 107 141 = some (.dup2, 1, 0, 0, 0) from rfl)) rfl rfl (z_lald X 72 rfl (c518_ok rfl) rfl (by first | exact oq_f0013a75 hps1014.1 b1002.1 hi.1.1 | omega) (show ((((xv * 7) + e1015) * 2) + ((iC t 79 ((zv + c)).toNat) / 64)) < 168 by first | exact oq_2f745b71 hps1014.2 b1002.2 hi.1.2 | omega) (cbig_ok rfl) (fun j1026 => ?_)))
          refine w_lload X.1 (ax_d X (show cdA 107 143 = some (.lload 8, 2, 0, 0, 0) from rfl)) (x := j1022) (List.Mem.head _) (w_lor X.1 (ax_d X (show cdA 107 145 = some (.lor, 1, 0, 0, 0) from rfl)) (z_anyJ (fun j1027 => ?_)))
          refine z_last X 72 rfl (c518_ok rfl) rfl (by first | exact oq_f0013a75 hps1014.1 b1002.1 hi.1.1 | omega) (show ((((xv * 7) + e1015) * 2) + ((iC t 79 ((zv + c)).toNat) / 64)) < 168 by first | exact oq_2f745b71 hps1014.2 b1002.2 hi.1.2 | omega) (cbig_ok rfl) (wd_gen (fun s1028 hs1028 => ?_))
          have Is1028 : Bd s1028 := eqB hs1028 (bd_D Is1025)
          have Fs1028 : Fm [] [57, 58, 1059, 1060, 1061] s s1028 := by rw [hs1028]; exact fm_D Fs1025 (show 60 + 1000 ∈ _ by decide)
          refine z_inc X (x := c) (lv' := [(6, .int (Int32.ofInt (c + 1))), (8, .long j1022), (5, .int (Int32.ofInt e1015)), (7, .int (Int32.ofInt (iC t 79 ((zv + c)).toNat))), (0, .ref (A 68)), (2, .ref (A 92)), (1, .int (Int32.ofInt xv)), (3, .int (Int32.ofInt zv)), (4, .int (Int32.ofInt wv))]) rfl (by decide) (List.Mem.tail _ (List.Mem.tail _ (List.Mem.tail _ (List.Mem.tail _ (List.Mem.tail _ (List.Mem.tail _ (List.Mem.tail _ (List.Mem.tail _ (List.Mem.head _))))))))) (fun _ h => h) (z_goto X (t := 35) rfl rfl (WS_pq [4, 5, 6, 7, 8, 2, 0] (lv' := [(0, .ref (A 68)), (2, .ref (A 92)), (1, .int (Int32.ofInt xv)), (3, .int (Int32.ofInt zv)), (4, .int (Int32.ofInt wv)), (5, .int (Int32.ofInt e1015)), (6, .int (Int32.ofInt (c + 1)))]) rfl ?_))
          exact ih _ xv zv wv e1015 (c + 1) Is1028 Fs1028 (by first | exact ⟨And.intro (hi.1.1) (hi.1.2), And.intro (hi.2.1.1) (hi.2.1.2), And.intro (hi.2.2.1.1) (hi.2.2.1.2), And.intro (hps1014.1) (oq_b982df86 hps1014.2), oq_54f49eb5 hi.2.2.2.2.1, oq_bbeecdc2 g1003 hi.2.1.2⟩ | omega) (by first | exact qk_me hm (by decide) (oq_261750be g1003 hi.2.1.2) | omega) kx
  refine z_aload_n X (x := A 92) rfl (List.Mem.tail _ (List.Mem.tail _ (List.Mem.head _))) (z_load_n X (x := z) rfl (List.Mem.tail _ (List.Mem.tail _ (List.Mem.tail _ (List.Mem.head _)))) (z_aload_n X (x := A 68) rfl (List.Mem.head _) (s_getR X 68 rfl (c518_ok rfl) rfl rfl (z_load_n X (x := x) rfl (List.Mem.tail _ (List.Mem.head _)) (z_bipush X rfl (z_mul X rfl (z_load X (x := w) rfl (List.Mem.tail _ (List.Mem.tail _ (List.Mem.tail _ (List.Mem.tail _ (List.Mem.head _))))) (z_copy X I 92 69 (st := []) rfl (by decide) (by decide) rfl rfl (by omega) (by omega) (by omega) (show z + w ≤ ((24 : Nat) : Int) by omega) (show (x * 24) + w ≤ ((288 : Nat) : Int) by omega) (by decide) (by rw [E.2.2.2]; decide) (by rw [E.2.2.2]; exact Nat.le_of_ble_eq_true rfl) (fun s1 Is1 Fs1 => ?_)))))))))
  have Gs1 := fm_tq F Fs1 rfl rfl
  refine z_aload_n X (x := A 68) rfl (List.Mem.head _) (s_getR X 68 rfl (c518_ok rfl) rfl rfl (z_load_n X (x := x) rfl (List.Mem.tail _ (List.Mem.head _)) (z_load X (x := w) rfl (List.Mem.tail _ (List.Mem.tail _ (List.Mem.tail _ (List.Mem.tail _ (List.Mem.head _))))) (z_ast X 70 rfl (c518_ok rfl) rfl (by first | exact p0.1 | omega) (show x < 12 by first | exact oq_0ddfcfee p0.2 | omega) (cbig_ok rfl) (wd_gen (fun s2 hs2 => ?_))))))
  have Is2 : Bd s2 := eqB hs2 (bd_C Is1 (show (0 : Int) ≤ w ∧ w ≤ 24 by first | exact ⟨p1.1, p1.2⟩ | omega) ⟨by first | exact oq_fa4e5087 p1.1 | omega, by first | exact oq_5bcd337f p1.2 | omega⟩)
  have Fs2 := eqF hs2 (fm_C Gs1 (inl_ok (a := 58) rfl))
  refine z_aload_n X (x := A 68) rfl (List.Mem.head _) (z_load_n X (x := x) rfl (List.Mem.tail _ (List.Mem.head _)) (zcV_v0 X E 68 (As := [.int (Int32.ofInt x)]) (st := []) rfl rfl rfl rfl (c9_wipe_68 G Is2 (by first | exact ⟨p0.1, p0.2⟩ | omega)) rfl (Nat.le_of_ble_eq_true rfl) (fun s3 Is3 Fs3 hps3 => ?_)))
  have Gs3 := fm_tq Fs2 Fs3 rfl rfl
  refine z_bipush X rfl (z_store X (lv' := [(5, .int (Int32.ofInt 6)), (0, .ref (A 68)), (1, .int (Int32.ofInt x)), (2, .ref (A 92)), (3, .int (Int32.ofInt z)), (4, .int (Int32.ofInt w))]) rfl (by decide) (fun _ h => h) (z_const X rfl (z_store X (lv' := [(6, .int (Int32.ofInt 0)), (5, .int (Int32.ofInt 6)), (0, .ref (A 68)), (1, .int (Int32.ofInt x)), (2, .ref (A 92)), (3, .int (Int32.ofInt z)), (4, .int (Int32.ofInt w))]) rfl (by decide) (fun _ h => h) (WS_pq [2, 4, 3, 5, 6, 1, 0] (lv' := [(0, .ref (A 68)), (2, .ref (A 92)), (1, .int (Int32.ofInt x)), (3, .int (Int32.ofInt z)), (4, .int (Int32.ofInt w)), (5, .int (Int32.ofInt 6)), (6, .int (Int32.ofInt 0))]) rfl (L35 ((24 - 0 : Int).toNat + 1) s3 x z w 6 0 Is3 Gs3 (by first | exact ⟨And.intro (p0.1) (p0.2), And.intro (p1.1) (p1.2), And.intro (p2.1) (p2.2), And.intro (by decide) (by decide), by decide, by decide⟩ | omega) (Nat.lt_succ_self _) ?_)))))
  intro s5 x6 x7 Is5 Fs5 hs5
  exact w_vret X.1 q hRt (ax_d X (show cdA 107 153 = some (.return_, 1, 0, 0, 0) from rfl)) (Nat.zero_le _) (Nat.zero_le _) ⟨_, rfl, Is5, Fs5, rfl, trivial⟩
set_option maxRecDepth 4000 in
theorem c9_meetsOf_68 (G : GX l s0 D tys a0 dT) (I : Bd s) {x y z : Int} (p0 : 0 ≤ x ∧ x ≤ 11) (p1 : 0 ≤ y ∧ y ≤ 11) (p2 : 0 ≤ z ∧ z ≤ 1) : CT l s0 D A dT 111 (rmN 111) [.ref (A 68), .int (Int32.ofInt x), .int (Int32.ofInt y), .int (Int32.ofInt z)] s (fun o t => Bd t ∧ Fm [] [] s t ∧ ∃ e : Int64, o = .inl (some (.long e)) ∧ (True)) := by
  refine ct_ofX G (by decide) (Nat.le_of_ble_eq_true rfl) (fun k X E ET hRt hXt q => ?_)
  show WS k 0 [(0, .ref (A 68)), (1, .int (Int32.ofInt x)), (2, .int (Int32.ofInt y)), (3, .int (Int32.ofInt z))] [] _ 0 0
  have F : Fm [] [] s s := fm_rf _ _ s
  have L26 : ∀ (n : Nat) (t : PS) (xv : Int) (yv : Int) (zv : Int) (un : Int64) (g : Int), Bd t → Fm [] [] s t → ((0 ≤ xv ∧ xv ≤ 11) ∧ (0 ≤ yv ∧ yv ≤ 11) ∧ (0 ≤ zv ∧ zv ≤ 1) ∧ 0 ≤ g ∧ g ≤ 7) → (7 - g : Int).toNat < n → (∀ (t' : PS) (un' : Int64) (g' : Int), Bd t' → Fm [] [] s t' → ((0 ≤ xv ∧ xv ≤ 11) ∧ (0 ≤ yv ∧ yv ≤ 11) ∧ (0 ≤ zv ∧ zv ≤ 1) ∧ 0 ≤ g' ∧ g' ≤ 7) → WS k 88 [(0, .ref (A 68)), (1, .int (Int32.ofInt xv)), (2, .int (Int32.ofInt yv)), (3, .int (Int32.ofInt zv)), (4, .long un'), (6, .int (Int32.ofInt g'))] [] (Wd A dT t') 0 0) → WS k 26 [(0, .ref (A 68)), (1, .int (Int32.ofInt xv)), (2, .int (Int32.ofInt yv)), (3, .int (Int32.ofInt zv)), (4, .long un), (6, .int (Int32.ofInt g))] [] (Wd A dT t) 0 0 := by
    intro n
    induction n with
    | zero =>
      intro t xv yv zv un g I F hi hm kx
      exact absurd hm (Nat.not_lt_zero _)
    | succ n ih =>
      intro t xv yv zv un g I F hi hm kx
      refine z_load X (x := g) rfl (List.Mem.tail _ (List.Mem.tail _ (List.Mem.tail _ (List.Mem.tail _ (List.Mem.tail _ (List.Mem.head _)))))) (z_bipush X rfl (z_icmp_ge X (t := 88) rfl rfl ⟨by first | exact oq_fa4e5087 hi.2.2.2.1 | omega, by first | exact oq_0e78ca7d hi.2.2.2.2 | omega⟩ (by decide) (fun g1001 => ?_) (fun g1001 => ?_)))
      ·
        refine WS_pq [0, 1, 2, 3, 4, 5] (lv' := [(0, .ref (A 68)), (1, .int (Int32.ofInt xv)), (2, .int (Int32.ofInt yv)), (3, .int (Int32.ofInt zv)), (4, .long un), (6, .int (Int32.ofInt g))]) rfl ?_
        exact kx _ un g I F (by first | exact ⟨And.intro (hi.1.1) (hi.1.2), And.intro (hi.2.1.1) (hi.2.1.2), And.intro (hi.2.2.1.1) (hi.2.2.1.2), hi.2.2.2.1, hi.2.2.2.2⟩ | omega)
      ·
        refine w_lload X.1 (ax_d X (show cdA 111 33 = some (.lload 4, 2, 0, 0, 0) from rfl)) (x := un) (List.Mem.tail _ (List.Mem.tail _ (List.Mem.tail _ (List.Mem.tail _ (List.Mem.head _))))) (w_lconst X.1 (ax_d X (show cdA 111 35 = some (.lconst 0, 1, 0, 0, 0) from rfl)) rfl (z_anyJ (fun j1002 => ?_)))
        refine w_lcmp X.1 (ax_d X (show cdA 111 36 = some (.lcmp, 1, 0, 0, 0) from rfl)) (z_any (fun y1003 hy1003 => ?_))
        refine z_if_eq X (t := 88) rfl rfl hy1003 (fun g1004 => ?_) (fun g1004 => ?_)
        ·
          refine WS_pq [0, 1, 2, 3, 4, 5] (lv' := [(0, .ref (A 68)), (1, .int (Int32.ofInt xv)), (2, .int (Int32.ofInt yv)), (3, .int (Int32.ofInt zv)), (4, .long un), (6, .int (Int32.ofInt g))]) rfl ?_
          exact kx _ un g I F (by first | exact ⟨And.intro (hi.1.1) (hi.1.2), And.intro (hi.2.1.1) (hi.2.1.2), And.intro (hi.2.2.1.1) (hi.2.2.1.2), hi.2.2.2.1, hi.2.2.2.2⟩ | omega)
        ·
          refine w_lload X.1 (ax_d X (show cdA 111 40 = some (.lload 4, 2, 0, 0, 0) from rfl)) (x := un) (List.Mem.tail _ (List.Mem.tail _ (List.Mem.tail _ (List.Mem.tail _ (List.Mem.head _))))) (z_aload_n X (x := A 68) rfl (List.Mem.head _) (s_getR X 68 rfl (c518_ok rfl) rfl rfl (z_load_n X (x := xv) rfl (List.Mem.tail _ (List.Mem.head _)) (z_bipush X rfl (z_mul X rfl (z_load X (x := g) rfl (List.Mem.tail _ (List.Mem.tail _ (List.Mem.tail _ (List.Mem.tail _ (List.Mem.tail _ (List.Mem.head _)))))) (z_add X rfl (z_const X rfl (z_mul X rfl (z_load_n X (x := zv) rfl (List.Mem.tail _ (List.Mem.tail _ (List.Mem.tail _ (List.Mem.head _)))) (z_add X rfl ?_)))))))))))
          refine z_lald X 72 rfl (c518_ok rfl) rfl (by first | exact oq_952f4f1b hi.1.1 hi.2.2.2.1 hi.2.2.1.1 | omega) (show ((((xv * 7) + g) * 2) + zv) < 168 by first | exact oq_46bcb755 hi.1.2 hi.2.2.1.2 g1001 | omega) (cbig_ok rfl) (fun j1005 => ?_)
          refine z_aload_n X (x := A 68) rfl (List.Mem.head _) (s_getR X 68 rfl (c518_ok rfl) rfl rfl (z_load_n X (x := yv) rfl (List.Mem.tail _ (List.Mem.tail _ (List.Mem.head _))) (z_bipush X rfl (z_mul X rfl (z_load X (x := g) rfl (List.Mem.tail _ (List.Mem.tail _ (List.Mem.tail _ (List.Mem.tail _ (List.Mem.tail _ (List.Mem.head _)))))) (z_add X rfl (z_const X rfl (z_mul X rfl (z_load_n X (x := zv) rfl (List.Mem.tail _ (List.Mem.tail _ (List.Mem.tail _ (List.Mem.head _)))) (z_add X rfl (z_lald X 72 rfl (c518_ok rfl) rfl (by first | exact oq_952f4f1b hi.2.1.1 hi.2.2.2.1 hi.2.2.1.1 | omega) (show ((((yv * 7) + g) * 2) + zv) < 168 by first | exact oq_46bcb755 hi.2.1.2 hi.2.2.1.2 g1001 | omega) (cbig_ok rfl) (fun j1006 => ?_))))))))))))
          refine w_land X.1 (ax_d X (show cdA 111 74 = some (.land, 1, 0, 0, 0) from rfl)) (z_anyJ (fun j1007 => ?_))
          refine z_ldc2 X rfl (fun j1008 => ?_)
          refine w_lxor X.1 (ax_d X (show cdA 111 78 = some (.lxor, 1, 0, 0, 0) from rfl)) (z_anyJ (fun j1009 => ?_))
          refine w_land X.1 (ax_d X (show cdA 111 79 = some (.land, 1, 0, 0, 0) from rfl)) (z_anyJ (fun j1010 => ?_))
          refine w_lstore X.1 (lv' := [(4, .long j1010), (0, .ref (A 68)), (1, .int (Int32.ofInt xv)), (2, .int (Int32.ofInt yv)), (3, .int (Int32.ofInt zv)), (6, .int (Int32.ofInt g))]) (ax_d X (show cdA 111 80 = some (.lstore 4, 2, 0, 0, 0) from rfl)) (by rw [X.2.1.2.2]; decide) (fun _ h => h) (z_inc X (x := g) (lv' := [(6, .int (Int32.ofInt (g + 1))), (4, .long j1010), (0, .ref (A 68)), (1, .int (Int32.ofInt xv)), (2, .int (Int32.ofInt yv)), (3, .int (Int32.ofInt zv))]) rfl (by decide) (List.Mem.tail _ (List.Mem.tail _ (List.Mem.tail _ (List.Mem.tail _ (List.Mem.tail _ (List.Mem.head _)))))) (fun _ h => h) (z_goto X (t := 26) rfl rfl (WS_pq [2, 3, 4, 5, 1, 0] (lv' := [(0, .ref (A 68)), (1, .int (Int32.ofInt xv)), (2, .int (Int32.ofInt yv)), (3, .int (Int32.ofInt zv)), (4, .long j1010), (6, .int (Int32.ofInt (g + 1)))]) rfl ?_)))
          exact ih _ xv yv zv j1010 (g + 1) I F (by first | exact ⟨And.intro (hi.1.1) (hi.1.2), And.intro (hi.2.1.1) (hi.2.1.2), And.intro (hi.2.2.1.1) (hi.2.2.1.2), oq_54f49eb5 hi.2.2.2.1, oq_c22ff062 g1001⟩ | omega) (by first | exact qk_me hm (by decide) (oq_4b3bf825 g1001) | omega) kx
  refine z_aload_n X (x := A 68) rfl (List.Mem.head _) (s_getR X 68 rfl (c518_ok rfl) rfl rfl (z_load_n X (x := x) rfl (List.Mem.tail _ (List.Mem.head _)) (z_const X rfl (z_mul X rfl (z_load_n X (x := z) rfl (List.Mem.tail _ (List.Mem.tail _ (List.Mem.tail _ (List.Mem.head _)))) (z_add X rfl (z_lald X 71 rfl (c518_ok rfl) rfl (by first | exact oq_ff754f74 p0.1 p2.1 | omega) (show ((x * 2) + z) < 24 by first | exact oq_7b14761e p0.2 p2.2 | omega) (cbig_ok rfl) (fun j1 => ?_))))))))
  refine z_aload_n X (x := A 68) rfl (List.Mem.head _) (s_getR X 68 rfl (c518_ok rfl) rfl rfl (z_load_n X (x := y) rfl (List.Mem.tail _ (List.Mem.tail _ (List.Mem.head _))) (z_const X rfl (z_mul X rfl (z_load_n X (x := z) rfl (List.Mem.tail _ (List.Mem.tail _ (List.Mem.tail _ (List.Mem.head _)))) (z_add X rfl (z_lald X 71 rfl (c518_ok rfl) rfl (by first | exact oq_ff754f74 p1.1 p2.1 | omega) (show ((y * 2) + z) < 24 by first | exact oq_7b14761e p1.2 p2.2 | omega) (cbig_ok rfl) (fun j2 => ?_))))))))
  refine w_land X.1 (ax_d X (show cdA 111 20 = some (.land, 1, 0, 0, 0) from rfl)) (z_anyJ (fun j3 => ?_))
  refine w_lstore X.1 (lv' := [(4, .long j3), (0, .ref (A 68)), (1, .int (Int32.ofInt x)), (2, .int (Int32.ofInt y)), (3, .int (Int32.ofInt z))]) (ax_d X (show cdA 111 21 = some (.lstore 4, 2, 0, 0, 0) from rfl)) (by rw [X.2.1.2.2]; decide) (fun _ h => h) (z_const X rfl (z_store X (lv' := [(6, .int (Int32.ofInt 0)), (4, .long j3), (0, .ref (A 68)), (1, .int (Int32.ofInt x)), (2, .int (Int32.ofInt y)), (3, .int (Int32.ofInt z))]) rfl (by decide) (fun _ h => h) (WS_pq [2, 3, 4, 5, 1, 0] (lv' := [(0, .ref (A 68)), (1, .int (Int32.ofInt x)), (2, .int (Int32.ofInt y)), (3, .int (Int32.ofInt z)), (4, .long j3), (6, .int (Int32.ofInt 0))]) rfl (L26 ((7 - 0 : Int).toNat + 1) s x y z j3 0 I F (by first | exact ⟨And.intro (p0.1) (p0.2), And.intro (p1.1) (p1.2), And.intro (p2.1) (p2.2), by decide, by decide⟩ | omega) (Nat.lt_succ_self _) ?_))))
  intro s4 x5 x6 Is4 Fs4 hs4
  exact w_lload X.1 (ax_d X (show cdA 111 88 = some (.lload 4, 2, 0, 0, 0) from rfl)) (x := x5) (List.Mem.tail _ (List.Mem.tail _ (List.Mem.tail _ (List.Mem.tail _ (List.Mem.head _))))) (w_lret X.1 q hRt (ax_d X (show cdA 111 90 = some (.lreturn, 1, 0, 0, 0) from rfl)) (Nat.zero_le _) (Nat.zero_le _) ⟨_, rfl, Is4, Fs4, x5, rfl, trivial⟩)
set_option maxRecDepth 4000 in
theorem c9_pairUp_68 (G : GX l s0 D tys a0 dT) (I : Bd s)  : CT l s0 D A dT 110 (rmN 110) [.ref (A 68)] s (fun o t => Bd t ∧ Fm [44] [62, 1063] s t ∧ o = .inl none ∧ (True)) := by
  refine ct_ofX G (by decide) (Nat.le_of_ble_eq_true rfl) (fun k X E ET hRt hXt q => ?_)
  show WS k 0 [(0, .ref (A 68))] [] _ 0 0
  have F : Fm [44] [62, 1063] s s := fm_rf _ _ s
  have b1 := bi_43 I
  have b2 := bi_44 I
  have L19 : ∀ (n : Nat) (t : PS) (a b : Int), Bd t → Fm [44] [62, 1063] s t → ((0 ≤ a ∧ a ≤ 11) ∧ 0 ≤ b ∧ b ≤ 12) → (12 - b : Int).toNat < n → (∀ (t' : PS) (b' : Int), Bd t' → Fm [44] [62, 1063] s t' → ((0 ≤ a ∧ a ≤ 11) ∧ 0 ≤ b' ∧ b' ≤ 12) → WS k 120 [(0, .ref (A 68)), (1, .int (Int32.ofInt a)), (2, .int (Int32.ofInt b'))] [] (Wd A dT t') 0 0) → WS k 19 [(0, .ref (A 68)), (1, .int (Int32.ofInt a)), (2, .int (Int32.ofInt b))] [] (Wd A dT t) 0 0 := by
    intro n
    induction n with
    | zero =>
      intro t a b I F hi hm kx
      exact absurd hm (Nat.not_lt_zero _)
    | succ n ih =>
      intro t a b I F hi hm kx
      have b1001 := bi_43 I
      have b1002 := bi_44 I
      refine z_load_n X (x := b) rfl (List.Mem.tail _ (List.Mem.tail _ (List.Mem.head _))) (z_aload_n X (x := A 68) rfl (List.Mem.head _) (z_getI X 68 rfl (c518_ok rfl) rfl rfl ?_))
      have b1003 := bi_43 I
      refine z_icmp_ge X (t := 120) rfl rfl ⟨by first | exact oq_fa4e5087 hi.2.1 | omega, by first | exact oq_78843a64 hi.2.2 | omega⟩ (rng_to _) (fun g1004 => ?_) (fun g1004 => ?_)
      ·
        refine WS_pq [0, 1, 2] (lv' := [(0, .ref (A 68)), (1, .int (Int32.ofInt a)), (2, .int (Int32.ofInt b))]) rfl ?_
        exact kx _ b I F (by first | exact ⟨And.intro (hi.1.1) (hi.1.2), hi.2.1, hi.2.2⟩ | omega)
      ·
        refine z_aload_n X (x := A 68) rfl (List.Mem.head _) (z_load_n X (x := a) rfl (List.Mem.tail _ (List.Mem.head _)) (z_load_n X (x := b) rfl (List.Mem.tail _ (List.Mem.tail _ (List.Mem.head _))) (z_const X rfl (z_callV X 68 (rm := rmN 111) (As := [.int (Int32.ofInt a), .int (Int32.ofInt b), .int (Int32.ofInt 0)]) (st := []) rfl rfl (by decide) rfl (by rw [E.1, E.2.1, E.2.2.1]; exact c9_meetsOf_68 G I (by first | exact ⟨hi.1.1, hi.1.2⟩ | omega) (by first | exact ⟨hi.2.1, oq_e4d7f3c5 g1004 b1003.2⟩ | omega) (by first | exact ⟨by decide, by decide⟩ | omega)) ⟨by rw [E.2.2.2]; exact (show (rmN 111).frames + 1 ≤ (rmN 110).frames by decide), by rw [E.2.2.2]; exact (show 8 + (mNL (miB 111) + 11) + (rmN 111).locals ≤ (rmN 110).locals by decide), by rw [E.2.2.2]; exact (show 0 + (rmN 111).cells ≤ (rmN 110).cells by decide), by rw [E.2.2.2]; exact (show 0 + (rmN 111).slots ≤ (rmN 110).slots by decide)⟩ (Nat.le_of_ble_eq_true rfl) (fun vv s1005 hq => ?_) (fun ee s1005 hq => ?_)))))
        rotate_left
        · obtain ⟨Is1005, Fs1005, e1006, hv, hrs1005, hps1005⟩ := hq; cases hv
        obtain ⟨Is1005, Fs1005, e1006, hv, hrs1005, hps1005⟩ := hq
        cases hv
        have Gs1005 := fm_tq F Fs1005 rfl rfl
        have ws1005_43 : iI s1005 43 = iI t 43 := fm_iq Fs1005 rfl
        have ws1005_44 : iI s1005 44 = iI t 44 := fm_iq Fs1005 rfl
        show WS k 34 [(0, .ref (A 68)), (1, .int (Int32.ofInt a)), (2, .int (Int32.ofInt b))] [.long e1006] (Wd A dT s1005) 0 0
        refine w_lstore_n X.1 (lv' := [(3, .long e1006), (0, .ref (A 68)), (1, .int (Int32.ofInt a)), (2, .int (Int32.ofInt b))]) (ax_d X (show cdA 110 34 = some (.lstore_n 3, 1, 0, 0, 0) from rfl)) (by rw [X.2.1.2.2]; decide) (fun _ h => h) (z_aload_n X (x := A 68) rfl (List.Mem.tail _ (List.Mem.head _)) (z_load_n X (x := a) rfl (List.Mem.tail _ (List.Mem.tail _ (List.Mem.head _))) (z_load_n X (x := b) rfl (List.Mem.tail _ (List.Mem.tail _ (List.Mem.tail _ (List.Mem.head _)))) (z_const X rfl (z_callV X 68 (rm := rmN 111) (As := [.int (Int32.ofInt a), .int (Int32.ofInt b), .int (Int32.ofInt 1)]) (st := []) rfl rfl (by decide) rfl (by rw [E.1, E.2.1, E.2.2.1]; exact c9_meetsOf_68 G Is1005 (by first | exact ⟨hi.1.1, hi.1.2⟩ | omega) (by first | exact ⟨hi.2.1, oq_e4d7f3c5 g1004 b1003.2⟩ | omega) (by first | exact ⟨by decide, by decide⟩ | omega)) ⟨by rw [E.2.2.2]; exact (show (rmN 111).frames + 1 ≤ (rmN 110).frames by decide), by rw [E.2.2.2]; exact (show 8 + (mNL (miB 111) + 11) + (rmN 111).locals ≤ (rmN 110).locals by decide), by rw [E.2.2.2]; exact (show 0 + (rmN 111).cells ≤ (rmN 110).cells by decide), by rw [E.2.2.2]; exact (show 0 + (rmN 111).slots ≤ (rmN 110).slots by decide)⟩ (Nat.le_of_ble_eq_true rfl) (fun vv s1007 hq => ?_) (fun ee s1007 hq => ?_))))))
        rotate_left
        · obtain ⟨Is1007, Fs1007, e1008, hv, hrs1007, hps1007⟩ := hq; cases hv
        obtain ⟨Is1007, Fs1007, e1008, hv, hrs1007, hps1007⟩ := hq
        cases hv
        have Gs1007 := fm_tq Gs1005 Fs1007 rfl rfl
        have ws1007_43 : iI s1007 43 = iI s1005 43 := fm_iq Fs1007 rfl
        have ws1007_44 : iI s1007 44 = iI s1005 44 := fm_iq Fs1007 rfl
        show WS k 42 [(3, .long e1006), (0, .ref (A 68)), (1, .int (Int32.ofInt a)), (2, .int (Int32.ofInt b))] [.long e1008] (Wd A dT s1007) 0 0
        refine w_lstore X.1 (lv' := [(5, .long e1008), (3, .long e1006), (0, .ref (A 68)), (1, .int (Int32.ofInt a)), (2, .int (Int32.ofInt b))]) (ax_d X (show cdA 110 42 = some (.lstore 5, 2, 0, 0, 0) from rfl)) (by rw [X.2.1.2.2]; decide) (fun _ h => h) (w_lload_n X.1 (ax_d X (show cdA 110 44 = some (.lload_n 3, 1, 0, 0, 0) from rfl)) (x := e1006) (List.Mem.tail _ (List.Mem.head _)) (w_lload X.1 (ax_d X (show cdA 110 45 = some (.lload 5, 2, 0, 0, 0) from rfl)) (x := e1008) (List.Mem.head _) (w_lor X.1 (ax_d X (show cdA 110 47 = some (.lor, 1, 0, 0, 0) from rfl)) (z_anyJ (fun j1009 => ?_)))))
        refine w_lconst X.1 (ax_d X (show cdA 110 48 = some (.lconst 0, 1, 0, 0, 0) from rfl)) rfl (z_anyJ (fun j1010 => ?_))
        refine w_lcmp X.1 (ax_d X (show cdA 110 49 = some (.lcmp, 1, 0, 0, 0) from rfl)) (z_any (fun y1011 hy1011 => ?_))
        refine z_if_eq X (t := 114) rfl rfl hy1011 (fun g1012 => ?_) (fun g1012 => ?_)
        ·
          refine z_inc X (x := b) (lv' := [(2, .int (Int32.ofInt (b + 1))), (5, .long e1008), (3, .long e1006), (0, .ref (A 68)), (1, .int (Int32.ofInt a))]) rfl (by decide) (List.Mem.tail _ (List.Mem.tail _ (List.Mem.tail _ (List.Mem.tail _ (List.Mem.head _))))) (fun _ h => h) (z_goto X (t := 19) rfl rfl (WS_pq [3, 4, 0] (lv' := [(0, .ref (A 68)), (1, .int (Int32.ofInt a)), (2, .int (Int32.ofInt (b + 1)))]) rfl ?_))
          exact ih _ a (b + 1) Is1007 Gs1007 (by first | exact ⟨And.intro (hi.1.1) (hi.1.2), oq_54f49eb5 hi.2.1, oq_4dae995e g1004 b1003.2⟩ | omega) (by first | exact qk_me hm (by decide) (oq_b575e8c1 g1004 b1003.2) | omega) kx
        ·
          refine z_aload_n X (x := A 68) rfl (List.Mem.tail _ (List.Mem.tail _ (List.Mem.head _))) (z_getI X 68 rfl (c518_ok rfl) rfl rfl ?_)
          have b1013 := bi_44 Is1007
          refine z_bipush X rfl (z_icmp_ge X (t := 114) rfl rfl (rng_to _) (by decide) (fun g1014 => ?_) (fun g1014 => ?_))
          ·
            refine z_inc X (x := b) (lv' := [(2, .int (Int32.ofInt (b + 1))), (5, .long e1008), (3, .long e1006), (0, .ref (A 68)), (1, .int (Int32.ofInt a))]) rfl (by decide) (List.Mem.tail _ (List.Mem.tail _ (List.Mem.tail _ (List.Mem.tail _ (List.Mem.head _))))) (fun _ h => h) (z_goto X (t := 19) rfl rfl (WS_pq [3, 4, 0] (lv' := [(0, .ref (A 68)), (1, .int (Int32.ofInt a)), (2, .int (Int32.ofInt (b + 1)))]) rfl ?_))
            exact ih _ a (b + 1) Is1007 Gs1007 (by first | exact ⟨And.intro (hi.1.1) (hi.1.2), oq_54f49eb5 hi.2.1, oq_4dae995e g1004 b1003.2⟩ | omega) (by first | exact qk_me hm (by decide) (oq_b575e8c1 g1004 b1003.2) | omega) kx
          ·
            refine z_aload_n X (x := A 68) rfl (List.Mem.tail _ (List.Mem.tail _ (List.Mem.head _))) (s_getR X 68 rfl (c518_ok rfl) rfl rfl (z_aload_n X (x := A 68) rfl (List.Mem.tail _ (List.Mem.tail _ (List.Mem.head _))) (z_getI X 68 rfl (c518_ok rfl) rfl rfl ?_)))
            have b1015 := bi_44 Is1007
            refine z_load_n X (x := a) rfl (List.Mem.tail _ (List.Mem.tail _ (List.Mem.tail _ (List.Mem.head _)))) (z_bipush X rfl (z_mul X rfl (z_load_n X (x := b) rfl (List.Mem.tail _ (List.Mem.tail _ (List.Mem.tail _ (List.Mem.tail _ (List.Mem.head _))))) (z_add X rfl (z_ast X 74 rfl (c518_ok rfl) rfl (by first | exact b1015.1 | omega) (show (iI s1007 44) < 66 by first | exact g1014 | omega) (cbig_ok rfl) (wd_gen (fun s1016 hs1016 => ?_)))))))
            have Is1016 : Bd s1016 := eqB hs1016 (bd_C Is1007 (show (0 : Int) ≤ ((a * 12) + b) ∧ ((a * 12) + b) ≤ 143 by first | exact ⟨oq_0f03f1de hi.1.1 hi.2.1, oq_46995298 hi.1.2 g1004 b1003.2⟩ | omega) ⟨by first | exact oq_19cf0865 hi.1.1 hi.2.1 | omega, by first | exact oq_b7b88ba9 hi.1.2 hi.2.2 | omega⟩)
            have Fs1016 := eqF hs1016 (fm_C Gs1007 (inl_ok (a := 62) rfl))
            have ws1016_43 : iI s1016 43 = iI s1007 43 := eqI hs1016 rfl
            have ws1016_44 : iI s1016 44 = iI s1007 44 := eqI hs1016 rfl
            refine z_aload_n X (x := A 68) rfl (List.Mem.tail _ (List.Mem.tail _ (List.Mem.head _))) (s_getR X 68 rfl (c518_ok rfl) rfl rfl (z_aload_n X (x := A 68) rfl (List.Mem.tail _ (List.Mem.tail _ (List.Mem.head _))) (z_getI X 68 rfl (c518_ok rfl) rfl rfl ?_)))
            have b1017 := bi_44 Is1016
            refine z_const X rfl (z_mul X rfl (w_lload_n X.1 (ax_d X (show cdA 110 87 = some (.lload_n 3, 1, 0, 0, 0) from rfl)) (x := e1006) (List.Mem.tail _ (List.Mem.head _)) (z_last X 75 rfl (c518_ok rfl) rfl (by first | exact oq_cfc6ac54 b1017.1 | omega) (show ((iI s1016 44) * 2) < 132 by first | exact oq_0ba3fcc8 ws1016_44 g1014 | omega) (cbig_ok rfl) (wd_gen (fun s1018 hs1018 => ?_)))))
            have Is1018 : Bd s1018 := eqB hs1018 (bd_D Is1016)
            have Fs1018 : Fm [44] [62, 1063] s s1018 := by rw [hs1018]; exact fm_D Fs1016 (show 63 + 1000 ∈ _ by decide)
            have ws1018_43 : iI s1018 43 = iI s1016 43 := eqI hs1018 rfl
            have ws1018_44 : iI s1018 44 = iI s1016 44 := eqI hs1018 rfl
            refine z_aload_n X (x := A 68) rfl (List.Mem.tail _ (List.Mem.tail _ (List.Mem.head _))) (s_getR X 68 rfl (c518_ok rfl) rfl rfl (z_aload_n X (x := A 68) rfl (List.Mem.tail _ (List.Mem.tail _ (List.Mem.head _))) (z_getI X 68 rfl (c518_ok rfl) rfl rfl ?_)))
            have b1019 := bi_44 Is1018
            refine z_const X rfl (z_mul X rfl (z_const X rfl (z_add X rfl (w_lload X.1 (ax_d X (show cdA 110 101 = some (.lload 5, 2, 0, 0, 0) from rfl)) (x := e1008) (List.Mem.head _) (z_last X 75 rfl (c518_ok rfl) rfl (by first | exact oq_8a3e0277 b1019.1 | omega) (show (((iI s1018 44) * 2) + 1) < 132 by first | exact oq_1191648c ws1018_44 ws1016_44 g1014 | omega) (cbig_ok rfl) (wd_gen (fun s1020 hs1020 => ?_)))))))
            have Is1020 : Bd s1020 := eqB hs1020 (bd_D Is1018)
            have Fs1020 : Fm [44] [62, 1063] s s1020 := by rw [hs1020]; exact fm_D Fs1018 (show 63 + 1000 ∈ _ by decide)
            have ws1020_43 : iI s1020 43 = iI s1018 43 := eqI hs1020 rfl
            have ws1020_44 : iI s1020 44 = iI s1018 44 := eqI hs1020 rfl
            refine z_aload_n X (x := A 68) rfl (List.Mem.tail _ (List.Mem.tail _ (List.Mem.head _))) (w_dup X.1 (ax_d X (show cdA 110 105 = some (.dup, 1, 0, 0, 0) from rfl)) rfl (z_getI X 68 rfl (c518_ok rfl) rfl rfl ?_))
            have b1021 := bi_44 Is1020
            refine z_const X rfl (z_add X rfl (s_putI X 68 rfl (c518_ok rfl) rfl rfl (by decide) rfl rfl rfl (wd_gen (fun s1022 hs1022 => ?_))))
            have Is1022 : Bd s1022 := eqB hs1022 (bd_I Is1020 (show (0 : Int) ≤ ((iI s1020 44) + 1) ∧ ((iI s1020 44) + 1) ≤ 66 by first | exact ⟨oq_54f49eb5 b1021.1, oq_98f08201 ws1020_44 ws1018_44 ws1016_44 g1014⟩ | omega) ⟨by first | exact oq_74de1e16 b1021.1 | omega, by first | exact oq_d99c2177 b1021.2 | omega⟩)
            have Fs1022 := eqF hs1022 (fm_I Fs1020 (inl_ok (a := 44) rfl))
            have vs1022 : iI s1022 44 = ((iI s1020 44) + 1) := eqI hs1022 (iI_u ⟨by first | exact oq_74de1e16 b1021.1 | omega, by first | exact oq_d99c2177 b1021.2 | omega⟩)
            have ws1022_43 : iI s1022 43 = iI s1020 43 := eqI hs1022 rfl
            refine z_inc X (x := b) (lv' := [(2, .int (Int32.ofInt (b + 1))), (5, .long e1008), (3, .long e1006), (0, .ref (A 68)), (1, .int (Int32.ofInt a))]) rfl (by decide) (List.Mem.tail _ (List.Mem.tail _ (List.Mem.tail _ (List.Mem.tail _ (List.Mem.head _))))) (fun _ h => h) (z_goto X (t := 19) rfl rfl (WS_pq [3, 4, 0] (lv' := [(0, .ref (A 68)), (1, .int (Int32.ofInt a)), (2, .int (Int32.ofInt (b + 1)))]) rfl ?_))
            exact ih _ a (b + 1) Is1022 Fs1022 (by first | exact ⟨And.intro (hi.1.1) (hi.1.2), oq_54f49eb5 hi.2.1, oq_4dae995e g1004 b1003.2⟩ | omega) (by first | exact qk_me hm (by decide) (oq_b575e8c1 g1004 b1003.2) | omega) kx
  have L7 : ∀ (n : Nat) (t : PS) (a : Int), Bd t → Fm [44] [62, 1063] s t → (0 ≤ a ∧ a ≤ 12) → (12 - a : Int).toNat < n → (∀ (t' : PS) (a' : Int), Bd t' → Fm [44] [62, 1063] s t' → (0 ≤ a' ∧ a' ≤ 12) → WS k 126 [(0, .ref (A 68)), (1, .int (Int32.ofInt a'))] [] (Wd A dT t') 0 0) → WS k 7 [(0, .ref (A 68)), (1, .int (Int32.ofInt a))] [] (Wd A dT t) 0 0 := by
    intro n
    induction n with
    | zero =>
      intro t a I F hi hm kx
      exact absurd hm (Nat.not_lt_zero _)
    | succ n ih =>
      intro t a I F hi hm kx
      have b2001 := bi_43 I
      have b2002 := bi_44 I
      refine z_load_n X (x := a) rfl (List.Mem.tail _ (List.Mem.head _)) (z_aload_n X (x := A 68) rfl (List.Mem.head _) (z_getI X 68 rfl (c518_ok rfl) rfl rfl ?_))
      have b2003 := bi_43 I
      refine z_icmp_ge X (t := 126) rfl rfl ⟨by first | exact oq_fa4e5087 hi.1 | omega, by first | exact oq_78843a64 hi.2 | omega⟩ (rng_to _) (fun g2004 => ?_) (fun g2004 => ?_)
      ·
        refine WS_pq [0, 1] (lv' := [(0, .ref (A 68)), (1, .int (Int32.ofInt a))]) rfl ?_
        exact kx _ a I F (by first | exact ⟨hi.1, hi.2⟩ | omega)
      ·
        refine z_load_n X (x := a) rfl (List.Mem.tail _ (List.Mem.head _)) (z_const X rfl (z_add X rfl (z_store_n X (lv' := [(2, .int (Int32.ofInt (a + 1))), (0, .ref (A 68)), (1, .int (Int32.ofInt a))]) rfl (by decide) (fun _ h => h) (WS_pq [1, 2, 0] (lv' := [(0, .ref (A 68)), (1, .int (Int32.ofInt a)), (2, .int (Int32.ofInt (a + 1)))]) rfl (L19 ((12 - (a + 1) : Int).toNat + 1) t a (a + 1) I F (by first | exact ⟨And.intro (hi.1) (oq_e4d7f3c5 g2004 b2003.2), oq_54f49eb5 hi.1, oq_4dae995e g2004 b2003.2⟩ | omega) (Nat.lt_succ_self _) ?_)))))
        intro s2005 x2006 Is2005 Fs2005 hs2005
        have b2007 := bi_43 Is2005
        have b2008 := bi_44 Is2005
        refine z_inc X (x := a) (lv' := [(1, .int (Int32.ofInt (a + 1))), (0, .ref (A 68)), (2, .int (Int32.ofInt x2006))]) rfl (by decide) (List.Mem.tail _ (List.Mem.head _)) (fun _ h => h) (z_goto X (t := 7) rfl rfl (WS_pq [1, 0] (lv' := [(0, .ref (A 68)), (1, .int (Int32.ofInt (a + 1)))]) rfl ?_))
        exact ih _ (a + 1) Is2005 Fs2005 (by first | exact ⟨oq_54f49eb5 hs2005.1.1, oq_51d1204d hs2005.1.2⟩ | omega) (by first | exact qk_me hm (by decide) (oq_8b937940 hs2005.1.2) | omega) kx
  refine z_aload_n X (x := A 68) rfl (List.Mem.head _) (z_const X rfl (s_putI X 68 rfl (c518_ok rfl) rfl rfl (by decide) rfl rfl rfl (wd_gen (fun s3 hs3 => ?_))))
  have Is3 : Bd s3 := eqB hs3 (bd_I I (show (0 : Int) ≤ 0 ∧ 0 ≤ 66 by first | exact ⟨by decide, by decide⟩ | omega) (by decide))
  have Fs3 := eqF hs3 (fm_I F (inl_ok (a := 44) rfl))
  have vs3 : iI s3 44 = 0 := eqI hs3 (iI_u (by decide))
  have ws3_43 : iI s3 43 = iI s 43 := eqI hs3 rfl
  refine z_const X rfl (z_store_n X (lv' := [(1, .int (Int32.ofInt 0)), (0, .ref (A 68))]) rfl (by decide) (fun _ h => h) (WS_pq [1, 0] (lv' := [(0, .ref (A 68)), (1, .int (Int32.ofInt 0))]) rfl (L7 ((12 - 0 : Int).toNat + 1) s3 0 Is3 Fs3 (by first | exact ⟨by decide, by decide⟩ | omega) (Nat.lt_succ_self _) ?_)))
  intro s4 x5 Is4 Fs4 hs4
  have b6 := bi_43 Is4
  have b7 := bi_44 Is4
  exact w_vret X.1 q hRt (ax_d X (show cdA 110 126 = some (.return_, 1, 0, 0, 0) from rfl)) (Nat.zero_le _) (Nat.zero_le _) ⟨_, rfl, Is4, Fs4, rfl, trivial⟩
set_option maxRecDepth 4000 in
theorem c9_allMeets_3 (G : GX l s0 D tys a0 dT) (I : Bd s) {x : Int} (p0 : 0 ≤ x ∧ x ≤ 1) : CT l s0 D A dT 112 (rmN 112) [.ref (A 3), .int (Int32.ofInt x)] s (fun o t => Bd t ∧ Fm [] [] s t ∧ ∃ e : Int64, o = .inl (some (.long e)) ∧ (True)) := by
  refine ct_ofX G (by decide) (Nat.le_of_ble_eq_true rfl) (fun k X E ET hRt hXt q => ?_)
  show WS k 0 [(0, .ref (A 3)), (1, .int (Int32.ofInt x))] [] _ 0 0
  have F : Fm [] [] s s := fm_rf _ _ s
  have b1 := bi_10 I
  have L5 : ∀ (n : Nat) (t : PS) (xv : Int) (al : Int64) (c : Int), Bd t → Fm [] [] s t → ((0 ≤ xv ∧ xv ≤ 1) ∧ 0 ≤ c ∧ c ≤ 66) → (66 - c : Int).toNat < n → (∀ (t' : PS) (al' : Int64) (c' : Int), Bd t' → Fm [] [] s t' → ((0 ≤ xv ∧ xv ≤ 1) ∧ 0 ≤ c' ∧ c' ≤ 66) → WS k 34 [(0, .ref (A 3)), (1, .int (Int32.ofInt xv)), (2, .long al'), (4, .int (Int32.ofInt c'))] [] (Wd A dT t') 0 0) → WS k 5 [(0, .ref (A 3)), (1, .int (Int32.ofInt xv)), (2, .long al), (4, .int (Int32.ofInt c))] [] (Wd A dT t) 0 0 := by
    intro n
    induction n with
    | zero =>
      intro t xv al c I F hi hm kx
      exact absurd hm (Nat.not_lt_zero _)
    | succ n ih =>
      intro t xv al c I F hi hm kx
      have b1001 := bi_10 I
      refine z_load X (x := c) rfl (List.Mem.tail _ (List.Mem.tail _ (List.Mem.tail _ (List.Mem.head _)))) (z_aload_n X (x := A 3) rfl (List.Mem.head _) (z_getI X 3 rfl (c518_ok rfl) rfl rfl ?_))
      have b1002 := bi_10 I
      refine z_icmp_ge X (t := 34) rfl rfl ⟨by first | exact oq_fa4e5087 hi.2.1 | omega, by first | exact oq_64f2e926 hi.2.2 | omega⟩ (rng_to _) (fun g1003 => ?_) (fun g1003 => ?_)
      ·
        refine WS_pq [0, 1, 2, 3] (lv' := [(0, .ref (A 3)), (1, .int (Int32.ofInt xv)), (2, .long al), (4, .int (Int32.ofInt c))]) rfl ?_
        exact kx _ al c I F (by first | exact ⟨And.intro (hi.1.1) (hi.1.2), hi.2.1, hi.2.2⟩ | omega)
      ·
        refine w_lload_n X.1 (ax_d X (show cdA 112 14 = some (.lload_n 2, 1, 0, 0, 0) from rfl)) (x := al) (List.Mem.tail _ (List.Mem.tail _ (List.Mem.head _))) (z_aload_n X (x := A 3) rfl (List.Mem.head _) (s_getR X 3 rfl (c518_ok rfl) rfl rfl (z_load X (x := c) rfl (List.Mem.tail _ (List.Mem.tail _ (List.Mem.tail _ (List.Mem.head _)))) (z_const X rfl (z_mul X rfl (z_load_n X (x := xv) rfl (List.Mem.tail _ (List.Mem.head _)) (z_add X rfl (z_lald X 10 rfl (c518_ok rfl) rfl (by first | exact oq_ff754f74 hi.2.1 hi.1.1 | omega) (show ((c * 2) + xv) < 132 by first | exact oq_9ab75a0e hi.1.2 g1003 b1002.2 | omega) (cbig_ok rfl) (fun j1004 => ?_)))))))))
        refine w_lor X.1 (ax_d X (show cdA 112 26 = some (.lor, 1, 0, 0, 0) from rfl)) (z_anyJ (fun j1005 => ?_))
        refine w_lstore_n X.1 (lv' := [(2, .long j1005), (0, .ref (A 3)), (1, .int (Int32.ofInt xv)), (4, .int (Int32.ofInt c))]) (ax_d X (show cdA 112 27 = some (.lstore_n 2, 1, 0, 0, 0) from rfl)) (by rw [X.2.1.2.2]; decide) (fun _ h => h) (z_inc X (x := c) (lv' := [(4, .int (Int32.ofInt (c + 1))), (2, .long j1005), (0, .ref (A 3)), (1, .int (Int32.ofInt xv))]) rfl (by decide) (List.Mem.tail _ (List.Mem.tail _ (List.Mem.tail _ (List.Mem.head _)))) (fun _ h => h) (z_goto X (t := 5) rfl rfl (WS_pq [2, 3, 1, 0] (lv' := [(0, .ref (A 3)), (1, .int (Int32.ofInt xv)), (2, .long j1005), (4, .int (Int32.ofInt (c + 1)))]) rfl ?_)))
        exact ih _ xv j1005 (c + 1) I F (by first | exact ⟨And.intro (hi.1.1) (hi.1.2), oq_54f49eb5 hi.2.1, oq_319a18a4 g1003 b1002.2⟩ | omega) (by first | exact qk_me hm (by decide) (oq_dd0e9829 g1003 b1002.2) | omega) kx
  refine w_lconst X.1 (ax_d X (show cdA 112 0 = some (.lconst 0, 1, 0, 0, 0) from rfl)) rfl (z_anyJ (fun j2 => ?_))
  refine w_lstore_n X.1 (lv' := [(2, .long j2), (0, .ref (A 3)), (1, .int (Int32.ofInt x))]) (ax_d X (show cdA 112 1 = some (.lstore_n 2, 1, 0, 0, 0) from rfl)) (by rw [X.2.1.2.2]; decide) (fun _ h => h) (z_const X rfl (z_store X (lv' := [(4, .int (Int32.ofInt 0)), (2, .long j2), (0, .ref (A 3)), (1, .int (Int32.ofInt x))]) rfl (by decide) (fun _ h => h) (WS_pq [2, 3, 1, 0] (lv' := [(0, .ref (A 3)), (1, .int (Int32.ofInt x)), (2, .long j2), (4, .int (Int32.ofInt 0))]) rfl (L5 ((66 - 0 : Int).toNat + 1) s x j2 0 I F (by first | exact ⟨And.intro (p0.1) (p0.2), by decide, by decide⟩ | omega) (Nat.lt_succ_self _) ?_))))
  intro s3 x4 x5 Is3 Fs3 hs3
  have b6 := bi_10 Is3
  exact w_lload_n X.1 (ax_d X (show cdA 112 34 = some (.lload_n 2, 1, 0, 0, 0) from rfl)) (x := x4) (List.Mem.tail _ (List.Mem.tail _ (List.Mem.head _))) (w_lret X.1 q hRt (ax_d X (show cdA 112 35 = some (.lreturn, 1, 0, 0, 0) from rfl)) (Nat.zero_le _) (Nat.zero_le _) ⟨_, rfl, Is3, Fs3, x4, rfl, trivial⟩)
set_option maxRecDepth 4000 in
theorem c9_cellAt_3 (G : GX l s0 D tys a0 dT) (I : Bd s) {x y : Int} (p0 : 0 ≤ x ∧ x ≤ 11) (p1 : rng y) : CT l s0 D A dT 113 (rmN 113) [.ref (A 3), .int (Int32.ofInt x), .int (Int32.ofInt y)] s (fun o t => Bd t ∧ Fm [] [] s t ∧ ∃ e, o = .inl (some (.int (Int32.ofInt e))) ∧ rng e ∧ (-1 ≤ e ∧ e ≤ 127)) := by
  refine ct_ofX G (by decide) (Nat.le_of_ble_eq_true rfl) (fun k X E ET hRt hXt q => ?_)
  show WS k 0 [(0, .ref (A 3)), (1, .int (Int32.ofInt x)), (2, .int (Int32.ofInt y))] [] _ 0 0
  have F : Fm [] [] s s := fm_rf _ _ s
  refine z_load_n X (x := y) rfl (List.Mem.tail _ (List.Mem.tail _ (List.Mem.head _))) ?_
  have N1 : ∀ e2 : Int, (((y < 0) ∧ e2 = (-1)) ∨ ((0 ≤ y) ∧ ((0 : Int) ≤ iC s 2 (x).toNat ∧ iC s 2 (x).toNat ≤ 24) ∧ ((iC s 2 (x).toNat) ≤ y) ∧ e2 = (-1)) ∨ ((0 ≤ y) ∧ ((0 : Int) ≤ iC s 2 (x).toNat ∧ iC s 2 (x).toNat ≤ 24) ∧ (y < (iC s 2 (x).toNat)) ∧ ((0 : Int) ≤ iC s 1 (((x * 24) + y)).toNat ∧ iC s 1 (((x * 24) + y)).toNat ≤ 127) ∧ e2 = (iC s 1 (((x * 24) + y)).toNat))) → WS k 29 [(0, .ref (A 3)), (1, .int (Int32.ofInt x)), (2, .int (Int32.ofInt y))] [.int (Int32.ofInt e2)] (Wd A dT s) 0 0 := by
    intro e2 he2
    exact w_iret X.1 q hRt rfl (ax_d X (show cdA 113 29 = some (.ireturn, 1, 0, 0, 0) from rfl)) (Nat.zero_le _) (Nat.zero_le _) ⟨_, rfl, I, F, e2, rfl, ⟨by first | exact oq_2f662a89 he2 | omega, by first | exact oq_e7a50a6f he2 | omega⟩, by first | exact ⟨oq_c5daf206 he2, oq_1c80a01a he2⟩ | omega⟩
  refine z_if_lt X (t := 28) rfl rfl ⟨by first | exact p1.1 | omega, by first | exact p1.2 | omega⟩ (fun g3 => ?_) (fun g3 => ?_)
  ·
    exact z_const X rfl (N1 _ (Or.inl ⟨g3, rfl⟩))
  ·
    refine z_load_n X (x := y) rfl (List.Mem.tail _ (List.Mem.tail _ (List.Mem.head _))) (z_aload_n X (x := A 3) rfl (List.Mem.head _) (s_getR X 3 rfl (c518_ok rfl) rfl rfl (z_load_n X (x := x) rfl (List.Mem.tail _ (List.Mem.head _)) (z_ald X 5 rfl (c518_ok rfl) rfl (by first | exact p0.1 | omega) (show x < 12 by first | exact oq_0ddfcfee p0.2 | omega) (cbig_ok rfl) ?_))))
    have b4 := bc_2 I (show (x).toNat < 12 by first | exact oq_9c5fa447 p0.2 | omega)
    refine z_icmp_ge X (t := 28) rfl rfl ⟨by first | exact p1.1 | omega, by first | exact p1.2 | omega⟩ (rng_to _) (fun g5 => ?_) (fun g5 => ?_)
    ·
      exact z_const X rfl (N1 _ (Or.inr (Or.inl ⟨g3, b4, g5, rfl⟩)))
    ·
      refine z_aload_n X (x := A 3) rfl (List.Mem.head _) (s_getR X 3 rfl (c518_ok rfl) rfl rfl (z_load_n X (x := x) rfl (List.Mem.tail _ (List.Mem.head _)) (z_bipush X rfl (z_mul X rfl (z_load_n X (x := y) rfl (List.Mem.tail _ (List.Mem.tail _ (List.Mem.head _))) (z_add X rfl (z_ald X 4 rfl (c518_ok rfl) rfl (by first | exact oq_4071a75f p0.1 g3 | omega) (show ((x * 24) + y) < 288 by first | exact oq_54efb6a2 p0.2 g5 b4.2 | omega) (cbig_ok rfl) ?_)))))))
      have b6 := bc_1 I (show (((x * 24) + y)).toNat < 288 by first | exact oq_2f719579 p0.2 g5 b4.2 | omega)
      exact z_goto X (t := 29) rfl rfl (N1 _ (Or.inr (Or.inr (⟨g3, b4, g5, b6, rfl⟩))))
set_option maxRecDepth 4000 in
theorem c9_comesTo_3 (G : GX l s0 D tys a0 dT) (I : Bd s) {x y : Int} (p0 : 0 ≤ x ∧ x ≤ 11) (p1 : 0 ≤ y ∧ y ≤ 127) : CT l s0 D A dT 123 (rmN 123) [.ref (A 3), .int (Int32.ofInt x), .int (Int32.ofInt y)] s (fun o t => Bd t ∧ Fm [] [] s t ∧ ∃ e, o = .inl (some (.int (Int32.ofInt e))) ∧ rng e ∧ (e = 0 ∨ e = 1)) := by
  refine ct_ofX G (by decide) (Nat.le_of_ble_eq_true rfl) (fun k X E ET hRt hXt q => ?_)
  show WS k 0 [(0, .ref (A 3)), (1, .int (Int32.ofInt x)), (2, .int (Int32.ofInt y))] [] _ 0 0
  have F : Fm [] [] s s := fm_rf _ _ s
  refine z_aload_n X (x := A 3) rfl (List.Mem.head _) (s_getR X 3 rfl (c518_ok rfl) rfl rfl (z_load_n X (x := x) rfl (List.Mem.tail _ (List.Mem.head _)) (z_const X rfl (z_mul X rfl (z_load_n X (x := y) rfl (List.Mem.tail _ (List.Mem.tail _ (List.Mem.head _))) (z_bipush X rfl (z_quot X rfl (by first | exact p1.1 | omega) ⟨by first | exact oq_fa4e5087 p1.1 | omega, by first | exact oq_07d346ce p1.2 | omega⟩ (by decide) (by decide) (z_add X rfl (z_lald X 6 rfl (c518_ok rfl) rfl (by first | exact oq_c0bd8137 p1.1 p0.1 | omega) (show ((x * 2) + (y / 64)) < 24 by first | exact oq_c80b6473 p1.2 p0.2 | omega) (cbig_ok rfl) (fun j1 => ?_))))))))))
  refine z_load_n X (x := y) rfl (List.Mem.tail _ (List.Mem.tail _ (List.Mem.head _))) (z_bipush X rfl (z_andm X rfl (by decide) (by decide) (fun y2 hy2 gy2 => ?_)))
  refine w_lushr X.1 (ax_d X (show cdA 123 17 = some (.lushr, 1, 0, 0, 0) from rfl)) (z_anyJ (fun j3 => ?_))
  refine w_lconst X.1 (ax_d X (show cdA 123 18 = some (.lconst 1, 1, 0, 0, 0) from rfl)) rfl (z_anyJ (fun j4 => ?_))
  refine w_land X.1 (ax_d X (show cdA 123 19 = some (.land, 1, 0, 0, 0) from rfl)) (z_anyJ (fun j5 => ?_))
  refine w_lconst X.1 (ax_d X (show cdA 123 20 = some (.lconst 0, 1, 0, 0, 0) from rfl)) rfl (z_anyJ (fun j6 => ?_))
  refine w_lcmp X.1 (ax_d X (show cdA 123 21 = some (.lcmp, 1, 0, 0, 0) from rfl)) (z_any (fun y7 hy7 => ?_))
  have N8 : ∀ e9 : Int, (((y7 = 0) ∧ e9 = 0) ∨ ((y7 ≠ 0) ∧ e9 = 1)) → WS k 30 [(0, .ref (A 3)), (1, .int (Int32.ofInt x)), (2, .int (Int32.ofInt y))] [.int (Int32.ofInt e9)] (Wd A dT s) 0 0 := by
    intro e9 he9
    have re9 : 0 ≤ e9 ∧ e9 ≤ 1 := by first | (clear he9; omega) | omega
    exact w_iret X.1 q hRt (nar_ret (by first | exact oq_31e518ae re9.2 re9.1 | omega)) (ax_d X (show cdA 123 30 = some (.ireturn, 1, 0, 0, 0) from rfl)) (Nat.zero_le _) (Nat.zero_le _) ⟨_, rfl, I, F, e9, rfl, ⟨by first | exact oq_fa4e5087 re9.1 | omega, by first | exact oq_22e1e6b0 re9.2 | omega⟩, by first | exact oq_31e518ae re9.2 re9.1 | omega⟩
  refine z_if_eq X (t := 29) rfl rfl hy7 (fun g10 => ?_) (fun g10 => ?_)
  ·
    exact z_const X rfl (N8 _ (Or.inl ⟨g10, rfl⟩))
  ·
    exact z_const X rfl (z_goto X (t := 30) rfl rfl (N8 _ (Or.inr (⟨g10, rfl⟩))))
set_option maxRecDepth 4000 in
theorem c9_countsAt_3 (G : GX l s0 D tys a0 dT) (I : Bd s) {x : Int} (p0 : 0 ≤ x ∧ x ≤ 127) : CT l s0 D A dT 121 (rmN 121) [.ref (A 3), .int (Int32.ofInt x)] s (fun o t => Bd t ∧ Fm [] [] s t ∧ ∃ e, o = .inl (some (.int (Int32.ofInt e))) ∧ rng e ∧ (True)) := by
  refine ct_ofX G (by decide) (Nat.le_of_ble_eq_true rfl) (fun k X E ET hRt hXt q => ?_)
  show WS k 0 [(0, .ref (A 3)), (1, .int (Int32.ofInt x))] [] _ 0 0
  have F : Fm [] [] s s := fm_rf _ _ s
  have b1 := bi_9 I
  have L4 : ∀ (n : Nat) (t : PS) (xv sm0 c : Int), Bd t → Fm [] [] s t → ((0 ≤ xv ∧ xv ≤ 127) ∧ rng sm0 ∧ 0 ≤ c ∧ c ≤ 12) → (12 - c : Int).toNat < n → (∀ (t' : PS) (sm0' c' : Int), Bd t' → Fm [] [] s t' → ((0 ≤ xv ∧ xv ≤ 127) ∧ rng sm0' ∧ 0 ≤ c' ∧ c' ≤ 12) → WS k 36 [(0, .ref (A 3)), (1, .int (Int32.ofInt xv)), (2, .int (Int32.ofInt sm0')), (3, .int (Int32.ofInt c'))] [] (Wd A dT t') 0 0) → WS k 4 [(0, .ref (A 3)), (1, .int (Int32.ofInt xv)), (2, .int (Int32.ofInt sm0)), (3, .int (Int32.ofInt c))] [] (Wd A dT t) 0 0 := by
    intro n
    induction n with
    | zero =>
      intro t xv sm0 c I F hi hm kx
      exact absurd hm (Nat.not_lt_zero _)
    | succ n ih =>
      intro t xv sm0 c I F hi hm kx
      have b1001 := bi_9 I
      refine z_load_n X (x := c) rfl (List.Mem.tail _ (List.Mem.tail _ (List.Mem.tail _ (List.Mem.head _)))) (z_aload_n X (x := A 3) rfl (List.Mem.head _) (z_getI X 3 rfl (c518_ok rfl) rfl rfl ?_))
      have b1002 := bi_9 I
      refine z_icmp_ge X (t := 36) rfl rfl ⟨by first | exact oq_fa4e5087 hi.2.2.1 | omega, by first | exact oq_78843a64 hi.2.2.2 | omega⟩ (rng_to _) (fun g1003 => ?_) (fun g1003 => ?_)
      ·
        refine WS_pq [0, 1, 2, 3] (lv' := [(0, .ref (A 3)), (1, .int (Int32.ofInt xv)), (2, .int (Int32.ofInt sm0)), (3, .int (Int32.ofInt c))]) rfl ?_
        exact kx _ sm0 c I F (by first | exact ⟨And.intro (hi.1.1) (hi.1.2), And.intro (hi.2.1.1) (hi.2.1.2), hi.2.2.1, hi.2.2.2⟩ | omega)
      ·
        refine z_aload_n X (x := A 3) rfl (List.Mem.head _) (z_load_n X (x := c) rfl (List.Mem.tail _ (List.Mem.tail _ (List.Mem.tail _ (List.Mem.head _)))) (z_load_n X (x := xv) rfl (List.Mem.tail _ (List.Mem.head _)) (zcV_i0 X E 3 (As := [.int (Int32.ofInt c), .int (Int32.ofInt xv)]) (st := []) rfl rfl rfl rfl (c9_comesTo_3 G I (by first | exact ⟨hi.2.2.1, oq_e4d7f3c5 g1003 b1002.2⟩ | omega) (by first | exact ⟨hi.1.1, hi.1.2⟩ | omega)) rfl (Nat.le_of_ble_eq_true rfl) (fun s1004 e1005 Is1004 Fs1004 hrs1004 hps1004 => ?_))))
        have Gs1004 := fm_tq F Fs1004 rfl rfl
        have ws1004_9 : iI s1004 9 = iI t 9 := fm_iq Fs1004 rfl
        refine z_if_eq X (t := 30) rfl rfl hrs1004 (fun g1006 => ?_) (fun g1006 => ?_)
        ·
          refine z_inc X (x := c) (lv' := [(3, .int (Int32.ofInt (c + 1))), (0, .ref (A 3)), (1, .int (Int32.ofInt xv)), (2, .int (Int32.ofInt sm0))]) rfl (by decide) (List.Mem.tail _ (List.Mem.tail _ (List.Mem.tail _ (List.Mem.head _)))) (fun _ h => h) (z_goto X (t := 4) rfl rfl (WS_pq [1, 2, 3, 0] (lv' := [(0, .ref (A 3)), (1, .int (Int32.ofInt xv)), (2, .int (Int32.ofInt sm0)), (3, .int (Int32.ofInt (c + 1)))]) rfl ?_))
          exact ih _ xv sm0 (c + 1) Is1004 Gs1004 (by first | exact ⟨And.intro (hi.1.1) (hi.1.2), And.intro (hi.2.1.1) (hi.2.1.2), oq_54f49eb5 hi.2.2.1, oq_4dae995e g1003 b1002.2⟩ | omega) (by first | exact qk_me hm (by decide) (oq_b575e8c1 g1003 b1002.2) | omega) kx
        ·
          refine z_load_n X (x := sm0) rfl (List.Mem.tail _ (List.Mem.tail _ (List.Mem.head _))) (z_aload_n X (x := A 3) rfl (List.Mem.head _) (s_getR X 3 rfl (c518_ok rfl) rfl rfl (z_load_n X (x := c) rfl (List.Mem.tail _ (List.Mem.tail _ (List.Mem.tail _ (List.Mem.head _)))) (z_ald X 15 rfl (c518_ok rfl) rfl (by first | exact hi.2.2.1 | omega) (show c < 12 by first | exact oq_f36e82a8 g1003 b1002.2 | omega) (cbig_ok rfl) ?_))))
          have b1007 := bc_12 Is1004 (show (c).toNat < 12 by first | exact oq_2dac6850 g1003 b1002.2 | omega)
          refine z_add X rfl (z_any (fun y1008 hy1008 => ?_))
          refine z_store_n X (lv' := [(2, .int (Int32.ofInt y1008)), (0, .ref (A 3)), (1, .int (Int32.ofInt xv)), (3, .int (Int32.ofInt c))]) rfl (by decide) (fun _ h => h) (z_inc X (x := c) (lv' := [(3, .int (Int32.ofInt (c + 1))), (2, .int (Int32.ofInt y1008)), (0, .ref (A 3)), (1, .int (Int32.ofInt xv))]) rfl (by decide) (List.Mem.tail _ (List.Mem.tail _ (List.Mem.tail _ (List.Mem.head _)))) (fun _ h => h) (z_goto X (t := 4) rfl rfl (WS_pq [2, 3, 1, 0] (lv' := [(0, .ref (A 3)), (1, .int (Int32.ofInt xv)), (2, .int (Int32.ofInt y1008)), (3, .int (Int32.ofInt (c + 1)))]) rfl ?_)))
          exact ih _ xv y1008 (c + 1) Is1004 Gs1004 (by first | exact ⟨And.intro (hi.1.1) (hi.1.2), And.intro (hy1008.1) (hy1008.2), oq_54f49eb5 hi.2.2.1, oq_4dae995e g1003 b1002.2⟩ | omega) (by first | exact qk_me hm (by decide) (oq_b575e8c1 g1003 b1002.2) | omega) kx
  refine z_const X rfl (z_store_n X (lv' := [(2, .int (Int32.ofInt 0)), (0, .ref (A 3)), (1, .int (Int32.ofInt x))]) rfl (by decide) (fun _ h => h) (z_const X rfl (z_store_n X (lv' := [(3, .int (Int32.ofInt 0)), (2, .int (Int32.ofInt 0)), (0, .ref (A 3)), (1, .int (Int32.ofInt x))]) rfl (by decide) (fun _ h => h) (WS_pq [2, 3, 1, 0] (lv' := [(0, .ref (A 3)), (1, .int (Int32.ofInt x)), (2, .int (Int32.ofInt 0)), (3, .int (Int32.ofInt 0))]) rfl (L4 ((12 - 0 : Int).toNat + 1) s x 0 0 I F (by first | exact ⟨And.intro (p0.1) (p0.2), And.intro (by decide) (by decide), by decide, by decide⟩ | omega) (Nat.lt_succ_self _) ?_)))))
  intro s2 x3 x4 Is2 Fs2 hs2
  have b5 := bi_9 Is2
  refine z_load_n X (x := x3) rfl (List.Mem.tail _ (List.Mem.tail _ (List.Mem.head _))) ?_
  exact w_iret X.1 q hRt rfl (ax_d X (show cdA 121 37 = some (.ireturn, 1, 0, 0, 0) from rfl)) (Nat.zero_le _) (Nat.zero_le _) ⟨_, rfl, Is2, Fs2, x3, rfl, ⟨by first | exact hs2.2.1.1 | omega, by first | exact hs2.2.1.2 | omega⟩, trivial⟩
set_option maxRecDepth 4000 in
theorem c9_shortestStretch_3 (G : GX l s0 D tys a0 dT) (I : Bd s) {x : Int} {lo hi0 : Int64} (p0 : 0 ≤ x ∧ x ≤ 11) : CT l s0 D A dT 120 (rmN 120) [.ref (A 3), .int (Int32.ofInt x), .long lo, .long hi0] s (fun o t => Bd t ∧ Fm [] [] s t ∧ ∃ e, o = .inl (some (.int (Int32.ofInt e))) ∧ rng e ∧ (0 ≤ e ∧ e ≤ 24)) := by
  refine ct_ofX G (by decide) (Nat.le_of_ble_eq_true rfl) (fun k X E ET hRt hXt q => ?_)
  show WS k 0 [(0, .ref (A 3)), (1, .int (Int32.ofInt x)), (2, .long lo), (4, .long hi0)] [] _ 0 0
  have F : Fm [] [] s s := fm_rf _ _ s
  have L10 : ∀ (n : Nat) (t : PS) (xv : Int) (lw : Int64) (hw : Int64) (sh : Int) (ru : Int) (c : Int), Bd t → Fm [] [] s t → ((0 ≤ xv ∧ xv ≤ 11) ∧ (0 ≤ sh ∧ sh ≤ 24) ∧ (0 ≤ ru ∧ ru ≤ c) ∧ c ≤ 24) → (24 - c : Int).toNat < n → (∀ (t' : PS) (sh' : Int) (ru' : Int) (c' : Int), Bd t' → Fm [] [] s t' → ((0 ≤ xv ∧ xv ≤ 11) ∧ (0 ≤ sh' ∧ sh' ≤ 24) ∧ (0 ≤ ru' ∧ ru' ≤ c') ∧ c' ≤ 24) → WS k 90 [(0, .ref (A 3)), (1, .int (Int32.ofInt xv)), (2, .long lw), (4, .long hw), (6, .int (Int32.ofInt sh')), (7, .int (Int32.ofInt ru')), (8, .int (Int32.ofInt c'))] [] (Wd A dT t') 0 0) → WS k 10 [(0, .ref (A 3)), (1, .int (Int32.ofInt xv)), (2, .long lw), (4, .long hw), (6, .int (Int32.ofInt sh)), (7, .int (Int32.ofInt ru)), (8, .int (Int32.ofInt c))] [] (Wd A dT t) 0 0 := by
    intro n
    induction n with
    | zero =>
      intro t xv lw hw sh ru c I F hi hm kx
      exact absurd hm (Nat.not_lt_zero _)
    | succ n ih =>
      intro t xv lw hw sh ru c I F hi hm kx
      refine z_load X (x := c) rfl (List.Mem.tail _ (List.Mem.tail _ (List.Mem.tail _ (List.Mem.tail _ (List.Mem.tail _ (List.Mem.tail _ (List.Mem.head _))))))) (z_aload_n X (x := A 3) rfl (List.Mem.head _) (s_getR X 3 rfl (c518_ok rfl) rfl rfl (z_load_n X (x := xv) rfl (List.Mem.tail _ (List.Mem.head _)) (z_ald X 5 rfl (c518_ok rfl) rfl (by first | exact hi.1.1 | omega) (show xv < 12 by first | exact oq_0ddfcfee hi.1.2 | omega) (cbig_ok rfl) ?_))))
      have b1001 := bc_2 I (show (xv).toNat < 12 by first | exact oq_9c5fa447 hi.1.2 | omega)
      refine z_icmp_ge X (t := 90) rfl rfl ⟨by first | exact oq_e001bc0d hi.2.2.1.2 hi.2.2.1.1 | omega, by first | exact oq_5bcd337f hi.2.2.2 | omega⟩ (rng_to _) (fun g1002 => ?_) (fun g1002 => ?_)
      ·
        refine WS_pq [0, 1, 2, 3, 4, 5, 6] (lv' := [(0, .ref (A 3)), (1, .int (Int32.ofInt xv)), (2, .long lw), (4, .long hw), (6, .int (Int32.ofInt sh)), (7, .int (Int32.ofInt ru)), (8, .int (Int32.ofInt c))]) rfl ?_
        exact kx _ sh ru c I F (by first | exact ⟨And.intro (hi.1.1) (hi.1.2), And.intro (hi.2.1.1) (hi.2.1.2), And.intro (hi.2.2.1.1) (hi.2.2.1.2), hi.2.2.2⟩ | omega)
      ·
        refine z_aload_n X (x := A 3) rfl (List.Mem.head _) (s_getR X 3 rfl (c518_ok rfl) rfl rfl (z_load_n X (x := xv) rfl (List.Mem.tail _ (List.Mem.head _)) (z_bipush X rfl (z_mul X rfl (z_load X (x := c) rfl (List.Mem.tail _ (List.Mem.tail _ (List.Mem.tail _ (List.Mem.tail _ (List.Mem.tail _ (List.Mem.tail _ (List.Mem.head _))))))) (z_add X rfl (z_ald X 4 rfl (c518_ok rfl) rfl (by first | exact oq_1c973021 hi.1.1 hi.2.2.1.2 hi.2.2.1.1 | omega) (show ((xv * 24) + c) < 288 by first | exact oq_54efb6a2 hi.1.2 g1002 b1001.2 | omega) (cbig_ok rfl) ?_)))))))
        have b1003 := bc_1 I (show (((xv * 24) + c)).toNat < 288 by first | exact oq_2f719579 hi.1.2 g1002 b1001.2 | omega)
        refine z_store X (lv' := [(9, .int (Int32.ofInt (iC t 1 (((xv * 24) + c)).toNat))), (0, .ref (A 3)), (1, .int (Int32.ofInt xv)), (2, .long lw), (4, .long hw), (6, .int (Int32.ofInt sh)), (7, .int (Int32.ofInt ru)), (8, .int (Int32.ofInt c))]) rfl (by decide) (fun _ h => h) (z_load X (x := (iC t 1 (((xv * 24) + c)).toNat)) rfl (List.Mem.head _) (z_bipush X rfl ?_))
        have N1004 : ∀ j1005 : Int64, WS k 48 [(9, .int (Int32.ofInt (iC t 1 (((xv * 24) + c)).toNat))), (0, .ref (A 3)), (1, .int (Int32.ofInt xv)), (2, .long lw), (4, .long hw), (6, .int (Int32.ofInt sh)), (7, .int (Int32.ofInt ru)), (8, .int (Int32.ofInt c))] [.long j1005] (Wd A dT t) 0 0 := by
          intro j1005
          refine z_load X (x := (iC t 1 (((xv * 24) + c)).toNat)) rfl (List.Mem.head _) (z_bipush X rfl (z_andm X rfl (by decide) (by decide) (fun y1006 hy1006 gy1006 => ?_)))
          refine w_lushr X.1 (ax_d X (show cdA 120 53 = some (.lushr, 1, 0, 0, 0) from rfl)) (z_anyJ (fun j1007 => ?_))
          refine w_lconst X.1 (ax_d X (show cdA 120 54 = some (.lconst 1, 1, 0, 0, 0) from rfl)) rfl (z_anyJ (fun j1008 => ?_))
          refine w_land X.1 (ax_d X (show cdA 120 55 = some (.land, 1, 0, 0, 0) from rfl)) (z_anyJ (fun j1009 => ?_))
          refine w_lconst X.1 (ax_d X (show cdA 120 56 = some (.lconst 0, 1, 0, 0, 0) from rfl)) rfl (z_anyJ (fun j1010 => ?_))
          refine w_lcmp X.1 (ax_d X (show cdA 120 57 = some (.lcmp, 1, 0, 0, 0) from rfl)) (z_any (fun y1011 hy1011 => ?_))
          refine z_if_eq X (t := 67) rfl rfl hy1011 (fun g1012 => ?_) (fun g1012 => ?_)
          ·
            refine z_load X (x := ru) rfl (List.Mem.tail _ (List.Mem.tail _ (List.Mem.tail _ (List.Mem.tail _ (List.Mem.tail _ (List.Mem.tail _ (List.Mem.head _))))))) (z_if_le X (t := 84) rfl rfl ⟨by first | exact oq_fa4e5087 hi.2.2.1.1 | omega, by first | exact oq_403249cf hi.2.2.1.2 hi.2.2.2 | omega⟩ (fun g1013 => ?_) (fun g1013 => ?_))
            ·
              refine z_inc X (x := c) (lv' := [(8, .int (Int32.ofInt (c + 1))), (9, .int (Int32.ofInt (iC t 1 (((xv * 24) + c)).toNat))), (0, .ref (A 3)), (1, .int (Int32.ofInt xv)), (2, .long lw), (4, .long hw), (6, .int (Int32.ofInt sh)), (7, .int (Int32.ofInt ru))]) rfl (by decide) (List.Mem.tail _ (List.Mem.tail _ (List.Mem.tail _ (List.Mem.tail _ (List.Mem.tail _ (List.Mem.tail _ (List.Mem.tail _ (List.Mem.head _)))))))) (fun _ h => h) (z_goto X (t := 10) rfl rfl (WS_pq [2, 3, 4, 5, 6, 7, 0] (lv' := [(0, .ref (A 3)), (1, .int (Int32.ofInt xv)), (2, .long lw), (4, .long hw), (6, .int (Int32.ofInt sh)), (7, .int (Int32.ofInt ru)), (8, .int (Int32.ofInt (c + 1)))]) rfl ?_))
              exact ih _ xv lw hw sh ru (c + 1) I F (by first | exact ⟨And.intro (hi.1.1) (hi.1.2), And.intro (hi.2.1.1) (hi.2.1.2), And.intro (hi.2.2.1.1) (oq_03182e9e hi.2.2.1.2), oq_41473be0 g1002 b1001.2⟩ | omega) (by first | exact qk_me hm (by decide) (oq_9dea93e6 g1002 b1001.2) | omega) kx
            ·
              refine z_load X (x := sh) rfl (List.Mem.tail _ (List.Mem.tail _ (List.Mem.tail _ (List.Mem.tail _ (List.Mem.tail _ (List.Mem.head _)))))) (z_load X (x := ru) rfl (List.Mem.tail _ (List.Mem.tail _ (List.Mem.tail _ (List.Mem.tail _ (List.Mem.tail _ (List.Mem.tail _ (List.Mem.head _))))))) (z_min X rfl ⟨by first | exact oq_fa4e5087 hi.2.1.1 | omega, by first | exact oq_5bcd337f hi.2.1.2 | omega⟩ ⟨by first | exact oq_97e58444 g1013 | omega, by first | exact oq_403249cf hi.2.2.1.2 hi.2.2.2 | omega⟩ (by rw [E.2.2.2]; decide) (by rw [E.2.2.2]; exact Nat.le_of_ble_eq_true rfl) (Nat.zero_le _) (Nat.zero_le _) (fun e1014 he1014 => ?_)))
              refine z_store X (lv' := [(6, .int (Int32.ofInt e1014)), (9, .int (Int32.ofInt (iC t 1 (((xv * 24) + c)).toNat))), (0, .ref (A 3)), (1, .int (Int32.ofInt xv)), (2, .long lw), (4, .long hw), (7, .int (Int32.ofInt ru)), (8, .int (Int32.ofInt c))]) rfl (by decide) (fun _ h => h) (z_const X rfl (z_store X (lv' := [(7, .int (Int32.ofInt 0)), (6, .int (Int32.ofInt e1014)), (9, .int (Int32.ofInt (iC t 1 (((xv * 24) + c)).toNat))), (0, .ref (A 3)), (1, .int (Int32.ofInt xv)), (2, .long lw), (4, .long hw), (8, .int (Int32.ofInt c))]) rfl (by decide) (fun _ h => h) (z_inc X (x := c) (lv' := [(8, .int (Int32.ofInt (c + 1))), (7, .int (Int32.ofInt 0)), (6, .int (Int32.ofInt e1014)), (9, .int (Int32.ofInt (iC t 1 (((xv * 24) + c)).toNat))), (0, .ref (A 3)), (1, .int (Int32.ofInt xv)), (2, .long lw), (4, .long hw)]) rfl (by decide) (List.Mem.tail _ (List.Mem.tail _ (List.Mem.tail _ (List.Mem.tail _ (List.Mem.tail _ (List.Mem.tail _ (List.Mem.tail _ (List.Mem.head _)))))))) (fun _ h => h) (z_goto X (t := 10) rfl rfl (WS_pq [4, 5, 6, 7, 2, 1, 0] (lv' := [(0, .ref (A 3)), (1, .int (Int32.ofInt xv)), (2, .long lw), (4, .long hw), (6, .int (Int32.ofInt e1014)), (7, .int (Int32.ofInt 0)), (8, .int (Int32.ofInt (c + 1)))]) rfl ?_)))))
              exact ih _ xv lw hw e1014 0 (c + 1) I F (by first | exact ⟨And.intro (hi.1.1) (hi.1.2), oq_1253191b he1014 g1013 g1002 b1001.2 hi.2.2.1.2 hi.2.1.2 hi.2.1.1, And.intro (by decide) (oq_1b58957a hi.2.2.1.2 g1013), oq_41473be0 g1002 b1001.2⟩ | omega) (by first | exact qk_me hm (by decide) (oq_9dea93e6 g1002 b1001.2) | omega) kx
          ·
            refine z_inc X (x := ru) (lv' := [(7, .int (Int32.ofInt (ru + 1))), (9, .int (Int32.ofInt (iC t 1 (((xv * 24) + c)).toNat))), (0, .ref (A 3)), (1, .int (Int32.ofInt xv)), (2, .long lw), (4, .long hw), (6, .int (Int32.ofInt sh)), (8, .int (Int32.ofInt c))]) rfl (by decide) (List.Mem.tail _ (List.Mem.tail _ (List.Mem.tail _ (List.Mem.tail _ (List.Mem.tail _ (List.Mem.tail _ (List.Mem.head _))))))) (fun _ h => h) (z_goto X (t := 84) rfl rfl (z_inc X (x := c) (lv' := [(8, .int (Int32.ofInt (c + 1))), (7, .int (Int32.ofInt (ru + 1))), (9, .int (Int32.ofInt (iC t 1 (((xv * 24) + c)).toNat))), (0, .ref (A 3)), (1, .int (Int32.ofInt xv)), (2, .long lw), (4, .long hw), (6, .int (Int32.ofInt sh))]) rfl (by decide) (List.Mem.tail _ (List.Mem.tail _ (List.Mem.tail _ (List.Mem.tail _ (List.Mem.tail _ (List.Mem.tail _ (List.Mem.tail _ (List.Mem.head _)))))))) (fun _ h => h) (z_goto X (t := 10) rfl rfl (WS_pq [3, 4, 5, 6, 7, 1, 0] (lv' := [(0, .ref (A 3)), (1, .int (Int32.ofInt xv)), (2, .long lw), (4, .long hw), (6, .int (Int32.ofInt sh)), (7, .int (Int32.ofInt (ru + 1))), (8, .int (Int32.ofInt (c + 1)))]) rfl ?_))))
            exact ih _ xv lw hw sh (ru + 1) (c + 1) I F (by first | exact ⟨And.intro (hi.1.1) (hi.1.2), And.intro (hi.2.1.1) (hi.2.1.2), And.intro (oq_54f49eb5 hi.2.2.1.1) (oq_8d48a029 hi.2.2.1.2), oq_41473be0 g1002 b1001.2⟩ | omega) (by first | exact qk_me hm (by decide) (oq_9dea93e6 g1002 b1001.2) | omega) kx
        refine z_icmp_ge X (t := 46) rfl rfl (rng_to _) (by decide) (fun g1015 => ?_) (fun g1015 => ?_)
        ·
          exact w_lload X.1 (ax_d X (show cdA 120 46 = some (.lload 4, 2, 0, 0, 0) from rfl)) (x := hw) (List.Mem.tail _ (List.Mem.tail _ (List.Mem.tail _ (List.Mem.tail _ (List.Mem.head _))))) (N1004 _)
        ·
          exact w_lload_n X.1 (ax_d X (show cdA 120 42 = some (.lload_n 2, 1, 0, 0, 0) from rfl)) (x := lw) (List.Mem.tail _ (List.Mem.tail _ (List.Mem.tail _ (List.Mem.head _)))) (z_goto X (t := 48) rfl rfl (N1004 _))
  refine z_bipush X rfl (z_store X (lv' := [(6, .int (Int32.ofInt 24)), (0, .ref (A 3)), (1, .int (Int32.ofInt x)), (2, .long lo), (4, .long hi0)]) rfl (by decide) (fun _ h => h) (z_const X rfl (z_store X (lv' := [(7, .int (Int32.ofInt 0)), (6, .int (Int32.ofInt 24)), (0, .ref (A 3)), (1, .int (Int32.ofInt x)), (2, .long lo), (4, .long hi0)]) rfl (by decide) (fun _ h => h) (z_const X rfl (z_store X (lv' := [(8, .int (Int32.ofInt 0)), (7, .int (Int32.ofInt 0)), (6, .int (Int32.ofInt 24)), (0, .ref (A 3)), (1, .int (Int32.ofInt x)), (2, .long lo), (4, .long hi0)]) rfl (by decide) (fun _ h => h) (WS_pq [3, 4, 5, 6, 2, 1, 0] (lv' := [(0, .ref (A 3)), (1, .int (Int32.ofInt x)), (2, .long lo), (4, .long hi0), (6, .int (Int32.ofInt 24)), (7, .int (Int32.ofInt 0)), (8, .int (Int32.ofInt 0))]) rfl (L10 ((24 - 0 : Int).toNat + 1) s x lo hi0 24 0 0 I F (by first | exact ⟨And.intro (p0.1) (p0.2), And.intro (by decide) (by decide), And.intro (by decide) (by decide), by decide⟩ | omega) (Nat.lt_succ_self _) ?_)))))))
  intro s1 x2 x3 x4 Is1 Fs1 hs1
  refine z_load X (x := x3) rfl (List.Mem.tail _ (List.Mem.tail _ (List.Mem.tail _ (List.Mem.tail _ (List.Mem.tail _ (List.Mem.head _)))))) (z_if_le X (t := 105) rfl rfl ⟨by first | exact oq_fa4e5087 hs1.2.2.1.1 | omega, by first | exact oq_403249cf hs1.2.2.1.2 hs1.2.2.2 | omega⟩ (fun g5 => ?_) (fun g5 => ?_))
  ·
    refine z_load X (x := x2) rfl (List.Mem.tail _ (List.Mem.tail _ (List.Mem.tail _ (List.Mem.tail _ (List.Mem.head _))))) ?_
    exact w_iret X.1 q hRt rfl (ax_d X (show cdA 120 107 = some (.ireturn, 1, 0, 0, 0) from rfl)) (Nat.zero_le _) (Nat.zero_le _) ⟨_, rfl, Is1, Fs1, x2, rfl, ⟨by first | exact oq_fa4e5087 hs1.2.1.1 | omega, by first | exact oq_5bcd337f hs1.2.1.2 | omega⟩, by first | exact ⟨hs1.2.1.1, hs1.2.1.2⟩ | omega⟩
  ·
    refine z_load X (x := x2) rfl (List.Mem.tail _ (List.Mem.tail _ (List.Mem.tail _ (List.Mem.tail _ (List.Mem.head _))))) (z_load X (x := x3) rfl (List.Mem.tail _ (List.Mem.tail _ (List.Mem.tail _ (List.Mem.tail _ (List.Mem.tail _ (List.Mem.head _)))))) (z_min X rfl ⟨by first | exact oq_fa4e5087 hs1.2.1.1 | omega, by first | exact oq_5bcd337f hs1.2.1.2 | omega⟩ ⟨by first | exact oq_97e58444 g5 | omega, by first | exact oq_403249cf hs1.2.2.1.2 hs1.2.2.2 | omega⟩ (by rw [E.2.2.2]; decide) (by rw [E.2.2.2]; exact Nat.le_of_ble_eq_true rfl) (Nat.zero_le _) (Nat.zero_le _) (fun e6 he6 => ?_)))
    refine z_goto X (t := 107) rfl rfl ?_
    exact w_iret X.1 q hRt rfl (ax_d X (show cdA 120 107 = some (.ireturn, 1, 0, 0, 0) from rfl)) (Nat.zero_le _) (Nat.zero_le _) ⟨_, rfl, Is1, Fs1, e6, rfl, ⟨by first | exact oq_86d733fe he6 g5 hs1.2.1.1 | omega, by first | exact oq_28aa47c9 he6 hs1.2.1.2 | omega⟩, by first | exact ⟨oq_d21c86c8 he6 g5 hs1.2.1.1, oq_6d24c36f he6 hs1.2.1.2⟩ | omega⟩
set_option maxRecDepth 4000 in
theorem c9_shorterThan_3 (G : GX l s0 D tys a0 dT) (I : Bd s) {x : Int} {lo hi0 : Int64} (p0 : 0 ≤ x ∧ x ≤ 9) : CT l s0 D A dT 119 (rmN 119) [.ref (A 3), .int (Int32.ofInt x), .long lo, .long hi0] s (fun o t => Bd t ∧ Fm [] [] s t ∧ ∃ e, o = .inl (some (.int (Int32.ofInt e))) ∧ rng e ∧ (True)) := by
  refine ct_ofX G (by decide) (Nat.le_of_ble_eq_true rfl) (fun k X E ET hRt hXt q => ?_)
  show WS k 0 [(0, .ref (A 3)), (1, .int (Int32.ofInt x)), (2, .long lo), (4, .long hi0)] [] _ 0 0
  have F : Fm [] [] s s := fm_rf _ _ s
  have b1 := bi_9 I
  have L6 : ∀ (n : Nat) (t : PS) (xv : Int) (lw : Int64) (hw : Int64) (bi : Int) (c : Int), Bd t → Fm [] [] s t → ((0 ≤ xv ∧ xv ≤ 9) ∧ rng bi ∧ 0 ≤ c ∧ c ≤ 12) → (12 - c : Int).toNat < n → (∀ (t' : PS) (bi' : Int) (c' : Int), Bd t' → Fm [] [] s t' → ((0 ≤ xv ∧ xv ≤ 9) ∧ rng bi' ∧ 0 ≤ c' ∧ c' ≤ 12) → WS k 43 [(0, .ref (A 3)), (1, .int (Int32.ofInt xv)), (2, .long lw), (4, .long hw), (6, .int (Int32.ofInt bi')), (7, .int (Int32.ofInt c'))] [] (Wd A dT t') 0 0) → WS k 6 [(0, .ref (A 3)), (1, .int (Int32.ofInt xv)), (2, .long lw), (4, .long hw), (6, .int (Int32.ofInt bi)), (7, .int (Int32.ofInt c))] [] (Wd A dT t) 0 0 := by
    intro n
    induction n with
    | zero =>
      intro t xv lw hw bi c I F hi hm kx
      exact absurd hm (Nat.not_lt_zero _)
    | succ n ih =>
      intro t xv lw hw bi c I F hi hm kx
      have b1001 := bi_9 I
      refine z_load X (x := c) rfl (List.Mem.tail _ (List.Mem.tail _ (List.Mem.tail _ (List.Mem.tail _ (List.Mem.tail _ (List.Mem.head _)))))) (z_aload_n X (x := A 3) rfl (List.Mem.head _) (z_getI X 3 rfl (c518_ok rfl) rfl rfl ?_))
      have b1002 := bi_9 I
      refine z_icmp_ge X (t := 43) rfl rfl ⟨by first | exact oq_fa4e5087 hi.2.2.1 | omega, by first | exact oq_78843a64 hi.2.2.2 | omega⟩ (rng_to _) (fun g1003 => ?_) (fun g1003 => ?_)
      ·
        refine WS_pq [0, 1, 2, 3, 4, 5] (lv' := [(0, .ref (A 3)), (1, .int (Int32.ofInt xv)), (2, .long lw), (4, .long hw), (6, .int (Int32.ofInt bi)), (7, .int (Int32.ofInt c))]) rfl ?_
        exact kx _ bi c I F (by first | exact ⟨And.intro (hi.1.1) (hi.1.2), And.intro (hi.2.1.1) (hi.2.1.2), hi.2.2.1, hi.2.2.2⟩ | omega)
      ·
        refine z_aload_n X (x := A 3) rfl (List.Mem.head _) (z_load X (x := c) rfl (List.Mem.tail _ (List.Mem.tail _ (List.Mem.tail _ (List.Mem.tail _ (List.Mem.tail _ (List.Mem.head _)))))) (w_lload_n X.1 (ax_d X (show cdA 119 18 = some (.lload_n 2, 1, 0, 0, 0) from rfl)) (x := lw) (List.Mem.tail _ (List.Mem.tail _ (List.Mem.head _))) (w_lload X.1 (ax_d X (show cdA 119 19 = some (.lload 4, 2, 0, 0, 0) from rfl)) (x := hw) (List.Mem.tail _ (List.Mem.tail _ (List.Mem.tail _ (List.Mem.head _)))) (zcV_i0 X E 3 (As := [.int (Int32.ofInt c), .long lw, .long hw]) (st := []) rfl rfl rfl rfl (c9_shortestStretch_3 G I (by first | exact ⟨hi.2.2.1, oq_e4d7f3c5 g1003 b1002.2⟩ | omega)) rfl (Nat.le_of_ble_eq_true rfl) (fun s1004 e1005 Is1004 Fs1004 hrs1004 hps1004 => ?_)))))
        have Gs1004 := fm_tq F Fs1004 rfl rfl
        have ws1004_9 : iI s1004 9 = iI t 9 := fm_iq Fs1004 rfl
        refine z_load_n X (x := xv) rfl (List.Mem.tail _ (List.Mem.head _)) (z_icmp_ge X (t := 37) rfl rfl hrs1004 ⟨by first | exact oq_fa4e5087 hi.1.1 | omega, by first | exact oq_f7e7bb0e hi.1.2 | omega⟩ (fun g1006 => ?_) (fun g1006 => ?_))
        ·
          refine z_inc X (x := c) (lv' := [(7, .int (Int32.ofInt (c + 1))), (0, .ref (A 3)), (1, .int (Int32.ofInt xv)), (2, .long lw), (4, .long hw), (6, .int (Int32.ofInt bi))]) rfl (by decide) (List.Mem.tail _ (List.Mem.tail _ (List.Mem.tail _ (List.Mem.tail _ (List.Mem.tail _ (List.Mem.head _)))))) (fun _ h => h) (z_goto X (t := 6) rfl rfl (WS_pq [1, 2, 3, 4, 5, 0] (lv' := [(0, .ref (A 3)), (1, .int (Int32.ofInt xv)), (2, .long lw), (4, .long hw), (6, .int (Int32.ofInt bi)), (7, .int (Int32.ofInt (c + 1)))]) rfl ?_))
          exact ih _ xv lw hw bi (c + 1) Is1004 Gs1004 (by first | exact ⟨And.intro (hi.1.1) (hi.1.2), And.intro (hi.2.1.1) (hi.2.1.2), oq_54f49eb5 hi.2.2.1, oq_4dae995e g1003 b1002.2⟩ | omega) (by first | exact qk_me hm (by decide) (oq_b575e8c1 g1003 b1002.2) | omega) kx
        ·
          refine z_load X (x := bi) rfl (List.Mem.tail _ (List.Mem.tail _ (List.Mem.tail _ (List.Mem.tail _ (List.Mem.head _))))) (z_const X rfl (z_load X (x := c) rfl (List.Mem.tail _ (List.Mem.tail _ (List.Mem.tail _ (List.Mem.tail _ (List.Mem.tail _ (List.Mem.head _)))))) (z_bshl X rfl (z_any (fun y1007 hy1007 => ?_)))))
          refine z_bor X rfl (z_any (fun y1008 hy1008 => ?_))
          refine z_store X (lv' := [(6, .int (Int32.ofInt y1008)), (0, .ref (A 3)), (1, .int (Int32.ofInt xv)), (2, .long lw), (4, .long hw), (7, .int (Int32.ofInt c))]) rfl (by decide) (fun _ h => h) (z_inc X (x := c) (lv' := [(7, .int (Int32.ofInt (c + 1))), (6, .int (Int32.ofInt y1008)), (0, .ref (A 3)), (1, .int (Int32.ofInt xv)), (2, .long lw), (4, .long hw)]) rfl (by decide) (List.Mem.tail _ (List.Mem.tail _ (List.Mem.tail _ (List.Mem.tail _ (List.Mem.tail _ (List.Mem.head _)))))) (fun _ h => h) (z_goto X (t := 6) rfl rfl (WS_pq [2, 3, 4, 5, 1, 0] (lv' := [(0, .ref (A 3)), (1, .int (Int32.ofInt xv)), (2, .long lw), (4, .long hw), (6, .int (Int32.ofInt y1008)), (7, .int (Int32.ofInt (c + 1)))]) rfl ?_)))
          exact ih _ xv lw hw y1008 (c + 1) Is1004 Gs1004 (by first | exact ⟨And.intro (hi.1.1) (hi.1.2), And.intro (hy1008.1) (hy1008.2), oq_54f49eb5 hi.2.2.1, oq_4dae995e g1003 b1002.2⟩ | omega) (by first | exact qk_me hm (by decide) (oq_b575e8c1 g1003 b1002.2) | omega) kx
  refine z_const X rfl (z_store X (lv' := [(6, .int (Int32.ofInt 0)), (0, .ref (A 3)), (1, .int (Int32.ofInt x)), (2, .long lo), (4, .long hi0)]) rfl (by decide) (fun _ h => h) (z_const X rfl (z_store X (lv' := [(7, .int (Int32.ofInt 0)), (6, .int (Int32.ofInt 0)), (0, .ref (A 3)), (1, .int (Int32.ofInt x)), (2, .long lo), (4, .long hi0)]) rfl (by decide) (fun _ h => h) (WS_pq [2, 3, 4, 5, 1, 0] (lv' := [(0, .ref (A 3)), (1, .int (Int32.ofInt x)), (2, .long lo), (4, .long hi0), (6, .int (Int32.ofInt 0)), (7, .int (Int32.ofInt 0))]) rfl (L6 ((12 - 0 : Int).toNat + 1) s x lo hi0 0 0 I F (by first | exact ⟨And.intro (p0.1) (p0.2), And.intro (by decide) (by decide), by decide, by decide⟩ | omega) (Nat.lt_succ_self _) ?_)))))
  intro s2 x3 x4 Is2 Fs2 hs2
  have b5 := bi_9 Is2
  refine z_load X (x := x3) rfl (List.Mem.tail _ (List.Mem.tail _ (List.Mem.tail _ (List.Mem.tail _ (List.Mem.head _))))) ?_
  exact w_iret X.1 q hRt rfl (ax_d X (show cdA 119 45 = some (.ireturn, 1, 0, 0, 0) from rfl)) (Nat.zero_le _) (Nat.zero_le _) ⟨_, rfl, Is2, Fs2, x3, rfl, ⟨by first | exact hs2.2.1.1 | omega, by first | exact hs2.2.1.2 | omega⟩, trivial⟩
end M72
end
section
theorem oq_b87c5b03 {a0 : Int} (h0 : a0 < 0) : a0 ≤ 2147483647 := by omega
theorem oq_0b2c4d55 {a0 : Int} (h0 : a0 < 64) : a0 < 128 := by omega
theorem oq_83fe9f9d {a0 a1 : Int} (h0 : a0 = a1) (h1 : a1 < 4) : (a0 + 1) ≤ 4 := by omega
theorem oq_ac23314d {a0 : Int} (h0 : a0 < 4) : a0 ≤ 3 := by omega
theorem oq_665cd23d {a0 a1 a2 : Int} (h0 : a0 = (a1 + 1)) (h1 : a1 = a2) : a0 = (a2 + 1) := by omega
theorem oq_b0bc9e24 {a0 : Int} (h0 : a0 ≤ 4) (h1 : 4 ≤ a0) : a0 = 4 := by omega
theorem oq_b2d75d80 {a0 a1 : Int} (h0 : 0 ≤ a0) (h1 : 0 ≤ a1) : 0 ≤ ((a1 * 128) + a0) := by omega
theorem oq_f0fcc3a4 {a0 a1 a2 : Int} (h0 : a0 < 128) (h1 : a1 = (a2 - 1)) (h2 : a2 ≤ 4) : ((a1 * 128) + a0) < 512 := by omega
theorem oq_c430ddba {a0 a1 a2 : Int} (h0 : a0 < 128) (h1 : a1 = (a2 - 1)) (h2 : a2 ≤ 4) : (((a1 * 128) + a0) : Int).toNat < 512 := by omega
theorem oq_a42238f2 {a0 a1 a2 : Int} (h0 : a0 = a1) (h1 : a1 = (a2 - 1)) : a0 = (a2 - 1) := by omega
theorem oq_17e029b3 {a0 : Int} (h0 : a0 ≤ 0) (h1 : 0 ≤ a0) : a0 = 0 := by omega
theorem oq_61627b74 {a0 a1 a2 : Int} (h0 : ((a0 ≤ 0 ∧ a1 = 0) ∨ (0 < a0 ∧ ((0 ≤ a2 ∧ a2 ≤ 200) ∧ a1 = a2)))) : (-2147483648) ≤ a1 := by omega
theorem oq_05a03612 {a0 a1 a2 : Int} (h0 : ((a0 ≤ 0 ∧ a1 = 0) ∨ (0 < a0 ∧ ((0 ≤ a2 ∧ a2 ≤ 200) ∧ a1 = a2)))) : a1 ≤ 2147483647 := by omega
theorem oq_53e9b233 {a0 a1 a2 : Int} (h0 : ((a0 ≤ 0 ∧ a1 = 0) ∨ (0 < a0 ∧ ((0 ≤ a2 ∧ a2 ≤ 200) ∧ a1 = a2)))) : 0 ≤ a1 := by omega
theorem oq_588c1b12 {a0 a1 a2 : Int} (h0 : ((a0 ≤ 0 ∧ a1 = 0) ∨ (0 < a0 ∧ ((0 ≤ a2 ∧ a2 ≤ 200) ∧ a1 = a2)))) : a1 ≤ 200 := by omega
theorem oq_4a37b086 {a0 : Int} (h0 : a0 ≤ 7) : (a0 - 1) < 8 := by omega
theorem oq_b631dd75 {a0 : Int} (h0 : a0 ≤ 7) : ((a0 - 1) : Int).toNat < 8 := by omega
theorem oq_0a6073ad {a0 a1 a2 : Int} (h0 : ((a0 ≤ a1 ∧ a2 = a1) ∨ (a1 < a0 ∧ a2 = a0))) (h1 : (-2147483648) ≤ a1) : (-2147483648) ≤ a2 := by omega
theorem oq_8bacbe60 {a0 a1 a2 : Int} (h0 : ((a0 ≤ a1 ∧ a2 = a1) ∨ (a1 < a0 ∧ a2 = a0))) (h1 : a1 ≤ 2147483647) (h2 : a0 ≤ 2147483647) : a2 ≤ 2147483647 := by omega
theorem oq_e6eaf040 {a0 a1 a2 : Int} (h0 : ((a0 ≤ a1 ∧ a2 = a0) ∨ (a1 < a0 ∧ a2 = a1))) (h1 : (-2147483648) ≤ a0) (h2 : (-2147483648) ≤ a1) : (-2147483648) ≤ a2 := by omega
theorem oq_b2278a08 {a0 a1 a2 : Int} (h0 : ((a0 ≤ a1 ∧ a2 = a0) ∨ (a1 < a0 ∧ a2 = a1))) (h1 : a0 ≤ 2147483647) : a2 ≤ 2147483647 := by omega
/-! The class: the parting -/
section M73
variable {l : Launch} {s0 : State} {D : va_G} {tys : List (ClassId × FieldType)} {a0 : Array Value} {A : Nat → Nat} {dT : Nat → ClassId} {s : PS}
set_option maxRecDepth 4000 in
theorem c3_hasCells_25 (G : GX l s0 D tys a0 dT) (I : Bd s) {x : Int} (p0 : 0 ≤ x ∧ x ≤ 7) : CT l s0 D A dT 30 (rmN 30) [.ref (A 25), .int (Int32.ofInt x)] s (fun o t => Bd t ∧ Fm [] [] s t ∧ ∃ e, o = .inl (some (.int (Int32.ofInt e))) ∧ rng e ∧ (e = 0 ∨ e = 1)) := by
  refine ct_ofX G (by decide) (Nat.le_of_ble_eq_true rfl) (fun k X E ET hRt hXt q => ?_)
  show WS k 0 [(0, .ref (A 25)), (1, .int (Int32.ofInt x))] [] _ 0 0
  have F : Fm [] [] s s := fm_rf _ _ s
  refine z_aload_n X (x := A 25) rfl (List.Mem.head _) (s_getR X 25 rfl (c518_ok rfl) rfl rfl (z_load_n X (x := x) rfl (List.Mem.tail _ (List.Mem.head _)) (z_lald X 27 rfl (c518_ok rfl) rfl (by first | exact p0.1 | omega) (show x < 8 by first | exact oq_aaea290e p0.2 | omega) (cbig_ok rfl) (fun j1 => ?_))))
  refine z_aload_n X (x := A 25) rfl (List.Mem.head _) (s_getR X 25 rfl (c518_ok rfl) rfl rfl (z_load_n X (x := x) rfl (List.Mem.tail _ (List.Mem.head _)) (z_lald X 28 rfl (c518_ok rfl) rfl (by first | exact p0.1 | omega) (show x < 8 by first | exact oq_aaea290e p0.2 | omega) (cbig_ok rfl) (fun j2 => ?_))))
  refine w_lor X.1 (ax_d X (show cdA 30 12 = some (.lor, 1, 0, 0, 0) from rfl)) (z_anyJ (fun j3 => ?_))
  refine w_lconst X.1 (ax_d X (show cdA 30 13 = some (.lconst 0, 1, 0, 0, 0) from rfl)) rfl (z_anyJ (fun j4 => ?_))
  refine w_lcmp X.1 (ax_d X (show cdA 30 14 = some (.lcmp, 1, 0, 0, 0) from rfl)) (z_any (fun y5 hy5 => ?_))
  have N6 : ∀ e7 : Int, (((y5 = 0) ∧ e7 = 0) ∨ ((y5 ≠ 0) ∧ e7 = 1)) → WS k 23 [(0, .ref (A 25)), (1, .int (Int32.ofInt x))] [.int (Int32.ofInt e7)] (Wd A dT s) 0 0 := by
    intro e7 he7
    have re7 : 0 ≤ e7 ∧ e7 ≤ 1 := by first | (clear he7; omega) | omega
    exact w_iret X.1 q hRt (nar_ret (by first | exact oq_31e518ae re7.2 re7.1 | omega)) (ax_d X (show cdA 30 23 = some (.ireturn, 1, 0, 0, 0) from rfl)) (Nat.zero_le _) (Nat.zero_le _) ⟨_, rfl, I, F, e7, rfl, ⟨by first | exact oq_fa4e5087 re7.1 | omega, by first | exact oq_22e1e6b0 re7.2 | omega⟩, by first | exact oq_31e518ae re7.2 re7.1 | omega⟩
  refine z_if_eq X (t := 22) rfl rfl hy5 (fun g8 => ?_) (fun g8 => ?_)
  ·
    exact z_const X rfl (N6 _ (Or.inl ⟨g8, rfl⟩))
  ·
    exact z_const X rfl (z_goto X (t := 23) rfl rfl (N6 _ (Or.inr (⟨g8, rfl⟩))))
set_option maxRecDepth 4000 in
theorem c3_countPieces_25 (G : GX l s0 D tys a0 dT) (I : Bd s)  : CT l s0 D A dT 31 (rmN 31) [.ref (A 25)] s (fun o t => Bd t ∧ Fm [] [] s t ∧ ∃ e, o = .inl (some (.int (Int32.ofInt e))) ∧ rng e ∧ (True)) := by
  refine ct_ofX G (by decide) (Nat.le_of_ble_eq_true rfl) (fun k X E ET hRt hXt q => ?_)
  show WS k 0 [(0, .ref (A 25))] [] _ 0 0
  have F : Fm [] [] s s := fm_rf _ _ s
  have L4 : ∀ (n : Nat) (t : PS) (mm p : Int), Bd t → Fm [] [] s t → (0 ≤ mm ∧ mm ≤ p ∧ p ≤ 8) → (8 - p : Int).toNat < n → (∀ (t' : PS) (mm' p' : Int), Bd t' → Fm [] [] s t' → (0 ≤ mm' ∧ mm' ≤ p' ∧ p' ≤ 8) → WS k 27 [(0, .ref (A 25)), (1, .int (Int32.ofInt mm')), (2, .int (Int32.ofInt p'))] [] (Wd A dT t') 0 0) → WS k 4 [(0, .ref (A 25)), (1, .int (Int32.ofInt mm)), (2, .int (Int32.ofInt p))] [] (Wd A dT t) 0 0 := by
    intro n
    induction n with
    | zero =>
      intro t mm p I F hi hm kx
      exact absurd hm (Nat.not_lt_zero _)
    | succ n ih =>
      intro t mm p I F hi hm kx
      refine z_load_n X (x := p) rfl (List.Mem.tail _ (List.Mem.tail _ (List.Mem.head _))) (z_bipush X rfl (z_icmp_ge X (t := 27) rfl rfl ⟨by first | exact oq_e001bc0d hi.2.1 hi.1 | omega, by first | exact oq_d3f5d874 hi.2.2 | omega⟩ (by decide) (fun g1001 => ?_) (fun g1001 => ?_)))
      ·
        refine WS_pq [0, 1, 2] (lv' := [(0, .ref (A 25)), (1, .int (Int32.ofInt mm)), (2, .int (Int32.ofInt p))]) rfl ?_
        exact kx _ mm p I F (by first | exact ⟨hi.1, hi.2.1, hi.2.2⟩ | omega)
      ·
        refine z_aload_n X (x := A 25) rfl (List.Mem.head _) (z_load_n X (x := p) rfl (List.Mem.tail _ (List.Mem.tail _ (List.Mem.head _))) (zcV_i0 X E 25 (As := [.int (Int32.ofInt p)]) (st := []) rfl rfl rfl rfl (c3_hasCells_25 G I (by first | exact ⟨oq_12a1f9e1 hi.2.1 hi.1, oq_78c639ed g1001⟩ | omega)) rfl (Nat.le_of_ble_eq_true rfl) (fun s1002 e1003 Is1002 Fs1002 hrs1002 hps1002 => ?_)))
        have Gs1002 := fm_tq F Fs1002 rfl rfl
        refine z_if_eq X (t := 21) rfl rfl hrs1002 (fun g1004 => ?_) (fun g1004 => ?_)
        ·
          refine z_inc X (x := p) (lv' := [(2, .int (Int32.ofInt (p + 1))), (0, .ref (A 25)), (1, .int (Int32.ofInt mm))]) rfl (by decide) (List.Mem.tail _ (List.Mem.tail _ (List.Mem.head _))) (fun _ h => h) (z_goto X (t := 4) rfl rfl (WS_pq [1, 2, 0] (lv' := [(0, .ref (A 25)), (1, .int (Int32.ofInt mm)), (2, .int (Int32.ofInt (p + 1)))]) rfl ?_))
          exact ih _ mm (p + 1) Is1002 Gs1002 (by first | exact ⟨hi.1, oq_03182e9e hi.2.1, oq_0c7b19c3 g1001⟩ | omega) (by first | exact qk_me hm (by decide) (oq_9f368f35 g1001) | omega) kx
        ·
          refine z_inc X (x := mm) (lv' := [(1, .int (Int32.ofInt (mm + 1))), (0, .ref (A 25)), (2, .int (Int32.ofInt p))]) rfl (by decide) (List.Mem.tail _ (List.Mem.head _)) (fun _ h => h) (z_inc X (x := p) (lv' := [(2, .int (Int32.ofInt (p + 1))), (1, .int (Int32.ofInt (mm + 1))), (0, .ref (A 25))]) rfl (by decide) (List.Mem.tail _ (List.Mem.tail _ (List.Mem.head _))) (fun _ h => h) (z_goto X (t := 4) rfl rfl (WS_pq [2, 1, 0] (lv' := [(0, .ref (A 25)), (1, .int (Int32.ofInt (mm + 1))), (2, .int (Int32.ofInt (p + 1)))]) rfl ?_)))
          exact ih _ (mm + 1) (p + 1) Is1002 Gs1002 (by first | exact ⟨oq_54f49eb5 hi.1, oq_8d48a029 hi.2.1, oq_0c7b19c3 g1001⟩ | omega) (by first | exact qk_me hm (by decide) (oq_9f368f35 g1001) | omega) kx
  refine z_const X rfl (z_store_n X (lv' := [(1, .int (Int32.ofInt 0)), (0, .ref (A 25))]) rfl (by decide) (fun _ h => h) (z_const X rfl (z_store_n X (lv' := [(2, .int (Int32.ofInt 0)), (1, .int (Int32.ofInt 0)), (0, .ref (A 25))]) rfl (by decide) (fun _ h => h) (WS_pq [2, 1, 0] (lv' := [(0, .ref (A 25)), (1, .int (Int32.ofInt 0)), (2, .int (Int32.ofInt 0))]) rfl (L4 ((8 - 0 : Int).toNat + 1) s 0 0 I F (by first | exact ⟨by decide, by decide, by decide⟩ | omega) (Nat.lt_succ_self _) ?_)))))
  intro s1 x2 x3 Is1 Fs1 hs1
  refine z_load_n X (x := x2) rfl (List.Mem.tail _ (List.Mem.head _)) ?_
  exact w_iret X.1 q hRt rfl (ax_d X (show cdA 31 28 = some (.ireturn, 1, 0, 0, 0) from rfl)) (Nat.zero_le _) (Nat.zero_le _) ⟨_, rfl, Is1, Fs1, x2, rfl, ⟨by first | exact oq_fa4e5087 hs1.1 | omega, by first | exact oq_b5dbaaed hs1.2.1 hs1.2.2 | omega⟩, trivial⟩
set_option maxRecDepth 4000 in
theorem c3_countShut_25 (G : GX l s0 D tys a0 dT) (I : Bd s)  : CT l s0 D A dT 32 (rmN 32) [.ref (A 25)] s (fun o t => Bd t ∧ Fm [] [] s t ∧ ∃ e, o = .inl (some (.int (Int32.ofInt e))) ∧ rng e ∧ (True)) := by
  refine ct_ofX G (by decide) (Nat.le_of_ble_eq_true rfl) (fun k X E ET hRt hXt q => ?_)
  show WS k 0 [(0, .ref (A 25))] [] _ 0 0
  have F : Fm [] [] s s := fm_rf _ _ s
  have L6 : ∀ (n : Nat) (t : PS) (mm p : Int), Bd t → Fm [] [] s t → (rng mm ∧ 0 ≤ p ∧ p ≤ 8) → (8 - p : Int).toNat < n → (∀ (t' : PS) (mm' p' : Int), Bd t' → Fm [] [] s t' → (rng mm' ∧ 0 ≤ p' ∧ p' ≤ 8) → WS k 40 [(0, .ref (A 25)), (1, .int (Int32.ofInt mm')), (2, .int (Int32.ofInt p'))] [] (Wd A dT t') 0 0) → WS k 6 [(0, .ref (A 25)), (1, .int (Int32.ofInt mm)), (2, .int (Int32.ofInt p))] [] (Wd A dT t) 0 0 := by
    intro n
    induction n with
    | zero =>
      intro t mm p I F hi hm kx
      exact absurd hm (Nat.not_lt_zero _)
    | succ n ih =>
      intro t mm p I F hi hm kx
      refine z_load_n X (x := p) rfl (List.Mem.tail _ (List.Mem.tail _ (List.Mem.head _))) (z_bipush X rfl (z_icmp_ge X (t := 40) rfl rfl ⟨by first | exact oq_fa4e5087 hi.2.1 | omega, by first | exact oq_d3f5d874 hi.2.2 | omega⟩ (by decide) (fun g1001 => ?_) (fun g1001 => ?_)))
      ·
        refine WS_pq [0, 1, 2] (lv' := [(0, .ref (A 25)), (1, .int (Int32.ofInt mm)), (2, .int (Int32.ofInt p))]) rfl ?_
        exact kx _ mm p I F (by first | exact ⟨And.intro (hi.1.1) (hi.1.2), hi.2.1, hi.2.2⟩ | omega)
      ·
        refine z_load_n X (x := mm) rfl (List.Mem.tail _ (List.Mem.head _)) (z_aload_n X (x := A 25) rfl (List.Mem.head _) (s_getR X 25 rfl (c518_ok rfl) rfl rfl (z_load_n X (x := p) rfl (List.Mem.tail _ (List.Mem.tail _ (List.Mem.head _))) (z_lald X 27 rfl (c518_ok rfl) rfl (by first | exact hi.2.1 | omega) (show p < 8 by first | exact g1001 | omega) (cbig_ok rfl) (fun j1002 => ?_)))))
        refine zcS_i0 X E (As := [.long j1002]) (st := [.int (Int32.ofInt mm)]) rfl rfl (j_bitL G I ) rfl (Nat.le_of_ble_eq_true rfl) (fun s1003 e1004 Is1003 Fs1003 hrs1003 hps1003 => ?_)
        have Gs1003 := fm_tq F Fs1003 rfl rfl
        refine z_aload_n X (x := A 25) rfl (List.Mem.head _) (s_getR X 25 rfl (c518_ok rfl) rfl rfl (z_load_n X (x := p) rfl (List.Mem.tail _ (List.Mem.tail _ (List.Mem.head _))) (z_lald X 28 rfl (c518_ok rfl) rfl (by first | exact hi.2.1 | omega) (show p < 8 by first | exact g1001 | omega) (cbig_ok rfl) (fun j1005 => ?_))))
        refine zcS_i0 X E (As := [.long j1005]) (st := [.int (Int32.ofInt e1004), .int (Int32.ofInt mm)]) rfl rfl (j_bitL G Is1003 ) rfl (Nat.le_of_ble_eq_true rfl) (fun s1006 e1007 Is1006 Fs1006 hrs1006 hps1006 => ?_)
        have Gs1006 := fm_tq Gs1003 Fs1006 rfl rfl
        refine z_add X rfl (z_any (fun y1008 hy1008 => ?_))
        refine z_sub X rfl (z_any (fun y1009 hy1009 => ?_))
        refine z_store_n X (lv' := [(1, .int (Int32.ofInt y1009)), (0, .ref (A 25)), (2, .int (Int32.ofInt p))]) rfl (by decide) (fun _ h => h) (z_inc X (x := p) (lv' := [(2, .int (Int32.ofInt (p + 1))), (1, .int (Int32.ofInt y1009)), (0, .ref (A 25))]) rfl (by decide) (List.Mem.tail _ (List.Mem.tail _ (List.Mem.head _))) (fun _ h => h) (z_goto X (t := 6) rfl rfl (WS_pq [2, 1, 0] (lv' := [(0, .ref (A 25)), (1, .int (Int32.ofInt y1009)), (2, .int (Int32.ofInt (p + 1)))]) rfl ?_)))
        exact ih _ y1009 (p + 1) Is1006 Gs1006 (by first | exact ⟨And.intro (hy1009.1) (hy1009.2), oq_54f49eb5 hi.2.1, oq_0c7b19c3 g1001⟩ | omega) (by first | exact qk_me hm (by decide) (oq_9f368f35 g1001) | omega) kx
  refine z_sipush X rfl (z_store_n X (lv' := [(1, .int (Int32.ofInt 128)), (0, .ref (A 25))]) rfl (by decide) (fun _ h => h) (z_const X rfl (z_store_n X (lv' := [(2, .int (Int32.ofInt 0)), (1, .int (Int32.ofInt 128)), (0, .ref (A 25))]) rfl (by decide) (fun _ h => h) (WS_pq [2, 1, 0] (lv' := [(0, .ref (A 25)), (1, .int (Int32.ofInt 128)), (2, .int (Int32.ofInt 0))]) rfl (L6 ((8 - 0 : Int).toNat + 1) s 128 0 I F (by first | exact ⟨And.intro (by decide) (by decide), by decide, by decide⟩ | omega) (Nat.lt_succ_self _) ?_)))))
  intro s1 x2 x3 Is1 Fs1 hs1
  refine z_load_n X (x := x2) rfl (List.Mem.tail _ (List.Mem.head _)) ?_
  exact w_iret X.1 q hRt rfl (ax_d X (show cdA 32 41 = some (.ireturn, 1, 0, 0, 0) from rfl)) (Nat.zero_le _) (Nat.zero_le _) ⟨_, rfl, Is1, Fs1, x2, rfl, ⟨by first | exact hs1.1.1 | omega, by first | exact hs1.1.2 | omega⟩, trivial⟩
set_option maxRecDepth 4000 in
theorem c3_beside (G : GX l s0 D tys a0 dT) (I : Bd s) {aj bj : Int64}  : CT l s0 D A dT 33 (rmN 33) [.long aj, .long bj] s (fun o t => Bd t ∧ Fm [] [] s t ∧ ∃ e : Int64, o = .inl (some (.long e)) ∧ (True)) := by
  refine ct_ofX G (by decide) (Nat.le_of_ble_eq_true rfl) (fun k X E ET hRt hXt q => ?_)
  show WS k 0 [(0, .long aj), (2, .long bj)] [] _ 0 0
  have F : Fm [] [] s s := fm_rf _ _ s
  refine w_lload_n X.1 (ax_d X (show cdA 33 0 = some (.lload_n 0, 1, 0, 0, 0) from rfl)) (x := aj) (List.Mem.head _) (z_const X rfl (w_lshl X.1 (ax_d X (show cdA 33 2 = some (.lshl, 1, 0, 0, 0) from rfl)) (z_anyJ (fun j1 => ?_))))
  refine z_ldc2 X rfl (fun j2 => ?_)
  refine w_land X.1 (ax_d X (show cdA 33 6 = some (.land, 1, 0, 0, 0) from rfl)) (z_anyJ (fun j3 => ?_))
  refine w_lload_n X.1 (ax_d X (show cdA 33 7 = some (.lload_n 0, 1, 0, 0, 0) from rfl)) (x := aj) (List.Mem.head _) (z_const X rfl (w_lushr X.1 (ax_d X (show cdA 33 9 = some (.lushr, 1, 0, 0, 0) from rfl)) (z_anyJ (fun j4 => ?_))))
  refine z_ldc2 X rfl (fun j5 => ?_)
  refine w_land X.1 (ax_d X (show cdA 33 13 = some (.land, 1, 0, 0, 0) from rfl)) (z_anyJ (fun j6 => ?_))
  refine w_lor X.1 (ax_d X (show cdA 33 14 = some (.lor, 1, 0, 0, 0) from rfl)) (z_anyJ (fun j7 => ?_))
  refine w_lload_n X.1 (ax_d X (show cdA 33 15 = some (.lload_n 0, 1, 0, 0, 0) from rfl)) (x := aj) (List.Mem.head _) (z_bipush X rfl (w_lshl X.1 (ax_d X (show cdA 33 18 = some (.lshl, 1, 0, 0, 0) from rfl)) (z_anyJ (fun j8 => ?_))))
  refine w_lor X.1 (ax_d X (show cdA 33 19 = some (.lor, 1, 0, 0, 0) from rfl)) (z_anyJ (fun j9 => ?_))
  refine w_lload_n X.1 (ax_d X (show cdA 33 20 = some (.lload_n 0, 1, 0, 0, 0) from rfl)) (x := aj) (List.Mem.head _) (z_bipush X rfl (w_lushr X.1 (ax_d X (show cdA 33 23 = some (.lushr, 1, 0, 0, 0) from rfl)) (z_anyJ (fun j10 => ?_))))
  refine w_lor X.1 (ax_d X (show cdA 33 24 = some (.lor, 1, 0, 0, 0) from rfl)) (z_anyJ (fun j11 => ?_))
  refine w_lload_n X.1 (ax_d X (show cdA 33 25 = some (.lload_n 2, 1, 0, 0, 0) from rfl)) (x := bj) (List.Mem.tail _ (List.Mem.head _)) (w_lor X.1 (ax_d X (show cdA 33 26 = some (.lor, 1, 0, 0, 0) from rfl)) (z_anyJ (fun j12 => ?_)))
  exact w_lret X.1 q hRt (ax_d X (show cdA 33 27 = some (.lreturn, 1, 0, 0, 0) from rfl)) (Nat.zero_le _) (Nat.zero_le _) ⟨_, rfl, I, F, j12, rfl, trivial⟩
set_option maxRecDepth 4000 in
theorem c3_reaches (G : GX l s0 D tys a0 dT) (I : Bd s) {aj bj cj dj : Int64}  : CT l s0 D A dT 35 (rmN 35) [.long aj, .long bj, .long cj, .long dj] s (fun o t => Bd t ∧ Fm [] [] s t ∧ ∃ e, o = .inl (some (.int (Int32.ofInt e))) ∧ rng e ∧ (e = 0 ∨ e = 1)) := by
  refine ct_ofX G (by decide) (Nat.le_of_ble_eq_true rfl) (fun k X E ET hRt hXt q => ?_)
  show WS k 0 [(0, .long aj), (2, .long bj), (4, .long cj), (6, .long dj)] [] _ 0 0
  have F : Fm [] [] s s := fm_rf _ _ s
  have L28 : ∀ (n : Nat) (t : PS) (av : Int64) (bv : Int64) (cv : Int64) (dv : Int64) (ev : Int64) (fv : Int64) (c : Int), Bd t → Fm [] [] s t → (0 ≤ c ∧ c ≤ 128) → (128 - c : Int).toNat < n → (∀ (t' : PS) (ev' : Int64) (fv' : Int64) (c' : Int), Bd t' → Fm [] [] s t' → (0 ≤ c' ∧ c' ≤ 128) → WS k 122 [(0, .long av), (2, .long bv), (4, .long cv), (6, .long dv), (8, .long ev'), (10, .long fv'), (12, .int (Int32.ofInt c'))] [] (Wd A dT t') 0 0) → WS k 28 [(0, .long av), (2, .long bv), (4, .long cv), (6, .long dv), (8, .long ev), (10, .long fv), (12, .int (Int32.ofInt c))] [] (Wd A dT t) 0 0 := by
    intro n
    induction n with
    | zero =>
      intro t av bv cv dv ev fv c I F hi hm kx
      exact absurd hm (Nat.not_lt_zero _)
    | succ n ih =>
      intro t av bv cv dv ev fv c I F hi hm kx
      refine z_load X (x := c) rfl (List.Mem.tail _ (List.Mem.tail _ (List.Mem.tail _ (List.Mem.tail _ (List.Mem.tail _ (List.Mem.tail _ (List.Mem.head _))))))) (z_sipush X rfl (z_icmp_ge X (t := 122) rfl rfl ⟨by first | exact oq_fa4e5087 hi.1 | omega, by first | exact oq_4ee82282 hi.2 | omega⟩ (by decide) (fun g1001 => ?_) (fun g1001 => ?_)))
      ·
        refine WS_pq [0, 1, 2, 3, 4, 5, 6] (lv' := [(0, .long av), (2, .long bv), (4, .long cv), (6, .long dv), (8, .long ev), (10, .long fv), (12, .int (Int32.ofInt c))]) rfl ?_
        exact kx _ ev fv c I F (by first | exact ⟨hi.1, hi.2⟩ | omega)
      ·
        refine w_lload X.1 (ax_d X (show cdA 35 36 = some (.lload 4, 2, 0, 0, 0) from rfl)) (x := cv) (List.Mem.tail _ (List.Mem.tail _ (List.Mem.head _))) (w_lload X.1 (ax_d X (show cdA 35 38 = some (.lload 8, 2, 0, 0, 0) from rfl)) (x := ev) (List.Mem.tail _ (List.Mem.tail _ (List.Mem.tail _ (List.Mem.tail _ (List.Mem.head _))))) (z_ldc2 X rfl (fun j1002 => ?_)))
        refine w_lxor X.1 (ax_d X (show cdA 35 43 = some (.lxor, 1, 0, 0, 0) from rfl)) (z_anyJ (fun j1003 => ?_))
        refine w_land X.1 (ax_d X (show cdA 35 44 = some (.land, 1, 0, 0, 0) from rfl)) (z_anyJ (fun j1004 => ?_))
        refine w_lload X.1 (ax_d X (show cdA 35 45 = some (.lload 6, 2, 0, 0, 0) from rfl)) (x := dv) (List.Mem.tail _ (List.Mem.tail _ (List.Mem.tail _ (List.Mem.head _)))) (w_lload X.1 (ax_d X (show cdA 35 47 = some (.lload 10, 2, 0, 0, 0) from rfl)) (x := fv) (List.Mem.tail _ (List.Mem.tail _ (List.Mem.tail _ (List.Mem.tail _ (List.Mem.tail _ (List.Mem.head _)))))) (z_ldc2 X rfl (fun j1005 => ?_)))
        refine w_lxor X.1 (ax_d X (show cdA 35 52 = some (.lxor, 1, 0, 0, 0) from rfl)) (z_anyJ (fun j1006 => ?_))
        refine w_land X.1 (ax_d X (show cdA 35 53 = some (.land, 1, 0, 0, 0) from rfl)) (z_anyJ (fun j1007 => ?_))
        refine w_lor X.1 (ax_d X (show cdA 35 54 = some (.lor, 1, 0, 0, 0) from rfl)) (z_anyJ (fun j1008 => ?_))
        refine w_lconst X.1 (ax_d X (show cdA 35 55 = some (.lconst 0, 1, 0, 0, 0) from rfl)) rfl (z_anyJ (fun j1009 => ?_))
        refine w_lcmp X.1 (ax_d X (show cdA 35 56 = some (.lcmp, 1, 0, 0, 0) from rfl)) (z_any (fun y1010 hy1010 => ?_))
        refine z_if_ne X (t := 62) rfl rfl hy1010 (fun g1011 => ?_) (fun g1011 => ?_)
        ·
          refine w_lload X.1 (ax_d X (show cdA 35 62 = some (.lload 8, 2, 0, 0, 0) from rfl)) (x := ev) (List.Mem.tail _ (List.Mem.tail _ (List.Mem.tail _ (List.Mem.tail _ (List.Mem.head _))))) (w_lload X.1 (ax_d X (show cdA 35 64 = some (.lload 8, 2, 0, 0, 0) from rfl)) (x := ev) (List.Mem.tail _ (List.Mem.tail _ (List.Mem.tail _ (List.Mem.tail _ (List.Mem.head _))))) (w_lload X.1 (ax_d X (show cdA 35 66 = some (.lload 10, 2, 0, 0, 0) from rfl)) (x := fv) (List.Mem.tail _ (List.Mem.tail _ (List.Mem.tail _ (List.Mem.tail _ (List.Mem.tail _ (List.Mem.head _)))))) (z_callS X (rm := rmN 33) (As := [.long ev, .long fv]) (st := [.long ev]) rfl rfl (by rw [E.1, E.2.1, E.2.2.1]; exact c3_beside G I ) ⟨by rw [E.2.2.2]; exact (show (rmN 33).frames + 1 ≤ (rmN 35).frames by decide), by rw [E.2.2.2]; exact (show 8 + (mNL (miB 33) + 11) + (rmN 33).locals ≤ (rmN 35).locals by decide), by rw [E.2.2.2]; exact (show 0 + (rmN 33).cells ≤ (rmN 35).cells by decide), by rw [E.2.2.2]; exact (show 0 + (rmN 33).slots ≤ (rmN 35).slots by decide)⟩ (Nat.le_of_ble_eq_true rfl) (fun vv s1012 hq => ?_) (fun ee s1012 hq => ?_))))
          rotate_left
          · obtain ⟨Is1012, Fs1012, e1013, hv, hrs1012, hps1012⟩ := hq; cases hv
          obtain ⟨Is1012, Fs1012, e1013, hv, hrs1012, hps1012⟩ := hq
          cases hv
          have Gs1012 := fm_tq F Fs1012 rfl rfl
          show WS k 71 [(0, .long av), (2, .long bv), (4, .long cv), (6, .long dv), (8, .long ev), (10, .long fv), (12, .int (Int32.ofInt c))] [.long e1013, .long ev] (Wd A dT s1012) 0 0
          refine w_lor X.1 (ax_d X (show cdA 35 71 = some (.lor, 1, 0, 0, 0) from rfl)) (z_anyJ (fun j1014 => ?_))
          refine w_lload_n X.1 (ax_d X (show cdA 35 72 = some (.lload_n 0, 1, 0, 0, 0) from rfl)) (x := av) (List.Mem.head _) (w_land X.1 (ax_d X (show cdA 35 73 = some (.land, 1, 0, 0, 0) from rfl)) (z_anyJ (fun j1015 => ?_)))
          refine w_lstore X.1 (lv' := [(13, .long j1015), (0, .long av), (2, .long bv), (4, .long cv), (6, .long dv), (8, .long ev), (10, .long fv), (12, .int (Int32.ofInt c))]) (ax_d X (show cdA 35 74 = some (.lstore 13, 2, 0, 0, 0) from rfl)) (by rw [X.2.1.2.2]; decide) (fun _ h => h) (w_lload X.1 (ax_d X (show cdA 35 76 = some (.lload 10, 2, 0, 0, 0) from rfl)) (x := fv) (List.Mem.tail _ (List.Mem.tail _ (List.Mem.tail _ (List.Mem.tail _ (List.Mem.tail _ (List.Mem.tail _ (List.Mem.head _))))))) (w_lload X.1 (ax_d X (show cdA 35 78 = some (.lload 10, 2, 0, 0, 0) from rfl)) (x := fv) (List.Mem.tail _ (List.Mem.tail _ (List.Mem.tail _ (List.Mem.tail _ (List.Mem.tail _ (List.Mem.tail _ (List.Mem.head _))))))) (w_lload X.1 (ax_d X (show cdA 35 80 = some (.lload 13, 2, 0, 0, 0) from rfl)) (x := j1015) (List.Mem.head _) (z_callS X (rm := rmN 33) (As := [.long fv, .long j1015]) (st := [.long fv]) rfl rfl (by rw [E.1, E.2.1, E.2.2.1]; exact c3_beside G Is1012 ) ⟨by rw [E.2.2.2]; exact (show (rmN 33).frames + 1 ≤ (rmN 35).frames by decide), by rw [E.2.2.2]; exact (show 8 + (mNL (miB 33) + 11) + (rmN 33).locals ≤ (rmN 35).locals by decide), by rw [E.2.2.2]; exact (show 0 + (rmN 33).cells ≤ (rmN 35).cells by decide), by rw [E.2.2.2]; exact (show 0 + (rmN 33).slots ≤ (rmN 35).slots by decide)⟩ (Nat.le_of_ble_eq_true rfl) (fun vv s1016 hq => ?_) (fun ee s1016 hq => ?_)))))
          rotate_left
          · obtain ⟨Is1016, Fs1016, e1017, hv, hrs1016, hps1016⟩ := hq; cases hv
          obtain ⟨Is1016, Fs1016, e1017, hv, hrs1016, hps1016⟩ := hq
          cases hv
          have Gs1016 := fm_tq Gs1012 Fs1016 rfl rfl
          show WS k 85 [(13, .long j1015), (0, .long av), (2, .long bv), (4, .long cv), (6, .long dv), (8, .long ev), (10, .long fv), (12, .int (Int32.ofInt c))] [.long e1017, .long fv] (Wd A dT s1016) 0 0
          refine w_lor X.1 (ax_d X (show cdA 35 85 = some (.lor, 1, 0, 0, 0) from rfl)) (z_anyJ (fun j1018 => ?_))
          refine w_lload_n X.1 (ax_d X (show cdA 35 86 = some (.lload_n 2, 1, 0, 0, 0) from rfl)) (x := bv) (List.Mem.tail _ (List.Mem.tail _ (List.Mem.head _))) (w_land X.1 (ax_d X (show cdA 35 87 = some (.land, 1, 0, 0, 0) from rfl)) (z_anyJ (fun j1019 => ?_)))
          refine w_lstore X.1 (lv' := [(15, .long j1019), (13, .long j1015), (0, .long av), (2, .long bv), (4, .long cv), (6, .long dv), (8, .long ev), (10, .long fv), (12, .int (Int32.ofInt c))]) (ax_d X (show cdA 35 88 = some (.lstore 15, 2, 0, 0, 0) from rfl)) (by rw [X.2.1.2.2]; decide) (fun _ h => h) (w_lload X.1 (ax_d X (show cdA 35 90 = some (.lload 13, 2, 0, 0, 0) from rfl)) (x := j1015) (List.Mem.tail _ (List.Mem.head _)) (w_lload X.1 (ax_d X (show cdA 35 92 = some (.lload 8, 2, 0, 0, 0) from rfl)) (x := ev) (List.Mem.tail _ (List.Mem.tail _ (List.Mem.tail _ (List.Mem.tail _ (List.Mem.tail _ (List.Mem.tail _ (List.Mem.head _))))))) (w_lcmp X.1 (ax_d X (show cdA 35 94 = some (.lcmp, 1, 0, 0, 0) from rfl)) (z_any (fun y1020 hy1020 => ?_)))))
          refine z_if_ne X (t := 108) rfl rfl hy1020 (fun g1021 => ?_) (fun g1021 => ?_)
          ·
            refine w_lload X.1 (ax_d X (show cdA 35 108 = some (.lload 13, 2, 0, 0, 0) from rfl)) (x := j1015) (List.Mem.tail _ (List.Mem.head _)) (w_lstore X.1 (lv' := [(8, .long j1015), (15, .long j1019), (13, .long j1015), (0, .long av), (2, .long bv), (4, .long cv), (6, .long dv), (10, .long fv), (12, .int (Int32.ofInt c))]) (ax_d X (show cdA 35 110 = some (.lstore 8, 2, 0, 0, 0) from rfl)) (by rw [X.2.1.2.2]; decide) (fun _ h => h) (w_lload X.1 (ax_d X (show cdA 35 112 = some (.lload 15, 2, 0, 0, 0) from rfl)) (x := j1019) (List.Mem.tail _ (List.Mem.head _)) (w_lstore X.1 (lv' := [(10, .long j1019), (8, .long j1015), (15, .long j1019), (13, .long j1015), (0, .long av), (2, .long bv), (4, .long cv), (6, .long dv), (12, .int (Int32.ofInt c))]) (ax_d X (show cdA 35 114 = some (.lstore 10, 2, 0, 0, 0) from rfl)) (by rw [X.2.1.2.2]; decide) (fun _ h => h) (z_inc X (x := c) (lv' := [(12, .int (Int32.ofInt (c + 1))), (10, .long j1019), (8, .long j1015), (15, .long j1019), (13, .long j1015), (0, .long av), (2, .long bv), (4, .long cv), (6, .long dv)]) rfl (by decide) (List.Mem.tail _ (List.Mem.tail _ (List.Mem.tail _ (List.Mem.tail _ (List.Mem.tail _ (List.Mem.tail _ (List.Mem.tail _ (List.Mem.tail _ (List.Mem.head _))))))))) (fun _ h => h) (z_goto X (t := 28) rfl rfl (WS_pq [5, 6, 7, 8, 2, 1, 0] (lv' := [(0, .long av), (2, .long bv), (4, .long cv), (6, .long dv), (8, .long j1015), (10, .long j1019), (12, .int (Int32.ofInt (c + 1)))]) rfl ?_))))))
            exact ih _ av bv cv dv j1015 j1019 (c + 1) Is1016 Gs1016 (by first | exact ⟨oq_54f49eb5 hi.1, oq_d2afb425 g1001⟩ | omega) (by first | exact qk_me hm (by decide) (oq_c268b7bd g1001) | omega) kx
          ·
            refine w_lload X.1 (ax_d X (show cdA 35 98 = some (.lload 15, 2, 0, 0, 0) from rfl)) (x := j1019) (List.Mem.head _) (w_lload X.1 (ax_d X (show cdA 35 100 = some (.lload 10, 2, 0, 0, 0) from rfl)) (x := fv) (List.Mem.tail _ (List.Mem.tail _ (List.Mem.tail _ (List.Mem.tail _ (List.Mem.tail _ (List.Mem.tail _ (List.Mem.tail _ (List.Mem.head _)))))))) (w_lcmp X.1 (ax_d X (show cdA 35 102 = some (.lcmp, 1, 0, 0, 0) from rfl)) (z_any (fun y1022 hy1022 => ?_))))
            refine z_if_ne X (t := 108) rfl rfl hy1022 (fun g1023 => ?_) (fun g1023 => ?_)
            ·
              refine w_lload X.1 (ax_d X (show cdA 35 108 = some (.lload 13, 2, 0, 0, 0) from rfl)) (x := j1015) (List.Mem.tail _ (List.Mem.head _)) (w_lstore X.1 (lv' := [(8, .long j1015), (15, .long j1019), (13, .long j1015), (0, .long av), (2, .long bv), (4, .long cv), (6, .long dv), (10, .long fv), (12, .int (Int32.ofInt c))]) (ax_d X (show cdA 35 110 = some (.lstore 8, 2, 0, 0, 0) from rfl)) (by rw [X.2.1.2.2]; decide) (fun _ h => h) (w_lload X.1 (ax_d X (show cdA 35 112 = some (.lload 15, 2, 0, 0, 0) from rfl)) (x := j1019) (List.Mem.tail _ (List.Mem.head _)) (w_lstore X.1 (lv' := [(10, .long j1019), (8, .long j1015), (15, .long j1019), (13, .long j1015), (0, .long av), (2, .long bv), (4, .long cv), (6, .long dv), (12, .int (Int32.ofInt c))]) (ax_d X (show cdA 35 114 = some (.lstore 10, 2, 0, 0, 0) from rfl)) (by rw [X.2.1.2.2]; decide) (fun _ h => h) (z_inc X (x := c) (lv' := [(12, .int (Int32.ofInt (c + 1))), (10, .long j1019), (8, .long j1015), (15, .long j1019), (13, .long j1015), (0, .long av), (2, .long bv), (4, .long cv), (6, .long dv)]) rfl (by decide) (List.Mem.tail _ (List.Mem.tail _ (List.Mem.tail _ (List.Mem.tail _ (List.Mem.tail _ (List.Mem.tail _ (List.Mem.tail _ (List.Mem.tail _ (List.Mem.head _))))))))) (fun _ h => h) (z_goto X (t := 28) rfl rfl (WS_pq [5, 6, 7, 8, 2, 1, 0] (lv' := [(0, .long av), (2, .long bv), (4, .long cv), (6, .long dv), (8, .long j1015), (10, .long j1019), (12, .int (Int32.ofInt (c + 1)))]) rfl ?_))))))
              exact ih _ av bv cv dv j1015 j1019 (c + 1) Is1016 Gs1016 (by first | exact ⟨oq_54f49eb5 hi.1, oq_d2afb425 g1001⟩ | omega) (by first | exact qk_me hm (by decide) (oq_c268b7bd g1001) | omega) kx
            ·
              refine z_const X rfl ?_
              exact w_iret X.1 q hRt (nar_ret (by first | exact Or.inl (by decide) | omega)) (ax_d X (show cdA 35 107 = some (.ireturn, 1, 0, 0, 0) from rfl)) (Nat.zero_le _) (Nat.zero_le _) ⟨_, rfl, Is1016, Gs1016, 0, rfl, (by decide), by first | exact Or.inl (by decide) | omega⟩
        ·
          refine z_const X rfl ?_
          exact w_iret X.1 q hRt (nar_ret (by first | exact Or.inr (by decide) | omega)) (ax_d X (show cdA 35 61 = some (.ireturn, 1, 0, 0, 0) from rfl)) (Nat.zero_le _) (Nat.zero_le _) ⟨_, rfl, I, F, 1, rfl, (by decide), by first | exact Or.inr (by decide) | omega⟩
  refine w_lload X.1 (ax_d X (show cdA 35 0 = some (.lload 4, 2, 0, 0, 0) from rfl)) (x := cj) (List.Mem.tail _ (List.Mem.tail _ (List.Mem.head _))) (z_callS X (rm := rmN 297) (As := [.long cj]) (st := []) rfl rfl (by rw [E.1, E.2.1, E.2.2.1]; exact j_lowL G I ) ⟨by rw [E.2.2.2]; exact (show (rmN 297).frames + 1 ≤ (rmN 35).frames by decide), by rw [E.2.2.2]; exact (show 8 + (mNL (miB 297) + 11) + (rmN 297).locals ≤ (rmN 35).locals by decide), by rw [E.2.2.2]; exact (show 0 + (rmN 297).cells ≤ (rmN 35).cells by decide), by rw [E.2.2.2]; exact (show 0 + (rmN 297).slots ≤ (rmN 35).slots by decide)⟩ (Nat.le_of_ble_eq_true rfl) (fun vv s1 hq => ?_) (fun ee s1 hq => ?_))
  rotate_left
  · obtain ⟨Is1, Fs1, e2, hv, hrs1, hps1⟩ := hq; cases hv
  obtain ⟨Is1, Fs1, e2, hv, hrs1, hps1⟩ := hq
  cases hv
  have Gs1 := fm_tq F Fs1 rfl rfl
  show WS k 5 [(0, .long aj), (2, .long bj), (4, .long cj), (6, .long dj)] [.long e2] (Wd A dT s1) 0 0
  refine w_lstore X.1 (lv' := [(8, .long e2), (0, .long aj), (2, .long bj), (4, .long cj), (6, .long dj)]) (ax_d X (show cdA 35 5 = some (.lstore 8, 2, 0, 0, 0) from rfl)) (by rw [X.2.1.2.2]; decide) (fun _ h => h) (w_lload X.1 (ax_d X (show cdA 35 7 = some (.lload 4, 2, 0, 0, 0) from rfl)) (x := cj) (List.Mem.tail _ (List.Mem.tail _ (List.Mem.tail _ (List.Mem.head _)))) (w_lconst X.1 (ax_d X (show cdA 35 9 = some (.lconst 0, 1, 0, 0, 0) from rfl)) rfl (z_anyJ (fun j3 => ?_))))
  refine w_lcmp X.1 (ax_d X (show cdA 35 10 = some (.lcmp, 1, 0, 0, 0) from rfl)) (z_any (fun y4 hy4 => ?_))
  refine z_if_ne X (t := 22) rfl rfl hy4 (fun g5 => ?_) (fun g5 => ?_)
  ·
    refine w_lconst X.1 (ax_d X (show cdA 35 22 = some (.lconst 0, 1, 0, 0, 0) from rfl)) rfl (z_anyJ (fun j6 => ?_))
    refine w_lstore X.1 (lv' := [(10, .long j6), (8, .long e2), (0, .long aj), (2, .long bj), (4, .long cj), (6, .long dj)]) (ax_d X (show cdA 35 23 = some (.lstore 10, 2, 0, 0, 0) from rfl)) (by rw [X.2.1.2.2]; decide) (fun _ h => h) (z_const X rfl (z_store X (lv' := [(12, .int (Int32.ofInt 0)), (10, .long j6), (8, .long e2), (0, .long aj), (2, .long bj), (4, .long cj), (6, .long dj)]) rfl (by decide) (fun _ h => h) (WS_pq [3, 4, 5, 6, 2, 1, 0] (lv' := [(0, .long aj), (2, .long bj), (4, .long cj), (6, .long dj), (8, .long e2), (10, .long j6), (12, .int (Int32.ofInt 0))]) rfl (L28 ((128 - 0 : Int).toNat + 1) s1 aj bj cj dj e2 j6 0 Is1 Gs1 (by first | exact ⟨by decide, by decide⟩ | omega) (Nat.lt_succ_self _) ?_))))
    intro s7 x8 x9 x10 Is7 Fs7 hs7
    refine z_const X rfl ?_
    exact w_iret X.1 q hRt (nar_ret (by first | exact Or.inl (by decide) | omega)) (ax_d X (show cdA 35 123 = some (.ireturn, 1, 0, 0, 0) from rfl)) (Nat.zero_le _) (Nat.zero_le _) ⟨_, rfl, Is7, Fs7, 0, rfl, (by decide), by first | exact Or.inl (by decide) | omega⟩
  ·
    refine w_lload X.1 (ax_d X (show cdA 35 14 = some (.lload 6, 2, 0, 0, 0) from rfl)) (x := dj) (List.Mem.tail _ (List.Mem.tail _ (List.Mem.tail _ (List.Mem.tail _ (List.Mem.head _))))) (z_callS X (rm := rmN 297) (As := [.long dj]) (st := []) rfl rfl (by rw [E.1, E.2.1, E.2.2.1]; exact j_lowL G Is1 ) ⟨by rw [E.2.2.2]; exact (show (rmN 297).frames + 1 ≤ (rmN 35).frames by decide), by rw [E.2.2.2]; exact (show 8 + (mNL (miB 297) + 11) + (rmN 297).locals ≤ (rmN 35).locals by decide), by rw [E.2.2.2]; exact (show 0 + (rmN 297).cells ≤ (rmN 35).cells by decide), by rw [E.2.2.2]; exact (show 0 + (rmN 297).slots ≤ (rmN 35).slots by decide)⟩ (Nat.le_of_ble_eq_true rfl) (fun vv s11 hq => ?_) (fun ee s11 hq => ?_))
    rotate_left
    · obtain ⟨Is11, Fs11, e12, hv, hrs11, hps11⟩ := hq; cases hv
    obtain ⟨Is11, Fs11, e12, hv, hrs11, hps11⟩ := hq
    cases hv
    have Gs11 := fm_tq Gs1 Fs11 rfl rfl
    show WS k 19 [(8, .long e2), (0, .long aj), (2, .long bj), (4, .long cj), (6, .long dj)] [.long e12] (Wd A dT s11) 0 0
    refine z_goto X (t := 23) rfl rfl (w_lstore X.1 (lv' := [(10, .long e12), (8, .long e2), (0, .long aj), (2, .long bj), (4, .long cj), (6, .long dj)]) (ax_d X (show cdA 35 23 = some (.lstore 10, 2, 0, 0, 0) from rfl)) (by rw [X.2.1.2.2]; decide) (fun _ h => h) (z_const X rfl (z_store X (lv' := [(12, .int (Int32.ofInt 0)), (10, .long e12), (8, .long e2), (0, .long aj), (2, .long bj), (4, .long cj), (6, .long dj)]) rfl (by decide) (fun _ h => h) (WS_pq [3, 4, 5, 6, 2, 1, 0] (lv' := [(0, .long aj), (2, .long bj), (4, .long cj), (6, .long dj), (8, .long e2), (10, .long e12), (12, .int (Int32.ofInt 0))]) rfl (L28 ((128 - 0 : Int).toNat + 1) s11 aj bj cj dj e2 e12 0 Is11 Gs11 (by first | exact ⟨by decide, by decide⟩ | omega) (Nat.lt_succ_self _) ?_)))))
    intro s13 x14 x15 x16 Is13 Fs13 hs13
    refine z_const X rfl ?_
    exact w_iret X.1 q hRt (nar_ret (by first | exact Or.inl (by decide) | omega)) (ax_d X (show cdA 35 123 = some (.ireturn, 1, 0, 0, 0) from rfl)) (Nat.zero_le _) (Nat.zero_le _) ⟨_, rfl, Is13, Fs13, 0, rfl, (by decide), by first | exact Or.inl (by decide) | omega⟩
set_option maxRecDepth 4000 in
theorem c3_hangs (G : GX l s0 D tys a0 dT) (I : Bd s) {aj bj : Int64}  : CT l s0 D A dT 34 (rmN 34) [.long aj, .long bj] s (fun o t => Bd t ∧ Fm [] [] s t ∧ ∃ e, o = .inl (some (.int (Int32.ofInt e))) ∧ rng e ∧ (e = 0 ∨ e = 1)) := by
  refine ct_ofX G (by decide) (Nat.le_of_ble_eq_true rfl) (fun k X E ET hRt hXt q => ?_)
  show WS k 0 [(0, .long aj), (2, .long bj)] [] _ 0 0
  have F : Fm [] [] s s := fm_rf _ _ s
  refine w_lload_n X.1 (ax_d X (show cdA 34 0 = some (.lload_n 0, 1, 0, 0, 0) from rfl)) (x := aj) (List.Mem.head _) (w_lload_n X.1 (ax_d X (show cdA 34 1 = some (.lload_n 2, 1, 0, 0, 0) from rfl)) (x := bj) (List.Mem.tail _ (List.Mem.head _)) (w_lload_n X.1 (ax_d X (show cdA 34 2 = some (.lload_n 0, 1, 0, 0, 0) from rfl)) (x := aj) (List.Mem.head _) (w_lload_n X.1 (ax_d X (show cdA 34 3 = some (.lload_n 2, 1, 0, 0, 0) from rfl)) (x := bj) (List.Mem.tail _ (List.Mem.head _)) (zcS_i0 X E (As := [.long aj, .long bj, .long aj, .long bj]) (st := []) rfl rfl (c3_reaches G I ) rfl (Nat.le_of_ble_eq_true rfl) (fun s1 e2 Is1 Fs1 hrs1 hps1 => ?_)))))
  have Gs1 := fm_tq F Fs1 rfl rfl
  exact w_iret X.1 q hRt (nar_ret (by first | exact hps1 | omega)) (ax_d X (show cdA 34 7 = some (.ireturn, 1, 0, 0, 0) from rfl)) (Nat.zero_le _) (Nat.zero_le _) ⟨_, rfl, Is1, Gs1, e2, rfl, hrs1, by first | exact hps1 | omega⟩
set_option maxRecDepth 4000 in
theorem c3_hangsWithout_25 (G : GX l s0 D tys a0 dT) (I : Bd s) {x y : Int} (p0 : 0 ≤ x ∧ x ≤ 7) (p1 : 0 ≤ y ∧ y ≤ 127) : CT l s0 D A dT 37 (rmN 37) [.ref (A 25), .int (Int32.ofInt x), .int (Int32.ofInt y)] s (fun o t => Bd t ∧ Fm [] [] s t ∧ ∃ e, o = .inl (some (.int (Int32.ofInt e))) ∧ rng e ∧ (e = 0 ∨ e = 1)) := by
  refine ct_ofX G (by decide) (Nat.le_of_ble_eq_true rfl) (fun k X E ET hRt hXt q => ?_)
  show WS k 0 [(0, .ref (A 25)), (1, .int (Int32.ofInt x)), (2, .int (Int32.ofInt y))] [] _ 0 0
  have F : Fm [] [] s s := fm_rf _ _ s
  refine z_load_n X (x := y) rfl (List.Mem.tail _ (List.Mem.tail _ (List.Mem.head _))) (z_bipush X rfl ?_)
  have N1 : ∀ j2 : Int64, WS k 13 [(0, .ref (A 25)), (1, .int (Int32.ofInt x)), (2, .int (Int32.ofInt y))] [.long j2] (Wd A dT s) 0 0 := by
    intro j2
    refine w_lstore_n X.1 (lv' := [(3, .long j2), (0, .ref (A 25)), (1, .int (Int32.ofInt x)), (2, .int (Int32.ofInt y))]) (ax_d X (show cdA 37 13 = some (.lstore_n 3, 1, 0, 0, 0) from rfl)) (by rw [X.2.1.2.2]; decide) (fun _ h => h) (z_load_n X (x := y) rfl (List.Mem.tail _ (List.Mem.tail _ (List.Mem.tail _ (List.Mem.head _)))) (z_bipush X rfl (z_icmp_ge X (t := 24) rfl rfl ⟨by first | exact oq_fa4e5087 p1.1 | omega, by first | exact oq_07d346ce p1.2 | omega⟩ (by decide) (fun g3 => ?_) (fun g3 => ?_))))
    ·
      refine w_lconst X.1 (ax_d X (show cdA 37 24 = some (.lconst 1, 1, 0, 0, 0) from rfl)) rfl (z_anyJ (fun j4 => ?_))
      refine z_load_n X (x := y) rfl (List.Mem.tail _ (List.Mem.tail _ (List.Mem.tail _ (List.Mem.head _)))) (z_bipush X rfl (z_andm X rfl (by decide) (by decide) (fun y5 hy5 gy5 => ?_)))
      refine w_lshl X.1 (ax_d X (show cdA 37 29 = some (.lshl, 1, 0, 0, 0) from rfl)) (z_anyJ (fun j6 => ?_))
      refine w_lstore X.1 (lv' := [(5, .long j6), (3, .long j2), (0, .ref (A 25)), (1, .int (Int32.ofInt x)), (2, .int (Int32.ofInt y))]) (ax_d X (show cdA 37 30 = some (.lstore 5, 2, 0, 0, 0) from rfl)) (by rw [X.2.1.2.2]; decide) (fun _ h => h) (z_aload_n X (x := A 25) rfl (List.Mem.tail _ (List.Mem.tail _ (List.Mem.head _))) (s_getR X 25 rfl (c518_ok rfl) rfl rfl (z_load_n X (x := x) rfl (List.Mem.tail _ (List.Mem.tail _ (List.Mem.tail _ (List.Mem.head _)))) (z_lald X 27 rfl (c518_ok rfl) rfl (by first | exact p0.1 | omega) (show x < 8 by first | exact oq_aaea290e p0.2 | omega) (cbig_ok rfl) (fun j7 => ?_)))))
      refine w_lload_n X.1 (ax_d X (show cdA 37 38 = some (.lload_n 3, 1, 0, 0, 0) from rfl)) (x := j2) (List.Mem.tail _ (List.Mem.head _)) (z_ldc2 X rfl (fun j8 => ?_))
      refine w_lxor X.1 (ax_d X (show cdA 37 42 = some (.lxor, 1, 0, 0, 0) from rfl)) (z_anyJ (fun j9 => ?_))
      refine w_land X.1 (ax_d X (show cdA 37 43 = some (.land, 1, 0, 0, 0) from rfl)) (z_anyJ (fun j10 => ?_))
      refine w_lstore X.1 (lv' := [(7, .long j10), (5, .long j6), (3, .long j2), (0, .ref (A 25)), (1, .int (Int32.ofInt x)), (2, .int (Int32.ofInt y))]) (ax_d X (show cdA 37 44 = some (.lstore 7, 2, 0, 0, 0) from rfl)) (by rw [X.2.1.2.2]; decide) (fun _ h => h) (z_aload_n X (x := A 25) rfl (List.Mem.tail _ (List.Mem.tail _ (List.Mem.tail _ (List.Mem.head _)))) (s_getR X 25 rfl (c518_ok rfl) rfl rfl (z_load_n X (x := x) rfl (List.Mem.tail _ (List.Mem.tail _ (List.Mem.tail _ (List.Mem.tail _ (List.Mem.head _))))) (z_lald X 28 rfl (c518_ok rfl) rfl (by first | exact p0.1 | omega) (show x < 8 by first | exact oq_aaea290e p0.2 | omega) (cbig_ok rfl) (fun j11 => ?_)))))
      refine w_lload X.1 (ax_d X (show cdA 37 52 = some (.lload 5, 2, 0, 0, 0) from rfl)) (x := j6) (List.Mem.tail _ (List.Mem.head _)) (z_ldc2 X rfl (fun j12 => ?_))
      refine w_lxor X.1 (ax_d X (show cdA 37 57 = some (.lxor, 1, 0, 0, 0) from rfl)) (z_anyJ (fun j13 => ?_))
      refine w_land X.1 (ax_d X (show cdA 37 58 = some (.land, 1, 0, 0, 0) from rfl)) (z_anyJ (fun j14 => ?_))
      refine w_lstore X.1 (lv' := [(9, .long j14), (7, .long j10), (5, .long j6), (3, .long j2), (0, .ref (A 25)), (1, .int (Int32.ofInt x)), (2, .int (Int32.ofInt y))]) (ax_d X (show cdA 37 59 = some (.lstore 9, 2, 0, 0, 0) from rfl)) (by rw [X.2.1.2.2]; decide) (fun _ h => h) (w_lload X.1 (ax_d X (show cdA 37 61 = some (.lload 7, 2, 0, 0, 0) from rfl)) (x := j10) (List.Mem.tail _ (List.Mem.head _)) (w_lload X.1 (ax_d X (show cdA 37 63 = some (.lload 9, 2, 0, 0, 0) from rfl)) (x := j14) (List.Mem.head _) (w_lload_n X.1 (ax_d X (show cdA 37 65 = some (.lload_n 3, 1, 0, 0, 0) from rfl)) (x := j2) (List.Mem.tail _ (List.Mem.tail _ (List.Mem.tail _ (List.Mem.head _)))) (w_lload X.1 (ax_d X (show cdA 37 66 = some (.lload 5, 2, 0, 0, 0) from rfl)) (x := j6) (List.Mem.tail _ (List.Mem.tail _ (List.Mem.head _))) (z_callS X (rm := rmN 33) (As := [.long j2, .long j6]) (st := [.long j14, .long j10]) rfl rfl (by rw [E.1, E.2.1, E.2.2.1]; exact c3_beside G I ) ⟨by rw [E.2.2.2]; exact (show (rmN 33).frames + 1 ≤ (rmN 37).frames by decide), by rw [E.2.2.2]; exact (show 8 + (mNL (miB 33) + 11) + (rmN 33).locals ≤ (rmN 37).locals by decide), by rw [E.2.2.2]; exact (show 0 + (rmN 33).cells ≤ (rmN 37).cells by decide), by rw [E.2.2.2]; exact (show 0 + (rmN 33).slots ≤ (rmN 37).slots by decide)⟩ (Nat.le_of_ble_eq_true rfl) (fun vv s15 hq => ?_) (fun ee s15 hq => ?_))))))
      rotate_left
      · obtain ⟨Is15, Fs15, e16, hv, hrs15, hps15⟩ := hq; cases hv
      obtain ⟨Is15, Fs15, e16, hv, hrs15, hps15⟩ := hq
      cases hv
      have Gs15 := fm_tq F Fs15 rfl rfl
      show WS k 71 [(9, .long j14), (7, .long j10), (5, .long j6), (3, .long j2), (0, .ref (A 25)), (1, .int (Int32.ofInt x)), (2, .int (Int32.ofInt y))] [.long e16, .long j14, .long j10] (Wd A dT s15) 0 0
      refine w_lload X.1 (ax_d X (show cdA 37 71 = some (.lload 7, 2, 0, 0, 0) from rfl)) (x := j10) (List.Mem.tail _ (List.Mem.head _)) (w_land X.1 (ax_d X (show cdA 37 73 = some (.land, 1, 0, 0, 0) from rfl)) (z_anyJ (fun j17 => ?_)))
      refine w_lload X.1 (ax_d X (show cdA 37 74 = some (.lload 5, 2, 0, 0, 0) from rfl)) (x := j6) (List.Mem.tail _ (List.Mem.tail _ (List.Mem.head _))) (w_lload_n X.1 (ax_d X (show cdA 37 76 = some (.lload_n 3, 1, 0, 0, 0) from rfl)) (x := j2) (List.Mem.tail _ (List.Mem.tail _ (List.Mem.tail _ (List.Mem.head _)))) (z_callS X (rm := rmN 33) (As := [.long j6, .long j2]) (st := [.long j17, .long j14, .long j10]) rfl rfl (by rw [E.1, E.2.1, E.2.2.1]; exact c3_beside G Is15 ) ⟨by rw [E.2.2.2]; exact (show (rmN 33).frames + 1 ≤ (rmN 37).frames by decide), by rw [E.2.2.2]; exact (show 8 + (mNL (miB 33) + 11) + (rmN 33).locals ≤ (rmN 37).locals by decide), by rw [E.2.2.2]; exact (show 0 + (rmN 33).cells ≤ (rmN 37).cells by decide), by rw [E.2.2.2]; exact (show 0 + (rmN 33).slots ≤ (rmN 37).slots by decide)⟩ (Nat.le_of_ble_eq_true rfl) (fun vv s18 hq => ?_) (fun ee s18 hq => ?_)))
      rotate_left
      · obtain ⟨Is18, Fs18, e19, hv, hrs18, hps18⟩ := hq; cases hv
      obtain ⟨Is18, Fs18, e19, hv, hrs18, hps18⟩ := hq
      cases hv
      have Gs18 := fm_tq Gs15 Fs18 rfl rfl
      show WS k 80 [(9, .long j14), (7, .long j10), (5, .long j6), (3, .long j2), (0, .ref (A 25)), (1, .int (Int32.ofInt x)), (2, .int (Int32.ofInt y))] [.long e19, .long j17, .long j14, .long j10] (Wd A dT s18) 0 0
      refine w_lload X.1 (ax_d X (show cdA 37 80 = some (.lload 9, 2, 0, 0, 0) from rfl)) (x := j14) (List.Mem.head _) (w_land X.1 (ax_d X (show cdA 37 82 = some (.land, 1, 0, 0, 0) from rfl)) (z_anyJ (fun j20 => ?_)))
      refine zcS_i0 X E (As := [.long j10, .long j14, .long j17, .long j20]) (st := []) rfl rfl (c3_reaches G Is18 ) rfl (Nat.le_of_ble_eq_true rfl) (fun s21 e22 Is21 Fs21 hrs21 hps21 => ?_)
      have Gs21 := fm_tq Gs18 Fs21 rfl rfl
      exact w_iret X.1 q hRt (nar_ret (by first | exact hps21 | omega)) (ax_d X (show cdA 37 86 = some (.ireturn, 1, 0, 0, 0) from rfl)) (Nat.zero_le _) (Nat.zero_le _) ⟨_, rfl, Is21, Gs21, e22, rfl, hrs21, by first | exact hps21 | omega⟩
    ·
      refine w_lconst X.1 (ax_d X (show cdA 37 20 = some (.lconst 0, 1, 0, 0, 0) from rfl)) rfl (z_anyJ (fun j23 => ?_))
      refine z_goto X (t := 30) rfl rfl (w_lstore X.1 (lv' := [(5, .long j23), (3, .long j2), (0, .ref (A 25)), (1, .int (Int32.ofInt x)), (2, .int (Int32.ofInt y))]) (ax_d X (show cdA 37 30 = some (.lstore 5, 2, 0, 0, 0) from rfl)) (by rw [X.2.1.2.2]; decide) (fun _ h => h) (z_aload_n X (x := A 25) rfl (List.Mem.tail _ (List.Mem.tail _ (List.Mem.head _))) (s_getR X 25 rfl (c518_ok rfl) rfl rfl (z_load_n X (x := x) rfl (List.Mem.tail _ (List.Mem.tail _ (List.Mem.tail _ (List.Mem.head _)))) (z_lald X 27 rfl (c518_ok rfl) rfl (by first | exact p0.1 | omega) (show x < 8 by first | exact oq_aaea290e p0.2 | omega) (cbig_ok rfl) (fun j24 => ?_))))))
      refine w_lload_n X.1 (ax_d X (show cdA 37 38 = some (.lload_n 3, 1, 0, 0, 0) from rfl)) (x := j2) (List.Mem.tail _ (List.Mem.head _)) (z_ldc2 X rfl (fun j25 => ?_))
      refine w_lxor X.1 (ax_d X (show cdA 37 42 = some (.lxor, 1, 0, 0, 0) from rfl)) (z_anyJ (fun j26 => ?_))
      refine w_land X.1 (ax_d X (show cdA 37 43 = some (.land, 1, 0, 0, 0) from rfl)) (z_anyJ (fun j27 => ?_))
      refine w_lstore X.1 (lv' := [(7, .long j27), (5, .long j23), (3, .long j2), (0, .ref (A 25)), (1, .int (Int32.ofInt x)), (2, .int (Int32.ofInt y))]) (ax_d X (show cdA 37 44 = some (.lstore 7, 2, 0, 0, 0) from rfl)) (by rw [X.2.1.2.2]; decide) (fun _ h => h) (z_aload_n X (x := A 25) rfl (List.Mem.tail _ (List.Mem.tail _ (List.Mem.tail _ (List.Mem.head _)))) (s_getR X 25 rfl (c518_ok rfl) rfl rfl (z_load_n X (x := x) rfl (List.Mem.tail _ (List.Mem.tail _ (List.Mem.tail _ (List.Mem.tail _ (List.Mem.head _))))) (z_lald X 28 rfl (c518_ok rfl) rfl (by first | exact p0.1 | omega) (show x < 8 by first | exact oq_aaea290e p0.2 | omega) (cbig_ok rfl) (fun j28 => ?_)))))
      refine w_lload X.1 (ax_d X (show cdA 37 52 = some (.lload 5, 2, 0, 0, 0) from rfl)) (x := j23) (List.Mem.tail _ (List.Mem.head _)) (z_ldc2 X rfl (fun j29 => ?_))
      refine w_lxor X.1 (ax_d X (show cdA 37 57 = some (.lxor, 1, 0, 0, 0) from rfl)) (z_anyJ (fun j30 => ?_))
      refine w_land X.1 (ax_d X (show cdA 37 58 = some (.land, 1, 0, 0, 0) from rfl)) (z_anyJ (fun j31 => ?_))
      refine w_lstore X.1 (lv' := [(9, .long j31), (7, .long j27), (5, .long j23), (3, .long j2), (0, .ref (A 25)), (1, .int (Int32.ofInt x)), (2, .int (Int32.ofInt y))]) (ax_d X (show cdA 37 59 = some (.lstore 9, 2, 0, 0, 0) from rfl)) (by rw [X.2.1.2.2]; decide) (fun _ h => h) (w_lload X.1 (ax_d X (show cdA 37 61 = some (.lload 7, 2, 0, 0, 0) from rfl)) (x := j27) (List.Mem.tail _ (List.Mem.head _)) (w_lload X.1 (ax_d X (show cdA 37 63 = some (.lload 9, 2, 0, 0, 0) from rfl)) (x := j31) (List.Mem.head _) (w_lload_n X.1 (ax_d X (show cdA 37 65 = some (.lload_n 3, 1, 0, 0, 0) from rfl)) (x := j2) (List.Mem.tail _ (List.Mem.tail _ (List.Mem.tail _ (List.Mem.head _)))) (w_lload X.1 (ax_d X (show cdA 37 66 = some (.lload 5, 2, 0, 0, 0) from rfl)) (x := j23) (List.Mem.tail _ (List.Mem.tail _ (List.Mem.head _))) (z_callS X (rm := rmN 33) (As := [.long j2, .long j23]) (st := [.long j31, .long j27]) rfl rfl (by rw [E.1, E.2.1, E.2.2.1]; exact c3_beside G I ) ⟨by rw [E.2.2.2]; exact (show (rmN 33).frames + 1 ≤ (rmN 37).frames by decide), by rw [E.2.2.2]; exact (show 8 + (mNL (miB 33) + 11) + (rmN 33).locals ≤ (rmN 37).locals by decide), by rw [E.2.2.2]; exact (show 0 + (rmN 33).cells ≤ (rmN 37).cells by decide), by rw [E.2.2.2]; exact (show 0 + (rmN 33).slots ≤ (rmN 37).slots by decide)⟩ (Nat.le_of_ble_eq_true rfl) (fun vv s32 hq => ?_) (fun ee s32 hq => ?_))))))
      rotate_left
      · obtain ⟨Is32, Fs32, e33, hv, hrs32, hps32⟩ := hq; cases hv
      obtain ⟨Is32, Fs32, e33, hv, hrs32, hps32⟩ := hq
      cases hv
      have Gs32 := fm_tq F Fs32 rfl rfl
      show WS k 71 [(9, .long j31), (7, .long j27), (5, .long j23), (3, .long j2), (0, .ref (A 25)), (1, .int (Int32.ofInt x)), (2, .int (Int32.ofInt y))] [.long e33, .long j31, .long j27] (Wd A dT s32) 0 0
      refine w_lload X.1 (ax_d X (show cdA 37 71 = some (.lload 7, 2, 0, 0, 0) from rfl)) (x := j27) (List.Mem.tail _ (List.Mem.head _)) (w_land X.1 (ax_d X (show cdA 37 73 = some (.land, 1, 0, 0, 0) from rfl)) (z_anyJ (fun j34 => ?_)))
      refine w_lload X.1 (ax_d X (show cdA 37 74 = some (.lload 5, 2, 0, 0, 0) from rfl)) (x := j23) (List.Mem.tail _ (List.Mem.tail _ (List.Mem.head _))) (w_lload_n X.1 (ax_d X (show cdA 37 76 = some (.lload_n 3, 1, 0, 0, 0) from rfl)) (x := j2) (List.Mem.tail _ (List.Mem.tail _ (List.Mem.tail _ (List.Mem.head _)))) (z_callS X (rm := rmN 33) (As := [.long j23, .long j2]) (st := [.long j34, .long j31, .long j27]) rfl rfl (by rw [E.1, E.2.1, E.2.2.1]; exact c3_beside G Is32 ) ⟨by rw [E.2.2.2]; exact (show (rmN 33).frames + 1 ≤ (rmN 37).frames by decide), by rw [E.2.2.2]; exact (show 8 + (mNL (miB 33) + 11) + (rmN 33).locals ≤ (rmN 37).locals by decide), by rw [E.2.2.2]; exact (show 0 + (rmN 33).cells ≤ (rmN 37).cells by decide), by rw [E.2.2.2]; exact (show 0 + (rmN 33).slots ≤ (rmN 37).slots by decide)⟩ (Nat.le_of_ble_eq_true rfl) (fun vv s35 hq => ?_) (fun ee s35 hq => ?_)))
      rotate_left
      · obtain ⟨Is35, Fs35, e36, hv, hrs35, hps35⟩ := hq; cases hv
      obtain ⟨Is35, Fs35, e36, hv, hrs35, hps35⟩ := hq
      cases hv
      have Gs35 := fm_tq Gs32 Fs35 rfl rfl
      show WS k 80 [(9, .long j31), (7, .long j27), (5, .long j23), (3, .long j2), (0, .ref (A 25)), (1, .int (Int32.ofInt x)), (2, .int (Int32.ofInt y))] [.long e36, .long j34, .long j31, .long j27] (Wd A dT s35) 0 0
      refine w_lload X.1 (ax_d X (show cdA 37 80 = some (.lload 9, 2, 0, 0, 0) from rfl)) (x := j31) (List.Mem.head _) (w_land X.1 (ax_d X (show cdA 37 82 = some (.land, 1, 0, 0, 0) from rfl)) (z_anyJ (fun j37 => ?_)))
      refine zcS_i0 X E (As := [.long j27, .long j31, .long j34, .long j37]) (st := []) rfl rfl (c3_reaches G Is35 ) rfl (Nat.le_of_ble_eq_true rfl) (fun s38 e39 Is38 Fs38 hrs38 hps38 => ?_)
      have Gs38 := fm_tq Gs35 Fs38 rfl rfl
      exact w_iret X.1 q hRt (nar_ret (by first | exact hps38 | omega)) (ax_d X (show cdA 37 86 = some (.ireturn, 1, 0, 0, 0) from rfl)) (Nat.zero_le _) (Nat.zero_le _) ⟨_, rfl, Is38, Gs38, e39, rfl, hrs38, by first | exact hps38 | omega⟩
  refine z_icmp_ge X (t := 12) rfl rfl ⟨by first | exact oq_fa4e5087 p1.1 | omega, by first | exact oq_07d346ce p1.2 | omega⟩ (by decide) (fun g40 => ?_) (fun g40 => ?_)
  ·
    refine w_lconst X.1 (ax_d X (show cdA 37 12 = some (.lconst 0, 1, 0, 0, 0) from rfl)) rfl (z_anyJ (fun j41 => ?_))
    exact N1 _
  ·
    refine w_lconst X.1 (ax_d X (show cdA 37 6 = some (.lconst 1, 1, 0, 0, 0) from rfl)) rfl (z_anyJ (fun j42 => ?_))
    refine z_load_n X (x := y) rfl (List.Mem.tail _ (List.Mem.tail _ (List.Mem.head _))) (w_lshl X.1 (ax_d X (show cdA 37 8 = some (.lshl, 1, 0, 0, 0) from rfl)) (z_anyJ (fun j43 => ?_)))
    exact z_goto X (t := 13) rfl rfl (N1 _)
set_option maxRecDepth 4000 in
theorem c3_neckAt_25 (G : GX l s0 D tys a0 dT) (I : Bd s) {x y : Int} (p0 : 0 ≤ x ∧ x ≤ 7) (p1 : rng y) : CT l s0 D A dT 36 (rmN 36) [.ref (A 25), .int (Int32.ofInt x), .int (Int32.ofInt y)] s (fun o t => Bd t ∧ Fm [] [] s t ∧ ∃ e, o = .inl (some (.int (Int32.ofInt e))) ∧ rng e ∧ (True)) := by
  refine ct_ofX G (by decide) (Nat.le_of_ble_eq_true rfl) (fun k X E ET hRt hXt q => ?_)
  show WS k 0 [(0, .ref (A 25)), (1, .int (Int32.ofInt x)), (2, .int (Int32.ofInt y))] [] _ 0 0
  have F : Fm [] [] s s := fm_rf _ _ s
  have L29 : ∀ (n : Nat) (t : PS) (xv yv sn c : Int), Bd t → Fm [] [] s t → ((0 ≤ xv ∧ xv ≤ 7) ∧ rng yv ∧ 0 ≤ sn ∧ sn ≤ c ∧ c ≤ 128) → (128 - c : Int).toNat < n → (∀ (t' : PS) (sn' c' : Int), Bd t' → Fm [] [] s t' → ((0 ≤ xv ∧ xv ≤ 7) ∧ rng yv ∧ 0 ≤ sn' ∧ sn' ≤ c' ∧ c' ≤ 128) → WS k 75 [(0, .ref (A 25)), (1, .int (Int32.ofInt xv)), (2, .int (Int32.ofInt yv)), (3, .int (Int32.ofInt sn')), (4, .int (Int32.ofInt c'))] [] (Wd A dT t') 0 0) → WS k 29 [(0, .ref (A 25)), (1, .int (Int32.ofInt xv)), (2, .int (Int32.ofInt yv)), (3, .int (Int32.ofInt sn)), (4, .int (Int32.ofInt c))] [] (Wd A dT t) 0 0 := by
    intro n
    induction n with
    | zero =>
      intro t xv yv sn c I F hi hm kx
      exact absurd hm (Nat.not_lt_zero _)
    | succ n ih =>
      intro t xv yv sn c I F hi hm kx
      refine z_load X (x := c) rfl (List.Mem.tail _ (List.Mem.tail _ (List.Mem.tail _ (List.Mem.tail _ (List.Mem.head _))))) (z_sipush X rfl (z_icmp_ge X (t := 75) rfl rfl ⟨by first | exact oq_e001bc0d hi.2.2.2.1 hi.2.2.1 | omega, by first | exact oq_4ee82282 hi.2.2.2.2 | omega⟩ (by decide) (fun g1001 => ?_) (fun g1001 => ?_)))
      ·
        refine WS_pq [0, 1, 2, 3, 4] (lv' := [(0, .ref (A 25)), (1, .int (Int32.ofInt xv)), (2, .int (Int32.ofInt yv)), (3, .int (Int32.ofInt sn)), (4, .int (Int32.ofInt c))]) rfl ?_
        exact kx _ sn c I F (by first | exact ⟨And.intro (hi.1.1) (hi.1.2), And.intro (hi.2.1.1) (hi.2.1.2), hi.2.2.1, hi.2.2.2.1, hi.2.2.2.2⟩ | omega)
      ·
        refine z_aload_n X (x := A 25) rfl (List.Mem.head _) (s_getR X 25 rfl (c518_ok rfl) rfl rfl (z_load X (x := c) rfl (List.Mem.tail _ (List.Mem.tail _ (List.Mem.tail _ (List.Mem.tail _ (List.Mem.head _))))) (z_ald X 26 rfl (c518_ok rfl) rfl (by first | exact oq_12a1f9e1 hi.2.2.2.1 hi.2.2.1 | omega) (show c < 128 by first | exact g1001 | omega) (cbig_ok rfl) ?_)))
        have b1002 := bc_21 I (show (c).toNat < 128 by first | exact oq_afb89947 g1001 | omega)
        refine z_load_n X (x := xv) rfl (List.Mem.tail _ (List.Mem.head _)) (z_icmp_ne X (t := 69) rfl rfl (rng_to _) ⟨by first | exact oq_fa4e5087 hi.1.1 | omega, by first | exact oq_0e78ca7d hi.1.2 | omega⟩ (fun g1003 => ?_) (fun g1003 => ?_))
        ·
          refine z_inc X (x := c) (lv' := [(4, .int (Int32.ofInt (c + 1))), (0, .ref (A 25)), (1, .int (Int32.ofInt xv)), (2, .int (Int32.ofInt yv)), (3, .int (Int32.ofInt sn))]) rfl (by decide) (List.Mem.tail _ (List.Mem.tail _ (List.Mem.tail _ (List.Mem.tail _ (List.Mem.head _))))) (fun _ h => h) (z_goto X (t := 29) rfl rfl (WS_pq [1, 2, 3, 4, 0] (lv' := [(0, .ref (A 25)), (1, .int (Int32.ofInt xv)), (2, .int (Int32.ofInt yv)), (3, .int (Int32.ofInt sn)), (4, .int (Int32.ofInt (c + 1)))]) rfl ?_))
          exact ih _ xv yv sn (c + 1) I F (by first | exact ⟨And.intro (hi.1.1) (hi.1.2), And.intro (hi.2.1.1) (hi.2.1.2), hi.2.2.1, oq_03182e9e hi.2.2.2.1, oq_d2afb425 g1001⟩ | omega) (by first | exact qk_me hm (by decide) (oq_c268b7bd g1001) | omega) kx
        ·
          refine z_aload_n X (x := A 25) rfl (List.Mem.head _) (z_load_n X (x := xv) rfl (List.Mem.tail _ (List.Mem.head _)) (z_load X (x := c) rfl (List.Mem.tail _ (List.Mem.tail _ (List.Mem.tail _ (List.Mem.tail _ (List.Mem.head _))))) (zcV_i0 X E 25 (As := [.int (Int32.ofInt xv), .int (Int32.ofInt c)]) (st := []) rfl rfl rfl rfl (c3_hangsWithout_25 G I (by first | exact ⟨hi.1.1, hi.1.2⟩ | omega) (by first | exact ⟨oq_12a1f9e1 hi.2.2.2.1 hi.2.2.1, oq_04367f15 g1001⟩ | omega)) rfl (Nat.le_of_ble_eq_true rfl) (fun s1004 e1005 Is1004 Fs1004 hrs1004 hps1004 => ?_))))
          have Gs1004 := fm_tq F Fs1004 rfl rfl
          refine z_if_ne X (t := 69) rfl rfl hrs1004 (fun g1006 => ?_) (fun g1006 => ?_)
          ·
            refine z_inc X (x := c) (lv' := [(4, .int (Int32.ofInt (c + 1))), (0, .ref (A 25)), (1, .int (Int32.ofInt xv)), (2, .int (Int32.ofInt yv)), (3, .int (Int32.ofInt sn))]) rfl (by decide) (List.Mem.tail _ (List.Mem.tail _ (List.Mem.tail _ (List.Mem.tail _ (List.Mem.head _))))) (fun _ h => h) (z_goto X (t := 29) rfl rfl (WS_pq [1, 2, 3, 4, 0] (lv' := [(0, .ref (A 25)), (1, .int (Int32.ofInt xv)), (2, .int (Int32.ofInt yv)), (3, .int (Int32.ofInt sn)), (4, .int (Int32.ofInt (c + 1)))]) rfl ?_))
            exact ih _ xv yv sn (c + 1) Is1004 Gs1004 (by first | exact ⟨And.intro (hi.1.1) (hi.1.2), And.intro (hi.2.1.1) (hi.2.1.2), hi.2.2.1, oq_03182e9e hi.2.2.2.1, oq_d2afb425 g1001⟩ | omega) (by first | exact qk_me hm (by decide) (oq_c268b7bd g1001) | omega) kx
          ·
            refine z_load_n X (x := sn) rfl (List.Mem.tail _ (List.Mem.tail _ (List.Mem.tail _ (List.Mem.head _)))) (z_load_n X (x := yv) rfl (List.Mem.tail _ (List.Mem.tail _ (List.Mem.head _))) (z_icmp_ne X (t := 66) rfl rfl ⟨by first | exact oq_fa4e5087 hi.2.2.1 | omega, by first | exact oq_0961352d hi.2.2.2.1 g1001 | omega⟩ ⟨by first | exact hi.2.1.1 | omega, by first | exact hi.2.1.2 | omega⟩ (fun g1007 => ?_) (fun g1007 => ?_)))
            ·
              refine z_inc X (x := sn) (lv' := [(3, .int (Int32.ofInt (sn + 1))), (0, .ref (A 25)), (1, .int (Int32.ofInt xv)), (2, .int (Int32.ofInt yv)), (4, .int (Int32.ofInt c))]) rfl (by decide) (List.Mem.tail _ (List.Mem.tail _ (List.Mem.tail _ (List.Mem.head _)))) (fun _ h => h) (z_inc X (x := c) (lv' := [(4, .int (Int32.ofInt (c + 1))), (3, .int (Int32.ofInt (sn + 1))), (0, .ref (A 25)), (1, .int (Int32.ofInt xv)), (2, .int (Int32.ofInt yv))]) rfl (by decide) (List.Mem.tail _ (List.Mem.tail _ (List.Mem.tail _ (List.Mem.tail _ (List.Mem.head _))))) (fun _ h => h) (z_goto X (t := 29) rfl rfl (WS_pq [2, 3, 4, 1, 0] (lv' := [(0, .ref (A 25)), (1, .int (Int32.ofInt xv)), (2, .int (Int32.ofInt yv)), (3, .int (Int32.ofInt (sn + 1))), (4, .int (Int32.ofInt (c + 1)))]) rfl ?_)))
              exact ih _ xv yv (sn + 1) (c + 1) Is1004 Gs1004 (by first | exact ⟨And.intro (hi.1.1) (hi.1.2), And.intro (hi.2.1.1) (hi.2.1.2), oq_54f49eb5 hi.2.2.1, oq_8d48a029 hi.2.2.2.1, oq_d2afb425 g1001⟩ | omega) (by first | exact qk_me hm (by decide) (oq_c268b7bd g1001) | omega) kx
            ·
              refine z_load X (x := c) rfl (List.Mem.tail _ (List.Mem.tail _ (List.Mem.tail _ (List.Mem.tail _ (List.Mem.head _))))) ?_
              exact w_iret X.1 q hRt rfl (ax_d X (show cdA 36 65 = some (.ireturn, 1, 0, 0, 0) from rfl)) (Nat.zero_le _) (Nat.zero_le _) ⟨_, rfl, Is1004, Gs1004, c, rfl, ⟨by first | exact oq_e001bc0d hi.2.2.2.1 hi.2.2.1 | omega, by first | exact oq_fe95e6e4 g1001 | omega⟩, trivial⟩
  refine z_load_n X (x := y) rfl (List.Mem.tail _ (List.Mem.tail _ (List.Mem.head _))) (z_if_lt X (t := 22) rfl rfl ⟨by first | exact p1.1 | omega, by first | exact p1.2 | omega⟩ (fun g1 => ?_) (fun g1 => ?_))
  ·
    refine z_const X rfl ?_
    exact w_iret X.1 q hRt rfl (ax_d X (show cdA 36 23 = some (.ireturn, 1, 0, 0, 0) from rfl)) (Nat.zero_le _) (Nat.zero_le _) ⟨_, rfl, I, F, (-1), rfl, (by decide), trivial⟩
  ·
    refine z_aload_n X (x := A 25) rfl (List.Mem.head _) (s_getR X 25 rfl (c518_ok rfl) rfl rfl (z_load_n X (x := x) rfl (List.Mem.tail _ (List.Mem.head _)) (z_lald X 27 rfl (c518_ok rfl) rfl (by first | exact p0.1 | omega) (show x < 8 by first | exact oq_aaea290e p0.2 | omega) (cbig_ok rfl) (fun j2 => ?_))))
    refine z_aload_n X (x := A 25) rfl (List.Mem.head _) (s_getR X 25 rfl (c518_ok rfl) rfl rfl (z_load_n X (x := x) rfl (List.Mem.tail _ (List.Mem.head _)) (z_lald X 28 rfl (c518_ok rfl) rfl (by first | exact p0.1 | omega) (show x < 8 by first | exact oq_aaea290e p0.2 | omega) (cbig_ok rfl) (fun j3 => ?_))))
    refine zcS_i0 X E (As := [.long j2, .long j3]) (st := []) rfl rfl (c3_hangs G I ) rfl (Nat.le_of_ble_eq_true rfl) (fun s4 e5 Is4 Fs4 hrs4 hps4 => ?_)
    have Gs4 := fm_tq F Fs4 rfl rfl
    refine z_if_ne X (t := 24) rfl rfl hrs4 (fun g6 => ?_) (fun g6 => ?_)
    ·
      refine z_const X rfl (z_store_n X (lv' := [(3, .int (Int32.ofInt 0)), (0, .ref (A 25)), (1, .int (Int32.ofInt x)), (2, .int (Int32.ofInt y))]) rfl (by decide) (fun _ h => h) (z_const X rfl (z_store X (lv' := [(4, .int (Int32.ofInt 0)), (3, .int (Int32.ofInt 0)), (0, .ref (A 25)), (1, .int (Int32.ofInt x)), (2, .int (Int32.ofInt y))]) rfl (by decide) (fun _ h => h) (WS_pq [2, 3, 4, 1, 0] (lv' := [(0, .ref (A 25)), (1, .int (Int32.ofInt x)), (2, .int (Int32.ofInt y)), (3, .int (Int32.ofInt 0)), (4, .int (Int32.ofInt 0))]) rfl (L29 ((128 - 0 : Int).toNat + 1) s4 x y 0 0 Is4 Gs4 (by first | exact ⟨And.intro (p0.1) (p0.2), And.intro (p1.1) (p1.2), by decide, by decide, by decide⟩ | omega) (Nat.lt_succ_self _) ?_)))))
      intro s7 x8 x9 Is7 Fs7 hs7
      refine z_const X rfl ?_
      exact w_iret X.1 q hRt rfl (ax_d X (show cdA 36 76 = some (.ireturn, 1, 0, 0, 0) from rfl)) (Nat.zero_le _) (Nat.zero_le _) ⟨_, rfl, Is7, Fs7, (-1), rfl, (by decide), trivial⟩
    ·
      refine z_const X rfl ?_
      exact w_iret X.1 q hRt rfl (ax_d X (show cdA 36 23 = some (.ireturn, 1, 0, 0, 0) from rfl)) (Nat.zero_le _) (Nat.zero_le _) ⟨_, rfl, Is4, Gs4, (-1), rfl, (by decide), trivial⟩
set_option maxRecDepth 4000 in
theorem c3_countAtEdge_25 (G : GX l s0 D tys a0 dT) (I : Bd s) {x : Int} {aj bj : Int64} (p0 : 0 ≤ x ∧ x ≤ 7) : CT l s0 D A dT 38 (rmN 38) [.ref (A 25), .int (Int32.ofInt x), .long aj, .long bj] s (fun o t => Bd t ∧ Fm [] [] s t ∧ ∃ e, o = .inl (some (.int (Int32.ofInt e))) ∧ rng e ∧ (True)) := by
  refine ct_ofX G (by decide) (Nat.le_of_ble_eq_true rfl) (fun k X E ET hRt hXt q => ?_)
  show WS k 0 [(0, .ref (A 25)), (1, .int (Int32.ofInt x)), (2, .long aj), (4, .long bj)] [] _ 0 0
  have F : Fm [] [] s s := fm_rf _ _ s
  refine z_aload_n X (x := A 25) rfl (List.Mem.head _) (s_getR X 25 rfl (c518_ok rfl) rfl rfl (z_load_n X (x := x) rfl (List.Mem.tail _ (List.Mem.head _)) (z_lald X 27 rfl (c518_ok rfl) rfl (by first | exact p0.1 | omega) (show x < 8 by first | exact oq_aaea290e p0.2 | omega) (cbig_ok rfl) (fun j1 => ?_))))
  refine z_aload_n X (x := A 25) rfl (List.Mem.head _) (s_getR X 25 rfl (c518_ok rfl) rfl rfl (z_load_n X (x := x) rfl (List.Mem.tail _ (List.Mem.head _)) (z_lald X 27 rfl (c518_ok rfl) rfl (by first | exact p0.1 | omega) (show x < 8 by first | exact oq_aaea290e p0.2 | omega) (cbig_ok rfl) (fun j2 => ?_))))
  refine z_ldc2 X rfl (fun j3 => ?_)
  refine w_lxor X.1 (ax_d X (show cdA 38 15 = some (.lxor, 1, 0, 0, 0) from rfl)) (z_anyJ (fun j4 => ?_))
  refine z_aload_n X (x := A 25) rfl (List.Mem.head _) (s_getR X 25 rfl (c518_ok rfl) rfl rfl (z_load_n X (x := x) rfl (List.Mem.tail _ (List.Mem.head _)) (z_lald X 28 rfl (c518_ok rfl) rfl (by first | exact p0.1 | omega) (show x < 8 by first | exact oq_aaea290e p0.2 | omega) (cbig_ok rfl) (fun j5 => ?_))))
  refine z_ldc2 X rfl (fun j6 => ?_)
  refine w_lxor X.1 (ax_d X (show cdA 38 25 = some (.lxor, 1, 0, 0, 0) from rfl)) (z_anyJ (fun j7 => ?_))
  refine z_callS X (rm := rmN 33) (As := [.long j4, .long j7]) (st := [.long j1]) rfl rfl (by rw [E.1, E.2.1, E.2.2.1]; exact c3_beside G I ) ⟨by rw [E.2.2.2]; exact (show (rmN 33).frames + 1 ≤ (rmN 38).frames by decide), by rw [E.2.2.2]; exact (show 8 + (mNL (miB 33) + 11) + (rmN 33).locals ≤ (rmN 38).locals by decide), by rw [E.2.2.2]; exact (show 0 + (rmN 33).cells ≤ (rmN 38).cells by decide), by rw [E.2.2.2]; exact (show 0 + (rmN 33).slots ≤ (rmN 38).slots by decide)⟩ (Nat.le_of_ble_eq_true rfl) (fun vv s8 hq => ?_) (fun ee s8 hq => ?_)
  rotate_left
  · obtain ⟨Is8, Fs8, e9, hv, hrs8, hps8⟩ := hq; cases hv
  obtain ⟨Is8, Fs8, e9, hv, hrs8, hps8⟩ := hq
  cases hv
  have Gs8 := fm_tq F Fs8 rfl rfl
  show WS k 29 [(0, .ref (A 25)), (1, .int (Int32.ofInt x)), (2, .long aj), (4, .long bj)] [.long e9, .long j1] (Wd A dT s8) 0 0
  refine w_land X.1 (ax_d X (show cdA 38 29 = some (.land, 1, 0, 0, 0) from rfl)) (z_anyJ (fun j10 => ?_))
  refine w_lstore X.1 (lv' := [(6, .long j10), (0, .ref (A 25)), (1, .int (Int32.ofInt x)), (2, .long aj), (4, .long bj)]) (ax_d X (show cdA 38 30 = some (.lstore 6, 2, 0, 0, 0) from rfl)) (by rw [X.2.1.2.2]; decide) (fun _ h => h) (z_aload_n X (x := A 25) rfl (List.Mem.tail _ (List.Mem.head _)) (s_getR X 25 rfl (c518_ok rfl) rfl rfl (z_load_n X (x := x) rfl (List.Mem.tail _ (List.Mem.tail _ (List.Mem.head _))) (z_lald X 28 rfl (c518_ok rfl) rfl (by first | exact p0.1 | omega) (show x < 8 by first | exact oq_aaea290e p0.2 | omega) (cbig_ok rfl) (fun j11 => ?_)))))
  refine z_aload_n X (x := A 25) rfl (List.Mem.tail _ (List.Mem.head _)) (s_getR X 25 rfl (c518_ok rfl) rfl rfl (z_load_n X (x := x) rfl (List.Mem.tail _ (List.Mem.tail _ (List.Mem.head _))) (z_lald X 28 rfl (c518_ok rfl) rfl (by first | exact p0.1 | omega) (show x < 8 by first | exact oq_aaea290e p0.2 | omega) (cbig_ok rfl) (fun j12 => ?_))))
  refine z_ldc2 X rfl (fun j13 => ?_)
  refine w_lxor X.1 (ax_d X (show cdA 38 47 = some (.lxor, 1, 0, 0, 0) from rfl)) (z_anyJ (fun j14 => ?_))
  refine z_aload_n X (x := A 25) rfl (List.Mem.tail _ (List.Mem.head _)) (s_getR X 25 rfl (c518_ok rfl) rfl rfl (z_load_n X (x := x) rfl (List.Mem.tail _ (List.Mem.tail _ (List.Mem.head _))) (z_lald X 27 rfl (c518_ok rfl) rfl (by first | exact p0.1 | omega) (show x < 8 by first | exact oq_aaea290e p0.2 | omega) (cbig_ok rfl) (fun j15 => ?_))))
  refine z_ldc2 X rfl (fun j16 => ?_)
  refine w_lxor X.1 (ax_d X (show cdA 38 57 = some (.lxor, 1, 0, 0, 0) from rfl)) (z_anyJ (fun j17 => ?_))
  refine z_callS X (rm := rmN 33) (As := [.long j14, .long j17]) (st := [.long j11]) rfl rfl (by rw [E.1, E.2.1, E.2.2.1]; exact c3_beside G Is8 ) ⟨by rw [E.2.2.2]; exact (show (rmN 33).frames + 1 ≤ (rmN 38).frames by decide), by rw [E.2.2.2]; exact (show 8 + (mNL (miB 33) + 11) + (rmN 33).locals ≤ (rmN 38).locals by decide), by rw [E.2.2.2]; exact (show 0 + (rmN 33).cells ≤ (rmN 38).cells by decide), by rw [E.2.2.2]; exact (show 0 + (rmN 33).slots ≤ (rmN 38).slots by decide)⟩ (Nat.le_of_ble_eq_true rfl) (fun vv s18 hq => ?_) (fun ee s18 hq => ?_)
  rotate_left
  · obtain ⟨Is18, Fs18, e19, hv, hrs18, hps18⟩ := hq; cases hv
  obtain ⟨Is18, Fs18, e19, hv, hrs18, hps18⟩ := hq
  cases hv
  have Gs18 := fm_tq Gs8 Fs18 rfl rfl
  show WS k 61 [(6, .long j10), (0, .ref (A 25)), (1, .int (Int32.ofInt x)), (2, .long aj), (4, .long bj)] [.long e19, .long j11] (Wd A dT s18) 0 0
  refine w_land X.1 (ax_d X (show cdA 38 61 = some (.land, 1, 0, 0, 0) from rfl)) (z_anyJ (fun j20 => ?_))
  refine w_lstore X.1 (lv' := [(8, .long j20), (6, .long j10), (0, .ref (A 25)), (1, .int (Int32.ofInt x)), (2, .long aj), (4, .long bj)]) (ax_d X (show cdA 38 62 = some (.lstore 8, 2, 0, 0, 0) from rfl)) (by rw [X.2.1.2.2]; decide) (fun _ h => h) (w_lload X.1 (ax_d X (show cdA 38 64 = some (.lload 6, 2, 0, 0, 0) from rfl)) (x := j10) (List.Mem.tail _ (List.Mem.head _)) (w_lload_n X.1 (ax_d X (show cdA 38 66 = some (.lload_n 2, 1, 0, 0, 0) from rfl)) (x := aj) (List.Mem.tail _ (List.Mem.tail _ (List.Mem.tail _ (List.Mem.tail _ (List.Mem.head _))))) (w_land X.1 (ax_d X (show cdA 38 67 = some (.land, 1, 0, 0, 0) from rfl)) (z_anyJ (fun j21 => ?_)))))
  refine zcS_i0 X E (As := [.long j21]) (st := []) rfl rfl (j_bitL G Is18 ) rfl (Nat.le_of_ble_eq_true rfl) (fun s22 e23 Is22 Fs22 hrs22 hps22 => ?_)
  have Gs22 := fm_tq Gs18 Fs22 rfl rfl
  refine w_lload X.1 (ax_d X (show cdA 38 71 = some (.lload 8, 2, 0, 0, 0) from rfl)) (x := j20) (List.Mem.head _) (w_lload X.1 (ax_d X (show cdA 38 73 = some (.lload 4, 2, 0, 0, 0) from rfl)) (x := bj) (List.Mem.tail _ (List.Mem.tail _ (List.Mem.tail _ (List.Mem.tail _ (List.Mem.tail _ (List.Mem.head _)))))) (w_land X.1 (ax_d X (show cdA 38 75 = some (.land, 1, 0, 0, 0) from rfl)) (z_anyJ (fun j24 => ?_))))
  refine zcS_i0 X E (As := [.long j24]) (st := [.int (Int32.ofInt e23)]) rfl rfl (j_bitL G Is22 ) rfl (Nat.le_of_ble_eq_true rfl) (fun s25 e26 Is25 Fs25 hrs25 hps25 => ?_)
  have Gs25 := fm_tq Gs22 Fs25 rfl rfl
  refine z_add X rfl (z_any (fun y27 hy27 => ?_))
  exact w_iret X.1 q hRt rfl (ax_d X (show cdA 38 80 = some (.ireturn, 1, 0, 0, 0) from rfl)) (Nat.zero_le _) (Nat.zero_le _) ⟨_, rfl, Is25, Gs25, y27, rfl, hy27, trivial⟩
set_option maxRecDepth 4000 in
theorem c7_beginOf_19 (G : GX l s0 D tys a0 dT) (I : Bd s) {x : Int} (p0 : 0 ≤ x ∧ x ≤ 7) : CT l s0 D A dT 70 (rmN 70) [.ref (A 19), .int (Int32.ofInt x)] s (fun o t => Bd t ∧ Fm [] [] s t ∧ ∃ e, o = .inl (some (.int (Int32.ofInt e))) ∧ rng e ∧ (0 ≤ e ∧ e ≤ 200)) := by
  refine ct_ofX G (by decide) (Nat.le_of_ble_eq_true rfl) (fun k X E ET hRt hXt q => ?_)
  show WS k 0 [(0, .ref (A 19)), (1, .int (Int32.ofInt x))] [] _ 0 0
  have F : Fm [] [] s s := fm_rf _ _ s
  refine z_load_n X (x := x) rfl (List.Mem.tail _ (List.Mem.head _)) ?_
  have N1 : ∀ e2 : Int, (((x ≤ 0) ∧ e2 = 0) ∨ ((0 < x) ∧ ((0 : Int) ≤ iC s 17 ((x - 1)).toNat ∧ iC s 17 ((x - 1)).toNat ≤ 200) ∧ e2 = (iC s 17 ((x - 1)).toNat))) → WS k 16 [(0, .ref (A 19)), (1, .int (Int32.ofInt x))] [.int (Int32.ofInt e2)] (Wd A dT s) 0 0 := by
    intro e2 he2
    exact w_iret X.1 q hRt rfl (ax_d X (show cdA 70 16 = some (.ireturn, 1, 0, 0, 0) from rfl)) (Nat.zero_le _) (Nat.zero_le _) ⟨_, rfl, I, F, e2, rfl, ⟨by first | exact oq_61627b74 he2 | omega, by first | exact oq_05a03612 he2 | omega⟩, by first | exact ⟨oq_53e9b233 he2, oq_588c1b12 he2⟩ | omega⟩
  refine z_if_le X (t := 15) rfl rfl ⟨by first | exact oq_fa4e5087 p0.1 | omega, by first | exact oq_0e78ca7d p0.2 | omega⟩ (fun g3 => ?_) (fun g3 => ?_)
  ·
    exact z_const X rfl (N1 _ (Or.inl ⟨g3, rfl⟩))
  ·
    refine z_aload_n X (x := A 19) rfl (List.Mem.head _) (s_getR X 19 rfl (c518_ok rfl) rfl rfl (z_load_n X (x := x) rfl (List.Mem.tail _ (List.Mem.head _)) (z_const X rfl (z_sub X rfl (z_ald X 21 rfl (c518_ok rfl) rfl (by first | exact oq_a4f22177 g3 | omega) (show (x - 1) < 8 by first | exact oq_4a37b086 p0.2 | omega) (cbig_ok rfl) ?_)))))
    have b4 := bc_17 I (show ((x - 1)).toNat < 8 by first | exact oq_b631dd75 p0.2 | omega)
    exact z_goto X (t := 16) rfl rfl (N1 _ (Or.inr (⟨g3, b4, rfl⟩)))
set_option maxRecDepth 4000 in
theorem c7_joined (G : GX l s0 D tys a0 dT) (I : Bd s) {x y z : Int} (p0 : rng x) (p1 : rng y) (p2 : rng z) : CT l s0 D A dT 85 (rmN 85) [.int (Int32.ofInt x), .int (Int32.ofInt y), .int (Int32.ofInt z)] s (fun o t => s = t ∧ ∃ e, o = .inl (some (.int (Int32.ofInt e))) ∧ rng e ∧ (rng e)) := by
  refine ct_ofX G (by decide) (Nat.le_of_ble_eq_true rfl) (fun k X E ET hRt hXt q => ?_)
  show WS k 0 [(0, .int (Int32.ofInt x)), (1, .int (Int32.ofInt y)), (2, .int (Int32.ofInt z))] [] _ 0 0
  have F : Fm [] [] s s := fm_rf _ _ s
  refine z_load_n X (x := x) rfl (List.Mem.head _) ?_
  rcases (show x = (-18) ∨ x = (-17) ∨ x = (-16) ∨ x = (-15) ∨ x = (-14) ∨ x = (-13) ∨ x = (-12) ∨ x = (-11) ∨ x = (-10) ∨ x = (-9) ∨ (x < (-18) ∨ (-9) < x) by omega) with gs | gs | gs | gs | gs | gs | gs | gs | gs | gs | gs
  ·
    rw [gs]
    refine w_tabIn X.1 (dflt := 138) (lo := (-18)) (hi := (-9)) (offs := #[134, 123, 112, 101, 90, 79, 67, 63, 59, 55]) (len := 55) (off := 134) (t := 135) (ax_d X (show cdA 85 1 = some (.tableswitch 138 (-18) (-9) #[134, 123, 112, 101, 90, 79, 67, 63, 59, 55], 55, 0, 0, 0) from rfl)) (by decide) (by decide) (by decide) (by decide) (z_load_n X (x := y) rfl (List.Mem.tail _ (List.Mem.head _)) (z_load_n X (x := z) rfl (List.Mem.tail _ (List.Mem.tail _ (List.Mem.head _))) (z_band X rfl (z_any (fun y1 hy1 => ?_)))))
    exact w_iret X.1 q hRt rfl (ax_d X (show cdA 85 138 = some (.ireturn, 1, 0, 0, 0) from rfl)) (Nat.zero_le _) (Nat.zero_le _) ⟨_, rfl, rfl, y1, rfl, hy1, by first | exact ⟨hy1.1, hy1.2⟩ | omega⟩
  ·
    rw [gs]
    refine w_tabIn X.1 (dflt := 138) (lo := (-18)) (hi := (-9)) (offs := #[134, 123, 112, 101, 90, 79, 67, 63, 59, 55]) (len := 55) (off := 123) (t := 124) (ax_d X (show cdA 85 1 = some (.tableswitch 138 (-18) (-9) #[134, 123, 112, 101, 90, 79, 67, 63, 59, 55], 55, 0, 0, 0) from rfl)) (by decide) (by decide) (by decide) (by decide) (z_load_n X (x := y) rfl (List.Mem.tail _ (List.Mem.head _)) (z_load_n X (x := z) rfl (List.Mem.tail _ (List.Mem.tail _ (List.Mem.head _))) ?_))
    have N2 : ∀ e3 : Int, (((y ≠ z) ∧ e3 = 0) ∨ ((y = z) ∧ e3 = 1)) → WS k 134 [(0, .int (Int32.ofInt (-17))), (1, .int (Int32.ofInt y)), (2, .int (Int32.ofInt z))] [.int (Int32.ofInt e3)] (Wd A dT s) 0 0 := by
      intro e3 he3
      have re3 : 0 ≤ e3 ∧ e3 ≤ 1 := by first | (clear he3; omega) | omega
      exact w_iret X.1 q hRt rfl (ax_d X (show cdA 85 134 = some (.ireturn, 1, 0, 0, 0) from rfl)) (Nat.zero_le _) (Nat.zero_le _) ⟨_, rfl, rfl, e3, rfl, ⟨by first | exact oq_fa4e5087 re3.1 | omega, by first | exact oq_22e1e6b0 re3.2 | omega⟩, by first | exact ⟨oq_fa4e5087 re3.1, oq_22e1e6b0 re3.2⟩ | omega⟩
    refine z_icmp_ne X (t := 133) rfl rfl ⟨by first | exact p1.1 | omega, by first | exact p1.2 | omega⟩ ⟨by first | exact p2.1 | omega, by first | exact p2.2 | omega⟩ (fun g4 => ?_) (fun g4 => ?_)
    ·
      exact z_const X rfl (N2 _ (Or.inl ⟨g4, rfl⟩))
    ·
      exact z_const X rfl (z_goto X (t := 134) rfl rfl (N2 _ (Or.inr (⟨g4, rfl⟩))))
  ·
    rw [gs]
    refine w_tabIn X.1 (dflt := 138) (lo := (-18)) (hi := (-9)) (offs := #[134, 123, 112, 101, 90, 79, 67, 63, 59, 55]) (len := 55) (off := 112) (t := 113) (ax_d X (show cdA 85 1 = some (.tableswitch 138 (-18) (-9) #[134, 123, 112, 101, 90, 79, 67, 63, 59, 55], 55, 0, 0, 0) from rfl)) (by decide) (by decide) (by decide) (by decide) (z_load_n X (x := y) rfl (List.Mem.tail _ (List.Mem.head _)) (z_load_n X (x := z) rfl (List.Mem.tail _ (List.Mem.tail _ (List.Mem.head _))) ?_))
    have N5 : ∀ e6 : Int, (((y ≤ z) ∧ e6 = 0) ∨ ((z < y) ∧ e6 = 1)) → WS k 123 [(0, .int (Int32.ofInt (-16))), (1, .int (Int32.ofInt y)), (2, .int (Int32.ofInt z))] [.int (Int32.ofInt e6)] (Wd A dT s) 0 0 := by
      intro e6 he6
      have re6 : 0 ≤ e6 ∧ e6 ≤ 1 := by first | (clear he6; omega) | omega
      exact w_iret X.1 q hRt rfl (ax_d X (show cdA 85 123 = some (.ireturn, 1, 0, 0, 0) from rfl)) (Nat.zero_le _) (Nat.zero_le _) ⟨_, rfl, rfl, e6, rfl, ⟨by first | exact oq_fa4e5087 re6.1 | omega, by first | exact oq_22e1e6b0 re6.2 | omega⟩, by first | exact ⟨oq_fa4e5087 re6.1, oq_22e1e6b0 re6.2⟩ | omega⟩
    refine z_icmp_le X (t := 122) rfl rfl ⟨by first | exact p1.1 | omega, by first | exact p1.2 | omega⟩ ⟨by first | exact p2.1 | omega, by first | exact p2.2 | omega⟩ (fun g7 => ?_) (fun g7 => ?_)
    ·
      exact z_const X rfl (N5 _ (Or.inl ⟨g7, rfl⟩))
    ·
      exact z_const X rfl (z_goto X (t := 123) rfl rfl (N5 _ (Or.inr (⟨g7, rfl⟩))))
  ·
    rw [gs]
    refine w_tabIn X.1 (dflt := 138) (lo := (-18)) (hi := (-9)) (offs := #[134, 123, 112, 101, 90, 79, 67, 63, 59, 55]) (len := 55) (off := 101) (t := 102) (ax_d X (show cdA 85 1 = some (.tableswitch 138 (-18) (-9) #[134, 123, 112, 101, 90, 79, 67, 63, 59, 55], 55, 0, 0, 0) from rfl)) (by decide) (by decide) (by decide) (by decide) (z_load_n X (x := y) rfl (List.Mem.tail _ (List.Mem.head _)) (z_load_n X (x := z) rfl (List.Mem.tail _ (List.Mem.tail _ (List.Mem.head _))) ?_))
    have N8 : ∀ e9 : Int, (((z ≤ y) ∧ e9 = 0) ∨ ((y < z) ∧ e9 = 1)) → WS k 112 [(0, .int (Int32.ofInt (-15))), (1, .int (Int32.ofInt y)), (2, .int (Int32.ofInt z))] [.int (Int32.ofInt e9)] (Wd A dT s) 0 0 := by
      intro e9 he9
      have re9 : 0 ≤ e9 ∧ e9 ≤ 1 := by first | (clear he9; omega) | omega
      exact w_iret X.1 q hRt rfl (ax_d X (show cdA 85 112 = some (.ireturn, 1, 0, 0, 0) from rfl)) (Nat.zero_le _) (Nat.zero_le _) ⟨_, rfl, rfl, e9, rfl, ⟨by first | exact oq_fa4e5087 re9.1 | omega, by first | exact oq_22e1e6b0 re9.2 | omega⟩, by first | exact ⟨oq_fa4e5087 re9.1, oq_22e1e6b0 re9.2⟩ | omega⟩
    refine z_icmp_ge X (t := 111) rfl rfl ⟨by first | exact p1.1 | omega, by first | exact p1.2 | omega⟩ ⟨by first | exact p2.1 | omega, by first | exact p2.2 | omega⟩ (fun g10 => ?_) (fun g10 => ?_)
    ·
      exact z_const X rfl (N8 _ (Or.inl ⟨g10, rfl⟩))
    ·
      exact z_const X rfl (z_goto X (t := 112) rfl rfl (N8 _ (Or.inr (⟨g10, rfl⟩))))
  ·
    rw [gs]
    refine w_tabIn X.1 (dflt := 138) (lo := (-18)) (hi := (-9)) (offs := #[134, 123, 112, 101, 90, 79, 67, 63, 59, 55]) (len := 55) (off := 90) (t := 91) (ax_d X (show cdA 85 1 = some (.tableswitch 138 (-18) (-9) #[134, 123, 112, 101, 90, 79, 67, 63, 59, 55], 55, 0, 0, 0) from rfl)) (by decide) (by decide) (by decide) (by decide) (z_load_n X (x := y) rfl (List.Mem.tail _ (List.Mem.head _)) (z_load_n X (x := z) rfl (List.Mem.tail _ (List.Mem.tail _ (List.Mem.head _))) ?_))
    have N11 : ∀ e12 : Int, (((y ≤ z) ∧ e12 = z) ∨ ((z < y) ∧ e12 = y)) → WS k 101 [(0, .int (Int32.ofInt (-14))), (1, .int (Int32.ofInt y)), (2, .int (Int32.ofInt z))] [.int (Int32.ofInt e12)] (Wd A dT s) 0 0 := by
      intro e12 he12
      exact w_iret X.1 q hRt rfl (ax_d X (show cdA 85 101 = some (.ireturn, 1, 0, 0, 0) from rfl)) (Nat.zero_le _) (Nat.zero_le _) ⟨_, rfl, rfl, e12, rfl, ⟨by first | exact oq_0a6073ad he12 p2.1 | omega, by first | exact oq_8bacbe60 he12 p2.2 p1.2 | omega⟩, by first | exact ⟨oq_0a6073ad he12 p2.1, oq_8bacbe60 he12 p2.2 p1.2⟩ | omega⟩
    refine z_icmp_le X (t := 100) rfl rfl ⟨by first | exact p1.1 | omega, by first | exact p1.2 | omega⟩ ⟨by first | exact p2.1 | omega, by first | exact p2.2 | omega⟩ (fun g13 => ?_) (fun g13 => ?_)
    ·
      exact z_load_n X (x := z) rfl (List.Mem.tail _ (List.Mem.tail _ (List.Mem.head _))) (N11 _ (Or.inl ⟨g13, rfl⟩))
    ·
      exact z_load_n X (x := y) rfl (List.Mem.tail _ (List.Mem.head _)) (z_goto X (t := 101) rfl rfl (N11 _ (Or.inr (⟨g13, rfl⟩))))
  ·
    rw [gs]
    refine w_tabIn X.1 (dflt := 138) (lo := (-18)) (hi := (-9)) (offs := #[134, 123, 112, 101, 90, 79, 67, 63, 59, 55]) (len := 55) (off := 79) (t := 80) (ax_d X (show cdA 85 1 = some (.tableswitch 138 (-18) (-9) #[134, 123, 112, 101, 90, 79, 67, 63, 59, 55], 55, 0, 0, 0) from rfl)) (by decide) (by decide) (by decide) (by decide) (z_load_n X (x := y) rfl (List.Mem.tail _ (List.Mem.head _)) (z_load_n X (x := z) rfl (List.Mem.tail _ (List.Mem.tail _ (List.Mem.head _))) ?_))
    have N14 : ∀ e15 : Int, (((z ≤ y) ∧ e15 = z) ∨ ((y < z) ∧ e15 = y)) → WS k 90 [(0, .int (Int32.ofInt (-13))), (1, .int (Int32.ofInt y)), (2, .int (Int32.ofInt z))] [.int (Int32.ofInt e15)] (Wd A dT s) 0 0 := by
      intro e15 he15
      exact w_iret X.1 q hRt rfl (ax_d X (show cdA 85 90 = some (.ireturn, 1, 0, 0, 0) from rfl)) (Nat.zero_le _) (Nat.zero_le _) ⟨_, rfl, rfl, e15, rfl, ⟨by first | exact oq_e6eaf040 he15 p2.1 p1.1 | omega, by first | exact oq_b2278a08 he15 p2.2 | omega⟩, by first | exact ⟨oq_e6eaf040 he15 p2.1 p1.1, oq_b2278a08 he15 p2.2⟩ | omega⟩
    refine z_icmp_ge X (t := 89) rfl rfl ⟨by first | exact p1.1 | omega, by first | exact p1.2 | omega⟩ ⟨by first | exact p2.1 | omega, by first | exact p2.2 | omega⟩ (fun g16 => ?_) (fun g16 => ?_)
    ·
      exact z_load_n X (x := z) rfl (List.Mem.tail _ (List.Mem.tail _ (List.Mem.head _))) (N14 _ (Or.inl ⟨g16, rfl⟩))
    ·
      exact z_load_n X (x := y) rfl (List.Mem.tail _ (List.Mem.head _)) (z_goto X (t := 90) rfl rfl (N14 _ (Or.inr (⟨g16, rfl⟩))))
  ·
    rw [gs]
    refine w_tabIn X.1 (dflt := 138) (lo := (-18)) (hi := (-9)) (offs := #[134, 123, 112, 101, 90, 79, 67, 63, 59, 55]) (len := 55) (off := 67) (t := 68) (ax_d X (show cdA 85 1 = some (.tableswitch 138 (-18) (-9) #[134, 123, 112, 101, 90, 79, 67, 63, 59, 55], 55, 0, 0, 0) from rfl)) (by decide) (by decide) (by decide) (by decide) (z_load_n X (x := z) rfl (List.Mem.tail _ (List.Mem.tail _ (List.Mem.head _))) (z_if_ne X (t := 76) rfl rfl ⟨by first | exact p2.1 | omega, by first | exact p2.2 | omega⟩ (fun g17 => ?_) (fun g17 => ?_)))
    ·
      refine z_load_n X (x := y) rfl (List.Mem.tail _ (List.Mem.head _)) (z_load_n X (x := z) rfl (List.Mem.tail _ (List.Mem.tail _ (List.Mem.head _))) (z_divany X rfl (by first | (clear g17; omega) | omega) ⟨by first | (clear g17; omega) | omega, by first | (clear g17; omega) | omega⟩ (fun y18 hy18 => ?_)))
      exact w_iret X.1 q hRt rfl (ax_d X (show cdA 85 79 = some (.ireturn, 1, 0, 0, 0) from rfl)) (Nat.zero_le _) (Nat.zero_le _) ⟨_, rfl, rfl, y18, rfl, ⟨by first | (clear g17; omega) | omega, by first | (clear g17; omega) | omega⟩, by first | (clear g17; omega) | omega⟩
    ·
      refine z_const X rfl (z_goto X (t := 79) rfl rfl ?_)
      exact w_iret X.1 q hRt rfl (ax_d X (show cdA 85 79 = some (.ireturn, 1, 0, 0, 0) from rfl)) (Nat.zero_le _) (Nat.zero_le _) ⟨_, rfl, rfl, 0, rfl, (by decide), by first | exact ⟨by decide, by decide⟩ | omega⟩
  ·
    rw [gs]
    refine w_tabIn X.1 (dflt := 138) (lo := (-18)) (hi := (-9)) (offs := #[134, 123, 112, 101, 90, 79, 67, 63, 59, 55]) (len := 55) (off := 63) (t := 64) (ax_d X (show cdA 85 1 = some (.tableswitch 138 (-18) (-9) #[134, 123, 112, 101, 90, 79, 67, 63, 59, 55], 55, 0, 0, 0) from rfl)) (by decide) (by decide) (by decide) (by decide) (z_load_n X (x := y) rfl (List.Mem.tail _ (List.Mem.head _)) (z_load_n X (x := z) rfl (List.Mem.tail _ (List.Mem.tail _ (List.Mem.head _))) (z_mul X rfl (z_any (fun y19 hy19 => ?_)))))
    exact w_iret X.1 q hRt rfl (ax_d X (show cdA 85 67 = some (.ireturn, 1, 0, 0, 0) from rfl)) (Nat.zero_le _) (Nat.zero_le _) ⟨_, rfl, rfl, y19, rfl, hy19, by first | exact ⟨hy19.1, hy19.2⟩ | omega⟩
  ·
    rw [gs]
    refine w_tabIn X.1 (dflt := 138) (lo := (-18)) (hi := (-9)) (offs := #[134, 123, 112, 101, 90, 79, 67, 63, 59, 55]) (len := 55) (off := 59) (t := 60) (ax_d X (show cdA 85 1 = some (.tableswitch 138 (-18) (-9) #[134, 123, 112, 101, 90, 79, 67, 63, 59, 55], 55, 0, 0, 0) from rfl)) (by decide) (by decide) (by decide) (by decide) (z_load_n X (x := y) rfl (List.Mem.tail _ (List.Mem.head _)) (z_load_n X (x := z) rfl (List.Mem.tail _ (List.Mem.tail _ (List.Mem.head _))) (z_sub X rfl (z_any (fun y20 hy20 => ?_)))))
    exact w_iret X.1 q hRt rfl (ax_d X (show cdA 85 63 = some (.ireturn, 1, 0, 0, 0) from rfl)) (Nat.zero_le _) (Nat.zero_le _) ⟨_, rfl, rfl, y20, rfl, hy20, by first | exact ⟨hy20.1, hy20.2⟩ | omega⟩
  ·
    rw [gs]
    refine w_tabIn X.1 (dflt := 138) (lo := (-18)) (hi := (-9)) (offs := #[134, 123, 112, 101, 90, 79, 67, 63, 59, 55]) (len := 55) (off := 55) (t := 56) (ax_d X (show cdA 85 1 = some (.tableswitch 138 (-18) (-9) #[134, 123, 112, 101, 90, 79, 67, 63, 59, 55], 55, 0, 0, 0) from rfl)) (by decide) (by decide) (by decide) (by decide) (z_load_n X (x := y) rfl (List.Mem.tail _ (List.Mem.head _)) (z_load_n X (x := z) rfl (List.Mem.tail _ (List.Mem.tail _ (List.Mem.head _))) (z_add X rfl (z_any (fun y21 hy21 => ?_)))))
    exact w_iret X.1 q hRt rfl (ax_d X (show cdA 85 59 = some (.ireturn, 1, 0, 0, 0) from rfl)) (Nat.zero_le _) (Nat.zero_le _) ⟨_, rfl, rfl, y21, rfl, hy21, by first | exact ⟨hy21.1, hy21.2⟩ | omega⟩
  ·
    refine w_tabOut X.1 (dflt := 138) (lo := (-18)) (hi := (-9)) (offs := #[134, 123, 112, 101, 90, 79, 67, 63, 59, 55]) (len := 55) (t := 139) (ax_d X (show cdA 85 1 = some (.tableswitch 138 (-18) (-9) #[134, 123, 112, 101, 90, 79, 67, 63, 59, 55], 55, 0, 0, 0) from rfl)) (by rw [zi ⟨by omega, by omega⟩]; omega) (by decide) (z_load_n X (x := y) rfl (List.Mem.tail _ (List.Mem.head _)) (z_load_n X (x := z) rfl (List.Mem.tail _ (List.Mem.tail _ (List.Mem.head _))) (z_bor X rfl (z_any (fun y22 hy22 => ?_)))))
    exact w_iret X.1 q hRt rfl (ax_d X (show cdA 85 142 = some (.ireturn, 1, 0, 0, 0) from rfl)) (Nat.zero_le _) (Nat.zero_le _) ⟨_, rfl, rfl, y22, rfl, hy22, by first | exact ⟨hy22.1, hy22.2⟩ | omega⟩
end M73
end
