theorem oq_d1028203 {a0 : Int} (h0 : a0 ≤ 20) : a0 ≤ 2147483647 := by omega
theorem oq_17475ac8 {a0 a1 a2 : Int} (h0 : a0 = (a1 + a2)) (h1 : a2 ≤ 20) (h2 : 20 ≤ a2) : a0 = (a1 + 20) := by omega
theorem oq_c3313697 {a0 : Int} (h0 : a0 < 20) : a0 ≤ 2147483647 := by omega
theorem oq_ae322fb4 {a0 a1 a2 : Int} (h0 : a0 = (a1 + a2)) (h1 : a1 ≤ 180) (h2 : a2 < 20) : a0 < 200 := by omega
theorem oq_4567a937 {a0 : Int} (h0 : a0 ≤ 255) : a0 ≤ 2147483647 := by omega
theorem oq_e59c0308 {a0 a1 a2 a3 : Int} (h0 : a0 = a1) (h1 : a1 = (a2 + a3)) (h2 : a2 ≤ 180) (h3 : a3 < 20) : (a0 + 1) ≤ 200 := by omega
theorem oq_bb8d498d {a0 : Int} (h0 : a0 ≤ 200) : (a0 + 1) ≤ 2147483647 := by omega
theorem oq_34835694 {a0 : Int} (h0 : a0 < 20) : (a0 + 1) ≤ 20 := by omega
theorem oq_cb7deedc {a0 a1 a2 a3 a4 : Int} (h0 : a0 = (a1 + 1)) (h1 : a2 = (a3 + a4)) (h2 : a1 = a2) : a0 = (a3 + (a4 + 1)) := by omega
theorem oq_53ce64b9 {a0 : Int} (h0 : a0 < 20) : 0 < (20 - a0) := by omega
theorem oq_866185f5 {a0 : Int} (h0 : 4 ≤ a0) : (-2147483648) ≤ a0 := by omega
theorem oq_f1d511b8 {a0 : Int} (h0 : 12 ≤ a0) : (-2147483648) ≤ a0 := by omega
theorem oq_0de1c162 {a0 : Int} (h0 : 0 ≤ a0) : (-2147483648) ≤ (a0 + 20) := by omega
theorem oq_ed776728 {a0 : Int} (h0 : a0 ≤ 200) : (a0 + 20) ≤ 2147483647 := by omega
theorem oq_ec17a77e {a0 a1 : Int} (h0 : a0 = a1) : a0 = (a1 + 0) := by omega
theorem oq_2ec15ebf {a0 a1 : Int} (h0 : a0 = a1) (h1 : (a0 + 20) ≤ 200) : a1 ≤ 180 := by omega
theorem oq_dae52d74 {a0 a1 : Int} (h0 : a0 = a1) (h1 : 200 < (a0 + 20)) : 180 < a1 := by omega
theorem oq_d526ebd3 {a0 : Int} (h0 : a0 ≤ 12) : (a0 - 1) ≤ 2147483647 := by omega
theorem oq_ed86839e {a0 a1 : Int} (h0 : a0 ≠ 0) (h1 : ((a0 = 1 ∧ (0 ≤ a1 ∧ a1 ≤ 2)) ∨ (a0 = 0 ∧ (a1 < 0 ∨ 2 < a1)))) : 0 ≤ a1 := by omega
theorem oq_1e4f7caf {a0 a1 : Int} (h0 : a0 ≠ 0) (h1 : ((a0 = 1 ∧ (0 ≤ a1 ∧ a1 ≤ 2)) ∨ (a0 = 0 ∧ (a1 < 0 ∨ 2 < a1)))) : a1 ≤ 2 := by omega
theorem oq_8280ce40 {a0 a1 a2 a3 a4 : Int} (h0 : a0 = 0) (h1 : (a1 = 1 → a0 = 1)) (h2 : a1 ≤ 1) (h3 : ((a2 ≠ 0 ∧ a1 = 0) ∨ (a2 = 0 ∧ a1 = 1))) (h4 : ((a2 = 1 ∧ (0 ≤ a3 ∧ a3 ≤ (a4 - 1))) ∨ (a2 = 0 ∧ (a3 < 0 ∨ (a4 - 1) < a3)))) : 0 ≤ a3 := by omega
theorem oq_fb31d874 {a0 a1 a2 a3 a4 : Int} (h0 : a0 = 0) (h1 : (a1 = 1 → a0 = 1)) (h2 : a1 ≤ 1) (h3 : ((a2 ≠ 0 ∧ a1 = 0) ∨ (a2 = 0 ∧ a1 = 1))) (h4 : ((a2 = 1 ∧ (0 ≤ a3 ∧ a3 ≤ (a4 - 1))) ∨ (a2 = 0 ∧ (a3 < 0 ∨ (a4 - 1) < a3)))) (h5 : a4 ≤ 12) : a3 < 12 := by omega
theorem oq_662d51cf {a0 a1 a2 a3 a4 : Int} (h0 : a0 = 0) (h1 : (a1 = 1 → a0 = 1)) (h2 : a1 ≤ 1) (h3 : ((a2 ≠ 0 ∧ a1 = 0) ∨ (a2 = 0 ∧ a1 = 1))) (h4 : ((a2 = 1 ∧ (0 ≤ a3 ∧ a3 ≤ (a4 - 1))) ∨ (a2 = 0 ∧ (a3 < 0 ∨ (a4 - 1) < a3)))) (h5 : a4 ≤ 12) : (a3 : Int).toNat < 12 := by omega
theorem oq_0332e1ab {a0 : Int} (h0 : a0 ≤ 24) : (a0 - 1) ≤ 2147483647 := by omega
theorem oq_623cad9f {a0 a1 a2 : Int} (h0 : ((a0 = 0 ∧ a1 = (-1)) ∨ (a0 ≠ 0 ∧ ((0 ≤ a2 ∧ a2 ≤ 127) ∧ a1 = a2)))) : (-2147483648) ≤ a1 := by omega
theorem oq_0d5a0120 {a0 a1 a2 : Int} (h0 : ((a0 = 0 ∧ a1 = (-1)) ∨ (a0 ≠ 0 ∧ ((0 ≤ a2 ∧ a2 ≤ 127) ∧ a1 = a2)))) : a1 ≤ 2147483647 := by omega
theorem oq_5dfe5e68 {a0 a1 a2 : Int} (h0 : a0 ≠ 0) (h1 : ((a0 = 1 ∧ (0 ≤ a1 ∧ a1 ≤ (a2 - 1))) ∨ (a0 = 0 ∧ (a1 < 0 ∨ (a2 - 1) < a1)))) : 0 ≤ a1 := by omega
theorem oq_6c39bb95 {a0 a1 a2 : Int} (h0 : a0 ≠ 0) (h1 : ((a0 = 1 ∧ (0 ≤ a1 ∧ a1 ≤ (a2 - 1))) ∨ (a0 = 0 ∧ (a1 < 0 ∨ (a2 - 1) < a1)))) (h2 : a2 ≤ 24) : a1 < 24 := by omega
theorem oq_76eef144 {a0 a1 a2 : Int} (h0 : a0 ≠ 0) (h1 : ((a0 = 1 ∧ (0 ≤ a1 ∧ a1 ≤ (a2 - 1))) ∨ (a0 = 0 ∧ (a1 < 0 ∨ (a2 - 1) < a1)))) (h2 : a2 ≤ 24) : (a1 : Int).toNat < 24 := by omega
theorem oq_1a42ef34 {a0 : Int} (h0 : a0 ≤ 23) : a0 ≤ 2147483647 := by omega
theorem oq_0ddfcfee {a0 : Int} (h0 : a0 ≤ 11) : a0 < 12 := by omega
theorem oq_9c5fa447 {a0 : Int} (h0 : a0 ≤ 11) : (a0 : Int).toNat < 12 := by omega
theorem oq_c5e79f47 {a0 a1 : Int} (h0 : a0 ≤ a1) (h1 : a1 ≤ 23) : a0 < 24 := by omega
theorem oq_cbe526b3 {a0 : Int} (h0 : a0 ≤ 50) : a0 ≤ 2147483647 := by omega
theorem oq_3f5436dc {a0 a1 : Int} (h0 : a0 ≤ a1) (h1 : a1 ≤ 23) : (a0 + 1) ≤ 24 := by omega
theorem oq_416f5e90 {a0 a1 : Int} (h0 : a0 ≤ a1) (h1 : a1 ≤ 23) : 0 < (24 - a0) := by omega
theorem oq_895647ec {a0 a1 : Int} (h0 : a0 = 0) (h1 : (1 = 1 → a0 = 1)) : (0 ≤ a1 ∧ a1 ≤ 23) := by omega
theorem oq_0159bb48 {a0 a1 : Int} (h0 : a0 ≠ 0) (h1 : ((a0 = 1 ∧ (0 ≤ a1 ∧ a1 ≤ 23)) ∨ (a0 = 0 ∧ (a1 < 0 ∨ 23 < a1)))) : 0 ≤ a1 := by omega
theorem oq_f518633a {a0 a1 : Int} (h0 : a0 ≠ 0) (h1 : ((a0 = 1 ∧ (0 ≤ a1 ∧ a1 ≤ 23)) ∨ (a0 = 0 ∧ (a1 < 0 ∨ 23 < a1)))) : a1 ≤ 24 := by omega
theorem oq_71c16c0e {a0 a1 a2 a3 : Int} (h0 : a0 < a1) (h1 : a2 ≠ 0) (h2 : ((a2 = 1 ∧ (0 ≤ a0 ∧ a0 ≤ 23)) ∨ (a2 = 0 ∧ (a0 < 0 ∨ 23 < a0)))) (h3 : a3 ≠ 0) (h4 : ((a3 = 1 ∧ (0 ≤ a1 ∧ a1 ≤ 23)) ∨ (a3 = 0 ∧ (a1 < 0 ∨ 23 < a1)))) : (0 ≤ a0 ∧ a0 ≤ 23) := by omega
theorem oq_043ce32e {a0 a1 a2 : Int} (h0 : a0 < a1) (h1 : a2 ≠ 0) (h2 : ((a2 = 1 ∧ (0 ≤ a0 ∧ a0 ≤ 23)) ∨ (a2 = 0 ∧ (a0 < 0 ∨ 23 < a0)))) : 0 ≤ a1 := by omega
theorem oq_e5a089c2 {a0 a1 : Int} (h0 : a0 ≠ 0) (h1 : ((a0 = 1 ∧ (0 ≤ a1 ∧ a1 ≤ 23)) ∨ (a0 = 0 ∧ (a1 < 0 ∨ 23 < a1)))) : (0 ≤ a1 ∧ a1 ≤ 23) := by omega
theorem oq_9dfdc7ac {a0 a1 a2 : Int} (h0 : a0 ≤ a1) (h1 : a2 ≠ 0) (h2 : ((a2 = 1 ∧ (0 ≤ a1 ∧ a1 ≤ 23)) ∨ (a2 = 0 ∧ (a1 < 0 ∨ 23 < a1)))) : a0 ≤ 24 := by omega
theorem oq_f81b6609 {a0 : Int} (h0 : (-2) ≤ a0) : (-2147483648) ≤ a0 := by omega
theorem oq_9e7d853b {a0 : Int} (h0 : a0 ≤ 26) : a0 ≤ 2147483647 := by omega
theorem oq_34aac425 {a0 a1 : Int} (h0 : 0 ≤ a0) (h1 : 0 ≤ a1) : (-2147483648) ≤ (a0 + a1) := by omega
theorem oq_b5a47671 {a0 a1 : Int} (h0 : a0 ≤ 23) (h1 : a1 ≤ 2) : (a0 + a1) ≤ 2147483647 := by omega
theorem oq_826c3458 {a0 : Int} (h0 : (-2) ≤ a0) : (-2) ≤ (a0 + 1) := by omega
theorem oq_78fc2d48 {a0 a1 a2 : Int} (h0 : a0 ≤ (a1 + a2)) (h1 : a1 ≤ 23) (h2 : a2 ≤ 2) : (a0 + 1) ≤ 26 := by omega
theorem oq_5c7f6a1c {a0 a1 a2 : Int} (h0 : a0 ≤ (a1 + a2)) (h1 : a1 ≤ 23) (h2 : a2 ≤ 2) : 0 < (26 - a0) := by omega
theorem oq_127752ee {a0 a1 : Int} (h0 : a0 ≠ 0) (h1 : ((a0 = 1 ∧ (0 ≤ a1 ∧ a1 ≤ 23)) ∨ (a0 = 0 ∧ (a1 < 0 ∨ 23 < a1)))) : a1 < 24 := by omega
theorem oq_200d9360 {a0 a1 : Int} (h0 : a0 ≠ 0) (h1 : ((a0 = 1 ∧ (0 ≤ a1 ∧ a1 ≤ 23)) ∨ (a0 = 0 ∧ (a1 < 0 ∨ 23 < a1)))) : (a1 : Int).toNat < 24 := by omega
theorem oq_15fc5886 {a0 a1 : Int} (h0 : 0 ≤ a0) (h1 : a1 ≤ 2) : (-2) ≤ (a0 - a1) := by omega
theorem oq_0fb31b58 {a0 a1 : Int} (h0 : a0 ≤ 23) (h1 : 0 ≤ a1) : (a0 - a1) ≤ 26 := by omega
theorem oq_dcfd4fb9 {a0 a1 a2 a3 a4 : Int} (h0 : a0 = 0) (h1 : (a1 = 1 → a0 = 1)) (h2 : a1 ≤ 1) (h3 : ((a2 ≠ 0 ∧ a1 = 0) ∨ (a2 = 0 ∧ a1 = 1))) (h4 : ((a2 = 1 ∧ (0 ≤ a3 ∧ a3 ≤ (a4 - 1))) ∨ (a2 = 0 ∧ (a3 < 0 ∨ (a4 - 1) < a3)))) (h5 : a4 ≤ 12) : a3 ≤ 11 := by omega
theorem oq_4c4e29f5 {a0 a1 a2 a3 : Int} (h0 : a0 = 0) (h1 : (a1 = 1 → a0 = 1)) (h2 : a1 ≤ 1) (h3 : ((a2 ≠ 0 ∧ a1 = 0) ∨ (a2 = 0 ∧ a1 = 1))) (h4 : ((a2 = 1 ∧ (0 ≤ a3 ∧ a3 ≤ 23)) ∨ (a2 = 0 ∧ (a3 < 0 ∨ 23 < a3)))) : 0 ≤ a3 := by omega
theorem oq_3a13f1ce {a0 a1 a2 a3 : Int} (h0 : a0 = 0) (h1 : (a1 = 1 → a0 = 1)) (h2 : a1 ≤ 1) (h3 : ((a2 ≠ 0 ∧ a1 = 0) ∨ (a2 = 0 ∧ a1 = 1))) (h4 : ((a2 = 1 ∧ (0 ≤ a3 ∧ a3 ≤ 23)) ∨ (a2 = 0 ∧ (a3 < 0 ∨ 23 < a3)))) : a3 ≤ 23 := by omega
theorem oq_78843a64 {a0 : Int} (h0 : a0 ≤ 12) : a0 ≤ 2147483647 := by omega
theorem oq_e4d7f3c5 {a0 a1 : Int} (h0 : a0 < a1) (h1 : a1 ≤ 12) : a0 ≤ 11 := by omega
theorem oq_f36e82a8 {a0 a1 : Int} (h0 : a0 < a1) (h1 : a1 ≤ 12) : a0 < 12 := by omega
theorem oq_4dae995e {a0 a1 : Int} (h0 : a0 < a1) (h1 : a1 ≤ 12) : (a0 + 1) ≤ 12 := by omega
theorem oq_b575e8c1 {a0 a1 : Int} (h0 : a0 < a1) (h1 : a1 ≤ 12) : 0 < (12 - a0) := by omega
/-! The model: feed and its like -/
section M33
variable {l : Launch} {s0 : State} {D : va_G} {tys : List (ClassId × FieldType)} {a0 : Array Value} {A : Nat → Nat} {dT : Nat → ClassId} {s : PS}
theorem k_way (G : GX l s0 D tys a0 dT) (I : Bd s) {x y : Int} (p0 : rng x) (p1 : rng y) : CT l s0 D A dT 217 (rmN 217) [.ref (A 179), .int (Int32.ofInt x), .int (Int32.ofInt y)] s (fun o t => Bd t ∧ Fm [73] [] s t ∧ ∃ e, o = .inl (some (.int (Int32.ofInt e))) ∧ rng e ∧ (True)) := by
  refine ct_of G (by decide) (Nat.le_of_ble_eq_true rfl) (fun k X E hRt hXt q => ?_)
  show WS k 0 [(0, .ref (A 179)), (1, .int (Int32.ofInt x)), (2, .int (Int32.ofInt y))] [] _ 0 0
  have F : Fm [73] [] s s := fm_rf _ _ s
  have b1 := bi_73 I
  have b2 := bi_90 I
  refine z_aload_n X (x := A 179) rfl (List.Mem.head _) (z_const X rfl (s_putI X 179 rfl (c518_ok rfl) rfl rfl (by decide) rfl rfl rfl (wd_gen (fun s3 hs3 => ?_))))
  have Is3 : Bd s3 := eqB hs3 (bd_I I (show (0 : Int) ≤ 0 ∧ 0 ≤ 3 by first | exact ⟨by decide, by decide⟩ | omega) (by decide))
  have Fs3 := eqF hs3 (fm_I F (inl_ok (a := 73) rfl))
  have vs3 : iI s3 73 = 0 := eqI hs3 (iI_u (by decide))
  have ws3_90 : iI s3 90 = iI s 90 := eqI hs3 rfl
  refine z_aload_n X (x := A 179) rfl (List.Mem.head _) (z_load_n X (x := x) rfl (List.Mem.tail _ (List.Mem.head _)) (z_const X rfl (z_aload_n X (x := A 179) rfl (List.Mem.head _) (z_getI X 179 rfl (c518_ok rfl) rfl rfl ?_))))
  have b4 := bi_90 Is3
  refine z_const X rfl (z_sub X rfl (zcS_i0 X E (As := [.int (Int32.ofInt x), .int (Int32.ofInt 0), .int (Int32.ofInt ((iI s3 90) - 1))]) (st := [.ref (A 179)]) rfl rfl (k_in G Is3 (by first | exact ⟨p0.1, p0.2⟩ | omega) (by first | exact ⟨by decide, by decide⟩ | omega) (by first | exact ⟨oq_c1e961c7 b4.1, oq_d526ebd3 b4.2⟩ | omega)) rfl (Nat.le_of_ble_eq_true rfl) (fun s5 e6 Is5 Fs5 hrs5 hps5 => ?_)))
  have Gs5 := fm_tq Fs3 Fs5 rfl rfl
  have ws5_73 : iI s5 73 = iI s3 73 := fm_iq Fs5 rfl
  have ws5_90 : iI s5 90 = iI s3 90 := fm_iq Fs5 rfl
  have N7 : ∀ e8 : Int, (((e6 ≠ 0) ∧ e8 = 0) ∨ ((e6 = 0) ∧ e8 = 1)) → WS k 25 [(0, .ref (A 179)), (1, .int (Int32.ofInt x)), (2, .int (Int32.ofInt y))] [.int (Int32.ofInt e8), .ref (A 179)] (Wd A dT s5) 0 0 := by
    intro e8 he8
    have re8 : 0 ≤ e8 ∧ e8 ≤ 1 := by first | (clear he8 hps5; omega) | (clear hps5; omega) | omega
    refine z_const X rfl (zcV_i0 X E 179 (As := [.int (Int32.ofInt e8), .int (Int32.ofInt 1)]) (st := []) rfl rfl rfl rfl (k_bad G Is5 (by first | exact oq_31e518ae re8.2 re8.1 | omega) (by first | exact ⟨by decide, by decide⟩ | omega)) rfl (Nat.le_of_ble_eq_true rfl) (fun s9 e10 Is9 Fs9 hrs9 hps9 => ?_))
    have Gs9 := fm_tq Gs5 Fs9 rfl rfl
    have b11 := bi_73 Is9
    have ws9_90 : iI s9 90 = iI s5 90 := fm_iq Fs9 rfl
    refine z_if_eq X (t := 34) rfl rfl hrs9 (fun g12 => ?_) (fun g12 => ?_)
    ·
      refine z_load_n X (x := y) rfl (List.Mem.tail _ (List.Mem.tail _ (List.Mem.head _))) (z_const X rfl (z_aload_n X (x := A 179) rfl (List.Mem.head _) (s_getR X 179 rfl (c518_ok rfl) rfl rfl (z_load_n X (x := x) rfl (List.Mem.tail _ (List.Mem.head _)) (z_ald X 185 rfl (c518_ok rfl) rfl (by first | exact oq_8280ce40 g12 hps9.2.1 re8.2 he8 hps5 | omega) (show x < 12 by first | exact oq_fb31d874 g12 hps9.2.1 re8.2 he8 hps5 b4.2 | omega) (cbig_ok rfl) ?_)))))
      have b13 := bc_162 Is9 (show (x).toNat < 12 by first | exact oq_662d51cf g12 hps9.2.1 re8.2 he8 hps5 b4.2 | omega)
      refine z_const X rfl (z_sub X rfl (zcS_i0 X E (As := [.int (Int32.ofInt y), .int (Int32.ofInt 0), .int (Int32.ofInt ((iC s9 162 (x).toNat) - 1))]) (st := []) rfl rfl (k_in G Is9 (by first | exact ⟨p1.1, p1.2⟩ | omega) (by first | exact ⟨by decide, by decide⟩ | omega) (by first | exact ⟨oq_c1e961c7 b13.1, oq_0332e1ab b13.2⟩ | omega)) rfl (Nat.le_of_ble_eq_true rfl) (fun s14 e15 Is14 Fs14 hrs14 hps14 => ?_)))
      have Gs14 := fm_tq Gs9 Fs14 rfl rfl
      have ws14_73 : iI s14 73 = iI s9 73 := fm_iq Fs14 rfl
      have ws14_90 : iI s14 90 = iI s9 90 := fm_iq Fs14 rfl
      have N16 : ∀ e17 : Int, (((e15 = 0) ∧ e17 = (-1)) ∨ ((e15 ≠ 0) ∧ ((0 : Int) ≤ (iC s14 (166 + (x : Int).toNat) (y : Int).toNat) ∧ (iC s14 (166 + (x : Int).toNat) (y : Int).toNat) ≤ 127) ∧ e17 = (iC s14 (166 + (x : Int).toNat) (y : Int).toNat))) → WS k 62 [(0, .ref (A 179)), (1, .int (Int32.ofInt x)), (2, .int (Int32.ofInt y))] [.int (Int32.ofInt e17)] (Wd A dT s14) 0 0 := by
        intro e17 he17
        exact w_iret X.1 q hRt rfl (ax_d X (show cdA 217 62 = some (.ireturn, 1, 0, 0, 0) from rfl)) (Nat.zero_le _) (Nat.zero_le _) ⟨_, rfl, Is14, Gs14, e17, rfl, ⟨by first | exact oq_623cad9f he17 | omega, by first | exact oq_0d5a0120 he17 | omega⟩, trivial⟩
      refine z_if_eq X (t := 61) rfl rfl hrs14 (fun g18 => ?_) (fun g18 => ?_)
      ·
        exact z_const X rfl (N16 _ (Or.inl ⟨g18, rfl⟩))
      ·
        refine z_aload_n X (x := A 179) rfl (List.Mem.head _) (s_getR X 179 rfl (c518_ok rfl) rfl rfl (z_load_n X (x := x) rfl (List.Mem.tail _ (List.Mem.head _)) (z_aald X rw_189 rfl (by first | exact oq_8280ce40 g12 hps9.2.1 re8.2 he8 hps5 | omega) (show x < 12 by first | exact oq_fb31d874 g12 hps9.2.1 re8.2 he8 hps5 b4.2 | omega) (by decide) (z_load_n X (x := y) rfl (List.Mem.tail _ (List.Mem.tail _ (List.Mem.head _))) (z_ald2 X rw_189 rfl (show (x : Int).toNat < 12 by first | exact oq_662d51cf g12 hps9.2.1 re8.2 he8 hps5 b4.2 | omega) (by first | exact oq_5dfe5e68 g18 hps14 | omega) (show y < 24 by first | exact oq_6c39bb95 g18 hps14 b13.2 | omega) (by decide) ?_)))))
        have b19 : (0 : Int) ≤ (iC s14 (166 + (x : Int).toNat) (y : Int).toNat) ∧ (iC s14 (166 + (x : Int).toNat) (y : Int).toNat) ≤ 127 := rw_bd rw_189 Is14 (show (x : Int).toNat < 12 by first | exact oq_662d51cf g12 hps9.2.1 re8.2 he8 hps5 b4.2 | omega) (show (y : Int).toNat < 24 by first | exact oq_76eef144 g18 hps14 b13.2 | omega)
        exact z_goto X (t := 62) rfl rfl (N16 _ (Or.inr (⟨g18, b19, rfl⟩)))
    ·
      refine z_const X rfl ?_
      exact w_iret X.1 q hRt rfl (ax_d X (show cdA 217 33 = some (.ireturn, 1, 0, 0, 0) from rfl)) (Nat.zero_le _) (Nat.zero_le _) ⟨_, rfl, Is9, Gs9, 0, rfl, (by decide), trivial⟩
  refine z_if_ne X (t := 24) rfl rfl hrs5 (fun g20 => ?_) (fun g20 => ?_)
  ·
    exact z_const X rfl (N7 _ (Or.inl ⟨g20, rfl⟩))
  ·
    exact z_const X rfl (z_goto X (t := 25) rfl rfl (N7 _ (Or.inr (⟨g20, rfl⟩))))
theorem k_mostOf (G : GX l s0 D tys a0 dT) (I : Bd s) {x y : Int} (p0 : 0 ≤ x ∧ x ≤ 11) (p1 : 0 ≤ y ∧ y ≤ 23) : CT l s0 D A dT 220 (rmN 220) [.ref (A 179), .int (Int32.ofInt x), .int (Int32.ofInt y)] s (fun o t => Bd t ∧ Fm [] [] s t ∧ ∃ e, o = .inl (some (.int (Int32.ofInt e))) ∧ rng e ∧ (0 ≤ e ∧ e ≤ 50)) := by
  refine ct_of G (by decide) (Nat.le_of_ble_eq_true rfl) (fun k X E hRt hXt q => ?_)
  show WS k 0 [(0, .ref (A 179)), (1, .int (Int32.ofInt x)), (2, .int (Int32.ofInt y))] [] _ 0 0
  have F : Fm [] [] s s := fm_rf _ _ s
  have L12 : ∀ (n : Nat) (t : PS) (xv yv nv c : Int), Bd t → Fm [] [] s t → ((0 ≤ xv ∧ xv ≤ 11) ∧ (0 ≤ yv ∧ yv ≤ 23) ∧ (0 ≤ nv ∧ nv ≤ 50) ∧ -2 ≤ c ∧ c ≤ 26) → (26 - c : Int).toNat < n → (∀ (t' : PS) (xv' yv' nv' c' : Int), Bd t' → Fm [] [] s t' → ((0 ≤ xv' ∧ xv' ≤ 11) ∧ (0 ≤ yv' ∧ yv' ≤ 23) ∧ (0 ≤ nv' ∧ nv' ≤ 50) ∧ -2 ≤ c' ∧ c' ≤ 26) → WS k 65 [(0, .ref (A 179)), (1, .int (Int32.ofInt xv')), (2, .int (Int32.ofInt yv')), (3, .int (Int32.ofInt nv')), (4, .int (Int32.ofInt c'))] [] (Wd A dT t') 0 0) → WS k 12 [(0, .ref (A 179)), (1, .int (Int32.ofInt xv)), (2, .int (Int32.ofInt yv)), (3, .int (Int32.ofInt nv)), (4, .int (Int32.ofInt c))] [] (Wd A dT t) 0 0 := by
    intro n
    induction n with
    | zero =>
      intro t xv yv nv c I F hi hm kx
      exact absurd hm (Nat.not_lt_zero _)
    | succ n ih =>
      intro t xv yv nv c I F hi hm kx
      refine z_load X (x := c) rfl (List.Mem.tail _ (List.Mem.tail _ (List.Mem.tail _ (List.Mem.tail _ (List.Mem.head _))))) (z_load_n X (x := yv) rfl (List.Mem.tail _ (List.Mem.tail _ (List.Mem.head _))) (z_aload_n X (x := A 179) rfl (List.Mem.head _) (s_getR X 179 rfl (c518_ok rfl) rfl rfl (z_load_n X (x := xv) rfl (List.Mem.tail _ (List.Mem.head _)) (z_ald X 186 rfl (c518_ok rfl) rfl (by first | exact hi.1.1 | omega) (show xv < 12 by first | exact oq_0ddfcfee hi.1.2 | omega) (cbig_ok rfl) ?_)))))
      have b1001 := bc_163 I (show (xv).toNat < 12 by first | exact oq_9c5fa447 hi.1.2 | omega)
      refine z_add X rfl (z_icmp_gt X (t := 65) rfl rfl ⟨by first | exact oq_f81b6609 hi.2.2.2.1 | omega, by first | exact oq_9e7d853b hi.2.2.2.2 | omega⟩ ⟨by first | exact oq_34aac425 hi.2.1.1 b1001.1 | omega, by first | exact oq_b5a47671 hi.2.1.2 b1001.2 | omega⟩ (fun g1002 => ?_) (fun g1002 => ?_))
      ·
        refine WS_pq [0, 1, 2, 3, 4] (lv' := [(0, .ref (A 179)), (1, .int (Int32.ofInt xv)), (2, .int (Int32.ofInt yv)), (3, .int (Int32.ofInt nv)), (4, .int (Int32.ofInt c))]) rfl ?_
        exact kx _ xv yv nv c I F (by first | exact ⟨And.intro (hi.1.1) (hi.1.2), And.intro (hi.2.1.1) (hi.2.1.2), And.intro (hi.2.2.1.1) (hi.2.2.1.2), hi.2.2.2.1, hi.2.2.2.2⟩ | omega)
      ·
        refine z_load X (x := c) rfl (List.Mem.tail _ (List.Mem.tail _ (List.Mem.tail _ (List.Mem.tail _ (List.Mem.head _))))) (z_const X rfl (z_bipush X rfl (zcS_i0 X E (As := [.int (Int32.ofInt c), .int (Int32.ofInt 0), .int (Int32.ofInt 23)]) (st := []) rfl rfl (k_in G I (by first | exact ⟨oq_f81b6609 hi.2.2.2.1, oq_9e7d853b hi.2.2.2.2⟩ | omega) (by first | exact ⟨by decide, by decide⟩ | omega) (by first | exact ⟨by decide, by decide⟩ | omega)) rfl (Nat.le_of_ble_eq_true rfl) (fun s1003 e1004 Is1003 Fs1003 hrs1003 hps1003 => ?_))))
        have Gs1003 := fm_tq F Fs1003 rfl rfl
        refine z_if_eq X (t := 59) rfl rfl hrs1003 (fun g1005 => ?_) (fun g1005 => ?_)
        ·
          refine z_inc X (x := c) (lv' := [(4, .int (Int32.ofInt (c + 1))), (0, .ref (A 179)), (1, .int (Int32.ofInt xv)), (2, .int (Int32.ofInt yv)), (3, .int (Int32.ofInt nv))]) rfl (by decide) (List.Mem.tail _ (List.Mem.tail _ (List.Mem.tail _ (List.Mem.tail _ (List.Mem.head _))))) (fun _ h => h) (z_goto X (t := 12) rfl rfl (WS_pq [1, 2, 3, 4, 0] (lv' := [(0, .ref (A 179)), (1, .int (Int32.ofInt xv)), (2, .int (Int32.ofInt yv)), (3, .int (Int32.ofInt nv)), (4, .int (Int32.ofInt (c + 1)))]) rfl ?_))
          exact ih _ xv yv nv (c + 1) Is1003 Gs1003 (by first | exact ⟨And.intro (hi.1.1) (hi.1.2), And.intro (hi.2.1.1) (hi.2.1.2), And.intro (hi.2.2.1.1) (hi.2.2.1.2), oq_826c3458 hi.2.2.2.1, oq_78fc2d48 g1002 hi.2.1.2 b1001.2⟩ | omega) (by first | exact qk_me hm (by decide) (oq_5c7f6a1c g1002 hi.2.1.2 b1001.2) | omega) kx
        ·
          refine z_aload_n X (x := A 179) rfl (List.Mem.head _) (s_getR X 179 rfl (c518_ok rfl) rfl rfl (z_load_n X (x := xv) rfl (List.Mem.tail _ (List.Mem.head _)) (z_aald X rw_215 rfl (by first | exact hi.1.1 | omega) (show xv < 12 by first | exact oq_0ddfcfee hi.1.2 | omega) (by decide) (z_load X (x := c) rfl (List.Mem.tail _ (List.Mem.tail _ (List.Mem.tail _ (List.Mem.tail _ (List.Mem.head _))))) (z_ald2 X rw_215 rfl (show (xv : Int).toNat < 12 by first | exact oq_9c5fa447 hi.1.2 | omega) (by first | exact oq_0159bb48 g1005 hps1003 | omega) (show c < 24 by first | exact oq_127752ee g1005 hps1003 | omega) (by decide) ?_)))))
          have b1006 : (0 : Int) ≤ (iC s1003 (190 + (xv : Int).toNat) (c : Int).toNat) ∧ (iC s1003 (190 + (xv : Int).toNat) (c : Int).toNat) ≤ 50 := rw_bd rw_215 Is1003 (show (xv : Int).toNat < 12 by first | exact oq_9c5fa447 hi.1.2 | omega) (show (c : Int).toNat < 24 by first | exact oq_200d9360 g1005 hps1003 | omega)
          refine z_load_n X (x := nv) rfl (List.Mem.tail _ (List.Mem.tail _ (List.Mem.tail _ (List.Mem.head _)))) (z_icmp_le X (t := 59) rfl rfl (rng_to _) ⟨by first | exact oq_fa4e5087 hi.2.2.1.1 | omega, by first | exact oq_cbe526b3 hi.2.2.1.2 | omega⟩ (fun g1007 => ?_) (fun g1007 => ?_))
          ·
            refine z_inc X (x := c) (lv' := [(4, .int (Int32.ofInt (c + 1))), (0, .ref (A 179)), (1, .int (Int32.ofInt xv)), (2, .int (Int32.ofInt yv)), (3, .int (Int32.ofInt nv))]) rfl (by decide) (List.Mem.tail _ (List.Mem.tail _ (List.Mem.tail _ (List.Mem.tail _ (List.Mem.head _))))) (fun _ h => h) (z_goto X (t := 12) rfl rfl (WS_pq [1, 2, 3, 4, 0] (lv' := [(0, .ref (A 179)), (1, .int (Int32.ofInt xv)), (2, .int (Int32.ofInt yv)), (3, .int (Int32.ofInt nv)), (4, .int (Int32.ofInt (c + 1)))]) rfl ?_))
            exact ih _ xv yv nv (c + 1) Is1003 Gs1003 (by first | exact ⟨And.intro (hi.1.1) (hi.1.2), And.intro (hi.2.1.1) (hi.2.1.2), And.intro (hi.2.2.1.1) (hi.2.2.1.2), oq_826c3458 hi.2.2.2.1, oq_78fc2d48 g1002 hi.2.1.2 b1001.2⟩ | omega) (by first | exact qk_me hm (by decide) (oq_5c7f6a1c g1002 hi.2.1.2 b1001.2) | omega) kx
          ·
            refine z_aload_n X (x := A 179) rfl (List.Mem.head _) (s_getR X 179 rfl (c518_ok rfl) rfl rfl (z_load_n X (x := xv) rfl (List.Mem.tail _ (List.Mem.head _)) (z_aald X rw_215 rfl (by first | exact hi.1.1 | omega) (show xv < 12 by first | exact oq_0ddfcfee hi.1.2 | omega) (by decide) (z_load X (x := c) rfl (List.Mem.tail _ (List.Mem.tail _ (List.Mem.tail _ (List.Mem.tail _ (List.Mem.head _))))) (z_ald2 X rw_215 rfl (show (xv : Int).toNat < 12 by first | exact oq_9c5fa447 hi.1.2 | omega) (by first | exact oq_0159bb48 g1005 hps1003 | omega) (show c < 24 by first | exact oq_127752ee g1005 hps1003 | omega) (by decide) ?_)))))
            have b1008 : (0 : Int) ≤ (iC s1003 (190 + (xv : Int).toNat) (c : Int).toNat) ∧ (iC s1003 (190 + (xv : Int).toNat) (c : Int).toNat) ≤ 50 := rw_bd rw_215 Is1003 (show (xv : Int).toNat < 12 by first | exact oq_9c5fa447 hi.1.2 | omega) (show (c : Int).toNat < 24 by first | exact oq_200d9360 g1005 hps1003 | omega)
            refine z_store_n X (lv' := [(3, .int (Int32.ofInt (iC s1003 (190 + (xv : Int).toNat) (c : Int).toNat))), (0, .ref (A 179)), (1, .int (Int32.ofInt xv)), (2, .int (Int32.ofInt yv)), (4, .int (Int32.ofInt c))]) rfl (by decide) (fun _ h => h) (z_inc X (x := c) (lv' := [(4, .int (Int32.ofInt (c + 1))), (3, .int (Int32.ofInt (iC s1003 (190 + (xv : Int).toNat) (c : Int).toNat))), (0, .ref (A 179)), (1, .int (Int32.ofInt xv)), (2, .int (Int32.ofInt yv))]) rfl (by decide) (List.Mem.tail _ (List.Mem.tail _ (List.Mem.tail _ (List.Mem.tail _ (List.Mem.head _))))) (fun _ h => h) (z_goto X (t := 12) rfl rfl (WS_pq [2, 3, 4, 1, 0] (lv' := [(0, .ref (A 179)), (1, .int (Int32.ofInt xv)), (2, .int (Int32.ofInt yv)), (3, .int (Int32.ofInt (iC s1003 (190 + (xv : Int).toNat) (c : Int).toNat))), (4, .int (Int32.ofInt (c + 1)))]) rfl ?_)))
            exact ih _ xv yv (iC s1003 (190 + (xv : Int).toNat) (c : Int).toNat) (c + 1) Is1003 Gs1003 (by first | exact ⟨And.intro (hi.1.1) (hi.1.2), And.intro (hi.2.1.1) (hi.2.1.2), And.intro (b1008.1) (b1008.2), oq_826c3458 hi.2.2.2.1, oq_78fc2d48 g1002 hi.2.1.2 b1001.2⟩ | omega) (by first | exact qk_me hm (by decide) (oq_5c7f6a1c g1002 hi.2.1.2 b1001.2) | omega) kx
  refine z_const X rfl (z_store_n X (lv' := [(3, .int (Int32.ofInt 0)), (0, .ref (A 179)), (1, .int (Int32.ofInt x)), (2, .int (Int32.ofInt y))]) rfl (by decide) (fun _ h => h) (z_load_n X (x := y) rfl (List.Mem.tail _ (List.Mem.tail _ (List.Mem.tail _ (List.Mem.head _)))) (z_aload_n X (x := A 179) rfl (List.Mem.tail _ (List.Mem.head _)) (s_getR X 179 rfl (c518_ok rfl) rfl rfl (z_load_n X (x := x) rfl (List.Mem.tail _ (List.Mem.tail _ (List.Mem.head _))) (z_ald X 187 rfl (c518_ok rfl) rfl (by first | exact p0.1 | omega) (show x < 12 by first | exact oq_0ddfcfee p0.2 | omega) (cbig_ok rfl) ?_))))))
  have b1 := bc_164 I (show (x).toNat < 12 by first | exact oq_9c5fa447 p0.2 | omega)
  refine z_sub X rfl (z_store X (lv' := [(4, .int (Int32.ofInt (y - (iC s 164 (x).toNat)))), (3, .int (Int32.ofInt 0)), (0, .ref (A 179)), (1, .int (Int32.ofInt x)), (2, .int (Int32.ofInt y))]) rfl (by decide) (fun _ h => h) (WS_pq [2, 3, 4, 1, 0] (lv' := [(0, .ref (A 179)), (1, .int (Int32.ofInt x)), (2, .int (Int32.ofInt y)), (3, .int (Int32.ofInt 0)), (4, .int (Int32.ofInt (y - (iC s 164 (x).toNat))))]) rfl (L12 ((26 - (y - (iC s 164 (x).toNat)) : Int).toNat + 1) s x y 0 (y - (iC s 164 (x).toNat)) I F (by first | exact ⟨And.intro (p0.1) (p0.2), And.intro (p1.1) (p1.2), And.intro (by decide) (by decide), oq_15fc5886 p1.1 b1.2, oq_0fb31b58 p1.2 b1.1⟩ | omega) (Nat.lt_succ_self _) ?_)))
  intro s2 x3 x4 x5 x6 Is2 Fs2 hs2
  refine z_load_n X (x := x5) rfl (List.Mem.tail _ (List.Mem.tail _ (List.Mem.tail _ (List.Mem.head _)))) ?_
  exact w_iret X.1 q hRt rfl (ax_d X (show cdA 220 66 = some (.ireturn, 1, 0, 0, 0) from rfl)) (Nat.zero_le _) (Nat.zero_le _) ⟨_, rfl, Is2, Fs2, x5, rfl, ⟨by first | exact oq_fa4e5087 hs2.2.2.1.1 | omega, by first | exact oq_cbe526b3 hs2.2.2.1.2 | omega⟩, by first | exact ⟨hs2.2.2.1.1, hs2.2.2.1.2⟩ | omega⟩
theorem k_most (G : GX l s0 D tys a0 dT) (I : Bd s) {x y : Int} (p0 : rng x) (p1 : rng y) : CT l s0 D A dT 221 (rmN 221) [.ref (A 179), .int (Int32.ofInt x), .int (Int32.ofInt y)] s (fun o t => Bd t ∧ Fm [73] [] s t ∧ ∃ e, o = .inl (some (.int (Int32.ofInt e))) ∧ rng e ∧ (True)) := by
  refine ct_of G (by decide) (Nat.le_of_ble_eq_true rfl) (fun k X E hRt hXt q => ?_)
  show WS k 0 [(0, .ref (A 179)), (1, .int (Int32.ofInt x)), (2, .int (Int32.ofInt y))] [] _ 0 0
  have F : Fm [73] [] s s := fm_rf _ _ s
  have b1 := bi_73 I
  have b2 := bi_90 I
  refine z_aload_n X (x := A 179) rfl (List.Mem.head _) (z_const X rfl (s_putI X 179 rfl (c518_ok rfl) rfl rfl (by decide) rfl rfl rfl (wd_gen (fun s3 hs3 => ?_))))
  have Is3 : Bd s3 := eqB hs3 (bd_I I (show (0 : Int) ≤ 0 ∧ 0 ≤ 3 by first | exact ⟨by decide, by decide⟩ | omega) (by decide))
  have Fs3 := eqF hs3 (fm_I F (inl_ok (a := 73) rfl))
  have vs3 : iI s3 73 = 0 := eqI hs3 (iI_u (by decide))
  have ws3_90 : iI s3 90 = iI s 90 := eqI hs3 rfl
  refine z_aload_n X (x := A 179) rfl (List.Mem.head _) (z_load_n X (x := x) rfl (List.Mem.tail _ (List.Mem.head _)) (z_const X rfl (z_aload_n X (x := A 179) rfl (List.Mem.head _) (z_getI X 179 rfl (c518_ok rfl) rfl rfl ?_))))
  have b4 := bi_90 Is3
  refine z_const X rfl (z_sub X rfl (zcS_i0 X E (As := [.int (Int32.ofInt x), .int (Int32.ofInt 0), .int (Int32.ofInt ((iI s3 90) - 1))]) (st := [.ref (A 179)]) rfl rfl (k_in G Is3 (by first | exact ⟨p0.1, p0.2⟩ | omega) (by first | exact ⟨by decide, by decide⟩ | omega) (by first | exact ⟨oq_c1e961c7 b4.1, oq_d526ebd3 b4.2⟩ | omega)) rfl (Nat.le_of_ble_eq_true rfl) (fun s5 e6 Is5 Fs5 hrs5 hps5 => ?_)))
  have Gs5 := fm_tq Fs3 Fs5 rfl rfl
  have ws5_73 : iI s5 73 = iI s3 73 := fm_iq Fs5 rfl
  have ws5_90 : iI s5 90 = iI s3 90 := fm_iq Fs5 rfl
  have N7 : ∀ e8 : Int, (((e6 ≠ 0) ∧ e8 = 0) ∨ ((e6 = 0) ∧ e8 = 1)) → WS k 25 [(0, .ref (A 179)), (1, .int (Int32.ofInt x)), (2, .int (Int32.ofInt y))] [.int (Int32.ofInt e8), .ref (A 179)] (Wd A dT s5) 0 0 := by
    intro e8 he8
    have re8 : 0 ≤ e8 ∧ e8 ≤ 1 := by first | (clear he8 hps5; omega) | (clear hps5; omega) | omega
    refine z_const X rfl (zcV_i0 X E 179 (As := [.int (Int32.ofInt e8), .int (Int32.ofInt 1)]) (st := []) rfl rfl rfl rfl (k_bad G Is5 (by first | exact oq_31e518ae re8.2 re8.1 | omega) (by first | exact ⟨by decide, by decide⟩ | omega)) rfl (Nat.le_of_ble_eq_true rfl) (fun s9 e10 Is9 Fs9 hrs9 hps9 => ?_))
    have Gs9 := fm_tq Gs5 Fs9 rfl rfl
    have b11 := bi_73 Is9
    have ws9_90 : iI s9 90 = iI s5 90 := fm_iq Fs9 rfl
    refine z_if_ne X (t := 55) rfl rfl hrs9 (fun g12 => ?_) (fun g12 => ?_)
    ·
      refine z_const X rfl ?_
      exact w_iret X.1 q hRt rfl (ax_d X (show cdA 221 56 = some (.ireturn, 1, 0, 0, 0) from rfl)) (Nat.zero_le _) (Nat.zero_le _) ⟨_, rfl, Is9, Gs9, 0, rfl, (by decide), trivial⟩
    ·
      refine z_aload_n X (x := A 179) rfl (List.Mem.head _) (z_load_n X (x := y) rfl (List.Mem.tail _ (List.Mem.tail _ (List.Mem.head _))) (z_const X rfl (z_bipush X rfl (zcS_i0 X E (As := [.int (Int32.ofInt y), .int (Int32.ofInt 0), .int (Int32.ofInt 23)]) (st := [.ref (A 179)]) rfl rfl (k_in G Is9 (by first | exact ⟨p1.1, p1.2⟩ | omega) (by first | exact ⟨by decide, by decide⟩ | omega) (by first | exact ⟨by decide, by decide⟩ | omega)) rfl (Nat.le_of_ble_eq_true rfl) (fun s13 e14 Is13 Fs13 hrs13 hps13 => ?_)))))
      have Gs13 := fm_tq Gs9 Fs13 rfl rfl
      have ws13_73 : iI s13 73 = iI s9 73 := fm_iq Fs13 rfl
      have ws13_90 : iI s13 90 = iI s9 90 := fm_iq Fs13 rfl
      have N15 : ∀ e16 : Int, (((e14 ≠ 0) ∧ e16 = 0) ∨ ((e14 = 0) ∧ e16 = 1)) → WS k 48 [(0, .ref (A 179)), (1, .int (Int32.ofInt x)), (2, .int (Int32.ofInt y))] [.int (Int32.ofInt e16), .ref (A 179)] (Wd A dT s13) 0 0 := by
        intro e16 he16
        have re16 : 0 ≤ e16 ∧ e16 ≤ 1 := by first | (clear he16 hps13 hps9 he8 hps5; omega) | (clear hps13 hps9 he8 hps5; omega) | omega
        refine z_const X rfl (zcV_i0 X E 179 (As := [.int (Int32.ofInt e16), .int (Int32.ofInt 2)]) (st := []) rfl rfl rfl rfl (k_bad G Is13 (by first | exact oq_31e518ae re16.2 re16.1 | omega) (by first | exact ⟨by decide, by decide⟩ | omega)) rfl (Nat.le_of_ble_eq_true rfl) (fun s17 e18 Is17 Fs17 hrs17 hps17 => ?_))
        have Gs17 := fm_tq Gs13 Fs17 rfl rfl
        have b19 := bi_73 Is17
        have ws17_90 : iI s17 90 = iI s13 90 := fm_iq Fs17 rfl
        refine z_if_eq X (t := 57) rfl rfl hrs17 (fun g20 => ?_) (fun g20 => ?_)
        ·
          refine z_aload_n X (x := A 179) rfl (List.Mem.head _) (z_load_n X (x := x) rfl (List.Mem.tail _ (List.Mem.head _)) (z_load_n X (x := y) rfl (List.Mem.tail _ (List.Mem.tail _ (List.Mem.head _))) (zcV_i0 X E 179 (As := [.int (Int32.ofInt x), .int (Int32.ofInt y)]) (st := []) rfl rfl rfl rfl (k_mostOf G Is17 (by first | exact ⟨oq_8280ce40 g12 hps9.2.1 re8.2 he8 hps5, oq_dcfd4fb9 g12 hps9.2.1 re8.2 he8 hps5 b4.2⟩ | omega) (by first | exact ⟨oq_4c4e29f5 g20 hps17.2.1 re16.2 he16 hps13, oq_3a13f1ce g20 hps17.2.1 re16.2 he16 hps13⟩ | omega)) rfl (Nat.le_of_ble_eq_true rfl) (fun s21 e22 Is21 Fs21 hrs21 hps21 => ?_))))
          have Gs21 := fm_tq Gs17 Fs21 rfl rfl
          have ws21_73 : iI s21 73 = iI s17 73 := fm_iq Fs21 rfl
          have ws21_90 : iI s21 90 = iI s17 90 := fm_iq Fs21 rfl
          exact w_iret X.1 q hRt rfl (ax_d X (show cdA 221 63 = some (.ireturn, 1, 0, 0, 0) from rfl)) (Nat.zero_le _) (Nat.zero_le _) ⟨_, rfl, Is21, Gs21, e22, rfl, hrs21, trivial⟩
        ·
          refine z_const X rfl ?_
          exact w_iret X.1 q hRt rfl (ax_d X (show cdA 221 56 = some (.ireturn, 1, 0, 0, 0) from rfl)) (Nat.zero_le _) (Nat.zero_le _) ⟨_, rfl, Is17, Gs17, 0, rfl, (by decide), trivial⟩
      refine z_if_ne X (t := 47) rfl rfl hrs13 (fun g23 => ?_) (fun g23 => ?_)
      ·
        exact z_const X rfl (N15 _ (Or.inl ⟨g23, rfl⟩))
      ·
        exact z_const X rfl (z_goto X (t := 48) rfl rfl (N15 _ (Or.inr (⟨g23, rfl⟩))))
  refine z_if_ne X (t := 24) rfl rfl hrs5 (fun g24 => ?_) (fun g24 => ?_)
  ·
    exact z_const X rfl (N7 _ (Or.inl ⟨g24, rfl⟩))
  ·
    exact z_const X rfl (z_goto X (t := 25) rfl rfl (N7 _ (Or.inr (⟨g24, rfl⟩))))
theorem k_numbersIn (G : GX l s0 D tys a0 dT) (I : Bd s) {x : Int} (p0 : 0 ≤ x ∧ x ≤ 23) : CT l s0 D A dT 224 (rmN 224) [.ref (A 179), .int (Int32.ofInt x)] s (fun o t => Bd t ∧ Fm [] [203] s t ∧ o = .inl none ∧ (True)) := by
  refine ct_of G (by decide) (Nat.le_of_ble_eq_true rfl) (fun k X E hRt hXt q => ?_)
  show WS k 0 [(0, .ref (A 179)), (1, .int (Int32.ofInt x))] [] _ 0 0
  have F : Fm [] [203] s s := fm_rf _ _ s
  have b1 := bi_90 I
  have L2 : ∀ (n : Nat) (t : PS) (xv c : Int), Bd t → Fm [] [203] s t → ((0 ≤ xv ∧ xv ≤ 23) ∧ 0 ≤ c ∧ c ≤ 12) → (12 - c : Int).toNat < n → (∀ (t' : PS) (xv' c' : Int), Bd t' → Fm [] [203] s t' → ((0 ≤ xv' ∧ xv' ≤ 23) ∧ 0 ≤ c' ∧ c' ≤ 12) → WS k 28 [(0, .ref (A 179)), (1, .int (Int32.ofInt xv')), (2, .int (Int32.ofInt c'))] [] (Wd A dT t') 0 0) → WS k 2 [(0, .ref (A 179)), (1, .int (Int32.ofInt xv)), (2, .int (Int32.ofInt c))] [] (Wd A dT t) 0 0 := by
    intro n
    induction n with
    | zero =>
      intro t xv c I F hi hm kx
      exact absurd hm (Nat.not_lt_zero _)
    | succ n ih =>
      intro t xv c I F hi hm kx
      have b1001 := bi_90 I
      refine z_load_n X (x := c) rfl (List.Mem.tail _ (List.Mem.tail _ (List.Mem.head _))) (z_aload_n X (x := A 179) rfl (List.Mem.head _) (z_getI X 179 rfl (c518_ok rfl) rfl rfl ?_))
      have b1002 := bi_90 I
      refine z_icmp_ge X (t := 28) rfl rfl ⟨by first | exact oq_fa4e5087 hi.2.1 | omega, by first | exact oq_78843a64 hi.2.2 | omega⟩ (rng_to _) (fun g1003 => ?_) (fun g1003 => ?_)
      ·
        refine WS_pq [0, 1, 2] (lv' := [(0, .ref (A 179)), (1, .int (Int32.ofInt xv)), (2, .int (Int32.ofInt c))]) rfl ?_
        exact kx _ xv c I F (by first | exact ⟨And.intro (hi.1.1) (hi.1.2), hi.2.1, hi.2.2⟩ | omega)
      ·
        refine z_aload_n X (x := A 179) rfl (List.Mem.head _) (s_getR X 179 rfl (c518_ok rfl) rfl rfl (z_load_n X (x := c) rfl (List.Mem.tail _ (List.Mem.tail _ (List.Mem.head _))) (z_aload_n X (x := A 179) rfl (List.Mem.head _) (z_load_n X (x := c) rfl (List.Mem.tail _ (List.Mem.tail _ (List.Mem.head _))) (z_load_n X (x := xv) rfl (List.Mem.tail _ (List.Mem.head _)) (zcV_i0 X E 179 (As := [.int (Int32.ofInt c), .int (Int32.ofInt xv)]) (st := [.int (Int32.ofInt c), .ref (A 229)]) rfl rfl rfl rfl (k_mostOf G I (by first | exact ⟨hi.2.1, oq_e4d7f3c5 g1003 b1002.2⟩ | omega) (by first | exact ⟨hi.1.1, hi.1.2⟩ | omega)) rfl (Nat.le_of_ble_eq_true rfl) (fun s1004 e1005 Is1004 Fs1004 hrs1004 hps1004 => ?_)))))))
        have Gs1004 := fm_tq F Fs1004 rfl rfl
        have ws1004_90 : iI s1004 90 = iI t 90 := fm_iq Fs1004 rfl
        refine z_ast X 229 rfl (c518_ok rfl) rfl (by first | exact hi.2.1 | omega) (show c < 12 by first | exact oq_f36e82a8 g1003 b1002.2 | omega) (cbig_ok rfl) (wd_gen (fun s1006 hs1006 => ?_))
        have Is1006 : Bd s1006 := eqB hs1006 (bd_C Is1004 (show (0 : Int) ≤ e1005 ∧ e1005 ≤ 50 by first | exact ⟨hps1004.1, hps1004.2⟩ | omega) hrs1004)
        have Fs1006 := eqF hs1006 (fm_C Gs1004 (inl_ok (a := 203) rfl))
        have ws1006_90 : iI s1006 90 = iI s1004 90 := eqI hs1006 rfl
        refine z_inc X (x := c) (lv' := [(2, .int (Int32.ofInt (c + 1))), (0, .ref (A 179)), (1, .int (Int32.ofInt xv))]) rfl (by decide) (List.Mem.tail _ (List.Mem.tail _ (List.Mem.head _))) (fun _ h => h) (z_goto X (t := 2) rfl rfl (WS_pq [1, 2, 0] (lv' := [(0, .ref (A 179)), (1, .int (Int32.ofInt xv)), (2, .int (Int32.ofInt (c + 1)))]) rfl ?_))
        exact ih _ xv (c + 1) Is1006 Fs1006 (by first | exact ⟨And.intro (hi.1.1) (hi.1.2), oq_54f49eb5 hi.2.1, oq_4dae995e g1003 b1002.2⟩ | omega) (by first | exact qk_me hm (by decide) (oq_b575e8c1 g1003 b1002.2) | omega) kx
  refine z_const X rfl (z_store_n X (lv' := [(2, .int (Int32.ofInt 0)), (0, .ref (A 179)), (1, .int (Int32.ofInt x))]) rfl (by decide) (fun _ h => h) (WS_pq [1, 2, 0] (lv' := [(0, .ref (A 179)), (1, .int (Int32.ofInt x)), (2, .int (Int32.ofInt 0))]) rfl (L2 ((12 - 0 : Int).toNat + 1) s x 0 I F (by first | exact ⟨And.intro (p0.1) (p0.2), by decide, by decide⟩ | omega) (Nat.lt_succ_self _) ?_)))
  intro s2 x3 x4 Is2 Fs2 hs2
  have b5 := bi_90 Is2
  exact w_vret X.1 q hRt (ax_d X (show cdA 224 28 = some (.return_, 1, 0, 0, 0) from rfl)) (Nat.zero_le _) (Nat.zero_le _) ⟨_, rfl, Is2, Fs2, rfl, trivial⟩
end M33
