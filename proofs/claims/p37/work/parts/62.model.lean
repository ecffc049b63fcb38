section
theorem oq_651c3b68 {a0 a1 : Int} (h0 : a0 < a1) (h1 : a1 ≤ 127) : a0 < 128 := by omega
theorem oq_cf4c286a {a0 a1 : Int} (h0 : a0 < a1) (h1 : a1 ≤ 127) : (a0 : Int).toNat < 128 := by omega
theorem oq_7b2bae64 {a0 a1 : Int} (h0 : a0 ≤ (a1 - 1)) (h1 : a1 ≤ 127) : (a0 + 1) ≤ 127 := by omega
theorem oq_22f29dd0 {a0 : Int} (h0 : (-1) ≤ a0) : (-2147483648) ≤ (a0 + 1) := by omega
theorem oq_3e466f4f {a0 : Int} (h0 : a0 ≤ 127) : (a0 + 1) ≤ 2147483647 := by omega
theorem oq_0dbc568f {a0 : Int} (h0 : a0 ≤ 6) (h1 : 6 ≤ a0) : a0 = 6 := by omega
theorem oq_c8d9aaec {a0 : Int} (h0 : (-1) ≤ a0) : (-2147483648) ≤ (a0 - 1) := by omega
theorem oq_cd3b4cc3 {a0 : Int} (h0 : a0 ≤ 127) : (a0 - 1) ≤ 2147483647 := by omega
theorem oq_4784b16d {a0 a1 a2 : Int} (h0 : (a0 = (-1) ∨ (0 ≤ a0 ∧ (a0 ≤ 127 ∧ a1 = (a2 - 1))))) : (-2147483648) ≤ a0 := by omega
theorem oq_fd7c26f0 {a0 a1 a2 : Int} (h0 : (a0 = (-1) ∨ (0 ≤ a0 ∧ (a0 ≤ 127 ∧ a1 = (a2 - 1))))) : a0 ≤ 2147483647 := by omega
theorem oq_3daf27ff {a0 a1 a2 : Int} (h0 : a0 = (a1 - 1)) (h1 : a2 ≠ (-1)) (h2 : a2 ≤ 127) (h3 : (-1) ≤ a2) : (a2 = (-1) ∨ (0 ≤ a2 ∧ (a2 ≤ 127 ∧ a0 = (a1 - 1)))) := by omega
theorem oq_c3bce87b {a0 a1 a2 a3 a4 : Int} (h0 : a0 < a1) (h1 : a2 = (a3 - 1)) (h2 : a0 ≠ (-1)) (h3 : (-1) ≤ a0) (h4 : (a1 = (-1) ∨ (0 ≤ a1 ∧ (a1 ≤ 127 ∧ a4 = (a3 - 1))))) : (a0 = (-1) ∨ (0 ≤ a0 ∧ (a0 ≤ 127 ∧ a2 = (a3 - 1)))) := by omega
theorem oq_beac6eee {a0 a1 a2 : Int} (h0 : a0 ≠ (-1)) (h1 : (a0 = (-1) ∨ (0 ≤ a0 ∧ (a0 ≤ 127 ∧ a1 = (a2 - 1))))) : 0 ≤ a0 := by omega
theorem oq_df3a814e {a0 a1 a2 : Int} (h0 : (a0 = (-1) ∨ (0 ≤ a0 ∧ (a0 ≤ 127 ∧ a1 = (a2 - 1))))) : a0 ≤ 127 := by omega
theorem oq_74332778 {a0 a1 : Int} (h0 : a0 = a1) (h1 : a1 ≤ 24) : a0 ≤ 24 := by omega
theorem oq_808850b7 {a0 a1 a2 : Int} (h0 : a0 = a1) (h1 : a2 < a1) : (a2 + 1) ≤ a0 := by omega
theorem oq_6c1c98ad  : (0 : Int).toNat < 24 := by omega
theorem oq_4554f0f1 {a0 : Int} (h0 : (-1) ≤ a0) : 0 ≤ (a0 + 1) := by omega
theorem oq_9835d0b6 {a0 a1 a2 : Int} (h0 : a0 = a1) (h1 : a1 = (a2 + 1)) (h2 : (-1) ≤ a2) (h3 : a2 ≠ (-1)) : 1 ≤ a0 := by omega
theorem oq_a57391d3 {a0 a1 a2 : Int} (h0 : a0 = a1) (h1 : a1 = (a2 + 1)) (h2 : a2 ≤ 23) : a0 ≤ 24 := by omega
/-! The model: one way round -/
def FBx (n : Int) (t : PS) : Prop := FB t n
theorem FBx_fm {L M : List Nat} {s t : PS} {n : Int} (F : Fm L M s t) (h : 404 ∉ M ∧ 399 ∉ M ∧ 232 ∉ M) (r : FBx n s) : FBx n t := FB_fm F h r
section M62
variable {l : Launch} {s0 : State} {D : va_G} {tys : List (ClassId × FieldType)} {a0 : Array Value} {A : Nat → Nat} {dT : Nat → ClassId} {s : PS}
set_option maxRecDepth 4000 in
theorem p_beside (G : GX l s0 D tys a0 dT) (I : Bd s) {x y : Int} (p0 : 0 ≤ x ∧ x ≤ 127) (p1 : 0 ≤ y ∧ y ≤ 5) : CT l s0 D A dT 190 (rmN 190) [.int (Int32.ofInt x), .int (Int32.ofInt y)] s (fun o t => s = t ∧ ∃ e, o = .inl (some (.int (Int32.ofInt e))) ∧ rng e ∧ (((y = 0 ∧ ((x % 8 = 7 ∧ e = -1) ∨ (¬ x % 8 = 7 ∧ e = x + 1))) ∨ (y = 1 ∧ ((x % 8 = 0 ∧ e = -1) ∨ (¬ x % 8 = 0 ∧ e = x - 1))) ∨ (y = 2 ∧ ((x / 8 % 8 = 7 ∧ e = -1) ∨ (¬ x / 8 % 8 = 7 ∧ e = x + 8))) ∨ (y = 3 ∧ ((x / 8 % 8 = 0 ∧ e = -1) ∨ (¬ x / 8 % 8 = 0 ∧ e = x - 8))) ∨ (y = 4 ∧ ((x / 64 = 1 ∧ e = -1) ∨ (¬ x / 64 = 1 ∧ e = x + 64))) ∨ (y = 5 ∧ ((x / 64 = 0 ∧ e = -1) ∨ (¬ x / 64 = 0 ∧ e = x - 64)))) ∧ -1 ≤ e ∧ e ≤ 127)) := by
  refine ct_of G (by decide) (Nat.le_of_ble_eq_true rfl) (fun k X E hRt hXt q => ?_)
  show WS k 0 [(0, .int (Int32.ofInt x)), (1, .int (Int32.ofInt y))] [] _ 0 0
  have F : Fm [] [] s s := fm_rf _ _ s
  refine z_load_n X (x := x) rfl (List.Mem.head _) (z_bipush X rfl (z_mod X rfl (by first | exact p0.1 | omega) ⟨by first | exact oq_fa4e5087 p0.1 | omega, by first | exact oq_07d346ce p0.2 | omega⟩ (by decide) (by decide) (z_store_n X (lv' := [(2, .int (Int32.ofInt (x % 8))), (0, .int (Int32.ofInt x)), (1, .int (Int32.ofInt y))]) rfl (by decide) (fun _ h => h) (z_load_n X (x := x) rfl (List.Mem.tail _ (List.Mem.head _)) (z_bipush X rfl (z_quot X rfl (by first | exact p0.1 | omega) ⟨by first | exact oq_fa4e5087 p0.1 | omega, by first | exact oq_07d346ce p0.2 | omega⟩ (by decide) (by decide) (z_bipush X rfl (z_mod X rfl (by first | exact oq_064ec12a p0.1 | omega) ⟨by first | exact oq_e9761868 p0.1 | omega, by first | exact oq_9e7a8b87 p0.2 | omega⟩ (by decide) (by decide) (z_store_n X (lv' := [(3, .int (Int32.ofInt ((x / 8) % 8))), (2, .int (Int32.ofInt (x % 8))), (0, .int (Int32.ofInt x)), (1, .int (Int32.ofInt y))]) rfl (by decide) (fun _ h => h) (z_load_n X (x := x) rfl (List.Mem.tail _ (List.Mem.tail _ (List.Mem.head _))) (z_bipush X rfl ?_)))))))))))
  refine z_quot X rfl (by first | exact p0.1 | omega) ⟨by first | exact oq_fa4e5087 p0.1 | omega, by first | exact oq_07d346ce p0.2 | omega⟩ (by decide) (by decide) (z_store X (lv' := [(4, .int (Int32.ofInt (x / 64))), (3, .int (Int32.ofInt ((x / 8) % 8))), (2, .int (Int32.ofInt (x % 8))), (0, .int (Int32.ofInt x)), (1, .int (Int32.ofInt y))]) rfl (by decide) (fun _ h => h) (z_load_n X (x := y) rfl (List.Mem.tail _ (List.Mem.tail _ (List.Mem.tail _ (List.Mem.tail _ (List.Mem.head _))))) ?_))
  rcases (show y = 0 ∨ y = 1 ∨ y = 2 ∨ y = 3 ∨ y = 4 ∨ y = 5 by omega) with gs | gs | gs | gs | gs | gs
  ·
    rw [gs]
    refine w_tabIn X.1 (dflt := 105) (lo := 0) (hi := 4) (offs := #[36, 50, 62, 77, 90]) (len := 36) (off := 36) (t := 56) (ax_d X (show cdA 190 20 = some (.tableswitch 105 0 4 #[36, 50, 62, 77, 90], 36, 0, 0, 0) from rfl)) (by decide) (by decide) (by decide) (by decide) (z_load_n X (x := (x % 8)) rfl (List.Mem.tail _ (List.Mem.tail _ (List.Mem.head _))) (z_bipush X rfl ?_))
    have N1 : ∀ e2 : Int, ((((x % 8) ≠ 7) ∧ e2 = (x + 1)) ∨ (((x % 8) = 7) ∧ e2 = (-1))) → WS k 69 [(4, .int (Int32.ofInt (x / 64))), (3, .int (Int32.ofInt ((x / 8) % 8))), (2, .int (Int32.ofInt (x % 8))), (0, .int (Int32.ofInt x)), (1, .int (Int32.ofInt 0))] [.int (Int32.ofInt e2)] (Wd A dT s) 0 0 := by
      intro e2 he2
      exact w_iret X.1 q hRt rfl (ax_d X (show cdA 190 69 = some (.ireturn, 1, 0, 0, 0) from rfl)) (Nat.zero_le _) (Nat.zero_le _) ⟨_, rfl, rfl, e2, rfl, ⟨by first | exact oq_65317318 he2 p0.1 | omega, by first | exact oq_2ebfdaed he2 p0.2 | omega⟩, ⟨Or.inl ⟨gs, by first | exact oq_3fb6b19c he2 | omega⟩, by first | exact oq_bb285237 he2 p0.1 | omega, by first | (clear he2; omega) | omega⟩⟩
    refine z_icmp_ne X (t := 66) rfl rfl ⟨by first | exact oq_e86162eb | omega, by first | exact oq_70086759 | omega⟩ (by decide) (fun g3 => ?_) (fun g3 => ?_)
    ·
      exact z_load_n X (x := x) rfl (List.Mem.tail _ (List.Mem.tail _ (List.Mem.tail _ (List.Mem.head _)))) (z_const X rfl (z_add X rfl (N1 _ (Or.inl ⟨g3, rfl⟩))))
    ·
      exact z_const X rfl (z_goto X (t := 69) rfl rfl (N1 _ (Or.inr (⟨g3, rfl⟩))))
  ·
    rw [gs]
    refine w_tabIn X.1 (dflt := 105) (lo := 0) (hi := 4) (offs := #[36, 50, 62, 77, 90]) (len := 36) (off := 50) (t := 70) (ax_d X (show cdA 190 20 = some (.tableswitch 105 0 4 #[36, 50, 62, 77, 90], 36, 0, 0, 0) from rfl)) (by decide) (by decide) (by decide) (by decide) (z_load_n X (x := (x % 8)) rfl (List.Mem.tail _ (List.Mem.tail _ (List.Mem.head _))) ?_)
    have N4 : ∀ e5 : Int, ((((x % 8) ≠ 0) ∧ e5 = (x - 1)) ∨ (((x % 8) = 0) ∧ e5 = (-1))) → WS k 81 [(4, .int (Int32.ofInt (x / 64))), (3, .int (Int32.ofInt ((x / 8) % 8))), (2, .int (Int32.ofInt (x % 8))), (0, .int (Int32.ofInt x)), (1, .int (Int32.ofInt 1))] [.int (Int32.ofInt e5)] (Wd A dT s) 0 0 := by
      intro e5 he5
      exact w_iret X.1 q hRt rfl (ax_d X (show cdA 190 81 = some (.ireturn, 1, 0, 0, 0) from rfl)) (Nat.zero_le _) (Nat.zero_le _) ⟨_, rfl, rfl, e5, rfl, ⟨by first | exact oq_df67f89d he5 p0.1 | omega, by first | exact oq_7f998bdb he5 p0.2 | omega⟩, ⟨Or.inr (Or.inl ⟨gs, by first | exact oq_5b6a57a1 he5 | omega⟩), by first | exact oq_53d086ff he5 p0.1 | omega, by first | exact oq_162ebe1b he5 p0.2 | omega⟩⟩
    refine z_if_ne X (t := 78) rfl rfl ⟨by first | exact oq_e86162eb | omega, by first | exact oq_70086759 | omega⟩ (fun g6 => ?_) (fun g6 => ?_)
    ·
      exact z_load_n X (x := x) rfl (List.Mem.tail _ (List.Mem.tail _ (List.Mem.tail _ (List.Mem.head _)))) (z_const X rfl (z_sub X rfl (N4 _ (Or.inl ⟨g6, rfl⟩))))
    ·
      exact z_const X rfl (z_goto X (t := 81) rfl rfl (N4 _ (Or.inr (⟨g6, rfl⟩))))
  ·
    rw [gs]
    refine w_tabIn X.1 (dflt := 105) (lo := 0) (hi := 4) (offs := #[36, 50, 62, 77, 90]) (len := 36) (off := 62) (t := 82) (ax_d X (show cdA 190 20 = some (.tableswitch 105 0 4 #[36, 50, 62, 77, 90], 36, 0, 0, 0) from rfl)) (by decide) (by decide) (by decide) (by decide) (z_load_n X (x := ((x / 8) % 8)) rfl (List.Mem.tail _ (List.Mem.head _)) (z_bipush X rfl ?_))
    have N7 : ∀ e8 : Int, (((((x / 8) % 8) ≠ 7) ∧ e8 = (x + 8)) ∨ ((((x / 8) % 8) = 7) ∧ e8 = (-1))) → WS k 96 [(4, .int (Int32.ofInt (x / 64))), (3, .int (Int32.ofInt ((x / 8) % 8))), (2, .int (Int32.ofInt (x % 8))), (0, .int (Int32.ofInt x)), (1, .int (Int32.ofInt 2))] [.int (Int32.ofInt e8)] (Wd A dT s) 0 0 := by
      intro e8 he8
      exact w_iret X.1 q hRt rfl (ax_d X (show cdA 190 96 = some (.ireturn, 1, 0, 0, 0) from rfl)) (Nat.zero_le _) (Nat.zero_le _) ⟨_, rfl, rfl, e8, rfl, ⟨by first | exact oq_3827edd4 he8 p0.1 | omega, by first | exact oq_5c62bb30 he8 p0.2 | omega⟩, ⟨Or.inr (Or.inr (Or.inl ⟨gs, by first | exact oq_aef22ce3 he8 | omega⟩)), by first | exact oq_595830be he8 p0.1 | omega, by first | (clear he8; omega) | omega⟩⟩
    refine z_icmp_ne X (t := 92) rfl rfl ⟨by first | exact oq_452e8fda | omega, by first | exact oq_267eaf70 | omega⟩ (by decide) (fun g9 => ?_) (fun g9 => ?_)
    ·
      exact z_load_n X (x := x) rfl (List.Mem.tail _ (List.Mem.tail _ (List.Mem.tail _ (List.Mem.head _)))) (z_bipush X rfl (z_add X rfl (N7 _ (Or.inl ⟨g9, rfl⟩))))
    ·
      exact z_const X rfl (z_goto X (t := 96) rfl rfl (N7 _ (Or.inr (⟨g9, rfl⟩))))
  ·
    rw [gs]
    refine w_tabIn X.1 (dflt := 105) (lo := 0) (hi := 4) (offs := #[36, 50, 62, 77, 90]) (len := 36) (off := 77) (t := 97) (ax_d X (show cdA 190 20 = some (.tableswitch 105 0 4 #[36, 50, 62, 77, 90], 36, 0, 0, 0) from rfl)) (by decide) (by decide) (by decide) (by decide) (z_load_n X (x := ((x / 8) % 8)) rfl (List.Mem.tail _ (List.Mem.head _)) ?_)
    have N10 : ∀ e11 : Int, (((((x / 8) % 8) ≠ 0) ∧ e11 = (x - 8)) ∨ ((((x / 8) % 8) = 0) ∧ e11 = (-1))) → WS k 109 [(4, .int (Int32.ofInt (x / 64))), (3, .int (Int32.ofInt ((x / 8) % 8))), (2, .int (Int32.ofInt (x % 8))), (0, .int (Int32.ofInt x)), (1, .int (Int32.ofInt 3))] [.int (Int32.ofInt e11)] (Wd A dT s) 0 0 := by
      intro e11 he11
      exact w_iret X.1 q hRt rfl (ax_d X (show cdA 190 109 = some (.ireturn, 1, 0, 0, 0) from rfl)) (Nat.zero_le _) (Nat.zero_le _) ⟨_, rfl, rfl, e11, rfl, ⟨by first | exact oq_53853fa1 he11 p0.1 | omega, by first | exact oq_82f5c072 he11 p0.2 | omega⟩, ⟨Or.inr (Or.inr (Or.inr (Or.inl ⟨gs, by first | exact oq_a05c7f98 he11 | omega⟩))), by first | (clear he11; omega) | omega, by first | exact oq_c6958ea2 he11 p0.2 | omega⟩⟩
    refine z_if_ne X (t := 105) rfl rfl ⟨by first | exact oq_452e8fda | omega, by first | exact oq_267eaf70 | omega⟩ (fun g12 => ?_) (fun g12 => ?_)
    ·
      exact z_load_n X (x := x) rfl (List.Mem.tail _ (List.Mem.tail _ (List.Mem.tail _ (List.Mem.head _)))) (z_bipush X rfl (z_sub X rfl (N10 _ (Or.inl ⟨g12, rfl⟩))))
    ·
      exact z_const X rfl (z_goto X (t := 109) rfl rfl (N10 _ (Or.inr (⟨g12, rfl⟩))))
  ·
    rw [gs]
    refine w_tabIn X.1 (dflt := 105) (lo := 0) (hi := 4) (offs := #[36, 50, 62, 77, 90]) (len := 36) (off := 90) (t := 110) (ax_d X (show cdA 190 20 = some (.tableswitch 105 0 4 #[36, 50, 62, 77, 90], 36, 0, 0, 0) from rfl)) (by decide) (by decide) (by decide) (by decide) (z_load X (x := (x / 64)) rfl (List.Mem.head _) (z_const X rfl ?_))
    have N13 : ∀ e14 : Int, ((((x / 64) ≠ 1) ∧ e14 = (x + 64)) ∨ (((x / 64) = 1) ∧ e14 = (-1))) → WS k 124 [(4, .int (Int32.ofInt (x / 64))), (3, .int (Int32.ofInt ((x / 8) % 8))), (2, .int (Int32.ofInt (x % 8))), (0, .int (Int32.ofInt x)), (1, .int (Int32.ofInt 4))] [.int (Int32.ofInt e14)] (Wd A dT s) 0 0 := by
      intro e14 he14
      exact w_iret X.1 q hRt rfl (ax_d X (show cdA 190 124 = some (.ireturn, 1, 0, 0, 0) from rfl)) (Nat.zero_le _) (Nat.zero_le _) ⟨_, rfl, rfl, e14, rfl, ⟨by first | exact oq_dec29307 he14 p0.1 | omega, by first | exact oq_dc234b30 he14 p0.2 | omega⟩, ⟨Or.inr (Or.inr (Or.inr (Or.inr (Or.inl ⟨gs, by first | exact oq_53fad64c he14 | omega⟩)))), by first | exact oq_ef6a2c96 he14 p0.1 | omega, by first | exact oq_3dcb4c51 he14 p0.2 | omega⟩⟩
    refine z_icmp_ne X (t := 120) rfl rfl ⟨by first | exact oq_e5b8e207 p0.1 | omega, by first | exact oq_874c0b28 p0.2 | omega⟩ (by decide) (fun g15 => ?_) (fun g15 => ?_)
    ·
      exact z_load_n X (x := x) rfl (List.Mem.tail _ (List.Mem.tail _ (List.Mem.tail _ (List.Mem.head _)))) (z_bipush X rfl (z_add X rfl (N13 _ (Or.inl ⟨g15, rfl⟩))))
    ·
      exact z_const X rfl (z_goto X (t := 124) rfl rfl (N13 _ (Or.inr (⟨g15, rfl⟩))))
  ·
    rw [gs]
    refine w_tabOut X.1 (dflt := 105) (lo := 0) (hi := 4) (offs := #[36, 50, 62, 77, 90]) (len := 36) (t := 125) (ax_d X (show cdA 190 20 = some (.tableswitch 105 0 4 #[36, 50, 62, 77, 90], 36, 0, 0, 0) from rfl)) (by decide) (by decide) (z_load X (x := (x / 64)) rfl (List.Mem.head _) ?_)
    have N16 : ∀ e17 : Int, ((((x / 64) ≠ 0) ∧ e17 = (x - 64)) ∨ (((x / 64) = 0) ∧ e17 = (-1))) → WS k 138 [(4, .int (Int32.ofInt (x / 64))), (3, .int (Int32.ofInt ((x / 8) % 8))), (2, .int (Int32.ofInt (x % 8))), (0, .int (Int32.ofInt x)), (1, .int (Int32.ofInt 5))] [.int (Int32.ofInt e17)] (Wd A dT s) 0 0 := by
      intro e17 he17
      exact w_iret X.1 q hRt rfl (ax_d X (show cdA 190 138 = some (.ireturn, 1, 0, 0, 0) from rfl)) (Nat.zero_le _) (Nat.zero_le _) ⟨_, rfl, rfl, e17, rfl, ⟨by first | exact oq_4c7d79ae he17 p0.1 | omega, by first | exact oq_47817d89 he17 p0.2 | omega⟩, ⟨Or.inr (Or.inr (Or.inr (Or.inr (Or.inr (⟨gs, by first | exact oq_ea0e1764 he17 p0.1 | omega⟩))))), by first | exact oq_7252d58d he17 p0.1 | omega, by first | exact oq_3527817e he17 p0.2 | omega⟩⟩
    refine z_if_ne X (t := 134) rfl rfl ⟨by first | exact oq_e5b8e207 p0.1 | omega, by first | exact oq_874c0b28 p0.2 | omega⟩ (fun g18 => ?_) (fun g18 => ?_)
    ·
      exact z_load_n X (x := x) rfl (List.Mem.tail _ (List.Mem.tail _ (List.Mem.tail _ (List.Mem.head _)))) (z_bipush X rfl (z_sub X rfl (N16 _ (Or.inl ⟨g18, rfl⟩))))
    ·
      exact z_const X rfl (z_goto X (t := 138) rfl rfl (N16 _ (Or.inr (⟨g18, rfl⟩))))
end M62
end
section
theorem oq_86ef0b17 {a0 a1 : Int} (h0 : a0 = a1) (h1 : a1 ≤ 8) : a0 ≤ 8 := by omega
theorem oq_d7ce4408 {a0 a1 a2 : Int} (h0 : a0 = a1) (h1 : a1 = a2) (h2 : a2 ≤ 8) : a0 ≤ 8 := by omega
/-! The model: storms mended -/
section M63
variable {l : Launch} {s0 : State} {D : va_G} {tys : List (ClassId × FieldType)} {a0 : Array Value} {A : Nat → Nat} {dT : Nat → ClassId} {s : PS}
end M63
end
