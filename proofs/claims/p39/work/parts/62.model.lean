section

theorem oq_651c3b68 {a0 a1 : Int} (h0 : a0 < a1) (h1 : a1 ≤ 127) : a0 < 128 := by omega
theorem oq_cf4c286a {a0 a1 : Int} (h0 : a0 < a1) (h1 : a1 ≤ 127) : (a0 : Int).toNat < 128 := by omega
theorem oq_7b2bae64 {a0 a1 : Int} (h0 : a0 ≤ (a1 - 1)) (h1 : a1 ≤ 127) : (a0 + 1) ≤ 127 := by omega
theorem oq_22f29dd0 {a0 : Int} (h0 : (-1) ≤ a0) : (-2147483648) ≤ (a0 + 1) := by omega
theorem oq_3e466f4f {a0 : Int} (h0 : a0 ≤ 127) : (a0 + 1) ≤ 2147483647 := by omega
theorem oq_0dbc568f {a0 : Int} (h0 : a0 ≤ 6) (h1 : 6 ≤ a0) : a0 = 6 := by omega
theorem oq_c8d9aaec {a0 : Int} (h0 : (-1) ≤ a0) : (-2147483648) ≤ (a0 - 1) := by omega
theorem oq_cd3b4cc3 {a0 : Int} (h0 : a0 ≤ 127) : (a0 - 1) ≤ 2147483647 := by omega
theorem oq_4784b16d {a0 a1 a2 : Int} (h0 : (a0 = (-1) ∨ (0 ≤ a0 ∧ (a0 ≤ 127 ∧ a1 = (a2 - 1))))) : (-2147483648) ≤ a0 := by omega
theorem oq_fd7c26f0 {a0 a1 a2 : Int} (h0 : (a0 = (-1) ∨ (0 ≤ a0 ∧ (a0 ≤ 127 ∧ a1 = (a2 - 1))))) : a0 ≤ 2147483647 := by omega
theorem oq_3daf27ff {a0 a1 a2 : Int} (h0 : a0 = (a1 - 1)) (h1 : a2 ≠ (-1)) (h2 : a2 ≤ 127) (h3 : (-1) ≤ a2) : (a2 = (-1) ∨ (0 ≤ a2 ∧ (a2 ≤ 127 ∧ a0 = (a1 - 1)))) := by omega
theorem oq_c3bce87b {a0 a1 a2 a3 a4 : Int} (h0 : a0 < a1) (h1 : a2 = (a3 - 1)) (h2 : a0 ≠ (-1)) (h3 : (-1) ≤ a0) (h4 : (a1 = (-1) ∨ (0 ≤ a1 ∧ (a1 ≤ 127 ∧ a4 = (a3 - 1))))) : (a0 = (-1) ∨ (0 ≤ a0 ∧ (a0 ≤ 127 ∧ a2 = (a3 - 1)))) := by omega
theorem oq_beac6eee {a0 a1 a2 : Int} (h0 : a0 ≠ (-1)) (h1 : (a0 = (-1) ∨ (0 ≤ a0 ∧ (a0 ≤ 127 ∧ a1 = (a2 - 1))))) : 0 ≤ a0 := by omega
theorem oq_df3a814e {a0 a1 a2 : Int} (h0 : (a0 = (-1) ∨ (0 ≤ a0 ∧ (a0 ≤ 127 ∧ a1 = (a2 - 1))))) : a0 ≤ 127 := by omega
theorem oq_74332778 {a0 a1 : Int} (h0 : a0 = a1) (h1 : a1 ≤ 24) : a0 ≤ 24 := by omega
theorem oq_808850b7 {a0 a1 a2 : Int} (h0 : a0 = a1) (h1 : a2 < a1) : (a2 + 1) ≤ a0 := by omega
theorem oq_6c1c98ad  : (0 : Int).toNat < 24 := by omega
theorem oq_4554f0f1 {a0 : Int} (h0 : (-1) ≤ a0) : 0 ≤ (a0 + 1) := by omega
theorem oq_9835d0b6 {a0 a1 a2 : Int} (h0 : a0 = a1) (h1 : a1 = (a2 + 1)) (h2 : (-1) ≤ a2) (h3 : a2 ≠ (-1)) : 1 ≤ a0 := by omega
theorem oq_a57391d3 {a0 a1 a2 : Int} (h0 : a0 = a1) (h1 : a1 = (a2 + 1)) (h2 : a2 ≤ 23) : a0 ≤ 24 := by omega
/-! The model: one way round -/
def FBx (n : Int) (t : PS) : Prop := FB t n
theorem FBx_fm {L M : List Nat} {s t : PS} {n : Int} (F : Fm L M s t) (h : 404 ∉ M ∧ 399 ∉ M ∧ 232 ∉ M) (r : FBx n s) : FBx n t := FB_fm F h r
/-- no step below this one leads nearer -/
def QB (be p stp : Int) (t : PS) : Prop := be = -1 → ∀ y : Int, 0 ≤ y → y < stp → ∀ d : Int, 0 ≤ d → BS p y d → iC t 399 (d : Int).toNat = 0 → iC t 404 (d : Int).toNat ≠ iC t 404 (p : Int).toNat - 1
section M62
variable {l : Launch} {s0 : State} {D : va_G} {tys : List (ClassId × FieldType)} {a0 : Array Value} {A : Nat → Nat} {dT : Nat → ClassId} {s : PS}
set_option maxRecDepth 4000 in
theorem p_beside (G : GX l s0 D tys a0 dT) (I : Bd s) {x y : Int} (p0 : 0 ≤ x ∧ x ≤ 127) (p1 : 0 ≤ y ∧ y ≤ 5) : CT l s0 D A dT 190 (rmN 190) [.int (Int32.ofInt x), .int (Int32.ofInt y)] s (fun o t => s = t ∧ ∃ e, o = .inl (some (.int (Int32.ofInt e))) ∧ rng e ∧ (((y = 0 ∧ ((x % 8 = 7 ∧ e = -1) ∨ (¬ x % 8 = 7 ∧ e = x + 1))) ∨ (y = 1 ∧ ((x % 8 = 0 ∧ e = -1) ∨ (¬ x % 8 = 0 ∧ e = x - 1))) ∨ (y = 2 ∧ ((x / 8 % 8 = 7 ∧ e = -1) ∨ (¬ x / 8 % 8 = 7 ∧ e = x + 8))) ∨ (y = 3 ∧ ((x / 8 % 8 = 0 ∧ e = -1) ∨ (¬ x / 8 % 8 = 0 ∧ e = x - 8))) ∨ (y = 4 ∧ ((x / 64 = 1 ∧ e = -1) ∨ (¬ x / 64 = 1 ∧ e = x + 64))) ∨ (y = 5 ∧ ((x / 64 = 0 ∧ e = -1) ∨ (¬ x / 64 = 0 ∧ e = x - 64)))) ∧ -1 ≤ e ∧ e ≤ 127)) := by
  refine ct_of G (by decide) (Nat.le_of_ble_eq_true rfl) (fun k X E hRt hXt q => ?_)
  show WS k 0 [(0, .int (Int32.ofInt x)), (1, .int (Int32.ofInt y))] [] _ 0 0
  have F : Fm [] [] s s := fm_rf _ _ s
  refine z_load_n X (x := x) rfl (List.Mem.head _) (z_bipush X rfl (z_mod X rfl (by first | exact p0.1 | omega) ⟨by first | exact oq_fa4e5087 p0.1 | omega, by first | exact oq_07d346ce p0.2 | omega⟩ (by decide) (by decide) (z_store_n X (lv' := [(2, .int (Int32.ofInt (x % 8))), (0, .int (Int32.ofInt x)), (1, .int (Int32.ofInt y))]) rfl (by decide) (fun _ h => h) (z_load_n X (x := x) rfl (List.Mem.tail _ (List.Mem.head _)) (z_bipush X rfl (z_quot X rfl (by first | exact p0.1 | omega) ⟨by first | exact oq_fa4e5087 p0.1 | omega, by first | exact oq_07d346ce p0.2 | omega⟩ (by decide) (by decide) (z_bipush X rfl (z_mod X rfl (by first | exact oq_064ec12a p0.1 | omega) ⟨by first | exact oq_e9761868 p0.1 | omega, by first | exact oq_9e7a8b87 p0.2 | omega⟩ (by decide) (by decide) (z_store_n X (lv' := [(3, .int (Int32.ofInt ((x / 8) % 8))), (2, .int (Int32.ofInt (x % 8))), (0, .int (Int32.ofInt x)), (1, .int (Int32.ofInt y))]) rfl (by decide) (fun _ h => h) (z_load_n X (x := x) rfl (List.Mem.tail _ (List.Mem.tail _ (List.Mem.head _))) (z_bipush X rfl ?_)))))))))))
  refine z_quot X rfl (by first | exact p0.1 | omega) ⟨by first | exact oq_fa4e5087 p0.1 | omega, by first | exact oq_07d346ce p0.2 | omega⟩ (by decide) (by decide) (z_store X (lv' := [(4, .int (Int32.ofInt (x / 64))), (3, .int (Int32.ofInt ((x / 8) % 8))), (2, .int (Int32.ofInt (x % 8))), (0, .int (Int32.ofInt x)), (1, .int (Int32.ofInt y))]) rfl (by decide) (fun _ h => h) (z_load_n X (x := y) rfl (List.Mem.tail _ (List.Mem.tail _ (List.Mem.tail _ (List.Mem.tail _ (List.Mem.head _))))) ?_))
  rcases (show y = 0 ∨ y = 1 ∨ y = 2 ∨ y = 3 ∨ y = 4 ∨ y = 5 by omega) with gs | gs | gs | gs | gs | gs
  ·
    rw [gs]
    refine w_tabIn X.1 (dflt := 105) (lo := 0) (hi := 4) (offs := #[36, 50, 62, 77, 90]) (len := 36) (off := 36) (t := 56) (ax_d X (show cdA 190 20 = some (.tableswitch 105 0 4 #[36, 50, 62, 77, 90], 36, 0, 0, 0) from rfl)) (by decide) (by decide) (by decide) (by decide) (z_load_n X (x := (x % 8)) rfl (List.Mem.tail _ (List.Mem.tail _ (List.Mem.head _))) (z_bipush X rfl ?_))
    have N1 : ∀ e2 : Int, ((((x % 8) ≠ 7) ∧ e2 = (x + 1)) ∨ (((x % 8) = 7) ∧ e2 = (-1))) → WS k 69 [(4, .int (Int32.ofInt (x / 64))), (3, .int (Int32.ofInt ((x / 8) % 8))), (2, .int (Int32.ofInt (x % 8))), (0, .int (Int32.ofInt x)), (1, .int (Int32.ofInt 0))] [.int (Int32.ofInt e2)] (Wd A dT s) 0 0 := by
      intro e2 he2
      exact w_iret X.1 q hRt rfl (ax_d X (show cdA 190 69 = some (.ireturn, 1, 0, 0, 0) from rfl)) (Nat.zero_le _) (Nat.zero_le _) ⟨_, rfl, rfl, e2, rfl, ⟨by first | exact oq_65317318 he2 p0.1 | omega, by first | exact oq_2ebfdaed he2 p0.2 | omega⟩, ⟨Or.inl ⟨gs, by first | exact oq_3fb6b19c he2 | omega⟩, by first | exact oq_bb285237 he2 p0.1 | omega, by first | (clear he2; omega) | omega⟩⟩
    refine z_icmp_ne X (t := 66) rfl rfl ⟨by first | exact oq_e86162eb | omega, by first | exact oq_70086759 | omega⟩ (by decide) (fun g3 => ?_) (fun g3 => ?_)
    ·
      exact z_load_n X (x := x) rfl (List.Mem.tail _ (List.Mem.tail _ (List.Mem.tail _ (List.Mem.head _)))) (z_const X rfl (z_add X rfl (N1 _ (Or.inl ⟨g3, rfl⟩))))
    ·
      exact z_const X rfl (z_goto X (t := 69) rfl rfl (N1 _ (Or.inr (⟨g3, rfl⟩))))
  ·
    rw [gs]
    refine w_tabIn X.1 (dflt := 105) (lo := 0) (hi := 4) (offs := #[36, 50, 62, 77, 90]) (len := 36) (off := 50) (t := 70) (ax_d X (show cdA 190 20 = some (.tableswitch 105 0 4 #[36, 50, 62, 77, 90], 36, 0, 0, 0) from rfl)) (by decide) (by decide) (by decide) (by decide) (z_load_n X (x := (x % 8)) rfl (List.Mem.tail _ (List.Mem.tail _ (List.Mem.head _))) ?_)
    have N4 : ∀ e5 : Int, ((((x % 8) ≠ 0) ∧ e5 = (x - 1)) ∨ (((x % 8) = 0) ∧ e5 = (-1))) → WS k 81 [(4, .int (Int32.ofInt (x / 64))), (3, .int (Int32.ofInt ((x / 8) % 8))), (2, .int (Int32.ofInt (x % 8))), (0, .int (Int32.ofInt x)), (1, .int (Int32.ofInt 1))] [.int (Int32.ofInt e5)] (Wd A dT s) 0 0 := by
      intro e5 he5
      exact w_iret X.1 q hRt rfl (ax_d X (show cdA 190 81 = some (.ireturn, 1, 0, 0, 0) from rfl)) (Nat.zero_le _) (Nat.zero_le _) ⟨_, rfl, rfl, e5, rfl, ⟨by first | exact oq_df67f89d he5 p0.1 | omega, by first | exact oq_7f998bdb he5 p0.2 | omega⟩, ⟨Or.inr (Or.inl ⟨gs, by first | exact oq_5b6a57a1 he5 | omega⟩), by first | exact oq_53d086ff he5 p0.1 | omega, by first | exact oq_162ebe1b he5 p0.2 | omega⟩⟩
    refine z_if_ne X (t := 78) rfl rfl ⟨by first | exact oq_e86162eb | omega, by first | exact oq_70086759 | omega⟩ (fun g6 => ?_) (fun g6 => ?_)
    ·
      exact z_load_n X (x := x) rfl (List.Mem.tail _ (List.Mem.tail _ (List.Mem.tail _ (List.Mem.head _)))) (z_const X rfl (z_sub X rfl (N4 _ (Or.inl ⟨g6, rfl⟩))))
    ·
      exact z_const X rfl (z_goto X (t := 81) rfl rfl (N4 _ (Or.inr (⟨g6, rfl⟩))))
  ·
    rw [gs]
    refine w_tabIn X.1 (dflt := 105) (lo := 0) (hi := 4) (offs := #[36, 50, 62, 77, 90]) (len := 36) (off := 62) (t := 82) (ax_d X (show cdA 190 20 = some (.tableswitch 105 0 4 #[36, 50, 62, 77, 90], 36, 0, 0, 0) from rfl)) (by decide) (by decide) (by decide) (by decide) (z_load_n X (x := ((x / 8) % 8)) rfl (List.Mem.tail _ (List.Mem.head _)) (z_bipush X rfl ?_))
    have N7 : ∀ e8 : Int, (((((x / 8) % 8) ≠ 7) ∧ e8 = (x + 8)) ∨ ((((x / 8) % 8) = 7) ∧ e8 = (-1))) → WS k 96 [(4, .int (Int32.ofInt (x / 64))), (3, .int (Int32.ofInt ((x / 8) % 8))), (2, .int (Int32.ofInt (x % 8))), (0, .int (Int32.ofInt x)), (1, .int (Int32.ofInt 2))] [.int (Int32.ofInt e8)] (Wd A dT s) 0 0 := by
      intro e8 he8
      exact w_iret X.1 q hRt rfl (ax_d X (show cdA 190 96 = some (.ireturn, 1, 0, 0, 0) from rfl)) (Nat.zero_le _) (Nat.zero_le _) ⟨_, rfl, rfl, e8, rfl, ⟨by first | exact oq_3827edd4 he8 p0.1 | omega, by first | exact oq_5c62bb30 he8 p0.2 | omega⟩, ⟨Or.inr (Or.inr (Or.inl ⟨gs, by first | exact oq_aef22ce3 he8 | omega⟩)), by first | exact oq_595830be he8 p0.1 | omega, by first | (clear he8; omega) | omega⟩⟩
    refine z_icmp_ne X (t := 92) rfl rfl ⟨by first | exact oq_452e8fda | omega, by first | exact oq_267eaf70 | omega⟩ (by decide) (fun g9 => ?_) (fun g9 => ?_)
    ·
      exact z_load_n X (x := x) rfl (List.Mem.tail _ (List.Mem.tail _ (List.Mem.tail _ (List.Mem.head _)))) (z_bipush X rfl (z_add X rfl (N7 _ (Or.inl ⟨g9, rfl⟩))))
    ·
      exact z_const X rfl (z_goto X (t := 96) rfl rfl (N7 _ (Or.inr (⟨g9, rfl⟩))))
  ·
    rw [gs]
    refine w_tabIn X.1 (dflt := 105) (lo := 0) (hi := 4) (offs := #[36, 50, 62, 77, 90]) (len := 36) (off := 77) (t := 97) (ax_d X (show cdA 190 20 = some (.tableswitch 105 0 4 #[36, 50, 62, 77, 90], 36, 0, 0, 0) from rfl)) (by decide) (by decide) (by decide) (by decide) (z_load_n X (x := ((x / 8) % 8)) rfl (List.Mem.tail _ (List.Mem.head _)) ?_)
    have N10 : ∀ e11 : Int, (((((x / 8) % 8) ≠ 0) ∧ e11 = (x - 8)) ∨ ((((x / 8) % 8) = 0) ∧ e11 = (-1))) → WS k 109 [(4, .int (Int32.ofInt (x / 64))), (3, .int (Int32.ofInt ((x / 8) % 8))), (2, .int (Int32.ofInt (x % 8))), (0, .int (Int32.ofInt x)), (1, .int (Int32.ofInt 3))] [.int (Int32.ofInt e11)] (Wd A dT s) 0 0 := by
      intro e11 he11
      exact w_iret X.1 q hRt rfl (ax_d X (show cdA 190 109 = some (.ireturn, 1, 0, 0, 0) from rfl)) (Nat.zero_le _) (Nat.zero_le _) ⟨_, rfl, rfl, e11, rfl, ⟨by first | exact oq_53853fa1 he11 p0.1 | omega, by first | exact oq_82f5c072 he11 p0.2 | omega⟩, ⟨Or.inr (Or.inr (Or.inr (Or.inl ⟨gs, by first | exact oq_a05c7f98 he11 | omega⟩))), by first | (clear he11; omega) | omega, by first | exact oq_c6958ea2 he11 p0.2 | omega⟩⟩
    refine z_if_ne X (t := 105) rfl rfl ⟨by first | exact oq_452e8fda | omega, by first | exact oq_267eaf70 | omega⟩ (fun g12 => ?_) (fun g12 => ?_)
    ·
      exact z_load_n X (x := x) rfl (List.Mem.tail _ (List.Mem.tail _ (List.Mem.tail _ (List.Mem.head _)))) (z_bipush X rfl (z_sub X rfl (N10 _ (Or.inl ⟨g12, rfl⟩))))
    ·
      exact z_const X rfl (z_goto X (t := 109) rfl rfl (N10 _ (Or.inr (⟨g12, rfl⟩))))
  ·
    rw [gs]
    refine w_tabIn X.1 (dflt := 105) (lo := 0) (hi := 4) (offs := #[36, 50, 62, 77, 90]) (len := 36) (off := 90) (t := 110) (ax_d X (show cdA 190 20 = some (.tableswitch 105 0 4 #[36, 50, 62, 77, 90], 36, 0, 0, 0) from rfl)) (by decide) (by decide) (by decide) (by decide) (z_load X (x := (x / 64)) rfl (List.Mem.head _) (z_const X rfl ?_))
    have N13 : ∀ e14 : Int, ((((x / 64) ≠ 1) ∧ e14 = (x + 64)) ∨ (((x / 64) = 1) ∧ e14 = (-1))) → WS k 124 [(4, .int (Int32.ofInt (x / 64))), (3, .int (Int32.ofInt ((x / 8) % 8))), (2, .int (Int32.ofInt (x % 8))), (0, .int (Int32.ofInt x)), (1, .int (Int32.ofInt 4))] [.int (Int32.ofInt e14)] (Wd A dT s) 0 0 := by
      intro e14 he14
      exact w_iret X.1 q hRt rfl (ax_d X (show cdA 190 124 = some (.ireturn, 1, 0, 0, 0) from rfl)) (Nat.zero_le _) (Nat.zero_le _) ⟨_, rfl, rfl, e14, rfl, ⟨by first | exact oq_dec29307 he14 p0.1 | omega, by first | exact oq_dc234b30 he14 p0.2 | omega⟩, ⟨Or.inr (Or.inr (Or.inr (Or.inr (Or.inl ⟨gs, by first | exact oq_53fad64c he14 | omega⟩)))), by first | exact oq_ef6a2c96 he14 p0.1 | omega, by first | exact oq_3dcb4c51 he14 p0.2 | omega⟩⟩
    refine z_icmp_ne X (t := 120) rfl rfl ⟨by first | exact oq_e5b8e207 p0.1 | omega, by first | exact oq_874c0b28 p0.2 | omega⟩ (by decide) (fun g15 => ?_) (fun g15 => ?_)
    ·
      exact z_load_n X (x := x) rfl (List.Mem.tail _ (List.Mem.tail _ (List.Mem.tail _ (List.Mem.head _)))) (z_bipush X rfl (z_add X rfl (N13 _ (Or.inl ⟨g15, rfl⟩))))
    ·
      exact z_const X rfl (z_goto X (t := 124) rfl rfl (N13 _ (Or.inr (⟨g15, rfl⟩))))
  ·
    rw [gs]
    refine w_tabOut X.1 (dflt := 105) (lo := 0) (hi := 4) (offs := #[36, 50, 62, 77, 90]) (len := 36) (t := 125) (ax_d X (show cdA 190 20 = some (.tableswitch 105 0 4 #[36, 50, 62, 77, 90], 36, 0, 0, 0) from rfl)) (by decide) (by decide) (z_load X (x := (x / 64)) rfl (List.Mem.head _) ?_)
    have N16 : ∀ e17 : Int, ((((x / 64) ≠ 0) ∧ e17 = (x - 64)) ∨ (((x / 64) = 0) ∧ e17 = (-1))) → WS k 138 [(4, .int (Int32.ofInt (x / 64))), (3, .int (Int32.ofInt ((x / 8) % 8))), (2, .int (Int32.ofInt (x % 8))), (0, .int (Int32.ofInt x)), (1, .int (Int32.ofInt 5))] [.int (Int32.ofInt e17)] (Wd A dT s) 0 0 := by
      intro e17 he17
      exact w_iret X.1 q hRt rfl (ax_d X (show cdA 190 138 = some (.ireturn, 1, 0, 0, 0) from rfl)) (Nat.zero_le _) (Nat.zero_le _) ⟨_, rfl, rfl, e17, rfl, ⟨by first | exact oq_4c7d79ae he17 p0.1 | omega, by first | exact oq_47817d89 he17 p0.2 | omega⟩, ⟨Or.inr (Or.inr (Or.inr (Or.inr (Or.inr (⟨gs, by first | exact oq_ea0e1764 he17 p0.1 | omega⟩))))), by first | exact oq_7252d58d he17 p0.1 | omega, by first | exact oq_3527817e he17 p0.2 | omega⟩⟩
    refine z_if_ne X (t := 134) rfl rfl ⟨by first | exact oq_e5b8e207 p0.1 | omega, by first | exact oq_874c0b28 p0.2 | omega⟩ (fun g18 => ?_) (fun g18 => ?_)
    ·
      exact z_load_n X (x := x) rfl (List.Mem.tail _ (List.Mem.tail _ (List.Mem.tail _ (List.Mem.head _)))) (z_bipush X rfl (z_sub X rfl (N16 _ (Or.inl ⟨g18, rfl⟩))))
    ·
      exact z_const X rfl (z_goto X (t := 138) rfl rfl (N16 _ (Or.inr (⟨g18, rfl⟩))))
set_option maxRecDepth 4000 in
theorem k_findRound (G : GX l s0 D tys a0 dT) (I : Bd s) (jRLx : RLx s) {x : Int} (p0 : 0 ≤ x ∧ x < iI s 90) : CT l s0 D A dT 281 (rmN 281) [.ref (A 179), .int (Int32.ofInt x)] s (fun o t => Bd t ∧ Fm [] [403, 404, 232, 405, 406, 407, 408, 409, 410, 411, 412, 413, 414, 415, 416] s t ∧ RLx t ∧ o = .inl none ∧ (True)) := by
  refine ct_of G (by decide) (Nat.le_of_ble_eq_true rfl) (fun k X E hRt hXt q => ?_)
  show WS k 0 [(0, .ref (A 179)), (1, .int (Int32.ofInt x))] [] _ 0 0
  have F : Fm [] [403, 404, 232, 405, 406, 407, 408, 409, 410, 411, 412, 413, 414, 415, 416] s s := fm_rf _ _ s
  have b1 := bi_90 I
  have L54 : ∀ (n : Nat) (t : PS) (xv av bv c : Int), Bd t → Fm [] [403, 404, 232, 405, 406, 407, 408, 409, 410, 411, 412, 413, 414, 415, 416] s t → RLx t → (∀ j : Nat, j < 128 → (j : Int) < c → iC t 404 j = -1) → ((0 ≤ xv ∧ xv ≤ 11) ∧ (0 ≤ av ∧ av ≤ 127) ∧ (0 ≤ bv ∧ bv ≤ 127) ∧ 0 ≤ c ∧ c ≤ 128 ∧ iC t 399 (bv).toNat = 0) → (128 - c : Int).toNat < n → (∀ (t' : PS) (c' : Int), Bd t' → Fm [] [403, 404, 232, 405, 406, 407, 408, 409, 410, 411, 412, 413, 414, 415, 416] s t' → RLx t' → (∀ j : Nat, j < 128 → (j : Int) < c' → iC t' 404 j = -1) → ((0 ≤ xv ∧ xv ≤ 11) ∧ (0 ≤ av ∧ av ≤ 127) ∧ (0 ≤ bv ∧ bv ≤ 127) ∧ 128 ≤ c' ∧ iC t' 399 (bv).toNat = 0) → WS k 76 [(0, .ref (A 179)), (1, .int (Int32.ofInt xv)), (2, .int (Int32.ofInt av)), (3, .int (Int32.ofInt bv)), (4, .int (Int32.ofInt c'))] [] (Wd A dT t') 0 0) → WS k 54 [(0, .ref (A 179)), (1, .int (Int32.ofInt xv)), (2, .int (Int32.ofInt av)), (3, .int (Int32.ofInt bv)), (4, .int (Int32.ofInt c))] [] (Wd A dT t) 0 0 := by
    intro n
    induction n with
    | zero =>
      intro t xv av bv c I F jjRLx hq hi hm kx
      exact absurd hm (Nat.not_lt_zero _)
    | succ n ih =>
      intro t xv av bv c I F jjRLx hq hi hm kx
      have b1001 := bi_90 I
      refine z_load X (x := c) rfl (List.Mem.tail _ (List.Mem.tail _ (List.Mem.tail _ (List.Mem.tail _ (List.Mem.head _))))) (z_sipush X rfl (z_icmp_ge X (t := 76) rfl rfl ⟨by first | exact oq_fa4e5087 hi.2.2.2.1 | omega, by first | exact oq_4ee82282 hi.2.2.2.2.1 | omega⟩ (by decide) (fun g1002 => ?_) (fun g1002 => ?_)))
      ·
        refine WS_pq [0, 1, 2, 3, 4] (lv' := [(0, .ref (A 179)), (1, .int (Int32.ofInt xv)), (2, .int (Int32.ofInt av)), (3, .int (Int32.ofInt bv)), (4, .int (Int32.ofInt c))]) rfl ?_
        exact kx _ c I F jjRLx hq (by first | exact ⟨And.intro (hi.1.1) (hi.1.2), And.intro (hi.2.1.1) (hi.2.1.2), And.intro (hi.2.2.1.1) (hi.2.2.1.2), g1002, hi.2.2.2.2.2⟩ | omega)
      ·
        refine z_aload_n X (x := A 179) rfl (List.Mem.head _) (s_getR X 179 rfl (c518_ok rfl) rfl rfl (z_load X (x := c) rfl (List.Mem.tail _ (List.Mem.tail _ (List.Mem.tail _ (List.Mem.tail _ (List.Mem.head _))))) (z_const X rfl (z_ast X 459 rfl (c518_ok rfl) rfl (by first | exact hi.2.2.2.1 | omega) (show c < 128 by first | exact g1002 | omega) (cbig_ok rfl) (wd_gen (fun s1003 hs1003 => ?_))))))
        have Is1003 : Bd s1003 := eqB hs1003 (bd_C I (show ((-1) : Int) ≤ (-1) ∧ (-1) ≤ 127 by first | exact ⟨by decide, by decide⟩ | omega) (by decide))
        have Fs1003 := eqF hs1003 (fm_C F (inl_ok (a := 404) rfl))
        have ws1003_90 : iI s1003 90 = iI t 90 := eqI hs1003 rfl
        have cw1004 : iC s1003 399 (bv).toNat = iC t 399 (bv).toNat := eqC hs1003 (iC_a (by omega))
        have fs1003 : Fm [] [404] t s1003 := by rw [hs1003]; exact fm_C (fm_rf _ _ _) (show 404 ∈ _ by decide)
        have JRLx_s1003 : RLx s1003 := RLx_fm fs1003 (by decide) jjRLx
        refine z_inc X (x := c) (lv' := [(4, .int (Int32.ofInt (c + 1))), (0, .ref (A 179)), (1, .int (Int32.ofInt xv)), (2, .int (Int32.ofInt av)), (3, .int (Int32.ofInt bv))]) rfl (by decide) (List.Mem.tail _ (List.Mem.tail _ (List.Mem.tail _ (List.Mem.tail _ (List.Mem.head _))))) (fun _ h => h) (z_goto X (t := 54) rfl rfl (WS_pq [1, 2, 3, 4, 0] (lv' := [(0, .ref (A 179)), (1, .int (Int32.ofInt xv)), (2, .int (Int32.ofInt av)), (3, .int (Int32.ofInt bv)), (4, .int (Int32.ofInt (c + 1)))]) rfl ?_))
        have hZ1005 : ∀ j : Nat, j < 128 → (j : Int) < (c + 1) → iC s1003 404 j = -1 := fun j hj h => by
          by_cases e : j = (c : Int).toNat
          · rw [e, hs1003, iC_u ⟨by omega, by omega⟩]
          · rw [hs1003, iC_n e]; exact hq j hj (by omega)
        exact ih _ xv av bv (c + 1) Is1003 Fs1003 JRLx_s1003 hZ1005 (by first | exact ⟨And.intro (hi.1.1) (hi.1.2), And.intro (hi.2.1.1) (hi.2.1.2), And.intro (hi.2.2.1.1) (hi.2.2.1.2), oq_54f49eb5 hi.2.2.2.1, oq_d2afb425 g1002, oq_e5e5d3d6 cw1004 hi.2.2.2.2.2⟩ | omega) (by first | exact qk_me hm (by decide) (oq_c268b7bd g1002) | omega) kx
  have L106 : ∀ (n : Nat) (t : PS) (xv av bv m0 ka stp : Int), Bd t → Fm [] [403, 404, 232, 405, 406, 407, 408, 409, 410, 411, 412, 413, 414, 415, 416] s t → RLx t → (FBx m0 t) → ((0 ≤ xv ∧ xv ≤ 11) ∧ (0 ≤ av ∧ av ≤ 127) ∧ (0 ≤ bv ∧ bv ≤ 127) ∧ 1 ≤ m0 ∧ m0 ≤ 128 ∧ 0 ≤ ka ∧ ka < m0 ∧ 0 ≤ stp ∧ stp ≤ 6) → (6 - stp : Int).toNat < n → (∀ (t' : PS) (m0' stp' : Int), Bd t' → Fm [] [403, 404, 232, 405, 406, 407, 408, 409, 410, 411, 412, 413, 414, 415, 416] s t' → RLx t' → (FBx m0' t') → ((0 ≤ xv ∧ xv ≤ 11) ∧ (0 ≤ av ∧ av ≤ 127) ∧ (0 ≤ bv ∧ bv ≤ 127) ∧ 1 ≤ m0' ∧ m0' ≤ 128 ∧ 0 ≤ ka ∧ ka < m0' ∧ 0 ≤ stp' ∧ stp' ≤ 6) → WS k 196 [(0, .ref (A 179)), (1, .int (Int32.ofInt xv)), (2, .int (Int32.ofInt av)), (3, .int (Int32.ofInt bv)), (4, .int (Int32.ofInt m0')), (5, .int (Int32.ofInt ka)), (6, .int (Int32.ofInt stp'))] [] (Wd A dT t') 0 0) → WS k 106 [(0, .ref (A 179)), (1, .int (Int32.ofInt xv)), (2, .int (Int32.ofInt av)), (3, .int (Int32.ofInt bv)), (4, .int (Int32.ofInt m0)), (5, .int (Int32.ofInt ka)), (6, .int (Int32.ofInt stp))] [] (Wd A dT t) 0 0 := by
    as_aux_lemma =>
     intro n
     induction n with
     | zero =>
       intro t xv av bv m0 ka stp I F jjRLx hq hi hm kx
       exact absurd hm (Nat.not_lt_zero _)
     | succ n ih =>
       intro t xv av bv m0 ka stp I F jjRLx hq hi hm kx
       have b2001 := bi_90 I
       refine z_load X (x := stp) rfl (List.Mem.tail _ (List.Mem.tail _ (List.Mem.tail _ (List.Mem.tail _ (List.Mem.tail _ (List.Mem.tail _ (List.Mem.head _))))))) (z_bipush X rfl (z_icmp_ge X (t := 196) rfl rfl ⟨by first | exact oq_fa4e5087 hi.2.2.2.2.2.2.2.1 | omega, by first | exact oq_b301c3bf hi.2.2.2.2.2.2.2.2 | omega⟩ (by decide) (fun g2002 => ?_) (fun g2002 => ?_)))
       ·
         refine WS_pq [0, 1, 2, 3, 4, 5, 6] (lv' := [(0, .ref (A 179)), (1, .int (Int32.ofInt xv)), (2, .int (Int32.ofInt av)), (3, .int (Int32.ofInt bv)), (4, .int (Int32.ofInt m0)), (5, .int (Int32.ofInt ka)), (6, .int (Int32.ofInt stp))]) rfl ?_
         exact kx _ m0 stp I F jjRLx hq (by first | exact ⟨And.intro (hi.1.1) (hi.1.2), And.intro (hi.2.1.1) (hi.2.1.2), And.intro (hi.2.2.1.1) (hi.2.2.1.2), hi.2.2.2.1, hi.2.2.2.2.1, hi.2.2.2.2.2.1, hi.2.2.2.2.2.2.1, hi.2.2.2.2.2.2.2.1, hi.2.2.2.2.2.2.2.2⟩ | omega)
       ·
         refine z_aload_n X (x := A 179) rfl (List.Mem.head _) (s_getR X 179 rfl (c518_ok rfl) rfl rfl (z_load X (x := ka) rfl (List.Mem.tail _ (List.Mem.tail _ (List.Mem.tail _ (List.Mem.tail _ (List.Mem.tail _ (List.Mem.head _)))))) (z_ald X 260 rfl (c518_ok rfl) rfl (by first | exact hi.2.2.2.2.2.1 | omega) (show ka < 128 by first | exact oq_13b70d5e hi.2.2.2.2.2.2.1 hi.2.2.2.2.1 | omega) (cbig_ok rfl) ?_)))
         have b2003 := bc_232 I (show (ka).toNat < 128 by first | exact oq_293b3716 hi.2.2.2.2.2.2.1 hi.2.2.2.2.1 | omega)
         refine z_load X (x := stp) rfl (List.Mem.tail _ (List.Mem.tail _ (List.Mem.tail _ (List.Mem.tail _ (List.Mem.tail _ (List.Mem.tail _ (List.Mem.head _))))))) (z_callS X (rm := rmN 190) (As := [.int (Int32.ofInt (iC t 232 (ka).toNat)), .int (Int32.ofInt stp)]) (st := []) rfl rfl (by rw [E.1, E.2.1, E.2.2.1]; exact p_beside G I (by first | exact ⟨b2003.1, b2003.2⟩ | omega) (by first | exact ⟨hi.2.2.2.2.2.2.2.1, oq_a4cef127 g2002⟩ | omega)) ⟨by rw [E.2.2.2]; exact (show (rmN 190).frames + 1 ≤ (rmN 281).frames by decide), by rw [E.2.2.2]; exact (show 8 + (mNL (miB 190) + 11) + (rmN 190).locals ≤ (rmN 281).locals by decide), by rw [E.2.2.2]; exact (show 0 + (rmN 190).cells ≤ (rmN 281).cells by decide), by rw [E.2.2.2]; exact (show 0 + (rmN 190).slots ≤ (rmN 281).slots by decide)⟩ (Nat.le_of_ble_eq_true rfl) (fun vv s2004 hq => ?_) (fun ee s2004 hq => ?_))
         rotate_left
         · obtain ⟨rfl, e2005, hv, hrs2004, hps2004⟩ := hq; cases hv
         obtain ⟨rfl, e2005, hv, hrs2004, hps2004⟩ := hq
         have hps2004p := And.intro hps2004.2.1 (hps2004.2.2)
         cases hv
         show WS k 125 [(0, .ref (A 179)), (1, .int (Int32.ofInt xv)), (2, .int (Int32.ofInt av)), (3, .int (Int32.ofInt bv)), (4, .int (Int32.ofInt m0)), (5, .int (Int32.ofInt ka)), (6, .int (Int32.ofInt stp))] [.int (Int32.ofInt e2005)] (Wd A dT t) 0 0
         refine z_store X (lv' := [(7, .int (Int32.ofInt e2005)), (0, .ref (A 179)), (1, .int (Int32.ofInt xv)), (2, .int (Int32.ofInt av)), (3, .int (Int32.ofInt bv)), (4, .int (Int32.ofInt m0)), (5, .int (Int32.ofInt ka)), (6, .int (Int32.ofInt stp))]) rfl (by decide) (fun _ h => h) (z_load X (x := e2005) rfl (List.Mem.head _) (z_const X rfl (z_icmp_eq X (t := 190) rfl rfl hrs2004 (by decide) (fun g2006 => ?_) (fun g2006 => ?_))))
         ·
           refine z_inc X (x := stp) (lv' := [(6, .int (Int32.ofInt (stp + 1))), (7, .int (Int32.ofInt e2005)), (0, .ref (A 179)), (1, .int (Int32.ofInt xv)), (2, .int (Int32.ofInt av)), (3, .int (Int32.ofInt bv)), (4, .int (Int32.ofInt m0)), (5, .int (Int32.ofInt ka))]) rfl (by decide) (List.Mem.tail _ (List.Mem.tail _ (List.Mem.tail _ (List.Mem.tail _ (List.Mem.tail _ (List.Mem.tail _ (List.Mem.tail _ (List.Mem.head _)))))))) (fun _ h => h) (z_goto X (t := 106) rfl rfl (WS_pq [2, 3, 4, 5, 6, 7, 0] (lv' := [(0, .ref (A 179)), (1, .int (Int32.ofInt xv)), (2, .int (Int32.ofInt av)), (3, .int (Int32.ofInt bv)), (4, .int (Int32.ofInt m0)), (5, .int (Int32.ofInt ka)), (6, .int (Int32.ofInt (stp + 1)))]) rfl ?_))
           exact ih _ xv av bv m0 ka (stp + 1) I F jjRLx hq (by first | exact ⟨And.intro (hi.1.1) (hi.1.2), And.intro (hi.2.1.1) (hi.2.1.2), And.intro (hi.2.2.1.1) (hi.2.2.1.2), hi.2.2.2.1, hi.2.2.2.2.1, hi.2.2.2.2.2.1, hi.2.2.2.2.2.2.1, oq_54f49eb5 hi.2.2.2.2.2.2.2.1, oq_5bf54478 g2002⟩ | omega) (by first | exact qk_me hm (by decide) (oq_2265a080 g2002) | omega) kx
         ·
           as_aux_lemma =>
            refine z_aload_n X (x := A 179) rfl (List.Mem.tail _ (List.Mem.head _)) (s_getR X 179 rfl (c518_ok rfl) rfl rfl (z_load X (x := e2005) rfl (List.Mem.head _) (z_zald X 454 rfl (c518_ok rfl) rfl (by first | exact oq_7a1025bf g2006 hps2004.2.1 | omega) (show e2005 < 128 by first | exact oq_31b2bf10 hps2004.2.2 | omega) (cbig_ok rfl) ?_)))
            have b2007 := bc_399 I (show (e2005).toNat < 128 by first | exact oq_c7f4e9c1 hps2004.2.2 | omega)
            refine z_if_ne X (t := 190) rfl rfl (rng_to _) (fun g2008 => ?_) (fun g2008 => ?_)
            ·
              refine z_inc X (x := stp) (lv' := [(6, .int (Int32.ofInt (stp + 1))), (7, .int (Int32.ofInt e2005)), (0, .ref (A 179)), (1, .int (Int32.ofInt xv)), (2, .int (Int32.ofInt av)), (3, .int (Int32.ofInt bv)), (4, .int (Int32.ofInt m0)), (5, .int (Int32.ofInt ka))]) rfl (by decide) (List.Mem.tail _ (List.Mem.tail _ (List.Mem.tail _ (List.Mem.tail _ (List.Mem.tail _ (List.Mem.tail _ (List.Mem.tail _ (List.Mem.head _)))))))) (fun _ h => h) (z_goto X (t := 106) rfl rfl (WS_pq [2, 3, 4, 5, 6, 7, 0] (lv' := [(0, .ref (A 179)), (1, .int (Int32.ofInt xv)), (2, .int (Int32.ofInt av)), (3, .int (Int32.ofInt bv)), (4, .int (Int32.ofInt m0)), (5, .int (Int32.ofInt ka)), (6, .int (Int32.ofInt (stp + 1)))]) rfl ?_))
              exact ih _ xv av bv m0 ka (stp + 1) I F jjRLx hq (by first | exact ⟨And.intro (hi.1.1) (hi.1.2), And.intro (hi.2.1.1) (hi.2.1.2), And.intro (hi.2.2.1.1) (hi.2.2.1.2), hi.2.2.2.1, hi.2.2.2.2.1, hi.2.2.2.2.2.1, hi.2.2.2.2.2.2.1, oq_54f49eb5 hi.2.2.2.2.2.2.2.1, oq_5bf54478 g2002⟩ | omega) (by first | exact qk_me hm (by decide) (oq_2265a080 g2002) | omega) kx
            ·
              refine z_aload_n X (x := A 179) rfl (List.Mem.tail _ (List.Mem.head _)) (s_getR X 179 rfl (c518_ok rfl) rfl rfl (z_load X (x := e2005) rfl (List.Mem.head _) (z_ald X 459 rfl (c518_ok rfl) rfl (by first | exact oq_7a1025bf g2006 hps2004.2.1 | omega) (show e2005 < 128 by first | exact oq_31b2bf10 hps2004.2.2 | omega) (cbig_ok rfl) ?_)))
              have b2009 := bc_404 I (show (e2005).toNat < 128 by first | exact oq_c7f4e9c1 hps2004.2.2 | omega)
              refine z_const X rfl (z_icmp_eq X (t := 157) rfl rfl (rng_to _) (by decide) (fun g2010 => ?_) (fun g2010 => ?_))
              ·
                have hle : m0 ≤ 127 := FB_le hq (d := (e2005 : Int).toNat) (by first | (clear g2006 hps2004; omega) | (clear hps2004; omega) | omega) (by first | (clear g2006 hps2004; omega) | (clear hps2004; omega) | omega)
                have hk1 := (hq).2.2.2 (ka : Int).toNat (by first | (clear g2006 hps2004; omega) | (clear hps2004; omega) | omega) (by first | (clear g2006 hps2004; omega) | (clear hps2004; omega) | omega)
                have hk2 : iC t 404 ((iC t 232 (ka : Int).toNat) : Int).toNat ≤ m0 - 1 := (hq).2.1 _ (by first | (clear g2006 hps2004; omega) | (clear hps2004; omega) | omega)
                refine z_aload_n X (x := A 179) rfl (List.Mem.tail _ (List.Mem.head _)) (s_getR X 179 rfl (c518_ok rfl) rfl rfl (z_load X (x := e2005) rfl (List.Mem.head _) (z_aload_n X (x := A 179) rfl (List.Mem.tail _ (List.Mem.head _)) (s_getR X 179 rfl (c518_ok rfl) rfl rfl (z_aload_n X (x := A 179) rfl (List.Mem.tail _ (List.Mem.head _)) (s_getR X 179 rfl (c518_ok rfl) rfl rfl (z_load X (x := ka) rfl (List.Mem.tail _ (List.Mem.tail _ (List.Mem.tail _ (List.Mem.tail _ (List.Mem.tail _ (List.Mem.tail _ (List.Mem.head _))))))) (z_ald X 260 rfl (c518_ok rfl) rfl (by first | exact hi.2.2.2.2.2.1 | omega) (show ka < 128 by first | exact oq_651c3b68 hi.2.2.2.2.2.2.1 hle | omega) (cbig_ok rfl) ?_))))))))
                have b2011 := bc_232 I (show (ka).toNat < 128 by first | exact oq_cf4c286a hi.2.2.2.2.2.2.1 hle | omega)
                refine z_ald X 459 rfl (c518_ok rfl) rfl (by first | exact b2011.1 | omega) (show (iC t 232 (ka).toNat) < 128 by first | exact oq_31b2bf10 b2011.2 | omega) (cbig_ok rfl) ?_
                have b2012 := bc_404 I (show ((iC t 232 (ka).toNat)).toNat < 128 by first | exact oq_c7f4e9c1 b2011.2 | omega)
                refine z_const X rfl (z_add X rfl (z_ast X 459 rfl (c518_ok rfl) rfl (by first | exact oq_7a1025bf g2006 hps2004.2.1 | omega) (show e2005 < 128 by first | exact oq_31b2bf10 hps2004.2.2 | omega) (cbig_ok rfl) (wd_gen (fun s2013 hs2013 => ?_))))
                have Is2013 : Bd s2013 := eqB hs2013 (bd_C I (show ((-1) : Int) ≤ ((iC t 404 ((iC t 232 (ka).toNat)).toNat) + 1) ∧ ((iC t 404 ((iC t 232 (ka).toNat)).toNat) + 1) ≤ 127 by first | exact ⟨oq_21455124 b2012.1, oq_7b2bae64 hk2 hle⟩ | omega) ⟨by first | exact oq_22f29dd0 b2012.1 | omega, by first | exact oq_3e466f4f b2012.2 | omega⟩)
                have Fs2013 := eqF hs2013 (fm_C F (inl_ok (a := 404) rfl))
                have ws2013_90 : iI s2013 90 = iI t 90 := eqI hs2013 rfl
                have cw2014 : iC s2013 399 (bv).toNat = iC t 399 (bv).toNat := eqC hs2013 (iC_a (by first | (clear g2006 hps2004; omega) | (clear hps2004; omega) | omega))
                have fs2013 : Fm [] [404] t s2013 := by rw [hs2013]; exact fm_C (fm_rf _ _ _) (show 404 ∈ _ by decide)
                have JRLx_s2013 : RLx s2013 := RLx_fm fs2013 (by decide) jjRLx
                refine z_aload_n X (x := A 179) rfl (List.Mem.tail _ (List.Mem.head _)) (s_getR X 179 rfl (c518_ok rfl) rfl rfl (z_load X (x := m0) rfl (List.Mem.tail _ (List.Mem.tail _ (List.Mem.tail _ (List.Mem.tail _ (List.Mem.tail _ (List.Mem.head _)))))) (z_load X (x := e2005) rfl (List.Mem.head _) (z_ast X 260 rfl (c518_ok rfl) rfl (by first | exact oq_2a6e3b50 hi.2.2.2.1 | omega) (show m0 < 128 by first | exact oq_31b2bf10 hle | omega) (cbig_ok rfl) (wd_gen (fun s2015 hs2015 => ?_))))))
                have Is2015 : Bd s2015 := eqB hs2015 (bd_C Is2013 (show (0 : Int) ≤ e2005 ∧ e2005 ≤ 127 by first | exact ⟨oq_7a1025bf g2006 hps2004.2.1, hps2004.2.2⟩ | omega) hrs2004)
                have Fs2015 := eqF hs2015 (fm_C Fs2013 (inl_ok (a := 232) rfl))
                have ws2015_90 : iI s2015 90 = iI s2013 90 := eqI hs2015 rfl
                have cw2016 : iC s2015 399 (bv).toNat = iC s2013 399 (bv).toNat := eqC hs2015 (iC_a (by first | (clear g2006 hps2004; omega) | (clear hps2004; omega) | omega))
                have fs2015 : Fm [] [232] s2013 s2015 := by rw [hs2015]; exact fm_C (fm_rf _ _ _) (show 232 ∈ _ by decide)
                have JRLx_s2015 : RLx s2015 := RLx_fm fs2015 (by decide) JRLx_s2013
                have JFBx_s2015 : FBx (m0 + 1) s2015 := FB_up I hq (by first | (clear g2006 hps2004; omega) | (clear hps2004; omega) | omega) (x := (iC t 232 (ka : Int).toNat)) (y := stp) (d := e2005) (by first | (clear g2006 hps2004; omega) | (clear hps2004; omega) | omega) (by first | (clear g2006 hps2004; omega) | (clear hps2004; omega) | omega) (by first | (clear g2006 hps2004; omega) | (clear hps2004; omega) | omega) (by first | (clear g2006 hps2004; omega) | (clear hps2004; omega) | omega) hps2004 hk1.1 hk1.2 hs2013 hs2015
                refine z_inc X (x := m0) (lv' := [(4, .int (Int32.ofInt (m0 + 1))), (7, .int (Int32.ofInt e2005)), (0, .ref (A 179)), (1, .int (Int32.ofInt xv)), (2, .int (Int32.ofInt av)), (3, .int (Int32.ofInt bv)), (5, .int (Int32.ofInt ka)), (6, .int (Int32.ofInt stp))]) rfl (by decide) (List.Mem.tail _ (List.Mem.tail _ (List.Mem.tail _ (List.Mem.tail _ (List.Mem.tail _ (List.Mem.head _)))))) (fun _ h => h) (z_inc X (x := stp) (lv' := [(6, .int (Int32.ofInt (stp + 1))), (4, .int (Int32.ofInt (m0 + 1))), (7, .int (Int32.ofInt e2005)), (0, .ref (A 179)), (1, .int (Int32.ofInt xv)), (2, .int (Int32.ofInt av)), (3, .int (Int32.ofInt bv)), (5, .int (Int32.ofInt ka))]) rfl (by decide) (List.Mem.tail _ (List.Mem.tail _ (List.Mem.tail _ (List.Mem.tail _ (List.Mem.tail _ (List.Mem.tail _ (List.Mem.tail _ (List.Mem.head _)))))))) (fun _ h => h) (z_goto X (t := 106) rfl rfl (WS_pq [3, 4, 5, 6, 1, 7, 0] (lv' := [(0, .ref (A 179)), (1, .int (Int32.ofInt xv)), (2, .int (Int32.ofInt av)), (3, .int (Int32.ofInt bv)), (4, .int (Int32.ofInt (m0 + 1))), (5, .int (Int32.ofInt ka)), (6, .int (Int32.ofInt (stp + 1)))]) rfl ?_)))
                exact ih _ xv av bv (m0 + 1) ka (stp + 1) Is2015 Fs2015 JRLx_s2015 JFBx_s2015 (by first | exact ⟨And.intro (hi.1.1) (hi.1.2), And.intro (hi.2.1.1) (hi.2.1.2), And.intro (hi.2.2.1.1) (hi.2.2.1.2), oq_1e1a2df6 hi.2.2.2.1, oq_e4399267 hle, hi.2.2.2.2.2.1, oq_d130ae0d hi.2.2.2.2.2.2.1, oq_54f49eb5 hi.2.2.2.2.2.2.2.1, oq_5bf54478 g2002⟩ | omega) (by first | exact qk_me hm (by decide) (oq_2265a080 g2002) | omega) kx
              ·
                refine z_goto X (t := 190) rfl rfl (z_inc X (x := stp) (lv' := [(6, .int (Int32.ofInt (stp + 1))), (7, .int (Int32.ofInt e2005)), (0, .ref (A 179)), (1, .int (Int32.ofInt xv)), (2, .int (Int32.ofInt av)), (3, .int (Int32.ofInt bv)), (4, .int (Int32.ofInt m0)), (5, .int (Int32.ofInt ka))]) rfl (by decide) (List.Mem.tail _ (List.Mem.tail _ (List.Mem.tail _ (List.Mem.tail _ (List.Mem.tail _ (List.Mem.tail _ (List.Mem.tail _ (List.Mem.head _)))))))) (fun _ h => h) (z_goto X (t := 106) rfl rfl (WS_pq [2, 3, 4, 5, 6, 7, 0] (lv' := [(0, .ref (A 179)), (1, .int (Int32.ofInt xv)), (2, .int (Int32.ofInt av)), (3, .int (Int32.ofInt bv)), (4, .int (Int32.ofInt m0)), (5, .int (Int32.ofInt ka)), (6, .int (Int32.ofInt (stp + 1)))]) rfl ?_)))
                exact ih _ xv av bv m0 ka (stp + 1) I F jjRLx hq (by first | exact ⟨And.intro (hi.1.1) (hi.1.2), And.intro (hi.2.1.1) (hi.2.1.2), And.intro (hi.2.2.1.1) (hi.2.2.1.2), hi.2.2.2.1, hi.2.2.2.2.1, hi.2.2.2.2.2.1, hi.2.2.2.2.2.2.1, oq_54f49eb5 hi.2.2.2.2.2.2.2.1, oq_5bf54478 g2002⟩ | omega) (by first | exact qk_me hm (by decide) (oq_2265a080 g2002) | omega) kx
  have L96 : ∀ (n : Nat) (t : PS) (xv av bv m0 ka : Int), Bd t → Fm [] [403, 404, 232, 405, 406, 407, 408, 409, 410, 411, 412, 413, 414, 415, 416] s t → RLx t → (FBx m0 t) → ((0 ≤ xv ∧ xv ≤ 11) ∧ (0 ≤ av ∧ av ≤ 127) ∧ (0 ≤ bv ∧ bv ≤ 127) ∧ 1 ≤ m0 ∧ m0 ≤ 128 ∧ 0 ≤ ka ∧ ka ≤ m0) → (128 - ka : Int).toNat < n → (∀ (t' : PS) (m0' ka' : Int), Bd t' → Fm [] [403, 404, 232, 405, 406, 407, 408, 409, 410, 411, 412, 413, 414, 415, 416] s t' → RLx t' → (FBx m0' t') → ((0 ≤ xv ∧ xv ≤ 11) ∧ (0 ≤ av ∧ av ≤ 127) ∧ (0 ≤ bv ∧ bv ≤ 127) ∧ 1 ≤ m0' ∧ m0' ≤ 128 ∧ 0 ≤ ka' ∧ ka' ≤ m0') → WS k 202 [(0, .ref (A 179)), (1, .int (Int32.ofInt xv)), (2, .int (Int32.ofInt av)), (3, .int (Int32.ofInt bv)), (4, .int (Int32.ofInt m0')), (5, .int (Int32.ofInt ka'))] [] (Wd A dT t') 0 0) → WS k 96 [(0, .ref (A 179)), (1, .int (Int32.ofInt xv)), (2, .int (Int32.ofInt av)), (3, .int (Int32.ofInt bv)), (4, .int (Int32.ofInt m0)), (5, .int (Int32.ofInt ka))] [] (Wd A dT t) 0 0 := by
    as_aux_lemma =>
     intro n
     induction n with
     | zero =>
       intro t xv av bv m0 ka I F jjRLx hq hi hm kx
       exact absurd hm (Nat.not_lt_zero _)
     | succ n ih =>
       intro t xv av bv m0 ka I F jjRLx hq hi hm kx
       have b3001 := bi_90 I
       refine z_load X (x := ka) rfl (List.Mem.tail _ (List.Mem.tail _ (List.Mem.tail _ (List.Mem.tail _ (List.Mem.tail _ (List.Mem.head _)))))) (z_load X (x := m0) rfl (List.Mem.tail _ (List.Mem.tail _ (List.Mem.tail _ (List.Mem.tail _ (List.Mem.head _))))) (z_icmp_ge X (t := 202) rfl rfl ⟨by first | exact oq_fa4e5087 hi.2.2.2.2.2.1 | omega, by first | exact oq_9eb6cd9c hi.2.2.2.2.2.2 hi.2.2.2.2.1 | omega⟩ ⟨by first | exact oq_9462313e hi.2.2.2.1 | omega, by first | exact oq_4ee82282 hi.2.2.2.2.1 | omega⟩ (fun g3002 => ?_) (fun g3002 => ?_)))
       ·
         refine WS_pq [0, 1, 2, 3, 4, 5] (lv' := [(0, .ref (A 179)), (1, .int (Int32.ofInt xv)), (2, .int (Int32.ofInt av)), (3, .int (Int32.ofInt bv)), (4, .int (Int32.ofInt m0)), (5, .int (Int32.ofInt ka))]) rfl ?_
         exact kx _ m0 ka I F jjRLx hq (by first | exact ⟨And.intro (hi.1.1) (hi.1.2), And.intro (hi.2.1.1) (hi.2.1.2), And.intro (hi.2.2.1.1) (hi.2.2.1.2), hi.2.2.2.1, hi.2.2.2.2.1, hi.2.2.2.2.2.1, hi.2.2.2.2.2.2⟩ | omega)
       ·
         refine z_const X rfl (z_store X (lv' := [(6, .int (Int32.ofInt 0)), (0, .ref (A 179)), (1, .int (Int32.ofInt xv)), (2, .int (Int32.ofInt av)), (3, .int (Int32.ofInt bv)), (4, .int (Int32.ofInt m0)), (5, .int (Int32.ofInt ka))]) rfl (by decide) (fun _ h => h) (WS_pq [1, 2, 3, 4, 5, 6, 0] (lv' := [(0, .ref (A 179)), (1, .int (Int32.ofInt xv)), (2, .int (Int32.ofInt av)), (3, .int (Int32.ofInt bv)), (4, .int (Int32.ofInt m0)), (5, .int (Int32.ofInt ka)), (6, .int (Int32.ofInt 0))]) rfl (L106 ((6 - 0 : Int).toNat + 1) t xv av bv m0 ka 0 I F jjRLx hq (by first | exact ⟨And.intro (hi.1.1) (hi.1.2), And.intro (hi.2.1.1) (hi.2.1.2), And.intro (hi.2.2.1.1) (hi.2.2.1.2), hi.2.2.2.1, hi.2.2.2.2.1, hi.2.2.2.2.2.1, g3002, by decide, by decide⟩ | omega) (Nat.lt_succ_self _) ?_)))
         intro s3003 x3004 x3005 Is3003 Fs3003 JRLx_s3003 Qs3003 hs3003
         have b3006 := bi_90 Is3003
         refine z_inc X (x := ka) (lv' := [(5, .int (Int32.ofInt (ka + 1))), (0, .ref (A 179)), (1, .int (Int32.ofInt xv)), (2, .int (Int32.ofInt av)), (3, .int (Int32.ofInt bv)), (4, .int (Int32.ofInt x3004)), (6, .int (Int32.ofInt x3005))]) rfl (by decide) (List.Mem.tail _ (List.Mem.tail _ (List.Mem.tail _ (List.Mem.tail _ (List.Mem.tail _ (List.Mem.head _)))))) (fun _ h => h) (z_goto X (t := 96) rfl rfl (WS_pq [1, 2, 3, 4, 5, 0] (lv' := [(0, .ref (A 179)), (1, .int (Int32.ofInt xv)), (2, .int (Int32.ofInt av)), (3, .int (Int32.ofInt bv)), (4, .int (Int32.ofInt x3004)), (5, .int (Int32.ofInt (ka + 1)))]) rfl ?_))
         exact ih _ xv av bv x3004 (ka + 1) Is3003 Fs3003 JRLx_s3003 Qs3003 (by first | exact ⟨And.intro (hs3003.1.1) (hs3003.1.2), And.intro (hs3003.2.1.1) (hs3003.2.1.2), And.intro (hs3003.2.2.1.1) (hs3003.2.2.1.2), hs3003.2.2.2.1, hs3003.2.2.2.2.1, oq_54f49eb5 hs3003.2.2.2.2.2.1, oq_afc84a8d hs3003.2.2.2.2.2.2.1⟩ | omega) (by first | exact qk_me hm (by decide) (oq_3bafc0a8 hs3003.2.2.2.2.2.2.1 hs3003.2.2.2.2.1) | omega) kx
  have L267 : ∀ (n : Nat) (t : PS) (xv m0 ka be stp : Int), Bd t → Fm [] [403, 404, 232, 405, 406, 407, 408, 409, 410, 411, 412, 413, 414, 415, 416] s t → RLx t → (FBx m0 t ∧ QB be (iC t (405 + (xv : Int).toNat) ((ka - 1) : Int).toNat) stp t) → ((0 ≤ xv ∧ xv ≤ 11) ∧ 1 ≤ ka ∧ ka ≤ 24 ∧ 1 ≤ iC t 403 (xv : Int).toNat ∧ iC t 403 (xv : Int).toNat ≤ 24 ∧ ka ≤ iC t 403 (xv : Int).toNat ∧ iC t 404 (iC t (405 + (xv : Int).toNat) ((ka - 1) : Int).toNat : Int).toNat = iC t 403 (xv : Int).toNat - ka ∧ ka < iC t 403 (xv : Int).toNat ∧ (be = -1 ∨ (0 ≤ be ∧ be ≤ 127 ∧ iC t 404 (be : Int).toNat = iC t 404 (iC t (405 + (xv : Int).toNat) ((ka - 1) : Int).toNat : Int).toNat - 1)) ∧ 0 ≤ stp ∧ stp ≤ 6) → (6 - stp : Int).toNat < n → (∀ (t' : PS) (be' stp' : Int), Bd t' → Fm [] [403, 404, 232, 405, 406, 407, 408, 409, 410, 411, 412, 413, 414, 415, 416] s t' → RLx t' → (FBx m0 t' ∧ QB be' (iC t' (405 + (xv : Int).toNat) ((ka - 1) : Int).toNat) stp' t') → ((0 ≤ xv ∧ xv ≤ 11) ∧ 1 ≤ ka ∧ ka ≤ 24 ∧ 1 ≤ iC t' 403 (xv : Int).toNat ∧ iC t' 403 (xv : Int).toNat ≤ 24 ∧ ka ≤ iC t' 403 (xv : Int).toNat ∧ iC t' 404 (iC t' (405 + (xv : Int).toNat) ((ka - 1) : Int).toNat : Int).toNat = iC t' 403 (xv : Int).toNat - ka ∧ ka < iC t' 403 (xv : Int).toNat ∧ (be' = -1 ∨ (0 ≤ be' ∧ be' ≤ 127 ∧ iC t' 404 (be' : Int).toNat = iC t' 404 (iC t' (405 + (xv : Int).toNat) ((ka - 1) : Int).toNat : Int).toNat - 1)) ∧ stp' = 6) → WS k 359 [(0, .ref (A 179)), (1, .int (Int32.ofInt xv)), (4, .int (Int32.ofInt m0)), (5, .int (Int32.ofInt ka)), (6, .int (Int32.ofInt be')), (7, .int (Int32.ofInt stp'))] [] (Wd A dT t') 0 0) → WS k 267 [(0, .ref (A 179)), (1, .int (Int32.ofInt xv)), (4, .int (Int32.ofInt m0)), (5, .int (Int32.ofInt ka)), (6, .int (Int32.ofInt be)), (7, .int (Int32.ofInt stp))] [] (Wd A dT t) 0 0 := by
    as_aux_lemma =>
     intro n
     induction n with
     | zero =>
       intro t xv m0 ka be stp I F jjRLx hq hi hm kx
       exact absurd hm (Nat.not_lt_zero _)
     | succ n ih =>
       intro t xv m0 ka be stp I F jjRLx hq hi hm kx
       have b4001 := bi_90 I
       refine z_load X (x := stp) rfl (List.Mem.tail _ (List.Mem.tail _ (List.Mem.tail _ (List.Mem.tail _ (List.Mem.tail _ (List.Mem.head _)))))) (z_bipush X rfl (z_icmp_ge X (t := 359) rfl rfl ⟨by first | exact oq_fa4e5087 hi.2.2.2.2.2.2.2.2.2.1 | omega, by first | exact oq_b301c3bf hi.2.2.2.2.2.2.2.2.2.2 | omega⟩ (by decide) (fun g4002 => ?_) (fun g4002 => ?_)))
       ·
         refine WS_pq [0, 1, 2, 3, 4, 5] (lv' := [(0, .ref (A 179)), (1, .int (Int32.ofInt xv)), (4, .int (Int32.ofInt m0)), (5, .int (Int32.ofInt ka)), (6, .int (Int32.ofInt be)), (7, .int (Int32.ofInt stp))]) rfl ?_
         exact kx _ be stp I F jjRLx hq (by first | exact ⟨And.intro (hi.1.1) (hi.1.2), hi.2.1, hi.2.2.1, hi.2.2.2.1, hi.2.2.2.2.1, hi.2.2.2.2.2.1, hi.2.2.2.2.2.2.1, hi.2.2.2.2.2.2.2.1, hi.2.2.2.2.2.2.2.2.1, oq_0dbc568f hi.2.2.2.2.2.2.2.2.2.2 g4002⟩ | omega)
       ·
         refine z_aload_n X (x := A 179) rfl (List.Mem.head _) (s_getR X 179 rfl (c518_ok rfl) rfl rfl (z_load_n X (x := xv) rfl (List.Mem.tail _ (List.Mem.head _)) (z_aald X rw_460 rfl (by first | exact hi.1.1 | omega) (show xv < 12 by first | exact oq_0ddfcfee hi.1.2 | omega) (by decide) (z_load X (x := ka) rfl (List.Mem.tail _ (List.Mem.tail _ (List.Mem.tail _ (List.Mem.head _)))) (z_const X rfl (z_sub X rfl (z_ald2 X rw_460 rfl (show (xv : Int).toNat < 12 by first | exact oq_9c5fa447 hi.1.2 | omega) (by first | exact oq_02aa5459 hi.2.1 | omega) (show (ka - 1) < 24 by first | exact oq_19cb6f5b hi.2.2.1 | omega) (by decide) ?_)))))))
         have b4003 : (0 : Int) ≤ (iC t (405 + (xv : Int).toNat) ((ka - 1) : Int).toNat) ∧ (iC t (405 + (xv : Int).toNat) ((ka - 1) : Int).toNat) ≤ 127 := rw_bd rw_460 I (show (xv : Int).toNat < 12 by first | exact oq_9c5fa447 hi.1.2 | omega) (show ((ka - 1) : Int).toNat < 24 by first | exact oq_f976b25c hi.2.2.1 | omega)
         refine z_load X (x := stp) rfl (List.Mem.tail _ (List.Mem.tail _ (List.Mem.tail _ (List.Mem.tail _ (List.Mem.tail _ (List.Mem.head _)))))) (z_callS X (rm := rmN 190) (As := [.int (Int32.ofInt (iC t (405 + (xv : Int).toNat) ((ka - 1) : Int).toNat)), .int (Int32.ofInt stp)]) (st := []) rfl rfl (by rw [E.1, E.2.1, E.2.2.1]; exact p_beside G I (by first | exact ⟨b4003.1, b4003.2⟩ | omega) (by first | exact ⟨hi.2.2.2.2.2.2.2.2.2.1, oq_a4cef127 g4002⟩ | omega)) ⟨by rw [E.2.2.2]; exact (show (rmN 190).frames + 1 ≤ (rmN 281).frames by decide), by rw [E.2.2.2]; exact (show 8 + (mNL (miB 190) + 11) + (rmN 190).locals ≤ (rmN 281).locals by decide), by rw [E.2.2.2]; exact (show 0 + (rmN 190).cells ≤ (rmN 281).cells by decide), by rw [E.2.2.2]; exact (show 0 + (rmN 190).slots ≤ (rmN 281).slots by decide)⟩ (Nat.le_of_ble_eq_true rfl) (fun vv s4004 hq => ?_) (fun ee s4004 hq => ?_))
         rotate_left
         · obtain ⟨rfl, e4005, hv, hrs4004, hps4004⟩ := hq; cases hv
         obtain ⟨rfl, e4005, hv, hrs4004, hps4004⟩ := hq
         have hps4004p := And.intro hps4004.2.1 (hps4004.2.2)
         cases hv
         show WS k 290 [(0, .ref (A 179)), (1, .int (Int32.ofInt xv)), (4, .int (Int32.ofInt m0)), (5, .int (Int32.ofInt ka)), (6, .int (Int32.ofInt be)), (7, .int (Int32.ofInt stp))] [.int (Int32.ofInt e4005)] (Wd A dT t) 0 0
         refine z_store X (lv' := [(8, .int (Int32.ofInt e4005)), (0, .ref (A 179)), (1, .int (Int32.ofInt xv)), (4, .int (Int32.ofInt m0)), (5, .int (Int32.ofInt ka)), (6, .int (Int32.ofInt be)), (7, .int (Int32.ofInt stp))]) rfl (by decide) (fun _ h => h) (z_load X (x := e4005) rfl (List.Mem.head _) (z_const X rfl (z_icmp_eq X (t := 353) rfl rfl hrs4004 (by decide) (fun g4006 => ?_) (fun g4006 => ?_))))
         ·
           refine z_inc X (x := stp) (lv' := [(7, .int (Int32.ofInt (stp + 1))), (8, .int (Int32.ofInt e4005)), (0, .ref (A 179)), (1, .int (Int32.ofInt xv)), (4, .int (Int32.ofInt m0)), (5, .int (Int32.ofInt ka)), (6, .int (Int32.ofInt be))]) rfl (by decide) (List.Mem.tail _ (List.Mem.tail _ (List.Mem.tail _ (List.Mem.tail _ (List.Mem.tail _ (List.Mem.tail _ (List.Mem.head _))))))) (fun _ h => h) (z_goto X (t := 267) rfl rfl (WS_pq [2, 3, 4, 5, 6, 0] (lv' := [(0, .ref (A 179)), (1, .int (Int32.ofInt xv)), (4, .int (Int32.ofInt m0)), (5, .int (Int32.ofInt ka)), (6, .int (Int32.ofInt be)), (7, .int (Int32.ofInt (stp + 1)))]) rfl ?_))
           have hQ4007 : QB be (iC t (405 + (xv : Int).toNat) ((ka - 1) : Int).toNat) (stp + 1) t := fun hb y y0 y1 d d0 hB hs hf => by
             by_cases e : y = stp
             · subst e
               have ed := bs_fun hB hps4004
               subst ed
               omega
             · exact hq.2 hb y y0 (by first | (clear hps4004; omega) | omega) d d0 hB hs hf
           exact ih _ xv m0 ka be (stp + 1) I F jjRLx ⟨hq.1, hQ4007⟩ (by first | exact ⟨And.intro (hi.1.1) (hi.1.2), hi.2.1, hi.2.2.1, hi.2.2.2.1, hi.2.2.2.2.1, hi.2.2.2.2.2.1, hi.2.2.2.2.2.2.1, hi.2.2.2.2.2.2.2.1, hi.2.2.2.2.2.2.2.2.1, oq_54f49eb5 hi.2.2.2.2.2.2.2.2.2.1, oq_5bf54478 g4002⟩ | omega) (by first | exact qk_me hm (by decide) (oq_2265a080 g4002) | omega) kx
         ·
           as_aux_lemma =>
            refine z_aload_n X (x := A 179) rfl (List.Mem.tail _ (List.Mem.head _)) (s_getR X 179 rfl (c518_ok rfl) rfl rfl (z_load X (x := e4005) rfl (List.Mem.head _) (z_zald X 454 rfl (c518_ok rfl) rfl (by first | exact oq_7a1025bf g4006 hps4004.2.1 | omega) (show e4005 < 128 by first | exact oq_31b2bf10 hps4004.2.2 | omega) (cbig_ok rfl) ?_)))
            have b4008 := bc_399 I (show (e4005).toNat < 128 by first | exact oq_c7f4e9c1 hps4004.2.2 | omega)
            refine z_if_ne X (t := 353) rfl rfl (rng_to _) (fun g4009 => ?_) (fun g4009 => ?_)
            ·
              refine z_inc X (x := stp) (lv' := [(7, .int (Int32.ofInt (stp + 1))), (8, .int (Int32.ofInt e4005)), (0, .ref (A 179)), (1, .int (Int32.ofInt xv)), (4, .int (Int32.ofInt m0)), (5, .int (Int32.ofInt ka)), (6, .int (Int32.ofInt be))]) rfl (by decide) (List.Mem.tail _ (List.Mem.tail _ (List.Mem.tail _ (List.Mem.tail _ (List.Mem.tail _ (List.Mem.tail _ (List.Mem.head _))))))) (fun _ h => h) (z_goto X (t := 267) rfl rfl (WS_pq [2, 3, 4, 5, 6, 0] (lv' := [(0, .ref (A 179)), (1, .int (Int32.ofInt xv)), (4, .int (Int32.ofInt m0)), (5, .int (Int32.ofInt ka)), (6, .int (Int32.ofInt be)), (7, .int (Int32.ofInt (stp + 1)))]) rfl ?_))
              have hQ4010 : QB be (iC t (405 + (xv : Int).toNat) ((ka - 1) : Int).toNat) (stp + 1) t := fun hb y y0 y1 d d0 hB hs hf => by
                by_cases e : y = stp
                · subst e
                  have ed := bs_fun hB hps4004
                  subst ed
                  omega
                · exact hq.2 hb y y0 (by first | (clear g4009 g4006 hps4004; omega) | (clear g4006 hps4004; omega) | omega) d d0 hB hs hf
              exact ih _ xv m0 ka be (stp + 1) I F jjRLx ⟨hq.1, hQ4010⟩ (by first | exact ⟨And.intro (hi.1.1) (hi.1.2), hi.2.1, hi.2.2.1, hi.2.2.2.1, hi.2.2.2.2.1, hi.2.2.2.2.2.1, hi.2.2.2.2.2.2.1, hi.2.2.2.2.2.2.2.1, hi.2.2.2.2.2.2.2.2.1, oq_54f49eb5 hi.2.2.2.2.2.2.2.2.2.1, oq_5bf54478 g4002⟩ | omega) (by first | exact qk_me hm (by decide) (oq_2265a080 g4002) | omega) kx
            ·
              refine z_aload_n X (x := A 179) rfl (List.Mem.tail _ (List.Mem.head _)) (s_getR X 179 rfl (c518_ok rfl) rfl rfl (z_load X (x := e4005) rfl (List.Mem.head _) (z_ald X 459 rfl (c518_ok rfl) rfl (by first | exact oq_7a1025bf g4006 hps4004.2.1 | omega) (show e4005 < 128 by first | exact oq_31b2bf10 hps4004.2.2 | omega) (cbig_ok rfl) ?_)))
              have b4011 := bc_404 I (show (e4005).toNat < 128 by first | exact oq_c7f4e9c1 hps4004.2.2 | omega)
              refine z_aload_n X (x := A 179) rfl (List.Mem.tail _ (List.Mem.head _)) (s_getR X 179 rfl (c518_ok rfl) rfl rfl (z_aload_n X (x := A 179) rfl (List.Mem.tail _ (List.Mem.head _)) (s_getR X 179 rfl (c518_ok rfl) rfl rfl (z_load_n X (x := xv) rfl (List.Mem.tail _ (List.Mem.tail _ (List.Mem.head _))) (z_aald X rw_460 rfl (by first | exact hi.1.1 | omega) (show xv < 12 by first | exact oq_0ddfcfee hi.1.2 | omega) (by decide) (z_load X (x := ka) rfl (List.Mem.tail _ (List.Mem.tail _ (List.Mem.tail _ (List.Mem.tail _ (List.Mem.head _))))) (z_const X rfl (z_sub X rfl (z_ald2 X rw_460 rfl (show (xv : Int).toNat < 12 by first | exact oq_9c5fa447 hi.1.2 | omega) (by first | exact oq_02aa5459 hi.2.1 | omega) (show (ka - 1) < 24 by first | exact oq_19cb6f5b hi.2.2.1 | omega) (by decide) ?_)))))))))
              have b4012 : (0 : Int) ≤ (iC t (405 + (xv : Int).toNat) ((ka - 1) : Int).toNat) ∧ (iC t (405 + (xv : Int).toNat) ((ka - 1) : Int).toNat) ≤ 127 := rw_bd rw_460 I (show (xv : Int).toNat < 12 by first | exact oq_9c5fa447 hi.1.2 | omega) (show ((ka - 1) : Int).toNat < 24 by first | exact oq_f976b25c hi.2.2.1 | omega)
              refine z_ald X 459 rfl (c518_ok rfl) rfl (by first | exact b4012.1 | omega) (show (iC t (405 + (xv : Int).toNat) ((ka - 1) : Int).toNat) < 128 by first | exact oq_31b2bf10 b4012.2 | omega) (cbig_ok rfl) ?_
              have b4013 := bc_404 I (show ((iC t (405 + (xv : Int).toNat) ((ka - 1) : Int).toNat)).toNat < 128 by first | exact oq_c7f4e9c1 b4012.2 | omega)
              refine z_const X rfl (z_sub X rfl (z_icmp_ne X (t := 353) rfl rfl (rng_to _) ⟨by first | exact oq_c8d9aaec b4013.1 | omega, by first | exact oq_cd3b4cc3 b4013.2 | omega⟩ (fun g4014 => ?_) (fun g4014 => ?_)))
              ·
                refine z_inc X (x := stp) (lv' := [(7, .int (Int32.ofInt (stp + 1))), (8, .int (Int32.ofInt e4005)), (0, .ref (A 179)), (1, .int (Int32.ofInt xv)), (4, .int (Int32.ofInt m0)), (5, .int (Int32.ofInt ka)), (6, .int (Int32.ofInt be))]) rfl (by decide) (List.Mem.tail _ (List.Mem.tail _ (List.Mem.tail _ (List.Mem.tail _ (List.Mem.tail _ (List.Mem.tail _ (List.Mem.head _))))))) (fun _ h => h) (z_goto X (t := 267) rfl rfl (WS_pq [2, 3, 4, 5, 6, 0] (lv' := [(0, .ref (A 179)), (1, .int (Int32.ofInt xv)), (4, .int (Int32.ofInt m0)), (5, .int (Int32.ofInt ka)), (6, .int (Int32.ofInt be)), (7, .int (Int32.ofInt (stp + 1)))]) rfl ?_))
                have hQ4015 : QB be (iC t (405 + (xv : Int).toNat) ((ka - 1) : Int).toNat) (stp + 1) t := fun hb y y0 y1 d d0 hB hs hf => by
                  by_cases e : y = stp
                  · subst e
                    have ed := bs_fun hB hps4004
                    subst ed
                    omega
                  · exact hq.2 hb y y0 (by first | (clear g4014 g4006 hps4004; omega) | (clear g4006 hps4004; omega) | omega) d d0 hB hs hf
                exact ih _ xv m0 ka be (stp + 1) I F jjRLx ⟨hq.1, hQ4015⟩ (by first | exact ⟨And.intro (hi.1.1) (hi.1.2), hi.2.1, hi.2.2.1, hi.2.2.2.1, hi.2.2.2.2.1, hi.2.2.2.2.2.1, hi.2.2.2.2.2.2.1, hi.2.2.2.2.2.2.2.1, hi.2.2.2.2.2.2.2.2.1, oq_54f49eb5 hi.2.2.2.2.2.2.2.2.2.1, oq_5bf54478 g4002⟩ | omega) (by first | exact qk_me hm (by decide) (oq_2265a080 g4002) | omega) kx
              ·
                as_aux_lemma =>
                 refine z_load X (x := be) rfl (List.Mem.tail _ (List.Mem.tail _ (List.Mem.tail _ (List.Mem.tail _ (List.Mem.tail _ (List.Mem.head _)))))) (z_const X rfl (z_icmp_eq X (t := 349) rfl rfl ⟨by first | exact oq_4784b16d hi.2.2.2.2.2.2.2.2.1 | omega, by first | exact oq_fd7c26f0 hi.2.2.2.2.2.2.2.2.1 | omega⟩ (by decide) (fun g4016 => ?_) (fun g4016 => ?_)))
                 ·
                   refine z_load X (x := e4005) rfl (List.Mem.head _) (z_store X (lv' := [(6, .int (Int32.ofInt e4005)), (8, .int (Int32.ofInt e4005)), (0, .ref (A 179)), (1, .int (Int32.ofInt xv)), (4, .int (Int32.ofInt m0)), (5, .int (Int32.ofInt ka)), (7, .int (Int32.ofInt stp))]) rfl (by decide) (fun _ h => h) (z_inc X (x := stp) (lv' := [(7, .int (Int32.ofInt (stp + 1))), (6, .int (Int32.ofInt e4005)), (8, .int (Int32.ofInt e4005)), (0, .ref (A 179)), (1, .int (Int32.ofInt xv)), (4, .int (Int32.ofInt m0)), (5, .int (Int32.ofInt ka))]) rfl (by decide) (List.Mem.tail _ (List.Mem.tail _ (List.Mem.tail _ (List.Mem.tail _ (List.Mem.tail _ (List.Mem.tail _ (List.Mem.head _))))))) (fun _ h => h) (z_goto X (t := 267) rfl rfl (WS_pq [3, 4, 5, 6, 1, 0] (lv' := [(0, .ref (A 179)), (1, .int (Int32.ofInt xv)), (4, .int (Int32.ofInt m0)), (5, .int (Int32.ofInt ka)), (6, .int (Int32.ofInt e4005)), (7, .int (Int32.ofInt (stp + 1)))]) rfl ?_))))
                   have hQ4017 : QB e4005 (iC t (405 + (xv : Int).toNat) ((ka - 1) : Int).toNat) (stp + 1) t := fun hb y y0 y1 d d0 hB hs hf => by
                     omega
                   exact ih _ xv m0 ka e4005 (stp + 1) I F jjRLx ⟨hq.1, hQ4017⟩ (by first | exact ⟨And.intro (hi.1.1) (hi.1.2), hi.2.1, hi.2.2.1, hi.2.2.2.1, hi.2.2.2.2.1, hi.2.2.2.2.2.1, hi.2.2.2.2.2.2.1, hi.2.2.2.2.2.2.2.1, oq_3daf27ff g4014 g4006 hps4004.2.2 hps4004.2.1, oq_54f49eb5 hi.2.2.2.2.2.2.2.2.2.1, oq_5bf54478 g4002⟩ | omega) (by first | exact qk_me hm (by decide) (oq_2265a080 g4002) | omega) kx
                 ·
                   refine z_load X (x := e4005) rfl (List.Mem.head _) (z_load X (x := be) rfl (List.Mem.tail _ (List.Mem.tail _ (List.Mem.tail _ (List.Mem.tail _ (List.Mem.tail _ (List.Mem.head _)))))) (z_icmp_ge X (t := 353) rfl rfl hrs4004 ⟨by first | exact oq_4784b16d hi.2.2.2.2.2.2.2.2.1 | omega, by first | exact oq_fd7c26f0 hi.2.2.2.2.2.2.2.2.1 | omega⟩ (fun g4018 => ?_) (fun g4018 => ?_)))
                   ·
                     refine z_inc X (x := stp) (lv' := [(7, .int (Int32.ofInt (stp + 1))), (8, .int (Int32.ofInt e4005)), (0, .ref (A 179)), (1, .int (Int32.ofInt xv)), (4, .int (Int32.ofInt m0)), (5, .int (Int32.ofInt ka)), (6, .int (Int32.ofInt be))]) rfl (by decide) (List.Mem.tail _ (List.Mem.tail _ (List.Mem.tail _ (List.Mem.tail _ (List.Mem.tail _ (List.Mem.tail _ (List.Mem.head _))))))) (fun _ h => h) (z_goto X (t := 267) rfl rfl (WS_pq [2, 3, 4, 5, 6, 0] (lv' := [(0, .ref (A 179)), (1, .int (Int32.ofInt xv)), (4, .int (Int32.ofInt m0)), (5, .int (Int32.ofInt ka)), (6, .int (Int32.ofInt be)), (7, .int (Int32.ofInt (stp + 1)))]) rfl ?_))
                     have hQ4019 : QB be (iC t (405 + (xv : Int).toNat) ((ka - 1) : Int).toNat) (stp + 1) t := fun hb y y0 y1 d d0 hB hs hf => by
                       by_cases e : y = stp
                       · subst e
                         have ed := bs_fun hB hps4004
                         subst ed
                         omega
                       · exact hq.2 hb y y0 (by first | (clear g4016 g4006 hps4004; omega) | (clear g4006 hps4004; omega) | omega) d d0 hB hs hf
                     exact ih _ xv m0 ka be (stp + 1) I F jjRLx ⟨hq.1, hQ4019⟩ (by first | exact ⟨And.intro (hi.1.1) (hi.1.2), hi.2.1, hi.2.2.1, hi.2.2.2.1, hi.2.2.2.2.1, hi.2.2.2.2.2.1, hi.2.2.2.2.2.2.1, hi.2.2.2.2.2.2.2.1, hi.2.2.2.2.2.2.2.2.1, oq_54f49eb5 hi.2.2.2.2.2.2.2.2.2.1, oq_5bf54478 g4002⟩ | omega) (by first | exact qk_me hm (by decide) (oq_2265a080 g4002) | omega) kx
                   ·
                     refine z_load X (x := e4005) rfl (List.Mem.head _) (z_store X (lv' := [(6, .int (Int32.ofInt e4005)), (8, .int (Int32.ofInt e4005)), (0, .ref (A 179)), (1, .int (Int32.ofInt xv)), (4, .int (Int32.ofInt m0)), (5, .int (Int32.ofInt ka)), (7, .int (Int32.ofInt stp))]) rfl (by decide) (fun _ h => h) (z_inc X (x := stp) (lv' := [(7, .int (Int32.ofInt (stp + 1))), (6, .int (Int32.ofInt e4005)), (8, .int (Int32.ofInt e4005)), (0, .ref (A 179)), (1, .int (Int32.ofInt xv)), (4, .int (Int32.ofInt m0)), (5, .int (Int32.ofInt ka))]) rfl (by decide) (List.Mem.tail _ (List.Mem.tail _ (List.Mem.tail _ (List.Mem.tail _ (List.Mem.tail _ (List.Mem.tail _ (List.Mem.head _))))))) (fun _ h => h) (z_goto X (t := 267) rfl rfl (WS_pq [3, 4, 5, 6, 1, 0] (lv' := [(0, .ref (A 179)), (1, .int (Int32.ofInt xv)), (4, .int (Int32.ofInt m0)), (5, .int (Int32.ofInt ka)), (6, .int (Int32.ofInt e4005)), (7, .int (Int32.ofInt (stp + 1)))]) rfl ?_))))
                     have hQ4020 : QB e4005 (iC t (405 + (xv : Int).toNat) ((ka - 1) : Int).toNat) (stp + 1) t := fun hb y y0 y1 d d0 hB hs hf => by
                       omega
                     exact ih _ xv m0 ka e4005 (stp + 1) I F jjRLx ⟨hq.1, hQ4020⟩ (by first | exact ⟨And.intro (hi.1.1) (hi.1.2), hi.2.1, hi.2.2.1, hi.2.2.2.1, hi.2.2.2.2.1, hi.2.2.2.2.2.1, hi.2.2.2.2.2.2.1, hi.2.2.2.2.2.2.2.1, oq_c3bce87b g4018 g4014 g4006 hps4004.2.1 hi.2.2.2.2.2.2.2.2.1, oq_54f49eb5 hi.2.2.2.2.2.2.2.2.2.1, oq_5bf54478 g4002⟩ | omega) (by first | exact qk_me hm (by decide) (oq_2265a080 g4002) | omega) kx
  have L250 : ∀ (n : Nat) (t : PS) (xv m0 ka : Int), Bd t → Fm [] [403, 404, 232, 405, 406, 407, 408, 409, 410, 411, 412, 413, 414, 415, 416] s t → RLx t → (FBx m0 t) → ((0 ≤ xv ∧ xv ≤ 11) ∧ 1 ≤ ka ∧ ka ≤ 24 ∧ 1 ≤ iC t 403 (xv : Int).toNat ∧ iC t 403 (xv : Int).toNat ≤ 24 ∧ ka ≤ iC t 403 (xv : Int).toNat ∧ iC t 404 (iC t (405 + (xv : Int).toNat) ((ka - 1) : Int).toNat : Int).toNat = iC t 403 (xv : Int).toNat - ka) → (24 - ka : Int).toNat < n → (∀ (t' : PS) (ka' : Int), Bd t' → Fm [] [403, 404, 232, 405, 406, 407, 408, 409, 410, 411, 412, 413, 414, 415, 416] s t' → RLx t' → (FBx m0 t') → ((0 ≤ xv ∧ xv ≤ 11) ∧ 1 ≤ ka' ∧ ka' ≤ 24 ∧ 1 ≤ iC t' 403 (xv : Int).toNat ∧ iC t' 403 (xv : Int).toNat ≤ 24 ∧ ka' ≤ iC t' 403 (xv : Int).toNat ∧ iC t' 404 (iC t' (405 + (xv : Int).toNat) ((ka' - 1) : Int).toNat : Int).toNat = iC t' 403 (xv : Int).toNat - ka') → WS k 376 [(0, .ref (A 179)), (1, .int (Int32.ofInt xv)), (4, .int (Int32.ofInt m0)), (5, .int (Int32.ofInt ka'))] [] (Wd A dT t') 0 0) → WS k 250 [(0, .ref (A 179)), (1, .int (Int32.ofInt xv)), (4, .int (Int32.ofInt m0)), (5, .int (Int32.ofInt ka))] [] (Wd A dT t) 0 0 := by
    as_aux_lemma =>
     intro n
     induction n with
     | zero =>
       intro t xv m0 ka I F jjRLx hq hi hm kx
       exact absurd hm (Nat.not_lt_zero _)
     | succ n ih =>
       intro t xv m0 ka I F jjRLx hq hi hm kx
       have b5001 := bi_90 I
       refine z_load X (x := ka) rfl (List.Mem.tail _ (List.Mem.tail _ (List.Mem.tail _ (List.Mem.head _)))) (z_aload_n X (x := A 179) rfl (List.Mem.head _) (s_getR X 179 rfl (c518_ok rfl) rfl rfl (z_load_n X (x := xv) rfl (List.Mem.tail _ (List.Mem.head _)) (z_ald X 458 rfl (c518_ok rfl) rfl (by first | exact hi.1.1 | omega) (show xv < 12 by first | exact oq_0ddfcfee hi.1.2 | omega) (cbig_ok rfl) ?_))))
       have b5002 := bc_403 I (show (xv).toNat < 12 by first | exact oq_9c5fa447 hi.1.2 | omega)
       refine z_icmp_ge X (t := 376) rfl rfl ⟨by first | exact oq_9462313e hi.2.1 | omega, by first | exact oq_5bcd337f hi.2.2.1 | omega⟩ (rng_to _) (fun g5003 => ?_) (fun g5003 => ?_)
       ·
         refine WS_pq [0, 1, 2, 3] (lv' := [(0, .ref (A 179)), (1, .int (Int32.ofInt xv)), (4, .int (Int32.ofInt m0)), (5, .int (Int32.ofInt ka))]) rfl ?_
         exact kx _ ka I F jjRLx hq (by first | exact ⟨And.intro (hi.1.1) (hi.1.2), hi.2.1, hi.2.2.1, hi.2.2.2.1, b5002.2, hi.2.2.2.2.2.1, hi.2.2.2.2.2.2⟩ | omega)
       ·
         refine z_const X rfl (z_store X (lv' := [(6, .int (Int32.ofInt (-1))), (0, .ref (A 179)), (1, .int (Int32.ofInt xv)), (4, .int (Int32.ofInt m0)), (5, .int (Int32.ofInt ka))]) rfl (by decide) (fun _ h => h) (z_const X rfl (z_store X (lv' := [(7, .int (Int32.ofInt 0)), (6, .int (Int32.ofInt (-1))), (0, .ref (A 179)), (1, .int (Int32.ofInt xv)), (4, .int (Int32.ofInt m0)), (5, .int (Int32.ofInt ka))]) rfl (by decide) (fun _ h => h) (WS_pq [2, 3, 4, 5, 1, 0] (lv' := [(0, .ref (A 179)), (1, .int (Int32.ofInt xv)), (4, .int (Int32.ofInt m0)), (5, .int (Int32.ofInt ka)), (6, .int (Int32.ofInt (-1))), (7, .int (Int32.ofInt 0))]) rfl (L267 ((6 - 0 : Int).toNat + 1) t xv m0 ka (-1) 0 I F jjRLx ⟨hq, fun _ y h0 h1 => absurd h1 (by omega)⟩ (by first | exact ⟨And.intro (hi.1.1) (hi.1.2), hi.2.1, hi.2.2.1, hi.2.2.2.1, b5002.2, hi.2.2.2.2.2.1, hi.2.2.2.2.2.2, g5003, Or.inl (by decide), by decide, by decide⟩ | omega) (Nat.lt_succ_self _) ?_)))))
         intro s5004 x5005 x5006 Is5004 Fs5004 JRLx_s5004 Qs5004 hs5004
         have b5007 := bi_90 Is5004
         have hpv : 0 ≤ iC s5004 (405 + (xv : Int).toNat) ((ka - 1) : Int).toNat ∧ iC s5004 (405 + (xv : Int).toNat) ((ka - 1) : Int).toNat ≤ 127 := rw_bd rw_460 Is5004 (show (xv : Int).toNat < 12 by omega) (show ((ka - 1) : Int).toNat < 24 by omega)
         have hne : x5005 ≠ -1 := fun hb => by
           obtain ⟨d, d1, ⟨y, y0, y1, y2⟩, d3, d4⟩ := (Qs5004.1).2.2.1 (iC s5004 (405 + (xv : Int).toNat) ((ka - 1) : Int).toNat).toNat (by omega) (by omega)
           rw [Int.toNat_of_nonneg hpv.1] at y2
           exact Qs5004.2 hb y y0 (by omega) (d : Int) (by omega) y2 (by rw [Int.toNat_natCast]; exact d4) (by rw [Int.toNat_natCast]; exact d3)
         refine z_aload_n X (x := A 179) rfl (List.Mem.head _) (s_getR X 179 rfl (c518_ok rfl) rfl rfl (z_load_n X (x := xv) rfl (List.Mem.tail _ (List.Mem.head _)) (z_aald X rw_460 rfl (by first | exact hs5004.1.1 | omega) (show xv < 12 by first | exact oq_0ddfcfee hs5004.1.2 | omega) (by decide) (z_load X (x := ka) rfl (List.Mem.tail _ (List.Mem.tail _ (List.Mem.tail _ (List.Mem.head _)))) (z_load X (x := x5005) rfl (List.Mem.tail _ (List.Mem.tail _ (List.Mem.tail _ (List.Mem.tail _ (List.Mem.head _))))) (z_ast2 X rw_460 rfl (show (xv : Int).toNat < 12 by first | exact oq_9c5fa447 hs5004.1.2 | omega) (by first | exact oq_2a6e3b50 hs5004.2.1 | omega) (show ka < 24 by first | exact oq_8ff7beb9 hs5004.2.2.2.2.2.2.2.1 hs5004.2.2.2.2.1 | omega) (by decide) (wd_gen (fun s5008 hs5008 => ?_))))))))
         have Is5008 : Bd s5008 := eqB hs5008 (rw_st rw_460 Is5004 (show (xv : Int).toNat < 12 by first | exact oq_9c5fa447 hs5004.1.2 | omega) (show (0 : Int) ≤ x5005 ∧ x5005 ≤ 127 by first | exact ⟨oq_beac6eee hne hs5004.2.2.2.2.2.2.2.2.1, oq_df3a814e hs5004.2.2.2.2.2.2.2.2.1⟩ | omega) ⟨by first | exact oq_4784b16d hs5004.2.2.2.2.2.2.2.2.1 | omega, by first | exact oq_fd7c26f0 hs5004.2.2.2.2.2.2.2.2.1 | omega⟩)
         have Fs5008 := eqF hs5008 (fm_C (i := (ka : Int).toNat) (x := Int32.ofInt x5005) Fs5004 ((show ∀ j, j < 12 → 405 + j ∈ _ by decide) (xv : Int).toNat (by first | exact oq_9c5fa447 hs5004.1.2 | omega)))
         have ws5008_90 : iI s5008 90 = iI s5004 90 := eqI hs5008 rfl
         have fs5008 : Fm [] [405, 406, 407, 408, 409, 410, 411, 412, 413, 414, 415, 416] s5004 s5008 := by rw [hs5008]; exact fm_C (fm_rf _ _ _) ((show ∀ j, j < 12 → 405 + j ∈ _ by decide) (xv : Int).toNat (by first | exact oq_9c5fa447 hs5004.1.2 | omega))
         have JRLx_s5008 : RLx s5008 := RLx_fm fs5008 (by decide) JRLx_s5004
         have JFBx_s5008 : FBx m0 s5008 := FBx_fm fs5008 (by decide) Qs5004.1
         have p1_s5008 : iC s5008 (405 + (xv : Int).toNat) (((ka + 1) - 1) : Int).toNat = x5005 := by rw [show (((ka + 1) - 1) : Int) = ka by omega, hs5008]; exact iC_u ⟨by omega, by omega⟩
         have p2_s5008 : iC s5008 404 (x5005 : Int).toNat = iC s5004 404 (x5005 : Int).toNat := eqC hs5008 (iC_a (by omega))
         have p3_s5008 : iC s5008 403 (xv : Int).toNat = iC s5004 403 (xv : Int).toNat := eqC hs5008 (iC_a (by omega))
         have p4_s5008 : iC s5008 404 (iC s5008 (405 + (xv : Int).toNat) (((ka + 1) - 1) : Int).toNat : Int).toNat = iC s5008 403 (xv : Int).toNat - (ka + 1) := by rw [p1_s5008, p2_s5008, p3_s5008]; omega
         refine z_inc X (x := ka) (lv' := [(5, .int (Int32.ofInt (ka + 1))), (0, .ref (A 179)), (1, .int (Int32.ofInt xv)), (4, .int (Int32.ofInt m0)), (6, .int (Int32.ofInt x5005)), (7, .int (Int32.ofInt x5006))]) rfl (by decide) (List.Mem.tail _ (List.Mem.tail _ (List.Mem.tail _ (List.Mem.head _)))) (fun _ h => h) (z_goto X (t := 250) rfl rfl (WS_pq [1, 2, 3, 0] (lv' := [(0, .ref (A 179)), (1, .int (Int32.ofInt xv)), (4, .int (Int32.ofInt m0)), (5, .int (Int32.ofInt (ka + 1)))]) rfl ?_))
         exact ih _ xv m0 (ka + 1) Is5008 Fs5008 JRLx_s5008 JFBx_s5008 (by first | exact ⟨And.intro (hs5004.1.1) (hs5004.1.2), oq_1e1a2df6 hs5004.2.1, oq_41473be0 hs5004.2.2.2.2.2.2.2.1 hs5004.2.2.2.2.1, oq_fed65c02 p3_s5008 hs5004.2.2.2.1, oq_74332778 p3_s5008 hs5004.2.2.2.2.1, oq_808850b7 p3_s5008 hs5004.2.2.2.2.2.2.2.1, p4_s5008⟩ | omega) (by first | exact qk_me hm (by decide) (oq_9dea93e6 hs5004.2.2.2.2.2.2.2.1 hs5004.2.2.2.2.1) | omega) kx
  refine z_aload_n X (x := A 179) rfl (List.Mem.head _) (s_getR X 179 rfl (c518_ok rfl) rfl rfl (z_load_n X (x := x) rfl (List.Mem.tail _ (List.Mem.head _)) (z_aald X rw_189 rfl (by first | exact p0.1 | omega) (show x < 12 by first | exact oq_f36e82a8 p0.2 b1.2 | omega) (by decide) (z_const X rfl (z_ald2 X rw_189 rfl (show (x : Int).toNat < 12 by first | exact oq_2dac6850 p0.2 b1.2 | omega) (by decide) (show 0 < 24 by decide) (by decide) ?_)))))
  have b2 : (0 : Int) ≤ (iC s (166 + (x : Int).toNat) (0 : Int).toNat) ∧ (iC s (166 + (x : Int).toNat) (0 : Int).toNat) ≤ 127 := rw_bd rw_189 I (show (x : Int).toNat < 12 by first | exact oq_2dac6850 p0.2 b1.2 | omega) (show (0 : Int).toNat < 24 by first | exact oq_6c1c98ad | omega)
  refine z_store_n X (lv' := [(2, .int (Int32.ofInt (iC s (166 + (x : Int).toNat) (0 : Int).toNat))), (0, .ref (A 179)), (1, .int (Int32.ofInt x))]) rfl (by decide) (fun _ h => h) (z_aload_n X (x := A 179) rfl (List.Mem.tail _ (List.Mem.head _)) (s_getR X 179 rfl (c518_ok rfl) rfl rfl (z_load_n X (x := x) rfl (List.Mem.tail _ (List.Mem.tail _ (List.Mem.head _))) (z_aald X rw_189 rfl (by first | exact p0.1 | omega) (show x < 12 by first | exact oq_f36e82a8 p0.2 b1.2 | omega) (by decide) ?_))))
  have rl1 := (jRLx (x : Int).toNat (by omega) (by omega)).1
  refine z_aload_n X (x := A 179) rfl (List.Mem.tail _ (List.Mem.head _)) (s_getR X 179 rfl (c518_ok rfl) rfl rfl (z_load_n X (x := x) rfl (List.Mem.tail _ (List.Mem.tail _ (List.Mem.head _))) (z_ald X 185 rfl (c518_ok rfl) rfl (by first | exact p0.1 | omega) (show x < 12 by first | exact oq_f36e82a8 p0.2 b1.2 | omega) (cbig_ok rfl) ?_)))
  have b3 := bc_162 I (show (x).toNat < 12 by first | exact oq_2dac6850 p0.2 b1.2 | omega)
  refine z_const X rfl (z_sub X rfl (z_ald2 X rw_189 rfl (show (x : Int).toNat < 12 by first | exact oq_2dac6850 p0.2 b1.2 | omega) (by omega) (show ((iC s 162 (x).toNat) - 1) < 24 by first | exact oq_19cb6f5b b3.2 | omega) (by decide) ?_))
  have b4 : (0 : Int) ≤ (iC s (166 + (x : Int).toNat) (((iC s 162 (x).toNat) - 1) : Int).toNat) ∧ (iC s (166 + (x : Int).toNat) (((iC s 162 (x).toNat) - 1) : Int).toNat) ≤ 127 := rw_bd rw_189 I (show (x : Int).toNat < 12 by first | exact oq_2dac6850 p0.2 b1.2 | omega) (show (((iC s 162 (x).toNat) - 1) : Int).toNat < 24 by first | exact oq_f976b25c b3.2 | omega)
  refine z_store_n X (lv' := [(3, .int (Int32.ofInt (iC s (166 + (x : Int).toNat) (((iC s 162 (x).toNat) - 1) : Int).toNat))), (2, .int (Int32.ofInt (iC s (166 + (x : Int).toNat) (0 : Int).toNat))), (0, .ref (A 179)), (1, .int (Int32.ofInt x))]) rfl (by decide) (fun _ h => h) (z_aload_n X (x := A 179) rfl (List.Mem.tail _ (List.Mem.tail _ (List.Mem.head _))) (s_getR X 179 rfl (c518_ok rfl) rfl rfl (z_load_n X (x := x) rfl (List.Mem.tail _ (List.Mem.tail _ (List.Mem.tail _ (List.Mem.head _)))) (z_const X rfl (z_ast X 458 rfl (c518_ok rfl) rfl (by first | exact p0.1 | omega) (show x < 12 by first | exact oq_f36e82a8 p0.2 b1.2 | omega) (cbig_ok rfl) (wd_gen (fun s5 hs5 => ?_)))))))
  have Is5 : Bd s5 := eqB hs5 (bd_C I (show (0 : Int) ≤ 0 ∧ 0 ≤ 24 by first | exact ⟨by decide, by decide⟩ | omega) (by decide))
  have Fs5 := eqF hs5 (fm_C F (inl_ok (a := 403) rfl))
  have ws5_90 : iI s5 90 = iI s 90 := eqI hs5 rfl
  have cw6 : iC s5 399 ((iC s (166 + (x : Int).toNat) (((iC s 162 (x).toNat) - 1) : Int).toNat)).toNat = iC s 399 ((iC s (166 + (x : Int).toNat) (((iC s 162 (x).toNat) - 1) : Int).toNat)).toNat := eqC hs5 (iC_a (by omega))
  have fs5 : Fm [] [403] s s5 := by rw [hs5]; exact fm_C (fm_rf _ _ _) (show 403 ∈ _ by decide)
  have JRLx_s5 : RLx s5 := RLx_fm fs5 (by decide) jRLx
  refine z_aload_n X (x := A 179) rfl (List.Mem.tail _ (List.Mem.tail _ (List.Mem.head _))) (s_getR X 179 rfl (c518_ok rfl) rfl rfl (z_load_n X (x := (iC s (166 + (x : Int).toNat) (0 : Int).toNat)) rfl (List.Mem.tail _ (List.Mem.head _)) (z_zald X 454 rfl (c518_ok rfl) rfl (by first | exact b2.1 | omega) (show (iC s (166 + (x : Int).toNat) (0 : Int).toNat) < 128 by first | exact oq_31b2bf10 b2.2 | omega) (cbig_ok rfl) ?_)))
  have b7 := bc_399 Is5 (show ((iC s (166 + (x : Int).toNat) (0 : Int).toNat)).toNat < 128 by first | exact oq_c7f4e9c1 b2.2 | omega)
  refine z_if_ne X (t := 50) rfl rfl (rng_to _) (fun g8 => ?_) (fun g8 => ?_)
  ·
    exact w_vret X.1 q hRt (ax_d X (show cdA 281 50 = some (.return_, 1, 0, 0, 0) from rfl)) (Nat.zero_le _) (Nat.zero_le _) ⟨_, rfl, Is5, Fs5, JRLx_s5, rfl, trivial⟩
  ·
    as_aux_lemma =>
     refine z_aload_n X (x := A 179) rfl (List.Mem.tail _ (List.Mem.tail _ (List.Mem.head _))) (s_getR X 179 rfl (c518_ok rfl) rfl rfl (z_load_n X (x := (iC s (166 + (x : Int).toNat) (((iC s 162 (x).toNat) - 1) : Int).toNat)) rfl (List.Mem.head _) (z_zald X 454 rfl (c518_ok rfl) rfl (by first | exact b4.1 | omega) (show (iC s (166 + (x : Int).toNat) (((iC s 162 (x).toNat) - 1) : Int).toNat) < 128 by first | exact oq_31b2bf10 b4.2 | omega) (cbig_ok rfl) ?_)))
     have b9 := bc_399 Is5 (show ((iC s (166 + (x : Int).toNat) (((iC s 162 (x).toNat) - 1) : Int).toNat)).toNat < 128 by first | exact oq_c7f4e9c1 b4.2 | omega)
     refine z_if_eq X (t := 51) rfl rfl (rng_to _) (fun g10 => ?_) (fun g10 => ?_)
     ·
       refine z_const X rfl (z_store X (lv' := [(4, .int (Int32.ofInt 0)), (3, .int (Int32.ofInt (iC s (166 + (x : Int).toNat) (((iC s 162 (x).toNat) - 1) : Int).toNat))), (2, .int (Int32.ofInt (iC s (166 + (x : Int).toNat) (0 : Int).toNat))), (0, .ref (A 179)), (1, .int (Int32.ofInt x))]) rfl (by decide) (fun _ h => h) (WS_pq [3, 4, 2, 1, 0] (lv' := [(0, .ref (A 179)), (1, .int (Int32.ofInt x)), (2, .int (Int32.ofInt (iC s (166 + (x : Int).toNat) (0 : Int).toNat))), (3, .int (Int32.ofInt (iC s (166 + (x : Int).toNat) (((iC s 162 (x).toNat) - 1) : Int).toNat))), (4, .int (Int32.ofInt 0))]) rfl (L54 ((128 - 0 : Int).toNat + 1) s5 x (iC s (166 + (x : Int).toNat) (0 : Int).toNat) (iC s (166 + (x : Int).toNat) (((iC s 162 (x).toNat) - 1) : Int).toNat) 0 Is5 Fs5 JRLx_s5 (fun j _ h => absurd h (by omega)) (by first | exact ⟨And.intro (p0.1) (oq_e4d7f3c5 p0.2 b1.2), And.intro (b2.1) (b2.2), And.intro (b4.1) (b4.2), by decide, by decide, g10⟩ | omega) (Nat.lt_succ_self _) ?_)))
       intro s11 x12 Is11 Fs11 JRLx_s11 Qs11 hs11
       have b13 := bi_90 Is11
       refine z_aload_n X (x := A 179) rfl (List.Mem.head _) (s_getR X 179 rfl (c518_ok rfl) rfl rfl (z_load_n X (x := (iC s (166 + (x : Int).toNat) (((iC s 162 (x).toNat) - 1) : Int).toNat)) rfl (List.Mem.tail _ (List.Mem.tail _ (List.Mem.tail _ (List.Mem.head _)))) (z_const X rfl (z_ast X 459 rfl (c518_ok rfl) rfl (by first | exact hs11.2.2.1.1 | omega) (show (iC s (166 + (x : Int).toNat) (((iC s 162 (x).toNat) - 1) : Int).toNat) < 128 by first | exact oq_31b2bf10 hs11.2.2.1.2 | omega) (cbig_ok rfl) (wd_gen (fun s14 hs14 => ?_))))))
       have Is14 : Bd s14 := eqB hs14 (bd_C Is11 (show ((-1) : Int) ≤ 0 ∧ 0 ≤ 127 by first | exact ⟨by decide, by decide⟩ | omega) (by decide))
       have Fs14 := eqF hs14 (fm_C Fs11 (inl_ok (a := 404) rfl))
       have ws14_90 : iI s14 90 = iI s11 90 := eqI hs14 rfl
       have cw15 : iC s14 399 ((iC s (166 + (x : Int).toNat) (((iC s 162 (x).toNat) - 1) : Int).toNat)).toNat = iC s11 399 ((iC s (166 + (x : Int).toNat) (((iC s 162 (x).toNat) - 1) : Int).toNat)).toNat := eqC hs14 (iC_a (by omega))
       have fs14 : Fm [] [404] s11 s14 := by rw [hs14]; exact fm_C (fm_rf _ _ _) (show 404 ∈ _ by decide)
       have JRLx_s14 : RLx s14 := RLx_fm fs14 (by decide) JRLx_s11
       refine z_aload_n X (x := A 179) rfl (List.Mem.head _) (s_getR X 179 rfl (c518_ok rfl) rfl rfl (z_const X rfl (z_load_n X (x := (iC s (166 + (x : Int).toNat) (((iC s 162 (x).toNat) - 1) : Int).toNat)) rfl (List.Mem.tail _ (List.Mem.tail _ (List.Mem.tail _ (List.Mem.head _)))) (z_ast X 260 rfl (c518_ok rfl) rfl (by decide) (show 0 < 128 by decide) (cbig_ok rfl) (wd_gen (fun s16 hs16 => ?_))))))
       have Is16 : Bd s16 := eqB hs16 (bd_C Is14 (show (0 : Int) ≤ (iC s (166 + (x : Int).toNat) (((iC s 162 (x).toNat) - 1) : Int).toNat) ∧ (iC s (166 + (x : Int).toNat) (((iC s 162 (x).toNat) - 1) : Int).toNat) ≤ 127 by first | exact ⟨hs11.2.2.1.1, hs11.2.2.1.2⟩ | omega) (rng_to _))
       have Fs16 := eqF hs16 (fm_C Fs14 (inl_ok (a := 232) rfl))
       have ws16_90 : iI s16 90 = iI s14 90 := eqI hs16 rfl
       have cw17 : iC s16 399 ((iC s (166 + (x : Int).toNat) (((iC s 162 (x).toNat) - 1) : Int).toNat)).toNat = iC s14 399 ((iC s (166 + (x : Int).toNat) (((iC s 162 (x).toNat) - 1) : Int).toNat)).toNat := eqC hs16 (iC_a (by omega))
       have fs16 : Fm [] [232] s14 s16 := by rw [hs16]; exact fm_C (fm_rf _ _ _) (show 232 ∈ _ by decide)
       have JRLx_s16 : RLx s16 := RLx_fm fs16 (by decide) JRLx_s14
       refine z_const X rfl (z_store X (lv' := [(4, .int (Int32.ofInt 1)), (0, .ref (A 179)), (1, .int (Int32.ofInt x)), (2, .int (Int32.ofInt (iC s (166 + (x : Int).toNat) (0 : Int).toNat))), (3, .int (Int32.ofInt (iC s (166 + (x : Int).toNat) (((iC s 162 (x).toNat) - 1) : Int).toNat)))]) rfl (by decide) (fun _ h => h) (z_const X rfl (z_store X (lv' := [(5, .int (Int32.ofInt 0)), (4, .int (Int32.ofInt 1)), (0, .ref (A 179)), (1, .int (Int32.ofInt x)), (2, .int (Int32.ofInt (iC s (166 + (x : Int).toNat) (0 : Int).toNat))), (3, .int (Int32.ofInt (iC s (166 + (x : Int).toNat) (((iC s 162 (x).toNat) - 1) : Int).toNat)))]) rfl (by decide) (fun _ h => h) (WS_pq [2, 3, 4, 5, 1, 0] (lv' := [(0, .ref (A 179)), (1, .int (Int32.ofInt x)), (2, .int (Int32.ofInt (iC s (166 + (x : Int).toNat) (0 : Int).toNat))), (3, .int (Int32.ofInt (iC s (166 + (x : Int).toNat) (((iC s 162 (x).toNat) - 1) : Int).toNat))), (4, .int (Int32.ofInt 1)), (5, .int (Int32.ofInt 0))]) rfl ?_))))
       have hB21 : FBx 1 s16 := FB_0 (b := (iC s (166 + (x : Int).toNat) (((iC s 162 (x).toNat) - 1) : Int).toNat)) (by omega) (fun j hj => Qs11 j hj (by omega)) (by omega) hs14 hs16
       refine L96 ((128 - 0 : Int).toNat + 1) s16 x (iC s (166 + (x : Int).toNat) (0 : Int).toNat) (iC s (166 + (x : Int).toNat) (((iC s 162 (x).toNat) - 1) : Int).toNat) 1 0 Is16 Fs16 JRLx_s16 hB21 (by first | exact ⟨And.intro (hs11.1.1) (hs11.1.2), And.intro (hs11.2.1.1) (hs11.2.1.2), And.intro (hs11.2.2.1.1) (hs11.2.2.1.2), by decide, by decide, by decide, by decide⟩ | omega) (Nat.lt_succ_self _) ?_
       intro s18 x19 x20 Is18 Fs18 JRLx_s18 Qs18 hs18
       have b22 := bi_90 Is18
       refine z_aload_n X (x := A 179) rfl (List.Mem.head _) (s_getR X 179 rfl (c518_ok rfl) rfl rfl (z_load_n X (x := (iC s (166 + (x : Int).toNat) (0 : Int).toNat)) rfl (List.Mem.tail _ (List.Mem.tail _ (List.Mem.head _))) (z_ald X 459 rfl (c518_ok rfl) rfl (by first | exact hs18.2.1.1 | omega) (show (iC s (166 + (x : Int).toNat) (0 : Int).toNat) < 128 by first | exact oq_31b2bf10 hs18.2.1.2 | omega) (cbig_ok rfl) ?_)))
       have b23 := bc_404 Is18 (show ((iC s (166 + (x : Int).toNat) (0 : Int).toNat)).toNat < 128 by first | exact oq_c7f4e9c1 hs18.2.1.2 | omega)
       refine z_const X rfl (z_icmp_eq X (t := 223) rfl rfl (rng_to _) (by decide) (fun g24 => ?_) (fun g24 => ?_))
       ·
         exact w_vret X.1 q hRt (ax_d X (show cdA 281 223 = some (.return_, 1, 0, 0, 0) from rfl)) (Nat.zero_le _) (Nat.zero_le _) ⟨_, rfl, Is18, Fs18, JRLx_s18, rfl, trivial⟩
       ·
         as_aux_lemma =>
          refine z_aload_n X (x := A 179) rfl (List.Mem.head _) (s_getR X 179 rfl (c518_ok rfl) rfl rfl (z_load_n X (x := (iC s (166 + (x : Int).toNat) (0 : Int).toNat)) rfl (List.Mem.tail _ (List.Mem.tail _ (List.Mem.head _))) (z_ald X 459 rfl (c518_ok rfl) rfl (by first | exact hs18.2.1.1 | omega) (show (iC s (166 + (x : Int).toNat) (0 : Int).toNat) < 128 by first | exact oq_31b2bf10 hs18.2.1.2 | omega) (cbig_ok rfl) ?_)))
          have b25 := bc_404 Is18 (show ((iC s (166 + (x : Int).toNat) (0 : Int).toNat)).toNat < 128 by first | exact oq_c7f4e9c1 hs18.2.1.2 | omega)
          refine z_bipush X rfl (z_icmp_le X (t := 224) rfl rfl (rng_to _) (by decide) (fun g26 => ?_) (fun g26 => ?_))
          ·
            refine z_aload_n X (x := A 179) rfl (List.Mem.head _) (s_getR X 179 rfl (c518_ok rfl) rfl rfl (z_load_n X (x := x) rfl (List.Mem.tail _ (List.Mem.head _)) (z_aload_n X (x := A 179) rfl (List.Mem.head _) (s_getR X 179 rfl (c518_ok rfl) rfl rfl (z_load_n X (x := (iC s (166 + (x : Int).toNat) (0 : Int).toNat)) rfl (List.Mem.tail _ (List.Mem.tail _ (List.Mem.head _))) (z_ald X 459 rfl (c518_ok rfl) rfl (by first | exact hs18.2.1.1 | omega) (show (iC s (166 + (x : Int).toNat) (0 : Int).toNat) < 128 by first | exact oq_31b2bf10 hs18.2.1.2 | omega) (cbig_ok rfl) ?_))))))
            have b27 := bc_404 Is18 (show ((iC s (166 + (x : Int).toNat) (0 : Int).toNat)).toNat < 128 by first | exact oq_c7f4e9c1 hs18.2.1.2 | omega)
            refine z_const X rfl (z_add X rfl (z_ast X 458 rfl (c518_ok rfl) rfl (by first | exact hs18.1.1 | omega) (show x < 12 by first | exact oq_0ddfcfee hs18.1.2 | omega) (cbig_ok rfl) (wd_gen (fun s28 hs28 => ?_))))
            have Is28 : Bd s28 := eqB hs28 (bd_C Is18 (show (0 : Int) ≤ ((iC s18 404 ((iC s (166 + (x : Int).toNat) (0 : Int).toNat)).toNat) + 1) ∧ ((iC s18 404 ((iC s (166 + (x : Int).toNat) (0 : Int).toNat)).toNat) + 1) ≤ 24 by first | exact ⟨oq_4554f0f1 b27.1, oq_3d4d89a6 g26⟩ | omega) ⟨by first | exact oq_22f29dd0 b27.1 | omega, by first | exact oq_3e466f4f b27.2 | omega⟩)
            have Fs28 := eqF hs28 (fm_C Fs18 (inl_ok (a := 403) rfl))
            have ws28_90 : iI s28 90 = iI s18 90 := eqI hs28 rfl
            have cw29 : iC s28 399 ((iC s (166 + (x : Int).toNat) (((iC s 162 (x).toNat) - 1) : Int).toNat)).toNat = iC s18 399 ((iC s (166 + (x : Int).toNat) (((iC s 162 (x).toNat) - 1) : Int).toNat)).toNat := eqC hs28 (iC_a (by first | (clear g24; omega) | omega))
            have fs28 : Fm [] [403] s18 s28 := by rw [hs28]; exact fm_C (fm_rf _ _ _) (show 403 ∈ _ by decide)
            have JRLx_s28 : RLx s28 := RLx_fm fs28 (by decide) JRLx_s18
            have JFBx_s28 : FBx x19 s28 := FBx_fm fs28 (by decide) Qs18
            have m1_s28 : iC s28 403 (x : Int).toNat = iC s18 404 ((iC s (166 + (x : Int).toNat) (0 : Int).toNat) : Int).toNat + 1 := eqC hs28 (iC_u ⟨by first | (clear g24; omega) | omega, by first | (clear g24; omega) | omega⟩)
            have m2_s28 : iC s28 404 ((iC s (166 + (x : Int).toNat) (0 : Int).toNat) : Int).toNat = iC s18 404 ((iC s (166 + (x : Int).toNat) (0 : Int).toNat) : Int).toNat := eqC hs28 (iC_a (by decide))
            refine z_aload_n X (x := A 179) rfl (List.Mem.head _) (s_getR X 179 rfl (c518_ok rfl) rfl rfl (z_load_n X (x := x) rfl (List.Mem.tail _ (List.Mem.head _)) (z_aald X rw_460 rfl (by first | exact hs18.1.1 | omega) (show x < 12 by first | exact oq_0ddfcfee hs18.1.2 | omega) (by decide) (z_const X rfl (z_load_n X (x := (iC s (166 + (x : Int).toNat) (0 : Int).toNat)) rfl (List.Mem.tail _ (List.Mem.tail _ (List.Mem.head _))) (z_ast2 X rw_460 rfl (show (x : Int).toNat < 12 by first | exact oq_9c5fa447 hs18.1.2 | omega) (by decide) (show 0 < 24 by decide) (by decide) (wd_gen (fun s30 hs30 => ?_))))))))
            have Is30 : Bd s30 := eqB hs30 (rw_st rw_460 Is28 (show (x : Int).toNat < 12 by first | exact oq_9c5fa447 hs18.1.2 | omega) (show (0 : Int) ≤ (iC s (166 + (x : Int).toNat) (0 : Int).toNat) ∧ (iC s (166 + (x : Int).toNat) (0 : Int).toNat) ≤ 127 by first | exact ⟨hs18.2.1.1, hs18.2.1.2⟩ | omega) (rng_to _))
            have Fs30 := eqF hs30 (fm_C (i := (0 : Int).toNat) (x := Int32.ofInt (iC s (166 + (x : Int).toNat) (0 : Int).toNat)) Fs28 ((show ∀ j, j < 12 → 405 + j ∈ _ by decide) (x : Int).toNat (by first | exact oq_9c5fa447 hs18.1.2 | omega)))
            have ws30_90 : iI s30 90 = iI s28 90 := eqI hs30 rfl
            have cw31 : iC s30 399 ((iC s (166 + (x : Int).toNat) (((iC s 162 (x).toNat) - 1) : Int).toNat)).toNat = iC s28 399 ((iC s (166 + (x : Int).toNat) (((iC s 162 (x).toNat) - 1) : Int).toNat)).toNat := eqC hs30 (iC_a (by first | (clear g24; omega) | omega))
            have fs30 : Fm [] [405, 406, 407, 408, 409, 410, 411, 412, 413, 414, 415, 416] s28 s30 := by rw [hs30]; exact fm_C (fm_rf _ _ _) ((show ∀ j, j < 12 → 405 + j ∈ _ by decide) (x : Int).toNat (by first | exact oq_9c5fa447 hs18.1.2 | omega))
            have JRLx_s30 : RLx s30 := RLx_fm fs30 (by decide) JRLx_s28
            have JFBx_s30 : FBx x19 s30 := FBx_fm fs30 (by decide) JFBx_s28
            have p1_s30 : iC s30 (405 + (x : Int).toNat) ((1 - 1) : Int).toNat = (iC s (166 + (x : Int).toNat) (0 : Int).toNat) := eqC hs30 (iC_u ⟨by first | (clear g24; omega) | omega, by first | (clear g24; omega) | omega⟩)
            have p2_s30 : iC s30 404 ((iC s (166 + (x : Int).toNat) (0 : Int).toNat) : Int).toNat = iC s28 404 ((iC s (166 + (x : Int).toNat) (0 : Int).toNat) : Int).toNat := eqC hs30 (iC_a (by first | (clear g24; omega) | omega))
            have p3_s30 : iC s30 403 (x : Int).toNat = iC s28 403 (x : Int).toNat := eqC hs30 (iC_a (by first | (clear g24; omega) | omega))
            have p4_s30 : iC s30 404 (iC s30 (405 + (x : Int).toNat) ((1 - 1) : Int).toNat : Int).toNat = iC s30 403 (x : Int).toNat - 1 := by rw [p1_s30, p2_s30, p3_s30]; omega
            refine z_const X rfl (z_store X (lv' := [(5, .int (Int32.ofInt 1)), (0, .ref (A 179)), (1, .int (Int32.ofInt x)), (2, .int (Int32.ofInt (iC s (166 + (x : Int).toNat) (0 : Int).toNat))), (3, .int (Int32.ofInt (iC s (166 + (x : Int).toNat) (((iC s 162 (x).toNat) - 1) : Int).toNat))), (4, .int (Int32.ofInt x19))]) rfl (by decide) (fun _ h => h) (WS_pq [1, 2, 5, 0] (lv' := [(0, .ref (A 179)), (1, .int (Int32.ofInt x)), (4, .int (Int32.ofInt x19)), (5, .int (Int32.ofInt 1))]) rfl (L250 ((24 - 1 : Int).toNat + 1) s30 x x19 1 Is30 Fs30 JRLx_s30 JFBx_s30 (by first | exact ⟨And.intro (hs18.1.1) (hs18.1.2), by decide, by decide, oq_9835d0b6 p3_s30 m1_s28 b27.1 g24, oq_a57391d3 p3_s30 m1_s28 g26, oq_9835d0b6 p3_s30 m1_s28 b27.1 g24, p4_s30⟩ | omega) (Nat.lt_succ_self _) ?_)))
            intro s32 x33 Is32 Fs32 JRLx_s32 Qs32 hs32
            have b34 := bi_90 Is32
            exact w_vret X.1 q hRt (ax_d X (show cdA 281 376 = some (.return_, 1, 0, 0, 0) from rfl)) (Nat.zero_le _) (Nat.zero_le _) ⟨_, rfl, Is32, Fs32, JRLx_s32, rfl, trivial⟩
          ·
            exact w_vret X.1 q hRt (ax_d X (show cdA 281 223 = some (.return_, 1, 0, 0, 0) from rfl)) (Nat.zero_le _) (Nat.zero_le _) ⟨_, rfl, Is18, Fs18, JRLx_s18, rfl, trivial⟩
     ·
       exact w_vret X.1 q hRt (ax_d X (show cdA 281 50 = some (.return_, 1, 0, 0, 0) from rfl)) (Nat.zero_le _) (Nat.zero_le _) ⟨_, rfl, Is5, Fs5, JRLx_s5, rfl, trivial⟩
end M62
end
section
theorem oq_86ef0b17 {a0 a1 : Int} (h0 : a0 = a1) (h1 : a1 ≤ 8) : a0 ≤ 8 := by omega
theorem oq_d7ce4408 {a0 a1 a2 : Int} (h0 : a0 = a1) (h1 : a1 = a2) (h2 : a2 ≤ 8) : a0 ≤ 8 := by omega
/-! The model: storms mended -/
def HMk (k : Int) (s : PS) : Prop := ∀ i : Nat, i < 8 → (i : Int) < k → 1 ≤ iC s 401 (iC s 400 i).toNat ∧ (iC s 401 (iC s 400 i).toNat = 1 → 1 ≤ iC s 403 (iC s 400 i).toNat)
def HXa (a : Int) (s : PS) : Prop := ∀ i : Nat, i < 8 → (i : Int) < iI s 105 → iC s 400 i < a ∧ ∀ j, j < i → iC s 400 j < iC s 400 i
def HX (s : PS) : Prop := HXa (iI s 90) s
def HM (s : PS) : Prop := HX s ∧ HMk (iI s 105) s
theorem HMk_fm {L M : List Nat} {s t : PS} {k : Int} (F : Fm L M s t) (h : 401 ∉ M ∧ 400 ∉ M ∧ 403 ∉ M) (r : HMk k s) : HMk k t := fun i hi hk => by
  rw [fm_c F h.1, fm_c F h.2.1, fm_c F h.2.2]; exact r i hi hk
theorem HXa_fm {L M : List Nat} {s t : PS} {a : Int} (F : Fm L M s t) (h : 105 ∉ L ∧ 400 ∉ M) (r : HXa a s) : HXa a t := fun i hi hk => by
  rw [fm_i F h.1] at hk
  refine ⟨by rw [fm_c F h.2]; exact (r i hi hk).1, fun j hj => by rw [fm_c F h.2, fm_c F h.2]; exact (r i hi hk).2 j hj⟩
theorem HX_fm {L M : List Nat} {s t : PS} (F : Fm L M s t) (h : 90 ∉ L ∧ 105 ∉ L ∧ 400 ∉ M) (r : HX s) : HX t := by
  unfold HX at r ⊢
  rw [fm_i F h.1]; exact HXa_fm F h.2 r
theorem HM_fm {L M : List Nat} {s t : PS} (F : Fm L M s t) (h : 90 ∉ L ∧ 105 ∉ L ∧ 400 ∉ M ∧ 401 ∉ M ∧ 403 ∉ M) (r : HM s) : HM t :=
  ⟨HX_fm F ⟨h.1, h.2.1, h.2.2.1⟩ r.1, by rw [fm_i F h.2.1]; exact HMk_fm F ⟨h.2.2.2.1, h.2.2.1, h.2.2.2.2⟩ r.2⟩
theorem HXa_le {s : PS} {a b : Int} (h : a ≤ b) (r : HXa a s) : HXa b s := fun i hi hk => ⟨by have := (r i hi hk).1; omega, (r i hi hk).2⟩
theorem HMk_le {s : PS} {a b : Int} (h : a ≤ b) (r : HMk b s) : HMk a s := fun i hi hk => r i hi (by omega)
theorem HXa_0 {s : PS} {a : Int} (h : iI s 105 = 0) : HXa a s := fun i _ hk => by omega
/-- one more is hit -/
theorem HXa_up {t t1 t2 : PS} {a n : Int} (I : Bd t) (r : HXa a t) (hn : iI t 105 = n) (h0 : 0 ≤ n ∧ n ≤ 7) (ha : 0 ≤ a ∧ a ≤ 11) (e1 : t1 = uC t 400 (n : Int).toNat (Int32.ofInt a)) (e2 : t2 = uI t1 105 (Int32.ofInt (n + 1))) : HXa (a + 1) t2 := fun i hi hk => by
  have ek : iI t2 105 = n + 1 := by rw [e2]; exact iI_u ⟨by omega, by omega⟩
  have ec : ∀ j, iC t2 400 j = iC t1 400 j := fun j => by rw [e2]; rfl
  rw [ek] at hk
  have old : ∀ j : Nat, j ≠ (n : Int).toNat → iC t1 400 j = iC t 400 j := fun j hj => by rw [e1]; exact iC_n hj
  have new : iC t1 400 (n : Int).toNat = a := by rw [e1]; exact iC_u ⟨by omega, by omega⟩
  by_cases e : i = (n : Int).toNat
  · subst e
    refine ⟨by rw [ec, new]; omega, fun j hj => ?_⟩
    rw [ec, ec, new, old j (by omega)]
    exact (r j (by omega) (by omega)).1
  · obtain ⟨r1, r2⟩ := r i hi (by omega)
    refine ⟨by rw [ec, old i e]; omega, fun j hj => ?_⟩
    rw [ec, ec, old i e, old j (by omega)]
    exact r2 j hj
theorem HXa_more {t t2 : PS} {a n : Int} (r : HXa a t) (hn : iI t 105 = n) (h0 : 8 ≤ n ∧ n ≤ 11) (e2 : t2 = uI t 105 (Int32.ofInt (n + 1))) : HXa (a + 1) t2 := fun i hi hk => by
  have ec : ∀ j, iC t2 400 j = iC t 400 j := fun j => by rw [e2]; rfl
  obtain ⟨r1, r2⟩ := r i hi (by omega)
  exact ⟨by rw [ec]; omega, fun j hj => by rw [ec, ec]; exact r2 j hj⟩
/-- a mend is chosen -/
theorem HMk_up {t t1 : PS} {k m : Int} (I : Bd t) (hx : HX t) (r : HMk k t) (hk : 0 ≤ k ∧ k ≤ 7) (hk2 : k < iI t 105) (hm : 1 ≤ m ∧ m ≤ 3) (h1 : m = 1 → 1 ≤ iC t 403 (iC t 400 (k : Int).toNat).toNat) (e1 : t1 = uC t 401 (iC t 400 (k : Int).toNat).toNat (Int32.ofInt m)) : HMk (k + 1) t1 := fun i hi hik => by
  have a1 : ∀ j, iC t1 400 j = iC t 400 j := fun j => by rw [e1]; exact iC_a (by decide)
  have a2 : ∀ j, iC t1 403 j = iC t 403 j := fun j => by rw [e1]; exact iC_a (by decide)
  have new : iC t1 401 (iC t 400 (k : Int).toNat).toNat = m := by rw [e1]; exact iC_u ⟨by omega, by omega⟩
  by_cases e : i = (k : Int).toNat
  · subst e
    rw [a1, a2, new]
    exact ⟨hm.1, h1⟩
  · have hlt := (hx (k : Int).toNat (by omega) (by omega)).2 i (by omega)
    have b1 : 0 ≤ iC t 400 i ∧ iC t 400 i ≤ 11 := I.2 400 i hi
    rw [a1, a2, show iC t1 401 (iC t 400 i).toNat = iC t 401 (iC t 400 i).toNat by rw [e1]; exact iC_n (by omega)]
    exact r i hi (by omega)
theorem HMk_off {t t1 : PS} {k : Int} (I : Bd t) (hx : HX t) (r : HMk k t) (hk : 0 ≤ k ∧ k ≤ 7) (hk2 : k < iI t 105) (e1 : t1 = uC t 401 (iC t 400 (k : Int).toNat).toNat (Int32.ofInt 0)) : HMk k t1 := fun i hi hik => by
  have a1 : ∀ j, iC t1 400 j = iC t 400 j := fun j => by rw [e1]; exact iC_a (by decide)
  have a2 : ∀ j, iC t1 403 j = iC t 403 j := fun j => by rw [e1]; exact iC_a (by decide)
  have hlt := (hx (k : Int).toNat (by omega) (by omega)).2 i (by omega)
  have b1 : 0 ≤ iC t 400 i ∧ iC t 400 i ≤ 11 := I.2 400 i hi
  rw [a1, a2, show iC t1 401 (iC t 400 i).toNat = iC t 401 (iC t 400 i).toNat by rw [e1]; exact iC_n (by omega)]
  exact r i hi hik
theorem NW1_st {s : PS} {a i j : Nat} {x : Int32} (ha : (202 ≠ a ∨ j ≠ i) ∧ 216 + j ≠ a) (r : NW1 s j) : NW1 (uC s a i x) j := by
  have e : iC (uC s a i x) 202 j = iC s 202 j := by
    by_cases q : 202 = a
    · subst q; exact iC_n (ha.1.resolve_left (fun z => z rfl))
    · exact iC_a q
  exact ⟨by rw [e]; exact r.1, fun c hc => by rw [e, iC_a ha.2]; exact r.2 c hc⟩
/-- all streams but one are heard as they are -/
def NWo (b : Int) (t : PS) : Prop := ∀ j : Nat, j < 12 → (j : Int) < iI t 90 → j ≠ (b : Int).toNat → NW1 t j
section M63
variable {l : Launch} {s0 : State} {D : va_G} {tys : List (ClassId × FieldType)} {a0 : Array Value} {A : Nat → Nat} {dT : Nat → ClassId} {s : PS}
set_option maxRecDepth 4000 in
theorem k_asMended (G : GX l s0 D tys a0 dT) (I : Bd s) (jRLx : RLx s) (jHM : HM s) {x : Int} (p0 : 0 ≤ x ∧ x ≤ 23) (p1 : iI s 105 ≤ 8) : CT l s0 D A dT 284 (rmN 284) [.ref (A 179), .int (Int32.ofInt x)] s (fun o t => Bd t ∧ Fm [] [202, 204, 205, 206, 207, 208, 209, 210, 211, 212, 213, 214, 215, 216, 217, 218, 219, 220, 221, 222, 223, 224, 225, 226, 227, 203] s t ∧ RLx t ∧ NW t ∧ o = .inl none ∧ (True)) := by
  refine ct_of G (by decide) (Nat.le_of_ble_eq_true rfl) (fun k X E hRt hXt q => ?_)
  show WS k 0 [(0, .ref (A 179)), (1, .int (Int32.ofInt x))] [] _ 0 0
  have F : Fm [] [202, 204, 205, 206, 207, 208, 209, 210, 211, 212, 213, 214, 215, 216, 217, 218, 219, 220, 221, 222, 223, 224, 225, 226, 227, 203] s s := fm_rf _ _ s
  have b1 := bi_105 I
  have b2 := bi_90 I
  have L57 : ∀ (n : Nat) (t : PS) (xv iv bv c : Int), Bd t → Fm [] [202, 204, 205, 206, 207, 208, 209, 210, 211, 212, 213, 214, 215, 216, 217, 218, 219, 220, 221, 222, 223, 224, 225, 226, 227, 203] s t → RLx t → HM t → (NWo bv t ∧ ∀ i : Nat, i < 128 → (i : Int) < c → iC t (216 + (bv : Int).toNat) i < iC t 202 (bv : Int).toNat) → ((0 ≤ iv ∧ iv < iI t 105) ∧ iI t 105 ≤ 8 ∧ (0 ≤ bv ∧ bv < iI t 90) ∧ bv ≤ 11 ∧ iC t 202 (bv : Int).toNat = iC t 403 (bv : Int).toNat ∧ 1 ≤ iC t 403 (bv : Int).toNat ∧ 0 ≤ c ∧ c ≤ 128) → (128 - c : Int).toNat < n → (∀ (t' : PS) (c' : Int), Bd t' → Fm [] [202, 204, 205, 206, 207, 208, 209, 210, 211, 212, 213, 214, 215, 216, 217, 218, 219, 220, 221, 222, 223, 224, 225, 226, 227, 203] s t' → RLx t' → HM t' → (NWo bv t' ∧ ∀ i : Nat, i < 128 → (i : Int) < c' → iC t' (216 + (bv : Int).toNat) i < iC t' 202 (bv : Int).toNat) → ((0 ≤ iv ∧ iv < iI t' 105) ∧ iI t' 105 ≤ 8 ∧ (0 ≤ bv ∧ bv < iI t' 90) ∧ bv ≤ 11 ∧ iC t' 202 (bv : Int).toNat = iC t' 403 (bv : Int).toNat ∧ 1 ≤ iC t' 403 (bv : Int).toNat ∧ 128 ≤ c') → WS k 81 [(0, .ref (A 179)), (1, .int (Int32.ofInt xv)), (2, .int (Int32.ofInt iv)), (3, .int (Int32.ofInt bv)), (4, .int (Int32.ofInt c'))] [] (Wd A dT t') 0 0) → WS k 57 [(0, .ref (A 179)), (1, .int (Int32.ofInt xv)), (2, .int (Int32.ofInt iv)), (3, .int (Int32.ofInt bv)), (4, .int (Int32.ofInt c))] [] (Wd A dT t) 0 0 := by
    intro n
    induction n with
    | zero =>
      intro t xv iv bv c I F jjRLx jjHM hq hi hm kx
      exact absurd hm (Nat.not_lt_zero _)
    | succ n ih =>
      intro t xv iv bv c I F jjRLx jjHM hq hi hm kx
      have b1001 := bi_105 I
      have b1002 := bi_90 I
      refine z_load X (x := c) rfl (List.Mem.tail _ (List.Mem.tail _ (List.Mem.tail _ (List.Mem.tail _ (List.Mem.head _))))) (z_sipush X rfl (z_icmp_ge X (t := 81) rfl rfl ⟨by first | exact oq_fa4e5087 hi.2.2.2.2.2.2.1 | omega, by first | exact oq_4ee82282 hi.2.2.2.2.2.2.2 | omega⟩ (by decide) (fun g1003 => ?_) (fun g1003 => ?_)))
      ·
        refine WS_pq [0, 1, 2, 3, 4] (lv' := [(0, .ref (A 179)), (1, .int (Int32.ofInt xv)), (2, .int (Int32.ofInt iv)), (3, .int (Int32.ofInt bv)), (4, .int (Int32.ofInt c))]) rfl ?_
        exact kx _ c I F jjRLx jjHM hq (by first | exact ⟨And.intro (hi.1.1) (hi.1.2), hi.2.1, And.intro (hi.2.2.1.1) (hi.2.2.1.2), hi.2.2.2.1, hi.2.2.2.2.1, hi.2.2.2.2.2.1, g1003⟩ | omega)
      ·
        refine z_aload_n X (x := A 179) rfl (List.Mem.head _) (s_getR X 179 rfl (c518_ok rfl) rfl rfl (z_load_n X (x := bv) rfl (List.Mem.tail _ (List.Mem.tail _ (List.Mem.tail _ (List.Mem.head _)))) (z_aald X rw_243 rfl (by first | exact hi.2.2.1.1 | omega) (show bv < 12 by first | exact oq_0ddfcfee hi.2.2.2.1 | omega) (by decide) (z_load X (x := c) rfl (List.Mem.tail _ (List.Mem.tail _ (List.Mem.tail _ (List.Mem.tail _ (List.Mem.head _))))) (z_const X rfl (z_ast2 X rw_243 rfl (show (bv : Int).toNat < 12 by first | exact oq_9c5fa447 hi.2.2.2.1 | omega) (by first | exact hi.2.2.2.2.2.2.1 | omega) (show c < 128 by first | exact g1003 | omega) (by decide) (wd_gen (fun s1004 hs1004 => ?_))))))))
        have Is1004 : Bd s1004 := eqB hs1004 (rw_st rw_243 I (show (bv : Int).toNat < 12 by first | exact oq_9c5fa447 hi.2.2.2.1 | omega) (show ((-1) : Int) ≤ (-1) ∧ (-1) ≤ 23 by first | exact ⟨by decide, by decide⟩ | omega) (by decide))
        have Fs1004 := eqF hs1004 (fm_C (i := (c : Int).toNat) (x := Int32.ofInt (-1)) F ((show ∀ j, j < 12 → 216 + j ∈ _ by decide) (bv : Int).toNat (by first | exact oq_9c5fa447 hi.2.2.2.1 | omega)))
        have ws1004_105 : iI s1004 105 = iI t 105 := eqI hs1004 rfl
        have ws1004_90 : iI s1004 90 = iI t 90 := eqI hs1004 rfl
        have fs1004 : Fm [] [216, 217, 218, 219, 220, 221, 222, 223, 224, 225, 226, 227] t s1004 := by rw [hs1004]; exact fm_C (fm_rf _ _ _) ((show ∀ j, j < 12 → 216 + j ∈ _ by decide) (bv : Int).toNat (by first | exact oq_9c5fa447 hi.2.2.2.1 | omega))
        have JRLx_s1004 : RLx s1004 := RLx_fm fs1004 (by decide) jjRLx
        have JHM_s1004 : HM s1004 := HM_fm fs1004 (by decide) jjHM
        refine z_inc X (x := c) (lv' := [(4, .int (Int32.ofInt (c + 1))), (0, .ref (A 179)), (1, .int (Int32.ofInt xv)), (2, .int (Int32.ofInt iv)), (3, .int (Int32.ofInt bv))]) rfl (by decide) (List.Mem.tail _ (List.Mem.tail _ (List.Mem.tail _ (List.Mem.tail _ (List.Mem.head _))))) (fun _ h => h) (z_goto X (t := 57) rfl rfl (WS_pq [1, 2, 3, 4, 0] (lv' := [(0, .ref (A 179)), (1, .int (Int32.ofInt xv)), (2, .int (Int32.ofInt iv)), (3, .int (Int32.ofInt bv)), (4, .int (Int32.ofInt (c + 1)))]) rfl ?_))
        have rm_s1004 : iC s1004 403 (bv : Int).toNat = iC t 403 (bv : Int).toNat := eqC hs1004 (iC_a (by omega))
        have nm_s1004 : iC s1004 202 (bv : Int).toNat = iC t 202 (bv : Int).toNat := eqC hs1004 (iC_a (by omega))
        have hN1005 : NWo bv s1004 ∧ ∀ i : Nat, i < 128 → (i : Int) < (c + 1) → iC s1004 (216 + (bv : Int).toNat) i < iC s1004 202 (bv : Int).toNat := by
          refine ⟨fun j hj hs hne => by rw [hs1004] at hs ⊢; exact NW1_st (by omega) (hq.1 j hj hs hne), fun i hi h => ?_⟩
          rw [nm_s1004]
          by_cases e : i = (c : Int).toNat
          · rw [e, hs1004, iC_u ⟨by omega, by omega⟩]; omega
          · rw [hs1004, iC_n e]; exact hq.2 i hi (by omega)
        exact ih _ xv iv bv (c + 1) Is1004 Fs1004 JRLx_s1004 JHM_s1004 hN1005 (by first | exact ⟨And.intro (hi.1.1) (oq_71f4b7b9 ws1004_105 hi.1.2), oq_86ef0b17 ws1004_105 hi.2.1, And.intro (hi.2.2.1.1) (oq_71f4b7b9 ws1004_90 hi.2.2.1.2), hi.2.2.2.1, oq_f5ee3737 rm_s1004 nm_s1004 hi.2.2.2.2.1, oq_fed65c02 rm_s1004 hi.2.2.2.2.2.1, oq_54f49eb5 hi.2.2.2.2.2.2.1, oq_d2afb425 g1003⟩ | omega) (by first | exact qk_me hm (by decide) (oq_c268b7bd g1003) | omega) kx
  have L84 : ∀ (n : Nat) (t : PS) (xv iv bv c : Int), Bd t → Fm [] [202, 204, 205, 206, 207, 208, 209, 210, 211, 212, 213, 214, 215, 216, 217, 218, 219, 220, 221, 222, 223, 224, 225, 226, 227, 203] s t → RLx t → HM t → (NWo bv t ∧ ∀ i : Nat, i < 128 → (i : Int) < 128 → iC t (216 + (bv : Int).toNat) i < iC t 202 (bv : Int).toNat) → ((0 ≤ iv ∧ iv < iI t 105) ∧ iI t 105 ≤ 8 ∧ (0 ≤ bv ∧ bv < iI t 90) ∧ bv ≤ 11 ∧ iC t 202 (bv : Int).toNat = iC t 403 (bv : Int).toNat ∧ 1 ≤ iC t 403 (bv : Int).toNat ∧ 0 ≤ c ∧ c ≤ 24) → (24 - c : Int).toNat < n → (∀ (t' : PS) (c' : Int), Bd t' → Fm [] [202, 204, 205, 206, 207, 208, 209, 210, 211, 212, 213, 214, 215, 216, 217, 218, 219, 220, 221, 222, 223, 224, 225, 226, 227, 203] s t' → RLx t' → HM t' → (NWo bv t' ∧ ∀ i : Nat, i < 128 → (i : Int) < 128 → iC t' (216 + (bv : Int).toNat) i < iC t' 202 (bv : Int).toNat) → ((0 ≤ iv ∧ iv < iI t' 105) ∧ iI t' 105 ≤ 8 ∧ (0 ≤ bv ∧ bv < iI t' 90) ∧ bv ≤ 11 ∧ iC t' 202 (bv : Int).toNat = iC t' 403 (bv : Int).toNat ∧ 1 ≤ iC t' 403 (bv : Int).toNat ∧ 0 ≤ c' ∧ c' ≤ 24) → WS k 137 [(0, .ref (A 179)), (1, .int (Int32.ofInt xv)), (2, .int (Int32.ofInt iv)), (3, .int (Int32.ofInt bv)), (4, .int (Int32.ofInt c'))] [] (Wd A dT t') 0 0) → WS k 84 [(0, .ref (A 179)), (1, .int (Int32.ofInt xv)), (2, .int (Int32.ofInt iv)), (3, .int (Int32.ofInt bv)), (4, .int (Int32.ofInt c))] [] (Wd A dT t) 0 0 := by
    intro n
    induction n with
    | zero =>
      intro t xv iv bv c I F jjRLx jjHM hq hi hm kx
      exact absurd hm (Nat.not_lt_zero _)
    | succ n ih =>
      intro t xv iv bv c I F jjRLx jjHM hq hi hm kx
      have b2001 := bi_105 I
      have b2002 := bi_90 I
      refine z_load X (x := c) rfl (List.Mem.tail _ (List.Mem.tail _ (List.Mem.tail _ (List.Mem.tail _ (List.Mem.head _))))) (z_aload_n X (x := A 179) rfl (List.Mem.head _) (s_getR X 179 rfl (c518_ok rfl) rfl rfl (z_load_n X (x := bv) rfl (List.Mem.tail _ (List.Mem.tail _ (List.Mem.tail _ (List.Mem.head _)))) (z_ald X 458 rfl (c518_ok rfl) rfl (by first | exact hi.2.2.1.1 | omega) (show bv < 12 by first | exact oq_0ddfcfee hi.2.2.2.1 | omega) (cbig_ok rfl) ?_))))
      have b2003 := bc_403 I (show (bv).toNat < 12 by first | exact oq_9c5fa447 hi.2.2.2.1 | omega)
      refine z_icmp_ge X (t := 137) rfl rfl ⟨by first | exact oq_fa4e5087 hi.2.2.2.2.2.2.1 | omega, by first | exact oq_5bcd337f hi.2.2.2.2.2.2.2 | omega⟩ (rng_to _) (fun g2004 => ?_) (fun g2004 => ?_)
      ·
        refine WS_pq [0, 1, 2, 3, 4] (lv' := [(0, .ref (A 179)), (1, .int (Int32.ofInt xv)), (2, .int (Int32.ofInt iv)), (3, .int (Int32.ofInt bv)), (4, .int (Int32.ofInt c))]) rfl ?_
        exact kx _ c I F jjRLx jjHM hq (by first | exact ⟨And.intro (hi.1.1) (hi.1.2), hi.2.1, And.intro (hi.2.2.1.1) (hi.2.2.1.2), hi.2.2.2.1, hi.2.2.2.2.1, hi.2.2.2.2.2.1, hi.2.2.2.2.2.2.1, hi.2.2.2.2.2.2.2⟩ | omega)
      ·
        refine z_aload_n X (x := A 179) rfl (List.Mem.head _) (s_getR X 179 rfl (c518_ok rfl) rfl rfl (z_load_n X (x := bv) rfl (List.Mem.tail _ (List.Mem.tail _ (List.Mem.tail _ (List.Mem.head _)))) (z_aald X rw_230 rfl (by first | exact hi.2.2.1.1 | omega) (show bv < 12 by first | exact oq_0ddfcfee hi.2.2.2.1 | omega) (by decide) (z_load X (x := c) rfl (List.Mem.tail _ (List.Mem.tail _ (List.Mem.tail _ (List.Mem.tail _ (List.Mem.head _))))) (z_aload_n X (x := A 179) rfl (List.Mem.head _) (s_getR X 179 rfl (c518_ok rfl) rfl rfl (z_load_n X (x := bv) rfl (List.Mem.tail _ (List.Mem.tail _ (List.Mem.tail _ (List.Mem.head _)))) (z_aald X rw_460 rfl (by first | exact hi.2.2.1.1 | omega) (show bv < 12 by first | exact oq_0ddfcfee hi.2.2.2.1 | omega) (by decide) (z_load X (x := c) rfl (List.Mem.tail _ (List.Mem.tail _ (List.Mem.tail _ (List.Mem.tail _ (List.Mem.head _))))) (z_ald2 X rw_460 rfl (show (bv : Int).toNat < 12 by first | exact oq_9c5fa447 hi.2.2.2.1 | omega) (by first | exact hi.2.2.2.2.2.2.1 | omega) (show c < 24 by first | exact oq_8ff7beb9 g2004 b2003.2 | omega) (by decide) ?_))))))))))
        have b2005 : (0 : Int) ≤ (iC t (405 + (bv : Int).toNat) (c : Int).toNat) ∧ (iC t (405 + (bv : Int).toNat) (c : Int).toNat) ≤ 127 := rw_bd rw_460 I (show (bv : Int).toNat < 12 by first | exact oq_9c5fa447 hi.2.2.2.1 | omega) (show (c : Int).toNat < 24 by first | exact oq_9e668fc9 g2004 b2003.2 | omega)
        refine z_ast2 X rw_230 rfl (show (bv : Int).toNat < 12 by first | exact oq_9c5fa447 hi.2.2.2.1 | omega) (by first | exact hi.2.2.2.2.2.2.1 | omega) (show c < 24 by first | exact oq_8ff7beb9 g2004 b2003.2 | omega) (by decide) (wd_gen (fun s2006 hs2006 => ?_))
        have Is2006 : Bd s2006 := eqB hs2006 (rw_st rw_230 I (show (bv : Int).toNat < 12 by first | exact oq_9c5fa447 hi.2.2.2.1 | omega) (show (0 : Int) ≤ (iC t (405 + (bv : Int).toNat) (c : Int).toNat) ∧ (iC t (405 + (bv : Int).toNat) (c : Int).toNat) ≤ 127 by first | exact ⟨b2005.1, b2005.2⟩ | omega) (rng_to _))
        have Fs2006 := eqF hs2006 (fm_C (i := (c : Int).toNat) (x := Int32.ofInt (iC t (405 + (bv : Int).toNat) (c : Int).toNat)) F ((show ∀ j, j < 12 → 204 + j ∈ _ by decide) (bv : Int).toNat (by first | exact oq_9c5fa447 hi.2.2.2.1 | omega)))
        have ws2006_105 : iI s2006 105 = iI t 105 := eqI hs2006 rfl
        have ws2006_90 : iI s2006 90 = iI t 90 := eqI hs2006 rfl
        have fs2006 : Fm [] [204, 205, 206, 207, 208, 209, 210, 211, 212, 213, 214, 215] t s2006 := by rw [hs2006]; exact fm_C (fm_rf _ _ _) ((show ∀ j, j < 12 → 204 + j ∈ _ by decide) (bv : Int).toNat (by first | exact oq_9c5fa447 hi.2.2.2.1 | omega))
        have JRLx_s2006 : RLx s2006 := RLx_fm fs2006 (by decide) jjRLx
        have JHM_s2006 : HM s2006 := HM_fm fs2006 (by decide) jjHM
        refine z_aload_n X (x := A 179) rfl (List.Mem.head _) (s_getR X 179 rfl (c518_ok rfl) rfl rfl (z_load_n X (x := bv) rfl (List.Mem.tail _ (List.Mem.tail _ (List.Mem.tail _ (List.Mem.head _)))) (z_aald X rw_243 rfl (by first | exact hi.2.2.1.1 | omega) (show bv < 12 by first | exact oq_0ddfcfee hi.2.2.2.1 | omega) (by decide) (z_aload_n X (x := A 179) rfl (List.Mem.head _) (s_getR X 179 rfl (c518_ok rfl) rfl rfl (z_load_n X (x := bv) rfl (List.Mem.tail _ (List.Mem.tail _ (List.Mem.tail _ (List.Mem.head _)))) (z_aald X rw_460 rfl (by first | exact hi.2.2.1.1 | omega) (show bv < 12 by first | exact oq_0ddfcfee hi.2.2.2.1 | omega) (by decide) (z_load X (x := c) rfl (List.Mem.tail _ (List.Mem.tail _ (List.Mem.tail _ (List.Mem.tail _ (List.Mem.head _))))) (z_ald2 X rw_460 rfl (show (bv : Int).toNat < 12 by first | exact oq_9c5fa447 hi.2.2.2.1 | omega) (by first | exact hi.2.2.2.2.2.2.1 | omega) (show c < 24 by first | exact oq_8ff7beb9 g2004 b2003.2 | omega) (by decide) ?_)))))))))
        have b2007 : (0 : Int) ≤ (iC s2006 (405 + (bv : Int).toNat) (c : Int).toNat) ∧ (iC s2006 (405 + (bv : Int).toNat) (c : Int).toNat) ≤ 127 := rw_bd rw_460 Is2006 (show (bv : Int).toNat < 12 by first | exact oq_9c5fa447 hi.2.2.2.1 | omega) (show (c : Int).toNat < 24 by first | exact oq_9e668fc9 g2004 b2003.2 | omega)
        refine z_load X (x := c) rfl (List.Mem.tail _ (List.Mem.tail _ (List.Mem.tail _ (List.Mem.tail _ (List.Mem.head _))))) (z_ast2 X rw_243 rfl (show (bv : Int).toNat < 12 by first | exact oq_9c5fa447 hi.2.2.2.1 | omega) (by first | exact b2007.1 | omega) (show (iC s2006 (405 + (bv : Int).toNat) (c : Int).toNat) < 128 by first | exact oq_31b2bf10 b2007.2 | omega) (by decide) (wd_gen (fun s2008 hs2008 => ?_)))
        have Is2008 : Bd s2008 := eqB hs2008 (rw_st rw_243 Is2006 (show (bv : Int).toNat < 12 by first | exact oq_9c5fa447 hi.2.2.2.1 | omega) (show ((-1) : Int) ≤ c ∧ c ≤ 23 by first | exact ⟨oq_ca54ea22 hi.2.2.2.2.2.2.1, oq_10212474 g2004 b2003.2⟩ | omega) ⟨by first | exact oq_fa4e5087 hi.2.2.2.2.2.2.1 | omega, by first | exact oq_5bcd337f hi.2.2.2.2.2.2.2 | omega⟩)
        have Fs2008 := eqF hs2008 (fm_C (i := ((iC s2006 (405 + (bv : Int).toNat) (c : Int).toNat) : Int).toNat) (x := Int32.ofInt c) Fs2006 ((show ∀ j, j < 12 → 216 + j ∈ _ by decide) (bv : Int).toNat (by first | exact oq_9c5fa447 hi.2.2.2.1 | omega)))
        have ws2008_105 : iI s2008 105 = iI s2006 105 := eqI hs2008 rfl
        have ws2008_90 : iI s2008 90 = iI s2006 90 := eqI hs2008 rfl
        have fs2008 : Fm [] [216, 217, 218, 219, 220, 221, 222, 223, 224, 225, 226, 227] s2006 s2008 := by rw [hs2008]; exact fm_C (fm_rf _ _ _) ((show ∀ j, j < 12 → 216 + j ∈ _ by decide) (bv : Int).toNat (by first | exact oq_9c5fa447 hi.2.2.2.1 | omega))
        have JRLx_s2008 : RLx s2008 := RLx_fm fs2008 (by decide) JRLx_s2006
        have JHM_s2008 : HM s2008 := HM_fm fs2008 (by decide) JHM_s2006
        refine z_inc X (x := c) (lv' := [(4, .int (Int32.ofInt (c + 1))), (0, .ref (A 179)), (1, .int (Int32.ofInt xv)), (2, .int (Int32.ofInt iv)), (3, .int (Int32.ofInt bv))]) rfl (by decide) (List.Mem.tail _ (List.Mem.tail _ (List.Mem.tail _ (List.Mem.tail _ (List.Mem.head _))))) (fun _ h => h) (z_goto X (t := 84) rfl rfl (WS_pq [1, 2, 3, 4, 0] (lv' := [(0, .ref (A 179)), (1, .int (Int32.ofInt xv)), (2, .int (Int32.ofInt iv)), (3, .int (Int32.ofInt bv)), (4, .int (Int32.ofInt (c + 1)))]) rfl ?_))
        have rm_s2008 : iC s2008 403 (bv : Int).toNat = iC t 403 (bv : Int).toNat := by rw [hs2008, iC_a (by omega), hs2006]; exact iC_a (by omega)
        have nm_s2008 : iC s2008 202 (bv : Int).toNat = iC t 202 (bv : Int).toNat := by rw [hs2008, iC_a (by omega), hs2006]; exact iC_a (by omega)
        have hN2009 : NWo bv s2008 ∧ ∀ i : Nat, i < 128 → (i : Int) < 128 → iC s2008 (216 + (bv : Int).toNat) i < iC s2008 202 (bv : Int).toNat := by
          refine ⟨fun j hj hs hne => by rw [hs2008, hs2006] at hs ⊢; exact NW1_st (by omega) (NW1_st (by omega) (hq.1 j hj hs hne)), fun i hi h => ?_⟩
          rw [nm_s2008]
          by_cases e : i = ((iC s2006 (405 + (bv : Int).toNat) (c : Int).toNat) : Int).toNat
          · rw [e, hs2008, iC_u ⟨by omega, by omega⟩]; omega
          · rw [hs2008, iC_n e, hs2006, iC_a (by omega)]; exact hq.2 i hi (by omega)
        exact ih _ xv iv bv (c + 1) Is2008 Fs2008 JRLx_s2008 JHM_s2008 hN2009 (by first | exact ⟨And.intro (hi.1.1) (oq_a618c864 ws2008_105 hi.1.2 ws2006_105), oq_d7ce4408 ws2008_105 ws2006_105 hi.2.1, And.intro (hi.2.2.1.1) (oq_a618c864 ws2008_90 hi.2.2.1.2 ws2006_90), hi.2.2.2.1, oq_f5ee3737 rm_s2008 nm_s2008 hi.2.2.2.2.1, oq_fed65c02 rm_s2008 hi.2.2.2.2.2.1, oq_54f49eb5 hi.2.2.2.2.2.2.1, oq_41473be0 g2004 b2003.2⟩ | omega) (by first | exact qk_me hm (by decide) (oq_9dea93e6 g2004 b2003.2) | omega) kx
  have L7 : ∀ (n : Nat) (t : PS) (xv iv : Int), Bd t → Fm [] [202, 204, 205, 206, 207, 208, 209, 210, 211, 212, 213, 214, 215, 216, 217, 218, 219, 220, 221, 222, 223, 224, 225, 226, 227, 203] s t → RLx t → HM t → (NW t) → (0 ≤ iv ∧ iv ≤ 8 ∧ iI t 105 ≤ 8) → (8 - iv : Int).toNat < n → (∀ (t' : PS) (iv' : Int), Bd t' → Fm [] [202, 204, 205, 206, 207, 208, 209, 210, 211, 212, 213, 214, 215, 216, 217, 218, 219, 220, 221, 222, 223, 224, 225, 226, 227, 203] s t' → RLx t' → HM t' → (NW t') → (0 ≤ iv' ∧ iv' ≤ 8 ∧ iI t' 105 ≤ 8) → WS k 143 [(0, .ref (A 179)), (1, .int (Int32.ofInt xv)), (2, .int (Int32.ofInt iv'))] [] (Wd A dT t') 0 0) → WS k 7 [(0, .ref (A 179)), (1, .int (Int32.ofInt xv)), (2, .int (Int32.ofInt iv))] [] (Wd A dT t) 0 0 := by
    intro n
    induction n with
    | zero =>
      intro t xv iv I F jjRLx jjHM hq hi hm kx
      exact absurd hm (Nat.not_lt_zero _)
    | succ n ih =>
      intro t xv iv I F jjRLx jjHM hq hi hm kx
      have b3001 := bi_105 I
      have b3002 := bi_90 I
      refine z_load_n X (x := iv) rfl (List.Mem.tail _ (List.Mem.tail _ (List.Mem.head _))) (z_aload_n X (x := A 179) rfl (List.Mem.head _) (z_getI X 179 rfl (c518_ok rfl) rfl rfl ?_))
      have b3003 := bi_105 I
      refine z_icmp_ge X (t := 143) rfl rfl ⟨by first | exact oq_fa4e5087 hi.1 | omega, by first | exact oq_d3f5d874 hi.2.1 | omega⟩ (rng_to _) (fun g3004 => ?_) (fun g3004 => ?_)
      ·
        refine WS_pq [0, 1, 2] (lv' := [(0, .ref (A 179)), (1, .int (Int32.ofInt xv)), (2, .int (Int32.ofInt iv))]) rfl ?_
        exact kx _ iv I F jjRLx jjHM hq (by first | exact ⟨hi.1, hi.2.1, hi.2.2⟩ | omega)
      ·
        refine z_aload_n X (x := A 179) rfl (List.Mem.head _) (s_getR X 179 rfl (c518_ok rfl) rfl rfl (z_load_n X (x := iv) rfl (List.Mem.tail _ (List.Mem.tail _ (List.Mem.head _))) (z_ald X 455 rfl (c518_ok rfl) rfl (by first | exact hi.1 | omega) (show iv < 8 by first | exact oq_7f5b2e79 g3004 hi.2.2 | omega) (cbig_ok rfl) ?_)))
        have b3005 := bc_400 I (show (iv).toNat < 8 by first | exact oq_67be0351 g3004 hi.2.2 | omega)
        refine z_store_n X (lv' := [(3, .int (Int32.ofInt (iC t 400 (iv).toNat))), (0, .ref (A 179)), (1, .int (Int32.ofInt xv)), (2, .int (Int32.ofInt iv))]) rfl (by decide) (fun _ h => h) ?_
        have hm1 := (jjHM).2 (iv : Int).toNat (by omega) (by omega)
        have hm2 := ((jjHM).1 (iv : Int).toNat (by omega) (by omega)).1
        refine z_aload_n X (x := A 179) rfl (List.Mem.tail _ (List.Mem.head _)) (s_getR X 179 rfl (c518_ok rfl) rfl rfl (z_load_n X (x := (iC t 400 (iv).toNat)) rfl (List.Mem.head _) (z_ald X 456 rfl (c518_ok rfl) rfl (by first | exact b3005.1 | omega) (show (iC t 400 (iv).toNat) < 12 by first | exact oq_0ddfcfee b3005.2 | omega) (cbig_ok rfl) ?_)))
        have b3006 := bc_401 I (show ((iC t 400 (iv).toNat)).toNat < 12 by first | exact oq_9c5fa447 b3005.2 | omega)
        refine z_const X rfl (z_icmp_le X (t := 42) rfl rfl (rng_to _) (by decide) (fun g3007 => ?_) (fun g3007 => ?_))
        ·
          refine z_aload_n X (x := A 179) rfl (List.Mem.tail _ (List.Mem.head _)) (s_getR X 179 rfl (c518_ok rfl) rfl rfl (z_load_n X (x := (iC t 400 (iv).toNat)) rfl (List.Mem.head _) (z_aload_n X (x := A 179) rfl (List.Mem.tail _ (List.Mem.head _)) (s_getR X 179 rfl (c518_ok rfl) rfl rfl (z_load_n X (x := (iC t 400 (iv).toNat)) rfl (List.Mem.head _) (z_ald X 458 rfl (c518_ok rfl) rfl (by first | exact b3005.1 | omega) (show (iC t 400 (iv).toNat) < 12 by first | exact oq_0ddfcfee b3005.2 | omega) (cbig_ok rfl) ?_))))))
          have b3008 := bc_403 I (show ((iC t 400 (iv).toNat)).toNat < 12 by first | exact oq_9c5fa447 b3005.2 | omega)
          refine z_ast X 228 rfl (c518_ok rfl) rfl (by first | exact b3005.1 | omega) (show (iC t 400 (iv).toNat) < 12 by first | exact oq_0ddfcfee b3005.2 | omega) (cbig_ok rfl) (wd_gen (fun s3009 hs3009 => ?_))
          have Is3009 : Bd s3009 := eqB hs3009 (bd_C I (show (0 : Int) ≤ (iC t 403 ((iC t 400 (iv).toNat)).toNat) ∧ (iC t 403 ((iC t 400 (iv).toNat)).toNat) ≤ 24 by first | exact ⟨b3008.1, b3008.2⟩ | omega) (rng_to _))
          have Fs3009 := eqF hs3009 (fm_C F (inl_ok (a := 202) rfl))
          have ws3009_105 : iI s3009 105 = iI t 105 := eqI hs3009 rfl
          have ws3009_90 : iI s3009 90 = iI t 90 := eqI hs3009 rfl
          have fs3009 : Fm [] [202] t s3009 := by rw [hs3009]; exact fm_C (fm_rf _ _ _) (show 202 ∈ _ by decide)
          have JRLx_s3009 : RLx s3009 := RLx_fm fs3009 (by decide) jjRLx
          have JHM_s3009 : HM s3009 := HM_fm fs3009 (by decide) jjHM
          refine z_const X rfl (z_store X (lv' := [(4, .int (Int32.ofInt 0)), (3, .int (Int32.ofInt (iC t 400 (iv).toNat))), (0, .ref (A 179)), (1, .int (Int32.ofInt xv)), (2, .int (Int32.ofInt iv))]) rfl (by decide) (fun _ h => h) (WS_pq [2, 3, 4, 1, 0] (lv' := [(0, .ref (A 179)), (1, .int (Int32.ofInt xv)), (2, .int (Int32.ofInt iv)), (3, .int (Int32.ofInt (iC t 400 (iv).toNat))), (4, .int (Int32.ofInt 0))]) rfl ?_))
          have rm_s3009 : iC s3009 403 ((iC t 400 (iv).toNat) : Int).toNat = iC t 403 ((iC t 400 (iv).toNat) : Int).toNat := eqC hs3009 (iC_a (by decide))
          have nm_s3009 : iC s3009 202 ((iC t 400 (iv).toNat) : Int).toNat = iC t 403 ((iC t 400 (iv).toNat) : Int).toNat := eqC hs3009 (iC_u ⟨by omega, by omega⟩)
          have hN3012 : NWo (iC t 400 (iv).toNat) s3009 ∧ ∀ i : Nat, i < 128 → (i : Int) < 0 → iC s3009 (216 + ((iC t 400 (iv).toNat) : Int).toNat) i < iC s3009 202 ((iC t 400 (iv).toNat) : Int).toNat := ⟨fun j hj hs hne => by
            rw [hs3009] at hs ⊢
            exact NW1_st (by omega) (hq j hj hs), fun i _ h => absurd h (by omega)⟩
          refine L57 ((128 - 0 : Int).toNat + 1) s3009 xv iv (iC t 400 (iv).toNat) 0 Is3009 Fs3009 JRLx_s3009 JHM_s3009 hN3012 (by first | exact ⟨And.intro (hi.1) (oq_71f4b7b9 ws3009_105 g3004), oq_86ef0b17 ws3009_105 hi.2.2, by omega, b3005.2, oq_f6b042d5 rm_s3009 nm_s3009, by omega, by decide, by decide⟩ | omega) (Nat.lt_succ_self _) ?_
          intro s3010 x3011 Is3010 Fs3010 JRLx_s3010 JHM_s3010 Qs3010 hs3010
          have b3013 := bi_105 Is3010
          have b3014 := bi_90 Is3010
          refine z_const X rfl (z_store X (lv' := [(4, .int (Int32.ofInt 0)), (0, .ref (A 179)), (1, .int (Int32.ofInt xv)), (2, .int (Int32.ofInt iv)), (3, .int (Int32.ofInt (iC t 400 (iv).toNat)))]) rfl (by decide) (fun _ h => h) (WS_pq [1, 2, 3, 4, 0] (lv' := [(0, .ref (A 179)), (1, .int (Int32.ofInt xv)), (2, .int (Int32.ofInt iv)), (3, .int (Int32.ofInt (iC t 400 (iv).toNat))), (4, .int (Int32.ofInt 0))]) rfl (L84 ((24 - 0 : Int).toNat + 1) s3010 xv iv (iC t 400 (iv).toNat) 0 Is3010 Fs3010 JRLx_s3010 JHM_s3010 ⟨Qs3010.1, fun i hi _ => Qs3010.2 i hi (by omega)⟩ (by first | exact ⟨And.intro (hs3010.1.1) (hs3010.1.2), hs3010.2.1, And.intro (hs3010.2.2.1.1) (hs3010.2.2.1.2), hs3010.2.2.2.1, hs3010.2.2.2.2.1, hs3010.2.2.2.2.2.1, by decide, by decide⟩ | omega) (Nat.lt_succ_self _) ?_)))
          intro s3015 x3016 Is3015 Fs3015 JRLx_s3015 JHM_s3015 Qs3015 hs3015
          have b3017 := bi_105 Is3015
          have b3018 := bi_90 Is3015
          have JNW_s3015 : NW s3015 := fun j hj hs => by
            by_cases e : j = ((iC t 400 (iv).toNat) : Int).toNat
            · subst e; exact ⟨by omega, fun c hc => Qs3015.2 c hc (by omega)⟩
            · exact Qs3015.1 j hj hs e
          refine z_inc X (x := iv) (lv' := [(2, .int (Int32.ofInt (iv + 1))), (0, .ref (A 179)), (1, .int (Int32.ofInt xv)), (3, .int (Int32.ofInt (iC t 400 (iv).toNat))), (4, .int (Int32.ofInt x3016))]) rfl (by decide) (List.Mem.tail _ (List.Mem.tail _ (List.Mem.head _))) (fun _ h => h) (z_goto X (t := 7) rfl rfl (WS_pq [1, 2, 0] (lv' := [(0, .ref (A 179)), (1, .int (Int32.ofInt xv)), (2, .int (Int32.ofInt (iv + 1)))]) rfl ?_))
          exact ih _ xv (iv + 1) Is3015 Fs3015 JRLx_s3015 JHM_s3015 JNW_s3015 (by first | exact ⟨oq_54f49eb5 hs3015.1.1, oq_f6204d84 hs3015.1.2 hs3015.2.1, hs3015.2.1⟩ | omega) (by first | exact qk_me hm (by decide) (oq_ccc5e5e0 hs3015.1.2 hs3015.2.1) | omega) kx
        ·
          refine z_aload_n X (x := A 179) rfl (List.Mem.tail _ (List.Mem.head _)) (s_getR X 179 rfl (c518_ok rfl) rfl rfl (z_load_n X (x := (iC t 400 (iv).toNat)) rfl (List.Mem.head _) (z_const X rfl (z_ast X 229 rfl (c518_ok rfl) rfl (by first | exact b3005.1 | omega) (show (iC t 400 (iv).toNat) < 12 by first | exact oq_0ddfcfee b3005.2 | omega) (cbig_ok rfl) (wd_gen (fun s3019 hs3019 => ?_))))))
          have Is3019 : Bd s3019 := eqB hs3019 (bd_C I (show (0 : Int) ≤ 0 ∧ 0 ≤ 50 by first | exact ⟨by decide, by decide⟩ | omega) (by decide))
          have Fs3019 := eqF hs3019 (fm_C F (inl_ok (a := 203) rfl))
          have ws3019_105 : iI s3019 105 = iI t 105 := eqI hs3019 rfl
          have ws3019_90 : iI s3019 90 = iI t 90 := eqI hs3019 rfl
          have fs3019 : Fm [] [203] t s3019 := by rw [hs3019]; exact fm_C (fm_rf _ _ _) (show 203 ∈ _ by decide)
          have JRLx_s3019 : RLx s3019 := RLx_fm fs3019 (by decide) jjRLx
          have JHM_s3019 : HM s3019 := HM_fm fs3019 (by decide) jjHM
          have JNW_s3019 : NW s3019 := NW_fm fs3019 (by decide) hq
          refine z_goto X (t := 137) rfl rfl (z_inc X (x := iv) (lv' := [(2, .int (Int32.ofInt (iv + 1))), (3, .int (Int32.ofInt (iC t 400 (iv).toNat))), (0, .ref (A 179)), (1, .int (Int32.ofInt xv))]) rfl (by decide) (List.Mem.tail _ (List.Mem.tail _ (List.Mem.tail _ (List.Mem.head _)))) (fun _ h => h) (z_goto X (t := 7) rfl rfl (WS_pq [2, 3, 0] (lv' := [(0, .ref (A 179)), (1, .int (Int32.ofInt xv)), (2, .int (Int32.ofInt (iv + 1)))]) rfl ?_)))
          exact ih _ xv (iv + 1) Is3019 Fs3019 JRLx_s3019 JHM_s3019 JNW_s3019 (by first | exact ⟨oq_54f49eb5 hi.1, oq_f6204d84 g3004 hi.2.2, oq_86ef0b17 ws3019_105 hi.2.2⟩ | omega) (by first | exact qk_me hm (by decide) (oq_ccc5e5e0 g3004 hi.2.2) | omega) kx
  refine z_aload_n X (x := A 179) rfl (List.Mem.head _) (z_load_n X (x := x) rfl (List.Mem.tail _ (List.Mem.head _)) (zcV_v2 X E 179 (As := [.int (Int32.ofInt x)]) (st := []) rfl rfl rfl rfl (k_asTold G I jRLx (by first | exact ⟨p0.1, p0.2⟩ | omega)) rfl (Nat.le_of_ble_eq_true rfl) (fun s3 Is3 Fs3 JRLx_s3 JNQ_s3 hps3 => ?_)))
  have Gs3 := fm_tq F Fs3 rfl rfl
  have JRLx_s3 : RLx s3 := RLx_fm Fs3 (by decide) jRLx
  have JHM_s3 : HM s3 := HM_fm Fs3 (by decide) jHM
  have ws3_105 : iI s3 105 = iI s 105 := fm_iq Fs3 rfl
  have ws3_90 : iI s3 90 = iI s 90 := fm_iq Fs3 rfl
  have JNW_s3 : NW s3 := NW_of JNQ_s3 JRLx_s3
  refine z_const X rfl (z_store_n X (lv' := [(2, .int (Int32.ofInt 0)), (0, .ref (A 179)), (1, .int (Int32.ofInt x))]) rfl (by decide) (fun _ h => h) (WS_pq [1, 2, 0] (lv' := [(0, .ref (A 179)), (1, .int (Int32.ofInt x)), (2, .int (Int32.ofInt 0))]) rfl (L7 ((8 - 0 : Int).toNat + 1) s3 x 0 Is3 Gs3 JRLx_s3 JHM_s3 JNW_s3 (by first | exact ⟨by decide, by decide, oq_86ef0b17 ws3_105 p1⟩ | omega) (Nat.lt_succ_self _) ?_)))
  intro s5 x6 Is5 Fs5 JRLx_s5 JHM_s5 Qs5 hs5
  have b7 := bi_105 Is5
  have b8 := bi_90 Is5
  exact w_vret X.1 q hRt (ax_d X (show cdA 284 143 = some (.return_, 1, 0, 0, 0) from rfl)) (Nat.zero_le _) (Nat.zero_le _) ⟨_, rfl, Is5, Fs5, JRLx_s5, Qs5, rfl, trivial⟩
end M63
end
