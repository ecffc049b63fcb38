section
theorem oq_064ec12a {a0 : Int} (h0 : 0 ≤ a0) : 0 ≤ (a0 / 8) := by omega
theorem oq_e9761868 {a0 : Int} (h0 : 0 ≤ a0) : (-2147483648) ≤ (a0 / 8) := by omega
theorem oq_9e7a8b87 {a0 : Int} (h0 : a0 ≤ 127) : (a0 / 8) ≤ 2147483647 := by omega
theorem oq_65317318 {a0 a1 : Int} (h0 : (((a0 % 8) ≠ 7 ∧ a1 = (a0 + 1)) ∨ ((a0 % 8) = 7 ∧ a1 = (-1)))) (h1 : 0 ≤ a0) : (-2147483648) ≤ a1 := by omega
theorem oq_2ebfdaed {a0 a1 : Int} (h0 : (((a0 % 8) ≠ 7 ∧ a1 = (a0 + 1)) ∨ ((a0 % 8) = 7 ∧ a1 = (-1)))) (h1 : a0 ≤ 127) : a1 ≤ 2147483647 := by omega
theorem oq_3fb6b19c {a0 a1 : Int} (h0 : (((a0 % 8) ≠ 7 ∧ a1 = (a0 + 1)) ∨ ((a0 % 8) = 7 ∧ a1 = (-1)))) : (((a0 % 8) = 7 ∧ a1 = (-1)) ∨ ((¬ ((a0 % 8) = 7)) ∧ a1 = (a0 + 1))) := by omega
theorem oq_bb285237 {a0 a1 : Int} (h0 : (((a0 % 8) ≠ 7 ∧ a1 = (a0 + 1)) ∨ ((a0 % 8) = 7 ∧ a1 = (-1)))) (h1 : 0 ≤ a0) : (-1) ≤ a1 := by omega
theorem oq_e86162eb {a0 : Int}  : (-2147483648) ≤ (a0 % 8) := by omega
theorem oq_70086759 {a0 : Int}  : (a0 % 8) ≤ 2147483647 := by omega
theorem oq_df67f89d {a0 a1 : Int} (h0 : (((a0 % 8) ≠ 0 ∧ a1 = (a0 - 1)) ∨ ((a0 % 8) = 0 ∧ a1 = (-1)))) (h1 : 0 ≤ a0) : (-2147483648) ≤ a1 := by omega
theorem oq_7f998bdb {a0 a1 : Int} (h0 : (((a0 % 8) ≠ 0 ∧ a1 = (a0 - 1)) ∨ ((a0 % 8) = 0 ∧ a1 = (-1)))) (h1 : a0 ≤ 127) : a1 ≤ 2147483647 := by omega
theorem oq_5b6a57a1 {a0 a1 : Int} (h0 : (((a0 % 8) ≠ 0 ∧ a1 = (a0 - 1)) ∨ ((a0 % 8) = 0 ∧ a1 = (-1)))) : (((a0 % 8) = 0 ∧ a1 = (-1)) ∨ ((¬ ((a0 % 8) = 0)) ∧ a1 = (a0 - 1))) := by omega
theorem oq_53d086ff {a0 a1 : Int} (h0 : (((a0 % 8) ≠ 0 ∧ a1 = (a0 - 1)) ∨ ((a0 % 8) = 0 ∧ a1 = (-1)))) (h1 : 0 ≤ a0) : (-1) ≤ a1 := by omega
theorem oq_162ebe1b {a0 a1 : Int} (h0 : (((a0 % 8) ≠ 0 ∧ a1 = (a0 - 1)) ∨ ((a0 % 8) = 0 ∧ a1 = (-1)))) (h1 : a0 ≤ 127) : a1 ≤ 127 := by omega
theorem oq_3827edd4 {a0 a1 : Int} (h0 : ((((a0 / 8) % 8) ≠ 7 ∧ a1 = (a0 + 8)) ∨ (((a0 / 8) % 8) = 7 ∧ a1 = (-1)))) (h1 : 0 ≤ a0) : (-2147483648) ≤ a1 := by omega
theorem oq_5c62bb30 {a0 a1 : Int} (h0 : ((((a0 / 8) % 8) ≠ 7 ∧ a1 = (a0 + 8)) ∨ (((a0 / 8) % 8) = 7 ∧ a1 = (-1)))) (h1 : a0 ≤ 127) : a1 ≤ 2147483647 := by omega
theorem oq_aef22ce3 {a0 a1 : Int} (h0 : ((((a0 / 8) % 8) ≠ 7 ∧ a1 = (a0 + 8)) ∨ (((a0 / 8) % 8) = 7 ∧ a1 = (-1)))) : ((((a0 / 8) % 8) = 7 ∧ a1 = (-1)) ∨ ((¬ (((a0 / 8) % 8) = 7)) ∧ a1 = (a0 + 8))) := by omega
theorem oq_595830be {a0 a1 : Int} (h0 : ((((a0 / 8) % 8) ≠ 7 ∧ a1 = (a0 + 8)) ∨ (((a0 / 8) % 8) = 7 ∧ a1 = (-1)))) (h1 : 0 ≤ a0) : (-1) ≤ a1 := by omega
theorem oq_452e8fda {a0 : Int}  : (-2147483648) ≤ ((a0 / 8) % 8) := by omega
theorem oq_267eaf70 {a0 : Int}  : ((a0 / 8) % 8) ≤ 2147483647 := by omega
theorem oq_53853fa1 {a0 a1 : Int} (h0 : ((((a0 / 8) % 8) ≠ 0 ∧ a1 = (a0 - 8)) ∨ (((a0 / 8) % 8) = 0 ∧ a1 = (-1)))) (h1 : 0 ≤ a0) : (-2147483648) ≤ a1 := by omega
theorem oq_82f5c072 {a0 a1 : Int} (h0 : ((((a0 / 8) % 8) ≠ 0 ∧ a1 = (a0 - 8)) ∨ (((a0 / 8) % 8) = 0 ∧ a1 = (-1)))) (h1 : a0 ≤ 127) : a1 ≤ 2147483647 := by omega
theorem oq_a05c7f98 {a0 a1 : Int} (h0 : ((((a0 / 8) % 8) ≠ 0 ∧ a1 = (a0 - 8)) ∨ (((a0 / 8) % 8) = 0 ∧ a1 = (-1)))) : ((((a0 / 8) % 8) = 0 ∧ a1 = (-1)) ∨ ((¬ (((a0 / 8) % 8) = 0)) ∧ a1 = (a0 - 8))) := by omega
theorem oq_c6958ea2 {a0 a1 : Int} (h0 : ((((a0 / 8) % 8) ≠ 0 ∧ a1 = (a0 - 8)) ∨ (((a0 / 8) % 8) = 0 ∧ a1 = (-1)))) (h1 : a0 ≤ 127) : a1 ≤ 127 := by omega
theorem oq_dec29307 {a0 a1 : Int} (h0 : (((a0 / 64) ≠ 1 ∧ a1 = (a0 + 64)) ∨ ((a0 / 64) = 1 ∧ a1 = (-1)))) (h1 : 0 ≤ a0) : (-2147483648) ≤ a1 := by omega
theorem oq_dc234b30 {a0 a1 : Int} (h0 : (((a0 / 64) ≠ 1 ∧ a1 = (a0 + 64)) ∨ ((a0 / 64) = 1 ∧ a1 = (-1)))) (h1 : a0 ≤ 127) : a1 ≤ 2147483647 := by omega
theorem oq_53fad64c {a0 a1 : Int} (h0 : (((a0 / 64) ≠ 1 ∧ a1 = (a0 + 64)) ∨ ((a0 / 64) = 1 ∧ a1 = (-1)))) : (((a0 / 64) = 1 ∧ a1 = (-1)) ∨ ((¬ ((a0 / 64) = 1)) ∧ a1 = (a0 + 64))) := by omega
theorem oq_ef6a2c96 {a0 a1 : Int} (h0 : (((a0 / 64) ≠ 1 ∧ a1 = (a0 + 64)) ∨ ((a0 / 64) = 1 ∧ a1 = (-1)))) (h1 : 0 ≤ a0) : (-1) ≤ a1 := by omega
theorem oq_3dcb4c51 {a0 a1 : Int} (h0 : (((a0 / 64) ≠ 1 ∧ a1 = (a0 + 64)) ∨ ((a0 / 64) = 1 ∧ a1 = (-1)))) (h1 : a0 ≤ 127) : a1 ≤ 127 := by omega
theorem oq_e5b8e207 {a0 : Int} (h0 : 0 ≤ a0) : (-2147483648) ≤ (a0 / 64) := by omega
theorem oq_874c0b28 {a0 : Int} (h0 : a0 ≤ 127) : (a0 / 64) ≤ 2147483647 := by omega
theorem oq_4c7d79ae {a0 a1 : Int} (h0 : (((a0 / 64) ≠ 0 ∧ a1 = (a0 - 64)) ∨ ((a0 / 64) = 0 ∧ a1 = (-1)))) (h1 : 0 ≤ a0) : (-2147483648) ≤ a1 := by omega
theorem oq_47817d89 {a0 a1 : Int} (h0 : (((a0 / 64) ≠ 0 ∧ a1 = (a0 - 64)) ∨ ((a0 / 64) = 0 ∧ a1 = (-1)))) (h1 : a0 ≤ 127) : a1 ≤ 2147483647 := by omega
theorem oq_ea0e1764 {a0 a1 : Int} (h0 : (((a0 / 64) ≠ 0 ∧ a1 = (a0 - 64)) ∨ ((a0 / 64) = 0 ∧ a1 = (-1)))) (h1 : 0 ≤ a0) : (((a0 / 64) = 0 ∧ a1 = (-1)) ∨ ((¬ ((a0 / 64) = 0)) ∧ a1 = (a0 - 64))) := by omega
theorem oq_7252d58d {a0 a1 : Int} (h0 : (((a0 / 64) ≠ 0 ∧ a1 = (a0 - 64)) ∨ ((a0 / 64) = 0 ∧ a1 = (-1)))) (h1 : 0 ≤ a0) : (-1) ≤ a1 := by omega
theorem oq_3527817e {a0 a1 : Int} (h0 : (((a0 / 64) ≠ 0 ∧ a1 = (a0 - 64)) ∨ ((a0 / 64) = 0 ∧ a1 = (-1)))) (h1 : a0 ≤ 127) : a1 ≤ 127 := by omega
/-! The model: beside, moves of a way -/
/-- what is told so far is a row of cells -/
def TD (s : PS) : Prop := ∀ j : Nat, (j : Int) < iI s 91 → 0 ≤ iC s 165 j ∧ iC s 165 j ≤ 127
theorem TD_fm {L M : List Nat} {s t : PS} (F : Fm L M s t) (h : 91 ∉ L ∧ 165 ∉ M) (j : TD s) : TD t := fun i hi => by
  have e1 : iI t 91 = iI s 91 := fm_i F h.1
  have e2 : iC t 165 i = iC s 165 i := congrArg Int32.toInt (congrFun (F.2.1 _ h.2) i)
  rw [e1] at hi
  rw [e2]
  exact j i hi
theorem TD_up {s : PS} {x n : Int} (j : TD s) (hn : iI s 91 = n) (h0 : 0 ≤ n ∧ n ≤ 23) (hx : 0 ≤ x ∧ x ≤ 127) : TD (uI (uC s 165 n.toNat (Int32.ofInt x)) 91 (Int32.ofInt (n + 1))) := fun i hi => by
  have e1 : iI (uI (uC s 165 n.toNat (Int32.ofInt x)) 91 (Int32.ofInt (n + 1))) 91 = n + 1 := iI_u ⟨by omega, by omega⟩
  rw [e1] at hi
  show 0 ≤ iC (uC s 165 n.toNat (Int32.ofInt x)) 165 i ∧ iC (uC s 165 n.toNat (Int32.ofInt x)) 165 i ≤ 127
  by_cases q : i = n.toNat
  · rw [q, iC_u ⟨by omega, by omega⟩]; exact hx
  · rw [iC_n q]; exact j i (by omega)
section M35
variable {l : Launch} {s0 : State} {D : va_G} {tys : List (ClassId × FieldType)} {a0 : Array Value} {A : Nat → Nat} {dT : Nat → ClassId} {s : PS}
theorem k_beside (G : GX l s0 D tys a0 dT) (I : Bd s) {x y : Int} (p0 : 0 ≤ x ∧ x ≤ 127) (p1 : 0 ≤ y ∧ y ≤ 5) : CT l s0 D A dT 190 (rmN 190) [.int (Int32.ofInt x), .int (Int32.ofInt y)] s (fun o t => Bd t ∧ Fm [] [] s t ∧ ∃ e, o = .inl (some (.int (Int32.ofInt e))) ∧ rng e ∧ (((y = 0 ∧ ((x % 8 = 7 ∧ e = -1) ∨ (¬ x % 8 = 7 ∧ e = x + 1))) ∨ (y = 1 ∧ ((x % 8 = 0 ∧ e = -1) ∨ (¬ x % 8 = 0 ∧ e = x - 1))) ∨ (y = 2 ∧ ((x / 8 % 8 = 7 ∧ e = -1) ∨ (¬ x / 8 % 8 = 7 ∧ e = x + 8))) ∨ (y = 3 ∧ ((x / 8 % 8 = 0 ∧ e = -1) ∨ (¬ x / 8 % 8 = 0 ∧ e = x - 8))) ∨ (y = 4 ∧ ((x / 64 = 1 ∧ e = -1) ∨ (¬ x / 64 = 1 ∧ e = x + 64))) ∨ (y = 5 ∧ ((x / 64 = 0 ∧ e = -1) ∨ (¬ x / 64 = 0 ∧ e = x - 64)))) ∧ -1 ≤ e ∧ e ≤ 127)) := by
  refine ct_of G (by decide) (Nat.le_of_ble_eq_true rfl) (fun k X E hRt hXt q => ?_)
  show WS k 0 [(0, .int (Int32.ofInt x)), (1, .int (Int32.ofInt y))] [] _ 0 0
  have F : Fm [] [] s s := fm_rf _ _ s
  refine z_load_n X (x := x) rfl (List.Mem.head _) (z_bipush X rfl (z_mod X rfl (by first | exact p0.1 | omega) ⟨by first | exact oq_fa4e5087 p0.1 | omega, by first | exact oq_07d346ce p0.2 | omega⟩ (by decide) (by decide) (z_store_n X (lv' := [(2, .int (Int32.ofInt (x % 8))), (0, .int (Int32.ofInt x)), (1, .int (Int32.ofInt y))]) rfl (by decide) (fun _ h => h) (z_load_n X (x := x) rfl (List.Mem.tail _ (List.Mem.head _)) (z_bipush X rfl (z_quot X rfl (by first | exact p0.1 | omega) ⟨by first | exact oq_fa4e5087 p0.1 | omega, by first | exact oq_07d346ce p0.2 | omega⟩ (by decide) (by decide) (z_bipush X rfl (z_mod X rfl (by first | exact oq_064ec12a p0.1 | omega) ⟨by first | exact oq_e9761868 p0.1 | omega, by first | exact oq_9e7a8b87 p0.2 | omega⟩ (by decide) (by decide) (z_store_n X (lv' := [(3, .int (Int32.ofInt ((x / 8) % 8))), (2, .int (Int32.ofInt (x % 8))), (0, .int (Int32.ofInt x)), (1, .int (Int32.ofInt y))]) rfl (by decide) (fun _ h => h) (z_load_n X (x := x) rfl (List.Mem.tail _ (List.Mem.tail _ (List.Mem.head _))) (z_bipush X rfl ?_)))))))))))
  refine z_quot X rfl (by first | exact p0.1 | omega) ⟨by first | exact oq_fa4e5087 p0.1 | omega, by first | exact oq_07d346ce p0.2 | omega⟩ (by decide) (by decide) (z_store X (lv' := [(4, .int (Int32.ofInt (x / 64))), (3, .int (Int32.ofInt ((x / 8) % 8))), (2, .int (Int32.ofInt (x % 8))), (0, .int (Int32.ofInt x)), (1, .int (Int32.ofInt y))]) rfl (by decide) (fun _ h => h) (z_load_n X (x := y) rfl (List.Mem.tail _ (List.Mem.tail _ (List.Mem.tail _ (List.Mem.tail _ (List.Mem.head _))))) ?_))
  rcases (show y = 0 ∨ y = 1 ∨ y = 2 ∨ y = 3 ∨ y = 4 ∨ y = 5 by omega) with gs | gs | gs | gs | gs | gs
  ·
    rw [gs]
    refine w_tabIn X.1 (dflt := 105) (lo := 0) (hi := 4) (offs := #[36, 50, 62, 77, 90]) (len := 36) (off := 36) (t := 56) (ax_d X (show cdA 190 20 = some (.tableswitch 105 0 4 #[36, 50, 62, 77, 90], 36, 0, 0, 0) from rfl)) (by decide) (by decide) (by decide) (by decide) (z_load_n X (x := (x % 8)) rfl (List.Mem.tail _ (List.Mem.tail _ (List.Mem.head _))) (z_bipush X rfl ?_))
    have N1 : ∀ e2 : Int, ((((x % 8) ≠ 7) ∧ e2 = (x + 1)) ∨ (((x % 8) = 7) ∧ e2 = (-1))) → WS k 69 [(4, .int (Int32.ofInt (x / 64))), (3, .int (Int32.ofInt ((x / 8) % 8))), (2, .int (Int32.ofInt (x % 8))), (0, .int (Int32.ofInt x)), (1, .int (Int32.ofInt 0))] [.int (Int32.ofInt e2)] (Wd A dT s) 0 0 := by
      intro e2 he2
      exact w_iret X.1 q hRt rfl (ax_d X (show cdA 190 69 = some (.ireturn, 1, 0, 0, 0) from rfl)) (Nat.zero_le _) (Nat.zero_le _) ⟨_, rfl, I, F, e2, rfl, ⟨by first | exact oq_65317318 he2 p0.1 | omega, by first | exact oq_2ebfdaed he2 p0.2 | omega⟩, ⟨Or.inl ⟨gs, by first | exact oq_3fb6b19c he2 | omega⟩, by first | exact oq_bb285237 he2 p0.1 | omega, by first | (clear he2; omega) | omega⟩⟩
    refine z_icmp_ne X (t := 66) rfl rfl ⟨by first | exact oq_e86162eb | omega, by first | exact oq_70086759 | omega⟩ (by decide) (fun g3 => ?_) (fun g3 => ?_)
    ·
      exact z_load_n X (x := x) rfl (List.Mem.tail _ (List.Mem.tail _ (List.Mem.tail _ (List.Mem.head _)))) (z_const X rfl (z_add X rfl (N1 _ (Or.inl ⟨g3, rfl⟩))))
    ·
      exact z_const X rfl (z_goto X (t := 69) rfl rfl (N1 _ (Or.inr (⟨g3, rfl⟩))))
  ·
    rw [gs]
    refine w_tabIn X.1 (dflt := 105) (lo := 0) (hi := 4) (offs := #[36, 50, 62, 77, 90]) (len := 36) (off := 50) (t := 70) (ax_d X (show cdA 190 20 = some (.tableswitch 105 0 4 #[36, 50, 62, 77, 90], 36, 0, 0, 0) from rfl)) (by decide) (by decide) (by decide) (by decide) (z_load_n X (x := (x % 8)) rfl (List.Mem.tail _ (List.Mem.tail _ (List.Mem.head _))) ?_)
    have N4 : ∀ e5 : Int, ((((x % 8) ≠ 0) ∧ e5 = (x - 1)) ∨ (((x % 8) = 0) ∧ e5 = (-1))) → WS k 81 [(4, .int (Int32.ofInt (x / 64))), (3, .int (Int32.ofInt ((x / 8) % 8))), (2, .int (Int32.ofInt (x % 8))), (0, .int (Int32.ofInt x)), (1, .int (Int32.ofInt 1))] [.int (Int32.ofInt e5)] (Wd A dT s) 0 0 := by
      intro e5 he5
      exact w_iret X.1 q hRt rfl (ax_d X (show cdA 190 81 = some (.ireturn, 1, 0, 0, 0) from rfl)) (Nat.zero_le _) (Nat.zero_le _) ⟨_, rfl, I, F, e5, rfl, ⟨by first | exact oq_df67f89d he5 p0.1 | omega, by first | exact oq_7f998bdb he5 p0.2 | omega⟩, ⟨Or.inr (Or.inl ⟨gs, by first | exact oq_5b6a57a1 he5 | omega⟩), by first | exact oq_53d086ff he5 p0.1 | omega, by first | exact oq_162ebe1b he5 p0.2 | omega⟩⟩
    refine z_if_ne X (t := 78) rfl rfl ⟨by first | exact oq_e86162eb | omega, by first | exact oq_70086759 | omega⟩ (fun g6 => ?_) (fun g6 => ?_)
    ·
      exact z_load_n X (x := x) rfl (List.Mem.tail _ (List.Mem.tail _ (List.Mem.tail _ (List.Mem.head _)))) (z_const X rfl (z_sub X rfl (N4 _ (Or.inl ⟨g6, rfl⟩))))
    ·
      exact z_const X rfl (z_goto X (t := 81) rfl rfl (N4 _ (Or.inr (⟨g6, rfl⟩))))
  ·
    rw [gs]
    refine w_tabIn X.1 (dflt := 105) (lo := 0) (hi := 4) (offs := #[36, 50, 62, 77, 90]) (len := 36) (off := 62) (t := 82) (ax_d X (show cdA 190 20 = some (.tableswitch 105 0 4 #[36, 50, 62, 77, 90], 36, 0, 0, 0) from rfl)) (by decide) (by decide) (by decide) (by decide) (z_load_n X (x := ((x / 8) % 8)) rfl (List.Mem.tail _ (List.Mem.head _)) (z_bipush X rfl ?_))
    have N7 : ∀ e8 : Int, (((((x / 8) % 8) ≠ 7) ∧ e8 = (x + 8)) ∨ ((((x / 8) % 8) = 7) ∧ e8 = (-1))) → WS k 96 [(4, .int (Int32.ofInt (x / 64))), (3, .int (Int32.ofInt ((x / 8) % 8))), (2, .int (Int32.ofInt (x % 8))), (0, .int (Int32.ofInt x)), (1, .int (Int32.ofInt 2))] [.int (Int32.ofInt e8)] (Wd A dT s) 0 0 := by
      intro e8 he8
      exact w_iret X.1 q hRt rfl (ax_d X (show cdA 190 96 = some (.ireturn, 1, 0, 0, 0) from rfl)) (Nat.zero_le _) (Nat.zero_le _) ⟨_, rfl, I, F, e8, rfl, ⟨by first | exact oq_3827edd4 he8 p0.1 | omega, by first | exact oq_5c62bb30 he8 p0.2 | omega⟩, ⟨Or.inr (Or.inr (Or.inl ⟨gs, by first | exact oq_aef22ce3 he8 | omega⟩)), by first | exact oq_595830be he8 p0.1 | omega, by first | (clear he8; omega) | omega⟩⟩
    refine z_icmp_ne X (t := 92) rfl rfl ⟨by first | exact oq_452e8fda | omega, by first | exact oq_267eaf70 | omega⟩ (by decide) (fun g9 => ?_) (fun g9 => ?_)
    ·
      exact z_load_n X (x := x) rfl (List.Mem.tail _ (List.Mem.tail _ (List.Mem.tail _ (List.Mem.head _)))) (z_bipush X rfl (z_add X rfl (N7 _ (Or.inl ⟨g9, rfl⟩))))
    ·
      exact z_const X rfl (z_goto X (t := 96) rfl rfl (N7 _ (Or.inr (⟨g9, rfl⟩))))
  ·
    rw [gs]
    refine w_tabIn X.1 (dflt := 105) (lo := 0) (hi := 4) (offs := #[36, 50, 62, 77, 90]) (len := 36) (off := 77) (t := 97) (ax_d X (show cdA 190 20 = some (.tableswitch 105 0 4 #[36, 50, 62, 77, 90], 36, 0, 0, 0) from rfl)) (by decide) (by decide) (by decide) (by decide) (z_load_n X (x := ((x / 8) % 8)) rfl (List.Mem.tail _ (List.Mem.head _)) ?_)
    have N10 : ∀ e11 : Int, (((((x / 8) % 8) ≠ 0) ∧ e11 = (x - 8)) ∨ ((((x / 8) % 8) = 0) ∧ e11 = (-1))) → WS k 109 [(4, .int (Int32.ofInt (x / 64))), (3, .int (Int32.ofInt ((x / 8) % 8))), (2, .int (Int32.ofInt (x % 8))), (0, .int (Int32.ofInt x)), (1, .int (Int32.ofInt 3))] [.int (Int32.ofInt e11)] (Wd A dT s) 0 0 := by
      intro e11 he11
      exact w_iret X.1 q hRt rfl (ax_d X (show cdA 190 109 = some (.ireturn, 1, 0, 0, 0) from rfl)) (Nat.zero_le _) (Nat.zero_le _) ⟨_, rfl, I, F, e11, rfl, ⟨by first | exact oq_53853fa1 he11 p0.1 | omega, by first | exact oq_82f5c072 he11 p0.2 | omega⟩, ⟨Or.inr (Or.inr (Or.inr (Or.inl ⟨gs, by first | exact oq_a05c7f98 he11 | omega⟩))), by first | (clear he11; omega) | omega, by first | exact oq_c6958ea2 he11 p0.2 | omega⟩⟩
    refine z_if_ne X (t := 105) rfl rfl ⟨by first | exact oq_452e8fda | omega, by first | exact oq_267eaf70 | omega⟩ (fun g12 => ?_) (fun g12 => ?_)
    ·
      exact z_load_n X (x := x) rfl (List.Mem.tail _ (List.Mem.tail _ (List.Mem.tail _ (List.Mem.head _)))) (z_bipush X rfl (z_sub X rfl (N10 _ (Or.inl ⟨g12, rfl⟩))))
    ·
      exact z_const X rfl (z_goto X (t := 109) rfl rfl (N10 _ (Or.inr (⟨g12, rfl⟩))))
  ·
    rw [gs]
    refine w_tabIn X.1 (dflt := 105) (lo := 0) (hi := 4) (offs := #[36, 50, 62, 77, 90]) (len := 36) (off := 90) (t := 110) (ax_d X (show cdA 190 20 = some (.tableswitch 105 0 4 #[36, 50, 62, 77, 90], 36, 0, 0, 0) from rfl)) (by decide) (by decide) (by decide) (by decide) (z_load X (x := (x / 64)) rfl (List.Mem.head _) (z_const X rfl ?_))
    have N13 : ∀ e14 : Int, ((((x / 64) ≠ 1) ∧ e14 = (x + 64)) ∨ (((x / 64) = 1) ∧ e14 = (-1))) → WS k 124 [(4, .int (Int32.ofInt (x / 64))), (3, .int (Int32.ofInt ((x / 8) % 8))), (2, .int (Int32.ofInt (x % 8))), (0, .int (Int32.ofInt x)), (1, .int (Int32.ofInt 4))] [.int (Int32.ofInt e14)] (Wd A dT s) 0 0 := by
      intro e14 he14
      exact w_iret X.1 q hRt rfl (ax_d X (show cdA 190 124 = some (.ireturn, 1, 0, 0, 0) from rfl)) (Nat.zero_le _) (Nat.zero_le _) ⟨_, rfl, I, F, e14, rfl, ⟨by first | exact oq_dec29307 he14 p0.1 | omega, by first | exact oq_dc234b30 he14 p0.2 | omega⟩, ⟨Or.inr (Or.inr (Or.inr (Or.inr (Or.inl ⟨gs, by first | exact oq_53fad64c he14 | omega⟩)))), by first | exact oq_ef6a2c96 he14 p0.1 | omega, by first | exact oq_3dcb4c51 he14 p0.2 | omega⟩⟩
    refine z_icmp_ne X (t := 120) rfl rfl ⟨by first | exact oq_e5b8e207 p0.1 | omega, by first | exact oq_874c0b28 p0.2 | omega⟩ (by decide) (fun g15 => ?_) (fun g15 => ?_)
    ·
      exact z_load_n X (x := x) rfl (List.Mem.tail _ (List.Mem.tail _ (List.Mem.tail _ (List.Mem.head _)))) (z_bipush X rfl (z_add X rfl (N13 _ (Or.inl ⟨g15, rfl⟩))))
    ·
      exact z_const X rfl (z_goto X (t := 124) rfl rfl (N13 _ (Or.inr (⟨g15, rfl⟩))))
  ·
    rw [gs]
    refine w_tabOut X.1 (dflt := 105) (lo := 0) (hi := 4) (offs := #[36, 50, 62, 77, 90]) (len := 36) (t := 125) (ax_d X (show cdA 190 20 = some (.tableswitch 105 0 4 #[36, 50, 62, 77, 90], 36, 0, 0, 0) from rfl)) (by decide) (by decide) (z_load X (x := (x / 64)) rfl (List.Mem.head _) ?_)
    have N16 : ∀ e17 : Int, ((((x / 64) ≠ 0) ∧ e17 = (x - 64)) ∨ (((x / 64) = 0) ∧ e17 = (-1))) → WS k 138 [(4, .int (Int32.ofInt (x / 64))), (3, .int (Int32.ofInt ((x / 8) % 8))), (2, .int (Int32.ofInt (x % 8))), (0, .int (Int32.ofInt x)), (1, .int (Int32.ofInt 5))] [.int (Int32.ofInt e17)] (Wd A dT s) 0 0 := by
      intro e17 he17
      exact w_iret X.1 q hRt rfl (ax_d X (show cdA 190 138 = some (.ireturn, 1, 0, 0, 0) from rfl)) (Nat.zero_le _) (Nat.zero_le _) ⟨_, rfl, I, F, e17, rfl, ⟨by first | exact oq_4c7d79ae he17 p0.1 | omega, by first | exact oq_47817d89 he17 p0.2 | omega⟩, ⟨Or.inr (Or.inr (Or.inr (Or.inr (Or.inr (⟨gs, by first | exact oq_ea0e1764 he17 p0.1 | omega⟩))))), by first | exact oq_7252d58d he17 p0.1 | omega, by first | exact oq_3527817e he17 p0.2 | omega⟩⟩
    refine z_if_ne X (t := 134) rfl rfl ⟨by first | exact oq_e5b8e207 p0.1 | omega, by first | exact oq_874c0b28 p0.2 | omega⟩ (fun g18 => ?_) (fun g18 => ?_)
    ·
      exact z_load_n X (x := x) rfl (List.Mem.tail _ (List.Mem.tail _ (List.Mem.tail _ (List.Mem.head _)))) (z_bipush X rfl (z_sub X rfl (N16 _ (Or.inl ⟨g18, rfl⟩))))
    ·
      exact z_const X rfl (z_goto X (t := 138) rfl rfl (N16 _ (Or.inr (⟨g18, rfl⟩))))
end M35
end
section
theorem oq_25953902 {a0 : Int} (h0 : a0 ≤ 100000) : a0 ≤ 2147483647 := by omega
theorem oq_02aa5459 {a0 : Int} (h0 : 1 ≤ a0) : 0 ≤ (a0 - 1) := by omega
theorem oq_19cb6f5b {a0 : Int} (h0 : a0 ≤ 24) : (a0 - 1) < 24 := by omega
theorem oq_f976b25c {a0 : Int} (h0 : a0 ≤ 24) : ((a0 - 1) : Int).toNat < 24 := by omega
theorem oq_3a454424 {a0 : Int} (h0 : a0 ≤ 24) : (a0 + 1) ≤ 2147483647 := by omega
theorem oq_52ebc553 {a0 a1 : Int} (h0 : a0 < a1) (h1 : a1 ≤ 100000) : (a0 + 1) ≤ 100000 := by omega
theorem oq_23ac7970 {a0 a1 : Int} (h0 : a0 = (a1 + 1)) (h1 : 0 ≤ a1) : 1 ≤ a0 := by omega
theorem oq_901836cd {a0 a1 : Int} (h0 : a0 < a1) : 0 < (a1 - a0) := by omega
theorem oq_3a225677 {a0 a1 a2 a3 a4 : Int} (h0 : a0 = a1) (h1 : a1 = a2) (h2 : (a2 ≤ (a3 + 1) ∨ a2 ≤ a4)) : (a0 ≤ (a3 + 1) ∨ a0 ≤ a4) := by omega
theorem oq_238e3abb {a0 a1 : Int} (h0 : a0 = a1) (h1 : a1 = 24) : 1 ≤ a0 := by omega
theorem oq_f7e8fb92 {a0 a1 : Int} (h0 : a0 = a1) (h1 : a1 ≠ 24) (h2 : a1 ≤ 24) : a0 < 24 := by omega
theorem oq_6a454d4a {a0 a1 a2 : Int} (h0 : a0 = a1) (h1 : a1 = a2) (h2 : a2 ≠ 24) (h3 : a2 ≤ 24) : (a0 + 1) ≤ 24 := by omega
theorem oq_67b737cd {a0 a1 a2 : Int} (h0 : a0 = 0) (h1 : (a1 ≠ 0 → a0 ≠ 0)) (h2 : 0 ≤ a1) : (a1 ≠ 0 → a2 ≠ 0) := by omega
theorem oq_48a46d4a {a0 a1 a2 : Int} (h0 : a0 = a1) (h1 : a1 = a2) (h2 : 1 ≤ a2) : 1 ≤ a0 := by omega
theorem oq_25e396f8 {a0 a1 a2 a3 a4 a5 : Int} (h0 : a0 = a1) (h1 : a1 = a2) (h2 : a2 = a3) (h3 : (a3 ≤ (a4 + 1) ∨ a3 ≤ a5)) : (a0 ≤ (a4 + 1) ∨ a0 ≤ a5) := by omega
theorem oq_26933c77 {a0 : Int} (h0 : 4 ≤ a0) : 0 ≤ a0 := by omega
theorem oq_161a6600 {a0 a1 : Int} (h0 : a0 < a1) : a0 ≤ a1 := by omega
theorem oq_752b3116 {a0 : Int} (h0 : a0 < 4) (h1 : a0 ≠ (-1)) (h2 : (-1) ≤ a0) : (0 ≤ a0 ∧ a0 ≤ 5) := by omega
/-! The model: one move of a way -/
section M36
variable {l : Launch} {s0 : State} {D : va_G} {tys : List (ClassId × FieldType)} {a0 : Array Value} {A : Nat → Nat} {dT : Nat → ClassId} {s : PS}
end M36
end
section
theorem oq_9207f8f8 {a0 : Int} (h0 : a0 ≤ 5) : a0 < 6 := by omega
theorem oq_78f9cd89 {a0 : Int} (h0 : a0 ≤ 5) : (a0 : Int).toNat < 6 := by omega
theorem oq_0e78ca7d {a0 : Int} (h0 : a0 ≤ 7) : a0 ≤ 2147483647 := by omega
theorem oq_31b2bf10 {a0 : Int} (h0 : a0 ≤ 127) : a0 < 128 := by omega
theorem oq_c7f4e9c1 {a0 : Int} (h0 : a0 ≤ 127) : (a0 : Int).toNat < 128 := by omega
theorem oq_2dac6850 {a0 a1 : Int} (h0 : a0 < a1) (h1 : a1 ≤ 12) : (a0 : Int).toNat < 12 := by omega
theorem oq_caa626b0 {a0 a1 a2 : Int} (h0 : a0 ≤ (1200 * a1)) (h1 : a2 ≤ 1200) : (a0 + a2) ≤ (1200 * (a1 + 1)) := by omega
theorem oq_590e7a3f {a0 : Int} (h0 : 0 ≤ a0) : 0 ≤ (a0 + 0) := by omega
theorem oq_48488ccf {a0 a1 : Int} (h0 : a0 ≤ (1200 * a1)) : (a0 + 0) ≤ (1200 * (a1 + 1)) := by omega
theorem oq_df61579f {a0 a1 : Int} (h0 : a0 ≤ (1200 * a1)) (h1 : a1 ≤ 12) : a0 ≤ 2147483647 := by omega
theorem oq_5b45330b {a0 a1 : Int} (h0 : 0 ≤ a0) (h1 : a1 ≤ 24) : (-2147483648) ≤ (a0 - a1) := by omega
theorem oq_c3c0165d {a0 a1 : Int} (h0 : a0 ≤ 24) (h1 : 0 ≤ a1) : (a0 - a1) ≤ 2147483647 := by omega
/-! The model: more of the small ones -/
section M37
variable {l : Launch} {s0 : State} {D : va_G} {tys : List (ClassId × FieldType)} {a0 : Array Value} {A : Nat → Nat} {dT : Nat → ClassId} {s : PS}
theorem k_isHit (G : GX l s0 D tys a0 dT) (I : Bd s) {x y : Int} (p0 : 0 ≤ x ∧ x ≤ 11) (p1 : 0 ≤ y ∧ y ≤ 23) : CT l s0 D A dT 280 (rmN 280) [.ref (A 179), .int (Int32.ofInt x), .int (Int32.ofInt y)] s (fun o t => Bd t ∧ Fm [] [] s t ∧ ∃ e, o = .inl (some (.int (Int32.ofInt e))) ∧ rng e ∧ (e = 0 ∨ e = 1)) := by
  refine ct_of G (by decide) (Nat.le_of_ble_eq_true rfl) (fun k X E hRt hXt q => ?_)
  show WS k 0 [(0, .ref (A 179)), (1, .int (Int32.ofInt x)), (2, .int (Int32.ofInt y))] [] _ 0 0
  have F : Fm [] [] s s := fm_rf _ _ s
  have L5 : ∀ (n : Nat) (t : PS) (xv yv iv c : Int), Bd t → Fm [] [] s t → ((0 ≤ xv ∧ xv ≤ 11) ∧ (0 ≤ yv ∧ yv ≤ 23) ∧ (iv = 0 ∨ iv = 1) ∧ 0 ≤ c ∧ c ≤ 24) → (24 - c : Int).toNat < n → (∀ (t' : PS) (xv' yv' iv' c' : Int), Bd t' → Fm [] [] s t' → ((0 ≤ xv' ∧ xv' ≤ 11) ∧ (0 ≤ yv' ∧ yv' ≤ 23) ∧ (iv' = 0 ∨ iv' = 1) ∧ 0 ≤ c' ∧ c' ≤ 24) → WS k 49 [(0, .ref (A 179)), (1, .int (Int32.ofInt xv')), (2, .int (Int32.ofInt yv')), (3, .int (Int32.ofInt iv')), (4, .int (Int32.ofInt c'))] [] (Wd A dT t') 0 0) → WS k 5 [(0, .ref (A 179)), (1, .int (Int32.ofInt xv)), (2, .int (Int32.ofInt yv)), (3, .int (Int32.ofInt iv)), (4, .int (Int32.ofInt c))] [] (Wd A dT t) 0 0 := by
    intro n
    induction n with
    | zero =>
      intro t xv yv iv c I F hi hm kx
      exact absurd hm (Nat.not_lt_zero _)
    | succ n ih =>
      intro t xv yv iv c I F hi hm kx
      refine z_load X (x := c) rfl (List.Mem.tail _ (List.Mem.tail _ (List.Mem.tail _ (List.Mem.tail _ (List.Mem.head _))))) (z_aload_n X (x := A 179) rfl (List.Mem.head _) (s_getR X 179 rfl (c518_ok rfl) rfl rfl (z_load_n X (x := xv) rfl (List.Mem.tail _ (List.Mem.head _)) (z_ald X 185 rfl (c518_ok rfl) rfl (by first | exact hi.1.1 | omega) (show xv < 12 by first | exact oq_0ddfcfee hi.1.2 | omega) (cbig_ok rfl) ?_))))
      have b1001 := bc_162 I (show (xv).toNat < 12 by first | exact oq_9c5fa447 hi.1.2 | omega)
      refine z_icmp_ge X (t := 49) rfl rfl ⟨by first | exact oq_fa4e5087 hi.2.2.2.1 | omega, by first | exact oq_5bcd337f hi.2.2.2.2 | omega⟩ (rng_to _) (fun g1002 => ?_) (fun g1002 => ?_)
      ·
        refine WS_pq [0, 1, 2, 3, 4] (lv' := [(0, .ref (A 179)), (1, .int (Int32.ofInt xv)), (2, .int (Int32.ofInt yv)), (3, .int (Int32.ofInt iv)), (4, .int (Int32.ofInt c))]) rfl ?_
        exact kx _ xv yv iv c I F (by first | exact ⟨And.intro (hi.1.1) (hi.1.2), And.intro (hi.2.1.1) (hi.2.1.2), hi.2.2.1, hi.2.2.2.1, hi.2.2.2.2⟩ | omega)
      ·
        refine z_load_n X (x := iv) rfl (List.Mem.tail _ (List.Mem.tail _ (List.Mem.tail _ (List.Mem.head _)))) ?_
        have N1003 : ∀ e1004 : Int, (((iv ≠ 0) ∧ e1004 = 1) ∨ ((iv = 0) ∧ ((0 : Int) ≤ (iC t (166 + (xv : Int).toNat) (c : Int).toNat) ∧ (iC t (166 + (xv : Int).toNat) (c : Int).toNat) ≤ 127) ∧ ((0 : Int) ≤ iC t 399 ((iC t (166 + (xv : Int).toNat) (c : Int).toNat)).toNat ∧ iC t 399 ((iC t (166 + (xv : Int).toNat) (c : Int).toNat)).toNat ≤ 1) ∧ ((iC t 399 ((iC t (166 + (xv : Int).toNat) (c : Int).toNat)).toNat) = 0) ∧ e1004 = 0) ∨ ((iv = 0) ∧ ((0 : Int) ≤ (iC t (166 + (xv : Int).toNat) (c : Int).toNat) ∧ (iC t (166 + (xv : Int).toNat) (c : Int).toNat) ≤ 127) ∧ ((0 : Int) ≤ iC t 399 ((iC t (166 + (xv : Int).toNat) (c : Int).toNat)).toNat ∧ iC t 399 ((iC t (166 + (xv : Int).toNat) (c : Int).toNat)).toNat ≤ 1) ∧ ((iC t 399 ((iC t (166 + (xv : Int).toNat) (c : Int).toNat)).toNat) ≠ 0) ∧ e1004 = 1)) → WS k 42 [(0, .ref (A 179)), (1, .int (Int32.ofInt xv)), (2, .int (Int32.ofInt yv)), (3, .int (Int32.ofInt iv)), (4, .int (Int32.ofInt c))] [.int (Int32.ofInt e1004)] (Wd A dT t) 0 0 := by
          intro e1004 he1004
          have re1004 : 0 ≤ e1004 ∧ e1004 ≤ 1 := by first | (clear he1004; omega) | omega
          refine z_store_n X (lv' := [(3, .int (Int32.ofInt e1004)), (0, .ref (A 179)), (1, .int (Int32.ofInt xv)), (2, .int (Int32.ofInt yv)), (4, .int (Int32.ofInt c))]) rfl (by decide) (fun _ h => h) (z_inc X (x := c) (lv' := [(4, .int (Int32.ofInt (c + 1))), (3, .int (Int32.ofInt e1004)), (0, .ref (A 179)), (1, .int (Int32.ofInt xv)), (2, .int (Int32.ofInt yv))]) rfl (by decide) (List.Mem.tail _ (List.Mem.tail _ (List.Mem.tail _ (List.Mem.tail _ (List.Mem.head _))))) (fun _ h => h) (z_goto X (t := 5) rfl rfl (WS_pq [2, 3, 4, 1, 0] (lv' := [(0, .ref (A 179)), (1, .int (Int32.ofInt xv)), (2, .int (Int32.ofInt yv)), (3, .int (Int32.ofInt e1004)), (4, .int (Int32.ofInt (c + 1)))]) rfl ?_)))
          exact ih _ xv yv e1004 (c + 1) I F (by first | exact ⟨And.intro (hi.1.1) (hi.1.2), And.intro (hi.2.1.1) (hi.2.1.2), oq_31e518ae re1004.2 re1004.1, oq_54f49eb5 hi.2.2.2.1, oq_41473be0 g1002 b1001.2⟩ | omega) (by first | exact qk_me hm (by decide) (oq_9dea93e6 g1002 b1001.2) | omega) kx
        refine z_if_ne X (t := 37) rfl rfl ⟨by first | exact oq_bde653e9 hi.2.2.1 | omega, by first | exact oq_4ad2cb8b hi.2.2.1 | omega⟩ (fun g1005 => ?_) (fun g1005 => ?_)
        ·
          exact z_const X rfl (z_goto X (t := 42) rfl rfl (N1003 _ (Or.inl ⟨g1005, rfl⟩)))
        ·
          refine z_aload_n X (x := A 179) rfl (List.Mem.head _) (s_getR X 179 rfl (c518_ok rfl) rfl rfl (z_aload_n X (x := A 179) rfl (List.Mem.head _) (s_getR X 179 rfl (c518_ok rfl) rfl rfl (z_load_n X (x := xv) rfl (List.Mem.tail _ (List.Mem.head _)) (z_aald X rw_189 rfl (by first | exact hi.1.1 | omega) (show xv < 12 by first | exact oq_0ddfcfee hi.1.2 | omega) (by decide) (z_load X (x := c) rfl (List.Mem.tail _ (List.Mem.tail _ (List.Mem.tail _ (List.Mem.tail _ (List.Mem.head _))))) (z_ald2 X rw_189 rfl (show (xv : Int).toNat < 12 by first | exact oq_9c5fa447 hi.1.2 | omega) (by first | exact hi.2.2.2.1 | omega) (show c < 24 by first | exact oq_8ff7beb9 g1002 b1001.2 | omega) (by decide) ?_)))))))
          have b1006 : (0 : Int) ≤ (iC t (166 + (xv : Int).toNat) (c : Int).toNat) ∧ (iC t (166 + (xv : Int).toNat) (c : Int).toNat) ≤ 127 := rw_bd rw_189 I (show (xv : Int).toNat < 12 by first | exact oq_9c5fa447 hi.1.2 | omega) (show (c : Int).toNat < 24 by first | exact oq_9e668fc9 g1002 b1001.2 | omega)
          refine z_zald X 454 rfl (c518_ok rfl) rfl (by first | exact b1006.1 | omega) (show (iC t (166 + (xv : Int).toNat) (c : Int).toNat) < 128 by first | exact oq_31b2bf10 b1006.2 | omega) (cbig_ok rfl) ?_
          have b1007 := bc_399 I (show ((iC t (166 + (xv : Int).toNat) (c : Int).toNat)).toNat < 128 by first | exact oq_c7f4e9c1 b1006.2 | omega)
          refine z_if_eq X (t := 41) rfl rfl (rng_to _) (fun g1008 => ?_) (fun g1008 => ?_)
          ·
            exact z_const X rfl (N1003 _ (Or.inr (Or.inl ⟨g1005, b1006, b1007, g1008, rfl⟩)))
          ·
            exact z_const X rfl (z_goto X (t := 42) rfl rfl (N1003 _ (Or.inr (Or.inr (⟨g1005, b1006, b1007, g1008, rfl⟩)))))
  refine z_const X rfl (z_store_n X (lv' := [(3, .int (Int32.ofInt 0)), (0, .ref (A 179)), (1, .int (Int32.ofInt x)), (2, .int (Int32.ofInt y))]) rfl (by decide) (fun _ h => h) (z_const X rfl (z_store X (lv' := [(4, .int (Int32.ofInt 0)), (3, .int (Int32.ofInt 0)), (0, .ref (A 179)), (1, .int (Int32.ofInt x)), (2, .int (Int32.ofInt y))]) rfl (by decide) (fun _ h => h) (WS_pq [2, 3, 4, 1, 0] (lv' := [(0, .ref (A 179)), (1, .int (Int32.ofInt x)), (2, .int (Int32.ofInt y)), (3, .int (Int32.ofInt 0)), (4, .int (Int32.ofInt 0))]) rfl (L5 ((24 - 0 : Int).toNat + 1) s x y 0 0 I F (by first | exact ⟨And.intro (p0.1) (p0.2), And.intro (p1.1) (p1.2), Or.inl (by decide), by decide, by decide⟩ | omega) (Nat.lt_succ_self _) ?_)))))
  intro s1 x2 x3 x4 x5 Is1 Fs1 hs1
  refine z_load_n X (x := x4) rfl (List.Mem.tail _ (List.Mem.tail _ (List.Mem.tail _ (List.Mem.head _)))) (z_if_eq X (t := 66) rfl rfl ⟨by first | exact oq_bde653e9 hs1.2.2.1 | omega, by first | exact oq_4ad2cb8b hs1.2.2.1 | omega⟩ (fun g6 => ?_) (fun g6 => ?_))
  ·
    refine z_const X rfl ?_
    exact w_iret X.1 q hRt (nar_ret (by first | exact Or.inl (by decide) | omega)) (ax_d X (show cdA 280 67 = some (.ireturn, 1, 0, 0, 0) from rfl)) (Nat.zero_le _) (Nat.zero_le _) ⟨_, rfl, Is1, Fs1, 0, rfl, (by decide), by first | exact Or.inl (by decide) | omega⟩
  ·
    refine z_aload_n X (x := A 179) rfl (List.Mem.head _) (z_load_n X (x := x2) rfl (List.Mem.tail _ (List.Mem.head _)) (z_load_n X (x := x3) rfl (List.Mem.tail _ (List.Mem.tail _ (List.Mem.head _))) (zcV_i0 X E 179 (As := [.int (Int32.ofInt x2), .int (Int32.ofInt x3)]) (st := []) rfl rfl rfl rfl (k_mostOf G Is1 (by first | exact ⟨hs1.1.1, hs1.1.2⟩ | omega) (by first | exact ⟨hs1.2.1.1, hs1.2.1.2⟩ | omega)) rfl (Nat.le_of_ble_eq_true rfl) (fun s7 e8 Is7 Fs7 hrs7 hps7 => ?_))))
    have Gs7 := fm_tq Fs1 Fs7 rfl rfl
    have N9 : ∀ e10 : Int, (((e8 ≤ 0) ∧ e10 = 0) ∨ ((0 < e8) ∧ e10 = 1)) → WS k 67 [(0, .ref (A 179)), (1, .int (Int32.ofInt x2)), (2, .int (Int32.ofInt x3)), (3, .int (Int32.ofInt x4)), (4, .int (Int32.ofInt x5))] [.int (Int32.ofInt e10)] (Wd A dT s7) 0 0 := by
      intro e10 he10
      have re10 : 0 ≤ e10 ∧ e10 ≤ 1 := by first | (clear he10 g6; omega) | (clear g6; omega) | omega
      exact w_iret X.1 q hRt (nar_ret (by first | exact oq_31e518ae re10.2 re10.1 | omega)) (ax_d X (show cdA 280 67 = some (.ireturn, 1, 0, 0, 0) from rfl)) (Nat.zero_le _) (Nat.zero_le _) ⟨_, rfl, Is7, Gs7, e10, rfl, ⟨by first | exact oq_fa4e5087 re10.1 | omega, by first | exact oq_22e1e6b0 re10.2 | omega⟩, by first | exact oq_31e518ae re10.2 re10.1 | omega⟩
    refine z_if_le X (t := 66) rfl rfl hrs7 (fun g11 => ?_) (fun g11 => ?_)
    ·
      exact z_const X rfl (N9 _ (Or.inl ⟨g11, rfl⟩))
    ·
      exact z_const X rfl (z_goto X (t := 67) rfl rfl (N9 _ (Or.inr (⟨g11, rfl⟩))))
theorem k_quiet (G : GX l s0 D tys a0 dT) (I : Bd s) {x : Int} (p0 : rng x) : CT l s0 D A dT 292 (rmN 292) [.ref (A 179), .int (Int32.ofInt x)] s (fun o t => Bd t ∧ Fm [73] [] s t ∧ ∃ e, o = .inl (some (.int (Int32.ofInt e))) ∧ rng e ∧ (True)) := by
  refine ct_of G (by decide) (Nat.le_of_ble_eq_true rfl) (fun k X E hRt hXt q => ?_)
  show WS k 0 [(0, .ref (A 179)), (1, .int (Int32.ofInt x))] [] _ 0 0
  have F : Fm [73] [] s s := fm_rf _ _ s
  have b1 := bi_73 I
  have b2 := bi_90 I
  have L34 : ∀ (n : Nat) (t : PS) (xv nv c : Int), Bd t → Fm [73] [] s t → ((0 ≤ xv ∧ xv ≤ 127) ∧ 0 ≤ nv ∧ nv ≤ 1200 * c ∧ 0 ≤ c ∧ c ≤ 12) → (12 - c : Int).toNat < n → (∀ (t' : PS) (xv' nv' c' : Int), Bd t' → Fm [73] [] s t' → ((0 ≤ xv' ∧ xv' ≤ 127) ∧ 0 ≤ nv' ∧ nv' ≤ 1200 * c' ∧ 0 ≤ c' ∧ c' ≤ 12) → WS k 72 [(0, .ref (A 179)), (1, .int (Int32.ofInt xv')), (2, .int (Int32.ofInt nv')), (3, .int (Int32.ofInt c'))] [] (Wd A dT t') 0 0) → WS k 34 [(0, .ref (A 179)), (1, .int (Int32.ofInt xv)), (2, .int (Int32.ofInt nv)), (3, .int (Int32.ofInt c))] [] (Wd A dT t) 0 0 := by
    intro n
    induction n with
    | zero =>
      intro t xv nv c I F hi hm kx
      exact absurd hm (Nat.not_lt_zero _)
    | succ n ih =>
      intro t xv nv c I F hi hm kx
      have b1001 := bi_73 I
      have b1002 := bi_90 I
      refine z_load_n X (x := c) rfl (List.Mem.tail _ (List.Mem.tail _ (List.Mem.tail _ (List.Mem.head _)))) (z_aload_n X (x := A 179) rfl (List.Mem.head _) (z_getI X 179 rfl (c518_ok rfl) rfl rfl ?_))
      have b1003 := bi_90 I
      refine z_icmp_ge X (t := 72) rfl rfl ⟨by first | exact oq_fa4e5087 hi.2.2.2.1 | omega, by first | exact oq_78843a64 hi.2.2.2.2 | omega⟩ (rng_to _) (fun g1004 => ?_) (fun g1004 => ?_)
      ·
        refine WS_pq [0, 1, 2, 3] (lv' := [(0, .ref (A 179)), (1, .int (Int32.ofInt xv)), (2, .int (Int32.ofInt nv)), (3, .int (Int32.ofInt c))]) rfl ?_
        exact kx _ xv nv c I F (by first | exact ⟨And.intro (hi.1.1) (hi.1.2), hi.2.1, hi.2.2.1, hi.2.2.2.1, hi.2.2.2.2⟩ | omega)
      ·
        refine z_load_n X (x := nv) rfl (List.Mem.tail _ (List.Mem.tail _ (List.Mem.head _))) (z_aload_n X (x := A 179) rfl (List.Mem.head _) (s_getR X 179 rfl (c518_ok rfl) rfl rfl (z_load_n X (x := c) rfl (List.Mem.tail _ (List.Mem.tail _ (List.Mem.tail _ (List.Mem.head _)))) (z_aald X rw_202 rfl (by first | exact hi.2.2.2.1 | omega) (show c < 12 by first | exact oq_f36e82a8 g1004 b1003.2 | omega) (by decide) (z_load_n X (x := xv) rfl (List.Mem.tail _ (List.Mem.head _)) (z_ald2 X rw_202 rfl (show (c : Int).toNat < 12 by first | exact oq_2dac6850 g1004 b1003.2 | omega) (by first | exact hi.1.1 | omega) (show xv < 128 by first | exact oq_31b2bf10 hi.1.2 | omega) (by decide) ?_))))))
        have b1005 : ((-1) : Int) ≤ (iC t (178 + (c : Int).toNat) (xv : Int).toNat) ∧ (iC t (178 + (c : Int).toNat) (xv : Int).toNat) ≤ 23 := rw_bd rw_202 I (show (c : Int).toNat < 12 by first | exact oq_2dac6850 g1004 b1003.2 | omega) (show (xv : Int).toNat < 128 by first | exact oq_c7f4e9c1 hi.1.2 | omega)
        refine z_const X rfl (z_icmp_ne X (t := 59) rfl rfl (rng_to _) (by decide) (fun g1006 => ?_) (fun g1006 => ?_))
        ·
          refine z_aload_n X (x := A 179) rfl (List.Mem.head _) (z_load_n X (x := c) rfl (List.Mem.tail _ (List.Mem.tail _ (List.Mem.tail _ (List.Mem.head _)))) (zcV_i0 X E 179 (As := [.int (Int32.ofInt c)]) (st := [.int (Int32.ofInt nv)]) rfl rfl rfl rfl (k_total G I (by first | exact ⟨hi.2.2.2.1, oq_e4d7f3c5 g1004 b1003.2⟩ | omega)) rfl (Nat.le_of_ble_eq_true rfl) (fun s1007 e1008 Is1007 Fs1007 hrs1007 hps1007 => ?_)))
          have Gs1007 := fm_tq F Fs1007 rfl rfl
          have ws1007_73 : iI s1007 73 = iI t 73 := fm_iq Fs1007 rfl
          have ws1007_90 : iI s1007 90 = iI t 90 := fm_iq Fs1007 rfl
          refine z_add X rfl (z_store_n X (lv' := [(2, .int (Int32.ofInt (nv + e1008))), (0, .ref (A 179)), (1, .int (Int32.ofInt xv)), (3, .int (Int32.ofInt c))]) rfl (by decide) (fun _ h => h) (z_inc X (x := c) (lv' := [(3, .int (Int32.ofInt (c + 1))), (2, .int (Int32.ofInt (nv + e1008))), (0, .ref (A 179)), (1, .int (Int32.ofInt xv))]) rfl (by decide) (List.Mem.tail _ (List.Mem.tail _ (List.Mem.tail _ (List.Mem.head _)))) (fun _ h => h) (z_goto X (t := 34) rfl rfl (WS_pq [2, 3, 1, 0] (lv' := [(0, .ref (A 179)), (1, .int (Int32.ofInt xv)), (2, .int (Int32.ofInt (nv + e1008))), (3, .int (Int32.ofInt (c + 1)))]) rfl ?_))))
          exact ih _ xv (nv + e1008) (c + 1) Is1007 Gs1007 (by first | exact ⟨And.intro (hi.1.1) (hi.1.2), oq_dd29f52d hi.2.1 hps1007.1, oq_caa626b0 hi.2.2.1 hps1007.2, oq_54f49eb5 hi.2.2.2.1, oq_4dae995e g1004 b1003.2⟩ | omega) (by first | exact qk_me hm (by decide) (oq_b575e8c1 g1004 b1003.2) | omega) kx
        ·
          refine z_const X rfl (z_goto X (t := 64) rfl rfl (z_add X rfl (z_store_n X (lv' := [(2, .int (Int32.ofInt (nv + 0))), (0, .ref (A 179)), (1, .int (Int32.ofInt xv)), (3, .int (Int32.ofInt c))]) rfl (by decide) (fun _ h => h) (z_inc X (x := c) (lv' := [(3, .int (Int32.ofInt (c + 1))), (2, .int (Int32.ofInt (nv + 0))), (0, .ref (A 179)), (1, .int (Int32.ofInt xv))]) rfl (by decide) (List.Mem.tail _ (List.Mem.tail _ (List.Mem.tail _ (List.Mem.head _)))) (fun _ h => h) (z_goto X (t := 34) rfl rfl (WS_pq [2, 3, 1, 0] (lv' := [(0, .ref (A 179)), (1, .int (Int32.ofInt xv)), (2, .int (Int32.ofInt (nv + 0))), (3, .int (Int32.ofInt (c + 1)))]) rfl ?_))))))
          exact ih _ xv (nv + 0) (c + 1) I F (by first | exact ⟨And.intro (hi.1.1) (hi.1.2), oq_590e7a3f hi.2.1, oq_48488ccf hi.2.2.1, oq_54f49eb5 hi.2.2.2.1, oq_4dae995e g1004 b1003.2⟩ | omega) (by first | exact qk_me hm (by decide) (oq_b575e8c1 g1004 b1003.2) | omega) kx
  refine z_aload_n X (x := A 179) rfl (List.Mem.head _) (z_const X rfl (s_putI X 179 rfl (c518_ok rfl) rfl rfl (by decide) rfl rfl rfl (wd_gen (fun s3 hs3 => ?_))))
  have Is3 : Bd s3 := eqB hs3 (bd_I I (show (0 : Int) ≤ 0 ∧ 0 ≤ 3 by first | exact ⟨by decide, by decide⟩ | omega) (by decide))
  have Fs3 := eqF hs3 (fm_I F (inl_ok (a := 73) rfl))
  have vs3 : iI s3 73 = 0 := eqI hs3 (iI_u (by decide))
  have ws3_90 : iI s3 90 = iI s 90 := eqI hs3 rfl
  refine z_aload_n X (x := A 179) rfl (List.Mem.head _) (z_load_n X (x := x) rfl (List.Mem.tail _ (List.Mem.head _)) (z_const X rfl (z_bipush X rfl (zcS_i0 X E (As := [.int (Int32.ofInt x), .int (Int32.ofInt 0), .int (Int32.ofInt 127)]) (st := [.ref (A 179)]) rfl rfl (k_in G Is3 (by first | exact ⟨p0.1, p0.2⟩ | omega) (by first | exact ⟨by decide, by decide⟩ | omega) (by first | exact ⟨by decide, by decide⟩ | omega)) rfl (Nat.le_of_ble_eq_true rfl) (fun s4 e5 Is4 Fs4 hrs4 hps4 => ?_)))))
  have Gs4 := fm_tq Fs3 Fs4 rfl rfl
  have ws4_73 : iI s4 73 = iI s3 73 := fm_iq Fs4 rfl
  have ws4_90 : iI s4 90 = iI s3 90 := fm_iq Fs4 rfl
  have N6 : ∀ e7 : Int, (((e5 ≠ 0) ∧ e7 = 0) ∨ ((e5 = 0) ∧ e7 = 1)) → WS k 21 [(0, .ref (A 179)), (1, .int (Int32.ofInt x))] [.int (Int32.ofInt e7), .ref (A 179)] (Wd A dT s4) 0 0 := by
    intro e7 he7
    have re7 : 0 ≤ e7 ∧ e7 ≤ 1 := by first | (clear he7 hps4; omega) | (clear hps4; omega) | omega
    refine z_const X rfl (zcV_i0 X E 179 (As := [.int (Int32.ofInt e7), .int (Int32.ofInt 1)]) (st := []) rfl rfl rfl rfl (k_bad G Is4 (by first | exact oq_31e518ae re7.2 re7.1 | omega) (by first | exact ⟨by decide, by decide⟩ | omega)) rfl (Nat.le_of_ble_eq_true rfl) (fun s8 e9 Is8 Fs8 hrs8 hps8 => ?_))
    have Gs8 := fm_tq Gs4 Fs8 rfl rfl
    have b10 := bi_73 Is8
    have ws8_90 : iI s8 90 = iI s4 90 := fm_iq Fs8 rfl
    refine z_if_eq X (t := 30) rfl rfl hrs8 (fun g11 => ?_) (fun g11 => ?_)
    ·
      refine z_const X rfl (z_store_n X (lv' := [(2, .int (Int32.ofInt 0)), (0, .ref (A 179)), (1, .int (Int32.ofInt x))]) rfl (by decide) (fun _ h => h) (z_const X rfl (z_store_n X (lv' := [(3, .int (Int32.ofInt 0)), (2, .int (Int32.ofInt 0)), (0, .ref (A 179)), (1, .int (Int32.ofInt x))]) rfl (by decide) (fun _ h => h) (WS_pq [2, 3, 1, 0] (lv' := [(0, .ref (A 179)), (1, .int (Int32.ofInt x)), (2, .int (Int32.ofInt 0)), (3, .int (Int32.ofInt 0))]) rfl (L34 ((12 - 0 : Int).toNat + 1) s8 x 0 0 Is8 Gs8 (by first | exact ⟨oq_0661024d g11 hps8.2.1 re7.2 he7 hps4, by decide, by decide, by decide, by decide⟩ | omega) (Nat.lt_succ_self _) ?_)))))
      intro s12 x13 x14 x15 Is12 Fs12 hs12
      have b16 := bi_73 Is12
      have b17 := bi_90 Is12
      refine z_load_n X (x := x14) rfl (List.Mem.tail _ (List.Mem.tail _ (List.Mem.head _))) ?_
      exact w_iret X.1 q hRt rfl (ax_d X (show cdA 292 73 = some (.ireturn, 1, 0, 0, 0) from rfl)) (Nat.zero_le _) (Nat.zero_le _) ⟨_, rfl, Is12, Fs12, x14, rfl, ⟨by first | exact oq_fa4e5087 hs12.2.1 | omega, by first | exact oq_df61579f hs12.2.2.1 hs12.2.2.2.2 | omega⟩, trivial⟩
    ·
      refine z_const X rfl ?_
      exact w_iret X.1 q hRt rfl (ax_d X (show cdA 292 29 = some (.ireturn, 1, 0, 0, 0) from rfl)) (Nat.zero_le _) (Nat.zero_le _) ⟨_, rfl, Is8, Gs8, 0, rfl, (by decide), trivial⟩
  refine z_if_ne X (t := 20) rfl rfl hrs4 (fun g18 => ?_) (fun g18 => ?_)
  ·
    exact z_const X rfl (N6 _ (Or.inl ⟨g18, rfl⟩))
  ·
    exact z_const X rfl (z_goto X (t := 21) rfl rfl (N6 _ (Or.inr (⟨g18, rfl⟩))))
theorem k_minutesOf (G : GX l s0 D tys a0 dT) (I : Bd s) {x y z : Int} (p0 : 0 ≤ x ∧ x ≤ 11) (p1 : 1 ≤ y ∧ y ≤ 3) (p2 : 0 ≤ z ∧ z ≤ 23) : CT l s0 D A dT 282 (rmN 282) [.ref (A 179), .int (Int32.ofInt x), .int (Int32.ofInt y), .int (Int32.ofInt z)] s (fun o t => Bd t ∧ Fm [] [] s t ∧ ∃ e, o = .inl (some (.int (Int32.ofInt e))) ∧ rng e ∧ (True)) := by
  refine ct_of G (by decide) (Nat.le_of_ble_eq_true rfl) (fun k X E hRt hXt q => ?_)
  show WS k 0 [(0, .ref (A 179)), (1, .int (Int32.ofInt x)), (2, .int (Int32.ofInt y)), (3, .int (Int32.ofInt z))] [] _ 0 0
  have F : Fm [] [] s s := fm_rf _ _ s
  refine z_aload_n X (x := A 179) rfl (List.Mem.head _) (s_getR X 179 rfl (c518_ok rfl) rfl rfl (z_load_n X (x := x) rfl (List.Mem.tail _ (List.Mem.head _)) (z_ald X 458 rfl (c518_ok rfl) rfl (by first | exact p0.1 | omega) (show x < 12 by first | exact oq_0ddfcfee p0.2 | omega) (cbig_ok rfl) ?_)))
  have b1 := bc_403 I (show (x).toNat < 12 by first | exact oq_9c5fa447 p0.2 | omega)
  refine z_aload_n X (x := A 179) rfl (List.Mem.head _) (s_getR X 179 rfl (c518_ok rfl) rfl rfl (z_load_n X (x := x) rfl (List.Mem.tail _ (List.Mem.head _)) (z_ald X 185 rfl (c518_ok rfl) rfl (by first | exact p0.1 | omega) (show x < 12 by first | exact oq_0ddfcfee p0.2 | omega) (cbig_ok rfl) ?_)))
  have b2 := bc_162 I (show (x).toNat < 12 by first | exact oq_9c5fa447 p0.2 | omega)
  refine z_sub X rfl (z_store X (lv' := [(4, .int (Int32.ofInt ((iC s 403 (x).toNat) - (iC s 162 (x).toNat)))), (0, .ref (A 179)), (1, .int (Int32.ofInt x)), (2, .int (Int32.ofInt y)), (3, .int (Int32.ofInt z))]) rfl (by decide) (fun _ h => h) (z_aload_n X (x := A 179) rfl (List.Mem.tail _ (List.Mem.head _)) (z_load_n X (x := x) rfl (List.Mem.tail _ (List.Mem.tail _ (List.Mem.head _))) (z_load_n X (x := z) rfl (List.Mem.tail _ (List.Mem.tail _ (List.Mem.tail _ (List.Mem.tail _ (List.Mem.head _))))) (zcV_i0 X E 179 (As := [.int (Int32.ofInt x), .int (Int32.ofInt z)]) (st := []) rfl rfl rfl rfl (k_mostOf G I (by first | exact ⟨p0.1, p0.2⟩ | omega) (by first | exact ⟨p2.1, p2.2⟩ | omega)) rfl (Nat.le_of_ble_eq_true rfl) (fun s3 e4 Is3 Fs3 hrs3 hps3 => ?_))))))
  have Gs3 := fm_tq F Fs3 rfl rfl
  refine z_load_n X (x := y) rfl (List.Mem.tail _ (List.Mem.tail _ (List.Mem.tail _ (List.Mem.head _)))) (z_const X rfl (z_icmp_ne X (t := 42) rfl rfl ⟨by first | exact oq_9462313e p1.1 | omega, by first | exact oq_c5520c83 p1.2 | omega⟩ (by decide) (fun g5 => ?_) (fun g5 => ?_)))
  ·
    refine z_load_n X (x := y) rfl (List.Mem.tail _ (List.Mem.tail _ (List.Mem.tail _ (List.Mem.head _)))) (z_const X rfl ?_)
    have N6 : ∀ e7 : Int, (((y ≠ 2) ∧ e7 = 60) ∨ ((y = 2) ∧ e7 = 15)) → WS k 54 [(4, .int (Int32.ofInt ((iC s 403 (x).toNat) - (iC s 162 (x).toNat)))), (0, .ref (A 179)), (1, .int (Int32.ofInt x)), (2, .int (Int32.ofInt y)), (3, .int (Int32.ofInt z))] [.int (Int32.ofInt e7), .int (Int32.ofInt e4)] (Wd A dT s3) 0 0 := by
      intro e7 he7
      have re7 : 15 ≤ e7 ∧ e7 ≤ 60 := by first | (clear he7 g5; omega) | (clear g5; omega) | omega
      refine z_mul X rfl (z_any (fun y8 hy8 => ?_))
      exact w_iret X.1 q hRt rfl (ax_d X (show cdA 282 55 = some (.ireturn, 1, 0, 0, 0) from rfl)) (Nat.zero_le _) (Nat.zero_le _) ⟨_, rfl, Is3, Gs3, y8, rfl, hy8, trivial⟩
    refine z_icmp_ne X (t := 52) rfl rfl ⟨by first | exact oq_9462313e p1.1 | omega, by first | exact oq_c5520c83 p1.2 | omega⟩ (by decide) (fun g9 => ?_) (fun g9 => ?_)
    ·
      exact z_bipush X rfl (N6 _ (Or.inl ⟨g9, rfl⟩))
    ·
      exact z_bipush X rfl (z_goto X (t := 54) rfl rfl (N6 _ (Or.inr (⟨g9, rfl⟩))))
  ·
    refine z_const X rfl (z_load X (x := ((iC s 403 (x).toNat) - (iC s 162 (x).toNat))) rfl (List.Mem.head _) ?_)
    have N10 : ∀ e11 : Int, (((((iC s 403 (x).toNat) - (iC s 162 (x).toNat)) ≤ 0) ∧ e11 = 0) ∨ ((0 < ((iC s 403 (x).toNat) - (iC s 162 (x).toNat))) ∧ e11 = ((iC s 403 (x).toNat) - (iC s 162 (x).toNat)))) → WS k 38 [(4, .int (Int32.ofInt ((iC s 403 (x).toNat) - (iC s 162 (x).toNat)))), (0, .ref (A 179)), (1, .int (Int32.ofInt x)), (2, .int (Int32.ofInt y)), (3, .int (Int32.ofInt z))] [.int (Int32.ofInt e11), .int (Int32.ofInt 2), .int (Int32.ofInt e4)] (Wd A dT s3) 0 0 := by
      intro e11 he11
      refine z_mul X rfl (z_any (fun y12 hy12 => ?_))
      refine z_goto X (t := 54) rfl rfl (z_mul X rfl (z_any (fun y13 hy13 => ?_)))
      exact w_iret X.1 q hRt rfl (ax_d X (show cdA 282 55 = some (.ireturn, 1, 0, 0, 0) from rfl)) (Nat.zero_le _) (Nat.zero_le _) ⟨_, rfl, Is3, Gs3, y13, rfl, hy13, trivial⟩
    refine z_if_le X (t := 37) rfl rfl ⟨by first | exact oq_5b45330b b1.1 b2.2 | omega, by first | exact oq_c3c0165d b1.2 b2.1 | omega⟩ (fun g14 => ?_) (fun g14 => ?_)
    ·
      exact z_const X rfl (N10 _ (Or.inl ⟨g14, rfl⟩))
    ·
      exact z_load X (x := ((iC s 403 (x).toNat) - (iC s 162 (x).toNat))) rfl (List.Mem.head _) (z_goto X (t := 38) rfl rfl (N10 _ (Or.inr (⟨g14, rfl⟩))))
end M37
end
section
theorem oq_e001bc0d {a0 a1 : Int} (h0 : a0 ≤ a1) (h1 : 0 ≤ a0) : (-2147483648) ≤ a1 := by omega
theorem oq_99d04864 {a0 : Int} (h0 : a0 ≤ 25) : a0 ≤ 2147483647 := by omega
theorem oq_a8f1d18e {a0 a1 a2 : Int} (h0 : ((a0 = 0 ∧ a1 = 0) ∨ (a0 ≠ 0 ∧ a1 = (a2 + 1)))) (h1 : 0 ≤ a2) : 0 ≤ a1 := by omega
theorem oq_7ac42359 {a0 a1 a2 a3 : Int} (h0 : ((a0 = 0 ∧ a1 = 0) ∨ (a0 ≠ 0 ∧ a1 = (a2 + 1)))) (h1 : a2 ≤ a3) (h2 : 0 ≤ a2) : a1 ≤ (a3 + 1) := by omega
theorem oq_7f051044 {a0 a1 : Int} (h0 : a0 ≤ a1) (h1 : a1 ≤ 24) : (a0 + 1) ≤ 25 := by omega
theorem oq_9ae278d0 {a0 a1 : Int} (h0 : a0 ≤ a1) (h1 : a1 ≤ 24) : 0 < (25 - a0) := by omega
theorem oq_e678fa0f {a0 a1 : Int} (h0 : a0 ≤ a1) (h1 : a1 ≤ 25) : a0 ≤ 2147483647 := by omega
theorem oq_6ab4c69f {a0 : Int} (h0 : a0 = 0) : (-2147483648) ≤ a0 := by omega
theorem oq_3b8a080c {a0 : Int} (h0 : a0 = 0) : a0 ≤ 2147483647 := by omega
theorem oq_97e58444 {a0 : Int} (h0 : 0 < a0) : (-2147483648) ≤ a0 := by omega
theorem oq_ec6299c0 {a0 a1 a2 : Int} (h0 : ((a0 = 0 ∧ a1 = 0) ∨ (a0 ≠ 0 ∧ a1 = (a2 + 1)))) (h1 : 0 < a2) : 0 ≤ a1 := by omega
theorem oq_6b52d3f8 {a0 a1 a2 a3 : Int} (h0 : ((a0 = 0 ∧ a1 = 0) ∨ (a0 ≠ 0 ∧ a1 = (a2 + 1)))) (h1 : 0 < a2) (h2 : a2 ≤ a3) : a1 ≤ (a3 + 1) := by omega
theorem oq_12a1f9e1 {a0 a1 : Int} (h0 : a0 ≤ a1) (h1 : 0 ≤ a0) : 0 ≤ a1 := by omega
theorem oq_51d1204d {a0 : Int} (h0 : a0 ≤ 11) : (a0 + 1) ≤ 12 := by omega
theorem oq_8b937940 {a0 : Int} (h0 : a0 ≤ 11) : 0 < (12 - a0) := by omega
theorem oq_fb6f88a4 {a0 a1 a2 a3 : Int} (h0 : a0 = 0) (h1 : (a1 = 1 → a0 = 1)) (h2 : a1 ≤ 1) (h3 : ((a2 ≠ 0 ∧ a1 = 0) ∨ (a2 = 0 ∧ a1 = 1))) (h4 : ((a2 = 1 ∧ (0 ≤ a3 ∧ a3 ≤ 7)) ∨ (a2 = 0 ∧ (a3 < 0 ∨ 7 < a3)))) : (0 ≤ a3 ∧ a3 ≤ 7) := by omega
theorem oq_227d2cd7 {a0 : Int} (h0 : a0 ≤ 40) : a0 ≤ 2147483647 := by omega
theorem oq_497ff6eb {a0 a1 : Int} (h0 : a0 < a1) (h1 : a1 ≤ 40) : a0 < 40 := by omega
theorem oq_23813e7c {a0 a1 : Int} (h0 : a0 < a1) (h1 : a1 ≤ 40) : (a0 : Int).toNat < 40 := by omega
theorem oq_240b6eb6 {a0 : Int} (h0 : a0 ≤ 624) : a0 ≤ 2147483647 := by omega
theorem oq_c0c6d7d2  : (0 : Int).toNat < 4 := by omega
theorem oq_fe4d3050 {a0 : Int} (h0 : 0 ≤ a0) : 0 ≤ (a0 / 25) := by omega
theorem oq_e76ffcc2 {a0 : Int} (h0 : 0 ≤ a0) : (-2147483648) ≤ (a0 / 25) := by omega
theorem oq_41007592 {a0 : Int} (h0 : a0 ≤ 624) : (a0 / 25) ≤ 2147483647 := by omega
theorem oq_f6f99e0f  : (1 : Int).toNat < 4 := by omega
theorem oq_b34fa872 {a0 : Int} (h0 : 0 ≤ a0) : 0 ≤ (a0 / 5) := by omega
theorem oq_35859962 {a0 : Int} (h0 : 0 ≤ a0) : (-2147483648) ≤ (a0 / 5) := by omega
theorem oq_74197da2 {a0 : Int} (h0 : a0 ≤ 624) : (a0 / 5) ≤ 2147483647 := by omega
theorem oq_db5fa50e  : (2 : Int).toNat < 4 := by omega
theorem oq_8d498ec2  : (3 : Int).toNat < 4 := by omega
theorem oq_aa91b9d2 {a0 a1 : Int} (h0 : a0 < a1) (h1 : a1 ≤ 40) : (a0 + 1) ≤ 40 := by omega
theorem oq_e7680c39 {a0 a1 : Int} (h0 : a0 < a1) (h1 : a1 ≤ 40) : 0 < (40 - a0) := by omega
theorem oq_82406429 {a0 : Int} (h0 : a0 ≤ 625) : a0 ≤ 2147483647 := by omega
theorem oq_6eb35ffb {a0 : Int} (h0 : a0 < 625) : a0 ≤ 624 := by omega
theorem oq_1e1a2df6 {a0 : Int} (h0 : 1 ≤ a0) : 1 ≤ (a0 + 1) := by omega
theorem oq_d524a3cb {a0 : Int} (h0 : a0 < 625) : (a0 + 1) ≤ 625 := by omega
theorem oq_ad009edd {a0 : Int} (h0 : a0 < 625) : 0 < (625 - a0) := by omega
theorem oq_b00d0c1c {a0 : Int}  : (-2147483648) ≤ (a0 % 5) := by omega
theorem oq_3a6ad61a {a0 : Int}  : (a0 % 5) ≤ 2147483647 := by omega
theorem oq_cd11bb7e {a0 : Int}  : (-2147483648) ≤ ((a0 / 5) % 5) := by omega
theorem oq_49813365 {a0 : Int}  : ((a0 / 5) % 5) ≤ 2147483647 := by omega
theorem oq_60d80e36 {a0 : Int}  : (-2147483648) ≤ ((a0 / 25) % 5) := by omega
theorem oq_9ee02b76 {a0 : Int}  : ((a0 / 25) % 5) ≤ 2147483647 := by omega
theorem oq_2f0adc8d {a0 : Int} (h0 : 0 ≤ a0) : (-2147483648) ≤ (a0 / 125) := by omega
theorem oq_b0fa4340 {a0 : Int} (h0 : a0 ≤ 624) : (a0 / 125) ≤ 2147483647 := by omega
theorem oq_7bea7075 {a0 : Int} (h0 : a0 < 8) : a0 ≤ 2147483647 := by omega
theorem oq_273e42a6 {a0 a1 a2 : Int} (h0 : a0 ≤ a1) (h1 : a2 ≤ 1) : (a0 + a2) ≤ (a1 + 1) := by omega
theorem oq_0c7b19c3 {a0 : Int} (h0 : a0 < 8) : (a0 + 1) ≤ 8 := by omega
theorem oq_9f368f35 {a0 : Int} (h0 : a0 < 8) : 0 < (8 - a0) := by omega
theorem oq_fe8b3247 {a0 a1 : Int} (h0 : a0 ≤ a1) (h1 : a1 ≤ 8) : a0 ≤ 8 := by omega
theorem oq_9eb6cd9c {a0 a1 : Int} (h0 : a0 ≤ a1) (h1 : a1 ≤ 128) : a0 ≤ 2147483647 := by omega
/-! The model: shorts, offs -/
section M38
variable {l : Launch} {s0 : State} {D : va_G} {tys : List (ClassId × FieldType)} {a0 : Array Value} {A : Nat → Nat} {dT : Nat → ClassId} {s : PS}
theorem k_shorts (G : GX l s0 D tys a0 dT) (I : Bd s) {x : Int} (p0 : rng x) : CT l s0 D A dT 243 (rmN 243) [.ref (A 179), .int (Int32.ofInt x)] s (fun o t => Bd t ∧ Fm [73] [] s t ∧ ∃ e, o = .inl (some (.int (Int32.ofInt e))) ∧ rng e ∧ (True)) := by
  refine ct_of G (by decide) (Nat.le_of_ble_eq_true rfl) (fun k X E hRt hXt q => ?_)
  show WS k 0 [(0, .ref (A 179)), (1, .int (Int32.ofInt x))] [] _ 0 0
  have F : Fm [73] [] s s := fm_rf _ _ s
  have b1 := bi_73 I
  have b2 := bi_90 I
  have b3 := bi_95 I
  have L48 : ∀ (n : Nat) (t : PS) (xv bv sv rv c : Int), Bd t → Fm [73] [] s t → ((0 ≤ xv ∧ xv ≤ 7) ∧ rng bv ∧ (0 ≤ sv ∧ sv ≤ 11) ∧ 0 ≤ rv ∧ rv ≤ c ∧ c ≤ 25) → (25 - c : Int).toNat < n → (∀ (t' : PS) (bv' rv' c' : Int), Bd t' → Fm [73] [] s t' → ((0 ≤ xv ∧ xv ≤ 7) ∧ rng bv' ∧ (0 ≤ sv ∧ sv ≤ 11) ∧ 0 ≤ rv' ∧ rv' ≤ c' ∧ c' ≤ 25) → WS k 141 [(0, .ref (A 179)), (1, .int (Int32.ofInt xv)), (2, .int (Int32.ofInt bv')), (3, .int (Int32.ofInt sv)), (4, .int (Int32.ofInt rv')), (5, .int (Int32.ofInt c'))] [] (Wd A dT t') 0 0) → WS k 48 [(0, .ref (A 179)), (1, .int (Int32.ofInt xv)), (2, .int (Int32.ofInt bv)), (3, .int (Int32.ofInt sv)), (4, .int (Int32.ofInt rv)), (5, .int (Int32.ofInt c))] [] (Wd A dT t) 0 0 := by
    intro n
    induction n with
    | zero =>
      intro t xv bv sv rv c I F hi hm kx
      exact absurd hm (Nat.not_lt_zero _)
    | succ n ih =>
      intro t xv bv sv rv c I F hi hm kx
      have b1001 := bi_73 I
      have b1002 := bi_90 I
      have b1003 := bi_95 I
      refine z_load X (x := c) rfl (List.Mem.tail _ (List.Mem.tail _ (List.Mem.tail _ (List.Mem.tail _ (List.Mem.tail _ (List.Mem.head _)))))) (z_aload_n X (x := A 179) rfl (List.Mem.head _) (s_getR X 179 rfl (c518_ok rfl) rfl rfl (z_load_n X (x := sv) rfl (List.Mem.tail _ (List.Mem.tail _ (List.Mem.tail _ (List.Mem.head _)))) (z_ald X 185 rfl (c518_ok rfl) rfl (by first | exact hi.2.2.1.1 | omega) (show sv < 12 by first | exact oq_0ddfcfee hi.2.2.1.2 | omega) (cbig_ok rfl) ?_))))
      have b1004 := bc_162 I (show (sv).toNat < 12 by first | exact oq_9c5fa447 hi.2.2.1.2 | omega)
      refine z_icmp_gt X (t := 141) rfl rfl ⟨by first | exact oq_e001bc0d hi.2.2.2.2.1 hi.2.2.2.1 | omega, by first | exact oq_99d04864 hi.2.2.2.2.2 | omega⟩ (rng_to _) (fun g1005 => ?_) (fun g1005 => ?_)
      ·
        refine WS_pq [0, 1, 2, 3, 4, 5] (lv' := [(0, .ref (A 179)), (1, .int (Int32.ofInt xv)), (2, .int (Int32.ofInt bv)), (3, .int (Int32.ofInt sv)), (4, .int (Int32.ofInt rv)), (5, .int (Int32.ofInt c))]) rfl ?_
        exact kx _ bv rv c I F (by first | exact ⟨And.intro (hi.1.1) (hi.1.2), And.intro (hi.2.1.1) (hi.2.1.2), And.intro (hi.2.2.1.1) (hi.2.2.1.2), hi.2.2.2.1, hi.2.2.2.2.1, hi.2.2.2.2.2⟩ | omega)
      ·
        refine z_load X (x := c) rfl (List.Mem.tail _ (List.Mem.tail _ (List.Mem.tail _ (List.Mem.tail _ (List.Mem.tail _ (List.Mem.head _)))))) (z_aload_n X (x := A 179) rfl (List.Mem.head _) (s_getR X 179 rfl (c518_ok rfl) rfl rfl (z_load_n X (x := sv) rfl (List.Mem.tail _ (List.Mem.tail _ (List.Mem.tail _ (List.Mem.head _)))) (z_ald X 185 rfl (c518_ok rfl) rfl (by first | exact hi.2.2.1.1 | omega) (show sv < 12 by first | exact oq_0ddfcfee hi.2.2.1.2 | omega) (cbig_ok rfl) ?_))))
        have b1006 := bc_162 I (show (sv).toNat < 12 by first | exact oq_9c5fa447 hi.2.2.1.2 | omega)
        have N1007 : ∀ e1008 : Int, ((((iC t 162 (sv).toNat) ≤ c) ∧ e1008 = 0) ∨ ((c < (iC t 162 (sv).toNat)) ∧ ((0 : Int) ≤ (iC t (166 + (sv : Int).toNat) (c : Int).toNat) ∧ (iC t (166 + (sv : Int).toNat) (c : Int).toNat) ≤ 127) ∧ (((-1) : Int) ≤ iC t 228 ((iC t (166 + (sv : Int).toNat) (c : Int).toNat)).toNat ∧ iC t 228 ((iC t (166 + (sv : Int).toNat) (c : Int).toNat)).toNat ≤ 7) ∧ ((iC t 228 ((iC t (166 + (sv : Int).toNat) (c : Int).toNat)).toNat) ≠ xv) ∧ e1008 = 0) ∨ ((c < (iC t 162 (sv).toNat)) ∧ ((0 : Int) ≤ (iC t (166 + (sv : Int).toNat) (c : Int).toNat) ∧ (iC t (166 + (sv : Int).toNat) (c : Int).toNat) ≤ 127) ∧ (((-1) : Int) ≤ iC t 228 ((iC t (166 + (sv : Int).toNat) (c : Int).toNat)).toNat ∧ iC t 228 ((iC t (166 + (sv : Int).toNat) (c : Int).toNat)).toNat ≤ 7) ∧ ((iC t 228 ((iC t (166 + (sv : Int).toNat) (c : Int).toNat)).toNat) = xv) ∧ e1008 = 1)) → WS k 93 [(0, .ref (A 179)), (1, .int (Int32.ofInt xv)), (2, .int (Int32.ofInt bv)), (3, .int (Int32.ofInt sv)), (4, .int (Int32.ofInt rv)), (5, .int (Int32.ofInt c))] [.int (Int32.ofInt e1008)] (Wd A dT t) 0 0 := by
          intro e1008 he1008
          have re1008 : 0 ≤ e1008 ∧ e1008 ≤ 1 := by first | (clear he1008; omega) | omega
          refine z_store X (lv' := [(6, .int (Int32.ofInt e1008)), (0, .ref (A 179)), (1, .int (Int32.ofInt xv)), (2, .int (Int32.ofInt bv)), (3, .int (Int32.ofInt sv)), (4, .int (Int32.ofInt rv)), (5, .int (Int32.ofInt c))]) rfl (by decide) (fun _ h => h) (z_load X (x := e1008) rfl (List.Mem.head _) (z_if_ne X (t := 120) rfl rfl ⟨by first | exact oq_fa4e5087 re1008.1 | omega, by first | exact oq_22e1e6b0 re1008.2 | omega⟩ (fun g1009 => ?_) (fun g1009 => ?_)))
          ·
            refine z_load X (x := e1008) rfl (List.Mem.head _) ?_
            have N1010 : ∀ e1011 : Int, (((e1008 = 0) ∧ e1011 = 0) ∨ ((e1008 ≠ 0) ∧ e1011 = (rv + 1))) → WS k 133 [(6, .int (Int32.ofInt e1008)), (0, .ref (A 179)), (1, .int (Int32.ofInt xv)), (2, .int (Int32.ofInt bv)), (3, .int (Int32.ofInt sv)), (4, .int (Int32.ofInt rv)), (5, .int (Int32.ofInt c))] [.int (Int32.ofInt e1011)] (Wd A dT t) 0 0 := by
              intro e1011 he1011
              refine z_store X (lv' := [(4, .int (Int32.ofInt e1011)), (6, .int (Int32.ofInt e1008)), (0, .ref (A 179)), (1, .int (Int32.ofInt xv)), (2, .int (Int32.ofInt bv)), (3, .int (Int32.ofInt sv)), (5, .int (Int32.ofInt c))]) rfl (by decide) (fun _ h => h) (z_inc X (x := c) (lv' := [(5, .int (Int32.ofInt (c + 1))), (4, .int (Int32.ofInt e1011)), (6, .int (Int32.ofInt e1008)), (0, .ref (A 179)), (1, .int (Int32.ofInt xv)), (2, .int (Int32.ofInt bv)), (3, .int (Int32.ofInt sv))]) rfl (by decide) (List.Mem.tail _ (List.Mem.tail _ (List.Mem.tail _ (List.Mem.tail _ (List.Mem.tail _ (List.Mem.tail _ (List.Mem.head _))))))) (fun _ h => h) (z_goto X (t := 48) rfl rfl (WS_pq [3, 4, 5, 6, 1, 0] (lv' := [(0, .ref (A 179)), (1, .int (Int32.ofInt xv)), (2, .int (Int32.ofInt bv)), (3, .int (Int32.ofInt sv)), (4, .int (Int32.ofInt e1011)), (5, .int (Int32.ofInt (c + 1)))]) rfl ?_)))
              exact ih _ xv bv sv e1011 (c + 1) I F (by first | exact ⟨And.intro (hi.1.1) (hi.1.2), And.intro (hi.2.1.1) (hi.2.1.2), And.intro (hi.2.2.1.1) (hi.2.2.1.2), oq_a8f1d18e he1011 hi.2.2.2.1, oq_7ac42359 he1011 hi.2.2.2.2.1 hi.2.2.2.1, oq_7f051044 g1005 b1006.2⟩ | omega) (by first | exact qk_me hm (by decide) (oq_9ae278d0 g1005 b1006.2) | omega) kx
            refine z_if_eq X (t := 132) rfl rfl ⟨by first | exact oq_fa4e5087 re1008.1 | omega, by first | exact oq_22e1e6b0 re1008.2 | omega⟩ (fun g1012 => ?_) (fun g1012 => ?_)
            ·
              exact z_const X rfl (N1010 _ (Or.inl ⟨g1012, rfl⟩))
            ·
              exact z_load X (x := rv) rfl (List.Mem.tail _ (List.Mem.tail _ (List.Mem.tail _ (List.Mem.tail _ (List.Mem.tail _ (List.Mem.head _)))))) (z_const X rfl (z_add X rfl (z_goto X (t := 133) rfl rfl (N1010 _ (Or.inr (⟨g1012, rfl⟩))))))
          ·
            refine z_load X (x := rv) rfl (List.Mem.tail _ (List.Mem.tail _ (List.Mem.tail _ (List.Mem.tail _ (List.Mem.tail _ (List.Mem.head _)))))) (z_if_le X (t := 120) rfl rfl ⟨by first | exact oq_fa4e5087 hi.2.2.2.1 | omega, by first | exact oq_e678fa0f hi.2.2.2.2.1 hi.2.2.2.2.2 | omega⟩ (fun g1013 => ?_) (fun g1013 => ?_))
            ·
              refine z_load X (x := e1008) rfl (List.Mem.head _) ?_
              have N1014 : ∀ e1015 : Int, (((e1008 = 0) ∧ e1015 = 0) ∨ ((e1008 ≠ 0) ∧ e1015 = (rv + 1))) → WS k 133 [(6, .int (Int32.ofInt e1008)), (0, .ref (A 179)), (1, .int (Int32.ofInt xv)), (2, .int (Int32.ofInt bv)), (3, .int (Int32.ofInt sv)), (4, .int (Int32.ofInt rv)), (5, .int (Int32.ofInt c))] [.int (Int32.ofInt e1015)] (Wd A dT t) 0 0 := by
                intro e1015 he1015
                refine z_store X (lv' := [(4, .int (Int32.ofInt e1015)), (6, .int (Int32.ofInt e1008)), (0, .ref (A 179)), (1, .int (Int32.ofInt xv)), (2, .int (Int32.ofInt bv)), (3, .int (Int32.ofInt sv)), (5, .int (Int32.ofInt c))]) rfl (by decide) (fun _ h => h) (z_inc X (x := c) (lv' := [(5, .int (Int32.ofInt (c + 1))), (4, .int (Int32.ofInt e1015)), (6, .int (Int32.ofInt e1008)), (0, .ref (A 179)), (1, .int (Int32.ofInt xv)), (2, .int (Int32.ofInt bv)), (3, .int (Int32.ofInt sv))]) rfl (by decide) (List.Mem.tail _ (List.Mem.tail _ (List.Mem.tail _ (List.Mem.tail _ (List.Mem.tail _ (List.Mem.tail _ (List.Mem.head _))))))) (fun _ h => h) (z_goto X (t := 48) rfl rfl (WS_pq [3, 4, 5, 6, 1, 0] (lv' := [(0, .ref (A 179)), (1, .int (Int32.ofInt xv)), (2, .int (Int32.ofInt bv)), (3, .int (Int32.ofInt sv)), (4, .int (Int32.ofInt e1015)), (5, .int (Int32.ofInt (c + 1)))]) rfl ?_)))
                exact ih _ xv bv sv e1015 (c + 1) I F (by first | exact ⟨And.intro (hi.1.1) (hi.1.2), And.intro (hi.2.1.1) (hi.2.1.2), And.intro (hi.2.2.1.1) (hi.2.2.1.2), oq_a8f1d18e he1015 hi.2.2.2.1, oq_7ac42359 he1015 hi.2.2.2.2.1 hi.2.2.2.1, oq_7f051044 g1005 b1006.2⟩ | omega) (by first | exact qk_me hm (by decide) (oq_9ae278d0 g1005 b1006.2) | omega) kx
              refine z_if_eq X (t := 132) rfl rfl ⟨by first | exact oq_6ab4c69f g1009 | omega, by first | exact oq_3b8a080c g1009 | omega⟩ (fun g1016 => ?_) (fun g1016 => ?_)
              ·
                exact z_const X rfl (N1014 _ (Or.inl ⟨g1016, rfl⟩))
              ·
                exact z_load X (x := rv) rfl (List.Mem.tail _ (List.Mem.tail _ (List.Mem.tail _ (List.Mem.tail _ (List.Mem.tail _ (List.Mem.head _)))))) (z_const X rfl (z_add X rfl (z_goto X (t := 133) rfl rfl (N1014 _ (Or.inr (⟨g1016, rfl⟩))))))
            ·
              refine z_load X (x := rv) rfl (List.Mem.tail _ (List.Mem.tail _ (List.Mem.tail _ (List.Mem.tail _ (List.Mem.tail _ (List.Mem.head _)))))) (z_aload_n X (x := A 179) rfl (List.Mem.tail _ (List.Mem.head _)) (z_getI X 179 rfl (c518_ok rfl) rfl rfl ?_))
              have b1017 := bi_95 I
              refine z_icmp_ge X (t := 120) rfl rfl ⟨by first | exact oq_97e58444 g1013 | omega, by first | exact oq_e678fa0f hi.2.2.2.2.1 hi.2.2.2.2.2 | omega⟩ (rng_to _) (fun g1018 => ?_) (fun g1018 => ?_)
              ·
                refine z_load X (x := e1008) rfl (List.Mem.head _) ?_
                have N1019 : ∀ e1020 : Int, (((e1008 = 0) ∧ e1020 = 0) ∨ ((e1008 ≠ 0) ∧ e1020 = (rv + 1))) → WS k 133 [(6, .int (Int32.ofInt e1008)), (0, .ref (A 179)), (1, .int (Int32.ofInt xv)), (2, .int (Int32.ofInt bv)), (3, .int (Int32.ofInt sv)), (4, .int (Int32.ofInt rv)), (5, .int (Int32.ofInt c))] [.int (Int32.ofInt e1020)] (Wd A dT t) 0 0 := by
                  intro e1020 he1020
                  refine z_store X (lv' := [(4, .int (Int32.ofInt e1020)), (6, .int (Int32.ofInt e1008)), (0, .ref (A 179)), (1, .int (Int32.ofInt xv)), (2, .int (Int32.ofInt bv)), (3, .int (Int32.ofInt sv)), (5, .int (Int32.ofInt c))]) rfl (by decide) (fun _ h => h) (z_inc X (x := c) (lv' := [(5, .int (Int32.ofInt (c + 1))), (4, .int (Int32.ofInt e1020)), (6, .int (Int32.ofInt e1008)), (0, .ref (A 179)), (1, .int (Int32.ofInt xv)), (2, .int (Int32.ofInt bv)), (3, .int (Int32.ofInt sv))]) rfl (by decide) (List.Mem.tail _ (List.Mem.tail _ (List.Mem.tail _ (List.Mem.tail _ (List.Mem.tail _ (List.Mem.tail _ (List.Mem.head _))))))) (fun _ h => h) (z_goto X (t := 48) rfl rfl (WS_pq [3, 4, 5, 6, 1, 0] (lv' := [(0, .ref (A 179)), (1, .int (Int32.ofInt xv)), (2, .int (Int32.ofInt bv)), (3, .int (Int32.ofInt sv)), (4, .int (Int32.ofInt e1020)), (5, .int (Int32.ofInt (c + 1)))]) rfl ?_)))
                  exact ih _ xv bv sv e1020 (c + 1) I F (by first | exact ⟨And.intro (hi.1.1) (hi.1.2), And.intro (hi.2.1.1) (hi.2.1.2), And.intro (hi.2.2.1.1) (hi.2.2.1.2), oq_ec6299c0 he1020 g1013, oq_6b52d3f8 he1020 g1013 hi.2.2.2.2.1, oq_7f051044 g1005 b1006.2⟩ | omega) (by first | exact qk_me hm (by decide) (oq_9ae278d0 g1005 b1006.2) | omega) kx
                refine z_if_eq X (t := 132) rfl rfl ⟨by first | exact oq_6ab4c69f g1009 | omega, by first | exact oq_3b8a080c g1009 | omega⟩ (fun g1021 => ?_) (fun g1021 => ?_)
                ·
                  exact z_const X rfl (N1019 _ (Or.inl ⟨g1021, rfl⟩))
                ·
                  exact z_load X (x := rv) rfl (List.Mem.tail _ (List.Mem.tail _ (List.Mem.tail _ (List.Mem.tail _ (List.Mem.tail _ (List.Mem.head _)))))) (z_const X rfl (z_add X rfl (z_goto X (t := 133) rfl rfl (N1019 _ (Or.inr (⟨g1021, rfl⟩))))))
              ·
                refine z_load_n X (x := bv) rfl (List.Mem.tail _ (List.Mem.tail _ (List.Mem.tail _ (List.Mem.head _)))) (z_const X rfl (z_load_n X (x := sv) rfl (List.Mem.tail _ (List.Mem.tail _ (List.Mem.tail _ (List.Mem.tail _ (List.Mem.head _))))) (z_bshl X rfl (z_any (fun y1022 hy1022 => ?_)))))
                refine z_bor X rfl (z_any (fun y1023 hy1023 => ?_))
                refine z_store_n X (lv' := [(2, .int (Int32.ofInt y1023)), (6, .int (Int32.ofInt e1008)), (0, .ref (A 179)), (1, .int (Int32.ofInt xv)), (3, .int (Int32.ofInt sv)), (4, .int (Int32.ofInt rv)), (5, .int (Int32.ofInt c))]) rfl (by decide) (fun _ h => h) (z_load X (x := e1008) rfl (List.Mem.tail _ (List.Mem.head _)) ?_)
                have N1024 : ∀ e1025 : Int, (((e1008 = 0) ∧ e1025 = 0) ∨ ((e1008 ≠ 0) ∧ e1025 = (rv + 1))) → WS k 133 [(2, .int (Int32.ofInt y1023)), (6, .int (Int32.ofInt e1008)), (0, .ref (A 179)), (1, .int (Int32.ofInt xv)), (3, .int (Int32.ofInt sv)), (4, .int (Int32.ofInt rv)), (5, .int (Int32.ofInt c))] [.int (Int32.ofInt e1025)] (Wd A dT t) 0 0 := by
                  intro e1025 he1025
                  refine z_store X (lv' := [(4, .int (Int32.ofInt e1025)), (2, .int (Int32.ofInt y1023)), (6, .int (Int32.ofInt e1008)), (0, .ref (A 179)), (1, .int (Int32.ofInt xv)), (3, .int (Int32.ofInt sv)), (5, .int (Int32.ofInt c))]) rfl (by decide) (fun _ h => h) (z_inc X (x := c) (lv' := [(5, .int (Int32.ofInt (c + 1))), (4, .int (Int32.ofInt e1025)), (2, .int (Int32.ofInt y1023)), (6, .int (Int32.ofInt e1008)), (0, .ref (A 179)), (1, .int (Int32.ofInt xv)), (3, .int (Int32.ofInt sv))]) rfl (by decide) (List.Mem.tail _ (List.Mem.tail _ (List.Mem.tail _ (List.Mem.tail _ (List.Mem.tail _ (List.Mem.tail _ (List.Mem.head _))))))) (fun _ h => h) (z_goto X (t := 48) rfl rfl (WS_pq [4, 5, 2, 6, 1, 0] (lv' := [(0, .ref (A 179)), (1, .int (Int32.ofInt xv)), (2, .int (Int32.ofInt y1023)), (3, .int (Int32.ofInt sv)), (4, .int (Int32.ofInt e1025)), (5, .int (Int32.ofInt (c + 1)))]) rfl ?_)))
                  exact ih _ xv y1023 sv e1025 (c + 1) I F (by first | exact ⟨And.intro (hi.1.1) (hi.1.2), And.intro (hy1023.1) (hy1023.2), And.intro (hi.2.2.1.1) (hi.2.2.1.2), oq_ec6299c0 he1025 g1013, oq_6b52d3f8 he1025 g1013 hi.2.2.2.2.1, oq_7f051044 g1005 b1006.2⟩ | omega) (by first | exact qk_me hm (by decide) (oq_9ae278d0 g1005 b1006.2) | omega) kx
                refine z_if_eq X (t := 132) rfl rfl ⟨by first | exact oq_6ab4c69f g1009 | omega, by first | exact oq_3b8a080c g1009 | omega⟩ (fun g1026 => ?_) (fun g1026 => ?_)
                ·
                  exact z_const X rfl (N1024 _ (Or.inl ⟨g1026, rfl⟩))
                ·
                  exact z_load X (x := rv) rfl (List.Mem.tail _ (List.Mem.tail _ (List.Mem.tail _ (List.Mem.tail _ (List.Mem.tail _ (List.Mem.head _)))))) (z_const X rfl (z_add X rfl (z_goto X (t := 133) rfl rfl (N1024 _ (Or.inr (⟨g1026, rfl⟩))))))
        refine z_icmp_ge X (t := 92) rfl rfl ⟨by first | exact oq_e001bc0d hi.2.2.2.2.1 hi.2.2.2.1 | omega, by first | exact oq_99d04864 hi.2.2.2.2.2 | omega⟩ (rng_to _) (fun g1027 => ?_) (fun g1027 => ?_)
        ·
          exact z_const X rfl (N1007 _ (Or.inl ⟨g1027, rfl⟩))
        ·
          refine z_aload_n X (x := A 179) rfl (List.Mem.head _) (s_getR X 179 rfl (c518_ok rfl) rfl rfl (z_aload_n X (x := A 179) rfl (List.Mem.head _) (s_getR X 179 rfl (c518_ok rfl) rfl rfl (z_load_n X (x := sv) rfl (List.Mem.tail _ (List.Mem.tail _ (List.Mem.tail _ (List.Mem.head _)))) (z_aald X rw_189 rfl (by first | exact hi.2.2.1.1 | omega) (show sv < 12 by first | exact oq_0ddfcfee hi.2.2.1.2 | omega) (by decide) (z_load X (x := c) rfl (List.Mem.tail _ (List.Mem.tail _ (List.Mem.tail _ (List.Mem.tail _ (List.Mem.tail _ (List.Mem.head _)))))) (z_ald2 X rw_189 rfl (show (sv : Int).toNat < 12 by first | exact oq_9c5fa447 hi.2.2.1.2 | omega) (by first | exact oq_12a1f9e1 hi.2.2.2.2.1 hi.2.2.2.1 | omega) (show c < 24 by first | exact oq_8ff7beb9 g1027 b1006.2 | omega) (by decide) ?_)))))))
          have b1028 : (0 : Int) ≤ (iC t (166 + (sv : Int).toNat) (c : Int).toNat) ∧ (iC t (166 + (sv : Int).toNat) (c : Int).toNat) ≤ 127 := rw_bd rw_189 I (show (sv : Int).toNat < 12 by first | exact oq_9c5fa447 hi.2.2.1.2 | omega) (show (c : Int).toNat < 24 by first | exact oq_9e668fc9 g1027 b1006.2 | omega)
          refine z_ald X 256 rfl (c518_ok rfl) rfl (by first | exact b1028.1 | omega) (show (iC t (166 + (sv : Int).toNat) (c : Int).toNat) < 128 by first | exact oq_31b2bf10 b1028.2 | omega) (cbig_ok rfl) ?_
          have b1029 := bc_228 I (show ((iC t (166 + (sv : Int).toNat) (c : Int).toNat)).toNat < 128 by first | exact oq_c7f4e9c1 b1028.2 | omega)
          refine z_load_n X (x := xv) rfl (List.Mem.tail _ (List.Mem.head _)) (z_icmp_ne X (t := 92) rfl rfl (rng_to _) ⟨by first | exact oq_fa4e5087 hi.1.1 | omega, by first | exact oq_0e78ca7d hi.1.2 | omega⟩ (fun g1030 => ?_) (fun g1030 => ?_))
          ·
            exact z_const X rfl (N1007 _ (Or.inr (Or.inl ⟨g1027, b1028, b1029, g1030, rfl⟩)))
          ·
            exact z_const X rfl (z_goto X (t := 93) rfl rfl (N1007 _ (Or.inr (Or.inr (⟨g1027, b1028, b1029, g1030, rfl⟩)))))
  have L34 : ∀ (n : Nat) (t : PS) (xv bv sv : Int), Bd t → Fm [73] [] s t → ((0 ≤ xv ∧ xv ≤ 7) ∧ rng bv ∧ 0 ≤ sv ∧ sv ≤ 12) → (12 - sv : Int).toNat < n → (∀ (t' : PS) (xv' bv' sv' : Int), Bd t' → Fm [73] [] s t' → ((0 ≤ xv' ∧ xv' ≤ 7) ∧ rng bv' ∧ 0 ≤ sv' ∧ sv' ≤ 12) → WS k 147 [(0, .ref (A 179)), (1, .int (Int32.ofInt xv')), (2, .int (Int32.ofInt bv')), (3, .int (Int32.ofInt sv'))] [] (Wd A dT t') 0 0) → WS k 34 [(0, .ref (A 179)), (1, .int (Int32.ofInt xv)), (2, .int (Int32.ofInt bv)), (3, .int (Int32.ofInt sv))] [] (Wd A dT t) 0 0 := by
    intro n
    induction n with
    | zero =>
      intro t xv bv sv I F hi hm kx
      exact absurd hm (Nat.not_lt_zero _)
    | succ n ih =>
      intro t xv bv sv I F hi hm kx
      have b2001 := bi_73 I
      have b2002 := bi_90 I
      have b2003 := bi_95 I
      refine z_load_n X (x := sv) rfl (List.Mem.tail _ (List.Mem.tail _ (List.Mem.tail _ (List.Mem.head _)))) (z_aload_n X (x := A 179) rfl (List.Mem.head _) (z_getI X 179 rfl (c518_ok rfl) rfl rfl ?_))
      have b2004 := bi_90 I
      refine z_icmp_ge X (t := 147) rfl rfl ⟨by first | exact oq_fa4e5087 hi.2.2.1 | omega, by first | exact oq_78843a64 hi.2.2.2 | omega⟩ (rng_to _) (fun g2005 => ?_) (fun g2005 => ?_)
      ·
        refine WS_pq [0, 1, 2, 3] (lv' := [(0, .ref (A 179)), (1, .int (Int32.ofInt xv)), (2, .int (Int32.ofInt bv)), (3, .int (Int32.ofInt sv))]) rfl ?_
        exact kx _ xv bv sv I F (by first | exact ⟨And.intro (hi.1.1) (hi.1.2), And.intro (hi.2.1.1) (hi.2.1.2), hi.2.2.1, hi.2.2.2⟩ | omega)
      ·
        refine z_const X rfl (z_store X (lv' := [(4, .int (Int32.ofInt 0)), (0, .ref (A 179)), (1, .int (Int32.ofInt xv)), (2, .int (Int32.ofInt bv)), (3, .int (Int32.ofInt sv))]) rfl (by decide) (fun _ h => h) (z_const X rfl (z_store X (lv' := [(5, .int (Int32.ofInt 0)), (4, .int (Int32.ofInt 0)), (0, .ref (A 179)), (1, .int (Int32.ofInt xv)), (2, .int (Int32.ofInt bv)), (3, .int (Int32.ofInt sv))]) rfl (by decide) (fun _ h => h) (WS_pq [2, 3, 4, 5, 1, 0] (lv' := [(0, .ref (A 179)), (1, .int (Int32.ofInt xv)), (2, .int (Int32.ofInt bv)), (3, .int (Int32.ofInt sv)), (4, .int (Int32.ofInt 0)), (5, .int (Int32.ofInt 0))]) rfl (L48 ((25 - 0 : Int).toNat + 1) t xv bv sv 0 0 I F (by first | exact ⟨And.intro (hi.1.1) (hi.1.2), And.intro (hi.2.1.1) (hi.2.1.2), And.intro (hi.2.2.1) (oq_e4d7f3c5 g2005 b2004.2), by decide, by decide, by decide⟩ | omega) (Nat.lt_succ_self _) ?_)))))
        intro s2006 x2007 x2008 x2009 Is2006 Fs2006 hs2006
        have b2010 := bi_73 Is2006
        have b2011 := bi_90 Is2006
        have b2012 := bi_95 Is2006
        refine z_inc X (x := sv) (lv' := [(3, .int (Int32.ofInt (sv + 1))), (0, .ref (A 179)), (1, .int (Int32.ofInt xv)), (2, .int (Int32.ofInt x2007)), (4, .int (Int32.ofInt x2008)), (5, .int (Int32.ofInt x2009))]) rfl (by decide) (List.Mem.tail _ (List.Mem.tail _ (List.Mem.tail _ (List.Mem.head _)))) (fun _ h => h) (z_goto X (t := 34) rfl rfl (WS_pq [1, 2, 3, 0] (lv' := [(0, .ref (A 179)), (1, .int (Int32.ofInt xv)), (2, .int (Int32.ofInt x2007)), (3, .int (Int32.ofInt (sv + 1)))]) rfl ?_))
        exact ih _ xv x2007 (sv + 1) Is2006 Fs2006 (by first | exact ⟨And.intro (hs2006.1.1) (hs2006.1.2), And.intro (hs2006.2.1.1) (hs2006.2.1.2), oq_54f49eb5 hs2006.2.2.1.1, oq_51d1204d hs2006.2.2.1.2⟩ | omega) (by first | exact qk_me hm (by decide) (oq_8b937940 hs2006.2.2.1.2) | omega) kx
  refine z_aload_n X (x := A 179) rfl (List.Mem.head _) (z_const X rfl (s_putI X 179 rfl (c518_ok rfl) rfl rfl (by decide) rfl rfl rfl (wd_gen (fun s4 hs4 => ?_))))
  have Is4 : Bd s4 := eqB hs4 (bd_I I (show (0 : Int) ≤ 0 ∧ 0 ≤ 3 by first | exact ⟨by decide, by decide⟩ | omega) (by decide))
  have Fs4 := eqF hs4 (fm_I F (inl_ok (a := 73) rfl))
  have vs4 : iI s4 73 = 0 := eqI hs4 (iI_u (by decide))
  have ws4_90 : iI s4 90 = iI s 90 := eqI hs4 rfl
  have ws4_95 : iI s4 95 = iI s 95 := eqI hs4 rfl
  refine z_aload_n X (x := A 179) rfl (List.Mem.head _) (z_load_n X (x := x) rfl (List.Mem.tail _ (List.Mem.head _)) (z_const X rfl (z_bipush X rfl (zcS_i0 X E (As := [.int (Int32.ofInt x), .int (Int32.ofInt 0), .int (Int32.ofInt 7)]) (st := [.ref (A 179)]) rfl rfl (k_in G Is4 (by first | exact ⟨p0.1, p0.2⟩ | omega) (by first | exact ⟨by decide, by decide⟩ | omega) (by first | exact ⟨by decide, by decide⟩ | omega)) rfl (Nat.le_of_ble_eq_true rfl) (fun s5 e6 Is5 Fs5 hrs5 hps5 => ?_)))))
  have Gs5 := fm_tq Fs4 Fs5 rfl rfl
  have ws5_73 : iI s5 73 = iI s4 73 := fm_iq Fs5 rfl
  have ws5_90 : iI s5 90 = iI s4 90 := fm_iq Fs5 rfl
  have ws5_95 : iI s5 95 = iI s4 95 := fm_iq Fs5 rfl
  have N7 : ∀ e8 : Int, (((e6 ≠ 0) ∧ e8 = 0) ∨ ((e6 = 0) ∧ e8 = 1)) → WS k 21 [(0, .ref (A 179)), (1, .int (Int32.ofInt x))] [.int (Int32.ofInt e8), .ref (A 179)] (Wd A dT s5) 0 0 := by
    intro e8 he8
    have re8 : 0 ≤ e8 ∧ e8 ≤ 1 := by first | (clear he8 hps5; omega) | (clear hps5; omega) | omega
    refine z_const X rfl (zcV_i0 X E 179 (As := [.int (Int32.ofInt e8), .int (Int32.ofInt 1)]) (st := []) rfl rfl rfl rfl (k_bad G Is5 (by first | exact oq_31e518ae re8.2 re8.1 | omega) (by first | exact ⟨by decide, by decide⟩ | omega)) rfl (Nat.le_of_ble_eq_true rfl) (fun s9 e10 Is9 Fs9 hrs9 hps9 => ?_))
    have Gs9 := fm_tq Gs5 Fs9 rfl rfl
    have b11 := bi_73 Is9
    have ws9_90 : iI s9 90 = iI s5 90 := fm_iq Fs9 rfl
    have ws9_95 : iI s9 95 = iI s5 95 := fm_iq Fs9 rfl
    refine z_if_eq X (t := 30) rfl rfl hrs9 (fun g12 => ?_) (fun g12 => ?_)
    ·
      refine z_const X rfl (z_store_n X (lv' := [(2, .int (Int32.ofInt 0)), (0, .ref (A 179)), (1, .int (Int32.ofInt x))]) rfl (by decide) (fun _ h => h) (z_const X rfl (z_store_n X (lv' := [(3, .int (Int32.ofInt 0)), (2, .int (Int32.ofInt 0)), (0, .ref (A 179)), (1, .int (Int32.ofInt x))]) rfl (by decide) (fun _ h => h) (WS_pq [2, 3, 1, 0] (lv' := [(0, .ref (A 179)), (1, .int (Int32.ofInt x)), (2, .int (Int32.ofInt 0)), (3, .int (Int32.ofInt 0))]) rfl (L34 ((12 - 0 : Int).toNat + 1) s9 x 0 0 Is9 Gs9 (by first | exact ⟨oq_fb6f88a4 g12 hps9.2.1 re8.2 he8 hps5, And.intro (by decide) (by decide), by decide, by decide⟩ | omega) (Nat.lt_succ_self _) ?_)))))
      intro s13 x14 x15 x16 Is13 Fs13 hs13
      have b17 := bi_73 Is13
      have b18 := bi_90 Is13
      have b19 := bi_95 Is13
      refine z_load_n X (x := x15) rfl (List.Mem.tail _ (List.Mem.tail _ (List.Mem.head _))) ?_
      exact w_iret X.1 q hRt rfl (ax_d X (show cdA 243 148 = some (.ireturn, 1, 0, 0, 0) from rfl)) (Nat.zero_le _) (Nat.zero_le _) ⟨_, rfl, Is13, Fs13, x15, rfl, ⟨by first | exact hs13.2.1.1 | omega, by first | exact hs13.2.1.2 | omega⟩, trivial⟩
    ·
      refine z_const X rfl ?_
      exact w_iret X.1 q hRt rfl (ax_d X (show cdA 243 29 = some (.ireturn, 1, 0, 0, 0) from rfl)) (Nat.zero_le _) (Nat.zero_le _) ⟨_, rfl, Is9, Gs9, 0, rfl, (by decide), trivial⟩
  refine z_if_ne X (t := 20) rfl rfl hrs5 (fun g20 => ?_) (fun g20 => ?_)
  ·
    exact z_const X rfl (N7 _ (Or.inl ⟨g20, rfl⟩))
  ·
    exact z_const X rfl (z_goto X (t := 21) rfl rfl (N7 _ (Or.inr (⟨g20, rfl⟩))))
theorem k_count (G : GX l s0 D tys a0 dT) (I : Bd s) {x : Int} (p0 : rng x) : CT l s0 D A dT 295 (rmN 295) [.ref (A 179), .int (Int32.ofInt x)] s (fun o t => Bd t ∧ Fm [73] [] s t ∧ ∃ e, o = .inl (some (.int (Int32.ofInt e))) ∧ rng e ∧ (True)) := by
  refine ct_of G (by decide) (Nat.le_of_ble_eq_true rfl) (fun k X E hRt hXt q => ?_)
  show WS k 0 [(0, .ref (A 179)), (1, .int (Int32.ofInt x))] [] _ 0 0
  have F : Fm [73] [] s s := fm_rf _ _ s
  have b1 := bi_73 I
  have L15 : ∀ (n : Nat) (t : PS) (xv pv hv rv c : Int), Bd t → Fm [73] [] s t → (rng xv ∧ 0 ≤ pv ∧ pv ≤ c ∧ c ≤ 8 ∧ 0 ≤ hv ∧ hv ≤ 0 ∧ 0 ≤ rv ∧ rv ≤ 0) → (8 - c : Int).toNat < n → (∀ (t' : PS) (pv' c' : Int), Bd t' → Fm [73] [] s t' → (rng xv ∧ 0 ≤ pv' ∧ pv' ≤ c' ∧ c' ≤ 8 ∧ 0 ≤ hv ∧ hv ≤ 0 ∧ 0 ≤ rv ∧ rv ≤ 0) → WS k 45 [(0, .ref (A 179)), (1, .int (Int32.ofInt xv)), (2, .int (Int32.ofInt pv')), (3, .int (Int32.ofInt hv)), (4, .int (Int32.ofInt rv)), (5, .int (Int32.ofInt c'))] [] (Wd A dT t') 0 0) → WS k 15 [(0, .ref (A 179)), (1, .int (Int32.ofInt xv)), (2, .int (Int32.ofInt pv)), (3, .int (Int32.ofInt hv)), (4, .int (Int32.ofInt rv)), (5, .int (Int32.ofInt c))] [] (Wd A dT t) 0 0 := by
    intro n
    induction n with
    | zero =>
      intro t xv pv hv rv c I F hi hm kx
      exact absurd hm (Nat.not_lt_zero _)
    | succ n ih =>
      intro t xv pv hv rv c I F hi hm kx
      have b1001 := bi_73 I
      refine z_load X (x := c) rfl (List.Mem.tail _ (List.Mem.tail _ (List.Mem.tail _ (List.Mem.tail _ (List.Mem.tail _ (List.Mem.head _)))))) (z_bipush X rfl (z_icmp_ge X (t := 45) rfl rfl ⟨by first | exact oq_e001bc0d hi.2.2.1 hi.2.1 | omega, by first | exact oq_d3f5d874 hi.2.2.2.1 | omega⟩ (by decide) (fun g1002 => ?_) (fun g1002 => ?_)))
      ·
        refine WS_pq [0, 1, 2, 3, 4, 5] (lv' := [(0, .ref (A 179)), (1, .int (Int32.ofInt xv)), (2, .int (Int32.ofInt pv)), (3, .int (Int32.ofInt hv)), (4, .int (Int32.ofInt rv)), (5, .int (Int32.ofInt c))]) rfl ?_
        exact kx _ pv c I F (by first | exact ⟨And.intro (hi.1.1) (hi.1.2), hi.2.1, hi.2.2.1, hi.2.2.2.1, hi.2.2.2.2.1, hi.2.2.2.2.2.1, hi.2.2.2.2.2.2.1, hi.2.2.2.2.2.2.2⟩ | omega)
      ·
        refine z_load_n X (x := pv) rfl (List.Mem.tail _ (List.Mem.tail _ (List.Mem.head _))) (z_aload_n X (x := A 179) rfl (List.Mem.head _) (z_load X (x := c) rfl (List.Mem.tail _ (List.Mem.tail _ (List.Mem.tail _ (List.Mem.tail _ (List.Mem.tail _ (List.Mem.head _)))))) (zcV_i0 X E 179 (As := [.int (Int32.ofInt c)]) (st := [.int (Int32.ofInt pv)]) rfl rfl rfl rfl (k_hasCells G I (by first | exact ⟨oq_e001bc0d hi.2.2.1 hi.2.1, oq_7bea7075 g1002⟩ | omega)) rfl (Nat.le_of_ble_eq_true rfl) (fun s1003 e1004 Is1003 Fs1003 hrs1003 hps1003 => ?_))))
        have Gs1003 := fm_tq F Fs1003 rfl rfl
        have ws1003_73 : iI s1003 73 = iI t 73 := fm_iq Fs1003 rfl
        have N1005 : ∀ e1006 : Int, (((e1004 = 0) ∧ e1006 = 0) ∨ ((e1004 ≠ 0) ∧ e1006 = 1)) → WS k 37 [(0, .ref (A 179)), (1, .int (Int32.ofInt xv)), (2, .int (Int32.ofInt pv)), (3, .int (Int32.ofInt hv)), (4, .int (Int32.ofInt rv)), (5, .int (Int32.ofInt c))] [.int (Int32.ofInt e1006), .int (Int32.ofInt pv)] (Wd A dT s1003) 0 0 := by
          intro e1006 he1006
          have re1006 : 0 ≤ e1006 ∧ e1006 ≤ 1 := by first | (clear he1006 hps1003; omega) | (clear hps1003; omega) | omega
          refine z_add X rfl (z_store_n X (lv' := [(2, .int (Int32.ofInt (pv + e1006))), (0, .ref (A 179)), (1, .int (Int32.ofInt xv)), (3, .int (Int32.ofInt hv)), (4, .int (Int32.ofInt rv)), (5, .int (Int32.ofInt c))]) rfl (by decide) (fun _ h => h) (z_inc X (x := c) (lv' := [(5, .int (Int32.ofInt (c + 1))), (2, .int (Int32.ofInt (pv + e1006))), (0, .ref (A 179)), (1, .int (Int32.ofInt xv)), (3, .int (Int32.ofInt hv)), (4, .int (Int32.ofInt rv))]) rfl (by decide) (List.Mem.tail _ (List.Mem.tail _ (List.Mem.tail _ (List.Mem.tail _ (List.Mem.tail _ (List.Mem.head _)))))) (fun _ h => h) (z_goto X (t := 15) rfl rfl (WS_pq [2, 3, 1, 4, 5, 0] (lv' := [(0, .ref (A 179)), (1, .int (Int32.ofInt xv)), (2, .int (Int32.ofInt (pv + e1006))), (3, .int (Int32.ofInt hv)), (4, .int (Int32.ofInt rv)), (5, .int (Int32.ofInt (c + 1)))]) rfl ?_))))
          exact ih _ xv (pv + e1006) hv rv (c + 1) Is1003 Gs1003 (by first | exact ⟨And.intro (hi.1.1) (hi.1.2), oq_dd29f52d hi.2.1 re1006.1, oq_273e42a6 hi.2.2.1 re1006.2, oq_0c7b19c3 g1002, hi.2.2.2.2.1, hi.2.2.2.2.2.1, hi.2.2.2.2.2.2.1, hi.2.2.2.2.2.2.2⟩ | omega) (by first | exact qk_me hm (by decide) (oq_9f368f35 g1002) | omega) kx
        refine z_if_eq X (t := 36) rfl rfl hrs1003 (fun g1007 => ?_) (fun g1007 => ?_)
        ·
          exact z_const X rfl (N1005 _ (Or.inl ⟨g1007, rfl⟩))
        ·
          exact z_const X rfl (z_goto X (t := 37) rfl rfl (N1005 _ (Or.inr (⟨g1007, rfl⟩))))
  have L48 : ∀ (n : Nat) (t : PS) (xv pv hv rv c : Int), Bd t → Fm [73] [] s t → (rng xv ∧ 0 ≤ pv ∧ pv ≤ 8 ∧ 0 ≤ hv ∧ hv ≤ c ∧ 0 ≤ rv ∧ rv ≤ c ∧ c ≤ 128) → (128 - c : Int).toNat < n → (∀ (t' : PS) (hv' rv' c' : Int), Bd t' → Fm [73] [] s t' → (rng xv ∧ 0 ≤ pv ∧ pv ≤ 8 ∧ 0 ≤ hv' ∧ hv' ≤ c' ∧ 0 ≤ rv' ∧ rv' ≤ c' ∧ c' ≤ 128) → WS k 101 [(0, .ref (A 179)), (1, .int (Int32.ofInt xv)), (2, .int (Int32.ofInt pv)), (3, .int (Int32.ofInt hv')), (4, .int (Int32.ofInt rv')), (5, .int (Int32.ofInt c'))] [] (Wd A dT t') 0 0) → WS k 48 [(0, .ref (A 179)), (1, .int (Int32.ofInt xv)), (2, .int (Int32.ofInt pv)), (3, .int (Int32.ofInt hv)), (4, .int (Int32.ofInt rv)), (5, .int (Int32.ofInt c))] [] (Wd A dT t) 0 0 := by
    intro n
    induction n with
    | zero =>
      intro t xv pv hv rv c I F hi hm kx
      exact absurd hm (Nat.not_lt_zero _)
    | succ n ih =>
      intro t xv pv hv rv c I F hi hm kx
      have b2001 := bi_73 I
      refine z_load X (x := c) rfl (List.Mem.tail _ (List.Mem.tail _ (List.Mem.tail _ (List.Mem.tail _ (List.Mem.tail _ (List.Mem.head _)))))) (z_sipush X rfl (z_icmp_ge X (t := 101) rfl rfl ⟨by first | exact oq_e001bc0d hi.2.2.2.2.2.2.1 hi.2.2.2.2.2.1 | omega, by first | exact oq_4ee82282 hi.2.2.2.2.2.2.2 | omega⟩ (by decide) (fun g2002 => ?_) (fun g2002 => ?_)))
      ·
        refine WS_pq [0, 1, 2, 3, 4, 5] (lv' := [(0, .ref (A 179)), (1, .int (Int32.ofInt xv)), (2, .int (Int32.ofInt pv)), (3, .int (Int32.ofInt hv)), (4, .int (Int32.ofInt rv)), (5, .int (Int32.ofInt c))]) rfl ?_
        exact kx _ hv rv c I F (by first | exact ⟨And.intro (hi.1.1) (hi.1.2), hi.2.1, hi.2.2.1, hi.2.2.2.1, hi.2.2.2.2.1, hi.2.2.2.2.2.1, hi.2.2.2.2.2.2.1, hi.2.2.2.2.2.2.2⟩ | omega)
      ·
        refine z_load_n X (x := hv) rfl (List.Mem.tail _ (List.Mem.tail _ (List.Mem.tail _ (List.Mem.head _)))) (z_aload_n X (x := A 179) rfl (List.Mem.head _) (s_getR X 179 rfl (c518_ok rfl) rfl rfl (z_load X (x := c) rfl (List.Mem.tail _ (List.Mem.tail _ (List.Mem.tail _ (List.Mem.tail _ (List.Mem.tail _ (List.Mem.head _)))))) (z_ald X 256 rfl (c518_ok rfl) rfl (by first | exact oq_12a1f9e1 hi.2.2.2.2.2.2.1 hi.2.2.2.2.2.1 | omega) (show c < 128 by first | exact g2002 | omega) (cbig_ok rfl) ?_))))
        have b2003 := bc_228 I (show (c).toNat < 128 by first | exact oq_afb89947 g2002 | omega)
        refine z_const X rfl ?_
        have N2004 : ∀ e2005 : Int, ((((iC t 228 (c).toNat) ≠ (-1)) ∧ e2005 = 0) ∨ (((iC t 228 (c).toNat) = (-1)) ∧ e2005 = 1)) → WS k 73 [(0, .ref (A 179)), (1, .int (Int32.ofInt xv)), (2, .int (Int32.ofInt pv)), (3, .int (Int32.ofInt hv)), (4, .int (Int32.ofInt rv)), (5, .int (Int32.ofInt c))] [.int (Int32.ofInt e2005), .int (Int32.ofInt hv)] (Wd A dT t) 0 0 := by
          intro e2005 he2005
          have re2005 : 0 ≤ e2005 ∧ e2005 ≤ 1 := by first | (clear he2005; omega) | omega
          refine z_add X rfl (z_store_n X (lv' := [(3, .int (Int32.ofInt (hv + e2005))), (0, .ref (A 179)), (1, .int (Int32.ofInt xv)), (2, .int (Int32.ofInt pv)), (4, .int (Int32.ofInt rv)), (5, .int (Int32.ofInt c))]) rfl (by decide) (fun _ h => h) (z_load X (x := rv) rfl (List.Mem.tail _ (List.Mem.tail _ (List.Mem.tail _ (List.Mem.tail _ (List.Mem.head _))))) (z_aload_n X (x := A 179) rfl (List.Mem.tail _ (List.Mem.head _)) (s_getR X 179 rfl (c518_ok rfl) rfl rfl (z_load X (x := c) rfl (List.Mem.tail _ (List.Mem.tail _ (List.Mem.tail _ (List.Mem.tail _ (List.Mem.tail _ (List.Mem.head _)))))) (z_zald X 454 rfl (c518_ok rfl) rfl (by first | exact oq_12a1f9e1 hi.2.2.2.2.2.2.1 hi.2.2.2.2.2.1 | omega) (show c < 128 by first | exact g2002 | omega) (cbig_ok rfl) ?_))))))
          have b2006 := bc_399 I (show (c).toNat < 128 by first | exact oq_afb89947 g2002 | omega)
          have N2007 : ∀ e2008 : Int, ((((iC t 399 (c).toNat) = 0) ∧ e2008 = 0) ∨ (((iC t 399 (c).toNat) ≠ 0) ∧ e2008 = 1)) → WS k 92 [(3, .int (Int32.ofInt (hv + e2005))), (0, .ref (A 179)), (1, .int (Int32.ofInt xv)), (2, .int (Int32.ofInt pv)), (4, .int (Int32.ofInt rv)), (5, .int (Int32.ofInt c))] [.int (Int32.ofInt e2008), .int (Int32.ofInt rv)] (Wd A dT t) 0 0 := by
            intro e2008 he2008
            have re2008 : 0 ≤ e2008 ∧ e2008 ≤ 1 := by first | (clear he2008 he2005; omega) | (clear he2005; omega) | omega
            refine z_add X rfl (z_store X (lv' := [(4, .int (Int32.ofInt (rv + e2008))), (3, .int (Int32.ofInt (hv + e2005))), (0, .ref (A 179)), (1, .int (Int32.ofInt xv)), (2, .int (Int32.ofInt pv)), (5, .int (Int32.ofInt c))]) rfl (by decide) (fun _ h => h) (z_inc X (x := c) (lv' := [(5, .int (Int32.ofInt (c + 1))), (4, .int (Int32.ofInt (rv + e2008))), (3, .int (Int32.ofInt (hv + e2005))), (0, .ref (A 179)), (1, .int (Int32.ofInt xv)), (2, .int (Int32.ofInt pv))]) rfl (by decide) (List.Mem.tail _ (List.Mem.tail _ (List.Mem.tail _ (List.Mem.tail _ (List.Mem.tail _ (List.Mem.head _)))))) (fun _ h => h) (z_goto X (t := 48) rfl rfl (WS_pq [3, 4, 5, 2, 1, 0] (lv' := [(0, .ref (A 179)), (1, .int (Int32.ofInt xv)), (2, .int (Int32.ofInt pv)), (3, .int (Int32.ofInt (hv + e2005))), (4, .int (Int32.ofInt (rv + e2008))), (5, .int (Int32.ofInt (c + 1)))]) rfl ?_))))
            exact ih _ xv pv (hv + e2005) (rv + e2008) (c + 1) I F (by first | exact ⟨And.intro (hi.1.1) (hi.1.2), hi.2.1, hi.2.2.1, oq_dd29f52d hi.2.2.2.1 re2005.1, oq_273e42a6 hi.2.2.2.2.1 re2005.2, oq_dd29f52d hi.2.2.2.2.2.1 re2008.1, oq_273e42a6 hi.2.2.2.2.2.2.1 re2008.2, oq_d2afb425 g2002⟩ | omega) (by first | exact qk_me hm (by decide) (oq_c268b7bd g2002) | omega) kx
          refine z_if_eq X (t := 91) rfl rfl (rng_to _) (fun g2009 => ?_) (fun g2009 => ?_)
          ·
            exact z_const X rfl (N2007 _ (Or.inl ⟨g2009, rfl⟩))
          ·
            exact z_const X rfl (z_goto X (t := 92) rfl rfl (N2007 _ (Or.inr (⟨g2009, rfl⟩))))
        refine z_icmp_ne X (t := 72) rfl rfl (rng_to _) (by decide) (fun g2010 => ?_) (fun g2010 => ?_)
        ·
          exact z_const X rfl (N2004 _ (Or.inl ⟨g2010, rfl⟩))
        ·
          exact z_const X rfl (z_goto X (t := 73) rfl rfl (N2004 _ (Or.inr (⟨g2010, rfl⟩))))
  refine z_aload_n X (x := A 179) rfl (List.Mem.head _) (z_const X rfl (s_putI X 179 rfl (c518_ok rfl) rfl rfl (by decide) rfl rfl rfl (wd_gen (fun s2 hs2 => ?_))))
  have Is2 : Bd s2 := eqB hs2 (bd_I I (show (0 : Int) ≤ 0 ∧ 0 ≤ 3 by first | exact ⟨by decide, by decide⟩ | omega) (by decide))
  have Fs2 := eqF hs2 (fm_I F (inl_ok (a := 73) rfl))
  have vs2 : iI s2 73 = 0 := eqI hs2 (iI_u (by decide))
  refine z_const X rfl (z_store_n X (lv' := [(2, .int (Int32.ofInt 0)), (0, .ref (A 179)), (1, .int (Int32.ofInt x))]) rfl (by decide) (fun _ h => h) (z_const X rfl (z_store_n X (lv' := [(3, .int (Int32.ofInt 0)), (2, .int (Int32.ofInt 0)), (0, .ref (A 179)), (1, .int (Int32.ofInt x))]) rfl (by decide) (fun _ h => h) (z_const X rfl (z_store X (lv' := [(4, .int (Int32.ofInt 0)), (3, .int (Int32.ofInt 0)), (2, .int (Int32.ofInt 0)), (0, .ref (A 179)), (1, .int (Int32.ofInt x))]) rfl (by decide) (fun _ h => h) (z_const X rfl (z_store X (lv' := [(5, .int (Int32.ofInt 0)), (4, .int (Int32.ofInt 0)), (3, .int (Int32.ofInt 0)), (2, .int (Int32.ofInt 0)), (0, .ref (A 179)), (1, .int (Int32.ofInt x))]) rfl (by decide) (fun _ h => h) (WS_pq [4, 5, 3, 2, 1, 0] (lv' := [(0, .ref (A 179)), (1, .int (Int32.ofInt x)), (2, .int (Int32.ofInt 0)), (3, .int (Int32.ofInt 0)), (4, .int (Int32.ofInt 0)), (5, .int (Int32.ofInt 0))]) rfl (L15 ((8 - 0 : Int).toNat + 1) s2 x 0 0 0 0 Is2 Fs2 (by first | exact ⟨And.intro (p0.1) (p0.2), by decide, by decide, by decide, by decide, by decide, by decide, by decide⟩ | omega) (Nat.lt_succ_self _) ?_)))))))))
  intro s3 x4 x5 Is3 Fs3 hs3
  have b6 := bi_73 Is3
  refine z_const X rfl (z_store X (lv' := [(5, .int (Int32.ofInt 0)), (0, .ref (A 179)), (1, .int (Int32.ofInt x)), (2, .int (Int32.ofInt x4)), (3, .int (Int32.ofInt 0)), (4, .int (Int32.ofInt 0))]) rfl (by decide) (fun _ h => h) (WS_pq [1, 2, 3, 4, 5, 0] (lv' := [(0, .ref (A 179)), (1, .int (Int32.ofInt x)), (2, .int (Int32.ofInt x4)), (3, .int (Int32.ofInt 0)), (4, .int (Int32.ofInt 0)), (5, .int (Int32.ofInt 0))]) rfl (L48 ((128 - 0 : Int).toNat + 1) s3 x x4 0 0 0 Is3 Fs3 (by first | exact ⟨And.intro (hs3.1.1) (hs3.1.2), hs3.2.1, oq_fe8b3247 hs3.2.2.1 hs3.2.2.2.1, by decide, by decide, by decide, by decide, by decide⟩ | omega) (Nat.lt_succ_self _) ?_)))
  intro s7 x8 x9 x10 Is7 Fs7 hs7
  have b11 := bi_73 Is7
  refine z_load_n X (x := x) rfl (List.Mem.tail _ (List.Mem.head _)) ?_
  rcases (show x = 0 ∨ x = 1 ∨ x = 2 ∨ x = 3 ∨ x = 4 ∨ x = 5 ∨ x = 6 ∨ x = 7 ∨ x = 8 ∨ x = 9 ∨ (x < 0 ∨ 9 < x) by omega) with gs | gs | gs | gs | gs | gs | gs | gs | gs | gs | gs
  ·
    rw [gs]
    refine w_tabIn X.1 (dflt := 96) (lo := 0) (hi := 9) (offs := #[54, 59, 64, 66, 68, 73, 78, 83, 86, 91]) (len := 54) (off := 54) (t := 156) (ax_d X (show cdA 295 102 = some (.tableswitch 96 0 9 #[54, 59, 64, 66, 68, 73, 78, 83, 86, 91], 54, 0, 0, 0) from rfl)) (by decide) (by decide) (by decide) (by decide) (z_aload_n X (x := A 179) rfl (List.Mem.head _) (z_getI X 179 rfl (c518_ok rfl) rfl rfl ?_))
    have b12 := bi_90 Is7
    exact w_iret X.1 q hRt rfl (ax_d X (show cdA 295 160 = some (.ireturn, 1, 0, 0, 0) from rfl)) (Nat.zero_le _) (Nat.zero_le _) ⟨_, rfl, Is7, Fs7, (iI s7 90), rfl, (rng_to _), trivial⟩
  ·
    rw [gs]
    refine w_tabIn X.1 (dflt := 96) (lo := 0) (hi := 9) (offs := #[54, 59, 64, 66, 68, 73, 78, 83, 86, 91]) (len := 54) (off := 59) (t := 161) (ax_d X (show cdA 295 102 = some (.tableswitch 96 0 9 #[54, 59, 64, 66, 68, 73, 78, 83, 86, 91], 54, 0, 0, 0) from rfl)) (by decide) (by decide) (by decide) (by decide) (z_aload_n X (x := A 179) rfl (List.Mem.head _) (z_getI X 179 rfl (c518_ok rfl) rfl rfl ?_))
    have b13 := bi_83 Is7
    exact w_iret X.1 q hRt rfl (ax_d X (show cdA 295 165 = some (.ireturn, 1, 0, 0, 0) from rfl)) (Nat.zero_le _) (Nat.zero_le _) ⟨_, rfl, Is7, Fs7, (iI s7 83), rfl, (rng_to _), trivial⟩
  ·
    rw [gs]
    refine w_tabIn X.1 (dflt := 96) (lo := 0) (hi := 9) (offs := #[54, 59, 64, 66, 68, 73, 78, 83, 86, 91]) (len := 54) (off := 64) (t := 166) (ax_d X (show cdA 295 102 = some (.tableswitch 96 0 9 #[54, 59, 64, 66, 68, 73, 78, 83, 86, 91], 54, 0, 0, 0) from rfl)) (by decide) (by decide) (by decide) (by decide) (z_load_n X (x := x4) rfl (List.Mem.tail _ (List.Mem.tail _ (List.Mem.head _))) ?_)
    exact w_iret X.1 q hRt rfl (ax_d X (show cdA 295 167 = some (.ireturn, 1, 0, 0, 0) from rfl)) (Nat.zero_le _) (Nat.zero_le _) ⟨_, rfl, Is7, Fs7, x4, rfl, ⟨by first | exact oq_fa4e5087 hs7.2.1 | omega, by first | exact oq_d3f5d874 hs7.2.2.1 | omega⟩, trivial⟩
  ·
    rw [gs]
    refine w_tabIn X.1 (dflt := 96) (lo := 0) (hi := 9) (offs := #[54, 59, 64, 66, 68, 73, 78, 83, 86, 91]) (len := 54) (off := 66) (t := 168) (ax_d X (show cdA 295 102 = some (.tableswitch 96 0 9 #[54, 59, 64, 66, 68, 73, 78, 83, 86, 91], 54, 0, 0, 0) from rfl)) (by decide) (by decide) (by decide) (by decide) (z_load_n X (x := x8) rfl (List.Mem.tail _ (List.Mem.tail _ (List.Mem.tail _ (List.Mem.head _)))) ?_)
    exact w_iret X.1 q hRt rfl (ax_d X (show cdA 295 169 = some (.ireturn, 1, 0, 0, 0) from rfl)) (Nat.zero_le _) (Nat.zero_le _) ⟨_, rfl, Is7, Fs7, x8, rfl, ⟨by first | exact oq_fa4e5087 hs7.2.2.2.1 | omega, by first | exact oq_9eb6cd9c hs7.2.2.2.2.1 hs7.2.2.2.2.2.2.2 | omega⟩, trivial⟩
  ·
    rw [gs]
    refine w_tabIn X.1 (dflt := 96) (lo := 0) (hi := 9) (offs := #[54, 59, 64, 66, 68, 73, 78, 83, 86, 91]) (len := 54) (off := 68) (t := 170) (ax_d X (show cdA 295 102 = some (.tableswitch 96 0 9 #[54, 59, 64, 66, 68, 73, 78, 83, 86, 91], 54, 0, 0, 0) from rfl)) (by decide) (by decide) (by decide) (by decide) (z_aload_n X (x := A 179) rfl (List.Mem.head _) (z_getI X 179 rfl (c518_ok rfl) rfl rfl ?_))
    have b14 := bi_97 Is7
    exact w_iret X.1 q hRt rfl (ax_d X (show cdA 295 174 = some (.ireturn, 1, 0, 0, 0) from rfl)) (Nat.zero_le _) (Nat.zero_le _) ⟨_, rfl, Is7, Fs7, (iI s7 97), rfl, (rng_to _), trivial⟩
  ·
    rw [gs]
    refine w_tabIn X.1 (dflt := 96) (lo := 0) (hi := 9) (offs := #[54, 59, 64, 66, 68, 73, 78, 83, 86, 91]) (len := 54) (off := 73) (t := 175) (ax_d X (show cdA 295 102 = some (.tableswitch 96 0 9 #[54, 59, 64, 66, 68, 73, 78, 83, 86, 91], 54, 0, 0, 0) from rfl)) (by decide) (by decide) (by decide) (by decide) (z_aload_n X (x := A 179) rfl (List.Mem.head _) (z_getI X 179 rfl (c518_ok rfl) rfl rfl ?_))
    have b15 := bi_99 Is7
    exact w_iret X.1 q hRt rfl (ax_d X (show cdA 295 179 = some (.ireturn, 1, 0, 0, 0) from rfl)) (Nat.zero_le _) (Nat.zero_le _) ⟨_, rfl, Is7, Fs7, (iI s7 99), rfl, (rng_to _), trivial⟩
  ·
    rw [gs]
    refine w_tabIn X.1 (dflt := 96) (lo := 0) (hi := 9) (offs := #[54, 59, 64, 66, 68, 73, 78, 83, 86, 91]) (len := 54) (off := 78) (t := 180) (ax_d X (show cdA 295 102 = some (.tableswitch 96 0 9 #[54, 59, 64, 66, 68, 73, 78, 83, 86, 91], 54, 0, 0, 0) from rfl)) (by decide) (by decide) (by decide) (by decide) (z_aload_n X (x := A 179) rfl (List.Mem.head _) (z_getI X 179 rfl (c518_ok rfl) rfl rfl ?_))
    have b16 := bi_107 Is7
    exact w_iret X.1 q hRt rfl (ax_d X (show cdA 295 184 = some (.ireturn, 1, 0, 0, 0) from rfl)) (Nat.zero_le _) (Nat.zero_le _) ⟨_, rfl, Is7, Fs7, (iI s7 107), rfl, (rng_to _), trivial⟩
  ·
    rw [gs]
    refine w_tabIn X.1 (dflt := 96) (lo := 0) (hi := 9) (offs := #[54, 59, 64, 66, 68, 73, 78, 83, 86, 91]) (len := 54) (off := 83) (t := 185) (ax_d X (show cdA 295 102 = some (.tableswitch 96 0 9 #[54, 59, 64, 66, 68, 73, 78, 83, 86, 91], 54, 0, 0, 0) from rfl)) (by decide) (by decide) (by decide) (by decide) (z_load X (x := x9) rfl (List.Mem.tail _ (List.Mem.tail _ (List.Mem.tail _ (List.Mem.tail _ (List.Mem.head _))))) ?_)
    exact w_iret X.1 q hRt rfl (ax_d X (show cdA 295 187 = some (.ireturn, 1, 0, 0, 0) from rfl)) (Nat.zero_le _) (Nat.zero_le _) ⟨_, rfl, Is7, Fs7, x9, rfl, ⟨by first | exact oq_fa4e5087 hs7.2.2.2.2.2.1 | omega, by first | exact oq_9eb6cd9c hs7.2.2.2.2.2.2.1 hs7.2.2.2.2.2.2.2 | omega⟩, trivial⟩
  ·
    rw [gs]
    refine w_tabIn X.1 (dflt := 96) (lo := 0) (hi := 9) (offs := #[54, 59, 64, 66, 68, 73, 78, 83, 86, 91]) (len := 54) (off := 86) (t := 188) (ax_d X (show cdA 295 102 = some (.tableswitch 96 0 9 #[54, 59, 64, 66, 68, 73, 78, 83, 86, 91], 54, 0, 0, 0) from rfl)) (by decide) (by decide) (by decide) (by decide) (z_aload_n X (x := A 179) rfl (List.Mem.head _) (z_getI X 179 rfl (c518_ok rfl) rfl rfl ?_))
    have b17 := bi_98 Is7
    exact w_iret X.1 q hRt rfl (ax_d X (show cdA 295 192 = some (.ireturn, 1, 0, 0, 0) from rfl)) (Nat.zero_le _) (Nat.zero_le _) ⟨_, rfl, Is7, Fs7, (iI s7 98), rfl, (rng_to _), trivial⟩
  ·
    rw [gs]
    refine w_tabIn X.1 (dflt := 96) (lo := 0) (hi := 9) (offs := #[54, 59, 64, 66, 68, 73, 78, 83, 86, 91]) (len := 54) (off := 91) (t := 193) (ax_d X (show cdA 295 102 = some (.tableswitch 96 0 9 #[54, 59, 64, 66, 68, 73, 78, 83, 86, 91], 54, 0, 0, 0) from rfl)) (by decide) (by decide) (by decide) (by decide) (z_aload_n X (x := A 179) rfl (List.Mem.head _) (z_getI X 179 rfl (c518_ok rfl) rfl rfl ?_))
    have b18 := bi_74 Is7
    exact w_iret X.1 q hRt rfl (ax_d X (show cdA 295 197 = some (.ireturn, 1, 0, 0, 0) from rfl)) (Nat.zero_le _) (Nat.zero_le _) ⟨_, rfl, Is7, Fs7, (iI s7 74), rfl, (rng_to _), trivial⟩
  ·
    refine w_tabOut X.1 (dflt := 96) (lo := 0) (hi := 9) (offs := #[54, 59, 64, 66, 68, 73, 78, 83, 86, 91]) (len := 54) (t := 198) (ax_d X (show cdA 295 102 = some (.tableswitch 96 0 9 #[54, 59, 64, 66, 68, 73, 78, 83, 86, 91], 54, 0, 0, 0) from rfl)) (by rw [zi ⟨by omega, by omega⟩]; omega) (by decide) (z_const X rfl ?_)
    exact w_iret X.1 q hRt rfl (ax_d X (show cdA 295 199 = some (.ireturn, 1, 0, 0, 0) from rfl)) (Nat.zero_le _) (Nat.zero_le _) ⟨_, rfl, Is7, Fs7, (-1), rfl, (by decide), trivial⟩
end M38
end
section
theorem oq_58735585 {a0 a1 : Int} (h0 : a0 ≤ ((64 * (a1 / 64)) + 64)) (h1 : a1 ≤ 127) : a0 ≤ 2147483647 := by omega
theorem oq_03182e9e {a0 a1 : Int} (h0 : a0 ≤ a1) : a0 ≤ (a1 + 1) := by omega
theorem oq_36b78649 {a0 a1 : Int} (h0 : a0 ≤ a1) (h1 : 0 ≤ a0) : 0 ≤ (a1 / 8) := by omega
theorem oq_fb4875cb {a0 a1 : Int} (h0 : a0 ≤ a1) (h1 : 0 ≤ a0) : (-2147483648) ≤ (a1 / 8) := by omega
theorem oq_f457fe4f {a0 : Int} (h0 : (-2147483648) ≤ a0) : (-2147483648) ≤ (a0 / 64) := by omega
theorem oq_e42dd4bd {a0 : Int} (h0 : a0 ≤ 2147483647) : (a0 / 64) ≤ 2147483647 := by omega
theorem oq_186a3934 {a0 : Int} (h0 : (-2147483648) ≤ a0) : (-2147483648) ≤ (a0 / 8) := by omega
theorem oq_2590a617 {a0 : Int} (h0 : a0 ≤ 2147483647) : (a0 / 8) ≤ 2147483647 := by omega
theorem oq_77708b6d {a0 a1 : Int} (h0 : a0 ≠ 0) (h1 : ((a0 = 1 ∧ (0 ≤ a1 ∧ a1 ≤ 127)) ∨ (a0 = 0 ∧ (a1 < 0 ∨ 127 < a1)))) : 0 ≤ a1 := by omega
theorem oq_88610498 {a0 a1 : Int} (h0 : a0 ≠ 0) (h1 : ((a0 = 1 ∧ (0 ≤ a1 ∧ a1 ≤ 127)) ∨ (a0 = 0 ∧ (a1 < 0 ∨ 127 < a1)))) : 0 ≤ (a1 / 8) := by omega
/-! The model: paint -/
section M39
variable {l : Launch} {s0 : State} {D : va_G} {tys : List (ClassId × FieldType)} {a0 : Array Value} {A : Nat → Nat} {dT : Nat → ClassId} {s : PS}
end M39
end
section
theorem oq_71f4b7b9 {a0 a1 a2 : Int} (h0 : a0 = a1) (h1 : a2 < a1) : a2 < a0 := by omega
theorem oq_42fe298a {a0 : Int} (h0 : a0 ≤ 128) (h1 : 128 ≤ a0) : a0 = 128 := by omega
theorem oq_cd47680f {a0 a1 : Int} (h0 : a0 < a1) (h1 : a1 ≤ 24) : a0 ≤ 2147483647 := by omega
theorem oq_0152e793 {a0 a1 : Int} (h0 : a0 ≠ (a1 - 1)) (h1 : a1 ≤ 24) (h2 : a0 < a1) : (a0 + 1) < 24 := by omega
theorem oq_fa8c9353 {a0 a1 : Int} (h0 : a0 ≠ (a1 - 1)) (h1 : a1 ≤ 24) (h2 : a0 < a1) : ((a0 + 1) : Int).toNat < 24 := by omega
theorem oq_b982df86 {a0 : Int} (h0 : a0 ≤ 5) : a0 ≤ 6 := by omega
theorem oq_35f9a344 {a0 a1 : Int} (h0 : a0 = (a1 - 1)) (h1 : a1 ≠ 1) (h2 : 0 ≤ a0) : 0 ≤ (a0 - 1) := by omega
theorem oq_514020d0 {a0 a1 : Int} (h0 : a0 = (a1 - 1)) (h1 : a1 ≤ 24) : (a0 - 1) < 24 := by omega
theorem oq_4b444e5a {a0 a1 : Int} (h0 : a0 = (a1 - 1)) (h1 : a1 ≤ 24) : ((a0 - 1) : Int).toNat < 24 := by omega
theorem oq_9cfd8ba8 {a0 a1 : Int} (h0 : a0 = (a1 - 1)) (h1 : a1 ≤ 24) : a0 < 24 := by omega
theorem oq_bfe9ed15 {a0 a1 : Int} (h0 : a0 = (a1 - 1)) (h1 : a1 ≤ 24) : (a0 : Int).toNat < 24 := by omega
/-! The model: the ways as they are told -/
theorem fm_c {L M : List Nat} {s t : PS} {a : Nat} (F : Fm L M s t) (h : a ∉ M) {j : Nat} : iC t a j = iC s a j := congrArg Int32.toInt (congrFun (F.2.1 a h) j)
theorem iC_a {s : PS} {a b i j : Nat} {x : Int32} (h : b ≠ a) : iC (uC s a i x) b j = iC s b j := congrArg Int32.toInt (congrFun (show (if b = a then upd (s.2.2.1 a) i x else s.2.2.1 b) = s.2.2.1 b from if_neg h) j)
/-- a stream's way is no shorter than the places on it -/
def RW1 (s : PS) (j : Nat) : Prop := 1 ≤ iC s 162 j ∧ ∀ c, c < 128 → iC s (178 + j) c < iC s 162 j
def RLx (s : PS) : Prop := ∀ j : Nat, j < 12 → (j : Int) < iI s 90 → RW1 s j
def NW1 (s : PS) (j : Nat) : Prop := 1 ≤ iC s 202 j ∧ ∀ c, c < 128 → iC s (216 + j) c < iC s 202 j
def NW (s : PS) : Prop := ∀ j : Nat, j < 12 → (j : Int) < iI s 90 → NW1 s j
def NQ1 (s : PS) (j : Nat) : Prop := iC s 202 j = iC s 162 j ∧ (∀ k : Nat, k < 24 → (k : Int) < iC s 162 j → iC s (204 + j) k = iC s (166 + j) k) ∧ ∀ c, c < 128 → iC s (216 + j) c = iC s (178 + j) c
def NQ (s : PS) : Prop := ∀ j : Nat, j < 12 → (j : Int) < iI s 90 → NQ1 s j
theorem RLx_fm {L M : List Nat} {s t : PS} (F : Fm L M s t) (h : 90 ∉ L ∧ 162 ∉ M ∧ ∀ i, i < 12 → 178 + i ∉ M) (r : RLx s) : RLx t := fun j hj hs => by
  rw [fm_i F h.1] at hs
  obtain ⟨r1, r2⟩ := r j hj hs
  exact ⟨by rw [fm_c F h.2.1]; exact r1, fun c hc => by rw [fm_c F h.2.1, fm_c F (h.2.2 j hj)]; exact r2 c hc⟩
theorem NW_fm {L M : List Nat} {s t : PS} (F : Fm L M s t) (h : 90 ∉ L ∧ 202 ∉ M ∧ ∀ i, i < 12 → 216 + i ∉ M) (r : NW s) : NW t := fun j hj hs => by
  rw [fm_i F h.1] at hs
  obtain ⟨r1, r2⟩ := r j hj hs
  exact ⟨by rw [fm_c F h.2.1]; exact r1, fun c hc => by rw [fm_c F h.2.1, fm_c F (h.2.2 j hj)]; exact r2 c hc⟩
theorem NQ1_fm {L M : List Nat} {s t : PS} {j : Nat} (F : Fm L M s t) (h : 162 ∉ M ∧ 202 ∉ M ∧ ∀ i, i < 12 → 178 + i ∉ M ∧ 216 + i ∉ M ∧ 166 + i ∉ M ∧ 204 + i ∉ M) (hj : j < 12) (r : NQ1 s j) : NQ1 t j := by
  obtain ⟨h1, h2, h3⟩ := h
  obtain ⟨a, b, c, d⟩ := h3 j hj
  exact ⟨by rw [fm_c F h1, fm_c F h2]; exact r.1, fun k hk h => by rw [fm_c F h1] at h; rw [fm_c F d, fm_c F c]; exact r.2.1 k hk h, fun i hi => by rw [fm_c F a, fm_c F b]; exact r.2.2 i hi⟩
theorem NQ_fm {L M : List Nat} {s t : PS} (F : Fm L M s t) (h : 90 ∉ L ∧ 162 ∉ M ∧ 202 ∉ M ∧ ∀ i, i < 12 → 178 + i ∉ M ∧ 216 + i ∉ M ∧ 166 + i ∉ M ∧ 204 + i ∉ M) (r : NQ s) : NQ t := fun j hj hs => by
  rw [fm_i F h.1] at hs
  exact NQ1_fm F h.2 hj (r j hj hs)
theorem NQ1_st {s : PS} {a i j : Nat} {x : Int32} (ha : 162 ≠ a ∧ 166 + j ≠ a ∧ 178 + j ≠ a ∧ (202 ≠ a ∨ j ≠ i) ∧ 204 + j ≠ a ∧ 216 + j ≠ a) (r : NQ1 s j) : NQ1 (uC s a i x) j := by
  obtain ⟨h1, h2, h3, h4, h5, h6⟩ := ha
  refine ⟨?_, fun k hk h => ?_, fun c hc => ?_⟩
  · rw [iC_a h1]
    rcases Nat.decEq 202 a with q | q
    · rw [iC_a q]; exact r.1
    · subst q; rw [iC_n (h4.resolve_left (fun z => z rfl))]; exact r.1
  · rw [iC_a h1] at h
    rw [iC_a h2, iC_a h5]; exact r.2.1 k hk h
  · rw [iC_a h3, iC_a h6]; exact r.2.2 c hc
theorem NW_of {s : PS} (h : NQ s) (r : RLx s) : NW s := fun j hj hs => by
  obtain ⟨r1, r2⟩ := r j hj hs
  obtain ⟨t1, -, t3⟩ := h j hj hs
  exact ⟨by rw [t1]; exact r1, fun c hc => by rw [t1, t3 c hc]; exact r2 c hc⟩
section M40
variable {l : Launch} {s0 : State} {D : va_G} {tys : List (ClassId × FieldType)} {a0 : Array Value} {A : Nat → Nat} {dT : Nat → ClassId} {s : PS}
theorem k_waysAsTold (G : GX l s0 D tys a0 dT) (I : Bd s) (jRLx : RLx s)  : CT l s0 D A dT 223 (rmN 223) [.ref (A 179)] s (fun o t => Bd t ∧ Fm [] [202, 204, 205, 206, 207, 208, 209, 210, 211, 212, 213, 214, 215, 216, 217, 218, 219, 220, 221, 222, 223, 224, 225, 226, 227] s t ∧ RLx t ∧ NQ t ∧ o = .inl none ∧ (True)) := by
  refine ct_of G (by decide) (Nat.le_of_ble_eq_true rfl) (fun k X E hRt hXt q => ?_)
  show WS k 0 [(0, .ref (A 179))] [] _ 0 0
  have F : Fm [] [202, 204, 205, 206, 207, 208, 209, 210, 211, 212, 213, 214, 215, 216, 217, 218, 219, 220, 221, 222, 223, 224, 225, 226, 227] s s := fm_rf _ _ s
  have b1 := bi_90 I
  have L24 : ∀ (n : Nat) (t : PS) (c0 kk : Int), Bd t → Fm [] [202, 204, 205, 206, 207, 208, 209, 210, 211, 212, 213, 214, 215, 216, 217, 218, 219, 220, 221, 222, 223, 224, 225, 226, 227] s t → RLx t → ((∀ j : Nat, j < 12 → (j : Int) < c0 → NQ1 t j) ∧ (iC t 202 (c0 : Int).toNat = iC t 162 (c0 : Int).toNat) ∧ ∀ i : Nat, i < 24 → (i : Int) < kk → iC t (204 + (c0 : Int).toNat) i = iC t (166 + (c0 : Int).toNat) i) → (0 ≤ c0 ∧ c0 < iI t 90 ∧ 0 ≤ kk ∧ kk ≤ 24) → (24 - kk : Int).toNat < n → (∀ (t' : PS) (kk' : Int), Bd t' → Fm [] [202, 204, 205, 206, 207, 208, 209, 210, 211, 212, 213, 214, 215, 216, 217, 218, 219, 220, 221, 222, 223, 224, 225, 226, 227] s t' → RLx t' → ((∀ j : Nat, j < 12 → (j : Int) < c0 → NQ1 t' j) ∧ (iC t' 202 (c0 : Int).toNat = iC t' 162 (c0 : Int).toNat) ∧ ∀ i : Nat, i < 24 → (i : Int) < kk' → iC t' (204 + (c0 : Int).toNat) i = iC t' (166 + (c0 : Int).toNat) i) → (0 ≤ c0 ∧ c0 < iI t' 90 ∧ 0 ≤ kk' ∧ iC t' 162 (c0 : Int).toNat ≤ kk') → WS k 56 [(0, .ref (A 179)), (1, .int (Int32.ofInt c0)), (2, .int (Int32.ofInt kk'))] [] (Wd A dT t') 0 0) → WS k 24 [(0, .ref (A 179)), (1, .int (Int32.ofInt c0)), (2, .int (Int32.ofInt kk))] [] (Wd A dT t) 0 0 := by
    intro n
    induction n with
    | zero =>
      intro t c0 kk I F jjRLx hq hi hm kx
      exact absurd hm (Nat.not_lt_zero _)
    | succ n ih =>
      intro t c0 kk I F jjRLx hq hi hm kx
      have b1001 := bi_90 I
      refine z_load_n X (x := kk) rfl (List.Mem.tail _ (List.Mem.tail _ (List.Mem.head _))) (z_aload_n X (x := A 179) rfl (List.Mem.head _) (s_getR X 179 rfl (c518_ok rfl) rfl rfl (z_load_n X (x := c0) rfl (List.Mem.tail _ (List.Mem.head _)) (z_ald X 185 rfl (c518_ok rfl) rfl (by first | exact hi.1 | omega) (show c0 < 12 by first | exact oq_f36e82a8 hi.2.1 b1001.2 | omega) (cbig_ok rfl) ?_))))
      have b1002 := bc_162 I (show (c0).toNat < 12 by first | exact oq_2dac6850 hi.2.1 b1001.2 | omega)
      refine z_icmp_ge X (t := 56) rfl rfl ⟨by first | exact oq_fa4e5087 hi.2.2.1 | omega, by first | exact oq_5bcd337f hi.2.2.2 | omega⟩ (rng_to _) (fun g1003 => ?_) (fun g1003 => ?_)
      ·
        refine WS_pq [0, 1, 2] (lv' := [(0, .ref (A 179)), (1, .int (Int32.ofInt c0)), (2, .int (Int32.ofInt kk))]) rfl ?_
        exact kx _ kk I F jjRLx hq (by first | exact ⟨hi.1, hi.2.1, hi.2.2.1, g1003⟩ | omega)
      ·
        refine z_aload_n X (x := A 179) rfl (List.Mem.head _) (s_getR X 179 rfl (c518_ok rfl) rfl rfl (z_load_n X (x := c0) rfl (List.Mem.tail _ (List.Mem.head _)) (z_aald X rw_230 rfl (by first | exact hi.1 | omega) (show c0 < 12 by first | exact oq_f36e82a8 hi.2.1 b1001.2 | omega) (by decide) (z_load_n X (x := kk) rfl (List.Mem.tail _ (List.Mem.tail _ (List.Mem.head _))) (z_aload_n X (x := A 179) rfl (List.Mem.head _) (s_getR X 179 rfl (c518_ok rfl) rfl rfl (z_load_n X (x := c0) rfl (List.Mem.tail _ (List.Mem.head _)) (z_aald X rw_189 rfl (by first | exact hi.1 | omega) (show c0 < 12 by first | exact oq_f36e82a8 hi.2.1 b1001.2 | omega) (by decide) (z_load_n X (x := kk) rfl (List.Mem.tail _ (List.Mem.tail _ (List.Mem.head _))) (z_ald2 X rw_189 rfl (show (c0 : Int).toNat < 12 by first | exact oq_2dac6850 hi.2.1 b1001.2 | omega) (by first | exact hi.2.2.1 | omega) (show kk < 24 by first | exact oq_8ff7beb9 g1003 b1002.2 | omega) (by decide) ?_))))))))))
        have b1004 : (0 : Int) ≤ (iC t (166 + (c0 : Int).toNat) (kk : Int).toNat) ∧ (iC t (166 + (c0 : Int).toNat) (kk : Int).toNat) ≤ 127 := rw_bd rw_189 I (show (c0 : Int).toNat < 12 by first | exact oq_2dac6850 hi.2.1 b1001.2 | omega) (show (kk : Int).toNat < 24 by first | exact oq_9e668fc9 g1003 b1002.2 | omega)
        refine z_ast2 X rw_230 rfl (show (c0 : Int).toNat < 12 by first | exact oq_2dac6850 hi.2.1 b1001.2 | omega) (by first | exact hi.2.2.1 | omega) (show kk < 24 by first | exact oq_8ff7beb9 g1003 b1002.2 | omega) (by decide) (wd_gen (fun s1005 hs1005 => ?_))
        have Is1005 : Bd s1005 := eqB hs1005 (rw_st rw_230 I (show (c0 : Int).toNat < 12 by first | exact oq_2dac6850 hi.2.1 b1001.2 | omega) (show (0 : Int) ≤ (iC t (166 + (c0 : Int).toNat) (kk : Int).toNat) ∧ (iC t (166 + (c0 : Int).toNat) (kk : Int).toNat) ≤ 127 by first | exact ⟨b1004.1, b1004.2⟩ | omega) (rng_to _))
        have Fs1005 := eqF hs1005 (fm_C (i := (kk : Int).toNat) (x := Int32.ofInt (iC t (166 + (c0 : Int).toNat) (kk : Int).toNat)) F ((show ∀ j, j < 12 → 204 + j ∈ _ by decide) (c0 : Int).toNat (by first | exact oq_2dac6850 hi.2.1 b1001.2 | omega)))
        have ws1005_90 : iI s1005 90 = iI t 90 := eqI hs1005 rfl
        have fs1005 : Fm [] [204, 205, 206, 207, 208, 209, 210, 211, 212, 213, 214, 215] t s1005 := by rw [hs1005]; exact fm_C (fm_rf _ _ _) ((show ∀ j, j < 12 → 204 + j ∈ _ by decide) (c0 : Int).toNat (by first | exact oq_2dac6850 hi.2.1 b1001.2 | omega))
        have JRLx_s1005 : RLx s1005 := RLx_fm fs1005 (by decide) jjRLx
        refine z_inc X (x := kk) (lv' := [(2, .int (Int32.ofInt (kk + 1))), (0, .ref (A 179)), (1, .int (Int32.ofInt c0))]) rfl (by decide) (List.Mem.tail _ (List.Mem.tail _ (List.Mem.head _))) (fun _ h => h) (z_goto X (t := 24) rfl rfl (WS_pq [1, 2, 0] (lv' := [(0, .ref (A 179)), (1, .int (Int32.ofInt c0)), (2, .int (Int32.ofInt (kk + 1)))]) rfl ?_))
        have QKs1005 : (∀ j : Nat, j < 12 → (j : Int) < c0 → NQ1 s1005 j) ∧ (iC s1005 202 (c0 : Int).toNat = iC s1005 162 (c0 : Int).toNat) ∧ ∀ i : Nat, i < 24 → (i : Int) < (kk + 1) → iC s1005 (204 + (c0 : Int).toNat) i = iC s1005 (166 + (c0 : Int).toNat) i := by
          refine ⟨fun j hj h => by rw [hs1005]; exact NQ1_st (by omega) (hq.1 j hj h), by rw [hs1005, iC_a (by omega), iC_a (by omega)]; exact hq.2.1, fun i hi h => ?_⟩
          by_cases e : i = (kk : Int).toNat
          · rw [e, hs1005, iC_u ⟨by omega, by omega⟩, iC_a (by omega)]
          · rw [hs1005, iC_n e, iC_a (by omega)]; exact hq.2.2 i hi (by omega)
        exact ih _ c0 (kk + 1) Is1005 Fs1005 JRLx_s1005 QKs1005 (by first | exact ⟨hi.1, oq_71f4b7b9 ws1005_90 hi.2.1, oq_54f49eb5 hi.2.2.1, oq_41473be0 g1003 b1002.2⟩ | omega) (by first | exact qk_me hm (by decide) (oq_9dea93e6 g1003 b1002.2) | omega) kx
  have L58 : ∀ (n : Nat) (t : PS) (c0 c : Int), Bd t → Fm [] [202, 204, 205, 206, 207, 208, 209, 210, 211, 212, 213, 214, 215, 216, 217, 218, 219, 220, 221, 222, 223, 224, 225, 226, 227] s t → RLx t → ((∀ j : Nat, j < 12 → (j : Int) < c0 → NQ1 t j) ∧ (iC t 202 (c0 : Int).toNat = iC t 162 (c0 : Int).toNat) ∧ (∀ i : Nat, i < 24 → (i : Int) < iC t 162 (c0 : Int).toNat → iC t (204 + (c0 : Int).toNat) i = iC t (166 + (c0 : Int).toNat) i) ∧ ∀ i : Nat, i < 128 → (i : Int) < c → iC t (216 + (c0 : Int).toNat) i = iC t (178 + (c0 : Int).toNat) i) → (0 ≤ c0 ∧ c0 < iI t 90 ∧ 0 ≤ c ∧ c ≤ 128) → (128 - c : Int).toNat < n → (∀ (t' : PS) (c' : Int), Bd t' → Fm [] [202, 204, 205, 206, 207, 208, 209, 210, 211, 212, 213, 214, 215, 216, 217, 218, 219, 220, 221, 222, 223, 224, 225, 226, 227] s t' → RLx t' → ((∀ j : Nat, j < 12 → (j : Int) < c0 → NQ1 t' j) ∧ (iC t' 202 (c0 : Int).toNat = iC t' 162 (c0 : Int).toNat) ∧ (∀ i : Nat, i < 24 → (i : Int) < iC t' 162 (c0 : Int).toNat → iC t' (204 + (c0 : Int).toNat) i = iC t' (166 + (c0 : Int).toNat) i) ∧ ∀ i : Nat, i < 128 → (i : Int) < c' → iC t' (216 + (c0 : Int).toNat) i = iC t' (178 + (c0 : Int).toNat) i) → (0 ≤ c0 ∧ c0 < iI t' 90 ∧ c' = 128) → WS k 87 [(0, .ref (A 179)), (1, .int (Int32.ofInt c0)), (2, .int (Int32.ofInt c'))] [] (Wd A dT t') 0 0) → WS k 58 [(0, .ref (A 179)), (1, .int (Int32.ofInt c0)), (2, .int (Int32.ofInt c))] [] (Wd A dT t) 0 0 := by
    intro n
    induction n with
    | zero =>
      intro t c0 c I F jjRLx hq hi hm kx
      exact absurd hm (Nat.not_lt_zero _)
    | succ n ih =>
      intro t c0 c I F jjRLx hq hi hm kx
      have b2001 := bi_90 I
      refine z_load_n X (x := c) rfl (List.Mem.tail _ (List.Mem.tail _ (List.Mem.head _))) (z_sipush X rfl (z_icmp_ge X (t := 87) rfl rfl ⟨by first | exact oq_fa4e5087 hi.2.2.1 | omega, by first | exact oq_4ee82282 hi.2.2.2 | omega⟩ (by decide) (fun g2002 => ?_) (fun g2002 => ?_)))
      ·
        refine WS_pq [0, 1, 2] (lv' := [(0, .ref (A 179)), (1, .int (Int32.ofInt c0)), (2, .int (Int32.ofInt c))]) rfl ?_
        exact kx _ c I F jjRLx hq (by first | exact ⟨hi.1, hi.2.1, oq_42fe298a hi.2.2.2 g2002⟩ | omega)
      ·
        refine z_aload_n X (x := A 179) rfl (List.Mem.head _) (s_getR X 179 rfl (c518_ok rfl) rfl rfl (z_load_n X (x := c0) rfl (List.Mem.tail _ (List.Mem.head _)) (z_aald X rw_243 rfl (by first | exact hi.1 | omega) (show c0 < 12 by first | exact oq_f36e82a8 hi.2.1 b2001.2 | omega) (by decide) (z_load_n X (x := c) rfl (List.Mem.tail _ (List.Mem.tail _ (List.Mem.head _))) (z_aload_n X (x := A 179) rfl (List.Mem.head _) (s_getR X 179 rfl (c518_ok rfl) rfl rfl (z_load_n X (x := c0) rfl (List.Mem.tail _ (List.Mem.head _)) (z_aald X rw_202 rfl (by first | exact hi.1 | omega) (show c0 < 12 by first | exact oq_f36e82a8 hi.2.1 b2001.2 | omega) (by decide) (z_load_n X (x := c) rfl (List.Mem.tail _ (List.Mem.tail _ (List.Mem.head _))) (z_ald2 X rw_202 rfl (show (c0 : Int).toNat < 12 by first | exact oq_2dac6850 hi.2.1 b2001.2 | omega) (by first | exact hi.2.2.1 | omega) (show c < 128 by first | exact g2002 | omega) (by decide) ?_))))))))))
        have b2003 : ((-1) : Int) ≤ (iC t (178 + (c0 : Int).toNat) (c : Int).toNat) ∧ (iC t (178 + (c0 : Int).toNat) (c : Int).toNat) ≤ 23 := rw_bd rw_202 I (show (c0 : Int).toNat < 12 by first | exact oq_2dac6850 hi.2.1 b2001.2 | omega) (show (c : Int).toNat < 128 by first | exact oq_afb89947 g2002 | omega)
        refine z_ast2 X rw_243 rfl (show (c0 : Int).toNat < 12 by first | exact oq_2dac6850 hi.2.1 b2001.2 | omega) (by first | exact hi.2.2.1 | omega) (show c < 128 by first | exact g2002 | omega) (by decide) (wd_gen (fun s2004 hs2004 => ?_))
        have Is2004 : Bd s2004 := eqB hs2004 (rw_st rw_243 I (show (c0 : Int).toNat < 12 by first | exact oq_2dac6850 hi.2.1 b2001.2 | omega) (show ((-1) : Int) ≤ (iC t (178 + (c0 : Int).toNat) (c : Int).toNat) ∧ (iC t (178 + (c0 : Int).toNat) (c : Int).toNat) ≤ 23 by first | exact ⟨b2003.1, b2003.2⟩ | omega) (rng_to _))
        have Fs2004 := eqF hs2004 (fm_C (i := (c : Int).toNat) (x := Int32.ofInt (iC t (178 + (c0 : Int).toNat) (c : Int).toNat)) F ((show ∀ j, j < 12 → 216 + j ∈ _ by decide) (c0 : Int).toNat (by first | exact oq_2dac6850 hi.2.1 b2001.2 | omega)))
        have ws2004_90 : iI s2004 90 = iI t 90 := eqI hs2004 rfl
        have fs2004 : Fm [] [216, 217, 218, 219, 220, 221, 222, 223, 224, 225, 226, 227] t s2004 := by rw [hs2004]; exact fm_C (fm_rf _ _ _) ((show ∀ j, j < 12 → 216 + j ∈ _ by decide) (c0 : Int).toNat (by first | exact oq_2dac6850 hi.2.1 b2001.2 | omega))
        have JRLx_s2004 : RLx s2004 := RLx_fm fs2004 (by decide) jjRLx
        refine z_inc X (x := c) (lv' := [(2, .int (Int32.ofInt (c + 1))), (0, .ref (A 179)), (1, .int (Int32.ofInt c0))]) rfl (by decide) (List.Mem.tail _ (List.Mem.tail _ (List.Mem.head _))) (fun _ h => h) (z_goto X (t := 58) rfl rfl (WS_pq [1, 2, 0] (lv' := [(0, .ref (A 179)), (1, .int (Int32.ofInt c0)), (2, .int (Int32.ofInt (c + 1)))]) rfl ?_))
        have QCs2004 : (∀ j : Nat, j < 12 → (j : Int) < c0 → NQ1 s2004 j) ∧ (iC s2004 202 (c0 : Int).toNat = iC s2004 162 (c0 : Int).toNat) ∧ (∀ i : Nat, i < 24 → (i : Int) < iC s2004 162 (c0 : Int).toNat → iC s2004 (204 + (c0 : Int).toNat) i = iC s2004 (166 + (c0 : Int).toNat) i) ∧ ∀ i : Nat, i < 128 → (i : Int) < (c + 1) → iC s2004 (216 + (c0 : Int).toNat) i = iC s2004 (178 + (c0 : Int).toNat) i := by
          refine ⟨fun j hj h => by rw [hs2004]; exact NQ1_st (by omega) (hq.1 j hj h), by rw [hs2004, iC_a (by omega), iC_a (by omega)]; exact hq.2.1, fun i hi h => ?_, fun i hi h => ?_⟩
          · rw [hs2004, iC_a (by omega)] at h; rw [hs2004, iC_a (by omega), iC_a (by omega)]; exact hq.2.2.1 i hi h
          by_cases e : i = (c : Int).toNat
          · rw [e, hs2004, iC_u ⟨by omega, by omega⟩, iC_a (by omega)]
          · rw [hs2004, iC_n e, iC_a (by omega)]; exact hq.2.2.2 i hi (by omega)
        exact ih _ c0 (c + 1) Is2004 Fs2004 JRLx_s2004 QCs2004 (by first | exact ⟨hi.1, oq_71f4b7b9 ws2004_90 hi.2.1, oq_54f49eb5 hi.2.2.1, oq_d2afb425 g2002⟩ | omega) (by first | exact qk_me hm (by decide) (oq_c268b7bd g2002) | omega) kx
  have L2 : ∀ (n : Nat) (t : PS) (c0 : Int), Bd t → Fm [] [202, 204, 205, 206, 207, 208, 209, 210, 211, 212, 213, 214, 215, 216, 217, 218, 219, 220, 221, 222, 223, 224, 225, 226, 227] s t → RLx t → (∀ j : Nat, j < 12 → (j : Int) < c0 → NQ1 t j) → (0 ≤ c0 ∧ c0 ≤ 12) → (12 - c0 : Int).toNat < n → (∀ (t' : PS) (c0' : Int), Bd t' → Fm [] [202, 204, 205, 206, 207, 208, 209, 210, 211, 212, 213, 214, 215, 216, 217, 218, 219, 220, 221, 222, 223, 224, 225, 226, 227] s t' → RLx t' → (∀ j : Nat, j < 12 → (j : Int) < c0' → NQ1 t' j) → (iI t' 90 ≤ c0') → WS k 93 [(0, .ref (A 179)), (1, .int (Int32.ofInt c0'))] [] (Wd A dT t') 0 0) → WS k 2 [(0, .ref (A 179)), (1, .int (Int32.ofInt c0))] [] (Wd A dT t) 0 0 := by
    intro n
    induction n with
    | zero =>
      intro t c0 I F jjRLx hq hi hm kx
      exact absurd hm (Nat.not_lt_zero _)
    | succ n ih =>
      intro t c0 I F jjRLx hq hi hm kx
      have b3001 := bi_90 I
      refine z_load_n X (x := c0) rfl (List.Mem.tail _ (List.Mem.head _)) (z_aload_n X (x := A 179) rfl (List.Mem.head _) (z_getI X 179 rfl (c518_ok rfl) rfl rfl ?_))
      have b3002 := bi_90 I
      refine z_icmp_ge X (t := 93) rfl rfl ⟨by first | exact oq_fa4e5087 hi.1 | omega, by first | exact oq_78843a64 hi.2 | omega⟩ (rng_to _) (fun g3003 => ?_) (fun g3003 => ?_)
      ·
        refine WS_pq [0, 1] (lv' := [(0, .ref (A 179)), (1, .int (Int32.ofInt c0))]) rfl ?_
        exact kx _ c0 I F jjRLx hq (by first | exact g3003 | omega)
      ·
        refine z_aload_n X (x := A 179) rfl (List.Mem.head _) (s_getR X 179 rfl (c518_ok rfl) rfl rfl (z_load_n X (x := c0) rfl (List.Mem.tail _ (List.Mem.head _)) (z_aload_n X (x := A 179) rfl (List.Mem.head _) (s_getR X 179 rfl (c518_ok rfl) rfl rfl (z_load_n X (x := c0) rfl (List.Mem.tail _ (List.Mem.head _)) (z_ald X 185 rfl (c518_ok rfl) rfl (by first | exact hi.1 | omega) (show c0 < 12 by first | exact oq_f36e82a8 g3003 b3002.2 | omega) (cbig_ok rfl) ?_))))))
        have b3004 := bc_162 I (show (c0).toNat < 12 by first | exact oq_2dac6850 g3003 b3002.2 | omega)
        refine z_ast X 228 rfl (c518_ok rfl) rfl (by first | exact hi.1 | omega) (show c0 < 12 by first | exact oq_f36e82a8 g3003 b3002.2 | omega) (cbig_ok rfl) (wd_gen (fun s3005 hs3005 => ?_))
        have Is3005 : Bd s3005 := eqB hs3005 (bd_C I (show (0 : Int) ≤ (iC t 162 (c0).toNat) ∧ (iC t 162 (c0).toNat) ≤ 24 by first | exact ⟨b3004.1, b3004.2⟩ | omega) (rng_to _))
        have Fs3005 := eqF hs3005 (fm_C F (inl_ok (a := 202) rfl))
        have ws3005_90 : iI s3005 90 = iI t 90 := eqI hs3005 rfl
        have fs3005 : Fm [] [202] t s3005 := by rw [hs3005]; exact fm_C (fm_rf _ _ _) (show 202 ∈ _ by decide)
        have JRLx_s3005 : RLx s3005 := RLx_fm fs3005 (by decide) jjRLx
        refine z_const X rfl (z_store_n X (lv' := [(2, .int (Int32.ofInt 0)), (0, .ref (A 179)), (1, .int (Int32.ofInt c0))]) rfl (by decide) (fun _ h => h) (WS_pq [1, 2, 0] (lv' := [(0, .ref (A 179)), (1, .int (Int32.ofInt c0)), (2, .int (Int32.ofInt 0))]) rfl ?_))
        have QKs3005 : (∀ j : Nat, j < 12 → (j : Int) < c0 → NQ1 s3005 j) ∧ (iC s3005 202 (c0 : Int).toNat = iC s3005 162 (c0 : Int).toNat) ∧ ∀ i : Nat, i < 24 → (i : Int) < 0 → iC s3005 (204 + (c0 : Int).toNat) i = iC s3005 (166 + (c0 : Int).toNat) i := ⟨fun j hj h => by rw [hs3005]; exact NQ1_st (by omega) (hq j hj h), by rw [hs3005, iC_u ⟨by omega, by omega⟩, iC_a (by decide)], fun i _ h => absurd h (by omega)⟩
        refine L24 ((24 - 0 : Int).toNat + 1) s3005 c0 0 Is3005 Fs3005 JRLx_s3005 QKs3005 (by first | exact ⟨hi.1, oq_71f4b7b9 ws3005_90 g3003, by decide, by decide⟩ | omega) (Nat.lt_succ_self _) ?_
        intro s3006 x3007 Is3006 Fs3006 JRLx_s3006 Qs3006 hs3006
        have b3008 := bi_90 Is3006
        refine z_const X rfl (z_store_n X (lv' := [(2, .int (Int32.ofInt 0)), (0, .ref (A 179)), (1, .int (Int32.ofInt c0))]) rfl (by decide) (fun _ h => h) (WS_pq [1, 2, 0] (lv' := [(0, .ref (A 179)), (1, .int (Int32.ofInt c0)), (2, .int (Int32.ofInt 0))]) rfl (L58 ((128 - 0 : Int).toNat + 1) s3006 c0 0 Is3006 Fs3006 JRLx_s3006 ⟨Qs3006.1, Qs3006.2.1, fun i hi h => Qs3006.2.2 i hi (by omega), fun i _ h => absurd h (by omega)⟩ (by first | exact ⟨hs3006.1, hs3006.2.1, by decide, by decide⟩ | omega) (Nat.lt_succ_self _) ?_)))
        intro s3009 x3010 Is3009 Fs3009 JRLx_s3009 Qs3009 hs3009
        have b3011 := bi_90 Is3009
        refine z_inc X (x := c0) (lv' := [(1, .int (Int32.ofInt (c0 + 1))), (0, .ref (A 179)), (2, .int (Int32.ofInt x3010))]) rfl (by decide) (List.Mem.tail _ (List.Mem.head _)) (fun _ h => h) (z_goto X (t := 2) rfl rfl (WS_pq [1, 0] (lv' := [(0, .ref (A 179)), (1, .int (Int32.ofInt (c0 + 1)))]) rfl ?_))
        have QO3012 : ∀ j : Nat, j < 12 → (j : Int) < (c0 + 1) → NQ1 s3009 j := fun j hj h => by
          by_cases e : (j : Int) < c0
          · exact Qs3009.1 j hj e
          · have ej : j = (c0 : Int).toNat := by omega
            rw [ej]
            exact ⟨Qs3009.2.1, Qs3009.2.2.1, fun i hi => Qs3009.2.2.2 i hi (by omega)⟩
        exact ih _ (c0 + 1) Is3009 Fs3009 JRLx_s3009 QO3012 (by first | exact ⟨oq_54f49eb5 hs3009.1, oq_4dae995e hs3009.2.1 b3011.2⟩ | omega) (by first | exact qk_me hm (by decide) (oq_b575e8c1 hs3009.2.1 b3011.2) | omega) kx
  refine z_const X rfl (z_store_n X (lv' := [(1, .int (Int32.ofInt 0)), (0, .ref (A 179))]) rfl (by decide) (fun _ h => h) (WS_pq [1, 0] (lv' := [(0, .ref (A 179)), (1, .int (Int32.ofInt 0))]) rfl (L2 ((12 - 0 : Int).toNat + 1) s 0 I F jRLx (fun j _ h => absurd h (by omega)) (by first | exact ⟨by decide, by decide⟩ | omega) (Nat.lt_succ_self _) ?_)))
  intro s2 x3 Is2 Fs2 JRLx_s2 Qs2 hs2
  have b4 := bi_90 Is2
  have JNQ_s2 : NQ s2 := fun j hj h => Qs2 j hj (by omega)
  exact w_vret X.1 q hRt (ax_d X (show cdA 223 93 = some (.return_, 1, 0, 0, 0) from rfl)) (Nat.zero_le _) (Nat.zero_le _) ⟨_, rfl, Is2, Fs2, JRLx_s2, JNQ_s2, rfl, trivial⟩
theorem k_asTold (G : GX l s0 D tys a0 dT) (I : Bd s) (jRLx : RLx s) {x : Int} (p0 : 0 ≤ x ∧ x ≤ 23) : CT l s0 D A dT 222 (rmN 222) [.ref (A 179), .int (Int32.ofInt x)] s (fun o t => Bd t ∧ Fm [] [202, 204, 205, 206, 207, 208, 209, 210, 211, 212, 213, 214, 215, 216, 217, 218, 219, 220, 221, 222, 223, 224, 225, 226, 227, 203] s t ∧ RLx t ∧ NQ t ∧ o = .inl none ∧ (True)) := by
  refine ct_of G (by decide) (Nat.le_of_ble_eq_true rfl) (fun k X E hRt hXt q => ?_)
  show WS k 0 [(0, .ref (A 179)), (1, .int (Int32.ofInt x))] [] _ 0 0
  have F : Fm [] [202, 204, 205, 206, 207, 208, 209, 210, 211, 212, 213, 214, 215, 216, 217, 218, 219, 220, 221, 222, 223, 224, 225, 226, 227, 203] s s := fm_rf _ _ s
  refine z_aload_n X (x := A 179) rfl (List.Mem.head _) (zcV_v2 X E 179 (As := []) (st := []) rfl rfl rfl rfl (k_waysAsTold G I jRLx ) rfl (Nat.le_of_ble_eq_true rfl) (fun s1 Is1 Fs1 JRLx_s1 JNQ_s1 hps1 => ?_))
  have Gs1 := fm_tq F Fs1 rfl rfl
  have JRLx_s1 : RLx s1 := RLx_fm Fs1 (by decide) jRLx
  refine z_aload_n X (x := A 179) rfl (List.Mem.head _) (z_load_n X (x := x) rfl (List.Mem.tail _ (List.Mem.head _)) (zcV_v0 X E 179 (As := [.int (Int32.ofInt x)]) (st := []) rfl rfl rfl rfl (k_numbersIn G Is1 (by first | exact ⟨p0.1, p0.2⟩ | omega)) rfl (Nat.le_of_ble_eq_true rfl) (fun s3 Is3 Fs3 hps3 => ?_)))
  have Gs3 := fm_tq Gs1 Fs3 rfl rfl
  have JRLx_s3 : RLx s3 := RLx_fm Fs3 (by decide) JRLx_s1
  have JNQ_s3 : NQ s3 := NQ_fm Fs3 (by decide) JNQ_s1
  exact w_vret X.1 q hRt (ax_d X (show cdA 222 9 = some (.return_, 1, 0, 0, 0) from rfl)) (Nat.zero_le _) (Nat.zero_le _) ⟨_, rfl, Is3, Gs3, JRLx_s3, JNQ_s3, rfl, trivial⟩
theorem k_goes (G : GX l s0 D tys a0 dT) (I : Bd s) {x y : Int} (p0 : 0 ≤ x ∧ x ≤ 11) (p1 : 0 ≤ y ∧ y < iC s 202 (x : Int).toNat) : CT l s0 D A dT 226 (rmN 226) [.ref (A 179), .int (Int32.ofInt x), .int (Int32.ofInt y)] s (fun o t => Bd t ∧ Fm [] [] s t ∧ ∃ e, o = .inl (some (.int (Int32.ofInt e))) ∧ rng e ∧ (0 ≤ e ∧ e ≤ 6)) := by
  refine ct_of G (by decide) (Nat.le_of_ble_eq_true rfl) (fun k X E hRt hXt q => ?_)
  show WS k 0 [(0, .ref (A 179)), (1, .int (Int32.ofInt x)), (2, .int (Int32.ofInt y))] [] _ 0 0
  have F : Fm [] [] s s := fm_rf _ _ s
  refine z_aload_n X (x := A 179) rfl (List.Mem.head _) (s_getR X 179 rfl (c518_ok rfl) rfl rfl (z_load_n X (x := x) rfl (List.Mem.tail _ (List.Mem.head _)) (z_ald X 228 rfl (c518_ok rfl) rfl (by first | exact p0.1 | omega) (show x < 12 by first | exact oq_0ddfcfee p0.2 | omega) (cbig_ok rfl) ?_)))
  have b1 := bc_202 I (show (x).toNat < 12 by first | exact oq_9c5fa447 p0.2 | omega)
  refine z_const X rfl (z_icmp_ne X (t := 15) rfl rfl (rng_to _) (by decide) (fun g2 => ?_) (fun g2 => ?_))
  ·
    refine z_load_n X (x := y) rfl (List.Mem.tail _ (List.Mem.tail _ (List.Mem.head _))) (z_aload_n X (x := A 179) rfl (List.Mem.head _) (s_getR X 179 rfl (c518_ok rfl) rfl rfl (z_load_n X (x := x) rfl (List.Mem.tail _ (List.Mem.head _)) (z_ald X 228 rfl (c518_ok rfl) rfl (by first | exact p0.1 | omega) (show x < 12 by first | exact oq_0ddfcfee p0.2 | omega) (cbig_ok rfl) ?_))))
    have b3 := bc_202 I (show (x).toNat < 12 by first | exact oq_9c5fa447 p0.2 | omega)
    refine z_const X rfl (z_sub X rfl (z_icmp_ne X (t := 51) rfl rfl ⟨by first | exact oq_fa4e5087 p1.1 | omega, by first | exact oq_cd47680f p1.2 b3.2 | omega⟩ ⟨by first | exact oq_c1e961c7 b3.1 | omega, by first | exact oq_0332e1ab b3.2 | omega⟩ (fun g4 => ?_) (fun g4 => ?_)))
    ·
      refine z_aload_n X (x := A 179) rfl (List.Mem.head _) (s_getR X 179 rfl (c518_ok rfl) rfl rfl (z_load_n X (x := x) rfl (List.Mem.tail _ (List.Mem.head _)) (z_aald X rw_230 rfl (by first | exact p0.1 | omega) (show x < 12 by first | exact oq_0ddfcfee p0.2 | omega) (by decide) (z_load_n X (x := y) rfl (List.Mem.tail _ (List.Mem.tail _ (List.Mem.head _))) (z_ald2 X rw_230 rfl (show (x : Int).toNat < 12 by first | exact oq_9c5fa447 p0.2 | omega) (by first | exact p1.1 | omega) (show y < 24 by first | exact oq_8ff7beb9 p1.2 b3.2 | omega) (by decide) ?_)))))
      have b5 : (0 : Int) ≤ (iC s (204 + (x : Int).toNat) (y : Int).toNat) ∧ (iC s (204 + (x : Int).toNat) (y : Int).toNat) ≤ 127 := rw_bd rw_230 I (show (x : Int).toNat < 12 by first | exact oq_9c5fa447 p0.2 | omega) (show (y : Int).toNat < 24 by first | exact oq_9e668fc9 p1.2 b3.2 | omega)
      refine z_aload_n X (x := A 179) rfl (List.Mem.head _) (s_getR X 179 rfl (c518_ok rfl) rfl rfl (z_load_n X (x := x) rfl (List.Mem.tail _ (List.Mem.head _)) (z_aald X rw_230 rfl (by first | exact p0.1 | omega) (show x < 12 by first | exact oq_0ddfcfee p0.2 | omega) (by decide) (z_load_n X (x := y) rfl (List.Mem.tail _ (List.Mem.tail _ (List.Mem.head _))) (z_const X rfl (z_add X rfl (z_ald2 X rw_230 rfl (show (x : Int).toNat < 12 by first | exact oq_9c5fa447 p0.2 | omega) (by first | exact oq_54f49eb5 p1.1 | omega) (show (y + 1) < 24 by first | exact oq_0152e793 g4 b3.2 p1.2 | omega) (by decide) ?_)))))))
      have b6 : (0 : Int) ≤ (iC s (204 + (x : Int).toNat) ((y + 1) : Int).toNat) ∧ (iC s (204 + (x : Int).toNat) ((y + 1) : Int).toNat) ≤ 127 := rw_bd rw_230 I (show (x : Int).toNat < 12 by first | exact oq_9c5fa447 p0.2 | omega) (show ((y + 1) : Int).toNat < 24 by first | exact oq_fa8c9353 g4 b3.2 p1.2 | omega)
      refine zcS_i0 X E (As := [.int (Int32.ofInt (iC s (204 + (x : Int).toNat) (y : Int).toNat)), .int (Int32.ofInt (iC s (204 + (x : Int).toNat) ((y + 1) : Int).toNat))]) (st := []) rfl rfl (k_stepOf G I (by first | exact ⟨b5.1, b5.2⟩ | omega) (by first | exact ⟨b6.1, b6.2⟩ | omega)) rfl (Nat.le_of_ble_eq_true rfl) (fun s7 e8 Is7 Fs7 hrs7 hps7 => ?_)
      have Gs7 := fm_tq F Fs7 rfl rfl
      exact w_iret X.1 q hRt rfl (ax_d X (show cdA 226 72 = some (.ireturn, 1, 0, 0, 0) from rfl)) (Nat.zero_le _) (Nat.zero_le _) ⟨_, rfl, Is7, Gs7, e8, rfl, hrs7, by first | exact ⟨hps7.1, oq_b982df86 hps7.2⟩ | omega⟩
    ·
      refine z_aload_n X (x := A 179) rfl (List.Mem.head _) (s_getR X 179 rfl (c518_ok rfl) rfl rfl (z_load_n X (x := x) rfl (List.Mem.tail _ (List.Mem.head _)) (z_aald X rw_230 rfl (by first | exact p0.1 | omega) (show x < 12 by first | exact oq_0ddfcfee p0.2 | omega) (by decide) (z_load_n X (x := y) rfl (List.Mem.tail _ (List.Mem.tail _ (List.Mem.head _))) (z_const X rfl (z_sub X rfl (z_ald2 X rw_230 rfl (show (x : Int).toNat < 12 by first | exact oq_9c5fa447 p0.2 | omega) (by first | exact oq_35f9a344 g4 g2 p1.1 | omega) (show (y - 1) < 24 by first | exact oq_514020d0 g4 b3.2 | omega) (by decide) ?_)))))))
      have b9 : (0 : Int) ≤ (iC s (204 + (x : Int).toNat) ((y - 1) : Int).toNat) ∧ (iC s (204 + (x : Int).toNat) ((y - 1) : Int).toNat) ≤ 127 := rw_bd rw_230 I (show (x : Int).toNat < 12 by first | exact oq_9c5fa447 p0.2 | omega) (show ((y - 1) : Int).toNat < 24 by first | exact oq_4b444e5a g4 b3.2 | omega)
      refine z_aload_n X (x := A 179) rfl (List.Mem.head _) (s_getR X 179 rfl (c518_ok rfl) rfl rfl (z_load_n X (x := x) rfl (List.Mem.tail _ (List.Mem.head _)) (z_aald X rw_230 rfl (by first | exact p0.1 | omega) (show x < 12 by first | exact oq_0ddfcfee p0.2 | omega) (by decide) (z_load_n X (x := y) rfl (List.Mem.tail _ (List.Mem.tail _ (List.Mem.head _))) (z_ald2 X rw_230 rfl (show (x : Int).toNat < 12 by first | exact oq_9c5fa447 p0.2 | omega) (by first | exact p1.1 | omega) (show y < 24 by first | exact oq_9cfd8ba8 g4 b3.2 | omega) (by decide) ?_)))))
      have b10 : (0 : Int) ≤ (iC s (204 + (x : Int).toNat) (y : Int).toNat) ∧ (iC s (204 + (x : Int).toNat) (y : Int).toNat) ≤ 127 := rw_bd rw_230 I (show (x : Int).toNat < 12 by first | exact oq_9c5fa447 p0.2 | omega) (show (y : Int).toNat < 24 by first | exact oq_bfe9ed15 g4 b3.2 | omega)
      refine zcS_i0 X E (As := [.int (Int32.ofInt (iC s (204 + (x : Int).toNat) ((y - 1) : Int).toNat)), .int (Int32.ofInt (iC s (204 + (x : Int).toNat) (y : Int).toNat))]) (st := []) rfl rfl (k_stepOf G I (by first | exact ⟨b9.1, b9.2⟩ | omega) (by first | exact ⟨b10.1, b10.2⟩ | omega)) rfl (Nat.le_of_ble_eq_true rfl) (fun s11 e12 Is11 Fs11 hrs11 hps11 => ?_)
      have Gs11 := fm_tq F Fs11 rfl rfl
      refine z_goto X (t := 72) rfl rfl ?_
      exact w_iret X.1 q hRt rfl (ax_d X (show cdA 226 72 = some (.ireturn, 1, 0, 0, 0) from rfl)) (Nat.zero_le _) (Nat.zero_le _) ⟨_, rfl, Is11, Gs11, e12, rfl, hrs11, by first | exact ⟨hps11.1, oq_b982df86 hps11.2⟩ | omega⟩
  ·
    refine z_bipush X rfl (z_goto X (t := 72) rfl rfl ?_)
    exact w_iret X.1 q hRt rfl (ax_d X (show cdA 226 72 = some (.ireturn, 1, 0, 0, 0) from rfl)) (Nat.zero_le _) (Nat.zero_le _) ⟨_, rfl, I, F, 6, rfl, (by decide), by first | exact ⟨by decide, by decide⟩ | omega⟩
end M40
end
section
/-! Determined runs: more -/
theorem hti_g {T : TT} {Is : List Nat} {q0 : Nat} (h : ∀ q ∈ Is, T.1 q) : ∀ q ∈ q0 :: Is, (TI T q0).1 q := fun q hq => (List.mem_cons.mp hq).elim (fun e => Or.inl e) (fun e => Or.inr (h q e))
theorem hta_g {T : TT} {Ar : List Nat} {a0 : Nat} {n : Int} (h : ∀ a ∈ Ar, ∀ j, j < (bA a).2.2 → T.2 a j) (hn : ((bA a0).2.2 : Int) ≤ n) : ∀ a ∈ a0 :: Ar, ∀ j, j < (bA a).2.2 → (TU T a0 n).2 a j := fun a ha j hj => (List.mem_cons.mp ha).elim (fun e => Or.inl ⟨e, by subst e; omega⟩) (fun e => Or.inr (h a e j hj))
theorem MB_mono {l : Launch} {s0 : State} {D : va_G} {y : MethodName} {wd : Cond} {rm : Room} {vals : List Value} {ws : va_W} {K K' : mb_O → va_W → Prop} (h : MB l s0 D y wd rm vals ws K) (hk : ∀ o ws', K o ws' → K' o ws') : MB l s0 D y wd rm vals ws K' := by
  intro p e h1 h2 h3 s m args below hf ha hP hK
  obtain ⟨n, o, a1, a2, a3, a4⟩ := h p e h1 h2 h3 s m args below hf ha hP hK
  refine ⟨n, o, a1, a2, a3, ?_⟩
  rcases a4 with ⟨⟨v, ws', e1, k1, r⟩, r2⟩ | ⟨q, e1, E, ce, L, ⟨ws', k1, r⟩, r2⟩
  · exact Or.inl ⟨⟨v, ws', e1, hk _ _ k1, r⟩, r2⟩
  · exact Or.inr ⟨q, e1, E, ce, L, ⟨ws', hk _ _ k1, r⟩, r2⟩
/-- all is agreed -/
def TA : TT := (fun _ => True, fun _ _ => True)
section DT
variable {l : Launch} {s0 : State} {D : va_G} {A : Nat → Nat} {dT : Nat → ClassId} {mn : Nat} {rm : Room} {L M : List Nat} {To T : TT} {Q : mb_O → PS → Prop} {pc : Nat} {lv : List (Nat × Value)} {st : List Value} {g : PS}
theorem d_callT {idx cn : Nat} {z : Int} {As : List Value} {rm' : Room} {L' M' : List Nat} {T1 : TT} {Q1 : mb_O → PS → Prop} (h : cdA mn pc = some (.invokestatic idx, 3, cn, 1, z)) (hn : mAr (miB cn) = As.length) (hM : CD l s0 D A dT cn rm' L' M' T T1 As g Q1) (hc : rm'.cells = 0 ∧ rm'.slots = 0) (hr : rm'.frames + 1 ≤ rm.frames ∧ 8 + (mNL (miB cn) + 11) + rm'.locals ≤ rm.locals) (hw : (st.map fun v => v.category).sum ≤ 8) (hL : ∀ q ∈ L', q ∈ L) (hM2 : ∀ q ∈ M', q ∈ M)
    (hE : ∀ E g1, ¬ Q1 (.inr E) g1) (d : ∀ v g1, Q1 (.inl v) g1 → DS l s0 D A dT mn rm L M To Q T1 (pc + 3) lv (v.toList ++ st) g1) : DS l s0 D A dT mn rm L M To Q T pc lv (As.reverse ++ st) g := d_callS (b := 0) h hn hM hc hr hw hL hM2 hE d
end DT
end
section
/-! Determined: the small ones -/
section M41
variable {l : Launch} {s0 : State} {D : va_G} {tys : List (ClassId × FieldType)} {a0 : Array Value} {A : Nat → Nat} {dT : Nat → ClassId} {s : PS}
set_option maxHeartbeats 16000000 in
theorem d_in (G : GX l s0 D tys a0 dT) (I : Bd s) {x y z : Int} (p0 : rng x) (p1 : rng y) (p2 : rng z) {T : TT} (hti : ∀ q ∈ ([] : List Nat), T.1 q) (hta : ∀ a ∈ ([] : List Nat), ∀ j, j < (bA a).2.2 → T.2 a j) : CD l s0 D A dT 188 (rmN 188) [] [] T (T) [.int (Int32.ofInt x), .int (Int32.ofInt y), .int (Int32.ofInt z)] s (fun o t => Bd t ∧ Fm [] [] s t ∧ ∃ e, o = .inl (some (.int (Int32.ofInt e))) ∧ rng e ∧ ((e = 1 ∧ y ≤ x ∧ x ≤ z) ∨ (e = 0 ∧ (x < y ∨ z < x)))) := by
  refine cd_of G (by decide) (Nat.le_of_ble_eq_true rfl) (fun Q hQ => ?_)
  have I0 := I
  show DS l s0 D A dT 188 (rmN 188) [] [] (T) Q (T) 0 [(0, .int (Int32.ofInt x)), (1, .int (Int32.ofInt y)), (2, .int (Int32.ofInt z))] [] s
  have F : Fm [] [] s s := fm_rf _ _ s
  refine d_lift (fun k ws X h => z_load_n X (x := x) rfl (List.Mem.head _) h) (d_lift (fun k ws X h => z_load_n X (x := y) rfl (List.Mem.tail _ (List.Mem.head _)) h) ?_)
  have N1 : ∀ e2 : Int, (((x < y) ∧ e2 = 0) ∨ ((y ≤ x) ∧ (z < x) ∧ e2 = 0) ∨ ((y ≤ x) ∧ (x ≤ z) ∧ e2 = 1)) → DS l s0 D A dT 188 (rmN 188) [] [] (T) Q (T) 15 [(0, .int (Int32.ofInt x)), (1, .int (Int32.ofInt y)), (2, .int (Int32.ofInt z))] [.int (Int32.ofInt e2)] s := by
    intro e2 he2
    have re2 : 0 ≤ e2 ∧ e2 ≤ 1 := by first | (clear he2; omega) | omega
    exact d_iret rfl (nar_ret (by first | exact oq_31e518ae re2.2 re2.1 | omega)) (Or.inr rfl) rfl (fun _ h => h) (hQ _ _ ⟨I, F, e2, rfl, ⟨by first | exact oq_fa4e5087 re2.1 | omega, by first | exact oq_22e1e6b0 re2.2 | omega⟩, by first | exact oq_eb048f71 re2.2 re2.1 he2 | omega⟩)
  refine d_br (bo_lt _ _) bx_lt (fun k ws X h1 h2 => z_icmp_lt X (t := 14) rfl (by decide) ⟨by first | exact p0.1 | omega, by first | exact p0.2 | omega⟩ ⟨by first | exact p1.1 | omega, by first | exact p1.2 | omega⟩ h1 h2) (fun g3 => ?_) (fun g3 => ?_)
  ·
    exact d_lift (fun k ws X h => z_const X rfl h) (N1 _ (Or.inl ⟨g3, rfl⟩))
  ·
    refine d_lift (fun k ws X h => z_load_n X (x := x) rfl (List.Mem.head _) h) (d_lift (fun k ws X h => z_load_n X (x := z) rfl (List.Mem.tail _ (List.Mem.tail _ (List.Mem.head _))) h) (d_br (bo_gt _ _) bx_gt (fun k ws X h1 h2 => z_icmp_gt X (t := 14) rfl (by decide) ⟨by first | exact p0.1 | omega, by first | exact p0.2 | omega⟩ ⟨by first | exact p2.1 | omega, by first | exact p2.2 | omega⟩ h1 h2) (fun g4 => ?_) (fun g4 => ?_)))
    ·
      exact d_lift (fun k ws X h => z_const X rfl h) (N1 _ (Or.inr (Or.inl ⟨g3, g4, rfl⟩)))
    ·
      exact d_lift (fun k ws X h => z_const X rfl h) (d_lift (fun k ws X h => z_goto X (t := 15) rfl (by decide) h) (N1 _ (Or.inr (Or.inr (⟨g3, g4, rfl⟩)))))
set_option maxHeartbeats 16000000 in
theorem d_isDigit (G : GX l s0 D tys a0 dT) (I : Bd s) {x : Int} (p0 : rng x) {T : TT} (hti : ∀ q ∈ ([] : List Nat), T.1 q) (hta : ∀ a ∈ ([] : List Nat), ∀ j, j < (bA a).2.2 → T.2 a j) : CD l s0 D A dT 195 (rmN 195) [] [] T (T) [.int (Int32.ofInt x)] s (fun o t => Bd t ∧ Fm [] [] s t ∧ ∃ e, o = .inl (some (.int (Int32.ofInt e))) ∧ rng e ∧ ((e = 1 ∧ 48 ≤ x ∧ x ≤ 57) ∨ (e = 0 ∧ (x < 48 ∨ 57 < x)))) := by
  refine cd_of G (by decide) (Nat.le_of_ble_eq_true rfl) (fun Q hQ => ?_)
  have I0 := I
  show DS l s0 D A dT 195 (rmN 195) [] [] (T) Q (T) 0 [(0, .int (Int32.ofInt x))] [] s
  have F : Fm [] [] s s := fm_rf _ _ s
  refine d_lift (fun k ws X h => z_load_n X (x := x) rfl (List.Mem.head _) h) (d_lift (fun k ws X h => z_bipush X rfl h) ?_)
  have N1 : ∀ e2 : Int, (((x < 48) ∧ e2 = 0) ∨ ((48 ≤ x) ∧ (57 < x) ∧ e2 = 0) ∨ ((48 ≤ x) ∧ (x ≤ 57) ∧ e2 = 1)) → DS l s0 D A dT 195 (rmN 195) [] [] (T) Q (T) 17 [(0, .int (Int32.ofInt x))] [.int (Int32.ofInt e2)] s := by
    intro e2 he2
    have re2 : 0 ≤ e2 ∧ e2 ≤ 1 := by first | (clear he2; omega) | omega
    exact d_iret rfl (nar_ret (by first | exact oq_31e518ae re2.2 re2.1 | omega)) (Or.inr rfl) rfl (fun _ h => h) (hQ _ _ ⟨I, F, e2, rfl, ⟨by first | exact oq_fa4e5087 re2.1 | omega, by first | exact oq_22e1e6b0 re2.2 | omega⟩, by first | exact oq_08c8a296 re2.2 re2.1 he2 | omega⟩)
  refine d_br (bo_lt _ _) bx_lt (fun k ws X h1 h2 => z_icmp_lt X (t := 16) rfl (by decide) ⟨by first | exact p0.1 | omega, by first | exact p0.2 | omega⟩ (by decide) h1 h2) (fun g3 => ?_) (fun g3 => ?_)
  ·
    exact d_lift (fun k ws X h => z_const X rfl h) (N1 _ (Or.inl ⟨g3, rfl⟩))
  ·
    refine d_lift (fun k ws X h => z_load_n X (x := x) rfl (List.Mem.head _) h) (d_lift (fun k ws X h => z_bipush X rfl h) (d_br (bo_gt _ _) bx_gt (fun k ws X h1 h2 => z_icmp_gt X (t := 16) rfl (by decide) ⟨by first | exact p0.1 | omega, by first | exact p0.2 | omega⟩ (by decide) h1 h2) (fun g4 => ?_) (fun g4 => ?_)))
    ·
      exact d_lift (fun k ws X h => z_const X rfl h) (N1 _ (Or.inr (Or.inl ⟨g3, g4, rfl⟩)))
    ·
      exact d_lift (fun k ws X h => z_const X rfl h) (d_lift (fun k ws X h => z_goto X (t := 17) rfl (by decide) h) (N1 _ (Or.inr (Or.inr (⟨g3, g4, rfl⟩)))))
set_option maxHeartbeats 16000000 in
theorem d_word (G : GX l s0 D tys a0 dT) (I : Bd s) {x1 x2 x3 x4 x5 x6 : Int} (p0 : 1 ≤ x1 ∧ x1 ≤ 27) (p1 : 0 ≤ x2 ∧ x2 ≤ 27) (p2 : 0 ≤ x3 ∧ x3 ≤ 27) (p3 : 0 ≤ x4 ∧ x4 ≤ 27) (p4 : 0 ≤ x5 ∧ x5 ≤ 27) (p5 : 0 ≤ x6 ∧ x6 ≤ 27) {T : TT} (hti : ∀ q ∈ ([] : List Nat), T.1 q) (hta : ∀ a ∈ ([] : List Nat), ∀ j, j < (bA a).2.2 → T.2 a j) : CD l s0 D A dT 202 (rmN 202) [] [] T (T) [.int (Int32.ofInt x1), .int (Int32.ofInt x2), .int (Int32.ofInt x3), .int (Int32.ofInt x4), .int (Int32.ofInt x5), .int (Int32.ofInt x6)] s (fun o t => Bd t ∧ Fm [] [] s t ∧ ∃ e, o = .inl (some (.int (Int32.ofInt e))) ∧ rng e ∧ (1 ≤ e)) := by
  refine cd_of G (by decide) (Nat.le_of_ble_eq_true rfl) (fun Q hQ => ?_)
  have I0 := I
  show DS l s0 D A dT 202 (rmN 202) [] [] (T) Q (T) 0 [(0, .int (Int32.ofInt x1)), (1, .int (Int32.ofInt x2)), (2, .int (Int32.ofInt x3)), (3, .int (Int32.ofInt x4)), (4, .int (Int32.ofInt x5)), (5, .int (Int32.ofInt x6))] [] s
  have F : Fm [] [] s s := fm_rf _ _ s
  refine d_lift (fun k ws X h => z_bipush X rfl h) (d_lift (fun k ws X h => z_load_n X (x := x1) rfl (List.Mem.head _) h) (d_lift (fun k ws X h => z_mul X rfl h) (d_lift (fun k ws X h => z_load_n X (x := x2) rfl (List.Mem.tail _ (List.Mem.head _)) h) (d_lift (fun k ws X h => z_add X rfl h) (d_lift (fun k ws X h => z_store X (lv' := [(6, .int (Int32.ofInt ((27 * x1) + x2))), (0, .int (Int32.ofInt x1)), (1, .int (Int32.ofInt x2)), (2, .int (Int32.ofInt x3)), (3, .int (Int32.ofInt x4)), (4, .int (Int32.ofInt x5)), (5, .int (Int32.ofInt x6))]) rfl (by decide) (fun _ h => h) h) (d_lift (fun k ws X h => z_load_n X (x := x3) rfl (List.Mem.tail _ (List.Mem.tail _ (List.Mem.tail _ (List.Mem.head _)))) h) ?_))))))
  have N1 : ∀ e2 : Int, (((x3 ≠ 0) ∧ e2 = ((27 * ((27 * x1) + x2)) + x3)) ∨ ((x3 = 0) ∧ e2 = ((27 * x1) + x2))) → DS l s0 D A dT 202 (rmN 202) [] [] (T) Q (T) 24 [(6, .int (Int32.ofInt ((27 * x1) + x2))), (0, .int (Int32.ofInt x1)), (1, .int (Int32.ofInt x2)), (2, .int (Int32.ofInt x3)), (3, .int (Int32.ofInt x4)), (4, .int (Int32.ofInt x5)), (5, .int (Int32.ofInt x6))] [.int (Int32.ofInt e2)] s := by
    intro e2 he2
    refine d_lift (fun k ws X h => z_store X (lv' := [(6, .int (Int32.ofInt e2)), (0, .int (Int32.ofInt x1)), (1, .int (Int32.ofInt x2)), (2, .int (Int32.ofInt x3)), (3, .int (Int32.ofInt x4)), (4, .int (Int32.ofInt x5)), (5, .int (Int32.ofInt x6))]) rfl (by decide) (fun _ h => h) h) (d_lift (fun k ws X h => z_load_n X (x := x4) rfl (List.Mem.tail _ (List.Mem.tail _ (List.Mem.tail _ (List.Mem.tail _ (List.Mem.head _))))) h) ?_)
    have N3 : ∀ e4 : Int, (((x4 ≠ 0) ∧ e4 = ((27 * e2) + x4)) ∨ ((x4 = 0) ∧ e4 = e2)) → DS l s0 D A dT 202 (rmN 202) [] [] (T) Q (T) 42 [(6, .int (Int32.ofInt e2)), (0, .int (Int32.ofInt x1)), (1, .int (Int32.ofInt x2)), (2, .int (Int32.ofInt x3)), (3, .int (Int32.ofInt x4)), (4, .int (Int32.ofInt x5)), (5, .int (Int32.ofInt x6))] [.int (Int32.ofInt e4)] s := by
      intro e4 he4
      refine d_lift (fun k ws X h => z_store X (lv' := [(6, .int (Int32.ofInt e4)), (0, .int (Int32.ofInt x1)), (1, .int (Int32.ofInt x2)), (2, .int (Int32.ofInt x3)), (3, .int (Int32.ofInt x4)), (4, .int (Int32.ofInt x5)), (5, .int (Int32.ofInt x6))]) rfl (by decide) (fun _ h => h) h) (d_lift (fun k ws X h => z_load X (x := x5) rfl (List.Mem.tail _ (List.Mem.tail _ (List.Mem.tail _ (List.Mem.tail _ (List.Mem.tail _ (List.Mem.head _)))))) h) ?_)
      have N5 : ∀ e6 : Int, (((x5 ≠ 0) ∧ e6 = ((27 * e4) + x5)) ∨ ((x5 = 0) ∧ e6 = e4)) → DS l s0 D A dT 202 (rmN 202) [] [] (T) Q (T) 62 [(6, .int (Int32.ofInt e4)), (0, .int (Int32.ofInt x1)), (1, .int (Int32.ofInt x2)), (2, .int (Int32.ofInt x3)), (3, .int (Int32.ofInt x4)), (4, .int (Int32.ofInt x5)), (5, .int (Int32.ofInt x6))] [.int (Int32.ofInt e6)] s := by
        intro e6 he6
        refine d_lift (fun k ws X h => z_store X (lv' := [(6, .int (Int32.ofInt e6)), (0, .int (Int32.ofInt x1)), (1, .int (Int32.ofInt x2)), (2, .int (Int32.ofInt x3)), (3, .int (Int32.ofInt x4)), (4, .int (Int32.ofInt x5)), (5, .int (Int32.ofInt x6))]) rfl (by decide) (fun _ h => h) h) (d_lift (fun k ws X h => z_load X (x := x6) rfl (List.Mem.tail _ (List.Mem.tail _ (List.Mem.tail _ (List.Mem.tail _ (List.Mem.tail _ (List.Mem.tail _ (List.Mem.head _))))))) h) ?_)
        have N7 : ∀ e8 : Int, (((x6 ≠ 0) ∧ e8 = ((27 * e6) + x6)) ∨ ((x6 = 0) ∧ e8 = e6)) → DS l s0 D A dT 202 (rmN 202) [] [] (T) Q (T) 82 [(6, .int (Int32.ofInt e6)), (0, .int (Int32.ofInt x1)), (1, .int (Int32.ofInt x2)), (2, .int (Int32.ofInt x3)), (3, .int (Int32.ofInt x4)), (4, .int (Int32.ofInt x5)), (5, .int (Int32.ofInt x6))] [.int (Int32.ofInt e8)] s := by
          intro e8 he8
          exact d_iret rfl rfl (Or.inl rfl) rfl (fun _ h => h) (hQ _ _ ⟨I, F, e8, rfl, ⟨by first | exact oq_ecd050b7 he8 he6 he4 he2 p5.1 p4.1 p3.1 p2.1 p1.1 p0.1 | omega, by first | exact oq_5f3f93de he8 he6 he4 he2 p5.2 p4.2 p3.2 p2.2 p1.2 p0.2 | omega⟩, by first | exact oq_66594a1b he8 he6 he4 he2 p5.1 p4.1 p3.1 p2.1 p1.1 p0.1 | omega⟩)
        refine d_br (bo_ne _ _) bx_ne (fun k ws X h1 h2 => z_if_ne X (t := 74) rfl (by decide) ⟨by first | exact oq_fa4e5087 p5.1 | omega, by first | exact oq_e977c44f p5.2 | omega⟩ h1 h2) (fun g9 => ?_) (fun g9 => ?_)
        ·
          exact d_lift (fun k ws X h => z_bipush X rfl h) (d_lift (fun k ws X h => z_load X (x := e6) rfl (List.Mem.head _) h) (d_lift (fun k ws X h => z_mul X rfl h) (d_lift (fun k ws X h => z_load X (x := x6) rfl (List.Mem.tail _ (List.Mem.tail _ (List.Mem.tail _ (List.Mem.tail _ (List.Mem.tail _ (List.Mem.tail _ (List.Mem.head _))))))) h) (d_lift (fun k ws X h => z_add X rfl h) (N7 _ (Or.inl ⟨g9, rfl⟩))))))
        ·
          exact d_lift (fun k ws X h => z_load X (x := e6) rfl (List.Mem.head _) h) (d_lift (fun k ws X h => z_goto X (t := 82) rfl (by decide) h) (N7 _ (Or.inr (⟨g9, rfl⟩))))
      refine d_br (bo_ne _ _) bx_ne (fun k ws X h1 h2 => z_if_ne X (t := 54) rfl (by decide) ⟨by first | exact oq_fa4e5087 p4.1 | omega, by first | exact oq_e977c44f p4.2 | omega⟩ h1 h2) (fun g10 => ?_) (fun g10 => ?_)
      ·
        exact d_lift (fun k ws X h => z_bipush X rfl h) (d_lift (fun k ws X h => z_load X (x := e4) rfl (List.Mem.head _) h) (d_lift (fun k ws X h => z_mul X rfl h) (d_lift (fun k ws X h => z_load X (x := x5) rfl (List.Mem.tail _ (List.Mem.tail _ (List.Mem.tail _ (List.Mem.tail _ (List.Mem.tail _ (List.Mem.head _)))))) h) (d_lift (fun k ws X h => z_add X rfl h) (N5 _ (Or.inl ⟨g10, rfl⟩))))))
      ·
        exact d_lift (fun k ws X h => z_load X (x := e4) rfl (List.Mem.head _) h) (d_lift (fun k ws X h => z_goto X (t := 62) rfl (by decide) h) (N5 _ (Or.inr (⟨g10, rfl⟩))))
    refine d_br (bo_ne _ _) bx_ne (fun k ws X h1 h2 => z_if_ne X (t := 35) rfl (by decide) ⟨by first | exact oq_fa4e5087 p3.1 | omega, by first | exact oq_e977c44f p3.2 | omega⟩ h1 h2) (fun g11 => ?_) (fun g11 => ?_)
    ·
      exact d_lift (fun k ws X h => z_bipush X rfl h) (d_lift (fun k ws X h => z_load X (x := e2) rfl (List.Mem.head _) h) (d_lift (fun k ws X h => z_mul X rfl h) (d_lift (fun k ws X h => z_load_n X (x := x4) rfl (List.Mem.tail _ (List.Mem.tail _ (List.Mem.tail _ (List.Mem.tail _ (List.Mem.head _))))) h) (d_lift (fun k ws X h => z_add X rfl h) (N3 _ (Or.inl ⟨g11, rfl⟩))))))
    ·
      exact d_lift (fun k ws X h => z_load X (x := e2) rfl (List.Mem.head _) h) (d_lift (fun k ws X h => z_goto X (t := 42) rfl (by decide) h) (N3 _ (Or.inr (⟨g11, rfl⟩))))
  refine d_br (bo_ne _ _) bx_ne (fun k ws X h1 h2 => z_if_ne X (t := 17) rfl (by decide) ⟨by first | exact oq_fa4e5087 p2.1 | omega, by first | exact oq_e977c44f p2.2 | omega⟩ h1 h2) (fun g12 => ?_) (fun g12 => ?_)
  ·
    exact d_lift (fun k ws X h => z_bipush X rfl h) (d_lift (fun k ws X h => z_load X (x := ((27 * x1) + x2)) rfl (List.Mem.head _) h) (d_lift (fun k ws X h => z_mul X rfl h) (d_lift (fun k ws X h => z_load_n X (x := x3) rfl (List.Mem.tail _ (List.Mem.tail _ (List.Mem.tail _ (List.Mem.head _)))) h) (d_lift (fun k ws X h => z_add X rfl h) (N1 _ (Or.inl ⟨g12, rfl⟩))))))
  ·
    exact d_lift (fun k ws X h => z_load X (x := ((27 * x1) + x2)) rfl (List.Mem.head _) h) (d_lift (fun k ws X h => z_goto X (t := 24) rfl (by decide) h) (N1 _ (Or.inr (⟨g12, rfl⟩))))
set_option maxHeartbeats 16000000 in
theorem d_stepOf (G : GX l s0 D tys a0 dT) (I : Bd s) {x y : Int} (p0 : 0 ≤ x ∧ x ≤ 127) (p1 : 0 ≤ y ∧ y ≤ 127) {T : TT} (hti : ∀ q ∈ ([] : List Nat), T.1 q) (hta : ∀ a ∈ ([] : List Nat), ∀ j, j < (bA a).2.2 → T.2 a j) : CD l s0 D A dT 225 (rmN 225) [] [] T (T) [.int (Int32.ofInt x), .int (Int32.ofInt y)] s (fun o t => Bd t ∧ Fm [] [] s t ∧ ∃ e, o = .inl (some (.int (Int32.ofInt e))) ∧ rng e ∧ (0 ≤ e ∧ e ≤ 5)) := by
  refine cd_of G (by decide) (Nat.le_of_ble_eq_true rfl) (fun Q hQ => ?_)
  have I0 := I
  show DS l s0 D A dT 225 (rmN 225) [] [] (T) Q (T) 0 [(0, .int (Int32.ofInt x)), (1, .int (Int32.ofInt y))] [] s
  have F : Fm [] [] s s := fm_rf _ _ s
  refine d_lift (fun k ws X h => z_load_n X (x := y) rfl (List.Mem.tail _ (List.Mem.head _)) h) (d_lift (fun k ws X h => z_load_n X (x := x) rfl (List.Mem.head _) h) (d_lift (fun k ws X h => z_sub X rfl h) (d_lift (fun k ws X h => z_const X rfl h) ?_)))
  have N1 : ∀ e2 : Int, (0 ≤ e2 ∧ e2 ≤ 5) → DS l s0 D A dT 225 (rmN 225) [] [] (T) Q (T) 59 [(0, .int (Int32.ofInt x)), (1, .int (Int32.ofInt y))] [.int (Int32.ofInt e2)] s := by
    intro e2 he2
    exact d_iret rfl rfl (Or.inl rfl) rfl (fun _ h => h) (hQ _ _ ⟨I, F, e2, rfl, ⟨by first | exact oq_fa4e5087 he2.1 | omega, by first | exact oq_a3dd55e5 he2.2 | omega⟩, by first | exact ⟨he2.1, he2.2⟩ | omega⟩)
  refine d_br (bo_ne _ _) bx_ne (fun k ws X h1 h2 => z_icmp_ne X (t := 11) rfl (by decide) ⟨by first | exact oq_449d3e35 p1.1 p0.2 | omega, by first | exact oq_ad754bc3 p1.2 p0.1 | omega⟩ (by decide) h1 h2) (fun g3 => ?_) (fun g3 => ?_)
  ·
    refine d_lift (fun k ws X h => z_load_n X (x := y) rfl (List.Mem.tail _ (List.Mem.head _)) h) (d_lift (fun k ws X h => z_load_n X (x := x) rfl (List.Mem.head _) h) (d_lift (fun k ws X h => z_sub X rfl h) (d_lift (fun k ws X h => z_const X rfl h) (d_br (bo_ne _ _) bx_ne (fun k ws X h1 h2 => z_icmp_ne X (t := 22) rfl (by decide) ⟨by first | exact oq_449d3e35 p1.1 p0.2 | omega, by first | exact oq_ad754bc3 p1.2 p0.1 | omega⟩ (by decide) h1 h2) (fun g4 => ?_) (fun g4 => ?_)))))
    ·
      refine d_lift (fun k ws X h => z_load_n X (x := y) rfl (List.Mem.tail _ (List.Mem.head _)) h) (d_lift (fun k ws X h => z_load_n X (x := x) rfl (List.Mem.head _) h) (d_lift (fun k ws X h => z_sub X rfl h) (d_lift (fun k ws X h => z_bipush X rfl h) (d_br (bo_ne _ _) bx_ne (fun k ws X h1 h2 => z_icmp_ne X (t := 34) rfl (by decide) ⟨by first | exact oq_449d3e35 p1.1 p0.2 | omega, by first | exact oq_ad754bc3 p1.2 p0.1 | omega⟩ (by decide) h1 h2) (fun g5 => ?_) (fun g5 => ?_)))))
      ·
        refine d_lift (fun k ws X h => z_load_n X (x := y) rfl (List.Mem.tail _ (List.Mem.head _)) h) (d_lift (fun k ws X h => z_load_n X (x := x) rfl (List.Mem.head _) h) (d_lift (fun k ws X h => z_sub X rfl h) (d_lift (fun k ws X h => z_bipush X rfl h) (d_br (bo_ne _ _) bx_ne (fun k ws X h1 h2 => z_icmp_ne X (t := 46) rfl (by decide) ⟨by first | exact oq_449d3e35 p1.1 p0.2 | omega, by first | exact oq_ad754bc3 p1.2 p0.1 | omega⟩ (by decide) h1 h2) (fun g6 => ?_) (fun g6 => ?_)))))
        ·
          refine d_lift (fun k ws X h => z_load_n X (x := y) rfl (List.Mem.tail _ (List.Mem.head _)) h) (d_lift (fun k ws X h => z_load_n X (x := x) rfl (List.Mem.head _) h) (d_lift (fun k ws X h => z_sub X rfl h) (d_lift (fun k ws X h => z_bipush X rfl h) (d_br (bo_ne _ _) bx_ne (fun k ws X h1 h2 => z_icmp_ne X (t := 58) rfl (by decide) ⟨by first | exact oq_449d3e35 p1.1 p0.2 | omega, by first | exact oq_ad754bc3 p1.2 p0.1 | omega⟩ (by decide) h1 h2) (fun g7 => ?_) (fun g7 => ?_)))))
          ·
            refine d_lift (fun k ws X h => z_const X rfl h) ?_
            exact N1 _ (by first | (clear g7 g6 g5 g4 g3; omega) | (clear g6 g5 g4 g3; omega) | omega)
          ·
            refine d_lift (fun k ws X h => z_const X rfl h) (d_lift (fun k ws X h => z_goto X (t := 59) rfl (by decide) h) ?_)
            exact N1 _ (by first | (clear g6 g5 g4 g3; omega) | (clear g5 g4 g3; omega) | omega)
        ·
          refine d_lift (fun k ws X h => z_const X rfl h) (d_lift (fun k ws X h => z_goto X (t := 59) rfl (by decide) h) ?_)
          exact N1 _ (by first | (clear g5 g4 g3; omega) | (clear g4 g3; omega) | omega)
      ·
        refine d_lift (fun k ws X h => z_const X rfl h) (d_lift (fun k ws X h => z_goto X (t := 59) rfl (by decide) h) ?_)
        exact N1 _ (by first | (clear g4 g3; omega) | (clear g3; omega) | omega)
    ·
      refine d_lift (fun k ws X h => z_const X rfl h) (d_lift (fun k ws X h => z_goto X (t := 59) rfl (by decide) h) ?_)
      exact N1 _ (by first | (clear g3; omega) | omega)
  ·
    refine d_lift (fun k ws X h => z_const X rfl h) (d_lift (fun k ws X h => z_goto X (t := 59) rfl (by decide) h) ?_)
    exact N1 _ (by omega)
set_option maxHeartbeats 16000000 in
theorem d_byteAt (G : GX l s0 D tys a0 dT) (I : Bd s) {x : Int} (p0 : 0 ≤ x ∧ x ≤ 2147483647) {T : TT} (hti : ∀ q ∈ ([75, 81] : List Nat), T.1 q) (hta : ∀ a ∈ ([157, 158] : List Nat), ∀ j, j < (bA a).2.2 → T.2 a j) : CD l s0 D A dT 192 (rmN 192) [] [] T (T) [.ref (A 179), .int (Int32.ofInt x)] s (fun o t => Bd t ∧ Fm [] [] s t ∧ ∃ e, o = .inl (some (.int (Int32.ofInt e))) ∧ rng e ∧ ((iI s 75 ≤ x ∧ e = -1) ∨ (x < iI s 75 ∧ 0 ≤ e ∧ e ≤ 255))) := by
  refine cd_of G (by decide) (Nat.le_of_ble_eq_true rfl) (fun Q hQ => ?_)
  have I0 := I
  show DS l s0 D A dT 192 (rmN 192) [] [] (T) Q (T) 0 [(0, .ref (A 179)), (1, .int (Int32.ofInt x))] [] s
  have F : Fm [] [] s s := fm_rf _ _ s
  have b1 := bi_75 I
  refine d_lift (fun k ws X h => z_load_n X (x := x) rfl (List.Mem.tail _ (List.Mem.head _)) h) (d_lift (fun k ws X h => z_aload_n X (x := A 179) rfl (List.Mem.head _) h) (d_getI 179 rfl (by decide) rfl rfl (hti 75 (by decide)) ?_))
  have b2 := bi_75 I
  have N3 : ∀ e4 : Int, (((x < (iI s 75)) ∧ ((0 : Int) ≤ iI s 81 ∧ iI s 81 ≤ 1) ∧ ((iI s 81) ≠ 0) ∧ ((0 : Int) ≤ iC s 158 (x).toNat ∧ iC s 158 (x).toNat ≤ 255) ∧ e4 = (iC s 158 (x).toNat)) ∨ ((x < (iI s 75)) ∧ ((0 : Int) ≤ iI s 81 ∧ iI s 81 ≤ 1) ∧ ((iI s 81) = 0) ∧ ((0 : Int) ≤ iC s 157 (x).toNat ∧ iC s 157 (x).toNat ≤ 255) ∧ e4 = (iC s 157 (x).toNat)) ∨ (((iI s 75) ≤ x) ∧ e4 = (-1))) → DS l s0 D A dT 192 (rmN 192) [] [] (T) Q (T) 34 [(0, .ref (A 179)), (1, .int (Int32.ofInt x))] [.int (Int32.ofInt e4)] s := by
    intro e4 he4
    exact d_iret rfl rfl (Or.inl rfl) rfl (fun _ h => h) (hQ _ _ ⟨I, F, e4, rfl, ⟨by first | exact oq_e9a2ed3a he4 | omega, by first | exact oq_bae66a67 he4 | omega⟩, by first | exact oq_736808e1 he4 | omega⟩)
  refine d_br (bo_lt _ _) bx_lt (fun k ws X h1 h2 => z_icmp_lt X (t := 12) rfl (by decide) ⟨by first | exact oq_fa4e5087 p0.1 | omega, by first | exact p0.2 | omega⟩ (rng_to _) h1 h2) (fun g5 => ?_) (fun g5 => ?_)
  ·
    refine d_lift (fun k ws X h => z_aload_n X (x := A 179) rfl (List.Mem.head _) h) (d_getI 179 rfl (by decide) rfl rfl (hti 81 (by decide)) ?_)
    have b6 := bi_81 I
    refine d_br (bo_ne _ _) bx_ne (fun k ws X h1 h2 => z_if_ne X (t := 28) rfl (by decide) (rng_to _) h1 h2) (fun g7 => ?_) (fun g7 => ?_)
    ·
      refine d_lift (fun k ws X h => z_aload_n X (x := A 179) rfl (List.Mem.head _) h) (d_liftS (fun k s X h => s_getR X 179 rfl (by decide) rfl rfl h) (d_lift (fun k ws X h => z_load_n X (x := x) rfl (List.Mem.tail _ (List.Mem.head _)) h) (d_ald 181 rfl (by decide) rfl (by first | exact p0.1 | omega) (show x < 200 by first | exact oq_6fca3d72 g5 b2.2 | omega) (by decide) (hta 158 (by decide) _ (show (x).toNat < 200 by first | exact oq_b70289d5 g5 b2.2 | omega)) ?_)))
      have b8 := bc_158 I (show (x).toNat < 200 by first | exact oq_b70289d5 g5 b2.2 | omega)
      exact N3 _ (Or.inl ⟨g5, b6, g7, b8, rfl⟩)
    ·
      refine d_lift (fun k ws X h => z_aload_n X (x := A 179) rfl (List.Mem.head _) h) (d_liftS (fun k s X h => s_getR X 179 rfl (by decide) rfl rfl h) (d_lift (fun k ws X h => z_load_n X (x := x) rfl (List.Mem.tail _ (List.Mem.head _)) h) (d_ald 180 rfl (by decide) rfl (by first | exact p0.1 | omega) (show x < 200 by first | exact oq_6fca3d72 g5 b2.2 | omega) (by decide) (hta 157 (by decide) _ (show (x).toNat < 200 by first | exact oq_b70289d5 g5 b2.2 | omega)) ?_)))
      have b9 := bc_157 I (show (x).toNat < 200 by first | exact oq_b70289d5 g5 b2.2 | omega)
      exact d_lift (fun k ws X h => z_goto X (t := 34) rfl (by decide) h) (N3 _ (Or.inr (Or.inl ⟨g5, b6, g7, b9, rfl⟩)))
  ·
    exact d_lift (fun k ws X h => z_const X rfl h) (d_lift (fun k ws X h => z_goto X (t := 34) rfl (by decide) h) (N3 _ (Or.inr (Or.inr (⟨g5, rfl⟩)))))
set_option maxHeartbeats 16000000 in
theorem d_wrong (G : GX l s0 D tys a0 dT) (I : Bd s) {x y : Int} (p0 : 1 ≤ x ∧ x ≤ 9) (p1 : -1 ≤ y ∧ y ≤ 400) {T : TT} (hti : ∀ q ∈ ([79] : List Nat), T.1 q) (hta : ∀ a ∈ ([] : List Nat), ∀ j, j < (bA a).2.2 → T.2 a j) : CD l s0 D A dT 194 (rmN 194) [79, 80] [] T (T) [.ref (A 179), .int (Int32.ofInt x), .int (Int32.ofInt y)] s (fun o t => Bd t ∧ Fm [79, 80] [] s t ∧ o = .inl none ∧ (iI t 79 ≠ 0)) := by
  refine cd_of G (by decide) (Nat.le_of_ble_eq_true rfl) (fun Q hQ => ?_)
  have I0 := I
  show DS l s0 D A dT 194 (rmN 194) [79, 80] [] (T) Q (T) 0 [(0, .ref (A 179)), (1, .int (Int32.ofInt x)), (2, .int (Int32.ofInt y))] [] s
  have F : Fm [79, 80] [] s s := fm_rf _ _ s
  have b1 := bi_79 I
  refine d_lift (fun k ws X h => z_aload_n X (x := A 179) rfl (List.Mem.head _) h) (d_getI 179 rfl (by decide) rfl rfl (hti 79 (by decide)) ?_)
  have b2 := bi_79 I
  refine d_br (bo_ne _ _) bx_ne (fun k ws X h1 h2 => z_if_ne X (t := 17) rfl (by decide) (rng_to _) h1 h2) (fun g3 => ?_) (fun g3 => ?_)
  ·
    exact d_vret rfl rfl (fun _ h => h) (hQ _ _ ⟨I, F, rfl, by first | exact g3 | omega⟩)
  ·
    refine d_lift (fun k ws X h => z_aload_n X (x := A 179) rfl (List.Mem.head _) h) (d_lift (fun k ws X h => z_load_n X (x := x) rfl (List.Mem.tail _ (List.Mem.head _)) h) (d_putI 179 rfl (by decide) rfl rfl (by decide) rfl rfl rfl (show 79 ∈ _ by decide) (show (0 : Int) ≤ x ∧ x ≤ 9 by first | exact ⟨oq_2a6e3b50 p0.1, p0.2⟩ | omega) ⟨by first | exact oq_9462313e p0.1 | omega, by first | exact oq_f7e7bb0e p0.2 | omega⟩ (d_mono (T' := T) (fun _ h => Or.inr h) (fun _ _ h => h) (ds_gen (fun s4 hs4 => ?_)))))
    have Is4 : Bd s4 := eqB hs4 (bd_I I (show (0 : Int) ≤ x ∧ x ≤ 9 by first | exact ⟨oq_2a6e3b50 p0.1, p0.2⟩ | omega) ⟨by first | exact oq_9462313e p0.1 | omega, by first | exact oq_f7e7bb0e p0.2 | omega⟩)
    have Fs4 := eqF hs4 (fm_I F (inl_ok (a := 79) rfl))
    have vs4 : iI s4 79 = x := eqI hs4 (iI_u ⟨by first | exact oq_9462313e p0.1 | omega, by first | exact oq_f7e7bb0e p0.2 | omega⟩)
    refine d_lift (fun k ws X h => z_aload_n X (x := A 179) rfl (List.Mem.head _) h) (d_lift (fun k ws X h => z_load_n X (x := y) rfl (List.Mem.tail _ (List.Mem.tail _ (List.Mem.head _))) h) (d_putI 179 rfl (by decide) rfl rfl (by decide) rfl rfl rfl (show 80 ∈ _ by decide) (show ((-1) : Int) ≤ y ∧ y ≤ 400 by first | exact ⟨p1.1, p1.2⟩ | omega) ⟨by first | exact oq_97ee2c2a p1.1 | omega, by first | exact oq_5a8480eb p1.2 | omega⟩ (d_mono (T' := T) (fun _ h => Or.inr h) (fun _ _ h => h) (ds_gen (fun s5 hs5 => ?_)))))
    have Is5 : Bd s5 := eqB hs5 (bd_I Is4 (show ((-1) : Int) ≤ y ∧ y ≤ 400 by first | exact ⟨p1.1, p1.2⟩ | omega) ⟨by first | exact oq_97ee2c2a p1.1 | omega, by first | exact oq_5a8480eb p1.2 | omega⟩)
    have Fs5 := eqF hs5 (fm_I Fs4 (inl_ok (a := 80) rfl))
    have vs5 : iI s5 80 = y := eqI hs5 (iI_u ⟨by first | exact oq_97ee2c2a p1.1 | omega, by first | exact oq_5a8480eb p1.2 | omega⟩)
    have ws5_79 : iI s5 79 = iI s4 79 := eqI hs5 rfl
    exact d_vret rfl rfl (fun _ h => h) (hQ _ _ ⟨Is5, Fs5, rfl, by first | exact oq_ed8779e6 ws5_79 vs4 p0.1 | omega⟩)
end M41
end
