/-! The model: beside, moves of a way -/
/-- what is told so far is a row of cells -/
def TD (s : PS) : Prop := ∀ j : Nat, (j : Int) < iI s 91 → 0 ≤ iC s 165 j ∧ iC s 165 j ≤ 127
theorem TD_fm {L M : List Nat} {s t : PS} (F : Fm L M s t) (h : 91 ∉ L ∧ 165 ∉ M) (j : TD s) : TD t := fun i hi => by
  have e1 : iI t 91 = iI s 91 := fm_i F h.1
  have e2 : iC t 165 i = iC s 165 i := congrArg Int32.toInt (congrFun (F.2.1 _ h.2) i)
  rw [e1] at hi
  rw [e2]
  exact j i hi
theorem TD_up {s : PS} {x n : Int} (j : TD s) (hn : iI s 91 = n) (h0 : 0 ≤ n ∧ n ≤ 23) (hx : 0 ≤ x ∧ x ≤ 127) : TD (uI (uC s 165 n.toNat (Int32.ofInt x)) 91 (Int32.ofInt (n + 1))) := fun i hi => by
  have e1 : iI (uI (uC s 165 n.toNat (Int32.ofInt x)) 91 (Int32.ofInt (n + 1))) 91 = n + 1 := iI_u ⟨by omega, by omega⟩
  rw [e1] at hi
  show 0 ≤ iC (uC s 165 n.toNat (Int32.ofInt x)) 165 i ∧ iC (uC s 165 n.toNat (Int32.ofInt x)) 165 i ≤ 127
  by_cases q : i = n.toNat
  · rw [q, iC_u ⟨by omega, by omega⟩]; exact hx
  · rw [iC_n q]; exact j i (by omega)
section M35
variable {l : Launch} {s0 : State} {D : va_G} {tys : List (ClassId × FieldType)} {a0 : Array Value} {A : Nat → Nat} {dT : Nat → ClassId} {s : PS}
theorem k_beside (G : GX l s0 D tys a0 dT) (I : Bd s) {x y : Int} (p0 : 0 ≤ x ∧ x ≤ 127) (p1 : 0 ≤ y ∧ y ≤ 5) : CT l s0 D A dT 190 (rmN 190) [.int (Int32.ofInt x), .int (Int32.ofInt y)] s (fun o t => Bd t ∧ Fm [] [] s t ∧ ∃ e, o = .inl (some (.int (Int32.ofInt e))) ∧ rng e ∧ (((y = 0 ∧ ((x % 8 = 7 ∧ e = -1) ∨ (¬ x % 8 = 7 ∧ e = x + 1))) ∨ (y = 1 ∧ ((x % 8 = 0 ∧ e = -1) ∨ (¬ x % 8 = 0 ∧ e = x - 1))) ∨ (y = 2 ∧ ((x / 8 % 8 = 7 ∧ e = -1) ∨ (¬ x / 8 % 8 = 7 ∧ e = x + 8))) ∨ (y = 3 ∧ ((x / 8 % 8 = 0 ∧ e = -1) ∨ (¬ x / 8 % 8 = 0 ∧ e = x - 8))) ∨ (y = 4 ∧ ((x / 64 = 1 ∧ e = -1) ∨ (¬ x / 64 = 1 ∧ e = x + 64))) ∨ (y = 5 ∧ ((x / 64 = 0 ∧ e = -1) ∨ (¬ x / 64 = 0 ∧ e = x - 64)))) ∧ -1 ≤ e ∧ e ≤ 127)) := by
  refine ct_of G (by decide) (Nat.le_of_ble_eq_true rfl) (fun k X E hRt hXt q => ?_)
  show WS k 0 [(0, .int (Int32.ofInt x)), (1, .int (Int32.ofInt y))] [] _ 0 0
  have F : Fm [] [] s s := fm_rf _ _ s
  refine z_load_n X (x := x) (show cdA 190 0 = some (.iload_n 0, 1, 0, 0, 0) from rfl) (List.Mem.head _) ?_
  refine z_bipush X (show cdA 190 1 = some (.bipush 8, 2, 0, 0, 8) from rfl) ?_
  refine z_mod X (show cdA 190 3 = some (.irem, 1, 0, 0, 0) from rfl) (by omega) ⟨by omega, by omega⟩ (by omega) ⟨by omega, by omega⟩ ?_
  refine z_store_n X (lv' := [(2, .int (Int32.ofInt (x % 8))), (0, .int (Int32.ofInt x)), (1, .int (Int32.ofInt y))]) (show cdA 190 4 = some (.istore_n 2, 1, 0, 0, 0) from rfl) (by decide) (fun _ h => h) ?_
  refine z_load_n X (x := x) (show cdA 190 5 = some (.iload_n 0, 1, 0, 0, 0) from rfl) (List.Mem.tail _ (List.Mem.head _)) ?_
  refine z_bipush X (show cdA 190 6 = some (.bipush 8, 2, 0, 0, 8) from rfl) ?_
  refine z_quot X (show cdA 190 8 = some (.idiv, 1, 0, 0, 0) from rfl) (by omega) ⟨by omega, by omega⟩ (by omega) ⟨by omega, by omega⟩ ?_
  refine z_bipush X (show cdA 190 9 = some (.bipush 8, 2, 0, 0, 8) from rfl) ?_
  refine z_mod X (show cdA 190 11 = some (.irem, 1, 0, 0, 0) from rfl) (by omega) ⟨by omega, by omega⟩ (by omega) ⟨by omega, by omega⟩ ?_
  refine z_store_n X (lv' := [(3, .int (Int32.ofInt ((x / 8) % 8))), (2, .int (Int32.ofInt (x % 8))), (0, .int (Int32.ofInt x)), (1, .int (Int32.ofInt y))]) (show cdA 190 12 = some (.istore_n 3, 1, 0, 0, 0) from rfl) (by decide) (fun _ h => h) ?_
  refine z_load_n X (x := x) (show cdA 190 13 = some (.iload_n 0, 1, 0, 0, 0) from rfl) (List.Mem.tail _ (List.Mem.tail _ (List.Mem.head _))) ?_
  refine z_bipush X (show cdA 190 14 = some (.bipush 64, 2, 0, 0, 64) from rfl) ?_
  refine z_quot X (show cdA 190 16 = some (.idiv, 1, 0, 0, 0) from rfl) (by omega) ⟨by omega, by omega⟩ (by omega) ⟨by omega, by omega⟩ ?_
  refine z_store X (lv' := [(4, .int (Int32.ofInt (x / 64))), (3, .int (Int32.ofInt ((x / 8) % 8))), (2, .int (Int32.ofInt (x % 8))), (0, .int (Int32.ofInt x)), (1, .int (Int32.ofInt y))]) (show cdA 190 17 = some (.istore 4, 2, 0, 0, 0) from rfl) (by decide) (fun _ h => h) ?_
  refine z_load_n X (x := y) (show cdA 190 19 = some (.iload_n 1, 1, 0, 0, 0) from rfl) (List.Mem.tail _ (List.Mem.tail _ (List.Mem.tail _ (List.Mem.tail _ (List.Mem.head _))))) ?_
  rcases (show y = 0 ∨ y = 1 ∨ y = 2 ∨ y = 3 ∨ y = 4 ∨ y = 5 by omega) with gs | gs | gs | gs | gs | gs
  ·
    rw [gs]
    refine w_tabIn X.1 (dflt := 105) (lo := 0) (hi := 4) (offs := #[36, 50, 62, 77, 90]) (len := 36) (off := 36) (t := 56) (ax_d X (show cdA 190 20 = some (.tableswitch 105 0 4 #[36, 50, 62, 77, 90], 36, 0, 0, 0) from rfl)) (by decide) (by decide) (by decide) (by decide) ?_
    refine z_load_n X (x := (x % 8)) (show cdA 190 56 = some (.iload_n 2, 1, 0, 0, 0) from rfl) (List.Mem.tail _ (List.Mem.tail _ (List.Mem.head _))) ?_
    refine z_bipush X (show cdA 190 57 = some (.bipush 7, 2, 0, 0, 7) from rfl) ?_
    refine z_icmp_ne X (t := 66) (show cdA 190 59 = some (.if_icmp .ne 7, 3, 1, 0, 0) from rfl) (by decide) ⟨by omega, by omega⟩ ⟨by omega, by omega⟩ (fun g1 => ?_) (fun g1 => ?_)
    ·
      refine z_load_n X (x := x) (show cdA 190 66 = some (.iload_n 0, 1, 0, 0, 0) from rfl) (List.Mem.tail _ (List.Mem.tail _ (List.Mem.tail _ (List.Mem.head _)))) ?_
      refine z_const X (show cdA 190 67 = some (.iconst 1, 1, 0, 0, 0) from rfl) ?_
      refine z_add X (show cdA 190 68 = some (.iadd, 1, 0, 0, 0) from rfl) ?_
      exact w_iret X.1 q hRt rfl (ax_d X (show cdA 190 69 = some (.ireturn, 1, 0, 0, 0) from rfl)) (Nat.zero_le _) (Nat.zero_le _) ⟨_, rfl, I, F, (x + 1), rfl, ⟨by omega, by omega⟩, by omega⟩
    ·
      refine z_const X (show cdA 190 62 = some (.iconst (-1), 1, 0, 0, 0) from rfl) ?_
      refine z_goto X (t := 69) (show cdA 190 63 = some (.goto 6, 3, 0, 0, 0) from rfl) (by decide) ?_
      exact w_iret X.1 q hRt rfl (ax_d X (show cdA 190 69 = some (.ireturn, 1, 0, 0, 0) from rfl)) (Nat.zero_le _) (Nat.zero_le _) ⟨_, rfl, I, F, (-1), rfl, ⟨by omega, by omega⟩, by omega⟩
  ·
    rw [gs]
    refine w_tabIn X.1 (dflt := 105) (lo := 0) (hi := 4) (offs := #[36, 50, 62, 77, 90]) (len := 36) (off := 50) (t := 70) (ax_d X (show cdA 190 20 = some (.tableswitch 105 0 4 #[36, 50, 62, 77, 90], 36, 0, 0, 0) from rfl)) (by decide) (by decide) (by decide) (by decide) ?_
    refine z_load_n X (x := (x % 8)) (show cdA 190 70 = some (.iload_n 2, 1, 0, 0, 0) from rfl) (List.Mem.tail _ (List.Mem.tail _ (List.Mem.head _))) ?_
    refine z_if_ne X (t := 78) (show cdA 190 71 = some (.ifCond .ne 7, 3, 1, 0, 0) from rfl) (by decide) ⟨by omega, by omega⟩ (fun g2 => ?_) (fun g2 => ?_)
    ·
      refine z_load_n X (x := x) (show cdA 190 78 = some (.iload_n 0, 1, 0, 0, 0) from rfl) (List.Mem.tail _ (List.Mem.tail _ (List.Mem.tail _ (List.Mem.head _)))) ?_
      refine z_const X (show cdA 190 79 = some (.iconst 1, 1, 0, 0, 0) from rfl) ?_
      refine z_sub X (show cdA 190 80 = some (.isub, 1, 0, 0, 0) from rfl) ?_
      exact w_iret X.1 q hRt rfl (ax_d X (show cdA 190 81 = some (.ireturn, 1, 0, 0, 0) from rfl)) (Nat.zero_le _) (Nat.zero_le _) ⟨_, rfl, I, F, (x - 1), rfl, ⟨by omega, by omega⟩, by omega⟩
    ·
      refine z_const X (show cdA 190 74 = some (.iconst (-1), 1, 0, 0, 0) from rfl) ?_
      refine z_goto X (t := 81) (show cdA 190 75 = some (.goto 6, 3, 0, 0, 0) from rfl) (by decide) ?_
      exact w_iret X.1 q hRt rfl (ax_d X (show cdA 190 81 = some (.ireturn, 1, 0, 0, 0) from rfl)) (Nat.zero_le _) (Nat.zero_le _) ⟨_, rfl, I, F, (-1), rfl, ⟨by omega, by omega⟩, by omega⟩
  ·
    rw [gs]
    refine w_tabIn X.1 (dflt := 105) (lo := 0) (hi := 4) (offs := #[36, 50, 62, 77, 90]) (len := 36) (off := 62) (t := 82) (ax_d X (show cdA 190 20 = some (.tableswitch 105 0 4 #[36, 50, 62, 77, 90], 36, 0, 0, 0) from rfl)) (by decide) (by decide) (by decide) (by decide) ?_
    refine z_load_n X (x := ((x / 8) % 8)) (show cdA 190 82 = some (.iload_n 3, 1, 0, 0, 0) from rfl) (List.Mem.tail _ (List.Mem.head _)) ?_
    refine z_bipush X (show cdA 190 83 = some (.bipush 7, 2, 0, 0, 7) from rfl) ?_
    refine z_icmp_ne X (t := 92) (show cdA 190 85 = some (.if_icmp .ne 7, 3, 1, 0, 0) from rfl) (by decide) ⟨by omega, by omega⟩ ⟨by omega, by omega⟩ (fun g3 => ?_) (fun g3 => ?_)
    ·
      refine z_load_n X (x := x) (show cdA 190 92 = some (.iload_n 0, 1, 0, 0, 0) from rfl) (List.Mem.tail _ (List.Mem.tail _ (List.Mem.tail _ (List.Mem.head _)))) ?_
      refine z_bipush X (show cdA 190 93 = some (.bipush 8, 2, 0, 0, 8) from rfl) ?_
      refine z_add X (show cdA 190 95 = some (.iadd, 1, 0, 0, 0) from rfl) ?_
      exact w_iret X.1 q hRt rfl (ax_d X (show cdA 190 96 = some (.ireturn, 1, 0, 0, 0) from rfl)) (Nat.zero_le _) (Nat.zero_le _) ⟨_, rfl, I, F, (x + 8), rfl, ⟨by omega, by omega⟩, by omega⟩
    ·
      refine z_const X (show cdA 190 88 = some (.iconst (-1), 1, 0, 0, 0) from rfl) ?_
      refine z_goto X (t := 96) (show cdA 190 89 = some (.goto 7, 3, 0, 0, 0) from rfl) (by decide) ?_
      exact w_iret X.1 q hRt rfl (ax_d X (show cdA 190 96 = some (.ireturn, 1, 0, 0, 0) from rfl)) (Nat.zero_le _) (Nat.zero_le _) ⟨_, rfl, I, F, (-1), rfl, ⟨by omega, by omega⟩, by omega⟩
  ·
    rw [gs]
    refine w_tabIn X.1 (dflt := 105) (lo := 0) (hi := 4) (offs := #[36, 50, 62, 77, 90]) (len := 36) (off := 77) (t := 97) (ax_d X (show cdA 190 20 = some (.tableswitch 105 0 4 #[36, 50, 62, 77, 90], 36, 0, 0, 0) from rfl)) (by decide) (by decide) (by decide) (by decide) ?_
    refine z_load_n X (x := ((x / 8) % 8)) (show cdA 190 97 = some (.iload_n 3, 1, 0, 0, 0) from rfl) (List.Mem.tail _ (List.Mem.head _)) ?_
    refine z_if_ne X (t := 105) (show cdA 190 98 = some (.ifCond .ne 7, 3, 1, 0, 0) from rfl) (by decide) ⟨by omega, by omega⟩ (fun g4 => ?_) (fun g4 => ?_)
    ·
      refine z_load_n X (x := x) (show cdA 190 105 = some (.iload_n 0, 1, 0, 0, 0) from rfl) (List.Mem.tail _ (List.Mem.tail _ (List.Mem.tail _ (List.Mem.head _)))) ?_
      refine z_bipush X (show cdA 190 106 = some (.bipush 8, 2, 0, 0, 8) from rfl) ?_
      refine z_sub X (show cdA 190 108 = some (.isub, 1, 0, 0, 0) from rfl) ?_
      exact w_iret X.1 q hRt rfl (ax_d X (show cdA 190 109 = some (.ireturn, 1, 0, 0, 0) from rfl)) (Nat.zero_le _) (Nat.zero_le _) ⟨_, rfl, I, F, (x - 8), rfl, ⟨by omega, by omega⟩, by omega⟩
    ·
      refine z_const X (show cdA 190 101 = some (.iconst (-1), 1, 0, 0, 0) from rfl) ?_
      refine z_goto X (t := 109) (show cdA 190 102 = some (.goto 7, 3, 0, 0, 0) from rfl) (by decide) ?_
      exact w_iret X.1 q hRt rfl (ax_d X (show cdA 190 109 = some (.ireturn, 1, 0, 0, 0) from rfl)) (Nat.zero_le _) (Nat.zero_le _) ⟨_, rfl, I, F, (-1), rfl, ⟨by omega, by omega⟩, by omega⟩
  ·
    rw [gs]
    refine w_tabIn X.1 (dflt := 105) (lo := 0) (hi := 4) (offs := #[36, 50, 62, 77, 90]) (len := 36) (off := 90) (t := 110) (ax_d X (show cdA 190 20 = some (.tableswitch 105 0 4 #[36, 50, 62, 77, 90], 36, 0, 0, 0) from rfl)) (by decide) (by decide) (by decide) (by decide) ?_
    refine z_load X (x := (x / 64)) (show cdA 190 110 = some (.iload 4, 2, 0, 0, 0) from rfl) (List.Mem.head _) ?_
    refine z_const X (show cdA 190 112 = some (.iconst 1, 1, 0, 0, 0) from rfl) ?_
    refine z_icmp_ne X (t := 120) (show cdA 190 113 = some (.if_icmp .ne 7, 3, 1, 0, 0) from rfl) (by decide) ⟨by omega, by omega⟩ ⟨by omega, by omega⟩ (fun g5 => ?_) (fun g5 => ?_)
    ·
      refine z_load_n X (x := x) (show cdA 190 120 = some (.iload_n 0, 1, 0, 0, 0) from rfl) (List.Mem.tail _ (List.Mem.tail _ (List.Mem.tail _ (List.Mem.head _)))) ?_
      refine z_bipush X (show cdA 190 121 = some (.bipush 64, 2, 0, 0, 64) from rfl) ?_
      refine z_add X (show cdA 190 123 = some (.iadd, 1, 0, 0, 0) from rfl) ?_
      exact w_iret X.1 q hRt rfl (ax_d X (show cdA 190 124 = some (.ireturn, 1, 0, 0, 0) from rfl)) (Nat.zero_le _) (Nat.zero_le _) ⟨_, rfl, I, F, (x + 64), rfl, ⟨by omega, by omega⟩, by omega⟩
    ·
      refine z_const X (show cdA 190 116 = some (.iconst (-1), 1, 0, 0, 0) from rfl) ?_
      refine z_goto X (t := 124) (show cdA 190 117 = some (.goto 7, 3, 0, 0, 0) from rfl) (by decide) ?_
      exact w_iret X.1 q hRt rfl (ax_d X (show cdA 190 124 = some (.ireturn, 1, 0, 0, 0) from rfl)) (Nat.zero_le _) (Nat.zero_le _) ⟨_, rfl, I, F, (-1), rfl, ⟨by omega, by omega⟩, by omega⟩
  ·
    rw [gs]
    refine w_tabOut X.1 (dflt := 105) (lo := 0) (hi := 4) (offs := #[36, 50, 62, 77, 90]) (len := 36) (t := 125) (ax_d X (show cdA 190 20 = some (.tableswitch 105 0 4 #[36, 50, 62, 77, 90], 36, 0, 0, 0) from rfl)) (by decide) (by decide) ?_
    refine z_load X (x := (x / 64)) (show cdA 190 125 = some (.iload 4, 2, 0, 0, 0) from rfl) (List.Mem.head _) ?_
    refine z_if_ne X (t := 134) (show cdA 190 127 = some (.ifCond .ne 7, 3, 1, 0, 0) from rfl) (by decide) ⟨by omega, by omega⟩ (fun g6 => ?_) (fun g6 => ?_)
    ·
      refine z_load_n X (x := x) (show cdA 190 134 = some (.iload_n 0, 1, 0, 0, 0) from rfl) (List.Mem.tail _ (List.Mem.tail _ (List.Mem.tail _ (List.Mem.head _)))) ?_
      refine z_bipush X (show cdA 190 135 = some (.bipush 64, 2, 0, 0, 64) from rfl) ?_
      refine z_sub X (show cdA 190 137 = some (.isub, 1, 0, 0, 0) from rfl) ?_
      exact w_iret X.1 q hRt rfl (ax_d X (show cdA 190 138 = some (.ireturn, 1, 0, 0, 0) from rfl)) (Nat.zero_le _) (Nat.zero_le _) ⟨_, rfl, I, F, (x - 64), rfl, ⟨by omega, by omega⟩, by omega⟩
    ·
      refine z_const X (show cdA 190 130 = some (.iconst (-1), 1, 0, 0, 0) from rfl) ?_
      refine z_goto X (t := 138) (show cdA 190 131 = some (.goto 7, 3, 0, 0, 0) from rfl) (by decide) ?_
      exact w_iret X.1 q hRt rfl (ax_d X (show cdA 190 138 = some (.ireturn, 1, 0, 0, 0) from rfl)) (Nat.zero_le _) (Nat.zero_le _) ⟨_, rfl, I, F, (-1), rfl, ⟨by omega, by omega⟩, by omega⟩
end M35
