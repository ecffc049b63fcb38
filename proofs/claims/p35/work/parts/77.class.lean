theorem oq_adfddeb6 {a0 a1 : Int} (h0 : a0 ≤ 5) (h1 : a1 < 24) : ((a0 * 24) + a1) < 144 := by omega
theorem oq_fda8ee8e {a0 a1 : Int} (h0 : a0 ≤ 5) (h1 : a1 < 24) : (((a0 * 24) + a1) : Int).toNat < 144 := by omega
theorem oq_ceab338e {a0 a1 : Int} (h0 : a0 ≤ 5) (h1 : a1 ≤ 23) : ((a0 * 24) + a1) < 144 := by omega
theorem oq_ab7254e1 {a0 a1 : Int} (h0 : a0 ≤ 5) (h1 : a1 ≤ 23) : (((a0 * 24) + a1) : Int).toNat < 144 := by omega
theorem oq_dd3f4b9e {a0 a1 : Int} (h0 : a0 ≤ (7 - a1)) : (a0 + 1) ≤ (7 - (a1 + (-1))) := by omega
theorem oq_a11a259b {a0 : Int} (h0 : a0 ≤ 9999) : a0 ≤ 2147483647 := by omega
theorem oq_a8f61181 {a0 a1 a2 : Int} (h0 : 0 ≤ a0) (h1 : 0 ≤ a1) (h2 : 0 ≤ a2) : (-2147483648) ≤ ((((a0 * 6) + a1) * 24) + a2) := by omega
theorem oq_9baaab2f {a0 a1 a2 : Int} (h0 : a0 ≤ 23) (h1 : a1 ≤ 5) (h2 : a2 ≤ 23) : ((((a0 * 6) + a1) * 24) + a2) ≤ 2147483647 := by omega
theorem oq_eb1958c2 {a0 : Int} (h0 : a0 ≤ 22) : (a0 + 1) ≤ 23 := by omega
theorem oq_5885e3c8 {a0 : Int} (h0 : a0 ≠ 23) (h1 : a0 ≤ 23) : (a0 + 1) ≤ 23 := by omega
theorem oq_6fe820e0 {a0 a1 a2 a3 : Int} (h0 : a0 = (((((a1 + 1) * 6) + a2) * 24) + a3)) (h1 : 0 ≤ a1) (h2 : 0 ≤ a2) (h3 : 0 ≤ a3) : 0 ≤ a0 := by omega
theorem oq_f7ee2828 {a0 : Int} (h0 : a0 ≠ 23) (h1 : a0 ≤ 23) : (a0 + 1) < 24 := by omega
theorem oq_129091dc {a0 : Int} (h0 : a0 ≠ 23) (h1 : a0 ≤ 23) : ((a0 + 1) : Int).toNat < 24 := by omega
theorem oq_f0f9908c {a0 : Int} (h0 : a0 ≠ 23) (h1 : a0 ≤ 23) (h2 : 0 ≤ a0) : (0 ≤ a0 ∧ a0 ≤ 22) := by omega
theorem oq_27118732 {a0 a1 a2 : Int} (h0 : a0 = a1) (h1 : a2 = a0) : a2 = a1 := by omega
theorem oq_748293e5 {a0 : Int} (h0 : a0 ≤ 23) : (a0 - 1) < 24 := by omega
theorem oq_15f19a7c {a0 : Int} (h0 : a0 ≤ 23) : ((a0 - 1) : Int).toNat < 24 := by omega
theorem oq_943835ba {a0 a1 : Int} (h0 : a0 ≤ a1) (h1 : a1 ≤ 23) : a0 ≤ 23 := by omega
theorem oq_73ace697 {a0 a1 a2 : Int} (h0 : a0 = ((((0 * 6) + a1) * 24) + a2)) (h1 : 0 ≤ a1) (h2 : 0 ≤ a2) : 0 ≤ a0 := by omega
theorem oq_90ac6b8d {a0 a1 a2 a3 : Int} (h0 : a0 = ((((a1 * 6) + a2) * 24) + a3)) (h1 : 0 ≤ a1) (h2 : 0 ≤ a2) (h3 : 0 ≤ a3) : 0 ≤ a0 := by omega
/-! The class: plans -/
section M77
variable {l : Launch} {s0 : State} {D : va_G} {tys : List (ClassId × FieldType)} {a0 : Array Value} {A : Nat → Nat} {dT : Nat → ClassId} {s : PS}
set_option maxRecDepth 4000 in
theorem c4_placeOf (G : GX l s0 D tys a0 dT) (I : Bd s) {x y z : Int} (p0 : 0 ≤ x ∧ x ≤ 23) (p1 : 0 ≤ y ∧ y ≤ 5) (p2 : 0 ≤ z ∧ z ≤ 23) : CT l s0 D A dT 49 (rmN 49) [.int (Int32.ofInt x), .int (Int32.ofInt y), .int (Int32.ofInt z)] s (fun o t => s = t ∧ ∃ e, o = .inl (some (.int (Int32.ofInt e))) ∧ rng e ∧ (e = (x * 6 + y) * 24 + z)) := by
  refine ct_ofX G (by decide) (Nat.le_of_ble_eq_true rfl) (fun k X E ET hRt hXt q => ?_)
  show WS k 0 [(0, .int (Int32.ofInt x)), (1, .int (Int32.ofInt y)), (2, .int (Int32.ofInt z))] [] _ 0 0
  have F : Fm [] [] s s := fm_rf _ _ s
  refine z_load_n X (x := x) rfl (List.Mem.head _) (z_bipush X rfl (z_mul X rfl (z_load_n X (x := y) rfl (List.Mem.tail _ (List.Mem.head _)) (z_add X rfl (z_bipush X rfl (z_mul X rfl (z_load_n X (x := z) rfl (List.Mem.tail _ (List.Mem.tail _ (List.Mem.head _))) (z_add X rfl ?_))))))))
  exact w_iret X.1 q hRt rfl (ax_d X (show cdA 49 11 = some (.ireturn, 1, 0, 0, 0) from rfl)) (Nat.zero_le _) (Nat.zero_le _) ⟨_, rfl, rfl, ((((x * 6) + y) * 24) + z), rfl, ⟨by first | exact oq_a8f61181 p0.1 p1.1 p2.1 | omega, by first | exact oq_9baaab2f p0.2 p1.2 p2.2 | omega⟩, by omega⟩
end M77
