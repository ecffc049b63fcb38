theorem oq_449d3e35 {a0 a1 : Int} (h0 : 0 ≤ a0) (h1 : a1 ≤ 127) : (-2147483648) ≤ (a0 - a1) := by omega
theorem oq_ad754bc3 {a0 a1 : Int} (h0 : a0 ≤ 127) (h1 : 0 ≤ a1) : (a0 - a1) ≤ 2147483647 := by omega
theorem oq_e977c44f {a0 : Int} (h0 : a0 ≤ 27) : a0 ≤ 2147483647 := by omega
theorem oq_1f05c366 {a0 : Int} (h0 : a0 < 24) : (a0).toNat < 24 := by omega
theorem oq_dd29f52d {a0 a1 : Int} (h0 : 0 ≤ a0) (h1 : 0 ≤ a1) : 0 ≤ (a0 + a1) := by omega
theorem oq_d1fd8eeb {a0 a1 a2 : Int} (h0 : a0 ≤ (50 * a1)) (h1 : a2 ≤ 50) : (a0 + a2) ≤ (50 * (a1 + 1)) := by omega
theorem oq_cec7cb2e {a0 : Int} (h0 : a0 < 24) : (a0 + 1) ≤ 24 := by omega
theorem oq_ffa8317e {a0 : Int} (h0 : a0 < 24) : 0 < (24 - a0) := by omega
theorem oq_fe510769 {a0 a1 : Int} (h0 : a0 ≤ (50 * a1)) (h1 : a1 ≤ 24) : a0 ≤ 2147483647 := by omega
theorem oq_552552b9 {a0 a1 : Int} (h0 : a0 ≤ (50 * a1)) (h1 : a1 ≤ 24) : a0 ≤ 1200 := by omega
theorem oq_907d7be5 {a0 : Int} (h0 : a0 ≤ 3) : a0 < 4 := by omega
theorem oq_7e1be013 {a0 : Int} (h0 : a0 ≤ 3) : (a0).toNat < 4 := by omega
theorem oq_6b149751 {a0 a1 : Int} (h0 : a0 = a1) (h1 : a1 ≤ 3) : a0 ≤ 3 := by omega
theorem oq_fb6340d3 {a0 : Int} (h0 : a0 ≤ 3) : (a0 + 1) ≤ 4 := by omega
theorem oq_45419e6e {a0 : Int} (h0 : a0 ≤ 4) : (a0 + 1) ≤ 2147483647 := by omega
theorem oq_f3f8f749 {a0 : Int} (h0 : a0 ≤ 4) : (a0 - 1) ≤ 4 := by omega
theorem oq_dc10bb6e {a0 : Int} (h0 : a0 ≤ 4) : (a0 - 1) ≤ 2147483647 := by omega
theorem oq_652a8e73 {a0 a1 : Int} (h0 : a0 = (a1 - 1)) (h1 : a1 ≤ 4) : a0 ≤ 3 := by omega
theorem oq_143762c7 {a0 a1 a2 a3 : Int} (h0 : a0 = a1) (h1 : a2 ≤ a3) (h2 : a1 = a3) : a2 ≤ a0 := by omega
theorem oq_c108a731 {a0 a1 a2 a3 a4 : Int} (h0 : a0 = (a1 + 1)) (h1 : a2 ≤ a3) (h2 : a1 = a4) (h3 : a4 = a3) : a2 ≤ a0 := by omega
theorem oq_45b593e3 {a0 a1 a2 a3 a4 : Int} (h0 : a0 = a1) (h1 : a2 = a3) (h2 : a1 = a4) (h3 : a4 = a2) : a0 = a3 := by omega
theorem oq_f72601a2 {a0 : Int} (h0 : a0 ≤ 380) : a0 ≤ 390 := by omega
theorem oq_ca54ea22 {a0 : Int} (h0 : 0 ≤ a0) : (-1) ≤ a0 := by omega
theorem oq_18969492 {a0 : Int} (h0 : a0 ≤ 7) : (a0 + 1) ≤ 8 := by omega
theorem oq_c3299dea {a0 a1 : Int} (h0 : 1 ≤ a0) (h1 : 0 ≤ a1) : 0 ≤ (a1 + a0) := by omega
theorem oq_69d89cff {a0 a1 a2 : Int} (h0 : a0 ≤ 3) (h1 : a1 = a2) (h2 : a2 ≤ 380) : (a1 + a0) ≤ 400 := by omega
theorem oq_96c994d3 {a0 a1 : Int} (h0 : 1 ≤ a0) (h1 : 0 ≤ a1) : (-2147483648) ≤ (a1 + a0) := by omega
theorem oq_99fe3e62 {a0 a1 : Int} (h0 : a0 ≤ 3) (h1 : a1 ≤ 400) : (a1 + a0) ≤ 2147483647 := by omega
theorem oq_f1381ab8 {a0 a1 a2 a3 : Int} (h0 : a0 = (a1 + a2)) (h1 : a1 = a3) : a0 = (a3 + a2) := by omega
theorem oq_4b8d46b3 {a0 a1 a2 : Int} (h0 : a0 = a1) (h1 : a1 = (a2 + 1)) : a0 = (a2 + 1) := by omega
theorem oq_7dbb59f7 {a0 a1 : Int} (h0 : a0 = a1) (h1 : a1 = 6) : (a0 + 1) ≤ 8 := by omega
theorem oq_75116c0c {a0 a1 a2 a3 : Int} (h0 : a0 ≤ 3) (h1 : a1 = a2) (h2 : a2 = a3) (h3 : a3 ≤ 380) : (a1 + a0) ≤ 400 := by omega
theorem oq_0f45dae9 {a0 a1 a2 a3 a4 : Int} (h0 : a0 = (a1 + a2)) (h1 : a3 = a4) (h2 : a1 = a3) : a0 = (a4 + a2) := by omega
theorem oq_20fce6d9 {a0 a1 a2 a3 : Int} (h0 : a0 = a1) (h1 : a1 = (a2 + 1)) (h2 : a2 = a3) : a0 = (a3 + 1) := by omega
theorem oq_2954f754 {a0 a1 a2 a3 : Int} (h0 : a0 = a1) (h1 : a1 = a2) (h2 : a3 ≤ a2) : a3 ≤ a0 := by omega
theorem oq_09a0992e {a0 a1 a2 a3 a4 a5 : Int} (h0 : a0 = (a1 + 1)) (h1 : a2 ≤ a3) (h2 : a1 = a4) (h3 : a5 = a3) (h4 : a4 = a5) : a2 ≤ a0 := by omega
theorem oq_b4d295d9 {a0 a1 a2 a3 a4 a5 : Int} (h0 : a0 = a1) (h1 : a2 = a3) (h2 : a1 = a4) (h3 : a4 = a5) (h4 : a5 = a2) : a0 = a3 := by omega
theorem oq_6bc29d15 {a0 a1 : Int} (h0 : a0 = a1) (h1 : (-2147483648) ≤ a1) : (-2147483648) ≤ a0 := by omega
theorem oq_60a194f9 {a0 a1 : Int} (h0 : a0 = a1) (h1 : a1 ≤ 2147483647) : a0 ≤ 2147483647 := by omega
theorem oq_bd4a8eb1 {a0 a1 a2 a3 a4 : Int} (h0 : a0 = a1) (h1 : a2 ≤ a3) (h2 : a1 = a4) (h3 : a4 = a3) : a2 ≤ a0 := by omega
theorem oq_d8d6a599 {a0 a1 : Int} (h0 : 0 ≤ a0) (h1 : 0 ≤ a1) : 0 ≤ (a1 + a0) := by omega
theorem oq_faec2b3d {a0 a1 : Int} (h0 : a0 ≤ 200) (h1 : a1 ≤ 400) : (a1 + a0) ≤ 2147483647 := by omega
theorem oq_0835e488 {a0 a1 : Int} (h0 : a0 ≤ 400) (h1 : a1 < 6) : (a0 + a1) ≤ 2147483647 := by omega
theorem oq_8e8d8f07 {a0 : Int} (h0 : a0 < 6) : 0 < (200 - a0) := by omega
theorem oq_b301c3bf {a0 : Int} (h0 : a0 ≤ 6) : a0 ≤ 2147483647 := by omega
theorem oq_11fe630f {a0 a1 a2 a3 a4 a5 : Int} (h0 : a0 = a1) (h1 : a1 = a2) (h2 : a2 = a3) (h3 : a3 = a4) (h4 : a5 ≤ a4) : a5 ≤ a0 := by omega
theorem oq_47978b2f {a0 a1 a2 a3 a4 : Int} (h0 : a0 = a1) (h1 : a1 = a2) (h2 : a2 = a3) (h3 : a4 ≤ a3) : a4 ≤ a0 := by omega
theorem oq_6c55e2f6 {a0 : Int} (h0 : a0 ≤ 380) : a0 ≤ 400 := by omega
theorem oq_5d668942 {a0 : Int} (h0 : a0 ≤ 380) : a0 ≤ 2147483647 := by omega
/-! The model: words and numbers of a text, marks -/
section M34
variable {l : Launch} {s0 : State} {D : va_G} {tys : List (ClassId × FieldType)} {a0 : Array Value} {A : Nat → Nat} {dT : Nat → ClassId} {s : PS}
theorem k_stepOf (G : GX l s0 D tys a0 dT) (I : Bd s) {x y : Int} (p0 : 0 ≤ x ∧ x ≤ 127) (p1 : 0 ≤ y ∧ y ≤ 127) : CT l s0 D A dT 225 (rmN 225) [.int (Int32.ofInt x), .int (Int32.ofInt y)] s (fun o t => Bd t ∧ Fm [] [] s t ∧ ∃ e, o = .inl (some (.int (Int32.ofInt e))) ∧ rng e ∧ (0 ≤ e ∧ e ≤ 5)) := by
  refine ct_of G (by decide) (Nat.le_of_ble_eq_true rfl) (fun k X E hRt hXt q => ?_)
  show WS k 0 [(0, .int (Int32.ofInt x)), (1, .int (Int32.ofInt y))] [] _ 0 0
  have F : Fm [] [] s s := fm_rf _ _ s
  refine z_load_n X (x := y) (show cdA 225 0 = some (.iload_n 1, 1, 0, 0, 0) from rfl) (List.Mem.tail _ (List.Mem.head _)) ?_
  refine z_load_n X (x := x) (show cdA 225 1 = some (.iload_n 0, 1, 0, 0, 0) from rfl) (List.Mem.head _) ?_
  refine z_sub X (show cdA 225 2 = some (.isub, 1, 0, 0, 0) from rfl) ?_
  refine z_const X (show cdA 225 3 = some (.iconst 1, 1, 0, 0, 0) from rfl) ?_
  have N1 : ∀ e2 : Int, (0 ≤ e2 ∧ e2 ≤ 5) → WS k 59 [(0, .int (Int32.ofInt x)), (1, .int (Int32.ofInt y))] [.int (Int32.ofInt e2)] (Wd A dT s) 0 0 := by
    intro e2 he2
    exact w_iret X.1 q hRt rfl (ax_d X (show cdA 225 59 = some (.ireturn, 1, 0, 0, 0) from rfl)) (Nat.zero_le _) (Nat.zero_le _) ⟨_, rfl, I, F, e2, rfl, ⟨by omega, by omega⟩, by omega⟩
  refine z_icmp_ne X (t := 11) (show cdA 225 4 = some (.if_icmp .ne 7, 3, 1, 0, 0) from rfl) (by decide) ⟨by first | exact oq_449d3e35 p1.1 p0.2 | omega, by first | exact oq_ad754bc3 p1.2 p0.1 | omega⟩ (by decide) (fun g3 => ?_) (fun g3 => ?_)
  ·
    refine z_load_n X (x := y) (show cdA 225 11 = some (.iload_n 1, 1, 0, 0, 0) from rfl) (List.Mem.tail _ (List.Mem.head _)) ?_
    refine z_load_n X (x := x) (show cdA 225 12 = some (.iload_n 0, 1, 0, 0, 0) from rfl) (List.Mem.head _) ?_
    refine z_sub X (show cdA 225 13 = some (.isub, 1, 0, 0, 0) from rfl) ?_
    refine z_const X (show cdA 225 14 = some (.iconst (-1), 1, 0, 0, 0) from rfl) ?_
    refine z_icmp_ne X (t := 22) (show cdA 225 15 = some (.if_icmp .ne 7, 3, 1, 0, 0) from rfl) (by decide) ⟨by first | exact oq_449d3e35 p1.1 p0.2 | omega, by first | exact oq_ad754bc3 p1.2 p0.1 | omega⟩ (by decide) (fun g4 => ?_) (fun g4 => ?_)
    ·
      refine z_load_n X (x := y) (show cdA 225 22 = some (.iload_n 1, 1, 0, 0, 0) from rfl) (List.Mem.tail _ (List.Mem.head _)) ?_
      refine z_load_n X (x := x) (show cdA 225 23 = some (.iload_n 0, 1, 0, 0, 0) from rfl) (List.Mem.head _) ?_
      refine z_sub X (show cdA 225 24 = some (.isub, 1, 0, 0, 0) from rfl) ?_
      refine z_bipush X (show cdA 225 25 = some (.bipush 8, 2, 0, 0, 8) from rfl) ?_
      refine z_icmp_ne X (t := 34) (show cdA 225 27 = some (.if_icmp .ne 7, 3, 1, 0, 0) from rfl) (by decide) ⟨by first | exact oq_449d3e35 p1.1 p0.2 | omega, by first | exact oq_ad754bc3 p1.2 p0.1 | omega⟩ (by decide) (fun g5 => ?_) (fun g5 => ?_)
      ·
        refine z_load_n X (x := y) (show cdA 225 34 = some (.iload_n 1, 1, 0, 0, 0) from rfl) (List.Mem.tail _ (List.Mem.head _)) ?_
        refine z_load_n X (x := x) (show cdA 225 35 = some (.iload_n 0, 1, 0, 0, 0) from rfl) (List.Mem.head _) ?_
        refine z_sub X (show cdA 225 36 = some (.isub, 1, 0, 0, 0) from rfl) ?_
        refine z_bipush X (show cdA 225 37 = some (.bipush (-8), 2, 0, 0, (-8)) from rfl) ?_
        refine z_icmp_ne X (t := 46) (show cdA 225 39 = some (.if_icmp .ne 7, 3, 1, 0, 0) from rfl) (by decide) ⟨by first | exact oq_449d3e35 p1.1 p0.2 | omega, by first | exact oq_ad754bc3 p1.2 p0.1 | omega⟩ (by decide) (fun g6 => ?_) (fun g6 => ?_)
        ·
          refine z_load_n X (x := y) (show cdA 225 46 = some (.iload_n 1, 1, 0, 0, 0) from rfl) (List.Mem.tail _ (List.Mem.head _)) ?_
          refine z_load_n X (x := x) (show cdA 225 47 = some (.iload_n 0, 1, 0, 0, 0) from rfl) (List.Mem.head _) ?_
          refine z_sub X (show cdA 225 48 = some (.isub, 1, 0, 0, 0) from rfl) ?_
          refine z_bipush X (show cdA 225 49 = some (.bipush 64, 2, 0, 0, 64) from rfl) ?_
          refine z_icmp_ne X (t := 58) (show cdA 225 51 = some (.if_icmp .ne 7, 3, 1, 0, 0) from rfl) (by decide) ⟨by first | exact oq_449d3e35 p1.1 p0.2 | omega, by first | exact oq_ad754bc3 p1.2 p0.1 | omega⟩ (by decide) (fun g7 => ?_) (fun g7 => ?_)
          ·
            refine z_const X (show cdA 225 58 = some (.iconst 5, 1, 0, 0, 0) from rfl) ?_
            exact N1 _ (by first | (clear g7 g6 g5 g4 g3; omega) | (clear g6 g5 g4 g3; omega) | omega)
          ·
            refine z_const X (show cdA 225 54 = some (.iconst 4, 1, 0, 0, 0) from rfl) ?_
            refine z_goto X (t := 59) (show cdA 225 55 = some (.goto 4, 3, 0, 0, 0) from rfl) (by decide) ?_
            exact N1 _ (by first | (clear g6 g5 g4 g3; omega) | (clear g5 g4 g3; omega) | omega)
        ·
          refine z_const X (show cdA 225 42 = some (.iconst 3, 1, 0, 0, 0) from rfl) ?_
          refine z_goto X (t := 59) (show cdA 225 43 = some (.goto 16, 3, 0, 0, 0) from rfl) (by decide) ?_
          exact N1 _ (by first | (clear g5 g4 g3; omega) | (clear g4 g3; omega) | omega)
      ·
        refine z_const X (show cdA 225 30 = some (.iconst 2, 1, 0, 0, 0) from rfl) ?_
        refine z_goto X (t := 59) (show cdA 225 31 = some (.goto 28, 3, 0, 0, 0) from rfl) (by decide) ?_
        exact N1 _ (by first | (clear g4 g3; omega) | (clear g3; omega) | omega)
    ·
      refine z_const X (show cdA 225 18 = some (.iconst 1, 1, 0, 0, 0) from rfl) ?_
      refine z_goto X (t := 59) (show cdA 225 19 = some (.goto 40, 3, 0, 0, 0) from rfl) (by decide) ?_
      exact N1 _ (by first | (clear g3; omega) | omega)
  ·
    refine z_const X (show cdA 225 7 = some (.iconst 0, 1, 0, 0, 0) from rfl) ?_
    refine z_goto X (t := 59) (show cdA 225 8 = some (.goto 51, 3, 0, 0, 0) from rfl) (by decide) ?_
    exact N1 _ (by omega)
theorem k_word (G : GX l s0 D tys a0 dT) (I : Bd s) {x1 x2 x3 x4 x5 x6 : Int} (p0 : 1 ≤ x1 ∧ x1 ≤ 27) (p1 : 0 ≤ x2 ∧ x2 ≤ 27) (p2 : 0 ≤ x3 ∧ x3 ≤ 27) (p3 : 0 ≤ x4 ∧ x4 ≤ 27) (p4 : 0 ≤ x5 ∧ x5 ≤ 27) (p5 : 0 ≤ x6 ∧ x6 ≤ 27) : CT l s0 D A dT 202 (rmN 202) [.int (Int32.ofInt x1), .int (Int32.ofInt x2), .int (Int32.ofInt x3), .int (Int32.ofInt x4), .int (Int32.ofInt x5), .int (Int32.ofInt x6)] s (fun o t => Bd t ∧ Fm [] [] s t ∧ ∃ e, o = .inl (some (.int (Int32.ofInt e))) ∧ rng e ∧ (1 ≤ e)) := by
  refine ct_of G (by decide) (Nat.le_of_ble_eq_true rfl) (fun k X E hRt hXt q => ?_)
  show WS k 0 [(0, .int (Int32.ofInt x1)), (1, .int (Int32.ofInt x2)), (2, .int (Int32.ofInt x3)), (3, .int (Int32.ofInt x4)), (4, .int (Int32.ofInt x5)), (5, .int (Int32.ofInt x6))] [] _ 0 0
  have F : Fm [] [] s s := fm_rf _ _ s
  refine z_bipush X (show cdA 202 0 = some (.bipush 27, 2, 0, 0, 27) from rfl) ?_
  refine z_load_n X (x := x1) (show cdA 202 2 = some (.iload_n 0, 1, 0, 0, 0) from rfl) (List.Mem.head _) ?_
  refine z_mul X (show cdA 202 3 = some (.imul, 1, 0, 0, 0) from rfl) ?_
  refine z_load_n X (x := x2) (show cdA 202 4 = some (.iload_n 1, 1, 0, 0, 0) from rfl) (List.Mem.tail _ (List.Mem.head _)) ?_
  refine z_add X (show cdA 202 5 = some (.iadd, 1, 0, 0, 0) from rfl) ?_
  refine z_store X (lv' := [(6, .int (Int32.ofInt ((27 * x1) + x2))), (0, .int (Int32.ofInt x1)), (1, .int (Int32.ofInt x2)), (2, .int (Int32.ofInt x3)), (3, .int (Int32.ofInt x4)), (4, .int (Int32.ofInt x5)), (5, .int (Int32.ofInt x6))]) (show cdA 202 6 = some (.istore 6, 2, 0, 0, 0) from rfl) (by decide) (fun _ h => h) ?_
  refine z_load_n X (x := x3) (show cdA 202 8 = some (.iload_n 2, 1, 0, 0, 0) from rfl) (List.Mem.tail _ (List.Mem.tail _ (List.Mem.tail _ (List.Mem.head _)))) ?_
  have N1 : ∀ e2 : Int, (((x3 ≠ 0) ∧ e2 = ((27 * ((27 * x1) + x2)) + x3)) ∨ ((x3 = 0) ∧ e2 = ((27 * x1) + x2))) → WS k 24 [(6, .int (Int32.ofInt ((27 * x1) + x2))), (0, .int (Int32.ofInt x1)), (1, .int (Int32.ofInt x2)), (2, .int (Int32.ofInt x3)), (3, .int (Int32.ofInt x4)), (4, .int (Int32.ofInt x5)), (5, .int (Int32.ofInt x6))] [.int (Int32.ofInt e2)] (Wd A dT s) 0 0 := by
    intro e2 he2
    refine z_store X (lv' := [(6, .int (Int32.ofInt e2)), (0, .int (Int32.ofInt x1)), (1, .int (Int32.ofInt x2)), (2, .int (Int32.ofInt x3)), (3, .int (Int32.ofInt x4)), (4, .int (Int32.ofInt x5)), (5, .int (Int32.ofInt x6))]) (show cdA 202 24 = some (.istore 6, 2, 0, 0, 0) from rfl) (by decide) (fun _ h => h) ?_
    refine z_load_n X (x := x4) (show cdA 202 26 = some (.iload_n 3, 1, 0, 0, 0) from rfl) (List.Mem.tail _ (List.Mem.tail _ (List.Mem.tail _ (List.Mem.tail _ (List.Mem.head _))))) ?_
    have N3 : ∀ e4 : Int, (((x4 ≠ 0) ∧ e4 = ((27 * e2) + x4)) ∨ ((x4 = 0) ∧ e4 = e2)) → WS k 42 [(6, .int (Int32.ofInt e2)), (0, .int (Int32.ofInt x1)), (1, .int (Int32.ofInt x2)), (2, .int (Int32.ofInt x3)), (3, .int (Int32.ofInt x4)), (4, .int (Int32.ofInt x5)), (5, .int (Int32.ofInt x6))] [.int (Int32.ofInt e4)] (Wd A dT s) 0 0 := by
      intro e4 he4
      refine z_store X (lv' := [(6, .int (Int32.ofInt e4)), (0, .int (Int32.ofInt x1)), (1, .int (Int32.ofInt x2)), (2, .int (Int32.ofInt x3)), (3, .int (Int32.ofInt x4)), (4, .int (Int32.ofInt x5)), (5, .int (Int32.ofInt x6))]) (show cdA 202 42 = some (.istore 6, 2, 0, 0, 0) from rfl) (by decide) (fun _ h => h) ?_
      refine z_load X (x := x5) (show cdA 202 44 = some (.iload 4, 2, 0, 0, 0) from rfl) (List.Mem.tail _ (List.Mem.tail _ (List.Mem.tail _ (List.Mem.tail _ (List.Mem.tail _ (List.Mem.head _)))))) ?_
      have N5 : ∀ e6 : Int, (((x5 ≠ 0) ∧ e6 = ((27 * e4) + x5)) ∨ ((x5 = 0) ∧ e6 = e4)) → WS k 62 [(6, .int (Int32.ofInt e4)), (0, .int (Int32.ofInt x1)), (1, .int (Int32.ofInt x2)), (2, .int (Int32.ofInt x3)), (3, .int (Int32.ofInt x4)), (4, .int (Int32.ofInt x5)), (5, .int (Int32.ofInt x6))] [.int (Int32.ofInt e6)] (Wd A dT s) 0 0 := by
        intro e6 he6
        refine z_store X (lv' := [(6, .int (Int32.ofInt e6)), (0, .int (Int32.ofInt x1)), (1, .int (Int32.ofInt x2)), (2, .int (Int32.ofInt x3)), (3, .int (Int32.ofInt x4)), (4, .int (Int32.ofInt x5)), (5, .int (Int32.ofInt x6))]) (show cdA 202 62 = some (.istore 6, 2, 0, 0, 0) from rfl) (by decide) (fun _ h => h) ?_
        refine z_load X (x := x6) (show cdA 202 64 = some (.iload 5, 2, 0, 0, 0) from rfl) (List.Mem.tail _ (List.Mem.tail _ (List.Mem.tail _ (List.Mem.tail _ (List.Mem.tail _ (List.Mem.tail _ (List.Mem.head _))))))) ?_
        have N7 : ∀ e8 : Int, (((x6 ≠ 0) ∧ e8 = ((27 * e6) + x6)) ∨ ((x6 = 0) ∧ e8 = e6)) → WS k 82 [(6, .int (Int32.ofInt e6)), (0, .int (Int32.ofInt x1)), (1, .int (Int32.ofInt x2)), (2, .int (Int32.ofInt x3)), (3, .int (Int32.ofInt x4)), (4, .int (Int32.ofInt x5)), (5, .int (Int32.ofInt x6))] [.int (Int32.ofInt e8)] (Wd A dT s) 0 0 := by
          intro e8 he8
          exact w_iret X.1 q hRt rfl (ax_d X (show cdA 202 82 = some (.ireturn, 1, 0, 0, 0) from rfl)) (Nat.zero_le _) (Nat.zero_le _) ⟨_, rfl, I, F, e8, rfl, ⟨by first | (clear he8 he6 he4 he2; omega) | (clear he6 he4 he2; omega) | omega, by first | (clear he8 he6 he4 he2; omega) | (clear he6 he4 he2; omega) | omega⟩, by first | (clear he8 he6 he4 he2; omega) | (clear he6 he4 he2; omega) | omega⟩
        refine z_if_ne X (t := 74) (show cdA 202 66 = some (.ifCond .ne 8, 3, 1, 0, 0) from rfl) (by decide) ⟨by first | exact oq_fa4e5087 p5.1 | omega, by first | exact oq_e977c44f p5.2 | omega⟩ (fun g9 => ?_) (fun g9 => ?_)
        ·
          refine z_bipush X (show cdA 202 74 = some (.bipush 27, 2, 0, 0, 27) from rfl) ?_
          refine z_load X (x := e6) (show cdA 202 76 = some (.iload 6, 2, 0, 0, 0) from rfl) (List.Mem.head _) ?_
          refine z_mul X (show cdA 202 78 = some (.imul, 1, 0, 0, 0) from rfl) ?_
          refine z_load X (x := x6) (show cdA 202 79 = some (.iload 5, 2, 0, 0, 0) from rfl) (List.Mem.tail _ (List.Mem.tail _ (List.Mem.tail _ (List.Mem.tail _ (List.Mem.tail _ (List.Mem.tail _ (List.Mem.head _))))))) ?_
          refine z_add X (show cdA 202 81 = some (.iadd, 1, 0, 0, 0) from rfl) ?_
          exact N7 _ (Or.inl ⟨g9, rfl⟩)
        ·
          refine z_load X (x := e6) (show cdA 202 69 = some (.iload 6, 2, 0, 0, 0) from rfl) (List.Mem.head _) ?_
          refine z_goto X (t := 82) (show cdA 202 71 = some (.goto 11, 3, 0, 0, 0) from rfl) (by decide) ?_
          exact N7 _ (Or.inr (⟨g9, rfl⟩))
      refine z_if_ne X (t := 54) (show cdA 202 46 = some (.ifCond .ne 8, 3, 1, 0, 0) from rfl) (by decide) ⟨by first | exact oq_fa4e5087 p4.1 | omega, by first | exact oq_e977c44f p4.2 | omega⟩ (fun g10 => ?_) (fun g10 => ?_)
      ·
        refine z_bipush X (show cdA 202 54 = some (.bipush 27, 2, 0, 0, 27) from rfl) ?_
        refine z_load X (x := e4) (show cdA 202 56 = some (.iload 6, 2, 0, 0, 0) from rfl) (List.Mem.head _) ?_
        refine z_mul X (show cdA 202 58 = some (.imul, 1, 0, 0, 0) from rfl) ?_
        refine z_load X (x := x5) (show cdA 202 59 = some (.iload 4, 2, 0, 0, 0) from rfl) (List.Mem.tail _ (List.Mem.tail _ (List.Mem.tail _ (List.Mem.tail _ (List.Mem.tail _ (List.Mem.head _)))))) ?_
        refine z_add X (show cdA 202 61 = some (.iadd, 1, 0, 0, 0) from rfl) ?_
        exact N5 _ (Or.inl ⟨g10, rfl⟩)
      ·
        refine z_load X (x := e4) (show cdA 202 49 = some (.iload 6, 2, 0, 0, 0) from rfl) (List.Mem.head _) ?_
        refine z_goto X (t := 62) (show cdA 202 51 = some (.goto 11, 3, 0, 0, 0) from rfl) (by decide) ?_
        exact N5 _ (Or.inr (⟨g10, rfl⟩))
    refine z_if_ne X (t := 35) (show cdA 202 27 = some (.ifCond .ne 8, 3, 1, 0, 0) from rfl) (by decide) ⟨by first | exact oq_fa4e5087 p3.1 | omega, by first | exact oq_e977c44f p3.2 | omega⟩ (fun g11 => ?_) (fun g11 => ?_)
    ·
      refine z_bipush X (show cdA 202 35 = some (.bipush 27, 2, 0, 0, 27) from rfl) ?_
      refine z_load X (x := e2) (show cdA 202 37 = some (.iload 6, 2, 0, 0, 0) from rfl) (List.Mem.head _) ?_
      refine z_mul X (show cdA 202 39 = some (.imul, 1, 0, 0, 0) from rfl) ?_
      refine z_load_n X (x := x4) (show cdA 202 40 = some (.iload_n 3, 1, 0, 0, 0) from rfl) (List.Mem.tail _ (List.Mem.tail _ (List.Mem.tail _ (List.Mem.tail _ (List.Mem.head _))))) ?_
      refine z_add X (show cdA 202 41 = some (.iadd, 1, 0, 0, 0) from rfl) ?_
      exact N3 _ (Or.inl ⟨g11, rfl⟩)
    ·
      refine z_load X (x := e2) (show cdA 202 30 = some (.iload 6, 2, 0, 0, 0) from rfl) (List.Mem.head _) ?_
      refine z_goto X (t := 42) (show cdA 202 32 = some (.goto 10, 3, 0, 0, 0) from rfl) (by decide) ?_
      exact N3 _ (Or.inr (⟨g11, rfl⟩))
  refine z_if_ne X (t := 17) (show cdA 202 9 = some (.ifCond .ne 8, 3, 1, 0, 0) from rfl) (by decide) ⟨by first | exact oq_fa4e5087 p2.1 | omega, by first | exact oq_e977c44f p2.2 | omega⟩ (fun g12 => ?_) (fun g12 => ?_)
  ·
    refine z_bipush X (show cdA 202 17 = some (.bipush 27, 2, 0, 0, 27) from rfl) ?_
    refine z_load X (x := ((27 * x1) + x2)) (show cdA 202 19 = some (.iload 6, 2, 0, 0, 0) from rfl) (List.Mem.head _) ?_
    refine z_mul X (show cdA 202 21 = some (.imul, 1, 0, 0, 0) from rfl) ?_
    refine z_load_n X (x := x3) (show cdA 202 22 = some (.iload_n 2, 1, 0, 0, 0) from rfl) (List.Mem.tail _ (List.Mem.tail _ (List.Mem.tail _ (List.Mem.head _)))) ?_
    refine z_add X (show cdA 202 23 = some (.iadd, 1, 0, 0, 0) from rfl) ?_
    exact N1 _ (Or.inl ⟨g12, rfl⟩)
  ·
    refine z_load X (x := ((27 * x1) + x2)) (show cdA 202 12 = some (.iload 6, 2, 0, 0, 0) from rfl) (List.Mem.head _) ?_
    refine z_goto X (t := 24) (show cdA 202 14 = some (.goto 10, 3, 0, 0, 0) from rfl) (by decide) ?_
    exact N1 _ (Or.inr (⟨g12, rfl⟩))
theorem k_total (G : GX l s0 D tys a0 dT) (I : Bd s) {x : Int} (p0 : 0 ≤ x ∧ x ≤ 11) : CT l s0 D A dT 248 (rmN 248) [.ref (A 179), .int (Int32.ofInt x)] s (fun o t => Bd t ∧ Fm [] [] s t ∧ ∃ e, o = .inl (some (.int (Int32.ofInt e))) ∧ rng e ∧ (0 ≤ e ∧ e ≤ 1200)) := by
  refine ct_of G (by decide) (Nat.le_of_ble_eq_true rfl) (fun k X E hRt hXt q => ?_)
  show WS k 0 [(0, .ref (A 179)), (1, .int (Int32.ofInt x))] [] _ 0 0
  have F : Fm [] [] s s := fm_rf _ _ s
  have L4 : ∀ (n : Nat) (t : PS) (xv nv c : Int), Bd t → Fm [] [] s t → ((0 ≤ xv ∧ xv ≤ 11) ∧ 0 ≤ nv ∧ nv ≤ 50 * c ∧ 0 ≤ c ∧ c ≤ 24) → (24 - c : Int).toNat < n → (∀ (t' : PS) (xv' nv' c' : Int), Bd t' → Fm [] [] s t' → ((0 ≤ xv' ∧ xv' ≤ 11) ∧ 0 ≤ nv' ∧ nv' ≤ 50 * c' ∧ 0 ≤ c' ∧ c' ≤ 24) → WS k 27 [(0, .ref (A 179)), (1, .int (Int32.ofInt xv')), (2, .int (Int32.ofInt nv')), (3, .int (Int32.ofInt c'))] [] (Wd A dT t') 0 0) → WS k 4 [(0, .ref (A 179)), (1, .int (Int32.ofInt xv)), (2, .int (Int32.ofInt nv)), (3, .int (Int32.ofInt c))] [] (Wd A dT t) 0 0 := by
    intro n
    induction n with
    | zero =>
      intro t xv nv c I F hi hm kx
      exact absurd hm (Nat.not_lt_zero _)
    | succ n ih =>
      intro t xv nv c I F hi hm kx
      refine z_load_n X (x := c) (show cdA 248 4 = some (.iload_n 3, 1, 0, 0, 0) from rfl) (List.Mem.tail _ (List.Mem.tail _ (List.Mem.tail _ (List.Mem.head _)))) ?_
      refine z_bipush X (show cdA 248 5 = some (.bipush 24, 2, 0, 0, 24) from rfl) ?_
      refine z_icmp_ge X (t := 27) (show cdA 248 7 = some (.if_icmp .ge 20, 3, 3, 0, 0) from rfl) (by decide) ⟨by first | exact oq_fa4e5087 hi.2.2.2.1 | omega, by first | exact oq_5bcd337f hi.2.2.2.2 | omega⟩ (by decide) (fun g1001 => ?_) (fun g1001 => ?_)
      ·
        refine WS_lv (lv := [(0, .ref (A 179)), (1, .int (Int32.ofInt xv)), (2, .int (Int32.ofInt nv)), (3, .int (Int32.ofInt c))]) (List.forall_mem_cons.mpr ⟨(List.Mem.head _), (List.forall_mem_cons.mpr ⟨(List.Mem.tail _ (List.Mem.head _)), (List.forall_mem_cons.mpr ⟨(List.Mem.tail _ (List.Mem.tail _ (List.Mem.head _))), (List.forall_mem_cons.mpr ⟨(List.Mem.tail _ (List.Mem.tail _ (List.Mem.tail _ (List.Mem.head _)))), (fun q h => absurd h List.not_mem_nil)⟩)⟩)⟩)⟩) ?_
        exact kx _ xv nv c I F (by first | exact ⟨And.intro (hi.1.1) (hi.1.2), hi.2.1, hi.2.2.1, hi.2.2.2.1, hi.2.2.2.2⟩ | omega)
      ·
        refine z_load_n X (x := nv) (show cdA 248 10 = some (.iload_n 2, 1, 0, 0, 0) from rfl) (List.Mem.tail _ (List.Mem.tail _ (List.Mem.head _))) ?_
        refine z_aload_n X (x := A 179) (show cdA 248 11 = some (.aload_n 0, 1, 0, 0, 0) from rfl) (List.Mem.head _) ?_
        refine s_getR X 179 (show cdA 248 12 = some (.getfield 55, 3, 12, 30, 0) from rfl) (by decide) rfl rfl ?_
        refine z_load_n X (x := xv) (show cdA 248 15 = some (.iload_n 1, 1, 0, 0, 0) from rfl) (List.Mem.tail _ (List.Mem.head _)) ?_
        refine z_aald X rw_215 (show cdA 248 16 = some (.aaload, 1, 0, 0, 0) from rfl) (by first | exact hi.1.1 | omega) (show xv < 12 by first | exact oq_0ddfcfee hi.1.2 | omega) (by decide) ?_
        refine z_load_n X (x := c) (show cdA 248 17 = some (.iload_n 3, 1, 0, 0, 0) from rfl) (List.Mem.tail _ (List.Mem.tail _ (List.Mem.tail _ (List.Mem.head _)))) ?_
        refine z_ald2 X rw_215 (show cdA 248 18 = some (.iaload, 1, 0, 0, 0) from rfl) (show (xv : Int).toNat < 12 by first | exact oq_afd9985c hi.1.2 | omega) (by first | exact hi.2.2.2.1 | omega) (show c < 24 by first | exact g1001 | omega) (by decide) ?_
        have b1002 : (0 : Int) ≤ (iC t (190 + (xv : Int).toNat) (c : Int).toNat) ∧ (iC t (190 + (xv : Int).toNat) (c : Int).toNat) ≤ 50 := rw_bd rw_215 I (show (xv : Int).toNat < 12 by first | exact oq_afd9985c hi.1.2 | omega) (show (c : Int).toNat < 24 by first | exact oq_1f05c366 g1001 | omega)
        refine z_add X (show cdA 248 19 = some (.iadd, 1, 0, 0, 0) from rfl) ?_
        refine z_store_n X (lv' := [(2, .int (Int32.ofInt (nv + (iC t (190 + (xv : Int).toNat) (c : Int).toNat)))), (0, .ref (A 179)), (1, .int (Int32.ofInt xv)), (3, .int (Int32.ofInt c))]) (show cdA 248 20 = some (.istore_n 2, 1, 0, 0, 0) from rfl) (by decide) (fun _ h => h) ?_
        refine z_inc X (x := c) (lv' := [(3, .int (Int32.ofInt (c + 1))), (2, .int (Int32.ofInt (nv + (iC t (190 + (xv : Int).toNat) (c : Int).toNat)))), (0, .ref (A 179)), (1, .int (Int32.ofInt xv))]) (show cdA 248 21 = some (.iinc 3 1, 3, 0, 0, 0) from rfl) (by decide) (List.Mem.tail _ (List.Mem.tail _ (List.Mem.tail _ (List.Mem.head _)))) (fun _ h => h) ?_
        refine z_goto X (t := 4) (show cdA 248 24 = some (.goto (-20), 3, 0, 0, 0) from rfl) (by decide) ?_
        refine WS_lv (lv := [(0, .ref (A 179)), (1, .int (Int32.ofInt xv)), (2, .int (Int32.ofInt (nv + (iC t (190 + (xv : Int).toNat) (c : Int).toNat)))), (3, .int (Int32.ofInt (c + 1)))]) (List.forall_mem_cons.mpr ⟨(List.Mem.tail _ (List.Mem.tail _ (List.Mem.head _))), (List.forall_mem_cons.mpr ⟨(List.Mem.tail _ (List.Mem.tail _ (List.Mem.tail _ (List.Mem.head _)))), (List.forall_mem_cons.mpr ⟨(List.Mem.tail _ (List.Mem.head _)), (List.forall_mem_cons.mpr ⟨(List.Mem.head _), (fun q h => absurd h List.not_mem_nil)⟩)⟩)⟩)⟩) ?_
        exact ih _ xv (nv + (iC t (190 + (xv : Int).toNat) (c : Int).toNat)) (c + 1) I F (by first | exact ⟨And.intro (hi.1.1) (hi.1.2), oq_dd29f52d hi.2.1 b1002.1, oq_d1fd8eeb hi.2.2.1 b1002.2, oq_54f49eb5 hi.2.2.2.1, oq_cec7cb2e g1001⟩ | omega) (by first | exact qk_me hm (by decide) (oq_ffa8317e g1001) | omega) kx
  refine z_const X (show cdA 248 0 = some (.iconst 0, 1, 0, 0, 0) from rfl) ?_
  refine z_store_n X (lv' := [(2, .int (Int32.ofInt 0)), (0, .ref (A 179)), (1, .int (Int32.ofInt x))]) (show cdA 248 1 = some (.istore_n 2, 1, 0, 0, 0) from rfl) (by decide) (fun _ h => h) ?_
  refine z_const X (show cdA 248 2 = some (.iconst 0, 1, 0, 0, 0) from rfl) ?_
  refine z_store_n X (lv' := [(3, .int (Int32.ofInt 0)), (2, .int (Int32.ofInt 0)), (0, .ref (A 179)), (1, .int (Int32.ofInt x))]) (show cdA 248 3 = some (.istore_n 3, 1, 0, 0, 0) from rfl) (by decide) (fun _ h => h) ?_
  refine WS_lv (lv := [(0, .ref (A 179)), (1, .int (Int32.ofInt x)), (2, .int (Int32.ofInt 0)), (3, .int (Int32.ofInt 0))]) (List.forall_mem_cons.mpr ⟨(List.Mem.tail _ (List.Mem.tail _ (List.Mem.head _))), (List.forall_mem_cons.mpr ⟨(List.Mem.tail _ (List.Mem.tail _ (List.Mem.tail _ (List.Mem.head _)))), (List.forall_mem_cons.mpr ⟨(List.Mem.tail _ (List.Mem.head _)), (List.forall_mem_cons.mpr ⟨(List.Mem.head _), (fun q h => absurd h List.not_mem_nil)⟩)⟩)⟩)⟩) ?_
  refine L4 ((24 - 0 : Int).toNat + 1) s x 0 0 I F (by first | exact ⟨And.intro (p0.1) (p0.2), by decide, by decide, by decide, by decide⟩ | omega) (Nat.lt_succ_self _) ?_
  intro s1 x2 x3 x4 Is1 Fs1 hs1
  refine z_load_n X (x := x3) (show cdA 248 27 = some (.iload_n 2, 1, 0, 0, 0) from rfl) (List.Mem.tail _ (List.Mem.tail _ (List.Mem.head _))) ?_
  exact w_iret X.1 q hRt rfl (ax_d X (show cdA 248 28 = some (.ireturn, 1, 0, 0, 0) from rfl)) (Nat.zero_le _) (Nat.zero_le _) ⟨_, rfl, Is1, Fs1, x3, rfl, ⟨by first | exact oq_fa4e5087 hs1.2.1 | omega, by first | exact oq_fe510769 hs1.2.2.1 hs1.2.2.2.2 | omega⟩, by first | exact ⟨hs1.2.1, oq_552552b9 hs1.2.2.1 hs1.2.2.2.2⟩ | omega⟩
theorem k_mark (G : GX l s0 D tys a0 dT) (I : Bd s)  : CT l s0 D A dT 293 (rmN 293) [.ref (A 179)] s (fun o t => Bd t ∧ Fm [73, 98] [241, 242, 243, 244] s t ∧ ∃ e, o = .inl (some (.int (Int32.ofInt e))) ∧ rng e ∧ (True)) := by
  refine ct_of G (by decide) (Nat.le_of_ble_eq_true rfl) (fun k X E hRt hXt q => ?_)
  show WS k 0 [(0, .ref (A 179))] [] _ 0 0
  have F : Fm [73, 98] [241, 242, 243, 244] s s := fm_rf _ _ s
  have b1 : (0 : Int) ≤ iI s 73 ∧ iI s 73 ≤ 3 := I.1 73
  have b2 : (0 : Int) ≤ iI s 98 ∧ iI s 98 ≤ 4 := I.1 98
  have L17 : ∀ (n : Nat) (t : PS) (c : Int), Bd t → Fm [73, 98] [241, 242, 243, 244] s t → (0 ≤ c ∧ c ≤ 128 ∧ iI t 98 ≤ 3) → (128 - c : Int).toNat < n → (∀ (t' : PS) (c' : Int), Bd t' → Fm [73, 98] [241, 242, 243, 244] s t' → (0 ≤ c' ∧ c' ≤ 128 ∧ iI t' 98 ≤ 3) → WS k 47 [(0, .ref (A 179)), (1, .int (Int32.ofInt c'))] [] (Wd A dT t') 0 0) → WS k 17 [(0, .ref (A 179)), (1, .int (Int32.ofInt c))] [] (Wd A dT t) 0 0 := by
    intro n
    induction n with
    | zero =>
      intro t c I F hi hm kx
      exact absurd hm (Nat.not_lt_zero _)
    | succ n ih =>
      intro t c I F hi hm kx
      have b1001 : (0 : Int) ≤ iI t 73 ∧ iI t 73 ≤ 3 := I.1 73
      have b1002 : (0 : Int) ≤ iI t 98 ∧ iI t 98 ≤ 4 := I.1 98
      refine z_load_n X (x := c) (show cdA 293 17 = some (.iload_n 1, 1, 0, 0, 0) from rfl) (List.Mem.tail _ (List.Mem.head _)) ?_
      refine z_sipush X (show cdA 293 18 = some (.sipush 128, 3, 0, 0, 128) from rfl) ?_
      refine z_icmp_ge X (t := 47) (show cdA 293 21 = some (.if_icmp .ge 26, 3, 3, 0, 0) from rfl) (by decide) ⟨by first | exact oq_fa4e5087 hi.1 | omega, by first | exact oq_4ee82282 hi.2.1 | omega⟩ (by decide) (fun g1003 => ?_) (fun g1003 => ?_)
      ·
        refine WS_lv (lv := [(0, .ref (A 179)), (1, .int (Int32.ofInt c))]) (List.forall_mem_cons.mpr ⟨(List.Mem.head _), (List.forall_mem_cons.mpr ⟨(List.Mem.tail _ (List.Mem.head _)), (fun q h => absurd h List.not_mem_nil)⟩)⟩) ?_
        exact kx _ c I F (by first | exact ⟨hi.1, hi.2.1, hi.2.2⟩ | omega)
      ·
        refine z_aload_n X (x := A 179) (show cdA 293 24 = some (.aload_n 0, 1, 0, 0, 0) from rfl) (List.Mem.head _) ?_
        refine s_getR X 179 (show cdA 293 25 = some (.getfield 113, 3, 12, 58, 0) from rfl) (by decide) rfl rfl ?_
        refine z_aload_n X (x := A 179) (show cdA 293 28 = some (.aload_n 0, 1, 0, 0, 0) from rfl) (List.Mem.head _) ?_
        refine z_getI X 179 (show cdA 293 29 = some (.getfield 468, 3, 12, 47, 0) from rfl) (by decide) rfl rfl ?_
        have b1004 : (0 : Int) ≤ iI t 98 ∧ iI t 98 ≤ 4 := I.1 98
        refine z_aald X rw_269 (show cdA 293 32 = some (.aaload, 1, 0, 0, 0) from rfl) (by first | exact b1004.1 | omega) (show (iI t 98) < 4 by first | exact oq_907d7be5 hi.2.2 | omega) (by decide) ?_
        refine z_load_n X (x := c) (show cdA 293 33 = some (.iload_n 1, 1, 0, 0, 0) from rfl) (List.Mem.tail _ (List.Mem.head _)) ?_
        refine z_aload_n X (x := A 179) (show cdA 293 34 = some (.aload_n 0, 1, 0, 0, 0) from rfl) (List.Mem.head _) ?_
        refine s_getR X 179 (show cdA 293 35 = some (.getfield 70, 3, 12, 35, 0) from rfl) (by decide) rfl rfl ?_
        refine z_load_n X (x := c) (show cdA 293 38 = some (.iload_n 1, 1, 0, 0, 0) from rfl) (List.Mem.tail _ (List.Mem.head _)) ?_
        refine z_ald X 256 (show cdA 293 39 = some (.iaload, 1, 0, 0, 0) from rfl) (by decide) rfl (by first | exact hi.1 | omega) (show c < 128 by first | exact g1003 | omega) (by decide) ?_
        have b1005 : ((-1) : Int) ≤ iC t 228 (c).toNat ∧ iC t 228 (c).toNat ≤ 7 := I.2 228 _ (show (c).toNat < 128 by first | exact oq_7d7b8d74 g1003 | omega)
        refine z_ast2 X rw_269 (show cdA 293 40 = some (.iastore, 1, 0, 0, 0) from rfl) (show ((iI t 98) : Int).toNat < 4 by first | exact oq_7e1be013 hi.2.2 | omega) (by first | exact hi.1 | omega) (show c < 128 by first | exact g1003 | omega) (by decide) ?_
        obtain ⟨s1006, hs1006⟩ : ∃ x0, x0 = uC t (241 + ((iI t 98) : Int).toNat) (c : Int).toNat (Int32.ofInt (iC t 228 (c).toNat)) := ⟨_, rfl⟩
        rw [← hs1006]
        have Is1006 : Bd s1006 := by rw [hs1006]; exact rw_st rw_269 I (show ((iI t 98) : Int).toNat < 4 by first | exact oq_7e1be013 hi.2.2 | omega) (show ((-1) : Int) ≤ (iC t 228 (c).toNat) ∧ (iC t 228 (c).toNat) ≤ 7 by first | exact ⟨b1005.1, b1005.2⟩ | omega) (rng_to _)
        have Fs1006 := fm_C (i := (c : Int).toNat) (x := Int32.ofInt (iC t 228 (c).toNat)) F ((show ∀ j, j < 4 → 241 + j ∈ _ by decide) ((iI t 98) : Int).toNat (by first | exact oq_7e1be013 hi.2.2 | omega))
        rw [← hs1006] at Fs1006
        have ws1006_73 : iI s1006 73 = iI t 73 := by rw [hs1006]; rfl
        have ws1006_98 : iI s1006 98 = iI t 98 := by rw [hs1006]; rfl
        refine z_inc X (x := c) (lv' := [(1, .int (Int32.ofInt (c + 1))), (0, .ref (A 179))]) (show cdA 293 41 = some (.iinc 1 1, 3, 0, 0, 0) from rfl) (by decide) (List.Mem.tail _ (List.Mem.head _)) (fun _ h => h) ?_
        refine z_goto X (t := 17) (show cdA 293 44 = some (.goto (-27), 3, 0, 0, 0) from rfl) (by decide) ?_
        refine WS_lv (lv := [(0, .ref (A 179)), (1, .int (Int32.ofInt (c + 1)))]) (List.forall_mem_cons.mpr ⟨(List.Mem.tail _ (List.Mem.head _)), (List.forall_mem_cons.mpr ⟨(List.Mem.head _), (fun q h => absurd h List.not_mem_nil)⟩)⟩) ?_
        exact ih _ (c + 1) Is1006 Fs1006 (by first | exact ⟨oq_54f49eb5 hi.1, oq_d2afb425 g1003, oq_6b149751 ws1006_98 hi.2.2⟩ | omega) (by first | exact qk_me hm (by decide) (oq_c268b7bd g1003) | omega) kx
  refine z_aload_n X (x := A 179) (show cdA 293 0 = some (.aload_n 0, 1, 0, 0, 0) from rfl) (List.Mem.head _) ?_
  refine z_const X (show cdA 293 1 = some (.iconst 0, 1, 0, 0, 0) from rfl) ?_
  refine s_putI X 179 (show cdA 293 2 = some (.putfield 172, 3, 12, 0, 0) from rfl) (by decide) rfl rfl (by decide) rfl rfl rfl ?_
  obtain ⟨s3, hs3⟩ : ∃ x0, x0 = uI s 73 (Int32.ofInt 0) := ⟨_, rfl⟩
  rw [← hs3]
  have Is3 : Bd s3 := by rw [hs3]; exact bd_I I (show (0 : Int) ≤ 0 ∧ 0 ≤ 3 by first | exact ⟨by decide, by decide⟩ | omega) (by decide)
  have Fs3 := fm_I (x := Int32.ofInt 0) F (show 73 ∈ _ by decide)
  rw [← hs3] at Fs3
  have vs3 : iI s3 73 = 0 := by rw [hs3]; exact iI_u (by decide)
  have ws3_98 : iI s3 98 = iI s 98 := by rw [hs3]; rfl
  refine z_aload_n X (x := A 179) (show cdA 293 5 = some (.aload_n 0, 1, 0, 0, 0) from rfl) (List.Mem.head _) ?_
  refine z_getI X 179 (show cdA 293 6 = some (.getfield 468, 3, 12, 47, 0) from rfl) (by decide) rfl rfl ?_
  have b4 : (0 : Int) ≤ iI s3 98 ∧ iI s3 98 ≤ 4 := Is3.1 98
  refine z_const X (show cdA 293 9 = some (.iconst 4, 1, 0, 0, 0) from rfl) ?_
  refine z_icmp_ne X (t := 15) (show cdA 293 10 = some (.if_icmp .ne 5, 3, 1, 0, 0) from rfl) (by decide) (rng_to _) (by decide) (fun g5 => ?_) (fun g5 => ?_)
  ·
    refine z_const X (show cdA 293 15 = some (.iconst 0, 1, 0, 0, 0) from rfl) ?_
    refine z_store_n X (lv' := [(1, .int (Int32.ofInt 0)), (0, .ref (A 179))]) (show cdA 293 16 = some (.istore_n 1, 1, 0, 0, 0) from rfl) (by decide) (fun _ h => h) ?_
    refine WS_lv (lv := [(0, .ref (A 179)), (1, .int (Int32.ofInt 0))]) (List.forall_mem_cons.mpr ⟨(List.Mem.tail _ (List.Mem.head _)), (List.forall_mem_cons.mpr ⟨(List.Mem.head _), (fun q h => absurd h List.not_mem_nil)⟩)⟩) ?_
    refine L17 ((128 - 0 : Int).toNat + 1) s3 0 Is3 Fs3 (by first | exact ⟨by decide, by decide, by first | (clear g5; omega) | omega⟩ | omega) (Nat.lt_succ_self _) ?_
    intro s6 x7 Is6 Fs6 hs6
    have b8 : (0 : Int) ≤ iI s6 73 ∧ iI s6 73 ≤ 3 := Is6.1 73
    have b9 : (0 : Int) ≤ iI s6 98 ∧ iI s6 98 ≤ 4 := Is6.1 98
    refine z_aload_n X (x := A 179) (show cdA 293 47 = some (.aload_n 0, 1, 0, 0, 0) from rfl) (List.Mem.head _) ?_
    refine w_dup X.1 (ax_d X (show cdA 293 48 = some (.dup, 1, 0, 0, 0) from rfl)) rfl ?_
    refine z_getI X 179 (show cdA 293 49 = some (.getfield 468, 3, 12, 47, 0) from rfl) (by decide) rfl rfl ?_
    have b10 : (0 : Int) ≤ iI s6 98 ∧ iI s6 98 ≤ 4 := Is6.1 98
    refine z_const X (show cdA 293 52 = some (.iconst 1, 1, 0, 0, 0) from rfl) ?_
    refine z_add X (show cdA 293 53 = some (.iadd, 1, 0, 0, 0) from rfl) ?_
    refine s_putI X 179 (show cdA 293 54 = some (.putfield 468, 3, 12, 47, 0) from rfl) (by decide) rfl rfl (by decide) rfl rfl rfl ?_
    obtain ⟨s11, hs11⟩ : ∃ x0, x0 = uI s6 98 (Int32.ofInt ((iI s6 98) + 1)) := ⟨_, rfl⟩
    rw [← hs11]
    have Is11 : Bd s11 := by rw [hs11]; exact bd_I Is6 (show (0 : Int) ≤ ((iI s6 98) + 1) ∧ ((iI s6 98) + 1) ≤ 4 by first | exact ⟨oq_54f49eb5 b10.1, oq_fb6340d3 hs6.2.2⟩ | omega) ⟨by first | exact oq_74de1e16 b10.1 | omega, by first | exact oq_45419e6e b10.2 | omega⟩
    have Fs11 := fm_I (x := Int32.ofInt ((iI s6 98) + 1)) Fs6 (show 98 ∈ _ by decide)
    rw [← hs11] at Fs11
    have vs11 : iI s11 98 = ((iI s6 98) + 1) := by rw [hs11]; exact iI_u ⟨by first | exact oq_74de1e16 b10.1 | omega, by first | exact oq_45419e6e b10.2 | omega⟩
    have ws11_73 : iI s11 73 = iI s6 73 := by rw [hs11]; rfl
    refine z_aload_n X (x := A 179) (show cdA 293 57 = some (.aload_n 0, 1, 0, 0, 0) from rfl) (List.Mem.head _) ?_
    refine z_getI X 179 (show cdA 293 58 = some (.getfield 468, 3, 12, 47, 0) from rfl) (by decide) rfl rfl ?_
    have b12 : (0 : Int) ≤ iI s11 98 ∧ iI s11 98 ≤ 4 := Is11.1 98
    exact w_iret X.1 q hRt rfl (ax_d X (show cdA 293 61 = some (.ireturn, 1, 0, 0, 0) from rfl)) (Nat.zero_le _) (Nat.zero_le _) ⟨_, rfl, Is11, Fs11, (iI s11 98), rfl, (rng_to _), trivial⟩
  ·
    refine z_const X (show cdA 293 13 = some (.iconst (-1), 1, 0, 0, 0) from rfl) ?_
    exact w_iret X.1 q hRt rfl (ax_d X (show cdA 293 14 = some (.ireturn, 1, 0, 0, 0) from rfl)) (Nat.zero_le _) (Nat.zero_le _) ⟨_, rfl, Is3, Fs3, (-1), rfl, (by decide), trivial⟩
theorem k_back (G : GX l s0 D tys a0 dT) (I : Bd s)  : CT l s0 D A dT 294 (rmN 294) [.ref (A 179)] s (fun o t => Bd t ∧ Fm [73, 98] [228] s t ∧ ∃ e, o = .inl (some (.int (Int32.ofInt e))) ∧ rng e ∧ (True)) := by
  refine ct_of G (by decide) (Nat.le_of_ble_eq_true rfl) (fun k X E hRt hXt q => ?_)
  show WS k 0 [(0, .ref (A 179))] [] _ 0 0
  have F : Fm [73, 98] [228] s s := fm_rf _ _ s
  have b1 : (0 : Int) ≤ iI s 73 ∧ iI s 73 ≤ 3 := I.1 73
  have b2 : (0 : Int) ≤ iI s 98 ∧ iI s 98 ≤ 4 := I.1 98
  have L26 : ∀ (n : Nat) (t : PS) (c : Int), Bd t → Fm [73, 98] [228] s t → (0 ≤ c ∧ c ≤ 128 ∧ iI t 98 ≤ 3) → (128 - c : Int).toNat < n → (∀ (t' : PS) (c' : Int), Bd t' → Fm [73, 98] [228] s t' → (0 ≤ c' ∧ c' ≤ 128 ∧ iI t' 98 ≤ 3) → WS k 56 [(0, .ref (A 179)), (1, .int (Int32.ofInt c'))] [] (Wd A dT t') 0 0) → WS k 26 [(0, .ref (A 179)), (1, .int (Int32.ofInt c))] [] (Wd A dT t) 0 0 := by
    intro n
    induction n with
    | zero =>
      intro t c I F hi hm kx
      exact absurd hm (Nat.not_lt_zero _)
    | succ n ih =>
      intro t c I F hi hm kx
      have b1001 : (0 : Int) ≤ iI t 73 ∧ iI t 73 ≤ 3 := I.1 73
      have b1002 : (0 : Int) ≤ iI t 98 ∧ iI t 98 ≤ 4 := I.1 98
      refine z_load_n X (x := c) (show cdA 294 26 = some (.iload_n 1, 1, 0, 0, 0) from rfl) (List.Mem.tail _ (List.Mem.head _)) ?_
      refine z_sipush X (show cdA 294 27 = some (.sipush 128, 3, 0, 0, 128) from rfl) ?_
      refine z_icmp_ge X (t := 56) (show cdA 294 30 = some (.if_icmp .ge 26, 3, 3, 0, 0) from rfl) (by decide) ⟨by first | exact oq_fa4e5087 hi.1 | omega, by first | exact oq_4ee82282 hi.2.1 | omega⟩ (by decide) (fun g1003 => ?_) (fun g1003 => ?_)
      ·
        refine WS_lv (lv := [(0, .ref (A 179)), (1, .int (Int32.ofInt c))]) (List.forall_mem_cons.mpr ⟨(List.Mem.head _), (List.forall_mem_cons.mpr ⟨(List.Mem.tail _ (List.Mem.head _)), (fun q h => absurd h List.not_mem_nil)⟩)⟩) ?_
        exact kx _ c I F (by first | exact ⟨hi.1, hi.2.1, hi.2.2⟩ | omega)
      ·
        refine z_aload_n X (x := A 179) (show cdA 294 33 = some (.aload_n 0, 1, 0, 0, 0) from rfl) (List.Mem.head _) ?_
        refine s_getR X 179 (show cdA 294 34 = some (.getfield 70, 3, 12, 35, 0) from rfl) (by decide) rfl rfl ?_
        refine z_load_n X (x := c) (show cdA 294 37 = some (.iload_n 1, 1, 0, 0, 0) from rfl) (List.Mem.tail _ (List.Mem.head _)) ?_
        refine z_aload_n X (x := A 179) (show cdA 294 38 = some (.aload_n 0, 1, 0, 0, 0) from rfl) (List.Mem.head _) ?_
        refine s_getR X 179 (show cdA 294 39 = some (.getfield 113, 3, 12, 58, 0) from rfl) (by decide) rfl rfl ?_
        refine z_aload_n X (x := A 179) (show cdA 294 42 = some (.aload_n 0, 1, 0, 0, 0) from rfl) (List.Mem.head _) ?_
        refine z_getI X 179 (show cdA 294 43 = some (.getfield 468, 3, 12, 47, 0) from rfl) (by decide) rfl rfl ?_
        have b1004 : (0 : Int) ≤ iI t 98 ∧ iI t 98 ≤ 4 := I.1 98
        refine z_aald X rw_269 (show cdA 294 46 = some (.aaload, 1, 0, 0, 0) from rfl) (by first | exact b1004.1 | omega) (show (iI t 98) < 4 by first | exact oq_907d7be5 hi.2.2 | omega) (by decide) ?_
        refine z_load_n X (x := c) (show cdA 294 47 = some (.iload_n 1, 1, 0, 0, 0) from rfl) (List.Mem.tail _ (List.Mem.head _)) ?_
        refine z_ald2 X rw_269 (show cdA 294 48 = some (.iaload, 1, 0, 0, 0) from rfl) (show ((iI t 98) : Int).toNat < 4 by first | exact oq_7e1be013 hi.2.2 | omega) (by first | exact hi.1 | omega) (show c < 128 by first | exact g1003 | omega) (by decide) ?_
        have b1005 : ((-1) : Int) ≤ (iC t (241 + ((iI t 98) : Int).toNat) (c : Int).toNat) ∧ (iC t (241 + ((iI t 98) : Int).toNat) (c : Int).toNat) ≤ 7 := rw_bd rw_269 I (show ((iI t 98) : Int).toNat < 4 by first | exact oq_7e1be013 hi.2.2 | omega) (show (c : Int).toNat < 128 by first | exact oq_7d7b8d74 g1003 | omega)
        refine z_ast X 256 (show cdA 294 49 = some (.iastore, 1, 0, 0, 0) from rfl) (by decide) rfl (by first | exact hi.1 | omega) (show c < 128 by first | exact g1003 | omega) (by decide) ?_
        obtain ⟨s1006, hs1006⟩ : ∃ x0, x0 = uC t 228 (c).toNat (Int32.ofInt (iC t (241 + ((iI t 98) : Int).toNat) (c : Int).toNat)) := ⟨_, rfl⟩
        rw [← hs1006]
        have Is1006 : Bd s1006 := by rw [hs1006]; exact bd_C I (show ((-1) : Int) ≤ (iC t (241 + ((iI t 98) : Int).toNat) (c : Int).toNat) ∧ (iC t (241 + ((iI t 98) : Int).toNat) (c : Int).toNat) ≤ 7 by first | exact ⟨b1005.1, b1005.2⟩ | omega) (rng_to _)
        have Fs1006 := fm_C (i := (c).toNat) (x := Int32.ofInt (iC t (241 + ((iI t 98) : Int).toNat) (c : Int).toNat)) F (show 228 ∈ _ by decide)
        rw [← hs1006] at Fs1006
        have ws1006_73 : iI s1006 73 = iI t 73 := by rw [hs1006]; rfl
        have ws1006_98 : iI s1006 98 = iI t 98 := by rw [hs1006]; rfl
        refine z_inc X (x := c) (lv' := [(1, .int (Int32.ofInt (c + 1))), (0, .ref (A 179))]) (show cdA 294 50 = some (.iinc 1 1, 3, 0, 0, 0) from rfl) (by decide) (List.Mem.tail _ (List.Mem.head _)) (fun _ h => h) ?_
        refine z_goto X (t := 26) (show cdA 294 53 = some (.goto (-27), 3, 0, 0, 0) from rfl) (by decide) ?_
        refine WS_lv (lv := [(0, .ref (A 179)), (1, .int (Int32.ofInt (c + 1)))]) (List.forall_mem_cons.mpr ⟨(List.Mem.tail _ (List.Mem.head _)), (List.forall_mem_cons.mpr ⟨(List.Mem.head _), (fun q h => absurd h List.not_mem_nil)⟩)⟩) ?_
        exact ih _ (c + 1) Is1006 Fs1006 (by first | exact ⟨oq_54f49eb5 hi.1, oq_d2afb425 g1003, oq_6b149751 ws1006_98 hi.2.2⟩ | omega) (by first | exact qk_me hm (by decide) (oq_c268b7bd g1003) | omega) kx
  refine z_aload_n X (x := A 179) (show cdA 294 0 = some (.aload_n 0, 1, 0, 0, 0) from rfl) (List.Mem.head _) ?_
  refine z_const X (show cdA 294 1 = some (.iconst 0, 1, 0, 0, 0) from rfl) ?_
  refine s_putI X 179 (show cdA 294 2 = some (.putfield 172, 3, 12, 0, 0) from rfl) (by decide) rfl rfl (by decide) rfl rfl rfl ?_
  obtain ⟨s3, hs3⟩ : ∃ x0, x0 = uI s 73 (Int32.ofInt 0) := ⟨_, rfl⟩
  rw [← hs3]
  have Is3 : Bd s3 := by rw [hs3]; exact bd_I I (show (0 : Int) ≤ 0 ∧ 0 ≤ 3 by first | exact ⟨by decide, by decide⟩ | omega) (by decide)
  have Fs3 := fm_I (x := Int32.ofInt 0) F (show 73 ∈ _ by decide)
  rw [← hs3] at Fs3
  have vs3 : iI s3 73 = 0 := by rw [hs3]; exact iI_u (by decide)
  have ws3_98 : iI s3 98 = iI s 98 := by rw [hs3]; rfl
  refine z_aload_n X (x := A 179) (show cdA 294 5 = some (.aload_n 0, 1, 0, 0, 0) from rfl) (List.Mem.head _) ?_
  refine z_getI X 179 (show cdA 294 6 = some (.getfield 468, 3, 12, 47, 0) from rfl) (by decide) rfl rfl ?_
  have b4 : (0 : Int) ≤ iI s3 98 ∧ iI s3 98 ≤ 4 := Is3.1 98
  refine z_if_ne X (t := 14) (show cdA 294 9 = some (.ifCond .ne 5, 3, 1, 0, 0) from rfl) (by decide) (rng_to _) (fun g5 => ?_) (fun g5 => ?_)
  ·
    refine z_aload_n X (x := A 179) (show cdA 294 14 = some (.aload_n 0, 1, 0, 0, 0) from rfl) (List.Mem.head _) ?_
    refine w_dup X.1 (ax_d X (show cdA 294 15 = some (.dup, 1, 0, 0, 0) from rfl)) rfl ?_
    refine z_getI X 179 (show cdA 294 16 = some (.getfield 468, 3, 12, 47, 0) from rfl) (by decide) rfl rfl ?_
    have b6 : (0 : Int) ≤ iI s3 98 ∧ iI s3 98 ≤ 4 := Is3.1 98
    refine z_const X (show cdA 294 19 = some (.iconst 1, 1, 0, 0, 0) from rfl) ?_
    refine z_sub X (show cdA 294 20 = some (.isub, 1, 0, 0, 0) from rfl) ?_
    refine s_putI X 179 (show cdA 294 21 = some (.putfield 468, 3, 12, 47, 0) from rfl) (by decide) rfl rfl (by decide) rfl rfl rfl ?_
    obtain ⟨s7, hs7⟩ : ∃ x0, x0 = uI s3 98 (Int32.ofInt ((iI s3 98) - 1)) := ⟨_, rfl⟩
    rw [← hs7]
    have Is7 : Bd s7 := by rw [hs7]; exact bd_I Is3 (show (0 : Int) ≤ ((iI s3 98) - 1) ∧ ((iI s3 98) - 1) ≤ 4 by first | exact ⟨by first | (clear g5; omega) | omega, oq_f3f8f749 b6.2⟩ | omega) ⟨by first | exact oq_c1e961c7 b6.1 | omega, by first | exact oq_dc10bb6e b6.2 | omega⟩
    have Fs7 := fm_I (x := Int32.ofInt ((iI s3 98) - 1)) Fs3 (show 98 ∈ _ by decide)
    rw [← hs7] at Fs7
    have vs7 : iI s7 98 = ((iI s3 98) - 1) := by rw [hs7]; exact iI_u ⟨by first | exact oq_c1e961c7 b6.1 | omega, by first | exact oq_dc10bb6e b6.2 | omega⟩
    have ws7_73 : iI s7 73 = iI s3 73 := by rw [hs7]; rfl
    refine z_const X (show cdA 294 24 = some (.iconst 0, 1, 0, 0, 0) from rfl) ?_
    refine z_store_n X (lv' := [(1, .int (Int32.ofInt 0)), (0, .ref (A 179))]) (show cdA 294 25 = some (.istore_n 1, 1, 0, 0, 0) from rfl) (by decide) (fun _ h => h) ?_
    refine WS_lv (lv := [(0, .ref (A 179)), (1, .int (Int32.ofInt 0))]) (List.forall_mem_cons.mpr ⟨(List.Mem.tail _ (List.Mem.head _)), (List.forall_mem_cons.mpr ⟨(List.Mem.head _), (fun q h => absurd h List.not_mem_nil)⟩)⟩) ?_
    refine L26 ((128 - 0 : Int).toNat + 1) s7 0 Is7 Fs7 (by first | exact ⟨by decide, by decide, oq_652a8e73 vs7 b6.2⟩ | omega) (Nat.lt_succ_self _) ?_
    intro s8 x9 Is8 Fs8 hs8
    have b10 : (0 : Int) ≤ iI s8 73 ∧ iI s8 73 ≤ 3 := Is8.1 73
    have b11 : (0 : Int) ≤ iI s8 98 ∧ iI s8 98 ≤ 4 := Is8.1 98
    refine z_aload_n X (x := A 179) (show cdA 294 56 = some (.aload_n 0, 1, 0, 0, 0) from rfl) (List.Mem.head _) ?_
    refine z_getI X 179 (show cdA 294 57 = some (.getfield 468, 3, 12, 47, 0) from rfl) (by decide) rfl rfl ?_
    have b12 : (0 : Int) ≤ iI s8 98 ∧ iI s8 98 ≤ 4 := Is8.1 98
    exact w_iret X.1 q hRt rfl (ax_d X (show cdA 294 60 = some (.ireturn, 1, 0, 0, 0) from rfl)) (Nat.zero_le _) (Nat.zero_le _) ⟨_, rfl, Is8, Fs8, (iI s8 98), rfl, (rng_to _), trivial⟩
  ·
    refine z_const X (show cdA 294 12 = some (.iconst (-1), 1, 0, 0, 0) from rfl) ?_
    exact w_iret X.1 q hRt rfl (ax_d X (show cdA 294 13 = some (.ireturn, 1, 0, 0, 0) from rfl)) (Nat.zero_le _) (Nat.zero_le _) ⟨_, rfl, Is3, Fs3, (-1), rfl, (by decide), trivial⟩
theorem k_skipWord (G : GX l s0 D tys a0 dT) (I : Bd s) (p0 : iI s 77 ≤ 390) : CT l s0 D A dT 203 (rmN 203) [.ref (A 179)] s (fun o t => Bd t ∧ Fm [77] [] s t ∧ o = .inl none ∧ (iI s 77 ≤ iI t 77 ∧ (iI t 77 = iI s 77 ∨ iI t 77 ≤ iI s 75))) := by
  refine ct_of G (by decide) (Nat.le_of_ble_eq_true rfl) (fun k X E hRt hXt q => ?_)
  show WS k 0 [(0, .ref (A 179))] [] _ 0 0
  have F : Fm [77] [] s s := fm_rf _ _ s
  have b1 : (0 : Int) ≤ iI s 77 ∧ iI s 77 ≤ 400 := I.1 77
  have b2 : (0 : Int) ≤ iI s 75 ∧ iI s 75 ≤ 200 := I.1 75
  have L0 : ∀ (n : Nat) (t : PS), Bd t → Fm [77] [] s t → (iI s 77 ≤ iI t 77 ∧ (iI t 77 = iI s 77 ∨ iI t 77 ≤ iI s 75) ∧ iI t 75 = iI s 75) → (iI t 75 - iI t 77 : Int).toNat < n → (∀ (t' : PS), Bd t' → Fm [77] [] s t' → (iI s 77 ≤ iI t' 77 ∧ (iI t' 77 = iI s 77 ∨ iI t' 77 ≤ iI s 75) ∧ iI t' 75 = iI s 75) → WS k 39 [(0, .ref (A 179))] [] (Wd A dT t') 0 0) → WS k 0 [(0, .ref (A 179))] [] (Wd A dT t) 0 0 := by
    intro n
    induction n with
    | zero =>
      intro t  I F hi hm kx
      exact absurd hm (Nat.not_lt_zero _)
    | succ n ih =>
      intro t  I F hi hm kx
      have b1001 : (0 : Int) ≤ iI t 77 ∧ iI t 77 ≤ 400 := I.1 77
      have b1002 : (0 : Int) ≤ iI t 75 ∧ iI t 75 ≤ 200 := I.1 75
      refine z_aload_n X (x := A 179) (show cdA 203 0 = some (.aload_n 0, 1, 0, 0, 0) from rfl) (List.Mem.head _) ?_
      refine z_aload_n X (x := A 179) (show cdA 203 1 = some (.aload_n 0, 1, 0, 0, 0) from rfl) (List.Mem.head _) ?_
      refine z_getI X 179 (show cdA 203 2 = some (.getfield 184, 3, 12, 4, 0) from rfl) (by decide) rfl rfl ?_
      have b1003 : (0 : Int) ≤ iI t 77 ∧ iI t 77 ≤ 400 := I.1 77
      refine z_callV X 179 (rm := rmN 192) (As := [.int (Int32.ofInt (iI t 77))]) (st := []) (show cdA 203 5 = some (.invokevirtual 187, 3, 192, 0, 0) from rfl) rfl (by decide) rfl (by rw [E.1, E.2.1, E.2.2.1]; exact k_byteAt G I (by first | exact ⟨b1003.1, oq_5a8480eb b1003.2⟩ | omega)) ⟨by rw [E.2.2.2]; exact (show (rmN 192).frames + 1 ≤ (rmN 203).frames by decide), by rw [E.2.2.2]; exact (show 8 + (mNL (miB 192) + 11) + (rmN 192).locals ≤ (rmN 203).locals by decide), by rw [E.2.2.2]; exact (show 0 + (rmN 192).cells ≤ (rmN 203).cells by decide), by rw [E.2.2.2]; exact (show 0 + (rmN 192).slots ≤ (rmN 203).slots by decide)⟩ (Nat.le_of_ble_eq_true rfl) (fun vv s1004 hq => ?_) (fun ee s1004 hq => ?_)
      rotate_left
      · obtain ⟨Is1004, Fs1004, e1005, hv, hrs1004, hps1004⟩ := hq; cases hv
      obtain ⟨Is1004, Fs1004, e1005, hv, hrs1004, hps1004⟩ := hq
      cases hv
      have Gs1004 := fm_ts F Fs1004 (by decide) (by decide)
      have ws1004_77 : iI s1004 77 = iI t 77 := fm_i Fs1004 (by decide)
      have ws1004_75 : iI s1004 75 = iI t 75 := fm_i Fs1004 (by decide)
      show WS k 8 [(0, .ref (A 179))] [.int (Int32.ofInt e1005)] (Wd A dT s1004) 0 0
      refine z_bipush X (show cdA 203 8 = some (.bipush 97, 2, 0, 0, 97) from rfl) ?_
      refine z_icmp_lt X (t := 39) (show cdA 203 10 = some (.if_icmp .lt 29, 3, 2, 0, 0) from rfl) (by decide) hrs1004 (by decide) (fun g1006 => ?_) (fun g1006 => ?_)
      ·
        refine WS_lv (lv := [(0, .ref (A 179))]) (List.forall_mem_cons.mpr ⟨(List.Mem.head _), (fun q h => absurd h List.not_mem_nil)⟩) ?_
        exact kx _  Is1004 Gs1004 (by first | exact ⟨oq_9272904e ws1004_77 hi.1, by first | (clear hps1004; omega) | omega, oq_1aa5be9e ws1004_75 hi.2.2⟩ | omega)
      ·
        refine z_aload_n X (x := A 179) (show cdA 203 13 = some (.aload_n 0, 1, 0, 0, 0) from rfl) (List.Mem.head _) ?_
        refine z_aload_n X (x := A 179) (show cdA 203 14 = some (.aload_n 0, 1, 0, 0, 0) from rfl) (List.Mem.head _) ?_
        refine z_getI X 179 (show cdA 203 15 = some (.getfield 184, 3, 12, 4, 0) from rfl) (by decide) rfl rfl ?_
        have b1007 : (0 : Int) ≤ iI s1004 77 ∧ iI s1004 77 ≤ 400 := Is1004.1 77
        refine z_callV X 179 (rm := rmN 192) (As := [.int (Int32.ofInt (iI s1004 77))]) (st := []) (show cdA 203 18 = some (.invokevirtual 187, 3, 192, 0, 0) from rfl) rfl (by decide) rfl (by rw [E.1, E.2.1, E.2.2.1]; exact k_byteAt G Is1004 (by first | exact ⟨b1007.1, oq_5a8480eb b1007.2⟩ | omega)) ⟨by rw [E.2.2.2]; exact (show (rmN 192).frames + 1 ≤ (rmN 203).frames by decide), by rw [E.2.2.2]; exact (show 8 + (mNL (miB 192) + 11) + (rmN 192).locals ≤ (rmN 203).locals by decide), by rw [E.2.2.2]; exact (show 0 + (rmN 192).cells ≤ (rmN 203).cells by decide), by rw [E.2.2.2]; exact (show 0 + (rmN 192).slots ≤ (rmN 203).slots by decide)⟩ (Nat.le_of_ble_eq_true rfl) (fun vv s1008 hq => ?_) (fun ee s1008 hq => ?_)
        rotate_left
        · obtain ⟨Is1008, Fs1008, e1009, hv, hrs1008, hps1008⟩ := hq; cases hv
        obtain ⟨Is1008, Fs1008, e1009, hv, hrs1008, hps1008⟩ := hq
        cases hv
        have Gs1008 := fm_ts Gs1004 Fs1008 (by decide) (by decide)
        have ws1008_77 : iI s1008 77 = iI s1004 77 := fm_i Fs1008 (by decide)
        have ws1008_75 : iI s1008 75 = iI s1004 75 := fm_i Fs1008 (by decide)
        show WS k 21 [(0, .ref (A 179))] [.int (Int32.ofInt e1009)] (Wd A dT s1008) 0 0
        refine z_bipush X (show cdA 203 21 = some (.bipush 122, 2, 0, 0, 122) from rfl) ?_
        refine z_icmp_gt X (t := 39) (show cdA 203 23 = some (.if_icmp .gt 16, 3, 4, 0, 0) from rfl) (by decide) hrs1008 (by decide) (fun g1010 => ?_) (fun g1010 => ?_)
        ·
          refine WS_lv (lv := [(0, .ref (A 179))]) (List.forall_mem_cons.mpr ⟨(List.Mem.head _), (fun q h => absurd h List.not_mem_nil)⟩) ?_
          exact kx _  Is1008 Gs1008 (by first | exact ⟨oq_143762c7 ws1008_77 hi.1 ws1004_77, by first | (clear hps1008 hps1004; omega) | (clear hps1004; omega) | omega, oq_d0d2714e ws1008_75 hi.2.2 ws1004_75⟩ | omega)
        ·
          refine z_aload_n X (x := A 179) (show cdA 203 26 = some (.aload_n 0, 1, 0, 0, 0) from rfl) (List.Mem.head _) ?_
          refine w_dup X.1 (ax_d X (show cdA 203 27 = some (.dup, 1, 0, 0, 0) from rfl)) rfl ?_
          refine z_getI X 179 (show cdA 203 28 = some (.getfield 184, 3, 12, 4, 0) from rfl) (by decide) rfl rfl ?_
          have b1011 : (0 : Int) ≤ iI s1008 77 ∧ iI s1008 77 ≤ 400 := Is1008.1 77
          refine z_const X (show cdA 203 31 = some (.iconst 1, 1, 0, 0, 0) from rfl) ?_
          refine z_add X (show cdA 203 32 = some (.iadd, 1, 0, 0, 0) from rfl) ?_
          refine s_putI X 179 (show cdA 203 33 = some (.putfield 184, 3, 12, 4, 0) from rfl) (by decide) rfl rfl (by decide) rfl rfl rfl ?_
          obtain ⟨s1012, hs1012⟩ : ∃ x0, x0 = uI s1008 77 (Int32.ofInt ((iI s1008 77) + 1)) := ⟨_, rfl⟩
          rw [← hs1012]
          have Is1012 : Bd s1012 := by rw [hs1012]; exact bd_I Is1008 (show (0 : Int) ≤ ((iI s1008 77) + 1) ∧ ((iI s1008 77) + 1) ≤ 400 by first | exact ⟨oq_54f49eb5 b1011.1, by first | (clear hps1008 hps1004; omega) | (clear hps1004; omega) | omega⟩ | omega) ⟨by first | exact oq_74de1e16 b1011.1 | omega, by first | exact oq_964ce197 b1011.2 | omega⟩
          have Fs1012 := fm_I (x := Int32.ofInt ((iI s1008 77) + 1)) Gs1008 (show 77 ∈ _ by decide)
          rw [← hs1012] at Fs1012
          have vs1012 : iI s1012 77 = ((iI s1008 77) + 1) := by rw [hs1012]; exact iI_u ⟨by first | exact oq_74de1e16 b1011.1 | omega, by first | exact oq_964ce197 b1011.2 | omega⟩
          have ws1012_75 : iI s1012 75 = iI s1008 75 := by rw [hs1012]; rfl
          refine z_goto X (t := 0) (show cdA 203 36 = some (.goto (-36), 3, 0, 0, 0) from rfl) (by decide) ?_
          refine WS_lv (lv := [(0, .ref (A 179))]) (List.forall_mem_cons.mpr ⟨(List.Mem.head _), (fun q h => absurd h List.not_mem_nil)⟩) ?_
          exact ih _  Is1012 Fs1012 (by first | exact ⟨oq_c108a731 vs1012 hi.1 ws1008_77 ws1004_77, by first | (clear hps1008 hps1004; omega) | (clear hps1004; omega) | omega, oq_45b593e3 ws1012_75 hi.2.2 ws1008_75 ws1004_75⟩ | omega) (by first | (clear hps1008 hps1004; omega) | (clear hps1004; omega) | omega) kx
  refine WS_lv (lv := [(0, .ref (A 179))]) (List.forall_mem_cons.mpr ⟨(List.Mem.head _), (fun q h => absurd h List.not_mem_nil)⟩) ?_
  refine L0 ((iI s 75 - iI s 77 : Int).toNat + 1) s  I F (by first | exact ⟨by decide, Or.inl (by decide), by decide⟩ | omega) (Nat.lt_succ_self _) ?_
  intro s3  Is3 Fs3 hs3
  have b4 : (0 : Int) ≤ iI s3 77 ∧ iI s3 77 ≤ 400 := Is3.1 77
  have b5 : (0 : Int) ≤ iI s3 75 ∧ iI s3 75 ≤ 200 := Is3.1 75
  exact w_vret X.1 q hRt (ax_d X (show cdA 203 39 = some (.return_, 1, 0, 0, 0) from rfl)) (Nat.zero_le _) (Nat.zero_le _) ⟨_, rfl, Is3, Fs3, rfl, by first | exact ⟨hs3.1, hs3.2.1⟩ | omega⟩
theorem k_sign (G : GX l s0 D tys a0 dT) (I : Bd s) {x : Int} (p0 : 0 ≤ x ∧ x ≤ 255) (p1 : iI s 77 ≤ 380) : CT l s0 D A dT 204 (rmN 204) [.ref (A 179), .int (Int32.ofInt x)] s (fun o t => Bd t ∧ Fm [77, 79, 80] [] s t ∧ o = .inl none ∧ (iI s 77 ≤ iI t 77 ∧ (iI t 77 = iI s 77 ∨ iI t 77 ≤ iI s 75) ∧ (iI s 79 ≠ 0 → iI t 79 ≠ 0) ∧ (iI t 79 = 0 → iI s 77 < iI t 77 ∧ iI t 77 ≤ iI s 75))) := by
  refine ct_of G (by decide) (Nat.le_of_ble_eq_true rfl) (fun k X E hRt hXt q => ?_)
  show WS k 0 [(0, .ref (A 179)), (1, .int (Int32.ofInt x))] [] _ 0 0
  have F : Fm [77, 79, 80] [] s s := fm_rf _ _ s
  have b1 : (0 : Int) ≤ iI s 77 ∧ iI s 77 ≤ 400 := I.1 77
  have b2 : (0 : Int) ≤ iI s 75 ∧ iI s 75 ≤ 200 := I.1 75
  have b3 : (0 : Int) ≤ iI s 79 ∧ iI s 79 ≤ 9 := I.1 79
  refine z_aload_n X (x := A 179) (show cdA 204 0 = some (.aload_n 0, 1, 0, 0, 0) from rfl) (List.Mem.head _) ?_
  refine z_callV X 179 (rm := rmN 193) (As := []) (st := []) (show cdA 204 1 = some (.invokevirtual 197, 3, 193, 0, 0) from rfl) rfl (by decide) rfl (by rw [E.1, E.2.1, E.2.2.1]; exact k_blanks G I (by first | exact oq_f72601a2 p1 | omega)) ⟨by rw [E.2.2.2]; exact (show (rmN 193).frames + 1 ≤ (rmN 204).frames by decide), by rw [E.2.2.2]; exact (show 8 + (mNL (miB 193) + 11) + (rmN 193).locals ≤ (rmN 204).locals by decide), by rw [E.2.2.2]; exact (show 0 + (rmN 193).cells ≤ (rmN 204).cells by decide), by rw [E.2.2.2]; exact (show 0 + (rmN 193).slots ≤ (rmN 204).slots by decide)⟩ (Nat.le_of_ble_eq_true rfl) (fun vv s4 hq => ?_) (fun ee s4 hq => ?_)
  rotate_left
  · obtain ⟨Is4, Fs4, hv, hps4⟩ := hq; cases hv
  obtain ⟨Is4, Fs4, hv, hps4⟩ := hq
  have hps4p := hps4.1
  cases hv
  have Gs4 := fm_ts F Fs4 (by decide) (by decide)
  have b6 : (0 : Int) ≤ iI s4 77 ∧ iI s4 77 ≤ 400 := Is4.1 77
  have ws4_75 : iI s4 75 = iI s 75 := fm_i Fs4 (by decide)
  have ws4_79 : iI s4 79 = iI s 79 := fm_i Fs4 (by decide)
  show WS k 4 [(0, .ref (A 179)), (1, .int (Int32.ofInt x))] [] (Wd A dT s4) 0 0
  refine z_aload_n X (x := A 179) (show cdA 204 4 = some (.aload_n 0, 1, 0, 0, 0) from rfl) (List.Mem.head _) ?_
  refine z_aload_n X (x := A 179) (show cdA 204 5 = some (.aload_n 0, 1, 0, 0, 0) from rfl) (List.Mem.head _) ?_
  refine z_getI X 179 (show cdA 204 6 = some (.getfield 184, 3, 12, 4, 0) from rfl) (by decide) rfl rfl ?_
  have b7 : (0 : Int) ≤ iI s4 77 ∧ iI s4 77 ≤ 400 := Is4.1 77
  refine z_callV X 179 (rm := rmN 192) (As := [.int (Int32.ofInt (iI s4 77))]) (st := []) (show cdA 204 9 = some (.invokevirtual 187, 3, 192, 0, 0) from rfl) rfl (by decide) rfl (by rw [E.1, E.2.1, E.2.2.1]; exact k_byteAt G Is4 (by first | exact ⟨b7.1, oq_5a8480eb b7.2⟩ | omega)) ⟨by rw [E.2.2.2]; exact (show (rmN 192).frames + 1 ≤ (rmN 204).frames by decide), by rw [E.2.2.2]; exact (show 8 + (mNL (miB 192) + 11) + (rmN 192).locals ≤ (rmN 204).locals by decide), by rw [E.2.2.2]; exact (show 0 + (rmN 192).cells ≤ (rmN 204).cells by decide), by rw [E.2.2.2]; exact (show 0 + (rmN 192).slots ≤ (rmN 204).slots by decide)⟩ (Nat.le_of_ble_eq_true rfl) (fun vv s8 hq => ?_) (fun ee s8 hq => ?_)
  rotate_left
  · obtain ⟨Is8, Fs8, e9, hv, hrs8, hps8⟩ := hq; cases hv
  obtain ⟨Is8, Fs8, e9, hv, hrs8, hps8⟩ := hq
  cases hv
  have Gs8 := fm_ts Gs4 Fs8 (by decide) (by decide)
  have ws8_77 : iI s8 77 = iI s4 77 := fm_i Fs8 (by decide)
  have ws8_75 : iI s8 75 = iI s4 75 := fm_i Fs8 (by decide)
  have ws8_79 : iI s8 79 = iI s4 79 := fm_i Fs8 (by decide)
  show WS k 12 [(0, .ref (A 179)), (1, .int (Int32.ofInt x))] [.int (Int32.ofInt e9)] (Wd A dT s8) 0 0
  refine z_load_n X (x := x) (show cdA 204 12 = some (.iload_n 1, 1, 0, 0, 0) from rfl) (List.Mem.tail _ (List.Mem.head _)) ?_
  refine z_icmp_ne X (t := 29) (show cdA 204 13 = some (.if_icmp .ne 16, 3, 1, 0, 0) from rfl) (by decide) hrs8 ⟨by first | exact oq_fa4e5087 p0.1 | omega, by first | exact oq_4567a937 p0.2 | omega⟩ (fun g10 => ?_) (fun g10 => ?_)
  ·
    refine z_aload_n X (x := A 179) (show cdA 204 29 = some (.aload_n 0, 1, 0, 0, 0) from rfl) (List.Mem.head _) ?_
    refine z_const X (show cdA 204 30 = some (.iconst 1, 1, 0, 0, 0) from rfl) ?_
    refine z_aload_n X (x := A 179) (show cdA 204 31 = some (.aload_n 0, 1, 0, 0, 0) from rfl) (List.Mem.head _) ?_
    refine z_getI X 179 (show cdA 204 32 = some (.getfield 184, 3, 12, 4, 0) from rfl) (by decide) rfl rfl ?_
    have b11 : (0 : Int) ≤ iI s8 77 ∧ iI s8 77 ≤ 400 := Is8.1 77
    refine z_callV X 179 (rm := rmN 194) (As := [.int (Int32.ofInt 1), .int (Int32.ofInt (iI s8 77))]) (st := []) (show cdA 204 35 = some (.invokevirtual 204, 3, 194, 0, 0) from rfl) rfl (by decide) rfl (by rw [E.1, E.2.1, E.2.2.1]; exact k_wrong G Is8 (by first | exact ⟨by decide, by decide⟩ | omega) (by first | exact ⟨oq_ca54ea22 b11.1, b11.2⟩ | omega)) ⟨by rw [E.2.2.2]; exact (show (rmN 194).frames + 1 ≤ (rmN 204).frames by decide), by rw [E.2.2.2]; exact (show 8 + (mNL (miB 194) + 11) + (rmN 194).locals ≤ (rmN 204).locals by decide), by rw [E.2.2.2]; exact (show 0 + (rmN 194).cells ≤ (rmN 204).cells by decide), by rw [E.2.2.2]; exact (show 0 + (rmN 194).slots ≤ (rmN 204).slots by decide)⟩ (Nat.le_of_ble_eq_true rfl) (fun vv s12 hq => ?_) (fun ee s12 hq => ?_)
    rotate_left
    · obtain ⟨Is12, Fs12, hv, hps12⟩ := hq; cases hv
    obtain ⟨Is12, Fs12, hv, hps12⟩ := hq
    cases hv
    have Gs12 := fm_ts Gs8 Fs12 (by decide) (by decide)
    have ws12_77 : iI s12 77 = iI s8 77 := fm_i Fs12 (by decide)
    have ws12_75 : iI s12 75 = iI s8 75 := fm_i Fs12 (by decide)
    have b14 : (0 : Int) ≤ iI s12 79 ∧ iI s12 79 ≤ 9 := Is12.1 79
    show WS k 38 [(0, .ref (A 179)), (1, .int (Int32.ofInt x))] [] (Wd A dT s12) 0 0
    exact w_vret X.1 q hRt (ax_d X (show cdA 204 38 = some (.return_, 1, 0, 0, 0) from rfl)) (Nat.zero_le _) (Nat.zero_le _) ⟨_, rfl, Is12, Gs12, rfl, by first | (clear hps12 g10 hps8 hps4; omega) | (clear g10 hps8 hps4; omega) | omega⟩
  ·
    refine z_aload_n X (x := A 179) (show cdA 204 16 = some (.aload_n 0, 1, 0, 0, 0) from rfl) (List.Mem.head _) ?_
    refine w_dup X.1 (ax_d X (show cdA 204 17 = some (.dup, 1, 0, 0, 0) from rfl)) rfl ?_
    refine z_getI X 179 (show cdA 204 18 = some (.getfield 184, 3, 12, 4, 0) from rfl) (by decide) rfl rfl ?_
    have b15 : (0 : Int) ≤ iI s8 77 ∧ iI s8 77 ≤ 400 := Is8.1 77
    refine z_const X (show cdA 204 21 = some (.iconst 1, 1, 0, 0, 0) from rfl) ?_
    refine z_add X (show cdA 204 22 = some (.iadd, 1, 0, 0, 0) from rfl) ?_
    refine s_putI X 179 (show cdA 204 23 = some (.putfield 184, 3, 12, 4, 0) from rfl) (by decide) rfl rfl (by decide) rfl rfl rfl ?_
    obtain ⟨s16, hs16⟩ : ∃ x0, x0 = uI s8 77 (Int32.ofInt ((iI s8 77) + 1)) := ⟨_, rfl⟩
    rw [← hs16]
    have Is16 : Bd s16 := by rw [hs16]; exact bd_I Is8 (show (0 : Int) ≤ ((iI s8 77) + 1) ∧ ((iI s8 77) + 1) ≤ 400 by first | exact ⟨oq_54f49eb5 b15.1, by first | (clear hps8 hps4; omega) | (clear hps4; omega) | omega⟩ | omega) ⟨by first | exact oq_74de1e16 b15.1 | omega, by first | exact oq_964ce197 b15.2 | omega⟩
    have Fs16 := fm_I (x := Int32.ofInt ((iI s8 77) + 1)) Gs8 (show 77 ∈ _ by decide)
    rw [← hs16] at Fs16
    have vs16 : iI s16 77 = ((iI s8 77) + 1) := by rw [hs16]; exact iI_u ⟨by first | exact oq_74de1e16 b15.1 | omega, by first | exact oq_964ce197 b15.2 | omega⟩
    have ws16_75 : iI s16 75 = iI s8 75 := by rw [hs16]; rfl
    have ws16_79 : iI s16 79 = iI s8 79 := by rw [hs16]; rfl
    refine z_goto X (t := 38) (show cdA 204 26 = some (.goto 12, 3, 0, 0, 0) from rfl) (by decide) ?_
    exact w_vret X.1 q hRt (ax_d X (show cdA 204 38 = some (.return_, 1, 0, 0, 0) from rfl)) (Nat.zero_le _) (Nat.zero_le _) ⟨_, rfl, Is16, Fs16, rfl, by first | (clear hps8 hps4; omega) | (clear hps4; omega) | omega⟩
theorem k_number (G : GX l s0 D tys a0 dT) (I : Bd s) {x y : Int} (p0 : rng x) (p1 : rng y) (p2 : iI s 77 ≤ 390) : CT l s0 D A dT 196 (rmN 196) [.ref (A 179), .int (Int32.ofInt x), .int (Int32.ofInt y)] s (fun o t => Bd t ∧ Fm [77, 79, 80] [] s t ∧ ∃ e, o = .inl (some (.int (Int32.ofInt e))) ∧ rng e ∧ (iI s 77 ≤ iI t 77 ∧ (iI t 77 = iI s 77 ∨ iI t 77 ≤ iI s 75) ∧ (iI s 79 ≠ 0 → iI t 79 ≠ 0) ∧ (iI t 79 = 0 → x ≤ e ∧ e ≤ y) ∧ e ≤ 100000)) := by
  refine ct_of G (by decide) (Nat.le_of_ble_eq_true rfl) (fun k X E hRt hXt q => ?_)
  show WS k 0 [(0, .ref (A 179)), (1, .int (Int32.ofInt x)), (2, .int (Int32.ofInt y))] [] _ 0 0
  have F : Fm [77, 79, 80] [] s s := fm_rf _ _ s
  have b1 : (0 : Int) ≤ iI s 77 ∧ iI s 77 ≤ 400 := I.1 77
  have b2 : (0 : Int) ≤ iI s 75 ∧ iI s 75 ≤ 200 := I.1 75
  have b3 : (0 : Int) ≤ iI s 79 ∧ iI s 79 ≤ 9 := I.1 79
  have L35 : ∀ (n : Nat) (t : PS) (xv yv bv vv : Int), Bd t → Fm [77, 79, 80] [] s t → (iI s 77 ≤ iI t 77 ∧ (iI t 77 = iI s 77 ∨ iI t 77 ≤ iI s 75) ∧ iI t 75 = iI s 75 ∧ (iI s 79 ≠ 0 → iI t 79 ≠ 0) ∧ xv = x ∧ yv = y ∧ (0 ≤ bv ∧ bv ≤ 400) ∧ rng vv ∧ vv ≤ 100000) → (iI t 75 - iI t 77 : Int).toNat < n → (∀ (t' : PS) (xv' yv' bv' vv' : Int), Bd t' → Fm [77, 79, 80] [] s t' → (iI s 77 ≤ iI t' 77 ∧ (iI t' 77 = iI s 77 ∨ iI t' 77 ≤ iI s 75) ∧ iI t' 75 = iI s 75 ∧ (iI s 79 ≠ 0 → iI t' 79 ≠ 0) ∧ xv' = x ∧ yv' = y ∧ (0 ≤ bv' ∧ bv' ≤ 400) ∧ rng vv' ∧ vv' ≤ 100000) → WS k 97 [(0, .ref (A 179)), (1, .int (Int32.ofInt xv')), (2, .int (Int32.ofInt yv')), (3, .int (Int32.ofInt bv')), (4, .int (Int32.ofInt vv'))] [] (Wd A dT t') 0 0) → WS k 35 [(0, .ref (A 179)), (1, .int (Int32.ofInt xv)), (2, .int (Int32.ofInt yv)), (3, .int (Int32.ofInt bv)), (4, .int (Int32.ofInt vv))] [] (Wd A dT t) 0 0 := by
    intro n
    induction n with
    | zero =>
      intro t xv yv bv vv I F hi hm kx
      exact absurd hm (Nat.not_lt_zero _)
    | succ n ih =>
      intro t xv yv bv vv I F hi hm kx
      have b1001 : (0 : Int) ≤ iI t 77 ∧ iI t 77 ≤ 400 := I.1 77
      have b1002 : (0 : Int) ≤ iI t 75 ∧ iI t 75 ≤ 200 := I.1 75
      have b1003 : (0 : Int) ≤ iI t 79 ∧ iI t 79 ≤ 9 := I.1 79
      refine z_aload_n X (x := A 179) (show cdA 196 35 = some (.aload_n 0, 1, 0, 0, 0) from rfl) (List.Mem.head _) ?_
      refine z_aload_n X (x := A 179) (show cdA 196 36 = some (.aload_n 0, 1, 0, 0, 0) from rfl) (List.Mem.head _) ?_
      refine z_getI X 179 (show cdA 196 37 = some (.getfield 184, 3, 12, 4, 0) from rfl) (by decide) rfl rfl ?_
      have b1004 : (0 : Int) ≤ iI t 77 ∧ iI t 77 ≤ 400 := I.1 77
      refine z_callV X 179 (rm := rmN 192) (As := [.int (Int32.ofInt (iI t 77))]) (st := []) (show cdA 196 40 = some (.invokevirtual 187, 3, 192, 0, 0) from rfl) rfl (by decide) rfl (by rw [E.1, E.2.1, E.2.2.1]; exact k_byteAt G I (by first | exact ⟨b1004.1, oq_5a8480eb b1004.2⟩ | omega)) ⟨by rw [E.2.2.2]; exact (show (rmN 192).frames + 1 ≤ (rmN 196).frames by decide), by rw [E.2.2.2]; exact (show 8 + (mNL (miB 192) + 11) + (rmN 192).locals ≤ (rmN 196).locals by decide), by rw [E.2.2.2]; exact (show 0 + (rmN 192).cells ≤ (rmN 196).cells by decide), by rw [E.2.2.2]; exact (show 0 + (rmN 192).slots ≤ (rmN 196).slots by decide)⟩ (Nat.le_of_ble_eq_true rfl) (fun vv s1005 hq => ?_) (fun ee s1005 hq => ?_)
      rotate_left
      · obtain ⟨Is1005, Fs1005, e1006, hv, hrs1005, hps1005⟩ := hq; cases hv
      obtain ⟨Is1005, Fs1005, e1006, hv, hrs1005, hps1005⟩ := hq
      cases hv
      have Gs1005 := fm_ts F Fs1005 (by decide) (by decide)
      have ws1005_77 : iI s1005 77 = iI t 77 := fm_i Fs1005 (by decide)
      have ws1005_75 : iI s1005 75 = iI t 75 := fm_i Fs1005 (by decide)
      have ws1005_79 : iI s1005 79 = iI t 79 := fm_i Fs1005 (by decide)
      show WS k 43 [(0, .ref (A 179)), (1, .int (Int32.ofInt xv)), (2, .int (Int32.ofInt yv)), (3, .int (Int32.ofInt bv)), (4, .int (Int32.ofInt vv))] [.int (Int32.ofInt e1006)] (Wd A dT s1005) 0 0
      refine z_callS X (rm := rmN 195) (As := [.int (Int32.ofInt e1006)]) (st := []) (show cdA 196 43 = some (.invokestatic 200, 3, 195, 1, 0) from rfl) rfl (by rw [E.1, E.2.1, E.2.2.1]; exact k_isDigit G Is1005 (by first | (clear hps1005; omega) | omega)) ⟨by rw [E.2.2.2]; exact (show (rmN 195).frames + 1 ≤ (rmN 196).frames by decide), by rw [E.2.2.2]; exact (show 8 + (mNL (miB 195) + 11) + (rmN 195).locals ≤ (rmN 196).locals by decide), by rw [E.2.2.2]; exact (show 0 + (rmN 195).cells ≤ (rmN 196).cells by decide), by rw [E.2.2.2]; exact (show 0 + (rmN 195).slots ≤ (rmN 196).slots by decide)⟩ (Nat.le_of_ble_eq_true rfl) (fun vv s1007 hq => ?_) (fun ee s1007 hq => ?_)
      rotate_left
      · obtain ⟨Is1007, Fs1007, e1008, hv, hrs1007, hps1007⟩ := hq; cases hv
      obtain ⟨Is1007, Fs1007, e1008, hv, hrs1007, hps1007⟩ := hq
      cases hv
      have Gs1007 := fm_ts Gs1005 Fs1007 (by decide) (by decide)
      have ws1007_77 : iI s1007 77 = iI s1005 77 := fm_i Fs1007 (by decide)
      have ws1007_75 : iI s1007 75 = iI s1005 75 := fm_i Fs1007 (by decide)
      have ws1007_79 : iI s1007 79 = iI s1005 79 := fm_i Fs1007 (by decide)
      show WS k 46 [(0, .ref (A 179)), (1, .int (Int32.ofInt xv)), (2, .int (Int32.ofInt yv)), (3, .int (Int32.ofInt bv)), (4, .int (Int32.ofInt vv))] [.int (Int32.ofInt e1008)] (Wd A dT s1007) 0 0
      refine z_if_eq X (t := 97) (show cdA 196 46 = some (.ifCond .eq 51, 3, 0, 0, 0) from rfl) (by decide) hrs1007 (fun g1009 => ?_) (fun g1009 => ?_)
      ·
        refine WS_lv (lv := [(0, .ref (A 179)), (1, .int (Int32.ofInt xv)), (2, .int (Int32.ofInt yv)), (3, .int (Int32.ofInt bv)), (4, .int (Int32.ofInt vv))]) (List.forall_mem_cons.mpr ⟨(List.Mem.head _), (List.forall_mem_cons.mpr ⟨(List.Mem.tail _ (List.Mem.head _)), (List.forall_mem_cons.mpr ⟨(List.Mem.tail _ (List.Mem.tail _ (List.Mem.head _))), (List.forall_mem_cons.mpr ⟨(List.Mem.tail _ (List.Mem.tail _ (List.Mem.tail _ (List.Mem.head _)))), (List.forall_mem_cons.mpr ⟨(List.Mem.tail _ (List.Mem.tail _ (List.Mem.tail _ (List.Mem.tail _ (List.Mem.head _))))), (fun q h => absurd h List.not_mem_nil)⟩)⟩)⟩)⟩)⟩) ?_
        exact kx _ xv yv bv vv Is1007 Gs1007 (by first | exact ⟨oq_2954f754 ws1007_77 ws1005_77 hi.1, by first | (clear hps1007 hps1005; omega) | (clear hps1005; omega) | omega, oq_d0d2714e ws1007_75 hi.2.2.1 ws1005_75, by first | (clear hps1007 hps1005; omega) | (clear hps1005; omega) | omega, hi.2.2.2.2.1, hi.2.2.2.2.2.1, And.intro (hi.2.2.2.2.2.2.1.1) (hi.2.2.2.2.2.2.1.2), And.intro (hi.2.2.2.2.2.2.2.1.1) (hi.2.2.2.2.2.2.2.1.2), hi.2.2.2.2.2.2.2.2⟩ | omega)
      ·
        refine z_bipush X (show cdA 196 49 = some (.bipush 10, 2, 0, 0, 10) from rfl) ?_
        refine z_load X (x := vv) (show cdA 196 51 = some (.iload 4, 2, 0, 0, 0) from rfl) (List.Mem.tail _ (List.Mem.tail _ (List.Mem.tail _ (List.Mem.tail _ (List.Mem.head _))))) ?_
        refine z_mul X (show cdA 196 53 = some (.imul, 1, 0, 0, 0) from rfl) ?_
        refine z_aload_n X (x := A 179) (show cdA 196 54 = some (.aload_n 0, 1, 0, 0, 0) from rfl) (List.Mem.head _) ?_
        refine z_aload_n X (x := A 179) (show cdA 196 55 = some (.aload_n 0, 1, 0, 0, 0) from rfl) (List.Mem.head _) ?_
        refine z_getI X 179 (show cdA 196 56 = some (.getfield 184, 3, 12, 4, 0) from rfl) (by decide) rfl rfl ?_
        have b1010 : (0 : Int) ≤ iI s1007 77 ∧ iI s1007 77 ≤ 400 := Is1007.1 77
        refine z_callV X 179 (rm := rmN 192) (As := [.int (Int32.ofInt (iI s1007 77))]) (st := [.int (Int32.ofInt (10 * vv))]) (show cdA 196 59 = some (.invokevirtual 187, 3, 192, 0, 0) from rfl) rfl (by decide) rfl (by rw [E.1, E.2.1, E.2.2.1]; exact k_byteAt G Is1007 (by first | exact ⟨b1010.1, oq_5a8480eb b1010.2⟩ | omega)) ⟨by rw [E.2.2.2]; exact (show (rmN 192).frames + 1 ≤ (rmN 196).frames by decide), by rw [E.2.2.2]; exact (show 8 + (mNL (miB 192) + 11) + (rmN 192).locals ≤ (rmN 196).locals by decide), by rw [E.2.2.2]; exact (show 0 + (rmN 192).cells ≤ (rmN 196).cells by decide), by rw [E.2.2.2]; exact (show 0 + (rmN 192).slots ≤ (rmN 196).slots by decide)⟩ (Nat.le_of_ble_eq_true rfl) (fun vv s1011 hq => ?_) (fun ee s1011 hq => ?_)
        rotate_left
        · obtain ⟨Is1011, Fs1011, e1012, hv, hrs1011, hps1011⟩ := hq; cases hv
        obtain ⟨Is1011, Fs1011, e1012, hv, hrs1011, hps1011⟩ := hq
        cases hv
        have Gs1011 := fm_ts Gs1007 Fs1011 (by decide) (by decide)
        have ws1011_77 : iI s1011 77 = iI s1007 77 := fm_i Fs1011 (by decide)
        have ws1011_75 : iI s1011 75 = iI s1007 75 := fm_i Fs1011 (by decide)
        have ws1011_79 : iI s1011 79 = iI s1007 79 := fm_i Fs1011 (by decide)
        show WS k 62 [(0, .ref (A 179)), (1, .int (Int32.ofInt xv)), (2, .int (Int32.ofInt yv)), (3, .int (Int32.ofInt bv)), (4, .int (Int32.ofInt vv))] [.int (Int32.ofInt e1012), .int (Int32.ofInt (10 * vv))] (Wd A dT s1011) 0 0
        refine z_add X (show cdA 196 62 = some (.iadd, 1, 0, 0, 0) from rfl) ?_
        refine z_bipush X (show cdA 196 63 = some (.bipush 48, 2, 0, 0, 48) from rfl) ?_
        refine z_sub X (show cdA 196 65 = some (.isub, 1, 0, 0, 0) from rfl) ?_
        refine z_any (fun y1013 hy1013 => ?_)
        refine z_store X (lv' := [(4, .int (Int32.ofInt y1013)), (0, .ref (A 179)), (1, .int (Int32.ofInt xv)), (2, .int (Int32.ofInt yv)), (3, .int (Int32.ofInt bv))]) (show cdA 196 66 = some (.istore 4, 2, 0, 0, 0) from rfl) (by decide) (fun _ h => h) ?_
        refine z_load X (x := y1013) (show cdA 196 68 = some (.iload 4, 2, 0, 0, 0) from rfl) (List.Mem.head _) ?_
        refine z_ldc X (show cdA 196 70 = some (.ldc 208, 2, 0, 0, 100000) from rfl) ?_
        refine z_icmp_le X (t := 80) (show cdA 196 72 = some (.if_icmp .le 8, 3, 5, 0, 0) from rfl) (by decide) hy1013 (by decide) (fun g1014 => ?_) (fun g1014 => ?_)
        ·
          refine z_load X (x := y1013) (show cdA 196 80 = some (.iload 4, 2, 0, 0, 0) from rfl) (List.Mem.head _) ?_
          refine z_store X (lv' := [(4, .int (Int32.ofInt y1013)), (0, .ref (A 179)), (1, .int (Int32.ofInt xv)), (2, .int (Int32.ofInt yv)), (3, .int (Int32.ofInt bv))]) (show cdA 196 82 = some (.istore 4, 2, 0, 0, 0) from rfl) (by decide) (fun _ h => h) ?_
          refine z_aload_n X (x := A 179) (show cdA 196 84 = some (.aload_n 0, 1, 0, 0, 0) from rfl) (List.Mem.tail _ (List.Mem.head _)) ?_
          refine w_dup X.1 (ax_d X (show cdA 196 85 = some (.dup, 1, 0, 0, 0) from rfl)) rfl ?_
          refine z_getI X 179 (show cdA 196 86 = some (.getfield 184, 3, 12, 4, 0) from rfl) (by decide) rfl rfl ?_
          have b1015 : (0 : Int) ≤ iI s1011 77 ∧ iI s1011 77 ≤ 400 := Is1011.1 77
          refine z_const X (show cdA 196 89 = some (.iconst 1, 1, 0, 0, 0) from rfl) ?_
          refine z_add X (show cdA 196 90 = some (.iadd, 1, 0, 0, 0) from rfl) ?_
          refine s_putI X 179 (show cdA 196 91 = some (.putfield 184, 3, 12, 4, 0) from rfl) (by decide) rfl rfl (by decide) rfl rfl rfl ?_
          obtain ⟨s1016, hs1016⟩ : ∃ x0, x0 = uI s1011 77 (Int32.ofInt ((iI s1011 77) + 1)) := ⟨_, rfl⟩
          rw [← hs1016]
          have Is1016 : Bd s1016 := by rw [hs1016]; exact bd_I Is1011 (show (0 : Int) ≤ ((iI s1011 77) + 1) ∧ ((iI s1011 77) + 1) ≤ 400 by first | exact ⟨oq_54f49eb5 b1015.1, by first | (clear hps1011 g1009 hps1007 hps1005; omega) | (clear g1009 hps1007 hps1005; omega) | omega⟩ | omega) ⟨by first | exact oq_74de1e16 b1015.1 | omega, by first | exact oq_964ce197 b1015.2 | omega⟩
          have Fs1016 := fm_I (x := Int32.ofInt ((iI s1011 77) + 1)) Gs1011 (show 77 ∈ _ by decide)
          rw [← hs1016] at Fs1016
          have vs1016 : iI s1016 77 = ((iI s1011 77) + 1) := by rw [hs1016]; exact iI_u ⟨by first | exact oq_74de1e16 b1015.1 | omega, by first | exact oq_964ce197 b1015.2 | omega⟩
          have ws1016_75 : iI s1016 75 = iI s1011 75 := by rw [hs1016]; rfl
          have ws1016_79 : iI s1016 79 = iI s1011 79 := by rw [hs1016]; rfl
          refine z_goto X (t := 35) (show cdA 196 94 = some (.goto (-59), 3, 0, 0, 0) from rfl) (by decide) ?_
          refine WS_lv (lv := [(0, .ref (A 179)), (1, .int (Int32.ofInt xv)), (2, .int (Int32.ofInt yv)), (3, .int (Int32.ofInt bv)), (4, .int (Int32.ofInt y1013))]) (List.forall_mem_cons.mpr ⟨(List.Mem.tail _ (List.Mem.head _)), (List.forall_mem_cons.mpr ⟨(List.Mem.tail _ (List.Mem.tail _ (List.Mem.head _))), (List.forall_mem_cons.mpr ⟨(List.Mem.tail _ (List.Mem.tail _ (List.Mem.tail _ (List.Mem.head _)))), (List.forall_mem_cons.mpr ⟨(List.Mem.tail _ (List.Mem.tail _ (List.Mem.tail _ (List.Mem.tail _ (List.Mem.head _))))), (List.forall_mem_cons.mpr ⟨(List.Mem.head _), (fun q h => absurd h List.not_mem_nil)⟩)⟩)⟩)⟩)⟩) ?_
          exact ih _ xv yv bv y1013 Is1016 Fs1016 (by first | exact ⟨oq_09a0992e vs1016 hi.1 ws1011_77 ws1005_77 ws1007_77, by first | (clear hps1011 g1009 hps1007 hps1005; omega) | (clear g1009 hps1007 hps1005; omega) | omega, oq_b4d295d9 ws1016_75 hi.2.2.1 ws1011_75 ws1007_75 ws1005_75, by first | (clear hps1011 g1009 hps1007 hps1005; omega) | (clear g1009 hps1007 hps1005; omega) | omega, hi.2.2.2.2.1, hi.2.2.2.2.2.1, And.intro (hi.2.2.2.2.2.2.1.1) (hi.2.2.2.2.2.2.1.2), And.intro (hy1013.1) (hy1013.2), g1014⟩ | omega) (by first | (clear hps1011 g1009 hps1007 hps1005; omega) | (clear g1009 hps1007 hps1005; omega) | omega) kx
        ·
          refine z_ldc X (show cdA 196 75 = some (.ldc 208, 2, 0, 0, 100000) from rfl) ?_
          refine z_goto X (t := 82) (show cdA 196 77 = some (.goto 5, 3, 0, 0, 0) from rfl) (by decide) ?_
          refine z_store X (lv' := [(4, .int (Int32.ofInt 100000)), (0, .ref (A 179)), (1, .int (Int32.ofInt xv)), (2, .int (Int32.ofInt yv)), (3, .int (Int32.ofInt bv))]) (show cdA 196 82 = some (.istore 4, 2, 0, 0, 0) from rfl) (by decide) (fun _ h => h) ?_
          refine z_aload_n X (x := A 179) (show cdA 196 84 = some (.aload_n 0, 1, 0, 0, 0) from rfl) (List.Mem.tail _ (List.Mem.head _)) ?_
          refine w_dup X.1 (ax_d X (show cdA 196 85 = some (.dup, 1, 0, 0, 0) from rfl)) rfl ?_
          refine z_getI X 179 (show cdA 196 86 = some (.getfield 184, 3, 12, 4, 0) from rfl) (by decide) rfl rfl ?_
          have b1017 : (0 : Int) ≤ iI s1011 77 ∧ iI s1011 77 ≤ 400 := Is1011.1 77
          refine z_const X (show cdA 196 89 = some (.iconst 1, 1, 0, 0, 0) from rfl) ?_
          refine z_add X (show cdA 196 90 = some (.iadd, 1, 0, 0, 0) from rfl) ?_
          refine s_putI X 179 (show cdA 196 91 = some (.putfield 184, 3, 12, 4, 0) from rfl) (by decide) rfl rfl (by decide) rfl rfl rfl ?_
          obtain ⟨s1018, hs1018⟩ : ∃ x0, x0 = uI s1011 77 (Int32.ofInt ((iI s1011 77) + 1)) := ⟨_, rfl⟩
          rw [← hs1018]
          have Is1018 : Bd s1018 := by rw [hs1018]; exact bd_I Is1011 (show (0 : Int) ≤ ((iI s1011 77) + 1) ∧ ((iI s1011 77) + 1) ≤ 400 by first | exact ⟨oq_54f49eb5 b1017.1, by first | (clear hps1011 g1009 hps1007 hps1005; omega) | (clear g1009 hps1007 hps1005; omega) | omega⟩ | omega) ⟨by first | exact oq_74de1e16 b1017.1 | omega, by first | exact oq_964ce197 b1017.2 | omega⟩
          have Fs1018 := fm_I (x := Int32.ofInt ((iI s1011 77) + 1)) Gs1011 (show 77 ∈ _ by decide)
          rw [← hs1018] at Fs1018
          have vs1018 : iI s1018 77 = ((iI s1011 77) + 1) := by rw [hs1018]; exact iI_u ⟨by first | exact oq_74de1e16 b1017.1 | omega, by first | exact oq_964ce197 b1017.2 | omega⟩
          have ws1018_75 : iI s1018 75 = iI s1011 75 := by rw [hs1018]; rfl
          have ws1018_79 : iI s1018 79 = iI s1011 79 := by rw [hs1018]; rfl
          refine z_goto X (t := 35) (show cdA 196 94 = some (.goto (-59), 3, 0, 0, 0) from rfl) (by decide) ?_
          refine WS_lv (lv := [(0, .ref (A 179)), (1, .int (Int32.ofInt xv)), (2, .int (Int32.ofInt yv)), (3, .int (Int32.ofInt bv)), (4, .int (Int32.ofInt 100000))]) (List.forall_mem_cons.mpr ⟨(List.Mem.tail _ (List.Mem.head _)), (List.forall_mem_cons.mpr ⟨(List.Mem.tail _ (List.Mem.tail _ (List.Mem.head _))), (List.forall_mem_cons.mpr ⟨(List.Mem.tail _ (List.Mem.tail _ (List.Mem.tail _ (List.Mem.head _)))), (List.forall_mem_cons.mpr ⟨(List.Mem.tail _ (List.Mem.tail _ (List.Mem.tail _ (List.Mem.tail _ (List.Mem.head _))))), (List.forall_mem_cons.mpr ⟨(List.Mem.head _), (fun q h => absurd h List.not_mem_nil)⟩)⟩)⟩)⟩)⟩) ?_
          exact ih _ xv yv bv 100000 Is1018 Fs1018 (by first | exact ⟨oq_09a0992e vs1018 hi.1 ws1011_77 ws1005_77 ws1007_77, by first | (clear hps1011 g1009 hps1007 hps1005; omega) | (clear g1009 hps1007 hps1005; omega) | omega, oq_b4d295d9 ws1018_75 hi.2.2.1 ws1011_75 ws1007_75 ws1005_75, by first | (clear hps1011 g1009 hps1007 hps1005; omega) | (clear g1009 hps1007 hps1005; omega) | omega, hi.2.2.2.2.1, hi.2.2.2.2.2.1, And.intro (hi.2.2.2.2.2.2.1.1) (hi.2.2.2.2.2.2.1.2), And.intro (by decide) (by decide), by decide⟩ | omega) (by first | (clear hps1011 g1009 hps1007 hps1005; omega) | (clear g1009 hps1007 hps1005; omega) | omega) kx
  refine z_aload_n X (x := A 179) (show cdA 196 0 = some (.aload_n 0, 1, 0, 0, 0) from rfl) (List.Mem.head _) ?_
  refine z_callV X 179 (rm := rmN 193) (As := []) (st := []) (show cdA 196 1 = some (.invokevirtual 197, 3, 193, 0, 0) from rfl) rfl (by decide) rfl (by rw [E.1, E.2.1, E.2.2.1]; exact k_blanks G I (by first | exact p2 | omega)) ⟨by rw [E.2.2.2]; exact (show (rmN 193).frames + 1 ≤ (rmN 196).frames by decide), by rw [E.2.2.2]; exact (show 8 + (mNL (miB 193) + 11) + (rmN 193).locals ≤ (rmN 196).locals by decide), by rw [E.2.2.2]; exact (show 0 + (rmN 193).cells ≤ (rmN 196).cells by decide), by rw [E.2.2.2]; exact (show 0 + (rmN 193).slots ≤ (rmN 196).slots by decide)⟩ (Nat.le_of_ble_eq_true rfl) (fun vv s4 hq => ?_) (fun ee s4 hq => ?_)
  rotate_left
  · obtain ⟨Is4, Fs4, hv, hps4⟩ := hq; cases hv
  obtain ⟨Is4, Fs4, hv, hps4⟩ := hq
  have hps4p := hps4.1
  cases hv
  have Gs4 := fm_ts F Fs4 (by decide) (by decide)
  have b6 : (0 : Int) ≤ iI s4 77 ∧ iI s4 77 ≤ 400 := Is4.1 77
  have ws4_75 : iI s4 75 = iI s 75 := fm_i Fs4 (by decide)
  have ws4_79 : iI s4 79 = iI s 79 := fm_i Fs4 (by decide)
  show WS k 4 [(0, .ref (A 179)), (1, .int (Int32.ofInt x)), (2, .int (Int32.ofInt y))] [] (Wd A dT s4) 0 0
  refine z_aload_n X (x := A 179) (show cdA 196 4 = some (.aload_n 0, 1, 0, 0, 0) from rfl) (List.Mem.head _) ?_
  refine z_getI X 179 (show cdA 196 5 = some (.getfield 184, 3, 12, 4, 0) from rfl) (by decide) rfl rfl ?_
  have b7 : (0 : Int) ≤ iI s4 77 ∧ iI s4 77 ≤ 400 := Is4.1 77
  refine z_store_n X (lv' := [(3, .int (Int32.ofInt (iI s4 77))), (0, .ref (A 179)), (1, .int (Int32.ofInt x)), (2, .int (Int32.ofInt y))]) (show cdA 196 8 = some (.istore_n 3, 1, 0, 0, 0) from rfl) (by decide) (fun _ h => h) ?_
  refine z_const X (show cdA 196 9 = some (.iconst 0, 1, 0, 0, 0) from rfl) ?_
  refine z_store X (lv' := [(4, .int (Int32.ofInt 0)), (3, .int (Int32.ofInt (iI s4 77))), (0, .ref (A 179)), (1, .int (Int32.ofInt x)), (2, .int (Int32.ofInt y))]) (show cdA 196 10 = some (.istore 4, 2, 0, 0, 0) from rfl) (by decide) (fun _ h => h) ?_
  refine z_aload_n X (x := A 179) (show cdA 196 12 = some (.aload_n 0, 1, 0, 0, 0) from rfl) (List.Mem.tail _ (List.Mem.tail _ (List.Mem.head _))) ?_
  refine z_aload_n X (x := A 179) (show cdA 196 13 = some (.aload_n 0, 1, 0, 0, 0) from rfl) (List.Mem.tail _ (List.Mem.tail _ (List.Mem.head _))) ?_
  refine z_getI X 179 (show cdA 196 14 = some (.getfield 184, 3, 12, 4, 0) from rfl) (by decide) rfl rfl ?_
  have b8 : (0 : Int) ≤ iI s4 77 ∧ iI s4 77 ≤ 400 := Is4.1 77
  refine z_callV X 179 (rm := rmN 192) (As := [.int (Int32.ofInt (iI s4 77))]) (st := []) (show cdA 196 17 = some (.invokevirtual 187, 3, 192, 0, 0) from rfl) rfl (by decide) rfl (by rw [E.1, E.2.1, E.2.2.1]; exact k_byteAt G Is4 (by first | exact ⟨b8.1, oq_5a8480eb b8.2⟩ | omega)) ⟨by rw [E.2.2.2]; exact (show (rmN 192).frames + 1 ≤ (rmN 196).frames by decide), by rw [E.2.2.2]; exact (show 8 + (mNL (miB 192) + 11) + (rmN 192).locals ≤ (rmN 196).locals by decide), by rw [E.2.2.2]; exact (show 0 + (rmN 192).cells ≤ (rmN 196).cells by decide), by rw [E.2.2.2]; exact (show 0 + (rmN 192).slots ≤ (rmN 196).slots by decide)⟩ (Nat.le_of_ble_eq_true rfl) (fun vv s9 hq => ?_) (fun ee s9 hq => ?_)
  rotate_left
  · obtain ⟨Is9, Fs9, e10, hv, hrs9, hps9⟩ := hq; cases hv
  obtain ⟨Is9, Fs9, e10, hv, hrs9, hps9⟩ := hq
  cases hv
  have Gs9 := fm_ts Gs4 Fs9 (by decide) (by decide)
  have ws9_77 : iI s9 77 = iI s4 77 := fm_i Fs9 (by decide)
  have ws9_75 : iI s9 75 = iI s4 75 := fm_i Fs9 (by decide)
  have ws9_79 : iI s9 79 = iI s4 79 := fm_i Fs9 (by decide)
  show WS k 20 [(4, .int (Int32.ofInt 0)), (3, .int (Int32.ofInt (iI s4 77))), (0, .ref (A 179)), (1, .int (Int32.ofInt x)), (2, .int (Int32.ofInt y))] [.int (Int32.ofInt e10)] (Wd A dT s9) 0 0
  refine z_callS X (rm := rmN 195) (As := [.int (Int32.ofInt e10)]) (st := []) (show cdA 196 20 = some (.invokestatic 200, 3, 195, 1, 0) from rfl) rfl (by rw [E.1, E.2.1, E.2.2.1]; exact k_isDigit G Is9 (by first | (clear hps9 hps4; omega) | (clear hps4; omega) | omega)) ⟨by rw [E.2.2.2]; exact (show (rmN 195).frames + 1 ≤ (rmN 196).frames by decide), by rw [E.2.2.2]; exact (show 8 + (mNL (miB 195) + 11) + (rmN 195).locals ≤ (rmN 196).locals by decide), by rw [E.2.2.2]; exact (show 0 + (rmN 195).cells ≤ (rmN 196).cells by decide), by rw [E.2.2.2]; exact (show 0 + (rmN 195).slots ≤ (rmN 196).slots by decide)⟩ (Nat.le_of_ble_eq_true rfl) (fun vv s11 hq => ?_) (fun ee s11 hq => ?_)
  rotate_left
  · obtain ⟨Is11, Fs11, e12, hv, hrs11, hps11⟩ := hq; cases hv
  obtain ⟨Is11, Fs11, e12, hv, hrs11, hps11⟩ := hq
  cases hv
  have Gs11 := fm_ts Gs9 Fs11 (by decide) (by decide)
  have ws11_77 : iI s11 77 = iI s9 77 := fm_i Fs11 (by decide)
  have ws11_75 : iI s11 75 = iI s9 75 := fm_i Fs11 (by decide)
  have ws11_79 : iI s11 79 = iI s9 79 := fm_i Fs11 (by decide)
  show WS k 23 [(4, .int (Int32.ofInt 0)), (3, .int (Int32.ofInt (iI s4 77))), (0, .ref (A 179)), (1, .int (Int32.ofInt x)), (2, .int (Int32.ofInt y))] [.int (Int32.ofInt e12)] (Wd A dT s11) 0 0
  refine z_if_ne X (t := 35) (show cdA 196 23 = some (.ifCond .ne 12, 3, 1, 0, 0) from rfl) (by decide) hrs11 (fun g13 => ?_) (fun g13 => ?_)
  ·
    refine WS_lv (lv := [(0, .ref (A 179)), (1, .int (Int32.ofInt x)), (2, .int (Int32.ofInt y)), (3, .int (Int32.ofInt (iI s4 77))), (4, .int (Int32.ofInt 0))]) (List.forall_mem_cons.mpr ⟨(List.Mem.tail _ (List.Mem.tail _ (List.Mem.head _))), (List.forall_mem_cons.mpr ⟨(List.Mem.tail _ (List.Mem.tail _ (List.Mem.tail _ (List.Mem.head _)))), (List.forall_mem_cons.mpr ⟨(List.Mem.tail _ (List.Mem.tail _ (List.Mem.tail _ (List.Mem.tail _ (List.Mem.head _))))), (List.forall_mem_cons.mpr ⟨(List.Mem.tail _ (List.Mem.head _)), (List.forall_mem_cons.mpr ⟨(List.Mem.head _), (fun q h => absurd h List.not_mem_nil)⟩)⟩)⟩)⟩)⟩) ?_
    refine L35 ((iI s11 75 - iI s11 77 : Int).toNat + 1) s11 x y (iI s4 77) 0 Is11 Gs11 (by first | exact ⟨oq_2954f754 ws11_77 ws9_77 hps4.1, by first | (clear g13 hps11 hps9 hps4; omega) | (clear hps11 hps9 hps4; omega) | omega, oq_d0d2714e ws11_75 ws4_75 ws9_75, by first | (clear g13 hps11 hps9 hps4; omega) | (clear hps11 hps9 hps4; omega) | omega, by decide, by decide, And.intro (b8.1) (b8.2), And.intro (by decide) (by decide), by decide⟩ | omega) (Nat.lt_succ_self _) ?_
    intro s14 x15 x16 x17 x18 Is14 Fs14 hs14
    have b19 : (0 : Int) ≤ iI s14 77 ∧ iI s14 77 ≤ 400 := Is14.1 77
    have b20 : (0 : Int) ≤ iI s14 75 ∧ iI s14 75 ≤ 200 := Is14.1 75
    have b21 : (0 : Int) ≤ iI s14 79 ∧ iI s14 79 ≤ 9 := Is14.1 79
    refine z_load X (x := x18) (show cdA 196 97 = some (.iload 4, 2, 0, 0, 0) from rfl) (List.Mem.tail _ (List.Mem.tail _ (List.Mem.tail _ (List.Mem.tail _ (List.Mem.head _))))) ?_
    refine z_load_n X (x := x15) (show cdA 196 99 = some (.iload_n 1, 1, 0, 0, 0) from rfl) (List.Mem.tail _ (List.Mem.head _)) ?_
    refine z_load_n X (x := x16) (show cdA 196 100 = some (.iload_n 2, 1, 0, 0, 0) from rfl) (List.Mem.tail _ (List.Mem.tail _ (List.Mem.head _))) ?_
    refine z_callS X (rm := rmN 188) (As := [.int (Int32.ofInt x18), .int (Int32.ofInt x15), .int (Int32.ofInt x16)]) (st := []) (show cdA 196 101 = some (.invokestatic 209, 3, 188, 1, 0) from rfl) rfl (by rw [E.1, E.2.1, E.2.2.1]; exact k_in G Is14 (by first | exact ⟨hs14.2.2.2.2.2.2.2.1.1, hs14.2.2.2.2.2.2.2.1.2⟩ | omega) (by first | exact ⟨oq_6bc29d15 hs14.2.2.2.2.1 p0.1, oq_60a194f9 hs14.2.2.2.2.1 p0.2⟩ | omega) (by first | exact ⟨oq_6bc29d15 hs14.2.2.2.2.2.1 p1.1, oq_60a194f9 hs14.2.2.2.2.2.1 p1.2⟩ | omega)) ⟨by rw [E.2.2.2]; exact (show (rmN 188).frames + 1 ≤ (rmN 196).frames by decide), by rw [E.2.2.2]; exact (show 8 + (mNL (miB 188) + 11) + (rmN 188).locals ≤ (rmN 196).locals by decide), by rw [E.2.2.2]; exact (show 0 + (rmN 188).cells ≤ (rmN 196).cells by decide), by rw [E.2.2.2]; exact (show 0 + (rmN 188).slots ≤ (rmN 196).slots by decide)⟩ (Nat.le_of_ble_eq_true rfl) (fun vv s22 hq => ?_) (fun ee s22 hq => ?_)
    rotate_left
    · obtain ⟨Is22, Fs22, e23, hv, hrs22, hps22⟩ := hq; cases hv
    obtain ⟨Is22, Fs22, e23, hv, hrs22, hps22⟩ := hq
    cases hv
    have Gs22 := fm_ts Fs14 Fs22 (by decide) (by decide)
    have ws22_77 : iI s22 77 = iI s14 77 := fm_i Fs22 (by decide)
    have ws22_75 : iI s22 75 = iI s14 75 := fm_i Fs22 (by decide)
    have ws22_79 : iI s22 79 = iI s14 79 := fm_i Fs22 (by decide)
    show WS k 104 [(0, .ref (A 179)), (1, .int (Int32.ofInt x15)), (2, .int (Int32.ofInt x16)), (3, .int (Int32.ofInt x17)), (4, .int (Int32.ofInt x18))] [.int (Int32.ofInt e23)] (Wd A dT s22) 0 0
    refine z_if_ne X (t := 113) (show cdA 196 104 = some (.ifCond .ne 9, 3, 1, 0, 0) from rfl) (by decide) hrs22 (fun g24 => ?_) (fun g24 => ?_)
    ·
      refine z_load X (x := x18) (show cdA 196 113 = some (.iload 4, 2, 0, 0, 0) from rfl) (List.Mem.tail _ (List.Mem.tail _ (List.Mem.tail _ (List.Mem.tail _ (List.Mem.head _))))) ?_
      exact w_iret X.1 q hRt rfl (ax_d X (show cdA 196 115 = some (.ireturn, 1, 0, 0, 0) from rfl)) (Nat.zero_le _) (Nat.zero_le _) ⟨_, rfl, Is22, Gs22, x18, rfl, ⟨by first | exact hs14.2.2.2.2.2.2.2.1.1 | omega, by first | exact hs14.2.2.2.2.2.2.2.1.2 | omega⟩, by first | (clear g24 hps22 g13 hps11 hps9 hps4; omega) | (clear hps22 g13 hps11 hps9 hps4; omega) | omega⟩
    ·
      refine z_aload_n X (x := A 179) (show cdA 196 107 = some (.aload_n 0, 1, 0, 0, 0) from rfl) (List.Mem.head _) ?_
      refine z_const X (show cdA 196 108 = some (.iconst 2, 1, 0, 0, 0) from rfl) ?_
      refine z_load_n X (x := x17) (show cdA 196 109 = some (.iload_n 3, 1, 0, 0, 0) from rfl) (List.Mem.tail _ (List.Mem.tail _ (List.Mem.tail _ (List.Mem.head _)))) ?_
      refine z_callV X 179 (rm := rmN 194) (As := [.int (Int32.ofInt 2), .int (Int32.ofInt x17)]) (st := []) (show cdA 196 110 = some (.invokevirtual 204, 3, 194, 0, 0) from rfl) rfl (by decide) rfl (by rw [E.1, E.2.1, E.2.2.1]; exact k_wrong G Is22 (by first | exact ⟨by decide, by decide⟩ | omega) (by first | exact ⟨oq_ca54ea22 hs14.2.2.2.2.2.2.1.1, hs14.2.2.2.2.2.2.1.2⟩ | omega)) ⟨by rw [E.2.2.2]; exact (show (rmN 194).frames + 1 ≤ (rmN 196).frames by decide), by rw [E.2.2.2]; exact (show 8 + (mNL (miB 194) + 11) + (rmN 194).locals ≤ (rmN 196).locals by decide), by rw [E.2.2.2]; exact (show 0 + (rmN 194).cells ≤ (rmN 196).cells by decide), by rw [E.2.2.2]; exact (show 0 + (rmN 194).slots ≤ (rmN 196).slots by decide)⟩ (Nat.le_of_ble_eq_true rfl) (fun vv s25 hq => ?_) (fun ee s25 hq => ?_)
      rotate_left
      · obtain ⟨Is25, Fs25, hv, hps25⟩ := hq; cases hv
      obtain ⟨Is25, Fs25, hv, hps25⟩ := hq
      cases hv
      have Gs25 := fm_ts Gs22 Fs25 (by decide) (by decide)
      have ws25_77 : iI s25 77 = iI s22 77 := fm_i Fs25 (by decide)
      have ws25_75 : iI s25 75 = iI s22 75 := fm_i Fs25 (by decide)
      have b27 : (0 : Int) ≤ iI s25 79 ∧ iI s25 79 ≤ 9 := Is25.1 79
      show WS k 113 [(0, .ref (A 179)), (1, .int (Int32.ofInt x15)), (2, .int (Int32.ofInt x16)), (3, .int (Int32.ofInt x17)), (4, .int (Int32.ofInt x18))] [] (Wd A dT s25) 0 0
      refine z_load X (x := x18) (show cdA 196 113 = some (.iload 4, 2, 0, 0, 0) from rfl) (List.Mem.tail _ (List.Mem.tail _ (List.Mem.tail _ (List.Mem.tail _ (List.Mem.head _))))) ?_
      exact w_iret X.1 q hRt rfl (ax_d X (show cdA 196 115 = some (.ireturn, 1, 0, 0, 0) from rfl)) (Nat.zero_le _) (Nat.zero_le _) ⟨_, rfl, Is25, Gs25, x18, rfl, ⟨by first | exact hs14.2.2.2.2.2.2.2.1.1 | omega, by first | exact hs14.2.2.2.2.2.2.2.1.2 | omega⟩, by first | (clear hps25 hps22 g13 hps11 hps9 hps4; omega) | (clear hps22 g13 hps11 hps9 hps4; omega) | omega⟩
  ·
    refine z_aload_n X (x := A 179) (show cdA 196 26 = some (.aload_n 0, 1, 0, 0, 0) from rfl) (List.Mem.tail _ (List.Mem.tail _ (List.Mem.head _))) ?_
    refine z_const X (show cdA 196 27 = some (.iconst 1, 1, 0, 0, 0) from rfl) ?_
    refine z_aload_n X (x := A 179) (show cdA 196 28 = some (.aload_n 0, 1, 0, 0, 0) from rfl) (List.Mem.tail _ (List.Mem.tail _ (List.Mem.head _))) ?_
    refine z_getI X 179 (show cdA 196 29 = some (.getfield 184, 3, 12, 4, 0) from rfl) (by decide) rfl rfl ?_
    have b28 : (0 : Int) ≤ iI s11 77 ∧ iI s11 77 ≤ 400 := Is11.1 77
    refine z_callV X 179 (rm := rmN 194) (As := [.int (Int32.ofInt 1), .int (Int32.ofInt (iI s11 77))]) (st := []) (show cdA 196 32 = some (.invokevirtual 204, 3, 194, 0, 0) from rfl) rfl (by decide) rfl (by rw [E.1, E.2.1, E.2.2.1]; exact k_wrong G Is11 (by first | exact ⟨by decide, by decide⟩ | omega) (by first | exact ⟨oq_ca54ea22 b28.1, b28.2⟩ | omega)) ⟨by rw [E.2.2.2]; exact (show (rmN 194).frames + 1 ≤ (rmN 196).frames by decide), by rw [E.2.2.2]; exact (show 8 + (mNL (miB 194) + 11) + (rmN 194).locals ≤ (rmN 196).locals by decide), by rw [E.2.2.2]; exact (show 0 + (rmN 194).cells ≤ (rmN 196).cells by decide), by rw [E.2.2.2]; exact (show 0 + (rmN 194).slots ≤ (rmN 196).slots by decide)⟩ (Nat.le_of_ble_eq_true rfl) (fun vv s29 hq => ?_) (fun ee s29 hq => ?_)
    rotate_left
    · obtain ⟨Is29, Fs29, hv, hps29⟩ := hq; cases hv
    obtain ⟨Is29, Fs29, hv, hps29⟩ := hq
    cases hv
    have Gs29 := fm_ts Gs11 Fs29 (by decide) (by decide)
    have ws29_77 : iI s29 77 = iI s11 77 := fm_i Fs29 (by decide)
    have ws29_75 : iI s29 75 = iI s11 75 := fm_i Fs29 (by decide)
    have b31 : (0 : Int) ≤ iI s29 79 ∧ iI s29 79 ≤ 9 := Is29.1 79
    show WS k 35 [(4, .int (Int32.ofInt 0)), (3, .int (Int32.ofInt (iI s4 77))), (0, .ref (A 179)), (1, .int (Int32.ofInt x)), (2, .int (Int32.ofInt y))] [] (Wd A dT s29) 0 0
    refine WS_lv (lv := [(0, .ref (A 179)), (1, .int (Int32.ofInt x)), (2, .int (Int32.ofInt y)), (3, .int (Int32.ofInt (iI s4 77))), (4, .int (Int32.ofInt 0))]) (List.forall_mem_cons.mpr ⟨(List.Mem.tail _ (List.Mem.tail _ (List.Mem.head _))), (List.forall_mem_cons.mpr ⟨(List.Mem.tail _ (List.Mem.tail _ (List.Mem.tail _ (List.Mem.head _)))), (List.forall_mem_cons.mpr ⟨(List.Mem.tail _ (List.Mem.tail _ (List.Mem.tail _ (List.Mem.tail _ (List.Mem.head _))))), (List.forall_mem_cons.mpr ⟨(List.Mem.tail _ (List.Mem.head _)), (List.forall_mem_cons.mpr ⟨(List.Mem.head _), (fun q h => absurd h List.not_mem_nil)⟩)⟩)⟩)⟩)⟩) ?_
    refine L35 ((iI s29 75 - iI s29 77 : Int).toNat + 1) s29 x y (iI s4 77) 0 Is29 Gs29 (by first | exact ⟨oq_bd4a8eb1 ws29_77 hps4.1 ws11_77 ws9_77, by first | (clear hps29 hps11 hps9 hps4; omega) | (clear hps11 hps9 hps4; omega) | omega, oq_45b593e3 ws29_75 ws4_75 ws11_75 ws9_75, by first | (clear hps29 hps11 hps9 hps4; omega) | (clear hps11 hps9 hps4; omega) | omega, by decide, by decide, And.intro (b8.1) (b8.2), And.intro (by decide) (by decide), by decide⟩ | omega) (Nat.lt_succ_self _) ?_
    intro s32 x33 x34 x35 x36 Is32 Fs32 hs32
    have b37 : (0 : Int) ≤ iI s32 77 ∧ iI s32 77 ≤ 400 := Is32.1 77
    have b38 : (0 : Int) ≤ iI s32 75 ∧ iI s32 75 ≤ 200 := Is32.1 75
    have b39 : (0 : Int) ≤ iI s32 79 ∧ iI s32 79 ≤ 9 := Is32.1 79
    refine z_load X (x := x36) (show cdA 196 97 = some (.iload 4, 2, 0, 0, 0) from rfl) (List.Mem.tail _ (List.Mem.tail _ (List.Mem.tail _ (List.Mem.tail _ (List.Mem.head _))))) ?_
    refine z_load_n X (x := x33) (show cdA 196 99 = some (.iload_n 1, 1, 0, 0, 0) from rfl) (List.Mem.tail _ (List.Mem.head _)) ?_
    refine z_load_n X (x := x34) (show cdA 196 100 = some (.iload_n 2, 1, 0, 0, 0) from rfl) (List.Mem.tail _ (List.Mem.tail _ (List.Mem.head _))) ?_
    refine z_callS X (rm := rmN 188) (As := [.int (Int32.ofInt x36), .int (Int32.ofInt x33), .int (Int32.ofInt x34)]) (st := []) (show cdA 196 101 = some (.invokestatic 209, 3, 188, 1, 0) from rfl) rfl (by rw [E.1, E.2.1, E.2.2.1]; exact k_in G Is32 (by first | exact ⟨hs32.2.2.2.2.2.2.2.1.1, hs32.2.2.2.2.2.2.2.1.2⟩ | omega) (by first | exact ⟨oq_6bc29d15 hs32.2.2.2.2.1 p0.1, oq_60a194f9 hs32.2.2.2.2.1 p0.2⟩ | omega) (by first | exact ⟨oq_6bc29d15 hs32.2.2.2.2.2.1 p1.1, oq_60a194f9 hs32.2.2.2.2.2.1 p1.2⟩ | omega)) ⟨by rw [E.2.2.2]; exact (show (rmN 188).frames + 1 ≤ (rmN 196).frames by decide), by rw [E.2.2.2]; exact (show 8 + (mNL (miB 188) + 11) + (rmN 188).locals ≤ (rmN 196).locals by decide), by rw [E.2.2.2]; exact (show 0 + (rmN 188).cells ≤ (rmN 196).cells by decide), by rw [E.2.2.2]; exact (show 0 + (rmN 188).slots ≤ (rmN 196).slots by decide)⟩ (Nat.le_of_ble_eq_true rfl) (fun vv s40 hq => ?_) (fun ee s40 hq => ?_)
    rotate_left
    · obtain ⟨Is40, Fs40, e41, hv, hrs40, hps40⟩ := hq; cases hv
    obtain ⟨Is40, Fs40, e41, hv, hrs40, hps40⟩ := hq
    cases hv
    have Gs40 := fm_ts Fs32 Fs40 (by decide) (by decide)
    have ws40_77 : iI s40 77 = iI s32 77 := fm_i Fs40 (by decide)
    have ws40_75 : iI s40 75 = iI s32 75 := fm_i Fs40 (by decide)
    have ws40_79 : iI s40 79 = iI s32 79 := fm_i Fs40 (by decide)
    show WS k 104 [(0, .ref (A 179)), (1, .int (Int32.ofInt x33)), (2, .int (Int32.ofInt x34)), (3, .int (Int32.ofInt x35)), (4, .int (Int32.ofInt x36))] [.int (Int32.ofInt e41)] (Wd A dT s40) 0 0
    refine z_if_ne X (t := 113) (show cdA 196 104 = some (.ifCond .ne 9, 3, 1, 0, 0) from rfl) (by decide) hrs40 (fun g42 => ?_) (fun g42 => ?_)
    ·
      refine z_load X (x := x36) (show cdA 196 113 = some (.iload 4, 2, 0, 0, 0) from rfl) (List.Mem.tail _ (List.Mem.tail _ (List.Mem.tail _ (List.Mem.tail _ (List.Mem.head _))))) ?_
      exact w_iret X.1 q hRt rfl (ax_d X (show cdA 196 115 = some (.ireturn, 1, 0, 0, 0) from rfl)) (Nat.zero_le _) (Nat.zero_le _) ⟨_, rfl, Is40, Gs40, x36, rfl, ⟨by first | exact hs32.2.2.2.2.2.2.2.1.1 | omega, by first | exact hs32.2.2.2.2.2.2.2.1.2 | omega⟩, by first | (clear g42 hps40 hps29 hps11 hps9 hps4; omega) | (clear hps40 hps29 hps11 hps9 hps4; omega) | omega⟩
    ·
      refine z_aload_n X (x := A 179) (show cdA 196 107 = some (.aload_n 0, 1, 0, 0, 0) from rfl) (List.Mem.head _) ?_
      refine z_const X (show cdA 196 108 = some (.iconst 2, 1, 0, 0, 0) from rfl) ?_
      refine z_load_n X (x := x35) (show cdA 196 109 = some (.iload_n 3, 1, 0, 0, 0) from rfl) (List.Mem.tail _ (List.Mem.tail _ (List.Mem.tail _ (List.Mem.head _)))) ?_
      refine z_callV X 179 (rm := rmN 194) (As := [.int (Int32.ofInt 2), .int (Int32.ofInt x35)]) (st := []) (show cdA 196 110 = some (.invokevirtual 204, 3, 194, 0, 0) from rfl) rfl (by decide) rfl (by rw [E.1, E.2.1, E.2.2.1]; exact k_wrong G Is40 (by first | exact ⟨by decide, by decide⟩ | omega) (by first | exact ⟨oq_ca54ea22 hs32.2.2.2.2.2.2.1.1, hs32.2.2.2.2.2.2.1.2⟩ | omega)) ⟨by rw [E.2.2.2]; exact (show (rmN 194).frames + 1 ≤ (rmN 196).frames by decide), by rw [E.2.2.2]; exact (show 8 + (mNL (miB 194) + 11) + (rmN 194).locals ≤ (rmN 196).locals by decide), by rw [E.2.2.2]; exact (show 0 + (rmN 194).cells ≤ (rmN 196).cells by decide), by rw [E.2.2.2]; exact (show 0 + (rmN 194).slots ≤ (rmN 196).slots by decide)⟩ (Nat.le_of_ble_eq_true rfl) (fun vv s43 hq => ?_) (fun ee s43 hq => ?_)
      rotate_left
      · obtain ⟨Is43, Fs43, hv, hps43⟩ := hq; cases hv
      obtain ⟨Is43, Fs43, hv, hps43⟩ := hq
      cases hv
      have Gs43 := fm_ts Gs40 Fs43 (by decide) (by decide)
      have ws43_77 : iI s43 77 = iI s40 77 := fm_i Fs43 (by decide)
      have ws43_75 : iI s43 75 = iI s40 75 := fm_i Fs43 (by decide)
      have b45 : (0 : Int) ≤ iI s43 79 ∧ iI s43 79 ≤ 9 := Is43.1 79
      show WS k 113 [(0, .ref (A 179)), (1, .int (Int32.ofInt x33)), (2, .int (Int32.ofInt x34)), (3, .int (Int32.ofInt x35)), (4, .int (Int32.ofInt x36))] [] (Wd A dT s43) 0 0
      refine z_load X (x := x36) (show cdA 196 113 = some (.iload 4, 2, 0, 0, 0) from rfl) (List.Mem.tail _ (List.Mem.tail _ (List.Mem.tail _ (List.Mem.tail _ (List.Mem.head _))))) ?_
      exact w_iret X.1 q hRt rfl (ax_d X (show cdA 196 115 = some (.ireturn, 1, 0, 0, 0) from rfl)) (Nat.zero_le _) (Nat.zero_le _) ⟨_, rfl, Is43, Gs43, x36, rfl, ⟨by first | exact hs32.2.2.2.2.2.2.2.1.1 | omega, by first | exact hs32.2.2.2.2.2.2.2.1.2 | omega⟩, by first | (clear hps43 hps40 hps29 hps11 hps9 hps4; omega) | (clear hps40 hps29 hps11 hps9 hps4; omega) | omega⟩
theorem k_wordHere (G : GX l s0 D tys a0 dT) (I : Bd s) (p0 : iI s 77 ≤ 390) : CT l s0 D A dT 201 (rmN 201) [.ref (A 179)] s (fun o t => Bd t ∧ Fm [77] [] s t ∧ ∃ e, o = .inl (some (.int (Int32.ofInt e))) ∧ rng e ∧ (iI s 77 ≤ iI t 77 ∧ (iI t 77 = iI s 77 ∨ iI t 77 ≤ iI s 75) ∧ (e ≠ 0 → iI t 77 < iI s 75))) := by
  refine ct_of G (by decide) (Nat.le_of_ble_eq_true rfl) (fun k X E hRt hXt q => ?_)
  show WS k 0 [(0, .ref (A 179))] [] _ 0 0
  have F : Fm [77] [] s s := fm_rf _ _ s
  have b1 : (0 : Int) ≤ iI s 77 ∧ iI s 77 ≤ 400 := I.1 77
  have b2 : (0 : Int) ≤ iI s 75 ∧ iI s 75 ≤ 200 := I.1 75
  have L8 : ∀ (n : Nat) (t : PS) (vv nv : Int), Bd t → Fm [77] [] s t → (iI s 77 ≤ iI t 77 ∧ (iI t 77 = iI s 77 ∨ iI t 77 ≤ iI s 75) ∧ iI t 75 = iI s 75 ∧ rng vv ∧ 0 ≤ nv ∧ nv ≤ 200 ∧ (nv = 0 → vv = 0) ∧ (1 ≤ nv → iI t 77 < iI s 75)) → (200 - nv : Int).toNat < n → (∀ (t' : PS) (vv' nv' : Int), Bd t' → Fm [77] [] s t' → (iI s 77 ≤ iI t' 77 ∧ (iI t' 77 = iI s 77 ∨ iI t' 77 ≤ iI s 75) ∧ iI t' 75 = iI s 75 ∧ rng vv' ∧ 0 ≤ nv' ∧ nv' ≤ 200 ∧ (nv' = 0 → vv' = 0) ∧ (1 ≤ nv' → iI t' 77 < iI s 75)) → WS k 75 [(0, .ref (A 179)), (1, .int (Int32.ofInt vv')), (2, .int (Int32.ofInt nv'))] [] (Wd A dT t') 0 0) → WS k 8 [(0, .ref (A 179)), (1, .int (Int32.ofInt vv)), (2, .int (Int32.ofInt nv))] [] (Wd A dT t) 0 0 := by
    intro n
    induction n with
    | zero =>
      intro t vv nv I F hi hm kx
      exact absurd hm (Nat.not_lt_zero _)
    | succ n ih =>
      intro t vv nv I F hi hm kx
      have b1001 : (0 : Int) ≤ iI t 77 ∧ iI t 77 ≤ 400 := I.1 77
      have b1002 : (0 : Int) ≤ iI t 75 ∧ iI t 75 ≤ 200 := I.1 75
      refine z_aload_n X (x := A 179) (show cdA 201 8 = some (.aload_n 0, 1, 0, 0, 0) from rfl) (List.Mem.head _) ?_
      refine z_aload_n X (x := A 179) (show cdA 201 9 = some (.aload_n 0, 1, 0, 0, 0) from rfl) (List.Mem.head _) ?_
      refine z_getI X 179 (show cdA 201 10 = some (.getfield 184, 3, 12, 4, 0) from rfl) (by decide) rfl rfl ?_
      have b1003 : (0 : Int) ≤ iI t 77 ∧ iI t 77 ≤ 400 := I.1 77
      refine z_load_n X (x := nv) (show cdA 201 13 = some (.iload_n 2, 1, 0, 0, 0) from rfl) (List.Mem.tail _ (List.Mem.tail _ (List.Mem.head _))) ?_
      refine z_add X (show cdA 201 14 = some (.iadd, 1, 0, 0, 0) from rfl) ?_
      refine z_callV X 179 (rm := rmN 192) (As := [.int (Int32.ofInt ((iI t 77) + nv))]) (st := []) (show cdA 201 15 = some (.invokevirtual 187, 3, 192, 0, 0) from rfl) rfl (by decide) rfl (by rw [E.1, E.2.1, E.2.2.1]; exact k_byteAt G I (by first | exact ⟨oq_d8d6a599 hi.2.2.2.2.1 b1003.1, oq_faec2b3d hi.2.2.2.2.2.1 b1003.2⟩ | omega)) ⟨by rw [E.2.2.2]; exact (show (rmN 192).frames + 1 ≤ (rmN 201).frames by decide), by rw [E.2.2.2]; exact (show 8 + (mNL (miB 192) + 11) + (rmN 192).locals ≤ (rmN 201).locals by decide), by rw [E.2.2.2]; exact (show 0 + (rmN 192).cells ≤ (rmN 201).cells by decide), by rw [E.2.2.2]; exact (show 0 + (rmN 192).slots ≤ (rmN 201).slots by decide)⟩ (Nat.le_of_ble_eq_true rfl) (fun vv s1004 hq => ?_) (fun ee s1004 hq => ?_)
      rotate_left
      · obtain ⟨Is1004, Fs1004, e1005, hv, hrs1004, hps1004⟩ := hq; cases hv
      obtain ⟨Is1004, Fs1004, e1005, hv, hrs1004, hps1004⟩ := hq
      cases hv
      have Gs1004 := fm_ts F Fs1004 (by decide) (by decide)
      have ws1004_77 : iI s1004 77 = iI t 77 := fm_i Fs1004 (by decide)
      have ws1004_75 : iI s1004 75 = iI t 75 := fm_i Fs1004 (by decide)
      show WS k 18 [(0, .ref (A 179)), (1, .int (Int32.ofInt vv)), (2, .int (Int32.ofInt nv))] [.int (Int32.ofInt e1005)] (Wd A dT s1004) 0 0
      refine z_bipush X (show cdA 201 18 = some (.bipush 97, 2, 0, 0, 97) from rfl) ?_
      refine z_icmp_lt X (t := 75) (show cdA 201 20 = some (.if_icmp .lt 55, 3, 2, 0, 0) from rfl) (by decide) hrs1004 (by decide) (fun g1006 => ?_) (fun g1006 => ?_)
      ·
        refine WS_lv (lv := [(0, .ref (A 179)), (1, .int (Int32.ofInt vv)), (2, .int (Int32.ofInt nv))]) (List.forall_mem_cons.mpr ⟨(List.Mem.head _), (List.forall_mem_cons.mpr ⟨(List.Mem.tail _ (List.Mem.head _)), (List.forall_mem_cons.mpr ⟨(List.Mem.tail _ (List.Mem.tail _ (List.Mem.head _))), (fun q h => absurd h List.not_mem_nil)⟩)⟩)⟩) ?_
        exact kx _ vv nv Is1004 Gs1004 (by first | exact ⟨oq_9272904e ws1004_77 hi.1, by first | (clear hps1004; omega) | omega, oq_1aa5be9e ws1004_75 hi.2.2.1, And.intro (hi.2.2.2.1.1) (hi.2.2.2.1.2), hi.2.2.2.2.1, hi.2.2.2.2.2.1, hi.2.2.2.2.2.2.1, by first | (clear hps1004; omega) | omega⟩ | omega)
      ·
        refine z_aload_n X (x := A 179) (show cdA 201 23 = some (.aload_n 0, 1, 0, 0, 0) from rfl) (List.Mem.head _) ?_
        refine z_aload_n X (x := A 179) (show cdA 201 24 = some (.aload_n 0, 1, 0, 0, 0) from rfl) (List.Mem.head _) ?_
        refine z_getI X 179 (show cdA 201 25 = some (.getfield 184, 3, 12, 4, 0) from rfl) (by decide) rfl rfl ?_
        have b1007 : (0 : Int) ≤ iI s1004 77 ∧ iI s1004 77 ≤ 400 := Is1004.1 77
        refine z_load_n X (x := nv) (show cdA 201 28 = some (.iload_n 2, 1, 0, 0, 0) from rfl) (List.Mem.tail _ (List.Mem.tail _ (List.Mem.head _))) ?_
        refine z_add X (show cdA 201 29 = some (.iadd, 1, 0, 0, 0) from rfl) ?_
        refine z_callV X 179 (rm := rmN 192) (As := [.int (Int32.ofInt ((iI s1004 77) + nv))]) (st := []) (show cdA 201 30 = some (.invokevirtual 187, 3, 192, 0, 0) from rfl) rfl (by decide) rfl (by rw [E.1, E.2.1, E.2.2.1]; exact k_byteAt G Is1004 (by first | exact ⟨oq_d8d6a599 hi.2.2.2.2.1 b1007.1, oq_faec2b3d hi.2.2.2.2.2.1 b1007.2⟩ | omega)) ⟨by rw [E.2.2.2]; exact (show (rmN 192).frames + 1 ≤ (rmN 201).frames by decide), by rw [E.2.2.2]; exact (show 8 + (mNL (miB 192) + 11) + (rmN 192).locals ≤ (rmN 201).locals by decide), by rw [E.2.2.2]; exact (show 0 + (rmN 192).cells ≤ (rmN 201).cells by decide), by rw [E.2.2.2]; exact (show 0 + (rmN 192).slots ≤ (rmN 201).slots by decide)⟩ (Nat.le_of_ble_eq_true rfl) (fun vv s1008 hq => ?_) (fun ee s1008 hq => ?_)
        rotate_left
        · obtain ⟨Is1008, Fs1008, e1009, hv, hrs1008, hps1008⟩ := hq; cases hv
        obtain ⟨Is1008, Fs1008, e1009, hv, hrs1008, hps1008⟩ := hq
        cases hv
        have Gs1008 := fm_ts Gs1004 Fs1008 (by decide) (by decide)
        have ws1008_77 : iI s1008 77 = iI s1004 77 := fm_i Fs1008 (by decide)
        have ws1008_75 : iI s1008 75 = iI s1004 75 := fm_i Fs1008 (by decide)
        show WS k 33 [(0, .ref (A 179)), (1, .int (Int32.ofInt vv)), (2, .int (Int32.ofInt nv))] [.int (Int32.ofInt e1009)] (Wd A dT s1008) 0 0
        refine z_bipush X (show cdA 201 33 = some (.bipush 122, 2, 0, 0, 122) from rfl) ?_
        refine z_icmp_gt X (t := 75) (show cdA 201 35 = some (.if_icmp .gt 40, 3, 4, 0, 0) from rfl) (by decide) hrs1008 (by decide) (fun g1010 => ?_) (fun g1010 => ?_)
        ·
          refine WS_lv (lv := [(0, .ref (A 179)), (1, .int (Int32.ofInt vv)), (2, .int (Int32.ofInt nv))]) (List.forall_mem_cons.mpr ⟨(List.Mem.head _), (List.forall_mem_cons.mpr ⟨(List.Mem.tail _ (List.Mem.head _)), (List.forall_mem_cons.mpr ⟨(List.Mem.tail _ (List.Mem.tail _ (List.Mem.head _))), (fun q h => absurd h List.not_mem_nil)⟩)⟩)⟩) ?_
          exact kx _ vv nv Is1008 Gs1008 (by first | exact ⟨oq_143762c7 ws1008_77 hi.1 ws1004_77, by first | (clear hps1008 hps1004; omega) | (clear hps1004; omega) | omega, oq_d0d2714e ws1008_75 hi.2.2.1 ws1004_75, And.intro (hi.2.2.2.1.1) (hi.2.2.2.1.2), hi.2.2.2.2.1, hi.2.2.2.2.2.1, hi.2.2.2.2.2.2.1, by first | (clear hps1008 hps1004; omega) | (clear hps1004; omega) | omega⟩ | omega)
        ·
          refine z_load_n X (x := nv) (show cdA 201 38 = some (.iload_n 2, 1, 0, 0, 0) from rfl) (List.Mem.tail _ (List.Mem.tail _ (List.Mem.head _))) ?_
          refine z_bipush X (show cdA 201 39 = some (.bipush 6, 2, 0, 0, 6) from rfl) ?_
          refine z_icmp_ge X (t := 67) (show cdA 201 41 = some (.if_icmp .ge 26, 3, 3, 0, 0) from rfl) (by decide) ⟨by first | exact oq_fa4e5087 hi.2.2.2.2.1 | omega, by first | exact oq_52af2b96 hi.2.2.2.2.2.1 | omega⟩ (by decide) (fun g1011 => ?_) (fun g1011 => ?_)
          ·
            refine z_load_n X (x := vv) (show cdA 201 67 = some (.iload_n 1, 1, 0, 0, 0) from rfl) (List.Mem.tail _ (List.Mem.head _)) ?_
            refine z_store_n X (lv' := [(1, .int (Int32.ofInt vv)), (0, .ref (A 179)), (2, .int (Int32.ofInt nv))]) (show cdA 201 68 = some (.istore_n 1, 1, 0, 0, 0) from rfl) (by decide) (fun _ h => h) ?_
            refine z_inc X (x := nv) (lv' := [(2, .int (Int32.ofInt (nv + 1))), (1, .int (Int32.ofInt vv)), (0, .ref (A 179))]) (show cdA 201 69 = some (.iinc 2 1, 3, 0, 0, 0) from rfl) (by decide) (List.Mem.tail _ (List.Mem.tail _ (List.Mem.head _))) (fun _ h => h) ?_
            refine z_goto X (t := 8) (show cdA 201 72 = some (.goto (-64), 3, 0, 0, 0) from rfl) (by decide) ?_
            refine WS_lv (lv := [(0, .ref (A 179)), (1, .int (Int32.ofInt vv)), (2, .int (Int32.ofInt (nv + 1)))]) (List.forall_mem_cons.mpr ⟨(List.Mem.tail _ (List.Mem.tail _ (List.Mem.head _))), (List.forall_mem_cons.mpr ⟨(List.Mem.tail _ (List.Mem.head _)), (List.forall_mem_cons.mpr ⟨(List.Mem.head _), (fun q h => absurd h List.not_mem_nil)⟩)⟩)⟩) ?_
            exact ih _ vv (nv + 1) Is1008 Gs1008 (by first | (clear hps1008 hps1004; omega) | (clear hps1004; omega) | omega) (by first | (clear hps1008 hps1004; omega) | (clear hps1004; omega) | omega) kx
          ·
            refine z_bipush X (show cdA 201 44 = some (.bipush 27, 2, 0, 0, 27) from rfl) ?_
            refine z_load_n X (x := vv) (show cdA 201 46 = some (.iload_n 1, 1, 0, 0, 0) from rfl) (List.Mem.tail _ (List.Mem.head _)) ?_
            refine z_mul X (show cdA 201 47 = some (.imul, 1, 0, 0, 0) from rfl) ?_
            refine z_aload_n X (x := A 179) (show cdA 201 48 = some (.aload_n 0, 1, 0, 0, 0) from rfl) (List.Mem.head _) ?_
            refine z_aload_n X (x := A 179) (show cdA 201 49 = some (.aload_n 0, 1, 0, 0, 0) from rfl) (List.Mem.head _) ?_
            refine z_getI X 179 (show cdA 201 50 = some (.getfield 184, 3, 12, 4, 0) from rfl) (by decide) rfl rfl ?_
            have b1012 : (0 : Int) ≤ iI s1008 77 ∧ iI s1008 77 ≤ 400 := Is1008.1 77
            refine z_load_n X (x := nv) (show cdA 201 53 = some (.iload_n 2, 1, 0, 0, 0) from rfl) (List.Mem.tail _ (List.Mem.tail _ (List.Mem.head _))) ?_
            refine z_add X (show cdA 201 54 = some (.iadd, 1, 0, 0, 0) from rfl) ?_
            refine z_callV X 179 (rm := rmN 192) (As := [.int (Int32.ofInt ((iI s1008 77) + nv))]) (st := [.int (Int32.ofInt (27 * vv))]) (show cdA 201 55 = some (.invokevirtual 187, 3, 192, 0, 0) from rfl) rfl (by decide) rfl (by rw [E.1, E.2.1, E.2.2.1]; exact k_byteAt G Is1008 (by first | exact ⟨oq_d8d6a599 hi.2.2.2.2.1 b1012.1, oq_0835e488 b1012.2 g1011⟩ | omega)) ⟨by rw [E.2.2.2]; exact (show (rmN 192).frames + 1 ≤ (rmN 201).frames by decide), by rw [E.2.2.2]; exact (show 8 + (mNL (miB 192) + 11) + (rmN 192).locals ≤ (rmN 201).locals by decide), by rw [E.2.2.2]; exact (show 0 + (rmN 192).cells ≤ (rmN 201).cells by decide), by rw [E.2.2.2]; exact (show 0 + (rmN 192).slots ≤ (rmN 201).slots by decide)⟩ (Nat.le_of_ble_eq_true rfl) (fun vv s1013 hq => ?_) (fun ee s1013 hq => ?_)
            rotate_left
            · obtain ⟨Is1013, Fs1013, e1014, hv, hrs1013, hps1013⟩ := hq; cases hv
            obtain ⟨Is1013, Fs1013, e1014, hv, hrs1013, hps1013⟩ := hq
            cases hv
            have Gs1013 := fm_ts Gs1008 Fs1013 (by decide) (by decide)
            have ws1013_77 : iI s1013 77 = iI s1008 77 := fm_i Fs1013 (by decide)
            have ws1013_75 : iI s1013 75 = iI s1008 75 := fm_i Fs1013 (by decide)
            show WS k 58 [(0, .ref (A 179)), (1, .int (Int32.ofInt vv)), (2, .int (Int32.ofInt nv))] [.int (Int32.ofInt e1014), .int (Int32.ofInt (27 * vv))] (Wd A dT s1013) 0 0
            refine z_add X (show cdA 201 58 = some (.iadd, 1, 0, 0, 0) from rfl) ?_
            refine z_bipush X (show cdA 201 59 = some (.bipush 97, 2, 0, 0, 97) from rfl) ?_
            refine z_sub X (show cdA 201 61 = some (.isub, 1, 0, 0, 0) from rfl) ?_
            refine z_const X (show cdA 201 62 = some (.iconst 1, 1, 0, 0, 0) from rfl) ?_
            refine z_add X (show cdA 201 63 = some (.iadd, 1, 0, 0, 0) from rfl) ?_
            refine z_any (fun y1015 hy1015 => ?_)
            refine z_goto X (t := 68) (show cdA 201 64 = some (.goto 4, 3, 0, 0, 0) from rfl) (by decide) ?_
            refine z_store_n X (lv' := [(1, .int (Int32.ofInt y1015)), (0, .ref (A 179)), (2, .int (Int32.ofInt nv))]) (show cdA 201 68 = some (.istore_n 1, 1, 0, 0, 0) from rfl) (by decide) (fun _ h => h) ?_
            refine z_inc X (x := nv) (lv' := [(2, .int (Int32.ofInt (nv + 1))), (1, .int (Int32.ofInt y1015)), (0, .ref (A 179))]) (show cdA 201 69 = some (.iinc 2 1, 3, 0, 0, 0) from rfl) (by decide) (List.Mem.tail _ (List.Mem.tail _ (List.Mem.head _))) (fun _ h => h) ?_
            refine z_goto X (t := 8) (show cdA 201 72 = some (.goto (-64), 3, 0, 0, 0) from rfl) (by decide) ?_
            refine WS_lv (lv := [(0, .ref (A 179)), (1, .int (Int32.ofInt y1015)), (2, .int (Int32.ofInt (nv + 1)))]) (List.forall_mem_cons.mpr ⟨(List.Mem.tail _ (List.Mem.tail _ (List.Mem.head _))), (List.forall_mem_cons.mpr ⟨(List.Mem.tail _ (List.Mem.head _)), (List.forall_mem_cons.mpr ⟨(List.Mem.head _), (fun q h => absurd h List.not_mem_nil)⟩)⟩)⟩) ?_
            exact ih _ y1015 (nv + 1) Is1013 Gs1013 (by first | (clear hps1013 hps1008 hps1004; omega) | (clear hps1008 hps1004; omega) | omega) (by first | exact qk_me hm (by decide) (oq_8e8d8f07 g1011) | omega) kx
  refine z_aload_n X (x := A 179) (show cdA 201 0 = some (.aload_n 0, 1, 0, 0, 0) from rfl) (List.Mem.head _) ?_
  refine z_callV X 179 (rm := rmN 193) (As := []) (st := []) (show cdA 201 1 = some (.invokevirtual 197, 3, 193, 0, 0) from rfl) rfl (by decide) rfl (by rw [E.1, E.2.1, E.2.2.1]; exact k_blanks G I (by first | exact p0 | omega)) ⟨by rw [E.2.2.2]; exact (show (rmN 193).frames + 1 ≤ (rmN 201).frames by decide), by rw [E.2.2.2]; exact (show 8 + (mNL (miB 193) + 11) + (rmN 193).locals ≤ (rmN 201).locals by decide), by rw [E.2.2.2]; exact (show 0 + (rmN 193).cells ≤ (rmN 201).cells by decide), by rw [E.2.2.2]; exact (show 0 + (rmN 193).slots ≤ (rmN 201).slots by decide)⟩ (Nat.le_of_ble_eq_true rfl) (fun vv s3 hq => ?_) (fun ee s3 hq => ?_)
  rotate_left
  · obtain ⟨Is3, Fs3, hv, hps3⟩ := hq; cases hv
  obtain ⟨Is3, Fs3, hv, hps3⟩ := hq
  have hps3p := hps3.1
  cases hv
  have Gs3 := fm_ts F Fs3 (by decide) (by decide)
  have b5 : (0 : Int) ≤ iI s3 77 ∧ iI s3 77 ≤ 400 := Is3.1 77
  have ws3_75 : iI s3 75 = iI s 75 := fm_i Fs3 (by decide)
  show WS k 4 [(0, .ref (A 179))] [] (Wd A dT s3) 0 0
  refine z_const X (show cdA 201 4 = some (.iconst 0, 1, 0, 0, 0) from rfl) ?_
  refine z_store_n X (lv' := [(1, .int (Int32.ofInt 0)), (0, .ref (A 179))]) (show cdA 201 5 = some (.istore_n 1, 1, 0, 0, 0) from rfl) (by decide) (fun _ h => h) ?_
  refine z_const X (show cdA 201 6 = some (.iconst 0, 1, 0, 0, 0) from rfl) ?_
  refine z_store_n X (lv' := [(2, .int (Int32.ofInt 0)), (1, .int (Int32.ofInt 0)), (0, .ref (A 179))]) (show cdA 201 7 = some (.istore_n 2, 1, 0, 0, 0) from rfl) (by decide) (fun _ h => h) ?_
  refine WS_lv (lv := [(0, .ref (A 179)), (1, .int (Int32.ofInt 0)), (2, .int (Int32.ofInt 0))]) (List.forall_mem_cons.mpr ⟨(List.Mem.tail _ (List.Mem.tail _ (List.Mem.head _))), (List.forall_mem_cons.mpr ⟨(List.Mem.tail _ (List.Mem.head _)), (List.forall_mem_cons.mpr ⟨(List.Mem.head _), (fun q h => absurd h List.not_mem_nil)⟩)⟩)⟩) ?_
  refine L8 ((200 - 0 : Int).toNat + 1) s3 0 0 Is3 Gs3 (by first | exact ⟨hps3.1, hps3.2, ws3_75, And.intro (by decide) (by decide), by decide, by decide, by first | (clear hps3; omega) | omega, by first | (clear hps3; omega) | omega⟩ | omega) (Nat.lt_succ_self _) ?_
  intro s6 x7 x8 Is6 Fs6 hs6
  have b9 : (0 : Int) ≤ iI s6 77 ∧ iI s6 77 ≤ 400 := Is6.1 77
  have b10 : (0 : Int) ≤ iI s6 75 ∧ iI s6 75 ≤ 200 := Is6.1 75
  refine z_load_n X (x := x8) (show cdA 201 75 = some (.iload_n 2, 1, 0, 0, 0) from rfl) (List.Mem.tail _ (List.Mem.tail _ (List.Mem.head _))) ?_
  refine z_bipush X (show cdA 201 76 = some (.bipush 6, 2, 0, 0, 6) from rfl) ?_
  have N11 : ∀ e12 : Int, (((x8 ≤ 6) ∧ e12 = x7) ∨ ((6 < x8) ∧ e12 = (-1))) → WS k 86 [(0, .ref (A 179)), (1, .int (Int32.ofInt x7)), (2, .int (Int32.ofInt x8))] [.int (Int32.ofInt e12)] (Wd A dT s6) 0 0 := by
    intro e12 he12
    exact w_iret X.1 q hRt rfl (ax_d X (show cdA 201 86 = some (.ireturn, 1, 0, 0, 0) from rfl)) (Nat.zero_le _) (Nat.zero_le _) ⟨_, rfl, Is6, Fs6, e12, rfl, ⟨by first | (clear he12 hps3; omega) | (clear hps3; omega) | omega, by first | (clear he12 hps3; omega) | (clear hps3; omega) | omega⟩, by first | exact ⟨hs6.1, hs6.2.1, by first | (clear he12 hps3; omega) | (clear hps3; omega) | omega⟩ | omega⟩
  refine z_icmp_le X (t := 85) (show cdA 201 78 = some (.if_icmp .le 7, 3, 5, 0, 0) from rfl) (by decide) ⟨by first | exact oq_fa4e5087 hs6.2.2.2.2.1 | omega, by first | exact oq_52af2b96 hs6.2.2.2.2.2.1 | omega⟩ (by decide) (fun g13 => ?_) (fun g13 => ?_)
  ·
    refine z_load_n X (x := x7) (show cdA 201 85 = some (.iload_n 1, 1, 0, 0, 0) from rfl) (List.Mem.tail _ (List.Mem.head _)) ?_
    exact N11 _ (Or.inl ⟨g13, rfl⟩)
  ·
    refine z_const X (show cdA 201 81 = some (.iconst (-1), 1, 0, 0, 0) from rfl) ?_
    refine z_goto X (t := 86) (show cdA 201 82 = some (.goto 4, 3, 0, 0, 0) from rfl) (by decide) ?_
    exact N11 _ (Or.inr (⟨g13, rfl⟩))
end M34
