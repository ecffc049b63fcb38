theorem oq_212cfe9d {a0 a1 : Int} (h0 : a0 = a1) (h1 : a1 ≠ (-1)) (h2 : (-1) ≤ a1) : 0 ≤ a0 := by omega
theorem oq_a618c864 {a0 a1 a2 a3 : Int} (h0 : a0 = a1) (h1 : a2 < a3) (h2 : a1 = a3) : a2 < a0 := by omega
theorem oq_5ccab359 {a0 a1 a2 a3 : Int} (h0 : ((a0 = 0 ∧ (((a1 % 8) = 7 ∧ a2 = (-1)) ∨ ((¬ ((a1 % 8) = 7)) ∧ a2 = (a1 + 1)))) ∨ ((a0 = 1 ∧ (((a1 % 8) = 0 ∧ a2 = (-1)) ∨ ((¬ ((a1 % 8) = 0)) ∧ a2 = (a1 - 1)))) ∨ ((a0 = 2 ∧ ((((a1 / 8) % 8) = 7 ∧ a2 = (-1)) ∨ ((¬ (((a1 / 8) % 8) = 7)) ∧ a2 = (a1 + 8)))) ∨ ((a0 = 3 ∧ ((((a1 / 8) % 8) = 0 ∧ a2 = (-1)) ∨ ((¬ (((a1 / 8) % 8) = 0)) ∧ a2 = (a1 - 8)))) ∨ ((a0 = 4 ∧ (((a1 / 64) = 1 ∧ a2 = (-1)) ∨ ((¬ ((a1 / 64) = 1)) ∧ a2 = (a1 + 64)))) ∨ (a0 = 5 ∧ (((a1 / 64) = 0 ∧ a2 = (-1)) ∨ ((¬ ((a1 / 64) = 0)) ∧ a2 = (a1 - 64)))))))))) (h1 : a3 ≠ (-1)) (h2 : a3 ≤ 127) (h3 : (-1) ≤ a3) (h4 : ((a0 = 0 ∧ (((a1 % 8) = 7 ∧ a3 = (-1)) ∨ ((¬ ((a1 % 8) = 7)) ∧ a3 = (a1 + 1)))) ∨ ((a0 = 1 ∧ (((a1 % 8) = 0 ∧ a3 = (-1)) ∨ ((¬ ((a1 % 8) = 0)) ∧ a3 = (a1 - 1)))) ∨ ((a0 = 2 ∧ ((((a1 / 8) % 8) = 7 ∧ a3 = (-1)) ∨ ((¬ (((a1 / 8) % 8) = 7)) ∧ a3 = (a1 + 8)))) ∨ ((a0 = 3 ∧ ((((a1 / 8) % 8) = 0 ∧ a3 = (-1)) ∨ ((¬ (((a1 / 8) % 8) = 0)) ∧ a3 = (a1 - 8)))) ∨ ((a0 = 4 ∧ (((a1 / 64) = 1 ∧ a3 = (-1)) ∨ ((¬ ((a1 / 64) = 1)) ∧ a3 = (a1 + 64)))) ∨ (a0 = 5 ∧ (((a1 / 64) = 0 ∧ a3 = (-1)) ∨ ((¬ ((a1 / 64) = 0)) ∧ a3 = (a1 - 64)))))))))) (h5 : 0 ≤ a1) : 0 ≤ a2 := by omega
theorem oq_04367f15 {a0 : Int} (h0 : a0 < 128) : a0 ≤ 127 := by omega
theorem oq_5c09eddf {a0 a1 a2 : Int} (h0 : a0 ≤ 1) (h1 : a1 ≤ a2) : (a1 + a0) ≤ (a2 + 1) := by omega
theorem oq_e4399267 {a0 : Int} (h0 : a0 ≤ 127) : (a0 + 1) ≤ 128 := by omega
theorem oq_7e05e720 {a0 : Int} (h0 : a0 ≤ 127) : 0 < (128 - a0) := by omega
theorem oq_8e3ecb8a {a0 a1 a2 a3 : Int} (h0 : ((a0 = 0 ∧ (((-2147483648) ≤ a1 ∧ a1 ≤ 2147483647) ∧ a2 = a1)) ∨ ((a0 ≠ 0 ∧ (((-2147483648) ≤ a1 ∧ a1 ≤ 2147483647) ∧ (a3 ≤ a1 ∧ a2 = a3))) ∨ (a0 ≠ 0 ∧ (((-2147483648) ≤ a1 ∧ a1 ≤ 2147483647) ∧ (a1 < a3 ∧ (((-2147483648) ≤ a1 ∧ a1 ≤ 2147483647) ∧ a2 = a1))))))) (h1 : a3 ≤ 2147483647) (h2 : (-2147483648) ≤ a3) : ((-2147483648) ≤ a2 ∧ a2 ≤ 2147483647) := by omega
theorem oq_df5c764a {a0 a1 a2 a3 : Int} (h0 : ((a0 = 0 ∧ (((-2147483648) ≤ a1 ∧ a1 ≤ 2147483647) ∧ a2 = a1)) ∨ ((a0 ≠ 0 ∧ (((-2147483648) ≤ a1 ∧ a1 ≤ 2147483647) ∧ (a1 ≤ a3 ∧ a2 = a3))) ∨ (a0 ≠ 0 ∧ (((-2147483648) ≤ a1 ∧ a1 ≤ 2147483647) ∧ (a3 < a1 ∧ (((-2147483648) ≤ a1 ∧ a1 ≤ 2147483647) ∧ a2 = a1))))))) (h1 : a3 ≤ 2147483647) (h2 : (-2147483648) ≤ a3) : ((-2147483648) ≤ a2 ∧ a2 ≤ 2147483647) := by omega
theorem oq_70a17013 {a0 a1 : Int} (h0 : a0 ≤ a1) (h1 : a1 < 8) : a0 ≤ 2147483647 := by omega
theorem oq_e9ac77f5 {a0 a1 : Int} (h0 : a0 ≤ a1) (h1 : a0 = 0) : 0 ≤ a1 := by omega
theorem oq_ef392b12 {a0 a1 : Int} (h0 : a0 < a1) (h1 : a1 ≤ 2147483647) : a0 ≤ 2147483647 := by omega
theorem oq_975f6ea0 {a0 a1 : Int} (h0 : a0 = a1) (h1 : a1 ≠ (-1)) : a0 ≠ (-1) := by omega
theorem oq_14c57661 {a0 a1 a2 : Int} (h0 : a0 = a1) (h1 : a1 = a2) (h2 : a2 ≠ (-1)) : a0 ≠ (-1) := by omega
theorem oq_9c9def6c {a0 a1 a2 a3 a4 : Int} (h0 : ((a0 ≠ (-1) ∧ (a1 ≠ 0 ∧ (a1 ≠ 1 ∧ (((-2147483648) ≤ a2 ∧ a2 ≤ 2147483647) ∧ a3 = a2)))) ∨ ((a0 ≠ (-1) ∧ (a1 ≠ 0 ∧ (a1 = 1 ∧ ((0 ≤ a4 ∧ a4 ≤ 7) ∧ a3 = a4)))) ∨ ((a0 ≠ (-1) ∧ (a1 = 0 ∧ (((-1) ≤ a0 ∧ a0 ≤ 127) ∧ a3 = a0))) ∨ (a0 = (-1) ∧ a3 = (-1)))))) (h1 : (-1) ≤ a0) : (-2147483648) ≤ a3 := by omega
theorem oq_659a582c {a0 a1 a2 a3 a4 : Int} (h0 : ((a0 ≠ (-1) ∧ (a1 ≠ 0 ∧ (a1 ≠ 1 ∧ (((-2147483648) ≤ a2 ∧ a2 ≤ 2147483647) ∧ a3 = a2)))) ∨ ((a0 ≠ (-1) ∧ (a1 ≠ 0 ∧ (a1 = 1 ∧ ((0 ≤ a4 ∧ a4 ≤ 7) ∧ a3 = a4)))) ∨ ((a0 ≠ (-1) ∧ (a1 = 0 ∧ (((-1) ≤ a0 ∧ a0 ≤ 127) ∧ a3 = a0))) ∨ (a0 = (-1) ∧ a3 = (-1)))))) (h1 : a0 ≤ 127) : a3 ≤ 2147483647 := by omega
theorem oq_35fd3fdc {a0 a1 : Int} (h0 : a0 < a1) (h1 : a1 ≤ 20) : (a0 + 1) ≤ 20 := by omega
theorem oq_f6b465a6 {a0 a1 : Int} (h0 : a0 < a1) (h1 : a1 ≤ 20) : 0 < (20 - a0) := by omega
theorem oq_0a6fdc2c {a0 a1 a2 a3 : Int} (h0 : a0 = 0) (h1 : (a1 = 1 → a0 = 1)) (h2 : a1 ≤ 1) (h3 : ((a2 ≠ 0 ∧ a1 = 0) ∨ (a2 = 0 ∧ a1 = 1))) (h4 : ((a2 = 1 ∧ (0 ≤ a3 ∧ a3 ≤ 20)) ∨ (a2 = 0 ∧ (a3 < 0 ∨ 20 < a3)))) : (0 ≤ a3 ∧ a3 ≤ 20) := by omega
theorem oq_b304fff0 {a0 a1 a2 a3 a4 : Int} (h0 : a0 = 0) (h1 : (a1 = 1 → a0 = 1)) (h2 : a1 ≤ 1) (h3 : ((a2 = 0 ∧ a1 = 1) ∨ ((a2 ≠ 0 ∧ (((-1) ≤ a3 ∧ a3 ≤ 7) ∧ (a3 = (-1) ∧ a1 = 1))) ∨ ((a2 ≠ 0 ∧ (((-1) ≤ a3 ∧ a3 ≤ 7) ∧ (a3 ≠ (-1) ∧ (((-1) ≤ a3 ∧ a3 ≤ 7) ∧ (a3 ≠ a4 ∧ a1 = 0))))) ∨ (a2 ≠ 0 ∧ (((-1) ≤ a3 ∧ a3 ≤ 7) ∧ (a3 ≠ (-1) ∧ (((-1) ≤ a3 ∧ a3 ≤ 7) ∧ (a3 = a4 ∧ a1 = 1))))))))) (h4 : ((a2 = 1 ∧ (0 ≤ a4 ∧ a4 ≤ 7)) ∨ (a2 = 0 ∧ (a4 < 0 ∨ 7 < a4)))) : (-1) ≤ a4 := by omega
theorem oq_ff2891b8 {a0 a1 a2 a3 a4 : Int} (h0 : a0 = 0) (h1 : (a1 = 1 → a0 = 1)) (h2 : a1 ≤ 1) (h3 : ((a2 = 0 ∧ a1 = 1) ∨ ((a2 ≠ 0 ∧ (((-1) ≤ a3 ∧ a3 ≤ 7) ∧ (a3 = (-1) ∧ a1 = 1))) ∨ ((a2 ≠ 0 ∧ (((-1) ≤ a3 ∧ a3 ≤ 7) ∧ (a3 ≠ (-1) ∧ (((-1) ≤ a3 ∧ a3 ≤ 7) ∧ (a3 ≠ a4 ∧ a1 = 0))))) ∨ (a2 ≠ 0 ∧ (((-1) ≤ a3 ∧ a3 ≤ 7) ∧ (a3 ≠ (-1) ∧ (((-1) ≤ a3 ∧ a3 ≤ 7) ∧ (a3 = a4 ∧ a1 = 1))))))))) (h4 : ((a2 = 1 ∧ (0 ≤ a4 ∧ a4 ≤ 7)) ∨ (a2 = 0 ∧ (a4 < 0 ∨ 7 < a4)))) : a4 ≤ 7 := by omega
/-! The model: edges, costs, moves -/
section M58
variable {l : Launch} {s0 : State} {D : va_G} {tys : List (ClassId × FieldType)} {a0 : Array Value} {A : Nat → Nat} {dT : Nat → ClassId} {s : PS}
set_option maxRecDepth 4000 in
theorem k_isCrossing (G : GX l s0 D tys a0 dT) (I : Bd s) (jRLx : RLx s) {x : Int} (p0 : 0 ≤ x ∧ x ≤ 127) : CT l s0 D A dT 245 (rmN 245) [.ref (A 179), .int (Int32.ofInt x)] s (fun o t => Bd t ∧ Fm [] [202, 204, 205, 206, 207, 208, 209, 210, 211, 212, 213, 214, 215, 216, 217, 218, 219, 220, 221, 222, 223, 224, 225, 226, 227, 203] s t ∧ RLx t ∧ ∃ e, o = .inl (some (.int (Int32.ofInt e))) ∧ rng e ∧ (e = 0 ∨ e = 1)) := by
  refine ct_of G (by decide) (Nat.le_of_ble_eq_true rfl) (fun k X E hRt hXt q => ?_)
  show WS k 0 [(0, .ref (A 179)), (1, .int (Int32.ofInt x))] [] _ 0 0
  have F : Fm [] [202, 204, 205, 206, 207, 208, 209, 210, 211, 212, 213, 214, 215, 216, 217, 218, 219, 220, 221, 222, 223, 224, 225, 226, 227, 203] s s := fm_rf _ _ s
  have b1 := bi_90 I
  have L19 : ∀ (n : Nat) (t : PS) (xv a b : Int), Bd t → Fm [] [202, 204, 205, 206, 207, 208, 209, 210, 211, 212, 213, 214, 215, 216, 217, 218, 219, 220, 221, 222, 223, 224, 225, 226, 227, 203] s t → RLx t → (NQ t) → ((0 ≤ xv ∧ xv ≤ 127) ∧ 0 ≤ a ∧ a < iI t 90 ∧ 1 ≤ b ∧ b ≤ 12) → (12 - b : Int).toNat < n → (∀ (t' : PS) (b' : Int), Bd t' → Fm [] [202, 204, 205, 206, 207, 208, 209, 210, 211, 212, 213, 214, 215, 216, 217, 218, 219, 220, 221, 222, 223, 224, 225, 226, 227, 203] s t' → RLx t' → (NQ t') → ((0 ≤ xv ∧ xv ≤ 127) ∧ 0 ≤ a ∧ a < iI t' 90 ∧ 1 ≤ b' ∧ b' ≤ 12) → WS k 88 [(0, .ref (A 179)), (1, .int (Int32.ofInt xv)), (2, .int (Int32.ofInt a)), (3, .int (Int32.ofInt b'))] [] (Wd A dT t') 0 0) → WS k 19 [(0, .ref (A 179)), (1, .int (Int32.ofInt xv)), (2, .int (Int32.ofInt a)), (3, .int (Int32.ofInt b))] [] (Wd A dT t) 0 0 := by
    intro n
    induction n with
    | zero =>
      intro t xv a b I F jjRLx hq hi hm kx
      exact absurd hm (Nat.not_lt_zero _)
    | succ n ih =>
      intro t xv a b I F jjRLx hq hi hm kx
      have b1001 := bi_90 I
      refine z_load_n X (x := b) rfl (List.Mem.tail _ (List.Mem.tail _ (List.Mem.tail _ (List.Mem.head _)))) (z_aload_n X (x := A 179) rfl (List.Mem.head _) (z_getI X 179 rfl (c518_ok rfl) rfl rfl ?_))
      have b1002 := bi_90 I
      refine z_icmp_ge X (t := 88) rfl rfl ⟨by first | exact oq_9462313e hi.2.2.2.1 | omega, by first | exact oq_78843a64 hi.2.2.2.2 | omega⟩ (rng_to _) (fun g1003 => ?_) (fun g1003 => ?_)
      ·
        refine WS_pq [0, 1, 2, 3] (lv' := [(0, .ref (A 179)), (1, .int (Int32.ofInt xv)), (2, .int (Int32.ofInt a)), (3, .int (Int32.ofInt b))]) rfl ?_
        exact kx _ b I F jjRLx hq (by first | exact ⟨And.intro (hi.1.1) (hi.1.2), hi.2.1, hi.2.2.1, hi.2.2.2.1, hi.2.2.2.2⟩ | omega)
      ·
        refine z_aload_n X (x := A 179) rfl (List.Mem.head _) (s_getR X 179 rfl (c518_ok rfl) rfl rfl (z_load_n X (x := a) rfl (List.Mem.tail _ (List.Mem.tail _ (List.Mem.head _))) (z_aald X rw_202 rfl (by first | exact hi.2.1 | omega) (show a < 12 by first | exact oq_f36e82a8 hi.2.2.1 b1002.2 | omega) (by decide) (z_load_n X (x := xv) rfl (List.Mem.tail _ (List.Mem.head _)) (z_ald2 X rw_202 rfl (show (a : Int).toNat < 12 by first | exact oq_2dac6850 hi.2.2.1 b1002.2 | omega) (by first | exact hi.1.1 | omega) (show xv < 128 by first | exact oq_31b2bf10 hi.1.2 | omega) (by decide) ?_)))))
        have b1004 : ((-1) : Int) ≤ (iC t (178 + (a : Int).toNat) (xv : Int).toNat) ∧ (iC t (178 + (a : Int).toNat) (xv : Int).toNat) ≤ 23 := rw_bd rw_202 I (show (a : Int).toNat < 12 by first | exact oq_2dac6850 hi.2.2.1 b1002.2 | omega) (show (xv : Int).toNat < 128 by first | exact oq_c7f4e9c1 hi.1.2 | omega)
        refine z_const X rfl (z_icmp_eq X (t := 82) rfl rfl (rng_to _) (by decide) (fun g1005 => ?_) (fun g1005 => ?_))
        ·
          refine z_inc X (x := b) (lv' := [(3, .int (Int32.ofInt (b + 1))), (0, .ref (A 179)), (1, .int (Int32.ofInt xv)), (2, .int (Int32.ofInt a))]) rfl (by decide) (List.Mem.tail _ (List.Mem.tail _ (List.Mem.tail _ (List.Mem.head _)))) (fun _ h => h) (z_goto X (t := 19) rfl rfl (WS_pq [1, 2, 3, 0] (lv' := [(0, .ref (A 179)), (1, .int (Int32.ofInt xv)), (2, .int (Int32.ofInt a)), (3, .int (Int32.ofInt (b + 1)))]) rfl ?_))
          exact ih _ xv a (b + 1) I F jjRLx hq (by first | exact ⟨And.intro (hi.1.1) (hi.1.2), hi.2.1, hi.2.2.1, oq_1e1a2df6 hi.2.2.2.1, oq_4dae995e g1003 b1002.2⟩ | omega) (by first | exact qk_me hm (by decide) (oq_b575e8c1 g1003 b1002.2) | omega) kx
        ·
          refine z_aload_n X (x := A 179) rfl (List.Mem.head _) (s_getR X 179 rfl (c518_ok rfl) rfl rfl (z_load_n X (x := b) rfl (List.Mem.tail _ (List.Mem.tail _ (List.Mem.tail _ (List.Mem.head _)))) (z_aald X rw_202 rfl (by first | exact oq_2a6e3b50 hi.2.2.2.1 | omega) (show b < 12 by first | exact oq_f36e82a8 g1003 b1002.2 | omega) (by decide) (z_load_n X (x := xv) rfl (List.Mem.tail _ (List.Mem.head _)) (z_ald2 X rw_202 rfl (show (b : Int).toNat < 12 by first | exact oq_2dac6850 g1003 b1002.2 | omega) (by first | exact hi.1.1 | omega) (show xv < 128 by first | exact oq_31b2bf10 hi.1.2 | omega) (by decide) ?_)))))
          have b1006 : ((-1) : Int) ≤ (iC t (178 + (b : Int).toNat) (xv : Int).toNat) ∧ (iC t (178 + (b : Int).toNat) (xv : Int).toNat) ≤ 23 := rw_bd rw_202 I (show (b : Int).toNat < 12 by first | exact oq_2dac6850 g1003 b1002.2 | omega) (show (xv : Int).toNat < 128 by first | exact oq_c7f4e9c1 hi.1.2 | omega)
          refine z_const X rfl (z_icmp_eq X (t := 82) rfl rfl (rng_to _) (by decide) (fun g1007 => ?_) (fun g1007 => ?_))
          ·
            refine z_inc X (x := b) (lv' := [(3, .int (Int32.ofInt (b + 1))), (0, .ref (A 179)), (1, .int (Int32.ofInt xv)), (2, .int (Int32.ofInt a))]) rfl (by decide) (List.Mem.tail _ (List.Mem.tail _ (List.Mem.tail _ (List.Mem.head _)))) (fun _ h => h) (z_goto X (t := 19) rfl rfl (WS_pq [1, 2, 3, 0] (lv' := [(0, .ref (A 179)), (1, .int (Int32.ofInt xv)), (2, .int (Int32.ofInt a)), (3, .int (Int32.ofInt (b + 1)))]) rfl ?_))
            exact ih _ xv a (b + 1) I F jjRLx hq (by first | exact ⟨And.intro (hi.1.1) (hi.1.2), hi.2.1, hi.2.2.1, oq_1e1a2df6 hi.2.2.2.1, oq_4dae995e g1003 b1002.2⟩ | omega) (by first | exact qk_me hm (by decide) (oq_b575e8c1 g1003 b1002.2) | omega) kx
          ·
            refine z_aload_n X (x := A 179) rfl (List.Mem.head _) (z_load_n X (x := a) rfl (List.Mem.tail _ (List.Mem.tail _ (List.Mem.head _))) (z_aload_n X (x := A 179) rfl (List.Mem.head _) (s_getR X 179 rfl (c518_ok rfl) rfl rfl (z_load_n X (x := a) rfl (List.Mem.tail _ (List.Mem.tail _ (List.Mem.head _))) (z_aald X rw_202 rfl (by first | exact hi.2.1 | omega) (show a < 12 by first | exact oq_f36e82a8 hi.2.2.1 b1002.2 | omega) (by decide) (z_load_n X (x := xv) rfl (List.Mem.tail _ (List.Mem.head _)) (z_ald2 X rw_202 rfl (show (a : Int).toNat < 12 by first | exact oq_2dac6850 hi.2.2.1 b1002.2 | omega) (by first | exact hi.1.1 | omega) (show xv < 128 by first | exact oq_31b2bf10 hi.1.2 | omega) (by decide) ?_)))))))
            have b1008 : ((-1) : Int) ≤ (iC t (178 + (a : Int).toNat) (xv : Int).toNat) ∧ (iC t (178 + (a : Int).toNat) (xv : Int).toNat) ≤ 23 := rw_bd rw_202 I (show (a : Int).toNat < 12 by first | exact oq_2dac6850 hi.2.2.1 b1002.2 | omega) (show (xv : Int).toNat < 128 by first | exact oq_c7f4e9c1 hi.1.2 | omega)
            have n11009 := (hq (a : Int).toNat (by first | (clear g1007 g1005; omega) | (clear g1005; omega) | omega) (by first | (clear g1007 g1005; omega) | (clear g1005; omega) | omega)).1
            have r11010 := (jjRLx (a : Int).toNat (by first | (clear g1007 g1005; omega) | (clear g1005; omega) | omega) (by first | (clear g1007 g1005; omega) | (clear g1005; omega) | omega)).2 (xv : Int).toNat (by first | (clear g1007 g1005; omega) | (clear g1005; omega) | omega)
            refine zcV_i0 X E 179 (As := [.int (Int32.ofInt a), .int (Int32.ofInt (iC t (178 + (a : Int).toNat) (xv : Int).toNat))]) (st := []) rfl rfl rfl rfl (k_goes G I (by first | exact ⟨hi.2.1, oq_e4d7f3c5 hi.2.2.1 b1002.2⟩ | omega) (by first | exact ⟨oq_5234833b b1008.1 g1005, by first | (clear g1007 g1005; omega) | (clear g1005; omega) | omega⟩ | omega)) rfl (Nat.le_of_ble_eq_true rfl) (fun s1011 e1012 Is1011 Fs1011 hrs1011 hps1011 => ?_)
            have Gs1011 := fm_tq F Fs1011 rfl rfl
            have JRLx_s1011 : RLx s1011 := RLx_fm Fs1011 (by decide) jjRLx
            have JNQ_s1011 : NQ s1011 := NQ_fm Fs1011 (by decide) hq
            have ws1011_90 : iI s1011 90 = iI t 90 := fm_iq Fs1011 rfl
            refine z_aload_n X (x := A 179) rfl (List.Mem.head _) (z_load_n X (x := b) rfl (List.Mem.tail _ (List.Mem.tail _ (List.Mem.tail _ (List.Mem.head _)))) (z_aload_n X (x := A 179) rfl (List.Mem.head _) (s_getR X 179 rfl (c518_ok rfl) rfl rfl (z_load_n X (x := b) rfl (List.Mem.tail _ (List.Mem.tail _ (List.Mem.tail _ (List.Mem.head _)))) (z_aald X rw_202 rfl (by first | exact oq_2a6e3b50 hi.2.2.2.1 | omega) (show b < 12 by first | exact oq_f36e82a8 g1003 b1002.2 | omega) (by decide) (z_load_n X (x := xv) rfl (List.Mem.tail _ (List.Mem.head _)) (z_ald2 X rw_202 rfl (show (b : Int).toNat < 12 by first | exact oq_2dac6850 g1003 b1002.2 | omega) (by first | exact hi.1.1 | omega) (show xv < 128 by first | exact oq_31b2bf10 hi.1.2 | omega) (by decide) ?_)))))))
            have b1013 : ((-1) : Int) ≤ (iC s1011 (178 + (b : Int).toNat) (xv : Int).toNat) ∧ (iC s1011 (178 + (b : Int).toNat) (xv : Int).toNat) ≤ 23 := rw_bd rw_202 Is1011 (show (b : Int).toNat < 12 by first | exact oq_2dac6850 g1003 b1002.2 | omega) (show (xv : Int).toNat < 128 by first | exact oq_c7f4e9c1 hi.1.2 | omega)
            have n01014 : iC s1011 (178 + (b : Int).toNat) (xv : Int).toNat = iC t (178 + (b : Int).toNat) (xv : Int).toNat := fm_c Fs1011 (fun h => absurd h List.not_mem_nil)
            have n11015 := (JNQ_s1011 (b : Int).toNat (by first | (clear g1007 g1005; omega) | (clear g1005; omega) | omega) (by first | (clear g1007 g1005; omega) | (clear g1005; omega) | omega)).1
            have r11016 := (JRLx_s1011 (b : Int).toNat (by first | (clear g1007 g1005; omega) | (clear g1005; omega) | omega) (by first | (clear g1007 g1005; omega) | (clear g1005; omega) | omega)).2 (xv : Int).toNat (by first | (clear g1007 g1005; omega) | (clear g1005; omega) | omega)
            refine zcV_i0 X E 179 (As := [.int (Int32.ofInt b), .int (Int32.ofInt (iC s1011 (178 + (b : Int).toNat) (xv : Int).toNat))]) (st := [.int (Int32.ofInt e1012)]) rfl rfl rfl rfl (k_goes G Is1011 (by first | exact ⟨oq_2a6e3b50 hi.2.2.2.1, oq_e4d7f3c5 g1003 b1002.2⟩ | omega) (by first | exact ⟨oq_212cfe9d n01014 g1007 b1006.1, by first | (clear g1007 g1005; omega) | (clear g1005; omega) | omega⟩ | omega)) rfl (Nat.le_of_ble_eq_true rfl) (fun s1017 e1018 Is1017 Fs1017 hrs1017 hps1017 => ?_)
            have Gs1017 := fm_tq Gs1011 Fs1017 rfl rfl
            have JRLx_s1017 : RLx s1017 := RLx_fm Fs1017 (by decide) JRLx_s1011
            have JNQ_s1017 : NQ s1017 := NQ_fm Fs1017 (by decide) JNQ_s1011
            have ws1017_90 : iI s1017 90 = iI s1011 90 := fm_iq Fs1017 rfl
            refine z_icmp_eq X (t := 82) rfl rfl hrs1011 hrs1017 (fun g1019 => ?_) (fun g1019 => ?_)
            ·
              refine z_inc X (x := b) (lv' := [(3, .int (Int32.ofInt (b + 1))), (0, .ref (A 179)), (1, .int (Int32.ofInt xv)), (2, .int (Int32.ofInt a))]) rfl (by decide) (List.Mem.tail _ (List.Mem.tail _ (List.Mem.tail _ (List.Mem.head _)))) (fun _ h => h) (z_goto X (t := 19) rfl rfl (WS_pq [1, 2, 3, 0] (lv' := [(0, .ref (A 179)), (1, .int (Int32.ofInt xv)), (2, .int (Int32.ofInt a)), (3, .int (Int32.ofInt (b + 1)))]) rfl ?_))
              exact ih _ xv a (b + 1) Is1017 Gs1017 JRLx_s1017 JNQ_s1017 (by first | exact ⟨And.intro (hi.1.1) (hi.1.2), hi.2.1, oq_a618c864 ws1017_90 hi.2.2.1 ws1011_90, oq_1e1a2df6 hi.2.2.2.1, oq_4dae995e g1003 b1002.2⟩ | omega) (by first | exact qk_me hm (by decide) (oq_b575e8c1 g1003 b1002.2) | omega) kx
            ·
              refine z_const X rfl ?_
              exact w_iret X.1 q hRt (nar_ret (by first | exact Or.inr (by decide) | omega)) (ax_d X (show cdA 245 81 = some (.ireturn, 1, 0, 0, 0) from rfl)) (Nat.zero_le _) (Nat.zero_le _) ⟨_, rfl, Is1017, Gs1017, JRLx_s1017, 1, rfl, (by decide), by first | exact Or.inr (by decide) | omega⟩
  have L7 : ∀ (n : Nat) (t : PS) (xv a : Int), Bd t → Fm [] [202, 204, 205, 206, 207, 208, 209, 210, 211, 212, 213, 214, 215, 216, 217, 218, 219, 220, 221, 222, 223, 224, 225, 226, 227, 203] s t → RLx t → (NQ t) → ((0 ≤ xv ∧ xv ≤ 127) ∧ 0 ≤ a ∧ a ≤ 12) → (12 - a : Int).toNat < n → (∀ (t' : PS) (a' : Int), Bd t' → Fm [] [202, 204, 205, 206, 207, 208, 209, 210, 211, 212, 213, 214, 215, 216, 217, 218, 219, 220, 221, 222, 223, 224, 225, 226, 227, 203] s t' → RLx t' → (NQ t') → ((0 ≤ xv ∧ xv ≤ 127) ∧ 0 ≤ a' ∧ a' ≤ 12) → WS k 94 [(0, .ref (A 179)), (1, .int (Int32.ofInt xv)), (2, .int (Int32.ofInt a'))] [] (Wd A dT t') 0 0) → WS k 7 [(0, .ref (A 179)), (1, .int (Int32.ofInt xv)), (2, .int (Int32.ofInt a))] [] (Wd A dT t) 0 0 := by
    intro n
    induction n with
    | zero =>
      intro t xv a I F jjRLx hq hi hm kx
      exact absurd hm (Nat.not_lt_zero _)
    | succ n ih =>
      intro t xv a I F jjRLx hq hi hm kx
      have b2001 := bi_90 I
      refine z_load_n X (x := a) rfl (List.Mem.tail _ (List.Mem.tail _ (List.Mem.head _))) (z_aload_n X (x := A 179) rfl (List.Mem.head _) (z_getI X 179 rfl (c518_ok rfl) rfl rfl ?_))
      have b2002 := bi_90 I
      refine z_icmp_ge X (t := 94) rfl rfl ⟨by first | exact oq_fa4e5087 hi.2.1 | omega, by first | exact oq_78843a64 hi.2.2 | omega⟩ (rng_to _) (fun g2003 => ?_) (fun g2003 => ?_)
      ·
        refine WS_pq [0, 1, 2] (lv' := [(0, .ref (A 179)), (1, .int (Int32.ofInt xv)), (2, .int (Int32.ofInt a))]) rfl ?_
        exact kx _ a I F jjRLx hq (by first | exact ⟨And.intro (hi.1.1) (hi.1.2), hi.2.1, hi.2.2⟩ | omega)
      ·
        refine z_load_n X (x := a) rfl (List.Mem.tail _ (List.Mem.tail _ (List.Mem.head _))) (z_const X rfl (z_add X rfl (z_store_n X (lv' := [(3, .int (Int32.ofInt (a + 1))), (0, .ref (A 179)), (1, .int (Int32.ofInt xv)), (2, .int (Int32.ofInt a))]) rfl (by decide) (fun _ h => h) (WS_pq [1, 2, 3, 0] (lv' := [(0, .ref (A 179)), (1, .int (Int32.ofInt xv)), (2, .int (Int32.ofInt a)), (3, .int (Int32.ofInt (a + 1)))]) rfl (L19 ((12 - (a + 1) : Int).toNat + 1) t xv a (a + 1) I F jjRLx hq (by first | exact ⟨And.intro (hi.1.1) (hi.1.2), hi.2.1, g2003, oq_b15b052d hi.2.1, oq_4dae995e g2003 b2002.2⟩ | omega) (Nat.lt_succ_self _) ?_)))))
        intro s2004 x2005 Is2004 Fs2004 JRLx_s2004 Qs2004 hs2004
        have b2006 := bi_90 Is2004
        refine z_inc X (x := a) (lv' := [(2, .int (Int32.ofInt (a + 1))), (0, .ref (A 179)), (1, .int (Int32.ofInt xv)), (3, .int (Int32.ofInt x2005))]) rfl (by decide) (List.Mem.tail _ (List.Mem.tail _ (List.Mem.head _))) (fun _ h => h) (z_goto X (t := 7) rfl rfl (WS_pq [1, 2, 0] (lv' := [(0, .ref (A 179)), (1, .int (Int32.ofInt xv)), (2, .int (Int32.ofInt (a + 1)))]) rfl ?_))
        exact ih _ xv (a + 1) Is2004 Fs2004 JRLx_s2004 Qs2004 (by first | exact ⟨And.intro (hs2004.1.1) (hs2004.1.2), oq_54f49eb5 hs2004.2.1, oq_4dae995e hs2004.2.2.1 b2006.2⟩ | omega) (by first | exact qk_me hm (by decide) (oq_b575e8c1 hs2004.2.2.1 b2006.2) | omega) kx
  refine z_aload_n X (x := A 179) rfl (List.Mem.head _) (z_const X rfl (zcV_v2 X E 179 (As := [.int (Int32.ofInt 0)]) (st := []) rfl rfl rfl rfl (k_asTold G I jRLx (by first | exact ⟨by decide, by decide⟩ | omega)) rfl (Nat.le_of_ble_eq_true rfl) (fun s2 Is2 Fs2 JRLx_s2 JNQ_s2 hps2 => ?_)))
  have Gs2 := fm_tq F Fs2 rfl rfl
  have JRLx_s2 : RLx s2 := RLx_fm Fs2 (by decide) jRLx
  have ws2_90 : iI s2 90 = iI s 90 := fm_iq Fs2 rfl
  refine z_const X rfl (z_store_n X (lv' := [(2, .int (Int32.ofInt 0)), (0, .ref (A 179)), (1, .int (Int32.ofInt x))]) rfl (by decide) (fun _ h => h) (WS_pq [1, 2, 0] (lv' := [(0, .ref (A 179)), (1, .int (Int32.ofInt x)), (2, .int (Int32.ofInt 0))]) rfl (L7 ((12 - 0 : Int).toNat + 1) s2 x 0 Is2 Gs2 JRLx_s2 JNQ_s2 (by first | exact ⟨And.intro (p0.1) (p0.2), by decide, by decide⟩ | omega) (Nat.lt_succ_self _) ?_)))
  intro s4 x5 Is4 Fs4 JRLx_s4 Qs4 hs4
  have b6 := bi_90 Is4
  refine z_const X rfl ?_
  exact w_iret X.1 q hRt (nar_ret (by first | exact Or.inl (by decide) | omega)) (ax_d X (show cdA 245 95 = some (.ireturn, 1, 0, 0, 0) from rfl)) (Nat.zero_le _) (Nat.zero_le _) ⟨_, rfl, Is4, Fs4, JRLx_s4, 0, rfl, (by decide), by first | exact Or.inl (by decide) | omega⟩
set_option maxRecDepth 4000 in
theorem k_edge (G : GX l s0 D tys a0 dT) (I : Bd s) (jRLx : RLx s) {x : Int} (p0 : rng x) : CT l s0 D A dT 246 (rmN 246) [.ref (A 179), .int (Int32.ofInt x)] s (fun o t => Bd t ∧ Fm [73] [202, 204, 205, 206, 207, 208, 209, 210, 211, 212, 213, 214, 215, 216, 217, 218, 219, 220, 221, 222, 223, 224, 225, 226, 227, 203] s t ∧ RLx t ∧ ∃ e, o = .inl (some (.int (Int32.ofInt e))) ∧ rng e ∧ (True)) := by
  refine ct_of G (by decide) (Nat.le_of_ble_eq_true rfl) (fun k X E hRt hXt q => ?_)
  show WS k 0 [(0, .ref (A 179)), (1, .int (Int32.ofInt x))] [] _ 0 0
  have F : Fm [73] [202, 204, 205, 206, 207, 208, 209, 210, 211, 212, 213, 214, 215, 216, 217, 218, 219, 220, 221, 222, 223, 224, 225, 226, 227, 203] s s := fm_rf _ _ s
  have b1 := bi_73 I
  have L68 : ∀ (n : Nat) (t : PS) (xv nn c iz st0 : Int), Bd t → Fm [73] [202, 204, 205, 206, 207, 208, 209, 210, 211, 212, 213, 214, 215, 216, 217, 218, 219, 220, 221, 222, 223, 224, 225, 226, 227, 203] s t → RLx t → (rng xv ∧ (0 ≤ nn ∧ nn ≤ c) ∧ (0 ≤ c ∧ c ≤ 127) ∧ (iz = 0 ∨ iz = 1) ∧ 0 ≤ st0 ∧ st0 ≤ 6) → (6 - st0 : Int).toNat < n → (∀ (t' : PS) (iz' st0' : Int), Bd t' → Fm [73] [202, 204, 205, 206, 207, 208, 209, 210, 211, 212, 213, 214, 215, 216, 217, 218, 219, 220, 221, 222, 223, 224, 225, 226, 227, 203] s t' → RLx t' → (rng xv ∧ (0 ≤ nn ∧ nn ≤ c) ∧ (0 ≤ c ∧ c ≤ 127) ∧ (iz' = 0 ∨ iz' = 1) ∧ 0 ≤ st0' ∧ st0' ≤ 6) → WS k 118 [(0, .ref (A 179)), (1, .int (Int32.ofInt xv)), (2, .int (Int32.ofInt nn)), (3, .int (Int32.ofInt c)), (4, .int (Int32.ofInt iz')), (5, .int (Int32.ofInt st0'))] [] (Wd A dT t') 0 0) → WS k 68 [(0, .ref (A 179)), (1, .int (Int32.ofInt xv)), (2, .int (Int32.ofInt nn)), (3, .int (Int32.ofInt c)), (4, .int (Int32.ofInt iz)), (5, .int (Int32.ofInt st0))] [] (Wd A dT t) 0 0 := by
    intro n
    induction n with
    | zero =>
      intro t xv nn c iz st0 I F jjRLx hi hm kx
      exact absurd hm (Nat.not_lt_zero _)
    | succ n ih =>
      intro t xv nn c iz st0 I F jjRLx hi hm kx
      have b1001 := bi_73 I
      refine z_load X (x := st0) rfl (List.Mem.tail _ (List.Mem.tail _ (List.Mem.tail _ (List.Mem.tail _ (List.Mem.tail _ (List.Mem.head _)))))) (z_bipush X rfl (z_icmp_ge X (t := 118) rfl rfl ⟨by first | exact oq_fa4e5087 hi.2.2.2.2.1 | omega, by first | exact oq_b301c3bf hi.2.2.2.2.2 | omega⟩ (by decide) (fun g1002 => ?_) (fun g1002 => ?_)))
      ·
        refine WS_pq [0, 1, 2, 3, 4, 5] (lv' := [(0, .ref (A 179)), (1, .int (Int32.ofInt xv)), (2, .int (Int32.ofInt nn)), (3, .int (Int32.ofInt c)), (4, .int (Int32.ofInt iz)), (5, .int (Int32.ofInt st0))]) rfl ?_
        exact kx _ iz st0 I F jjRLx (by first | exact ⟨And.intro (hi.1.1) (hi.1.2), And.intro (hi.2.1.1) (hi.2.1.2), And.intro (hi.2.2.1.1) (hi.2.2.1.2), hi.2.2.2.1, hi.2.2.2.2.1, hi.2.2.2.2.2⟩ | omega)
      ·
        refine z_load X (x := iz) rfl (List.Mem.tail _ (List.Mem.tail _ (List.Mem.tail _ (List.Mem.tail _ (List.Mem.head _))))) (z_if_ne X (t := 105) rfl rfl ⟨by first | exact oq_bde653e9 hi.2.2.2.1 | omega, by first | exact oq_4ad2cb8b hi.2.2.2.1 | omega⟩ (fun g1003 => ?_) (fun g1003 => ?_))
        ·
          refine z_const X rfl (z_goto X (t := 110) rfl rfl (z_store X (lv' := [(4, .int (Int32.ofInt 1)), (0, .ref (A 179)), (1, .int (Int32.ofInt xv)), (2, .int (Int32.ofInt nn)), (3, .int (Int32.ofInt c)), (5, .int (Int32.ofInt st0))]) rfl (by decide) (fun _ h => h) (z_inc X (x := st0) (lv' := [(5, .int (Int32.ofInt (st0 + 1))), (4, .int (Int32.ofInt 1)), (0, .ref (A 179)), (1, .int (Int32.ofInt xv)), (2, .int (Int32.ofInt nn)), (3, .int (Int32.ofInt c))]) rfl (by decide) (List.Mem.tail _ (List.Mem.tail _ (List.Mem.tail _ (List.Mem.tail _ (List.Mem.tail _ (List.Mem.head _)))))) (fun _ h => h) (z_goto X (t := 68) rfl rfl (WS_pq [2, 3, 4, 5, 1, 0] (lv' := [(0, .ref (A 179)), (1, .int (Int32.ofInt xv)), (2, .int (Int32.ofInt nn)), (3, .int (Int32.ofInt c)), (4, .int (Int32.ofInt 1)), (5, .int (Int32.ofInt (st0 + 1)))]) rfl ?_)))))
          exact ih _ xv nn c 1 (st0 + 1) I F jjRLx (by first | exact ⟨And.intro (hi.1.1) (hi.1.2), And.intro (hi.2.1.1) (hi.2.1.2), And.intro (hi.2.2.1.1) (hi.2.2.1.2), Or.inr (by decide), oq_54f49eb5 hi.2.2.2.2.1, oq_5bf54478 g1002⟩ | omega) (by first | exact qk_me hm (by decide) (oq_2265a080 g1002) | omega) kx
        ·
          refine z_load_n X (x := c) rfl (List.Mem.tail _ (List.Mem.tail _ (List.Mem.tail _ (List.Mem.head _)))) (z_load X (x := st0) rfl (List.Mem.tail _ (List.Mem.tail _ (List.Mem.tail _ (List.Mem.tail _ (List.Mem.tail _ (List.Mem.head _)))))) (zcS_i0 X E (As := [.int (Int32.ofInt c), .int (Int32.ofInt st0)]) (st := []) rfl rfl (k_beside G I (by first | exact ⟨hi.2.2.1.1, hi.2.2.1.2⟩ | omega) (by first | exact ⟨hi.2.2.2.2.1, oq_a4cef127 g1002⟩ | omega)) rfl (Nat.le_of_ble_eq_true rfl) (fun s1004 e1005 Is1004 Fs1004 hrs1004 hps1004 => ?_)))
          have hps1004p := And.intro hps1004.2.1 (hps1004.2.2)
          have Gs1004 := fm_tq F Fs1004 rfl rfl
          have JRLx_s1004 : RLx s1004 := RLx_fm Fs1004 (by decide) jjRLx
          have ws1004_73 : iI s1004 73 = iI t 73 := fm_iq Fs1004 rfl
          refine z_const X rfl (z_icmp_eq X (t := 109) rfl rfl hrs1004 (by decide) (fun g1006 => ?_) (fun g1006 => ?_))
          ·
            refine z_const X rfl (z_store X (lv' := [(4, .int (Int32.ofInt 0)), (0, .ref (A 179)), (1, .int (Int32.ofInt xv)), (2, .int (Int32.ofInt nn)), (3, .int (Int32.ofInt c)), (5, .int (Int32.ofInt st0))]) rfl (by decide) (fun _ h => h) (z_inc X (x := st0) (lv' := [(5, .int (Int32.ofInt (st0 + 1))), (4, .int (Int32.ofInt 0)), (0, .ref (A 179)), (1, .int (Int32.ofInt xv)), (2, .int (Int32.ofInt nn)), (3, .int (Int32.ofInt c))]) rfl (by decide) (List.Mem.tail _ (List.Mem.tail _ (List.Mem.tail _ (List.Mem.tail _ (List.Mem.tail _ (List.Mem.head _)))))) (fun _ h => h) (z_goto X (t := 68) rfl rfl (WS_pq [2, 3, 4, 5, 1, 0] (lv' := [(0, .ref (A 179)), (1, .int (Int32.ofInt xv)), (2, .int (Int32.ofInt nn)), (3, .int (Int32.ofInt c)), (4, .int (Int32.ofInt 0)), (5, .int (Int32.ofInt (st0 + 1)))]) rfl ?_))))
            exact ih _ xv nn c 0 (st0 + 1) Is1004 Gs1004 JRLx_s1004 (by first | exact ⟨And.intro (hi.1.1) (hi.1.2), And.intro (hi.2.1.1) (hi.2.1.2), And.intro (hi.2.2.1.1) (hi.2.2.1.2), Or.inl (by decide), oq_54f49eb5 hi.2.2.2.2.1, oq_5bf54478 g1002⟩ | omega) (by first | exact qk_me hm (by decide) (oq_2265a080 g1002) | omega) kx
          ·
            refine z_aload_n X (x := A 179) rfl (List.Mem.head _) (s_getR X 179 rfl (c518_ok rfl) rfl rfl (z_load_n X (x := c) rfl (List.Mem.tail _ (List.Mem.tail _ (List.Mem.tail _ (List.Mem.head _)))) (z_load X (x := st0) rfl (List.Mem.tail _ (List.Mem.tail _ (List.Mem.tail _ (List.Mem.tail _ (List.Mem.tail _ (List.Mem.head _)))))) (zcS_i0 X E (As := [.int (Int32.ofInt c), .int (Int32.ofInt st0)]) (st := [.ref (A 256)]) rfl rfl (k_beside G Is1004 (by first | exact ⟨hi.2.2.1.1, hi.2.2.1.2⟩ | omega) (by first | exact ⟨hi.2.2.2.2.1, oq_a4cef127 g1002⟩ | omega)) rfl (Nat.le_of_ble_eq_true rfl) (fun s1007 e1008 Is1007 Fs1007 hrs1007 hps1007 => ?_)))))
            have hps1007p := And.intro hps1007.2.1 (hps1007.2.2)
            have Gs1007 := fm_tq Gs1004 Fs1007 rfl rfl
            have JRLx_s1007 : RLx s1007 := RLx_fm Fs1007 (by decide) JRLx_s1004
            have ws1007_73 : iI s1007 73 = iI s1004 73 := fm_iq Fs1007 rfl
            refine z_ald X 256 rfl (c518_ok rfl) rfl (by first | exact oq_5ccab359 hps1007.1 g1006 hps1004.2.2 hps1004.2.1 hps1004.1 hi.2.2.1.1 | omega) (show e1008 < 128 by first | exact oq_31b2bf10 hps1007.2.2 | omega) (cbig_ok rfl) ?_
            have b1009 := bc_228 Is1007 (show (e1008).toNat < 128 by first | exact oq_c7f4e9c1 hps1007.2.2 | omega)
            refine z_load_n X (x := xv) rfl (List.Mem.tail _ (List.Mem.head _)) ?_
            have N1010 : ∀ e1011 : Int, ((((iC s1007 228 (e1008).toNat) = xv) ∧ e1011 = 0) ∨ (((iC s1007 228 (e1008).toNat) ≠ xv) ∧ e1011 = 1)) → WS k 110 [(0, .ref (A 179)), (1, .int (Int32.ofInt xv)), (2, .int (Int32.ofInt nn)), (3, .int (Int32.ofInt c)), (4, .int (Int32.ofInt iz)), (5, .int (Int32.ofInt st0))] [.int (Int32.ofInt e1011)] (Wd A dT s1007) 0 0 := by
              intro e1011 he1011
              have re1011 : 0 ≤ e1011 ∧ e1011 ≤ 1 := by first | (clear he1011 hps1007 g1006 hps1004; omega) | (clear hps1007 g1006 hps1004; omega) | omega
              refine z_store X (lv' := [(4, .int (Int32.ofInt e1011)), (0, .ref (A 179)), (1, .int (Int32.ofInt xv)), (2, .int (Int32.ofInt nn)), (3, .int (Int32.ofInt c)), (5, .int (Int32.ofInt st0))]) rfl (by decide) (fun _ h => h) (z_inc X (x := st0) (lv' := [(5, .int (Int32.ofInt (st0 + 1))), (4, .int (Int32.ofInt e1011)), (0, .ref (A 179)), (1, .int (Int32.ofInt xv)), (2, .int (Int32.ofInt nn)), (3, .int (Int32.ofInt c))]) rfl (by decide) (List.Mem.tail _ (List.Mem.tail _ (List.Mem.tail _ (List.Mem.tail _ (List.Mem.tail _ (List.Mem.head _)))))) (fun _ h => h) (z_goto X (t := 68) rfl rfl (WS_pq [2, 3, 4, 5, 1, 0] (lv' := [(0, .ref (A 179)), (1, .int (Int32.ofInt xv)), (2, .int (Int32.ofInt nn)), (3, .int (Int32.ofInt c)), (4, .int (Int32.ofInt e1011)), (5, .int (Int32.ofInt (st0 + 1)))]) rfl ?_)))
              exact ih _ xv nn c e1011 (st0 + 1) Is1007 Gs1007 JRLx_s1007 (by first | exact ⟨And.intro (hi.1.1) (hi.1.2), And.intro (hi.2.1.1) (hi.2.1.2), And.intro (hi.2.2.1.1) (hi.2.2.1.2), oq_31e518ae re1011.2 re1011.1, oq_54f49eb5 hi.2.2.2.2.1, oq_5bf54478 g1002⟩ | omega) (by first | exact qk_me hm (by decide) (oq_2265a080 g1002) | omega) kx
            refine z_icmp_eq X (t := 109) rfl rfl (rng_to _) ⟨by first | exact hi.1.1 | omega, by first | exact hi.1.2 | omega⟩ (fun g1012 => ?_) (fun g1012 => ?_)
            ·
              exact z_const X rfl (N1010 _ (Or.inl ⟨g1012, rfl⟩))
            ·
              exact z_const X rfl (z_goto X (t := 110) rfl rfl (N1010 _ (Or.inr (⟨g1012, rfl⟩))))
  have L34 : ∀ (n : Nat) (t : PS) (xv nn c : Int), Bd t → Fm [73] [202, 204, 205, 206, 207, 208, 209, 210, 211, 212, 213, 214, 215, 216, 217, 218, 219, 220, 221, 222, 223, 224, 225, 226, 227, 203] s t → RLx t → (rng xv ∧ (0 ≤ nn ∧ nn ≤ c) ∧ c ≤ 128) → (128 - c : Int).toNat < n → (∀ (t' : PS) (nn' c' : Int), Bd t' → Fm [73] [202, 204, 205, 206, 207, 208, 209, 210, 211, 212, 213, 214, 215, 216, 217, 218, 219, 220, 221, 222, 223, 224, 225, 226, 227, 203] s t' → RLx t' → (rng xv ∧ (0 ≤ nn' ∧ nn' ≤ c') ∧ c' ≤ 128) → WS k 137 [(0, .ref (A 179)), (1, .int (Int32.ofInt xv)), (2, .int (Int32.ofInt nn')), (3, .int (Int32.ofInt c'))] [] (Wd A dT t') 0 0) → WS k 34 [(0, .ref (A 179)), (1, .int (Int32.ofInt xv)), (2, .int (Int32.ofInt nn)), (3, .int (Int32.ofInt c))] [] (Wd A dT t) 0 0 := by
    intro n
    induction n with
    | zero =>
      intro t xv nn c I F jjRLx hi hm kx
      exact absurd hm (Nat.not_lt_zero _)
    | succ n ih =>
      intro t xv nn c I F jjRLx hi hm kx
      have b2001 := bi_73 I
      refine z_load_n X (x := c) rfl (List.Mem.tail _ (List.Mem.tail _ (List.Mem.tail _ (List.Mem.head _)))) (z_sipush X rfl (z_icmp_ge X (t := 137) rfl rfl ⟨by first | exact oq_e001bc0d hi.2.1.2 hi.2.1.1 | omega, by first | exact oq_4ee82282 hi.2.2 | omega⟩ (by decide) (fun g2002 => ?_) (fun g2002 => ?_)))
      ·
        refine WS_pq [0, 1, 2, 3] (lv' := [(0, .ref (A 179)), (1, .int (Int32.ofInt xv)), (2, .int (Int32.ofInt nn)), (3, .int (Int32.ofInt c))]) rfl ?_
        exact kx _ nn c I F jjRLx (by first | exact ⟨And.intro (hi.1.1) (hi.1.2), And.intro (hi.2.1.1) (hi.2.1.2), hi.2.2⟩ | omega)
      ·
        refine z_aload_n X (x := A 179) rfl (List.Mem.head _) (s_getR X 179 rfl (c518_ok rfl) rfl rfl (z_load_n X (x := c) rfl (List.Mem.tail _ (List.Mem.tail _ (List.Mem.tail _ (List.Mem.head _)))) (z_ald X 256 rfl (c518_ok rfl) rfl (by first | exact oq_12a1f9e1 hi.2.1.2 hi.2.1.1 | omega) (show c < 128 by first | exact g2002 | omega) (cbig_ok rfl) ?_)))
        have b2003 := bc_228 I (show (c).toNat < 128 by first | exact oq_afb89947 g2002 | omega)
        refine z_load_n X (x := xv) rfl (List.Mem.tail _ (List.Mem.head _)) (z_icmp_ne X (t := 131) rfl rfl (rng_to _) ⟨by first | exact hi.1.1 | omega, by first | exact hi.1.2 | omega⟩ (fun g2004 => ?_) (fun g2004 => ?_))
        ·
          refine z_inc X (x := c) (lv' := [(3, .int (Int32.ofInt (c + 1))), (0, .ref (A 179)), (1, .int (Int32.ofInt xv)), (2, .int (Int32.ofInt nn))]) rfl (by decide) (List.Mem.tail _ (List.Mem.tail _ (List.Mem.tail _ (List.Mem.head _)))) (fun _ h => h) (z_goto X (t := 34) rfl rfl (WS_pq [1, 2, 3, 0] (lv' := [(0, .ref (A 179)), (1, .int (Int32.ofInt xv)), (2, .int (Int32.ofInt nn)), (3, .int (Int32.ofInt (c + 1)))]) rfl ?_))
          exact ih _ xv nn (c + 1) I F jjRLx (by first | exact ⟨And.intro (hi.1.1) (hi.1.2), And.intro (hi.2.1.1) (oq_03182e9e hi.2.1.2), oq_d2afb425 g2002⟩ | omega) (by first | exact qk_me hm (by decide) (oq_c268b7bd g2002) | omega) kx
        ·
          refine z_aload_n X (x := A 179) rfl (List.Mem.head _) (z_load_n X (x := c) rfl (List.Mem.tail _ (List.Mem.tail _ (List.Mem.tail _ (List.Mem.head _)))) (zcV_i1 X E 179 (As := [.int (Int32.ofInt c)]) (st := []) rfl rfl rfl rfl (k_isCrossing G I jjRLx (by first | exact ⟨oq_12a1f9e1 hi.2.1.2 hi.2.1.1, oq_04367f15 g2002⟩ | omega)) rfl (Nat.le_of_ble_eq_true rfl) (fun s2005 e2006 Is2005 Fs2005 JRLx_s2005 hrs2005 hps2005 => ?_)))
          have Gs2005 := fm_tq F Fs2005 rfl rfl
          have JRLx_s2005 : RLx s2005 := RLx_fm Fs2005 (by decide) jjRLx
          have ws2005_73 : iI s2005 73 = iI t 73 := fm_iq Fs2005 rfl
          refine z_if_ne X (t := 62) rfl rfl hrs2005 (fun g2007 => ?_) (fun g2007 => ?_)
          ·
            refine z_const X rfl (z_store X (lv' := [(4, .int (Int32.ofInt 0)), (0, .ref (A 179)), (1, .int (Int32.ofInt xv)), (2, .int (Int32.ofInt nn)), (3, .int (Int32.ofInt c))]) rfl (by decide) (fun _ h => h) (z_const X rfl (z_store X (lv' := [(5, .int (Int32.ofInt 0)), (4, .int (Int32.ofInt 0)), (0, .ref (A 179)), (1, .int (Int32.ofInt xv)), (2, .int (Int32.ofInt nn)), (3, .int (Int32.ofInt c))]) rfl (by decide) (fun _ h => h) (WS_pq [2, 3, 4, 5, 1, 0] (lv' := [(0, .ref (A 179)), (1, .int (Int32.ofInt xv)), (2, .int (Int32.ofInt nn)), (3, .int (Int32.ofInt c)), (4, .int (Int32.ofInt 0)), (5, .int (Int32.ofInt 0))]) rfl (L68 ((6 - 0 : Int).toNat + 1) s2005 xv nn c 0 0 Is2005 Gs2005 JRLx_s2005 (by first | exact ⟨And.intro (hi.1.1) (hi.1.2), And.intro (hi.2.1.1) (hi.2.1.2), And.intro (oq_12a1f9e1 hi.2.1.2 hi.2.1.1) (oq_04367f15 g2002), Or.inl (by decide), by decide, by decide⟩ | omega) (Nat.lt_succ_self _) ?_)))))
            intro s2008 x2009 x2010 Is2008 Fs2008 JRLx_s2008 hs2008
            have b2011 := bi_73 Is2008
            refine z_load_n X (x := nn) rfl (List.Mem.tail _ (List.Mem.tail _ (List.Mem.head _))) (z_load X (x := x2009) rfl (List.Mem.tail _ (List.Mem.tail _ (List.Mem.tail _ (List.Mem.tail _ (List.Mem.head _))))) ?_)
            have N2012 : ∀ e2013 : Int, (((x2009 = 0) ∧ e2013 = 0) ∨ ((x2009 ≠ 0) ∧ e2013 = 1)) → WS k 129 [(0, .ref (A 179)), (1, .int (Int32.ofInt xv)), (2, .int (Int32.ofInt nn)), (3, .int (Int32.ofInt c)), (4, .int (Int32.ofInt x2009)), (5, .int (Int32.ofInt x2010))] [.int (Int32.ofInt e2013), .int (Int32.ofInt nn)] (Wd A dT s2008) 0 0 := by
              intro e2013 he2013
              have re2013 : 0 ≤ e2013 ∧ e2013 ≤ 1 := by first | (clear he2013 g2007 hps2005; omega) | (clear g2007 hps2005; omega) | omega
              refine z_add X rfl (z_store_n X (lv' := [(2, .int (Int32.ofInt (nn + e2013))), (0, .ref (A 179)), (1, .int (Int32.ofInt xv)), (3, .int (Int32.ofInt c)), (4, .int (Int32.ofInt x2009)), (5, .int (Int32.ofInt x2010))]) rfl (by decide) (fun _ h => h) (z_inc X (x := c) (lv' := [(3, .int (Int32.ofInt (c + 1))), (2, .int (Int32.ofInt (nn + e2013))), (0, .ref (A 179)), (1, .int (Int32.ofInt xv)), (4, .int (Int32.ofInt x2009)), (5, .int (Int32.ofInt x2010))]) rfl (by decide) (List.Mem.tail _ (List.Mem.tail _ (List.Mem.tail _ (List.Mem.head _)))) (fun _ h => h) (z_goto X (t := 34) rfl rfl (WS_pq [2, 3, 1, 0] (lv' := [(0, .ref (A 179)), (1, .int (Int32.ofInt xv)), (2, .int (Int32.ofInt (nn + e2013))), (3, .int (Int32.ofInt (c + 1)))]) rfl ?_))))
              exact ih _ xv (nn + e2013) (c + 1) Is2008 Fs2008 JRLx_s2008 (by first | exact ⟨And.intro (hs2008.1.1) (hs2008.1.2), And.intro (oq_d8d6a599 re2013.1 hs2008.2.1.1) (oq_5c09eddf re2013.2 hs2008.2.1.2), oq_e4399267 hs2008.2.2.1.2⟩ | omega) (by first | exact qk_me hm (by decide) (oq_7e05e720 hs2008.2.2.1.2) | omega) kx
            refine z_if_eq X (t := 128) rfl rfl ⟨by first | exact oq_bde653e9 hs2008.2.2.2.1 | omega, by first | exact oq_4ad2cb8b hs2008.2.2.2.1 | omega⟩ (fun g2014 => ?_) (fun g2014 => ?_)
            ·
              exact z_const X rfl (N2012 _ (Or.inl ⟨g2014, rfl⟩))
            ·
              exact z_const X rfl (z_goto X (t := 129) rfl rfl (N2012 _ (Or.inr (⟨g2014, rfl⟩))))
          ·
            refine z_goto X (t := 131) rfl rfl (z_inc X (x := c) (lv' := [(3, .int (Int32.ofInt (c + 1))), (0, .ref (A 179)), (1, .int (Int32.ofInt xv)), (2, .int (Int32.ofInt nn))]) rfl (by decide) (List.Mem.tail _ (List.Mem.tail _ (List.Mem.tail _ (List.Mem.head _)))) (fun _ h => h) (z_goto X (t := 34) rfl rfl (WS_pq [1, 2, 3, 0] (lv' := [(0, .ref (A 179)), (1, .int (Int32.ofInt xv)), (2, .int (Int32.ofInt nn)), (3, .int (Int32.ofInt (c + 1)))]) rfl ?_)))
            exact ih _ xv nn (c + 1) Is2005 Gs2005 JRLx_s2005 (by first | exact ⟨And.intro (hi.1.1) (hi.1.2), And.intro (hi.2.1.1) (oq_03182e9e hi.2.1.2), oq_d2afb425 g2002⟩ | omega) (by first | exact qk_me hm (by decide) (oq_c268b7bd g2002) | omega) kx
  refine z_aload_n X (x := A 179) rfl (List.Mem.head _) (z_const X rfl (s_putI X 179 rfl (c518_ok rfl) rfl rfl (by decide) rfl rfl rfl (wd_gen (fun s2 hs2 => ?_))))
  have Is2 : Bd s2 := eqB hs2 (bd_I I (show (0 : Int) ≤ 0 ∧ 0 ≤ 3 by first | exact ⟨by decide, by decide⟩ | omega) (by decide))
  have Fs2 := eqF hs2 (fm_I F (inl_ok (a := 73) rfl))
  have vs2 : iI s2 73 = 0 := eqI hs2 (iI_u (by decide))
  have fs2 : Fm [73] [] s s2 := by rw [hs2]; exact fm_I (fm_rf _ _ _) (show 73 ∈ _ by decide)
  have JRLx_s2 : RLx s2 := RLx_fm fs2 (by decide) jRLx
  refine z_aload_n X (x := A 179) rfl (List.Mem.head _) (z_load_n X (x := x) rfl (List.Mem.tail _ (List.Mem.head _)) (z_const X rfl (z_bipush X rfl (zcS_i0 X E (As := [.int (Int32.ofInt x), .int (Int32.ofInt 0), .int (Int32.ofInt 7)]) (st := [.ref (A 179)]) rfl rfl (k_in G Is2 (by first | exact ⟨p0.1, p0.2⟩ | omega) (by first | exact ⟨by decide, by decide⟩ | omega) (by first | exact ⟨by decide, by decide⟩ | omega)) rfl (Nat.le_of_ble_eq_true rfl) (fun s3 e4 Is3 Fs3 hrs3 hps3 => ?_)))))
  have Gs3 := fm_tq Fs2 Fs3 rfl rfl
  have JRLx_s3 : RLx s3 := RLx_fm Fs3 (by decide) JRLx_s2
  have ws3_73 : iI s3 73 = iI s2 73 := fm_iq Fs3 rfl
  have N5 : ∀ e6 : Int, (((e4 ≠ 0) ∧ e6 = 0) ∨ ((e4 = 0) ∧ e6 = 1)) → WS k 21 [(0, .ref (A 179)), (1, .int (Int32.ofInt x))] [.int (Int32.ofInt e6), .ref (A 179)] (Wd A dT s3) 0 0 := by
    intro e6 he6
    have re6 : 0 ≤ e6 ∧ e6 ≤ 1 := by first | (clear he6 hps3; omega) | (clear hps3; omega) | omega
    refine z_const X rfl (zcV_i0 X E 179 (As := [.int (Int32.ofInt e6), .int (Int32.ofInt 1)]) (st := []) rfl rfl rfl rfl (k_bad G Is3 (by first | exact oq_31e518ae re6.2 re6.1 | omega) (by first | exact ⟨by decide, by decide⟩ | omega)) rfl (Nat.le_of_ble_eq_true rfl) (fun s7 e8 Is7 Fs7 hrs7 hps7 => ?_))
    have Gs7 := fm_tq Gs3 Fs7 rfl rfl
    have JRLx_s7 : RLx s7 := RLx_fm Fs7 (by decide) JRLx_s3
    have b9 := bi_73 Is7
    refine z_if_eq X (t := 30) rfl rfl hrs7 (fun g10 => ?_) (fun g10 => ?_)
    ·
      refine z_const X rfl (z_store_n X (lv' := [(2, .int (Int32.ofInt 0)), (0, .ref (A 179)), (1, .int (Int32.ofInt x))]) rfl (by decide) (fun _ h => h) (z_const X rfl (z_store_n X (lv' := [(3, .int (Int32.ofInt 0)), (2, .int (Int32.ofInt 0)), (0, .ref (A 179)), (1, .int (Int32.ofInt x))]) rfl (by decide) (fun _ h => h) (WS_pq [2, 3, 1, 0] (lv' := [(0, .ref (A 179)), (1, .int (Int32.ofInt x)), (2, .int (Int32.ofInt 0)), (3, .int (Int32.ofInt 0))]) rfl (L34 ((128 - 0 : Int).toNat + 1) s7 x 0 0 Is7 Gs7 JRLx_s7 (by first | exact ⟨And.intro (p0.1) (p0.2), And.intro (by decide) (by decide), by decide⟩ | omega) (Nat.lt_succ_self _) ?_)))))
      intro s11 x12 x13 Is11 Fs11 JRLx_s11 hs11
      have b14 := bi_73 Is11
      refine z_load_n X (x := x12) rfl (List.Mem.tail _ (List.Mem.tail _ (List.Mem.head _))) ?_
      exact w_iret X.1 q hRt rfl (ax_d X (show cdA 246 138 = some (.ireturn, 1, 0, 0, 0) from rfl)) (Nat.zero_le _) (Nat.zero_le _) ⟨_, rfl, Is11, Fs11, JRLx_s11, x12, rfl, ⟨by first | exact oq_fa4e5087 hs11.2.1.1 | omega, by first | exact oq_9eb6cd9c hs11.2.1.2 hs11.2.2 | omega⟩, trivial⟩
    ·
      refine z_const X rfl ?_
      exact w_iret X.1 q hRt rfl (ax_d X (show cdA 246 29 = some (.ireturn, 1, 0, 0, 0) from rfl)) (Nat.zero_le _) (Nat.zero_le _) ⟨_, rfl, Is7, Gs7, JRLx_s7, 0, rfl, (by decide), trivial⟩
  refine z_if_ne X (t := 20) rfl rfl hrs3 (fun g15 => ?_) (fun g15 => ?_)
  ·
    exact z_const X rfl (N5 _ (Or.inl ⟨g15, rfl⟩))
  ·
    exact z_const X rfl (z_goto X (t := 21) rfl rfl (N5 _ (Or.inr (⟨g15, rfl⟩))))
set_option maxRecDepth 4000 in
theorem k_holds (G : GX l s0 D tys a0 dT) (I : Bd s) (jRLx : RLx s)  : CT l s0 D A dT 247 (rmN 247) [.ref (A 179)] s (fun o t => Bd t ∧ Fm [73, 77, 75, 78, 79, 80, 81] [202, 204, 205, 206, 207, 208, 209, 210, 211, 212, 213, 214, 215, 216, 217, 218, 219, 220, 221, 222, 223, 224, 225, 226, 227, 203, 161, 230, 231, 232] s t ∧ RLx t ∧ ∃ e, o = .inl (some (.int (Int32.ofInt e))) ∧ rng e ∧ (True)) := by
  refine ct_of G (by decide) (Nat.le_of_ble_eq_true rfl) (fun k X E hRt hXt q => ?_)
  show WS k 0 [(0, .ref (A 179))] [] _ 0 0
  have F : Fm [73, 77, 75, 78, 79, 80, 81] [202, 204, 205, 206, 207, 208, 209, 210, 211, 212, 213, 214, 215, 216, 217, 218, 219, 220, 221, 222, 223, 224, 225, 226, 227, 203, 161, 230, 231, 232] s s := fm_rf _ _ s
  have L7 : ∀ (n : Nat) (t : PS) (p : Int), Bd t → Fm [73, 77, 75, 78, 79, 80, 81] [202, 204, 205, 206, 207, 208, 209, 210, 211, 212, 213, 214, 215, 216, 217, 218, 219, 220, 221, 222, 223, 224, 225, 226, 227, 203, 161, 230, 231, 232] s t → RLx t → (0 ≤ p ∧ p ≤ 8) → (8 - p : Int).toNat < n → (∀ (t' : PS) (p' : Int), Bd t' → Fm [73, 77, 75, 78, 79, 80, 81] [202, 204, 205, 206, 207, 208, 209, 210, 211, 212, 213, 214, 215, 216, 217, 218, 219, 220, 221, 222, 223, 224, 225, 226, 227, 203, 161, 230, 231, 232] s t' → RLx t' → (0 ≤ p' ∧ p' ≤ 8) → WS k 51 [(0, .ref (A 179)), (1, .int (Int32.ofInt p'))] [] (Wd A dT t') 0 0) → WS k 7 [(0, .ref (A 179)), (1, .int (Int32.ofInt p))] [] (Wd A dT t) 0 0 := by
    intro n
    induction n with
    | zero =>
      intro t p I F jjRLx hi hm kx
      exact absurd hm (Nat.not_lt_zero _)
    | succ n ih =>
      intro t p I F jjRLx hi hm kx
      refine z_load_n X (x := p) rfl (List.Mem.tail _ (List.Mem.head _)) (z_bipush X rfl (z_icmp_ge X (t := 51) rfl rfl ⟨by first | exact oq_fa4e5087 hi.1 | omega, by first | exact oq_d3f5d874 hi.2 | omega⟩ (by decide) (fun g1001 => ?_) (fun g1001 => ?_)))
      ·
        refine WS_pq [0, 1] (lv' := [(0, .ref (A 179)), (1, .int (Int32.ofInt p))]) rfl ?_
        exact kx _ p I F jjRLx (by first | exact ⟨hi.1, hi.2⟩ | omega)
      ·
        refine z_aload_n X (x := A 179) rfl (List.Mem.head _) (z_load_n X (x := p) rfl (List.Mem.tail _ (List.Mem.head _)) (zcV_i0 X E 179 (As := [.int (Int32.ofInt p)]) (st := []) rfl rfl rfl rfl (k_isWhole G I (by first | exact ⟨oq_fa4e5087 hi.1, oq_7bea7075 g1001⟩ | omega)) rfl (Nat.le_of_ble_eq_true rfl) (fun s1002 e1003 Is1002 Fs1002 hrs1002 hps1002 => ?_)))
        have Gs1002 := fm_tq F Fs1002 rfl rfl
        have JRLx_s1002 : RLx s1002 := RLx_fm Fs1002 (by decide) jjRLx
        refine z_if_eq X (t := 43) rfl rfl hrs1002 (fun g1004 => ?_) (fun g1004 => ?_)
        ·
          refine z_const X rfl ?_
          exact w_iret X.1 q hRt (nar_ret (by first | exact Or.inl (by decide) | omega)) (ax_d X (show cdA 247 44 = some (.ireturn, 1, 0, 0, 0) from rfl)) (Nat.zero_le _) (Nat.zero_le _) ⟨_, rfl, Is1002, Gs1002, JRLx_s1002, 0, rfl, (by decide), trivial⟩
        ·
          refine z_aload_n X (x := A 179) rfl (List.Mem.head _) (z_load_n X (x := p) rfl (List.Mem.tail _ (List.Mem.head _)) (zcV_i0 X E 179 (As := [.int (Int32.ofInt p)]) (st := []) rfl rfl rfl rfl (k_hasCells G Is1002 (by first | exact ⟨oq_fa4e5087 hi.1, oq_7bea7075 g1001⟩ | omega)) rfl (Nat.le_of_ble_eq_true rfl) (fun s1005 e1006 Is1005 Fs1005 hrs1005 hps1005 => ?_)))
          have Gs1005 := fm_tq Gs1002 Fs1005 rfl rfl
          have JRLx_s1005 : RLx s1005 := RLx_fm Fs1005 (by decide) JRLx_s1002
          refine z_if_eq X (t := 45) rfl rfl hrs1005 (fun g1007 => ?_) (fun g1007 => ?_)
          ·
            refine z_inc X (x := p) (lv' := [(1, .int (Int32.ofInt (p + 1))), (0, .ref (A 179))]) rfl (by decide) (List.Mem.tail _ (List.Mem.head _)) (fun _ h => h) (z_goto X (t := 7) rfl rfl (WS_pq [1, 0] (lv' := [(0, .ref (A 179)), (1, .int (Int32.ofInt (p + 1)))]) rfl ?_))
            exact ih _ (p + 1) Is1005 Gs1005 JRLx_s1005 (by first | exact ⟨oq_54f49eb5 hi.1, oq_0c7b19c3 g1001⟩ | omega) (by first | exact qk_me hm (by decide) (oq_9f368f35 g1001) | omega) kx
          ·
            refine z_aload_n X (x := A 179) rfl (List.Mem.head _) (z_load_n X (x := p) rfl (List.Mem.tail _ (List.Mem.head _)) (zcV_i1 X E 179 (As := [.int (Int32.ofInt p)]) (st := []) rfl rfl rfl rfl (k_peakOfPiece G Is1005 JRLx_s1005 (by first | exact ⟨oq_fa4e5087 hi.1, oq_7bea7075 g1001⟩ | omega)) rfl (Nat.le_of_ble_eq_true rfl) (fun s1008 e1009 Is1008 Fs1008 JRLx_s1008 hrs1008 hps1008 => ?_)))
            have Gs1008 := fm_tq Gs1005 Fs1008 rfl rfl
            have JRLx_s1008 : RLx s1008 := RLx_fm Fs1008 (by decide) JRLx_s1005
            refine z_aload_n X (x := A 179) rfl (List.Mem.head _) (s_getR X 179 rfl (c518_ok rfl) rfl rfl (z_load_n X (x := p) rfl (List.Mem.tail _ (List.Mem.head _)) (z_ald X 257 rfl (c518_ok rfl) rfl (by first | exact hi.1 | omega) (show p < 8 by first | exact g1001 | omega) (cbig_ok rfl) ?_)))
            have b1010 := bc_229 Is1008 (show (p).toNat < 8 by first | exact oq_db4b3b8b g1001 | omega)
            refine z_icmp_le X (t := 45) rfl rfl hrs1008 (rng_to _) (fun g1011 => ?_) (fun g1011 => ?_)
            ·
              refine z_inc X (x := p) (lv' := [(1, .int (Int32.ofInt (p + 1))), (0, .ref (A 179))]) rfl (by decide) (List.Mem.tail _ (List.Mem.head _)) (fun _ h => h) (z_goto X (t := 7) rfl rfl (WS_pq [1, 0] (lv' := [(0, .ref (A 179)), (1, .int (Int32.ofInt (p + 1)))]) rfl ?_))
              exact ih _ (p + 1) Is1008 Gs1008 JRLx_s1008 (by first | exact ⟨oq_54f49eb5 hi.1, oq_0c7b19c3 g1001⟩ | omega) (by first | exact qk_me hm (by decide) (oq_9f368f35 g1001) | omega) kx
            ·
              refine z_const X rfl ?_
              exact w_iret X.1 q hRt (nar_ret (by first | exact Or.inl (by decide) | omega)) (ax_d X (show cdA 247 44 = some (.ireturn, 1, 0, 0, 0) from rfl)) (Nat.zero_le _) (Nat.zero_le _) ⟨_, rfl, Is1008, Gs1008, JRLx_s1008, 0, rfl, (by decide), trivial⟩
  refine z_aload_n X (x := A 179) rfl (List.Mem.head _) (z_const X rfl (s_putI X 179 rfl (c518_ok rfl) rfl rfl (by decide) rfl rfl rfl (wd_gen (fun s1 hs1 => ?_))))
  have Is1 : Bd s1 := eqB hs1 (bd_I I (show (0 : Int) ≤ 0 ∧ 0 ≤ 3 by first | exact ⟨by decide, by decide⟩ | omega) (by decide))
  have Fs1 := eqF hs1 (fm_I F (inl_ok (a := 73) rfl))
  have vs1 : iI s1 73 = 0 := eqI hs1 (iI_u (by decide))
  have fs1 : Fm [73] [] s s1 := by rw [hs1]; exact fm_I (fm_rf _ _ _) (show 73 ∈ _ by decide)
  have JRLx_s1 : RLx s1 := RLx_fm fs1 (by decide) jRLx
  refine z_const X rfl (z_store_n X (lv' := [(1, .int (Int32.ofInt 0)), (0, .ref (A 179))]) rfl (by decide) (fun _ h => h) (WS_pq [1, 0] (lv' := [(0, .ref (A 179)), (1, .int (Int32.ofInt 0))]) rfl (L7 ((8 - 0 : Int).toNat + 1) s1 0 Is1 Fs1 JRLx_s1 (by first | exact ⟨by decide, by decide⟩ | omega) (Nat.lt_succ_self _) ?_)))
  intro s2 x3 Is2 Fs2 JRLx_s2 hs2
  refine z_const X rfl ?_
  exact w_iret X.1 q hRt (nar_ret (by first | exact Or.inr (by decide) | omega)) (ax_d X (show cdA 247 52 = some (.ireturn, 1, 0, 0, 0) from rfl)) (Nat.zero_le _) (Nat.zero_le _) ⟨_, rfl, Is2, Fs2, JRLx_s2, 1, rfl, (by decide), trivial⟩
set_option maxRecDepth 4000 in
theorem k_stepsCost (G : GX l s0 D tys a0 dT) (I : Bd s)  : CT l s0 D A dT 249 (rmN 249) [.ref (A 179)] s (fun o t => Bd t ∧ Fm [] [] s t ∧ ∃ e, o = .inl (some (.int (Int32.ofInt e))) ∧ rng e ∧ (True)) := by
  refine ct_of G (by decide) (Nat.le_of_ble_eq_true rfl) (fun k X E hRt hXt q => ?_)
  show WS k 0 [(0, .ref (A 179))] [] _ 0 0
  have F : Fm [] [] s s := fm_rf _ _ s
  have b1 := bi_90 I
  have L14 : ∀ (n : Nat) (t : PS) (nn a ka : Int), Bd t → Fm [] [] s t → (rng nn ∧ (0 ≤ a ∧ a ≤ 11) ∧ 1 ≤ ka ∧ ka ≤ 24) → (24 - ka : Int).toNat < n → (∀ (t' : PS) (nn' ka' : Int), Bd t' → Fm [] [] s t' → (rng nn' ∧ (0 ≤ a ∧ a ≤ 11) ∧ 1 ≤ ka' ∧ ka' ≤ 24) → WS k 87 [(0, .ref (A 179)), (1, .int (Int32.ofInt nn')), (2, .int (Int32.ofInt a)), (3, .int (Int32.ofInt ka'))] [] (Wd A dT t') 0 0) → WS k 14 [(0, .ref (A 179)), (1, .int (Int32.ofInt nn)), (2, .int (Int32.ofInt a)), (3, .int (Int32.ofInt ka))] [] (Wd A dT t) 0 0 := by
    intro n
    induction n with
    | zero =>
      intro t nn a ka I F hi hm kx
      exact absurd hm (Nat.not_lt_zero _)
    | succ n ih =>
      intro t nn a ka I F hi hm kx
      have b1001 := bi_90 I
      refine z_load_n X (x := ka) rfl (List.Mem.tail _ (List.Mem.tail _ (List.Mem.tail _ (List.Mem.head _)))) (z_aload_n X (x := A 179) rfl (List.Mem.head _) (s_getR X 179 rfl (c518_ok rfl) rfl rfl (z_load_n X (x := a) rfl (List.Mem.tail _ (List.Mem.tail _ (List.Mem.head _))) (z_ald X 185 rfl (c518_ok rfl) rfl (by first | exact hi.2.1.1 | omega) (show a < 12 by first | exact oq_0ddfcfee hi.2.1.2 | omega) (cbig_ok rfl) ?_))))
      have b1002 := bc_162 I (show (a).toNat < 12 by first | exact oq_9c5fa447 hi.2.1.2 | omega)
      refine z_icmp_ge X (t := 87) rfl rfl ⟨by first | exact oq_9462313e hi.2.2.1 | omega, by first | exact oq_5bcd337f hi.2.2.2 | omega⟩ (rng_to _) (fun g1003 => ?_) (fun g1003 => ?_)
      ·
        refine WS_pq [0, 1, 2, 3] (lv' := [(0, .ref (A 179)), (1, .int (Int32.ofInt nn)), (2, .int (Int32.ofInt a)), (3, .int (Int32.ofInt ka))]) rfl ?_
        exact kx _ nn ka I F (by first | exact ⟨And.intro (hi.1.1) (hi.1.2), And.intro (hi.2.1.1) (hi.2.1.2), hi.2.2.1, hi.2.2.2⟩ | omega)
      ·
        refine z_aload_n X (x := A 179) rfl (List.Mem.head _) (s_getR X 179 rfl (c518_ok rfl) rfl rfl (z_aload_n X (x := A 179) rfl (List.Mem.head _) (s_getR X 179 rfl (c518_ok rfl) rfl rfl (z_load_n X (x := a) rfl (List.Mem.tail _ (List.Mem.tail _ (List.Mem.head _))) (z_aald X rw_189 rfl (by first | exact hi.2.1.1 | omega) (show a < 12 by first | exact oq_0ddfcfee hi.2.1.2 | omega) (by decide) (z_load_n X (x := ka) rfl (List.Mem.tail _ (List.Mem.tail _ (List.Mem.tail _ (List.Mem.head _)))) (z_const X rfl (z_sub X rfl (z_ald2 X rw_189 rfl (show (a : Int).toNat < 12 by first | exact oq_9c5fa447 hi.2.1.2 | omega) (by first | exact oq_02aa5459 hi.2.2.1 | omega) (show (ka - 1) < 24 by first | exact oq_19cb6f5b hi.2.2.2 | omega) (by decide) ?_)))))))))
        have b1004 : (0 : Int) ≤ (iC t (166 + (a : Int).toNat) ((ka - 1) : Int).toNat) ∧ (iC t (166 + (a : Int).toNat) ((ka - 1) : Int).toNat) ≤ 127 := rw_bd rw_189 I (show (a : Int).toNat < 12 by first | exact oq_9c5fa447 hi.2.1.2 | omega) (show ((ka - 1) : Int).toNat < 24 by first | exact oq_f976b25c hi.2.2.2 | omega)
        refine z_ald X 256 rfl (c518_ok rfl) rfl (by first | exact b1004.1 | omega) (show (iC t (166 + (a : Int).toNat) ((ka - 1) : Int).toNat) < 128 by first | exact oq_31b2bf10 b1004.2 | omega) (cbig_ok rfl) ?_
        have b1005 := bc_228 I (show ((iC t (166 + (a : Int).toNat) ((ka - 1) : Int).toNat)).toNat < 128 by first | exact oq_c7f4e9c1 b1004.2 | omega)
        refine z_store X (lv' := [(4, .int (Int32.ofInt (iC t 228 ((iC t (166 + (a : Int).toNat) ((ka - 1) : Int).toNat)).toNat))), (0, .ref (A 179)), (1, .int (Int32.ofInt nn)), (2, .int (Int32.ofInt a)), (3, .int (Int32.ofInt ka))]) rfl (by decide) (fun _ h => h) (z_aload_n X (x := A 179) rfl (List.Mem.tail _ (List.Mem.head _)) (s_getR X 179 rfl (c518_ok rfl) rfl rfl (z_aload_n X (x := A 179) rfl (List.Mem.tail _ (List.Mem.head _)) (s_getR X 179 rfl (c518_ok rfl) rfl rfl (z_load_n X (x := a) rfl (List.Mem.tail _ (List.Mem.tail _ (List.Mem.tail _ (List.Mem.head _)))) (z_aald X rw_189 rfl (by first | exact hi.2.1.1 | omega) (show a < 12 by first | exact oq_0ddfcfee hi.2.1.2 | omega) (by decide) (z_load_n X (x := ka) rfl (List.Mem.tail _ (List.Mem.tail _ (List.Mem.tail _ (List.Mem.tail _ (List.Mem.head _))))) (z_ald2 X rw_189 rfl (show (a : Int).toNat < 12 by first | exact oq_9c5fa447 hi.2.1.2 | omega) (by first | exact oq_2a6e3b50 hi.2.2.1 | omega) (show ka < 24 by first | exact oq_8ff7beb9 g1003 b1002.2 | omega) (by decide) ?_))))))))
        have b1006 : (0 : Int) ≤ (iC t (166 + (a : Int).toNat) (ka : Int).toNat) ∧ (iC t (166 + (a : Int).toNat) (ka : Int).toNat) ≤ 127 := rw_bd rw_189 I (show (a : Int).toNat < 12 by first | exact oq_9c5fa447 hi.2.1.2 | omega) (show (ka : Int).toNat < 24 by first | exact oq_9e668fc9 g1003 b1002.2 | omega)
        refine z_ald X 256 rfl (c518_ok rfl) rfl (by first | exact b1006.1 | omega) (show (iC t (166 + (a : Int).toNat) (ka : Int).toNat) < 128 by first | exact oq_31b2bf10 b1006.2 | omega) (cbig_ok rfl) ?_
        have b1007 := bc_228 I (show ((iC t (166 + (a : Int).toNat) (ka : Int).toNat)).toNat < 128 by first | exact oq_c7f4e9c1 b1006.2 | omega)
        refine z_store X (lv' := [(5, .int (Int32.ofInt (iC t 228 ((iC t (166 + (a : Int).toNat) (ka : Int).toNat)).toNat))), (4, .int (Int32.ofInt (iC t 228 ((iC t (166 + (a : Int).toNat) ((ka - 1) : Int).toNat)).toNat))), (0, .ref (A 179)), (1, .int (Int32.ofInt nn)), (2, .int (Int32.ofInt a)), (3, .int (Int32.ofInt ka))]) rfl (by decide) (fun _ h => h) (z_load_n X (x := nn) rfl (List.Mem.tail _ (List.Mem.tail _ (List.Mem.tail _ (List.Mem.head _)))) (z_load X (x := (iC t 228 ((iC t (166 + (a : Int).toNat) ((ka - 1) : Int).toNat)).toNat)) rfl (List.Mem.tail _ (List.Mem.head _)) (z_load X (x := (iC t 228 ((iC t (166 + (a : Int).toNat) (ka : Int).toNat)).toNat)) rfl (List.Mem.head _) (z_icmp_ne X (t := 70) rfl rfl (rng_to _) (rng_to _) (fun g1008 => ?_) (fun g1008 => ?_)))))
        ·
          refine z_aload_n X (x := A 179) rfl (List.Mem.tail _ (List.Mem.tail _ (List.Mem.head _))) (z_load_n X (x := a) rfl (List.Mem.tail _ (List.Mem.tail _ (List.Mem.tail _ (List.Mem.tail _ (List.Mem.head _))))) (zcV_i0 X E 179 (As := [.int (Int32.ofInt a)]) (st := [.int (Int32.ofInt nn)]) rfl rfl rfl rfl (k_total G I (by first | exact ⟨hi.2.1.1, hi.2.1.2⟩ | omega)) rfl (Nat.le_of_ble_eq_true rfl) (fun s1009 e1010 Is1009 Fs1009 hrs1009 hps1009 => ?_)))
          have Gs1009 := fm_tq F Fs1009 rfl rfl
          have ws1009_90 : iI s1009 90 = iI t 90 := fm_iq Fs1009 rfl
          refine z_goto X (t := 79) rfl rfl (z_add X rfl (z_any (fun y1011 hy1011 => ?_)))
          refine z_store_n X (lv' := [(1, .int (Int32.ofInt y1011)), (5, .int (Int32.ofInt (iC t 228 ((iC t (166 + (a : Int).toNat) (ka : Int).toNat)).toNat))), (4, .int (Int32.ofInt (iC t 228 ((iC t (166 + (a : Int).toNat) ((ka - 1) : Int).toNat)).toNat))), (0, .ref (A 179)), (2, .int (Int32.ofInt a)), (3, .int (Int32.ofInt ka))]) rfl (by decide) (fun _ h => h) (z_inc X (x := ka) (lv' := [(3, .int (Int32.ofInt (ka + 1))), (1, .int (Int32.ofInt y1011)), (5, .int (Int32.ofInt (iC t 228 ((iC t (166 + (a : Int).toNat) (ka : Int).toNat)).toNat))), (4, .int (Int32.ofInt (iC t 228 ((iC t (166 + (a : Int).toNat) ((ka - 1) : Int).toNat)).toNat))), (0, .ref (A 179)), (2, .int (Int32.ofInt a))]) rfl (by decide) (List.Mem.tail _ (List.Mem.tail _ (List.Mem.tail _ (List.Mem.tail _ (List.Mem.tail _ (List.Mem.head _)))))) (fun _ h => h) (z_goto X (t := 14) rfl rfl (WS_pq [4, 1, 5, 0] (lv' := [(0, .ref (A 179)), (1, .int (Int32.ofInt y1011)), (2, .int (Int32.ofInt a)), (3, .int (Int32.ofInt (ka + 1)))]) rfl ?_)))
          exact ih _ y1011 a (ka + 1) Is1009 Gs1009 (by first | exact ⟨And.intro (hy1011.1) (hy1011.2), And.intro (hi.2.1.1) (hi.2.1.2), oq_1e1a2df6 hi.2.2.1, oq_41473be0 g1003 b1002.2⟩ | omega) (by first | exact qk_me hm (by decide) (oq_9dea93e6 g1003 b1002.2) | omega) kx
        ·
          refine z_load X (x := (iC t 228 ((iC t (166 + (a : Int).toNat) ((ka - 1) : Int).toNat)).toNat)) rfl (List.Mem.tail _ (List.Mem.head _)) (z_const X rfl (z_icmp_ne X (t := 78) rfl rfl (rng_to _) (by decide) (fun g1012 => ?_) (fun g1012 => ?_)))
          ·
            refine z_const X rfl (z_add X rfl (z_any (fun y1013 hy1013 => ?_)))
            refine z_store_n X (lv' := [(1, .int (Int32.ofInt y1013)), (5, .int (Int32.ofInt (iC t 228 ((iC t (166 + (a : Int).toNat) (ka : Int).toNat)).toNat))), (4, .int (Int32.ofInt (iC t 228 ((iC t (166 + (a : Int).toNat) ((ka - 1) : Int).toNat)).toNat))), (0, .ref (A 179)), (2, .int (Int32.ofInt a)), (3, .int (Int32.ofInt ka))]) rfl (by decide) (fun _ h => h) (z_inc X (x := ka) (lv' := [(3, .int (Int32.ofInt (ka + 1))), (1, .int (Int32.ofInt y1013)), (5, .int (Int32.ofInt (iC t 228 ((iC t (166 + (a : Int).toNat) (ka : Int).toNat)).toNat))), (4, .int (Int32.ofInt (iC t 228 ((iC t (166 + (a : Int).toNat) ((ka - 1) : Int).toNat)).toNat))), (0, .ref (A 179)), (2, .int (Int32.ofInt a))]) rfl (by decide) (List.Mem.tail _ (List.Mem.tail _ (List.Mem.tail _ (List.Mem.tail _ (List.Mem.tail _ (List.Mem.head _)))))) (fun _ h => h) (z_goto X (t := 14) rfl rfl (WS_pq [4, 1, 5, 0] (lv' := [(0, .ref (A 179)), (1, .int (Int32.ofInt y1013)), (2, .int (Int32.ofInt a)), (3, .int (Int32.ofInt (ka + 1)))]) rfl ?_)))
            exact ih _ y1013 a (ka + 1) I F (by first | exact ⟨And.intro (hy1013.1) (hy1013.2), And.intro (hi.2.1.1) (hi.2.1.2), oq_1e1a2df6 hi.2.2.1, oq_41473be0 g1003 b1002.2⟩ | omega) (by first | exact qk_me hm (by decide) (oq_9dea93e6 g1003 b1002.2) | omega) kx
          ·
            refine z_aload_n X (x := A 179) rfl (List.Mem.tail _ (List.Mem.tail _ (List.Mem.head _))) (z_load_n X (x := a) rfl (List.Mem.tail _ (List.Mem.tail _ (List.Mem.tail _ (List.Mem.tail _ (List.Mem.head _))))) (zcV_i0 X E 179 (As := [.int (Int32.ofInt a)]) (st := [.int (Int32.ofInt nn)]) rfl rfl rfl rfl (k_total G I (by first | exact ⟨hi.2.1.1, hi.2.1.2⟩ | omega)) rfl (Nat.le_of_ble_eq_true rfl) (fun s1014 e1015 Is1014 Fs1014 hrs1014 hps1014 => ?_)))
            have Gs1014 := fm_tq F Fs1014 rfl rfl
            have ws1014_90 : iI s1014 90 = iI t 90 := fm_iq Fs1014 rfl
            refine z_goto X (t := 79) rfl rfl (z_add X rfl (z_any (fun y1016 hy1016 => ?_)))
            refine z_store_n X (lv' := [(1, .int (Int32.ofInt y1016)), (5, .int (Int32.ofInt (iC t 228 ((iC t (166 + (a : Int).toNat) (ka : Int).toNat)).toNat))), (4, .int (Int32.ofInt (iC t 228 ((iC t (166 + (a : Int).toNat) ((ka - 1) : Int).toNat)).toNat))), (0, .ref (A 179)), (2, .int (Int32.ofInt a)), (3, .int (Int32.ofInt ka))]) rfl (by decide) (fun _ h => h) (z_inc X (x := ka) (lv' := [(3, .int (Int32.ofInt (ka + 1))), (1, .int (Int32.ofInt y1016)), (5, .int (Int32.ofInt (iC t 228 ((iC t (166 + (a : Int).toNat) (ka : Int).toNat)).toNat))), (4, .int (Int32.ofInt (iC t 228 ((iC t (166 + (a : Int).toNat) ((ka - 1) : Int).toNat)).toNat))), (0, .ref (A 179)), (2, .int (Int32.ofInt a))]) rfl (by decide) (List.Mem.tail _ (List.Mem.tail _ (List.Mem.tail _ (List.Mem.tail _ (List.Mem.tail _ (List.Mem.head _)))))) (fun _ h => h) (z_goto X (t := 14) rfl rfl (WS_pq [4, 1, 5, 0] (lv' := [(0, .ref (A 179)), (1, .int (Int32.ofInt y1016)), (2, .int (Int32.ofInt a)), (3, .int (Int32.ofInt (ka + 1)))]) rfl ?_)))
            exact ih _ y1016 a (ka + 1) Is1014 Gs1014 (by first | exact ⟨And.intro (hy1016.1) (hy1016.2), And.intro (hi.2.1.1) (hi.2.1.2), oq_1e1a2df6 hi.2.2.1, oq_41473be0 g1003 b1002.2⟩ | omega) (by first | exact qk_me hm (by decide) (oq_9dea93e6 g1003 b1002.2) | omega) kx
  have L4 : ∀ (n : Nat) (t : PS) (nn a : Int), Bd t → Fm [] [] s t → (rng nn ∧ 0 ≤ a ∧ a ≤ 12) → (12 - a : Int).toNat < n → (∀ (t' : PS) (nn' a' : Int), Bd t' → Fm [] [] s t' → (rng nn' ∧ 0 ≤ a' ∧ a' ≤ 12) → WS k 93 [(0, .ref (A 179)), (1, .int (Int32.ofInt nn')), (2, .int (Int32.ofInt a'))] [] (Wd A dT t') 0 0) → WS k 4 [(0, .ref (A 179)), (1, .int (Int32.ofInt nn)), (2, .int (Int32.ofInt a))] [] (Wd A dT t) 0 0 := by
    intro n
    induction n with
    | zero =>
      intro t nn a I F hi hm kx
      exact absurd hm (Nat.not_lt_zero _)
    | succ n ih =>
      intro t nn a I F hi hm kx
      have b2001 := bi_90 I
      refine z_load_n X (x := a) rfl (List.Mem.tail _ (List.Mem.tail _ (List.Mem.head _))) (z_aload_n X (x := A 179) rfl (List.Mem.head _) (z_getI X 179 rfl (c518_ok rfl) rfl rfl ?_))
      have b2002 := bi_90 I
      refine z_icmp_ge X (t := 93) rfl rfl ⟨by first | exact oq_fa4e5087 hi.2.1 | omega, by first | exact oq_78843a64 hi.2.2 | omega⟩ (rng_to _) (fun g2003 => ?_) (fun g2003 => ?_)
      ·
        refine WS_pq [0, 1, 2] (lv' := [(0, .ref (A 179)), (1, .int (Int32.ofInt nn)), (2, .int (Int32.ofInt a))]) rfl ?_
        exact kx _ nn a I F (by first | exact ⟨And.intro (hi.1.1) (hi.1.2), hi.2.1, hi.2.2⟩ | omega)
      ·
        refine z_const X rfl (z_store_n X (lv' := [(3, .int (Int32.ofInt 1)), (0, .ref (A 179)), (1, .int (Int32.ofInt nn)), (2, .int (Int32.ofInt a))]) rfl (by decide) (fun _ h => h) (WS_pq [1, 2, 3, 0] (lv' := [(0, .ref (A 179)), (1, .int (Int32.ofInt nn)), (2, .int (Int32.ofInt a)), (3, .int (Int32.ofInt 1))]) rfl (L14 ((24 - 1 : Int).toNat + 1) t nn a 1 I F (by first | exact ⟨And.intro (hi.1.1) (hi.1.2), And.intro (hi.2.1) (oq_e4d7f3c5 g2003 b2002.2), by decide, by decide⟩ | omega) (Nat.lt_succ_self _) ?_)))
        intro s2004 x2005 x2006 Is2004 Fs2004 hs2004
        have b2007 := bi_90 Is2004
        refine z_inc X (x := a) (lv' := [(2, .int (Int32.ofInt (a + 1))), (0, .ref (A 179)), (1, .int (Int32.ofInt x2005)), (3, .int (Int32.ofInt x2006))]) rfl (by decide) (List.Mem.tail _ (List.Mem.tail _ (List.Mem.head _))) (fun _ h => h) (z_goto X (t := 4) rfl rfl (WS_pq [1, 2, 0] (lv' := [(0, .ref (A 179)), (1, .int (Int32.ofInt x2005)), (2, .int (Int32.ofInt (a + 1)))]) rfl ?_))
        exact ih _ x2005 (a + 1) Is2004 Fs2004 (by first | exact ⟨And.intro (hs2004.1.1) (hs2004.1.2), oq_54f49eb5 hs2004.2.1.1, oq_51d1204d hs2004.2.1.2⟩ | omega) (by first | exact qk_me hm (by decide) (oq_8b937940 hs2004.2.1.2) | omega) kx
  refine z_const X rfl (z_store_n X (lv' := [(1, .int (Int32.ofInt 0)), (0, .ref (A 179))]) rfl (by decide) (fun _ h => h) (z_const X rfl (z_store_n X (lv' := [(2, .int (Int32.ofInt 0)), (1, .int (Int32.ofInt 0)), (0, .ref (A 179))]) rfl (by decide) (fun _ h => h) (WS_pq [2, 1, 0] (lv' := [(0, .ref (A 179)), (1, .int (Int32.ofInt 0)), (2, .int (Int32.ofInt 0))]) rfl (L4 ((12 - 0 : Int).toNat + 1) s 0 0 I F (by first | exact ⟨And.intro (by decide) (by decide), by decide, by decide⟩ | omega) (Nat.lt_succ_self _) ?_)))))
  intro s2 x3 x4 Is2 Fs2 hs2
  have b5 := bi_90 Is2
  refine z_load_n X (x := x3) rfl (List.Mem.tail _ (List.Mem.head _)) ?_
  exact w_iret X.1 q hRt rfl (ax_d X (show cdA 249 94 = some (.ireturn, 1, 0, 0, 0) from rfl)) (Nat.zero_le _) (Nat.zero_le _) ⟨_, rfl, Is2, Fs2, x3, rfl, ⟨by first | exact hs2.1.1 | omega, by first | exact hs2.1.2 | omega⟩, trivial⟩
set_option maxRecDepth 4000 in
theorem k_findPeaks (G : GX l s0 D tys a0 dT) (I : Bd s) (jRLx : RLx s)  : CT l s0 D A dT 250 (rmN 250) [.ref (A 179)] s (fun o t => Bd t ∧ Fm [77, 75, 78, 79, 80, 81] [202, 204, 205, 206, 207, 208, 209, 210, 211, 212, 213, 214, 215, 216, 217, 218, 219, 220, 221, 222, 223, 224, 225, 226, 227, 203, 161, 230, 233] s t ∧ RLx t ∧ o = .inl none ∧ (True)) := by
  refine ct_of G (by decide) (Nat.le_of_ble_eq_true rfl) (fun k X E hRt hXt q => ?_)
  show WS k 0 [(0, .ref (A 179))] [] _ 0 0
  have F : Fm [77, 75, 78, 79, 80, 81] [202, 204, 205, 206, 207, 208, 209, 210, 211, 212, 213, 214, 215, 216, 217, 218, 219, 220, 221, 222, 223, 224, 225, 226, 227, 203, 161, 230, 233] s s := fm_rf _ _ s
  have L2 : ∀ (n : Nat) (t : PS) (p : Int), Bd t → Fm [77, 75, 78, 79, 80, 81] [202, 204, 205, 206, 207, 208, 209, 210, 211, 212, 213, 214, 215, 216, 217, 218, 219, 220, 221, 222, 223, 224, 225, 226, 227, 203, 161, 230, 233] s t → RLx t → (0 ≤ p ∧ p ≤ 8) → (8 - p : Int).toNat < n → (∀ (t' : PS) (p' : Int), Bd t' → Fm [77, 75, 78, 79, 80, 81] [202, 204, 205, 206, 207, 208, 209, 210, 211, 212, 213, 214, 215, 216, 217, 218, 219, 220, 221, 222, 223, 224, 225, 226, 227, 203, 161, 230, 233] s t' → RLx t' → (0 ≤ p' ∧ p' ≤ 8) → WS k 25 [(0, .ref (A 179)), (1, .int (Int32.ofInt p'))] [] (Wd A dT t') 0 0) → WS k 2 [(0, .ref (A 179)), (1, .int (Int32.ofInt p))] [] (Wd A dT t) 0 0 := by
    intro n
    induction n with
    | zero =>
      intro t p I F jjRLx hi hm kx
      exact absurd hm (Nat.not_lt_zero _)
    | succ n ih =>
      intro t p I F jjRLx hi hm kx
      refine z_load_n X (x := p) rfl (List.Mem.tail _ (List.Mem.head _)) (z_bipush X rfl (z_icmp_ge X (t := 25) rfl rfl ⟨by first | exact oq_fa4e5087 hi.1 | omega, by first | exact oq_d3f5d874 hi.2 | omega⟩ (by decide) (fun g1001 => ?_) (fun g1001 => ?_)))
      ·
        refine WS_pq [0, 1] (lv' := [(0, .ref (A 179)), (1, .int (Int32.ofInt p))]) rfl ?_
        exact kx _ p I F jjRLx (by first | exact ⟨hi.1, hi.2⟩ | omega)
      ·
        refine z_aload_n X (x := A 179) rfl (List.Mem.head _) (s_getR X 179 rfl (c518_ok rfl) rfl rfl (z_load_n X (x := p) rfl (List.Mem.tail _ (List.Mem.head _)) (z_aload_n X (x := A 179) rfl (List.Mem.head _) (z_load_n X (x := p) rfl (List.Mem.tail _ (List.Mem.head _)) (zcV_i1 X E 179 (As := [.int (Int32.ofInt p)]) (st := [.int (Int32.ofInt p), .ref (A 261)]) rfl rfl rfl rfl (k_peakOfPiece G I jjRLx (by first | exact ⟨oq_fa4e5087 hi.1, oq_7bea7075 g1001⟩ | omega)) rfl (Nat.le_of_ble_eq_true rfl) (fun s1002 e1003 Is1002 Fs1002 JRLx_s1002 hrs1002 hps1002 => ?_))))))
        have Gs1002 := fm_tq F Fs1002 rfl rfl
        have JRLx_s1002 : RLx s1002 := RLx_fm Fs1002 (by decide) jjRLx
        refine z_ast X 261 rfl (c518_ok rfl) rfl (by first | exact hi.1 | omega) (show p < 8 by first | exact g1001 | omega) (cbig_ok rfl) (wd_gen (fun s1004 hs1004 => ?_))
        have Is1004 : Bd s1004 := eqB hs1004 (bd_C Is1002 (show ((-2147483648) : Int) ≤ e1003 ∧ e1003 ≤ 2147483647 by omega) hrs1002)
        have Fs1004 := eqF hs1004 (fm_C Gs1002 (inl_ok (a := 233) rfl))
        have fs1004 : Fm [] [233] s1002 s1004 := by rw [hs1004]; exact fm_C (fm_rf _ _ _) (show 233 ∈ _ by decide)
        have JRLx_s1004 : RLx s1004 := RLx_fm fs1004 (by decide) JRLx_s1002
        refine z_inc X (x := p) (lv' := [(1, .int (Int32.ofInt (p + 1))), (0, .ref (A 179))]) rfl (by decide) (List.Mem.tail _ (List.Mem.head _)) (fun _ h => h) (z_goto X (t := 2) rfl rfl (WS_pq [1, 0] (lv' := [(0, .ref (A 179)), (1, .int (Int32.ofInt (p + 1)))]) rfl ?_))
        exact ih _ (p + 1) Is1004 Fs1004 JRLx_s1004 (by first | exact ⟨oq_54f49eb5 hi.1, oq_0c7b19c3 g1001⟩ | omega) (by first | exact qk_me hm (by decide) (oq_9f368f35 g1001) | omega) kx
  refine z_const X rfl (z_store_n X (lv' := [(1, .int (Int32.ofInt 0)), (0, .ref (A 179))]) rfl (by decide) (fun _ h => h) (WS_pq [1, 0] (lv' := [(0, .ref (A 179)), (1, .int (Int32.ofInt 0))]) rfl (L2 ((8 - 0 : Int).toNat + 1) s 0 I F jRLx (by first | exact ⟨by decide, by decide⟩ | omega) (Nat.lt_succ_self _) ?_)))
  intro s1 x2 Is1 Fs1 JRLx_s1 hs1
  exact w_vret X.1 q hRt (ax_d X (show cdA 250 25 = some (.return_, 1, 0, 0, 0) from rfl)) (Nat.zero_le _) (Nat.zero_le _) ⟨_, rfl, Is1, Fs1, JRLx_s1, rfl, trivial⟩
set_option maxRecDepth 4000 in
theorem k_costByPeaks (G : GX l s0 D tys a0 dT) (I : Bd s)  : CT l s0 D A dT 251 (rmN 251) [.ref (A 179)] s (fun o t => Bd t ∧ Fm [] [] s t ∧ ∃ e, o = .inl (some (.int (Int32.ofInt e))) ∧ rng e ∧ (True)) := by
  refine ct_of G (by decide) (Nat.le_of_ble_eq_true rfl) (fun k X E hRt hXt q => ?_)
  show WS k 0 [(0, .ref (A 179))] [] _ 0 0
  have F : Fm [] [] s s := fm_rf _ _ s
  have L9 : ∀ (n : Nat) (t : PS) (lo hi0 an p : Int), Bd t → Fm [] [] s t → (rng lo ∧ rng hi0 ∧ 0 ≤ an ∧ an ≤ p ∧ p ≤ 8) → (8 - p : Int).toNat < n → (∀ (t' : PS) (lo' hi0' an' p' : Int), Bd t' → Fm [] [] s t' → (rng lo' ∧ rng hi0' ∧ 0 ≤ an' ∧ an' ≤ p' ∧ p' ≤ 8) → WS k 91 [(0, .ref (A 179)), (1, .int (Int32.ofInt lo')), (2, .int (Int32.ofInt hi0')), (3, .int (Int32.ofInt an')), (4, .int (Int32.ofInt p'))] [] (Wd A dT t') 0 0) → WS k 9 [(0, .ref (A 179)), (1, .int (Int32.ofInt lo)), (2, .int (Int32.ofInt hi0)), (3, .int (Int32.ofInt an)), (4, .int (Int32.ofInt p))] [] (Wd A dT t) 0 0 := by
    intro n
    induction n with
    | zero =>
      intro t lo hi0 an p I F hi hm kx
      exact absurd hm (Nat.not_lt_zero _)
    | succ n ih =>
      intro t lo hi0 an p I F hi hm kx
      refine z_load X (x := p) rfl (List.Mem.tail _ (List.Mem.tail _ (List.Mem.tail _ (List.Mem.tail _ (List.Mem.head _))))) (z_bipush X rfl (z_icmp_ge X (t := 91) rfl rfl ⟨by first | exact oq_e001bc0d hi.2.2.2.1 hi.2.2.1 | omega, by first | exact oq_d3f5d874 hi.2.2.2.2 | omega⟩ (by decide) (fun g1001 => ?_) (fun g1001 => ?_)))
      ·
        refine WS_pq [0, 1, 2, 3, 4] (lv' := [(0, .ref (A 179)), (1, .int (Int32.ofInt lo)), (2, .int (Int32.ofInt hi0)), (3, .int (Int32.ofInt an)), (4, .int (Int32.ofInt p))]) rfl ?_
        exact kx _ lo hi0 an p I F (by first | exact ⟨And.intro (hi.1.1) (hi.1.2), And.intro (hi.2.1.1) (hi.2.1.2), hi.2.2.1, hi.2.2.2.1, hi.2.2.2.2⟩ | omega)
      ·
        refine z_aload_n X (x := A 179) rfl (List.Mem.head _) (z_load X (x := p) rfl (List.Mem.tail _ (List.Mem.tail _ (List.Mem.tail _ (List.Mem.tail _ (List.Mem.head _))))) (zcV_i0 X E 179 (As := [.int (Int32.ofInt p)]) (st := []) rfl rfl rfl rfl (k_hasCells G I (by first | exact ⟨oq_e001bc0d hi.2.2.2.1 hi.2.2.1, oq_7bea7075 g1001⟩ | omega)) rfl (Nat.le_of_ble_eq_true rfl) (fun s1002 e1003 Is1002 Fs1002 hrs1002 hps1002 => ?_)))
        have Gs1002 := fm_tq F Fs1002 rfl rfl
        refine z_if_ne X (t := 28) rfl rfl hrs1002 (fun g1004 => ?_) (fun g1004 => ?_)
        ·
          refine z_load_n X (x := an) rfl (List.Mem.tail _ (List.Mem.tail _ (List.Mem.tail _ (List.Mem.head _)))) ?_
          have N1005 : ∀ e1006 : Int, (((an = 0) ∧ (((-2147483648) : Int) ≤ iC s1002 233 (p).toNat ∧ iC s1002 233 (p).toNat ≤ 2147483647) ∧ e1006 = (iC s1002 233 (p).toNat)) ∨ ((an ≠ 0) ∧ (((-2147483648) : Int) ≤ iC s1002 233 (p).toNat ∧ iC s1002 233 (p).toNat ≤ 2147483647) ∧ (lo ≤ (iC s1002 233 (p).toNat)) ∧ e1006 = lo) ∨ ((an ≠ 0) ∧ (((-2147483648) : Int) ≤ iC s1002 233 (p).toNat ∧ iC s1002 233 (p).toNat ≤ 2147483647) ∧ ((iC s1002 233 (p).toNat) < lo) ∧ (((-2147483648) : Int) ≤ iC s1002 233 (p).toNat ∧ iC s1002 233 (p).toNat ≤ 2147483647) ∧ e1006 = (iC s1002 233 (p).toNat))) → WS k 54 [(0, .ref (A 179)), (1, .int (Int32.ofInt lo)), (2, .int (Int32.ofInt hi0)), (3, .int (Int32.ofInt an)), (4, .int (Int32.ofInt p))] [.int (Int32.ofInt e1006)] (Wd A dT s1002) 0 0 := by
            intro e1006 he1006
            refine z_store_n X (lv' := [(1, .int (Int32.ofInt e1006)), (0, .ref (A 179)), (2, .int (Int32.ofInt hi0)), (3, .int (Int32.ofInt an)), (4, .int (Int32.ofInt p))]) rfl (by decide) (fun _ h => h) (z_load_n X (x := an) rfl (List.Mem.tail _ (List.Mem.tail _ (List.Mem.tail _ (List.Mem.head _)))) ?_)
            have N1007 : ∀ e1008 : Int, (((an = 0) ∧ (((-2147483648) : Int) ≤ iC s1002 233 (p).toNat ∧ iC s1002 233 (p).toNat ≤ 2147483647) ∧ e1008 = (iC s1002 233 (p).toNat)) ∨ ((an ≠ 0) ∧ (((-2147483648) : Int) ≤ iC s1002 233 (p).toNat ∧ iC s1002 233 (p).toNat ≤ 2147483647) ∧ ((iC s1002 233 (p).toNat) ≤ hi0) ∧ e1008 = hi0) ∨ ((an ≠ 0) ∧ (((-2147483648) : Int) ≤ iC s1002 233 (p).toNat ∧ iC s1002 233 (p).toNat ≤ 2147483647) ∧ (hi0 < (iC s1002 233 (p).toNat)) ∧ (((-2147483648) : Int) ≤ iC s1002 233 (p).toNat ∧ iC s1002 233 (p).toNat ≤ 2147483647) ∧ e1008 = (iC s1002 233 (p).toNat))) → WS k 81 [(1, .int (Int32.ofInt e1006)), (0, .ref (A 179)), (2, .int (Int32.ofInt hi0)), (3, .int (Int32.ofInt an)), (4, .int (Int32.ofInt p))] [.int (Int32.ofInt e1008)] (Wd A dT s1002) 0 0 := by
              intro e1008 he1008
              refine z_store_n X (lv' := [(2, .int (Int32.ofInt e1008)), (1, .int (Int32.ofInt e1006)), (0, .ref (A 179)), (3, .int (Int32.ofInt an)), (4, .int (Int32.ofInt p))]) rfl (by decide) (fun _ h => h) (z_inc X (x := an) (lv' := [(3, .int (Int32.ofInt (an + 1))), (2, .int (Int32.ofInt e1008)), (1, .int (Int32.ofInt e1006)), (0, .ref (A 179)), (4, .int (Int32.ofInt p))]) rfl (by decide) (List.Mem.tail _ (List.Mem.tail _ (List.Mem.tail _ (List.Mem.head _)))) (fun _ h => h) (z_inc X (x := p) (lv' := [(4, .int (Int32.ofInt (p + 1))), (3, .int (Int32.ofInt (an + 1))), (2, .int (Int32.ofInt e1008)), (1, .int (Int32.ofInt e1006)), (0, .ref (A 179))]) rfl (by decide) (List.Mem.tail _ (List.Mem.tail _ (List.Mem.tail _ (List.Mem.tail _ (List.Mem.head _))))) (fun _ h => h) (z_goto X (t := 9) rfl rfl (WS_pq [4, 3, 2, 1, 0] (lv' := [(0, .ref (A 179)), (1, .int (Int32.ofInt e1006)), (2, .int (Int32.ofInt e1008)), (3, .int (Int32.ofInt (an + 1))), (4, .int (Int32.ofInt (p + 1)))]) rfl ?_))))
              exact ih _ e1006 e1008 (an + 1) (p + 1) Is1002 Gs1002 (by first | exact ⟨oq_8e3ecb8a he1006 hi.1.2 hi.1.1, oq_df5c764a he1008 hi.2.1.2 hi.2.1.1, oq_54f49eb5 hi.2.2.1, oq_8d48a029 hi.2.2.2.1, oq_0c7b19c3 g1001⟩ | omega) (by first | exact qk_me hm (by decide) (oq_9f368f35 g1001) | omega) kx
            refine z_if_eq X (t := 70) rfl rfl ⟨by first | exact oq_fa4e5087 hi.2.2.1 | omega, by first | exact oq_70a17013 hi.2.2.2.1 g1001 | omega⟩ (fun g1009 => ?_) (fun g1009 => ?_)
            ·
              refine z_aload_n X (x := A 179) rfl (List.Mem.tail _ (List.Mem.head _)) (s_getR X 179 rfl (c518_ok rfl) rfl rfl (z_load X (x := p) rfl (List.Mem.tail _ (List.Mem.tail _ (List.Mem.tail _ (List.Mem.tail _ (List.Mem.head _))))) (z_ald X 261 rfl (c518_ok rfl) rfl (by first | exact oq_e9ac77f5 hi.2.2.2.1 g1009 | omega) (show p < 8 by first | exact g1001 | omega) (cbig_ok rfl) ?_)))
              have b1010 := bc_233 Is1002 (show (p).toNat < 8 by first | exact oq_db4b3b8b g1001 | omega)
              exact z_goto X (t := 81) rfl rfl (N1007 _ (Or.inl ⟨g1009, b1010, rfl⟩))
            ·
              refine z_aload_n X (x := A 179) rfl (List.Mem.tail _ (List.Mem.head _)) (s_getR X 179 rfl (c518_ok rfl) rfl rfl (z_load X (x := p) rfl (List.Mem.tail _ (List.Mem.tail _ (List.Mem.tail _ (List.Mem.tail _ (List.Mem.head _))))) (z_ald X 261 rfl (c518_ok rfl) rfl (by first | exact oq_12a1f9e1 hi.2.2.2.1 hi.2.2.1 | omega) (show p < 8 by first | exact g1001 | omega) (cbig_ok rfl) ?_)))
              have b1011 := bc_233 Is1002 (show (p).toNat < 8 by first | exact oq_db4b3b8b g1001 | omega)
              refine z_load_n X (x := hi0) rfl (List.Mem.tail _ (List.Mem.tail _ (List.Mem.head _))) (z_icmp_le X (t := 80) rfl rfl (rng_to _) ⟨by first | exact hi.2.1.1 | omega, by first | exact hi.2.1.2 | omega⟩ (fun g1012 => ?_) (fun g1012 => ?_))
              ·
                exact z_load_n X (x := hi0) rfl (List.Mem.tail _ (List.Mem.tail _ (List.Mem.head _))) (N1007 _ (Or.inr (Or.inl ⟨g1009, b1011, g1012, rfl⟩)))
              ·
                refine z_aload_n X (x := A 179) rfl (List.Mem.tail _ (List.Mem.head _)) (s_getR X 179 rfl (c518_ok rfl) rfl rfl (z_load X (x := p) rfl (List.Mem.tail _ (List.Mem.tail _ (List.Mem.tail _ (List.Mem.tail _ (List.Mem.head _))))) (z_ald X 261 rfl (c518_ok rfl) rfl (by first | exact oq_12a1f9e1 hi.2.2.2.1 hi.2.2.1 | omega) (show p < 8 by first | exact g1001 | omega) (cbig_ok rfl) ?_)))
                have b1013 := bc_233 Is1002 (show (p).toNat < 8 by first | exact oq_db4b3b8b g1001 | omega)
                exact z_goto X (t := 81) rfl rfl (N1007 _ (Or.inr (Or.inr (⟨g1009, b1011, g1012, b1013, rfl⟩))))
          refine z_if_eq X (t := 43) rfl rfl ⟨by first | exact oq_fa4e5087 hi.2.2.1 | omega, by first | exact oq_70a17013 hi.2.2.2.1 g1001 | omega⟩ (fun g1014 => ?_) (fun g1014 => ?_)
          ·
            refine z_aload_n X (x := A 179) rfl (List.Mem.head _) (s_getR X 179 rfl (c518_ok rfl) rfl rfl (z_load X (x := p) rfl (List.Mem.tail _ (List.Mem.tail _ (List.Mem.tail _ (List.Mem.tail _ (List.Mem.head _))))) (z_ald X 261 rfl (c518_ok rfl) rfl (by first | exact oq_e9ac77f5 hi.2.2.2.1 g1014 | omega) (show p < 8 by first | exact g1001 | omega) (cbig_ok rfl) ?_)))
            have b1015 := bc_233 Is1002 (show (p).toNat < 8 by first | exact oq_db4b3b8b g1001 | omega)
            exact z_goto X (t := 54) rfl rfl (N1005 _ (Or.inl ⟨g1014, b1015, rfl⟩))
          ·
            refine z_aload_n X (x := A 179) rfl (List.Mem.head _) (s_getR X 179 rfl (c518_ok rfl) rfl rfl (z_load X (x := p) rfl (List.Mem.tail _ (List.Mem.tail _ (List.Mem.tail _ (List.Mem.tail _ (List.Mem.head _))))) (z_ald X 261 rfl (c518_ok rfl) rfl (by first | exact oq_12a1f9e1 hi.2.2.2.1 hi.2.2.1 | omega) (show p < 8 by first | exact g1001 | omega) (cbig_ok rfl) ?_)))
            have b1016 := bc_233 Is1002 (show (p).toNat < 8 by first | exact oq_db4b3b8b g1001 | omega)
            refine z_load_n X (x := lo) rfl (List.Mem.tail _ (List.Mem.head _)) (z_icmp_ge X (t := 53) rfl rfl (rng_to _) ⟨by first | exact hi.1.1 | omega, by first | exact hi.1.2 | omega⟩ (fun g1017 => ?_) (fun g1017 => ?_))
            ·
              exact z_load_n X (x := lo) rfl (List.Mem.tail _ (List.Mem.head _)) (N1005 _ (Or.inr (Or.inl ⟨g1014, b1016, g1017, rfl⟩)))
            ·
              refine z_aload_n X (x := A 179) rfl (List.Mem.head _) (s_getR X 179 rfl (c518_ok rfl) rfl rfl (z_load X (x := p) rfl (List.Mem.tail _ (List.Mem.tail _ (List.Mem.tail _ (List.Mem.tail _ (List.Mem.head _))))) (z_ald X 261 rfl (c518_ok rfl) rfl (by first | exact oq_12a1f9e1 hi.2.2.2.1 hi.2.2.1 | omega) (show p < 8 by first | exact g1001 | omega) (cbig_ok rfl) ?_)))
              have b1018 := bc_233 Is1002 (show (p).toNat < 8 by first | exact oq_db4b3b8b g1001 | omega)
              exact z_goto X (t := 54) rfl rfl (N1005 _ (Or.inr (Or.inr (⟨g1014, b1016, g1017, b1018, rfl⟩))))
        ·
          refine z_goto X (t := 85) rfl rfl (z_inc X (x := p) (lv' := [(4, .int (Int32.ofInt (p + 1))), (0, .ref (A 179)), (1, .int (Int32.ofInt lo)), (2, .int (Int32.ofInt hi0)), (3, .int (Int32.ofInt an))]) rfl (by decide) (List.Mem.tail _ (List.Mem.tail _ (List.Mem.tail _ (List.Mem.tail _ (List.Mem.head _))))) (fun _ h => h) (z_goto X (t := 9) rfl rfl (WS_pq [1, 2, 3, 4, 0] (lv' := [(0, .ref (A 179)), (1, .int (Int32.ofInt lo)), (2, .int (Int32.ofInt hi0)), (3, .int (Int32.ofInt an)), (4, .int (Int32.ofInt (p + 1)))]) rfl ?_)))
          exact ih _ lo hi0 an (p + 1) Is1002 Gs1002 (by first | exact ⟨And.intro (hi.1.1) (hi.1.2), And.intro (hi.2.1.1) (hi.2.1.2), hi.2.2.1, oq_03182e9e hi.2.2.2.1, oq_0c7b19c3 g1001⟩ | omega) (by first | exact qk_me hm (by decide) (oq_9f368f35 g1001) | omega) kx
  refine z_const X rfl (z_store_n X (lv' := [(1, .int (Int32.ofInt 0)), (0, .ref (A 179))]) rfl (by decide) (fun _ h => h) (z_const X rfl (z_store_n X (lv' := [(2, .int (Int32.ofInt 0)), (1, .int (Int32.ofInt 0)), (0, .ref (A 179))]) rfl (by decide) (fun _ h => h) (z_const X rfl (z_store_n X (lv' := [(3, .int (Int32.ofInt 0)), (2, .int (Int32.ofInt 0)), (1, .int (Int32.ofInt 0)), (0, .ref (A 179))]) rfl (by decide) (fun _ h => h) (z_const X rfl (z_store X (lv' := [(4, .int (Int32.ofInt 0)), (3, .int (Int32.ofInt 0)), (2, .int (Int32.ofInt 0)), (1, .int (Int32.ofInt 0)), (0, .ref (A 179))]) rfl (by decide) (fun _ h => h) (WS_pq [4, 3, 2, 1, 0] (lv' := [(0, .ref (A 179)), (1, .int (Int32.ofInt 0)), (2, .int (Int32.ofInt 0)), (3, .int (Int32.ofInt 0)), (4, .int (Int32.ofInt 0))]) rfl (L9 ((8 - 0 : Int).toNat + 1) s 0 0 0 0 I F (by first | exact ⟨And.intro (by decide) (by decide), And.intro (by decide) (by decide), by decide, by decide, by decide⟩ | omega) (Nat.lt_succ_self _) ?_)))))))))
  intro s1 x2 x3 x4 x5 Is1 Fs1 hs1
  refine z_aload_n X (x := A 179) rfl (List.Mem.head _) (zcV_i0 X E 179 (As := []) (st := []) rfl rfl rfl rfl (k_stepsCost G Is1 ) rfl (Nat.le_of_ble_eq_true rfl) (fun s6 e7 Is6 Fs6 hrs6 hps6 => ?_))
  have Gs6 := fm_tq Fs1 Fs6 rfl rfl
  refine z_bipush X rfl (z_load_n X (x := x3) rfl (List.Mem.tail _ (List.Mem.tail _ (List.Mem.head _))) (z_load_n X (x := x2) rfl (List.Mem.tail _ (List.Mem.head _)) (z_sub X rfl (z_any (fun y8 hy8 => ?_)))))
  refine z_mul X rfl (z_any (fun y9 hy9 => ?_))
  refine z_add X rfl (z_any (fun y10 hy10 => ?_))
  exact w_iret X.1 q hRt rfl (ax_d X (show cdA 251 102 = some (.ireturn, 1, 0, 0, 0) from rfl)) (Nat.zero_le _) (Nat.zero_le _) ⟨_, rfl, Is6, Gs6, y10, rfl, hy10, trivial⟩
set_option maxRecDepth 4000 in
theorem k_costOf (G : GX l s0 D tys a0 dT) (I : Bd s) (jRLx : RLx s)  : CT l s0 D A dT 252 (rmN 252) [.ref (A 179)] s (fun o t => Bd t ∧ Fm [77, 75, 78, 79, 80, 81] [202, 204, 205, 206, 207, 208, 209, 210, 211, 212, 213, 214, 215, 216, 217, 218, 219, 220, 221, 222, 223, 224, 225, 226, 227, 203, 161, 230, 233] s t ∧ RLx t ∧ ∃ e, o = .inl (some (.int (Int32.ofInt e))) ∧ rng e ∧ (True)) := by
  refine ct_of G (by decide) (Nat.le_of_ble_eq_true rfl) (fun k X E hRt hXt q => ?_)
  show WS k 0 [(0, .ref (A 179))] [] _ 0 0
  have F : Fm [77, 75, 78, 79, 80, 81] [202, 204, 205, 206, 207, 208, 209, 210, 211, 212, 213, 214, 215, 216, 217, 218, 219, 220, 221, 222, 223, 224, 225, 226, 227, 203, 161, 230, 233] s s := fm_rf _ _ s
  refine z_aload_n X (x := A 179) rfl (List.Mem.head _) (zcV_v1 X E 179 (As := []) (st := []) rfl rfl rfl rfl (k_findPeaks G I jRLx ) rfl (Nat.le_of_ble_eq_true rfl) (fun s1 Is1 Fs1 JRLx_s1 hps1 => ?_))
  have Gs1 := fm_tq F Fs1 rfl rfl
  have JRLx_s1 : RLx s1 := RLx_fm Fs1 (by decide) jRLx
  refine z_aload_n X (x := A 179) rfl (List.Mem.head _) (zcV_i0 X E 179 (As := []) (st := []) rfl rfl rfl rfl (k_costByPeaks G Is1 ) rfl (Nat.le_of_ble_eq_true rfl) (fun s3 e4 Is3 Fs3 hrs3 hps3 => ?_))
  have Gs3 := fm_tq Gs1 Fs3 rfl rfl
  have JRLx_s3 : RLx s3 := RLx_fm Fs3 (by decide) JRLx_s1
  exact w_iret X.1 q hRt rfl (ax_d X (show cdA 252 8 = some (.ireturn, 1, 0, 0, 0) from rfl)) (Nat.zero_le _) (Nat.zero_le _) ⟨_, rfl, Is3, Gs3, JRLx_s3, e4, rfl, hrs3, trivial⟩
set_option maxRecDepth 4000 in
theorem k_cost (G : GX l s0 D tys a0 dT) (I : Bd s) (jRLx : RLx s)  : CT l s0 D A dT 253 (rmN 253) [.ref (A 179)] s (fun o t => Bd t ∧ Fm [73, 77, 75, 78, 79, 80, 81] [202, 204, 205, 206, 207, 208, 209, 210, 211, 212, 213, 214, 215, 216, 217, 218, 219, 220, 221, 222, 223, 224, 225, 226, 227, 203, 161, 230, 233] s t ∧ RLx t ∧ ∃ e, o = .inl (some (.int (Int32.ofInt e))) ∧ rng e ∧ (True)) := by
  refine ct_of G (by decide) (Nat.le_of_ble_eq_true rfl) (fun k X E hRt hXt q => ?_)
  show WS k 0 [(0, .ref (A 179))] [] _ 0 0
  have F : Fm [73, 77, 75, 78, 79, 80, 81] [202, 204, 205, 206, 207, 208, 209, 210, 211, 212, 213, 214, 215, 216, 217, 218, 219, 220, 221, 222, 223, 224, 225, 226, 227, 203, 161, 230, 233] s s := fm_rf _ _ s
  refine z_aload_n X (x := A 179) rfl (List.Mem.head _) (z_const X rfl (s_putI X 179 rfl (c518_ok rfl) rfl rfl (by decide) rfl rfl rfl (wd_gen (fun s1 hs1 => ?_))))
  have Is1 : Bd s1 := eqB hs1 (bd_I I (show (0 : Int) ≤ 0 ∧ 0 ≤ 3 by first | exact ⟨by decide, by decide⟩ | omega) (by decide))
  have Fs1 := eqF hs1 (fm_I F (inl_ok (a := 73) rfl))
  have vs1 : iI s1 73 = 0 := eqI hs1 (iI_u (by decide))
  have fs1 : Fm [73] [] s s1 := by rw [hs1]; exact fm_I (fm_rf _ _ _) (show 73 ∈ _ by decide)
  have JRLx_s1 : RLx s1 := RLx_fm fs1 (by decide) jRLx
  refine z_aload_n X (x := A 179) rfl (List.Mem.head _) (zcV_i1 X E 179 (As := []) (st := []) rfl rfl rfl rfl (k_costOf G Is1 JRLx_s1 ) rfl (Nat.le_of_ble_eq_true rfl) (fun s2 e3 Is2 Fs2 JRLx_s2 hrs2 hps2 => ?_))
  have Gs2 := fm_tq Fs1 Fs2 rfl rfl
  have JRLx_s2 : RLx s2 := RLx_fm Fs2 (by decide) JRLx_s1
  exact w_iret X.1 q hRt rfl (ax_d X (show cdA 253 9 = some (.ireturn, 1, 0, 0, 0) from rfl)) (Nat.zero_le _) (Nat.zero_le _) ⟨_, rfl, Is2, Gs2, JRLx_s2, e3, rfl, hrs2, trivial⟩
set_option maxRecDepth 4000 in
theorem k_tries (G : GX l s0 D tys a0 dT) (I : Bd s) (jRLx : RLx s) {x y : Int} (p0 : 0 ≤ x ∧ x ≤ 127) (p1 : 0 ≤ y ∧ y ≤ 7) (p2 : iC s 228 (x : Int).toNat ≠ -1) : CT l s0 D A dT 255 (rmN 255) [.ref (A 179), .int (Int32.ofInt x), .int (Int32.ofInt y)] s (fun o t => Bd t ∧ Fm [77, 75, 78, 79, 80, 81, 92, 93, 94] [202, 204, 205, 206, 207, 208, 209, 210, 211, 212, 213, 214, 215, 216, 217, 218, 219, 220, 221, 222, 223, 224, 225, 226, 227, 203, 161, 230, 233, 231, 232, 228] s t ∧ RLx t ∧ o = .inl none ∧ (True)) := by
  refine ct_of G (by decide) (Nat.le_of_ble_eq_true rfl) (fun k X E hRt hXt q => ?_)
  show WS k 0 [(0, .ref (A 179)), (1, .int (Int32.ofInt x)), (2, .int (Int32.ofInt y))] [] _ 0 0
  have F : Fm [77, 75, 78, 79, 80, 81, 92, 93, 94] [202, 204, 205, 206, 207, 208, 209, 210, 211, 212, 213, 214, 215, 216, 217, 218, 219, 220, 221, 222, 223, 224, 225, 226, 227, 203, 161, 230, 233, 231, 232, 228] s s := fm_rf _ _ s
  refine z_aload_n X (x := A 179) rfl (List.Mem.head _) (s_getR X 179 rfl (c518_ok rfl) rfl rfl (z_load_n X (x := x) rfl (List.Mem.tail _ (List.Mem.head _)) (z_ald X 256 rfl (c518_ok rfl) rfl (by first | exact p0.1 | omega) (show x < 128 by first | exact oq_31b2bf10 p0.2 | omega) (cbig_ok rfl) ?_)))
  have b1 := bc_228 I (show (x).toNat < 128 by first | exact oq_c7f4e9c1 p0.2 | omega)
  refine z_store_n X (lv' := [(3, .int (Int32.ofInt (iC s 228 (x).toNat))), (0, .ref (A 179)), (1, .int (Int32.ofInt x)), (2, .int (Int32.ofInt y))]) rfl (by decide) (fun _ h => h) (z_aload_n X (x := A 179) rfl (List.Mem.tail _ (List.Mem.head _)) (s_getR X 179 rfl (c518_ok rfl) rfl rfl (z_load_n X (x := (iC s 228 (x).toNat)) rfl (List.Mem.head _) (z_ald X 261 rfl (c518_ok rfl) rfl (by first | exact oq_5234833b b1.1 p2 | omega) (show (iC s 228 (x).toNat) < 8 by first | exact oq_aaea290e b1.2 | omega) (cbig_ok rfl) ?_))))
  have b2 := bc_233 I (show ((iC s 228 (x).toNat)).toNat < 8 by first | exact oq_c19a3aae b1.2 | omega)
  refine z_store X (lv' := [(4, .int (Int32.ofInt (iC s 233 ((iC s 228 (x).toNat)).toNat))), (3, .int (Int32.ofInt (iC s 228 (x).toNat))), (0, .ref (A 179)), (1, .int (Int32.ofInt x)), (2, .int (Int32.ofInt y))]) rfl (by decide) (fun _ h => h) (z_aload_n X (x := A 179) rfl (List.Mem.tail _ (List.Mem.tail _ (List.Mem.head _))) (s_getR X 179 rfl (c518_ok rfl) rfl rfl (z_load_n X (x := y) rfl (List.Mem.tail _ (List.Mem.tail _ (List.Mem.tail _ (List.Mem.tail _ (List.Mem.head _))))) (z_ald X 261 rfl (c518_ok rfl) rfl (by first | exact p1.1 | omega) (show y < 8 by first | exact oq_aaea290e p1.2 | omega) (cbig_ok rfl) ?_))))
  have b3 := bc_233 I (show (y).toNat < 8 by first | exact oq_c19a3aae p1.2 | omega)
  refine z_store X (lv' := [(5, .int (Int32.ofInt (iC s 233 (y).toNat))), (4, .int (Int32.ofInt (iC s 233 ((iC s 228 (x).toNat)).toNat))), (3, .int (Int32.ofInt (iC s 228 (x).toNat))), (0, .ref (A 179)), (1, .int (Int32.ofInt x)), (2, .int (Int32.ofInt y))]) rfl (by decide) (fun _ h => h) (z_aload_n X (x := A 179) rfl (List.Mem.tail _ (List.Mem.tail _ (List.Mem.tail _ (List.Mem.head _)))) (s_getR X 179 rfl (c518_ok rfl) rfl rfl (z_load_n X (x := x) rfl (List.Mem.tail _ (List.Mem.tail _ (List.Mem.tail _ (List.Mem.tail _ (List.Mem.head _))))) (z_load_n X (x := y) rfl (List.Mem.tail _ (List.Mem.tail _ (List.Mem.tail _ (List.Mem.tail _ (List.Mem.tail _ (List.Mem.head _)))))) (z_ast X 256 rfl (c518_ok rfl) rfl (by first | exact p0.1 | omega) (show x < 128 by first | exact oq_31b2bf10 p0.2 | omega) (cbig_ok rfl) (wd_gen (fun s4 hs4 => ?_)))))))
  have Is4 : Bd s4 := eqB hs4 (bd_C I (show ((-1) : Int) ≤ y ∧ y ≤ 7 by first | exact ⟨oq_ca54ea22 p1.1, p1.2⟩ | omega) ⟨by first | exact oq_fa4e5087 p1.1 | omega, by first | exact oq_0e78ca7d p1.2 | omega⟩)
  have Fs4 := eqF hs4 (fm_C F (inl_ok (a := 228) rfl))
  have fs4 : Fm [] [228] s s4 := by rw [hs4]; exact fm_C (fm_rf _ _ _) (show 228 ∈ _ by decide)
  have JRLx_s4 : RLx s4 := RLx_fm fs4 (by decide) jRLx
  refine z_aload_n X (x := A 179) rfl (List.Mem.tail _ (List.Mem.tail _ (List.Mem.tail _ (List.Mem.head _)))) (z_load_n X (x := (iC s 228 (x).toNat)) rfl (List.Mem.tail _ (List.Mem.tail _ (List.Mem.head _))) (zcV_i0 X E 179 (As := [.int (Int32.ofInt (iC s 228 (x).toNat))]) (st := []) rfl rfl rfl rfl (k_hasCells G Is4 (by first | exact ⟨oq_97ee2c2a b1.1, oq_0e78ca7d b1.2⟩ | omega)) rfl (Nat.le_of_ble_eq_true rfl) (fun s5 e6 Is5 Fs5 hrs5 hps5 => ?_)))
  have Gs5 := fm_tq Fs4 Fs5 rfl rfl
  have JRLx_s5 : RLx s5 := RLx_fm Fs5 (by decide) JRLx_s4
  refine z_if_eq X (t := 137) rfl rfl hrs5 (fun g7 => ?_) (fun g7 => ?_)
  ·
    refine z_aload_n X (x := A 179) rfl (List.Mem.tail _ (List.Mem.tail _ (List.Mem.tail _ (List.Mem.head _)))) (s_getR X 179 rfl (c518_ok rfl) rfl rfl (z_load_n X (x := x) rfl (List.Mem.tail _ (List.Mem.tail _ (List.Mem.tail _ (List.Mem.tail _ (List.Mem.head _))))) (z_load_n X (x := (iC s 228 (x).toNat)) rfl (List.Mem.tail _ (List.Mem.tail _ (List.Mem.head _))) (z_ast X 256 rfl (c518_ok rfl) rfl (by first | exact p0.1 | omega) (show x < 128 by first | exact oq_31b2bf10 p0.2 | omega) (cbig_ok rfl) (wd_gen (fun s8 hs8 => ?_))))))
    have Is8 : Bd s8 := eqB hs8 (bd_C Is5 (show ((-1) : Int) ≤ (iC s 228 (x).toNat) ∧ (iC s 228 (x).toNat) ≤ 7 by first | exact ⟨b1.1, b1.2⟩ | omega) (rng_to _))
    have Fs8 := eqF hs8 (fm_C Gs5 (inl_ok (a := 228) rfl))
    have fs8 : Fm [] [228] s5 s8 := by rw [hs8]; exact fm_C (fm_rf _ _ _) (show 228 ∈ _ by decide)
    have JRLx_s8 : RLx s8 := RLx_fm fs8 (by decide) JRLx_s5
    refine z_aload_n X (x := A 179) rfl (List.Mem.tail _ (List.Mem.tail _ (List.Mem.tail _ (List.Mem.head _)))) (s_getR X 179 rfl (c518_ok rfl) rfl rfl (z_load_n X (x := (iC s 228 (x).toNat)) rfl (List.Mem.tail _ (List.Mem.tail _ (List.Mem.head _))) (z_load X (x := (iC s 233 ((iC s 228 (x).toNat)).toNat)) rfl (List.Mem.tail _ (List.Mem.head _)) (z_ast X 261 rfl (c518_ok rfl) rfl (by first | exact oq_5234833b b1.1 p2 | omega) (show (iC s 228 (x).toNat) < 8 by first | exact oq_aaea290e b1.2 | omega) (cbig_ok rfl) (wd_gen (fun s9 hs9 => ?_))))))
    have Is9 : Bd s9 := eqB hs9 (bd_C Is8 (show ((-2147483648) : Int) ≤ (iC s 233 ((iC s 228 (x).toNat)).toNat) ∧ (iC s 233 ((iC s 228 (x).toNat)).toNat) ≤ 2147483647 by first | exact ⟨b2.1, b2.2⟩ | omega) (rng_to _))
    have Fs9 := eqF hs9 (fm_C Fs8 (inl_ok (a := 233) rfl))
    have fs9 : Fm [] [233] s8 s9 := by rw [hs9]; exact fm_C (fm_rf _ _ _) (show 233 ∈ _ by decide)
    have JRLx_s9 : RLx s9 := RLx_fm fs9 (by decide) JRLx_s8
    refine z_aload_n X (x := A 179) rfl (List.Mem.tail _ (List.Mem.tail _ (List.Mem.tail _ (List.Mem.head _)))) (s_getR X 179 rfl (c518_ok rfl) rfl rfl (z_load_n X (x := y) rfl (List.Mem.tail _ (List.Mem.tail _ (List.Mem.tail _ (List.Mem.tail _ (List.Mem.tail _ (List.Mem.head _)))))) (z_load X (x := (iC s 233 (y).toNat)) rfl (List.Mem.head _) (z_ast X 261 rfl (c518_ok rfl) rfl (by first | exact p1.1 | omega) (show y < 8 by first | exact oq_aaea290e p1.2 | omega) (cbig_ok rfl) (wd_gen (fun s10 hs10 => ?_))))))
    have Is10 : Bd s10 := eqB hs10 (bd_C Is9 (show ((-2147483648) : Int) ≤ (iC s 233 (y).toNat) ∧ (iC s 233 (y).toNat) ≤ 2147483647 by first | exact ⟨b3.1, b3.2⟩ | omega) (rng_to _))
    have Fs10 := eqF hs10 (fm_C Fs9 (inl_ok (a := 233) rfl))
    have fs10 : Fm [] [233] s9 s10 := by rw [hs10]; exact fm_C (fm_rf _ _ _) (show 233 ∈ _ by decide)
    have JRLx_s10 : RLx s10 := RLx_fm fs10 (by decide) JRLx_s9
    exact w_vret X.1 q hRt (ax_d X (show cdA 255 160 = some (.return_, 1, 0, 0, 0) from rfl)) (Nat.zero_le _) (Nat.zero_le _) ⟨_, rfl, Is10, Fs10, JRLx_s10, rfl, trivial⟩
  ·
    refine z_aload_n X (x := A 179) rfl (List.Mem.tail _ (List.Mem.tail _ (List.Mem.tail _ (List.Mem.head _)))) (z_load_n X (x := (iC s 228 (x).toNat)) rfl (List.Mem.tail _ (List.Mem.tail _ (List.Mem.head _))) (zcV_i0 X E 179 (As := [.int (Int32.ofInt (iC s 228 (x).toNat))]) (st := []) rfl rfl rfl rfl (k_isWhole G Is5 (by first | exact ⟨oq_97ee2c2a b1.1, oq_0e78ca7d b1.2⟩ | omega)) rfl (Nat.le_of_ble_eq_true rfl) (fun s11 e12 Is11 Fs11 hrs11 hps11 => ?_)))
    have Gs11 := fm_tq Gs5 Fs11 rfl rfl
    have JRLx_s11 : RLx s11 := RLx_fm Fs11 (by decide) JRLx_s5
    refine z_if_eq X (t := 137) rfl rfl hrs11 (fun g13 => ?_) (fun g13 => ?_)
    ·
      refine z_aload_n X (x := A 179) rfl (List.Mem.tail _ (List.Mem.tail _ (List.Mem.tail _ (List.Mem.head _)))) (s_getR X 179 rfl (c518_ok rfl) rfl rfl (z_load_n X (x := x) rfl (List.Mem.tail _ (List.Mem.tail _ (List.Mem.tail _ (List.Mem.tail _ (List.Mem.head _))))) (z_load_n X (x := (iC s 228 (x).toNat)) rfl (List.Mem.tail _ (List.Mem.tail _ (List.Mem.head _))) (z_ast X 256 rfl (c518_ok rfl) rfl (by first | exact p0.1 | omega) (show x < 128 by first | exact oq_31b2bf10 p0.2 | omega) (cbig_ok rfl) (wd_gen (fun s14 hs14 => ?_))))))
      have Is14 : Bd s14 := eqB hs14 (bd_C Is11 (show ((-1) : Int) ≤ (iC s 228 (x).toNat) ∧ (iC s 228 (x).toNat) ≤ 7 by first | exact ⟨b1.1, b1.2⟩ | omega) (rng_to _))
      have Fs14 := eqF hs14 (fm_C Gs11 (inl_ok (a := 228) rfl))
      have fs14 : Fm [] [228] s11 s14 := by rw [hs14]; exact fm_C (fm_rf _ _ _) (show 228 ∈ _ by decide)
      have JRLx_s14 : RLx s14 := RLx_fm fs14 (by decide) JRLx_s11
      refine z_aload_n X (x := A 179) rfl (List.Mem.tail _ (List.Mem.tail _ (List.Mem.tail _ (List.Mem.head _)))) (s_getR X 179 rfl (c518_ok rfl) rfl rfl (z_load_n X (x := (iC s 228 (x).toNat)) rfl (List.Mem.tail _ (List.Mem.tail _ (List.Mem.head _))) (z_load X (x := (iC s 233 ((iC s 228 (x).toNat)).toNat)) rfl (List.Mem.tail _ (List.Mem.head _)) (z_ast X 261 rfl (c518_ok rfl) rfl (by first | exact oq_5234833b b1.1 p2 | omega) (show (iC s 228 (x).toNat) < 8 by first | exact oq_aaea290e b1.2 | omega) (cbig_ok rfl) (wd_gen (fun s15 hs15 => ?_))))))
      have Is15 : Bd s15 := eqB hs15 (bd_C Is14 (show ((-2147483648) : Int) ≤ (iC s 233 ((iC s 228 (x).toNat)).toNat) ∧ (iC s 233 ((iC s 228 (x).toNat)).toNat) ≤ 2147483647 by first | exact ⟨b2.1, b2.2⟩ | omega) (rng_to _))
      have Fs15 := eqF hs15 (fm_C Fs14 (inl_ok (a := 233) rfl))
      have fs15 : Fm [] [233] s14 s15 := by rw [hs15]; exact fm_C (fm_rf _ _ _) (show 233 ∈ _ by decide)
      have JRLx_s15 : RLx s15 := RLx_fm fs15 (by decide) JRLx_s14
      refine z_aload_n X (x := A 179) rfl (List.Mem.tail _ (List.Mem.tail _ (List.Mem.tail _ (List.Mem.head _)))) (s_getR X 179 rfl (c518_ok rfl) rfl rfl (z_load_n X (x := y) rfl (List.Mem.tail _ (List.Mem.tail _ (List.Mem.tail _ (List.Mem.tail _ (List.Mem.tail _ (List.Mem.head _)))))) (z_load X (x := (iC s 233 (y).toNat)) rfl (List.Mem.head _) (z_ast X 261 rfl (c518_ok rfl) rfl (by first | exact p1.1 | omega) (show y < 8 by first | exact oq_aaea290e p1.2 | omega) (cbig_ok rfl) (wd_gen (fun s16 hs16 => ?_))))))
      have Is16 : Bd s16 := eqB hs16 (bd_C Is15 (show ((-2147483648) : Int) ≤ (iC s 233 (y).toNat) ∧ (iC s 233 (y).toNat) ≤ 2147483647 by first | exact ⟨b3.1, b3.2⟩ | omega) (rng_to _))
      have Fs16 := eqF hs16 (fm_C Fs15 (inl_ok (a := 233) rfl))
      have fs16 : Fm [] [233] s15 s16 := by rw [hs16]; exact fm_C (fm_rf _ _ _) (show 233 ∈ _ by decide)
      have JRLx_s16 : RLx s16 := RLx_fm fs16 (by decide) JRLx_s15
      exact w_vret X.1 q hRt (ax_d X (show cdA 255 160 = some (.return_, 1, 0, 0, 0) from rfl)) (Nat.zero_le _) (Nat.zero_le _) ⟨_, rfl, Is16, Fs16, JRLx_s16, rfl, trivial⟩
    ·
      refine z_aload_n X (x := A 179) rfl (List.Mem.tail _ (List.Mem.tail _ (List.Mem.tail _ (List.Mem.head _)))) (z_load_n X (x := y) rfl (List.Mem.tail _ (List.Mem.tail _ (List.Mem.tail _ (List.Mem.tail _ (List.Mem.tail _ (List.Mem.head _)))))) (zcV_i0 X E 179 (As := [.int (Int32.ofInt y)]) (st := []) rfl rfl rfl rfl (k_isWhole G Is11 (by first | exact ⟨oq_fa4e5087 p1.1, oq_0e78ca7d p1.2⟩ | omega)) rfl (Nat.le_of_ble_eq_true rfl) (fun s17 e18 Is17 Fs17 hrs17 hps17 => ?_)))
      have Gs17 := fm_tq Gs11 Fs17 rfl rfl
      have JRLx_s17 : RLx s17 := RLx_fm Fs17 (by decide) JRLx_s11
      refine z_if_eq X (t := 137) rfl rfl hrs17 (fun g19 => ?_) (fun g19 => ?_)
      ·
        refine z_aload_n X (x := A 179) rfl (List.Mem.tail _ (List.Mem.tail _ (List.Mem.tail _ (List.Mem.head _)))) (s_getR X 179 rfl (c518_ok rfl) rfl rfl (z_load_n X (x := x) rfl (List.Mem.tail _ (List.Mem.tail _ (List.Mem.tail _ (List.Mem.tail _ (List.Mem.head _))))) (z_load_n X (x := (iC s 228 (x).toNat)) rfl (List.Mem.tail _ (List.Mem.tail _ (List.Mem.head _))) (z_ast X 256 rfl (c518_ok rfl) rfl (by first | exact p0.1 | omega) (show x < 128 by first | exact oq_31b2bf10 p0.2 | omega) (cbig_ok rfl) (wd_gen (fun s20 hs20 => ?_))))))
        have Is20 : Bd s20 := eqB hs20 (bd_C Is17 (show ((-1) : Int) ≤ (iC s 228 (x).toNat) ∧ (iC s 228 (x).toNat) ≤ 7 by first | exact ⟨b1.1, b1.2⟩ | omega) (rng_to _))
        have Fs20 := eqF hs20 (fm_C Gs17 (inl_ok (a := 228) rfl))
        have fs20 : Fm [] [228] s17 s20 := by rw [hs20]; exact fm_C (fm_rf _ _ _) (show 228 ∈ _ by decide)
        have JRLx_s20 : RLx s20 := RLx_fm fs20 (by decide) JRLx_s17
        refine z_aload_n X (x := A 179) rfl (List.Mem.tail _ (List.Mem.tail _ (List.Mem.tail _ (List.Mem.head _)))) (s_getR X 179 rfl (c518_ok rfl) rfl rfl (z_load_n X (x := (iC s 228 (x).toNat)) rfl (List.Mem.tail _ (List.Mem.tail _ (List.Mem.head _))) (z_load X (x := (iC s 233 ((iC s 228 (x).toNat)).toNat)) rfl (List.Mem.tail _ (List.Mem.head _)) (z_ast X 261 rfl (c518_ok rfl) rfl (by first | exact oq_5234833b b1.1 p2 | omega) (show (iC s 228 (x).toNat) < 8 by first | exact oq_aaea290e b1.2 | omega) (cbig_ok rfl) (wd_gen (fun s21 hs21 => ?_))))))
        have Is21 : Bd s21 := eqB hs21 (bd_C Is20 (show ((-2147483648) : Int) ≤ (iC s 233 ((iC s 228 (x).toNat)).toNat) ∧ (iC s 233 ((iC s 228 (x).toNat)).toNat) ≤ 2147483647 by first | exact ⟨b2.1, b2.2⟩ | omega) (rng_to _))
        have Fs21 := eqF hs21 (fm_C Fs20 (inl_ok (a := 233) rfl))
        have fs21 : Fm [] [233] s20 s21 := by rw [hs21]; exact fm_C (fm_rf _ _ _) (show 233 ∈ _ by decide)
        have JRLx_s21 : RLx s21 := RLx_fm fs21 (by decide) JRLx_s20
        refine z_aload_n X (x := A 179) rfl (List.Mem.tail _ (List.Mem.tail _ (List.Mem.tail _ (List.Mem.head _)))) (s_getR X 179 rfl (c518_ok rfl) rfl rfl (z_load_n X (x := y) rfl (List.Mem.tail _ (List.Mem.tail _ (List.Mem.tail _ (List.Mem.tail _ (List.Mem.tail _ (List.Mem.head _)))))) (z_load X (x := (iC s 233 (y).toNat)) rfl (List.Mem.head _) (z_ast X 261 rfl (c518_ok rfl) rfl (by first | exact p1.1 | omega) (show y < 8 by first | exact oq_aaea290e p1.2 | omega) (cbig_ok rfl) (wd_gen (fun s22 hs22 => ?_))))))
        have Is22 : Bd s22 := eqB hs22 (bd_C Is21 (show ((-2147483648) : Int) ≤ (iC s 233 (y).toNat) ∧ (iC s 233 (y).toNat) ≤ 2147483647 by first | exact ⟨b3.1, b3.2⟩ | omega) (rng_to _))
        have Fs22 := eqF hs22 (fm_C Fs21 (inl_ok (a := 233) rfl))
        have fs22 : Fm [] [233] s21 s22 := by rw [hs22]; exact fm_C (fm_rf _ _ _) (show 233 ∈ _ by decide)
        have JRLx_s22 : RLx s22 := RLx_fm fs22 (by decide) JRLx_s21
        exact w_vret X.1 q hRt (ax_d X (show cdA 255 160 = some (.return_, 1, 0, 0, 0) from rfl)) (Nat.zero_le _) (Nat.zero_le _) ⟨_, rfl, Is22, Fs22, JRLx_s22, rfl, trivial⟩
      ·
        refine z_aload_n X (x := A 179) rfl (List.Mem.tail _ (List.Mem.tail _ (List.Mem.tail _ (List.Mem.head _)))) (s_getR X 179 rfl (c518_ok rfl) rfl rfl (z_load_n X (x := (iC s 228 (x).toNat)) rfl (List.Mem.tail _ (List.Mem.tail _ (List.Mem.head _))) (z_aload_n X (x := A 179) rfl (List.Mem.tail _ (List.Mem.tail _ (List.Mem.tail _ (List.Mem.head _)))) (z_load_n X (x := (iC s 228 (x).toNat)) rfl (List.Mem.tail _ (List.Mem.tail _ (List.Mem.head _))) (zcV_i1 X E 179 (As := [.int (Int32.ofInt (iC s 228 (x).toNat))]) (st := [.int (Int32.ofInt (iC s 228 (x).toNat)), .ref (A 261)]) rfl rfl rfl rfl (k_peakOfPiece G Is17 JRLx_s17 (by first | exact ⟨oq_97ee2c2a b1.1, oq_0e78ca7d b1.2⟩ | omega)) rfl (Nat.le_of_ble_eq_true rfl) (fun s23 e24 Is23 Fs23 JRLx_s23 hrs23 hps23 => ?_))))))
        have Gs23 := fm_tq Gs17 Fs23 rfl rfl
        have JRLx_s23 : RLx s23 := RLx_fm Fs23 (by decide) JRLx_s17
        refine z_ast X 261 rfl (c518_ok rfl) rfl (by first | exact oq_5234833b b1.1 p2 | omega) (show (iC s 228 (x).toNat) < 8 by first | exact oq_aaea290e b1.2 | omega) (cbig_ok rfl) (wd_gen (fun s25 hs25 => ?_))
        have Is25 : Bd s25 := eqB hs25 (bd_C Is23 (show ((-2147483648) : Int) ≤ e24 ∧ e24 ≤ 2147483647 by first | (clear g19 hps17 g13 hps11 g7 hps5 p2; omega) | (clear hps17 g13 hps11 g7 hps5 p2; omega) | omega) hrs23)
        have Fs25 := eqF hs25 (fm_C Gs23 (inl_ok (a := 233) rfl))
        have fs25 : Fm [] [233] s23 s25 := by rw [hs25]; exact fm_C (fm_rf _ _ _) (show 233 ∈ _ by decide)
        have JRLx_s25 : RLx s25 := RLx_fm fs25 (by decide) JRLx_s23
        refine z_aload_n X (x := A 179) rfl (List.Mem.tail _ (List.Mem.tail _ (List.Mem.tail _ (List.Mem.head _)))) (s_getR X 179 rfl (c518_ok rfl) rfl rfl (z_load_n X (x := y) rfl (List.Mem.tail _ (List.Mem.tail _ (List.Mem.tail _ (List.Mem.tail _ (List.Mem.tail _ (List.Mem.head _)))))) (z_aload_n X (x := A 179) rfl (List.Mem.tail _ (List.Mem.tail _ (List.Mem.tail _ (List.Mem.head _)))) (z_load_n X (x := y) rfl (List.Mem.tail _ (List.Mem.tail _ (List.Mem.tail _ (List.Mem.tail _ (List.Mem.tail _ (List.Mem.head _)))))) (zcV_i1 X E 179 (As := [.int (Int32.ofInt y)]) (st := [.int (Int32.ofInt y), .ref (A 261)]) rfl rfl rfl rfl (k_peakOfPiece G Is25 JRLx_s25 (by first | exact ⟨oq_fa4e5087 p1.1, oq_0e78ca7d p1.2⟩ | omega)) rfl (Nat.le_of_ble_eq_true rfl) (fun s26 e27 Is26 Fs26 JRLx_s26 hrs26 hps26 => ?_))))))
        have Gs26 := fm_tq Fs25 Fs26 rfl rfl
        have JRLx_s26 : RLx s26 := RLx_fm Fs26 (by decide) JRLx_s25
        refine z_ast X 261 rfl (c518_ok rfl) rfl (by first | exact p1.1 | omega) (show y < 8 by first | exact oq_aaea290e p1.2 | omega) (cbig_ok rfl) (wd_gen (fun s28 hs28 => ?_))
        have Is28 : Bd s28 := eqB hs28 (bd_C Is26 (show ((-2147483648) : Int) ≤ e27 ∧ e27 ≤ 2147483647 by first | (clear g19 hps17 g13 hps11 g7 hps5 p2; omega) | (clear hps17 g13 hps11 g7 hps5 p2; omega) | omega) hrs26)
        have Fs28 := eqF hs28 (fm_C Gs26 (inl_ok (a := 233) rfl))
        have fs28 : Fm [] [233] s26 s28 := by rw [hs28]; exact fm_C (fm_rf _ _ _) (show 233 ∈ _ by decide)
        have JRLx_s28 : RLx s28 := RLx_fm fs28 (by decide) JRLx_s26
        refine z_aload_n X (x := A 179) rfl (List.Mem.tail _ (List.Mem.tail _ (List.Mem.tail _ (List.Mem.head _)))) (zcV_i0 X E 179 (As := []) (st := []) rfl rfl rfl rfl (k_costByPeaks G Is28 ) rfl (Nat.le_of_ble_eq_true rfl) (fun s29 e30 Is29 Fs29 hrs29 hps29 => ?_))
        have Gs29 := fm_tq Fs28 Fs29 rfl rfl
        have JRLx_s29 : RLx s29 := RLx_fm Fs29 (by decide) JRLx_s28
        refine z_store X (lv' := [(6, .int (Int32.ofInt e30)), (5, .int (Int32.ofInt (iC s 233 (y).toNat))), (4, .int (Int32.ofInt (iC s 233 ((iC s 228 (x).toNat)).toNat))), (3, .int (Int32.ofInt (iC s 228 (x).toNat))), (0, .ref (A 179)), (1, .int (Int32.ofInt x)), (2, .int (Int32.ofInt y))]) rfl (by decide) (fun _ h => h) (z_aload_n X (x := A 179) rfl (List.Mem.tail _ (List.Mem.tail _ (List.Mem.tail _ (List.Mem.tail _ (List.Mem.head _))))) (s_getR X 179 rfl (c518_ok rfl) rfl rfl (z_load_n X (x := (iC s 228 (x).toNat)) rfl (List.Mem.tail _ (List.Mem.tail _ (List.Mem.tail _ (List.Mem.head _)))) (z_ald X 261 rfl (c518_ok rfl) rfl (by first | exact oq_5234833b b1.1 p2 | omega) (show (iC s 228 (x).toNat) < 8 by first | exact oq_aaea290e b1.2 | omega) (cbig_ok rfl) ?_))))
        have b31 := bc_233 Is29 (show ((iC s 228 (x).toNat)).toNat < 8 by first | exact oq_c19a3aae b1.2 | omega)
        refine z_aload_n X (x := A 179) rfl (List.Mem.tail _ (List.Mem.tail _ (List.Mem.tail _ (List.Mem.tail _ (List.Mem.head _))))) (s_getR X 179 rfl (c518_ok rfl) rfl rfl (z_load_n X (x := (iC s 228 (x).toNat)) rfl (List.Mem.tail _ (List.Mem.tail _ (List.Mem.tail _ (List.Mem.head _)))) (z_ald X 257 rfl (c518_ok rfl) rfl (by first | exact oq_5234833b b1.1 p2 | omega) (show (iC s 228 (x).toNat) < 8 by first | exact oq_aaea290e b1.2 | omega) (cbig_ok rfl) ?_)))
        have b32 := bc_229 Is29 (show ((iC s 228 (x).toNat)).toNat < 8 by first | exact oq_c19a3aae b1.2 | omega)
        refine z_icmp_gt X (t := 137) rfl rfl (rng_to _) (rng_to _) (fun g33 => ?_) (fun g33 => ?_)
        ·
          refine z_aload_n X (x := A 179) rfl (List.Mem.tail _ (List.Mem.tail _ (List.Mem.tail _ (List.Mem.tail _ (List.Mem.head _))))) (s_getR X 179 rfl (c518_ok rfl) rfl rfl (z_load_n X (x := x) rfl (List.Mem.tail _ (List.Mem.tail _ (List.Mem.tail _ (List.Mem.tail _ (List.Mem.tail _ (List.Mem.head _)))))) (z_load_n X (x := (iC s 228 (x).toNat)) rfl (List.Mem.tail _ (List.Mem.tail _ (List.Mem.tail _ (List.Mem.head _)))) (z_ast X 256 rfl (c518_ok rfl) rfl (by first | exact p0.1 | omega) (show x < 128 by first | exact oq_31b2bf10 p0.2 | omega) (cbig_ok rfl) (wd_gen (fun s34 hs34 => ?_))))))
          have Is34 : Bd s34 := eqB hs34 (bd_C Is29 (show ((-1) : Int) ≤ (iC s 228 (x).toNat) ∧ (iC s 228 (x).toNat) ≤ 7 by first | exact ⟨b1.1, b1.2⟩ | omega) (rng_to _))
          have Fs34 := eqF hs34 (fm_C Gs29 (inl_ok (a := 228) rfl))
          have fs34 : Fm [] [228] s29 s34 := by rw [hs34]; exact fm_C (fm_rf _ _ _) (show 228 ∈ _ by decide)
          have JRLx_s34 : RLx s34 := RLx_fm fs34 (by decide) JRLx_s29
          refine z_aload_n X (x := A 179) rfl (List.Mem.tail _ (List.Mem.tail _ (List.Mem.tail _ (List.Mem.tail _ (List.Mem.head _))))) (s_getR X 179 rfl (c518_ok rfl) rfl rfl (z_load_n X (x := (iC s 228 (x).toNat)) rfl (List.Mem.tail _ (List.Mem.tail _ (List.Mem.tail _ (List.Mem.head _)))) (z_load X (x := (iC s 233 ((iC s 228 (x).toNat)).toNat)) rfl (List.Mem.tail _ (List.Mem.tail _ (List.Mem.head _))) (z_ast X 261 rfl (c518_ok rfl) rfl (by first | exact oq_5234833b b1.1 p2 | omega) (show (iC s 228 (x).toNat) < 8 by first | exact oq_aaea290e b1.2 | omega) (cbig_ok rfl) (wd_gen (fun s35 hs35 => ?_))))))
          have Is35 : Bd s35 := eqB hs35 (bd_C Is34 (show ((-2147483648) : Int) ≤ (iC s 233 ((iC s 228 (x).toNat)).toNat) ∧ (iC s 233 ((iC s 228 (x).toNat)).toNat) ≤ 2147483647 by first | exact ⟨b2.1, b2.2⟩ | omega) (rng_to _))
          have Fs35 := eqF hs35 (fm_C Fs34 (inl_ok (a := 233) rfl))
          have fs35 : Fm [] [233] s34 s35 := by rw [hs35]; exact fm_C (fm_rf _ _ _) (show 233 ∈ _ by decide)
          have JRLx_s35 : RLx s35 := RLx_fm fs35 (by decide) JRLx_s34
          refine z_aload_n X (x := A 179) rfl (List.Mem.tail _ (List.Mem.tail _ (List.Mem.tail _ (List.Mem.tail _ (List.Mem.head _))))) (s_getR X 179 rfl (c518_ok rfl) rfl rfl (z_load_n X (x := y) rfl (List.Mem.tail _ (List.Mem.tail _ (List.Mem.tail _ (List.Mem.tail _ (List.Mem.tail _ (List.Mem.tail _ (List.Mem.head _))))))) (z_load X (x := (iC s 233 (y).toNat)) rfl (List.Mem.tail _ (List.Mem.head _)) (z_ast X 261 rfl (c518_ok rfl) rfl (by first | exact p1.1 | omega) (show y < 8 by first | exact oq_aaea290e p1.2 | omega) (cbig_ok rfl) (wd_gen (fun s36 hs36 => ?_))))))
          have Is36 : Bd s36 := eqB hs36 (bd_C Is35 (show ((-2147483648) : Int) ≤ (iC s 233 (y).toNat) ∧ (iC s 233 (y).toNat) ≤ 2147483647 by first | exact ⟨b3.1, b3.2⟩ | omega) (rng_to _))
          have Fs36 := eqF hs36 (fm_C Fs35 (inl_ok (a := 233) rfl))
          have fs36 : Fm [] [233] s35 s36 := by rw [hs36]; exact fm_C (fm_rf _ _ _) (show 233 ∈ _ by decide)
          have JRLx_s36 : RLx s36 := RLx_fm fs36 (by decide) JRLx_s35
          exact w_vret X.1 q hRt (ax_d X (show cdA 255 160 = some (.return_, 1, 0, 0, 0) from rfl)) (Nat.zero_le _) (Nat.zero_le _) ⟨_, rfl, Is36, Fs36, JRLx_s36, rfl, trivial⟩
        ·
          refine z_aload_n X (x := A 179) rfl (List.Mem.tail _ (List.Mem.tail _ (List.Mem.tail _ (List.Mem.tail _ (List.Mem.head _))))) (s_getR X 179 rfl (c518_ok rfl) rfl rfl (z_load_n X (x := y) rfl (List.Mem.tail _ (List.Mem.tail _ (List.Mem.tail _ (List.Mem.tail _ (List.Mem.tail _ (List.Mem.tail _ (List.Mem.head _))))))) (z_ald X 261 rfl (c518_ok rfl) rfl (by first | exact p1.1 | omega) (show y < 8 by first | exact oq_aaea290e p1.2 | omega) (cbig_ok rfl) ?_)))
          have b37 := bc_233 Is29 (show (y).toNat < 8 by first | exact oq_c19a3aae p1.2 | omega)
          refine z_aload_n X (x := A 179) rfl (List.Mem.tail _ (List.Mem.tail _ (List.Mem.tail _ (List.Mem.tail _ (List.Mem.head _))))) (s_getR X 179 rfl (c518_ok rfl) rfl rfl (z_load_n X (x := y) rfl (List.Mem.tail _ (List.Mem.tail _ (List.Mem.tail _ (List.Mem.tail _ (List.Mem.tail _ (List.Mem.tail _ (List.Mem.head _))))))) (z_ald X 257 rfl (c518_ok rfl) rfl (by first | exact p1.1 | omega) (show y < 8 by first | exact oq_aaea290e p1.2 | omega) (cbig_ok rfl) ?_)))
          have b38 := bc_229 Is29 (show (y).toNat < 8 by first | exact oq_c19a3aae p1.2 | omega)
          refine z_icmp_gt X (t := 137) rfl rfl (rng_to _) (rng_to _) (fun g39 => ?_) (fun g39 => ?_)
          ·
            refine z_aload_n X (x := A 179) rfl (List.Mem.tail _ (List.Mem.tail _ (List.Mem.tail _ (List.Mem.tail _ (List.Mem.head _))))) (s_getR X 179 rfl (c518_ok rfl) rfl rfl (z_load_n X (x := x) rfl (List.Mem.tail _ (List.Mem.tail _ (List.Mem.tail _ (List.Mem.tail _ (List.Mem.tail _ (List.Mem.head _)))))) (z_load_n X (x := (iC s 228 (x).toNat)) rfl (List.Mem.tail _ (List.Mem.tail _ (List.Mem.tail _ (List.Mem.head _)))) (z_ast X 256 rfl (c518_ok rfl) rfl (by first | exact p0.1 | omega) (show x < 128 by first | exact oq_31b2bf10 p0.2 | omega) (cbig_ok rfl) (wd_gen (fun s40 hs40 => ?_))))))
            have Is40 : Bd s40 := eqB hs40 (bd_C Is29 (show ((-1) : Int) ≤ (iC s 228 (x).toNat) ∧ (iC s 228 (x).toNat) ≤ 7 by first | exact ⟨b1.1, b1.2⟩ | omega) (rng_to _))
            have Fs40 := eqF hs40 (fm_C Gs29 (inl_ok (a := 228) rfl))
            have fs40 : Fm [] [228] s29 s40 := by rw [hs40]; exact fm_C (fm_rf _ _ _) (show 228 ∈ _ by decide)
            have JRLx_s40 : RLx s40 := RLx_fm fs40 (by decide) JRLx_s29
            refine z_aload_n X (x := A 179) rfl (List.Mem.tail _ (List.Mem.tail _ (List.Mem.tail _ (List.Mem.tail _ (List.Mem.head _))))) (s_getR X 179 rfl (c518_ok rfl) rfl rfl (z_load_n X (x := (iC s 228 (x).toNat)) rfl (List.Mem.tail _ (List.Mem.tail _ (List.Mem.tail _ (List.Mem.head _)))) (z_load X (x := (iC s 233 ((iC s 228 (x).toNat)).toNat)) rfl (List.Mem.tail _ (List.Mem.tail _ (List.Mem.head _))) (z_ast X 261 rfl (c518_ok rfl) rfl (by first | exact oq_5234833b b1.1 p2 | omega) (show (iC s 228 (x).toNat) < 8 by first | exact oq_aaea290e b1.2 | omega) (cbig_ok rfl) (wd_gen (fun s41 hs41 => ?_))))))
            have Is41 : Bd s41 := eqB hs41 (bd_C Is40 (show ((-2147483648) : Int) ≤ (iC s 233 ((iC s 228 (x).toNat)).toNat) ∧ (iC s 233 ((iC s 228 (x).toNat)).toNat) ≤ 2147483647 by first | exact ⟨b2.1, b2.2⟩ | omega) (rng_to _))
            have Fs41 := eqF hs41 (fm_C Fs40 (inl_ok (a := 233) rfl))
            have fs41 : Fm [] [233] s40 s41 := by rw [hs41]; exact fm_C (fm_rf _ _ _) (show 233 ∈ _ by decide)
            have JRLx_s41 : RLx s41 := RLx_fm fs41 (by decide) JRLx_s40
            refine z_aload_n X (x := A 179) rfl (List.Mem.tail _ (List.Mem.tail _ (List.Mem.tail _ (List.Mem.tail _ (List.Mem.head _))))) (s_getR X 179 rfl (c518_ok rfl) rfl rfl (z_load_n X (x := y) rfl (List.Mem.tail _ (List.Mem.tail _ (List.Mem.tail _ (List.Mem.tail _ (List.Mem.tail _ (List.Mem.tail _ (List.Mem.head _))))))) (z_load X (x := (iC s 233 (y).toNat)) rfl (List.Mem.tail _ (List.Mem.head _)) (z_ast X 261 rfl (c518_ok rfl) rfl (by first | exact p1.1 | omega) (show y < 8 by first | exact oq_aaea290e p1.2 | omega) (cbig_ok rfl) (wd_gen (fun s42 hs42 => ?_))))))
            have Is42 : Bd s42 := eqB hs42 (bd_C Is41 (show ((-2147483648) : Int) ≤ (iC s 233 (y).toNat) ∧ (iC s 233 (y).toNat) ≤ 2147483647 by first | exact ⟨b3.1, b3.2⟩ | omega) (rng_to _))
            have Fs42 := eqF hs42 (fm_C Fs41 (inl_ok (a := 233) rfl))
            have fs42 : Fm [] [233] s41 s42 := by rw [hs42]; exact fm_C (fm_rf _ _ _) (show 233 ∈ _ by decide)
            have JRLx_s42 : RLx s42 := RLx_fm fs42 (by decide) JRLx_s41
            exact w_vret X.1 q hRt (ax_d X (show cdA 255 160 = some (.return_, 1, 0, 0, 0) from rfl)) (Nat.zero_le _) (Nat.zero_le _) ⟨_, rfl, Is42, Fs42, JRLx_s42, rfl, trivial⟩
          ·
            refine z_load X (x := e30) rfl (List.Mem.head _) (z_aload_n X (x := A 179) rfl (List.Mem.tail _ (List.Mem.tail _ (List.Mem.tail _ (List.Mem.tail _ (List.Mem.head _))))) (z_getI X 179 rfl (c518_ok rfl) rfl rfl ?_))
            have b43 := bi_94 Is29
            refine z_icmp_ge X (t := 137) rfl rfl hrs29 (rng_to _) (fun g44 => ?_) (fun g44 => ?_)
            ·
              refine z_aload_n X (x := A 179) rfl (List.Mem.tail _ (List.Mem.tail _ (List.Mem.tail _ (List.Mem.tail _ (List.Mem.head _))))) (s_getR X 179 rfl (c518_ok rfl) rfl rfl (z_load_n X (x := x) rfl (List.Mem.tail _ (List.Mem.tail _ (List.Mem.tail _ (List.Mem.tail _ (List.Mem.tail _ (List.Mem.head _)))))) (z_load_n X (x := (iC s 228 (x).toNat)) rfl (List.Mem.tail _ (List.Mem.tail _ (List.Mem.tail _ (List.Mem.head _)))) (z_ast X 256 rfl (c518_ok rfl) rfl (by first | exact p0.1 | omega) (show x < 128 by first | exact oq_31b2bf10 p0.2 | omega) (cbig_ok rfl) (wd_gen (fun s45 hs45 => ?_))))))
              have Is45 : Bd s45 := eqB hs45 (bd_C Is29 (show ((-1) : Int) ≤ (iC s 228 (x).toNat) ∧ (iC s 228 (x).toNat) ≤ 7 by first | exact ⟨b1.1, b1.2⟩ | omega) (rng_to _))
              have Fs45 := eqF hs45 (fm_C Gs29 (inl_ok (a := 228) rfl))
              have fs45 : Fm [] [228] s29 s45 := by rw [hs45]; exact fm_C (fm_rf _ _ _) (show 228 ∈ _ by decide)
              have JRLx_s45 : RLx s45 := RLx_fm fs45 (by decide) JRLx_s29
              refine z_aload_n X (x := A 179) rfl (List.Mem.tail _ (List.Mem.tail _ (List.Mem.tail _ (List.Mem.tail _ (List.Mem.head _))))) (s_getR X 179 rfl (c518_ok rfl) rfl rfl (z_load_n X (x := (iC s 228 (x).toNat)) rfl (List.Mem.tail _ (List.Mem.tail _ (List.Mem.tail _ (List.Mem.head _)))) (z_load X (x := (iC s 233 ((iC s 228 (x).toNat)).toNat)) rfl (List.Mem.tail _ (List.Mem.tail _ (List.Mem.head _))) (z_ast X 261 rfl (c518_ok rfl) rfl (by first | exact oq_5234833b b1.1 p2 | omega) (show (iC s 228 (x).toNat) < 8 by first | exact oq_aaea290e b1.2 | omega) (cbig_ok rfl) (wd_gen (fun s46 hs46 => ?_))))))
              have Is46 : Bd s46 := eqB hs46 (bd_C Is45 (show ((-2147483648) : Int) ≤ (iC s 233 ((iC s 228 (x).toNat)).toNat) ∧ (iC s 233 ((iC s 228 (x).toNat)).toNat) ≤ 2147483647 by first | exact ⟨b2.1, b2.2⟩ | omega) (rng_to _))
              have Fs46 := eqF hs46 (fm_C Fs45 (inl_ok (a := 233) rfl))
              have fs46 : Fm [] [233] s45 s46 := by rw [hs46]; exact fm_C (fm_rf _ _ _) (show 233 ∈ _ by decide)
              have JRLx_s46 : RLx s46 := RLx_fm fs46 (by decide) JRLx_s45
              refine z_aload_n X (x := A 179) rfl (List.Mem.tail _ (List.Mem.tail _ (List.Mem.tail _ (List.Mem.tail _ (List.Mem.head _))))) (s_getR X 179 rfl (c518_ok rfl) rfl rfl (z_load_n X (x := y) rfl (List.Mem.tail _ (List.Mem.tail _ (List.Mem.tail _ (List.Mem.tail _ (List.Mem.tail _ (List.Mem.tail _ (List.Mem.head _))))))) (z_load X (x := (iC s 233 (y).toNat)) rfl (List.Mem.tail _ (List.Mem.head _)) (z_ast X 261 rfl (c518_ok rfl) rfl (by first | exact p1.1 | omega) (show y < 8 by first | exact oq_aaea290e p1.2 | omega) (cbig_ok rfl) (wd_gen (fun s47 hs47 => ?_))))))
              have Is47 : Bd s47 := eqB hs47 (bd_C Is46 (show ((-2147483648) : Int) ≤ (iC s 233 (y).toNat) ∧ (iC s 233 (y).toNat) ≤ 2147483647 by first | exact ⟨b3.1, b3.2⟩ | omega) (rng_to _))
              have Fs47 := eqF hs47 (fm_C Fs46 (inl_ok (a := 233) rfl))
              have fs47 : Fm [] [233] s46 s47 := by rw [hs47]; exact fm_C (fm_rf _ _ _) (show 233 ∈ _ by decide)
              have JRLx_s47 : RLx s47 := RLx_fm fs47 (by decide) JRLx_s46
              exact w_vret X.1 q hRt (ax_d X (show cdA 255 160 = some (.return_, 1, 0, 0, 0) from rfl)) (Nat.zero_le _) (Nat.zero_le _) ⟨_, rfl, Is47, Fs47, JRLx_s47, rfl, trivial⟩
            ·
              refine z_aload_n X (x := A 179) rfl (List.Mem.tail _ (List.Mem.tail _ (List.Mem.tail _ (List.Mem.tail _ (List.Mem.head _))))) (z_load_n X (x := x) rfl (List.Mem.tail _ (List.Mem.tail _ (List.Mem.tail _ (List.Mem.tail _ (List.Mem.tail _ (List.Mem.head _)))))) (s_putI X 179 rfl (c518_ok rfl) rfl rfl (by decide) rfl rfl rfl (wd_gen (fun s48 hs48 => ?_))))
              have Is48 : Bd s48 := eqB hs48 (bd_I Is29 (show ((-1) : Int) ≤ x ∧ x ≤ 127 by first | exact ⟨oq_ca54ea22 p0.1, p0.2⟩ | omega) ⟨by first | exact oq_fa4e5087 p0.1 | omega, by first | exact oq_07d346ce p0.2 | omega⟩)
              have Fs48 := eqF hs48 (fm_I Gs29 (inl_ok (a := 92) rfl))
              have vs48 : iI s48 92 = x := eqI hs48 (iI_u ⟨by first | exact oq_fa4e5087 p0.1 | omega, by first | exact oq_07d346ce p0.2 | omega⟩)
              have fs48 : Fm [92] [] s29 s48 := by rw [hs48]; exact fm_I (fm_rf _ _ _) (show 92 ∈ _ by decide)
              have JRLx_s48 : RLx s48 := RLx_fm fs48 (by decide) JRLx_s29
              refine z_aload_n X (x := A 179) rfl (List.Mem.tail _ (List.Mem.tail _ (List.Mem.tail _ (List.Mem.tail _ (List.Mem.head _))))) (z_load_n X (x := y) rfl (List.Mem.tail _ (List.Mem.tail _ (List.Mem.tail _ (List.Mem.tail _ (List.Mem.tail _ (List.Mem.tail _ (List.Mem.head _))))))) (s_putI X 179 rfl (c518_ok rfl) rfl rfl (by decide) rfl rfl rfl (wd_gen (fun s49 hs49 => ?_))))
              have Is49 : Bd s49 := eqB hs49 (bd_I Is48 (show (0 : Int) ≤ y ∧ y ≤ 7 by first | exact ⟨p1.1, p1.2⟩ | omega) ⟨by first | exact oq_fa4e5087 p1.1 | omega, by first | exact oq_0e78ca7d p1.2 | omega⟩)
              have Fs49 := eqF hs49 (fm_I Fs48 (inl_ok (a := 93) rfl))
              have vs49 : iI s49 93 = y := eqI hs49 (iI_u ⟨by first | exact oq_fa4e5087 p1.1 | omega, by first | exact oq_0e78ca7d p1.2 | omega⟩)
              have fs49 : Fm [93] [] s48 s49 := by rw [hs49]; exact fm_I (fm_rf _ _ _) (show 93 ∈ _ by decide)
              have JRLx_s49 : RLx s49 := RLx_fm fs49 (by decide) JRLx_s48
              refine z_aload_n X (x := A 179) rfl (List.Mem.tail _ (List.Mem.tail _ (List.Mem.tail _ (List.Mem.tail _ (List.Mem.head _))))) (z_load X (x := e30) rfl (List.Mem.head _) (s_putI X 179 rfl (c518_ok rfl) rfl rfl (by decide) rfl rfl rfl (wd_gen (fun s50 hs50 => ?_))))
              have Is50 : Bd s50 := eqB hs50 (bd_I Is49 (show ((-2147483648) : Int) ≤ e30 ∧ e30 ≤ 2147483647 by first | exact ⟨by first | (clear g19 hps17 g13 hps11 g7 hps5 p2; omega) | (clear hps17 g13 hps11 g7 hps5 p2; omega) | omega, oq_ef392b12 g44 b43.2⟩ | omega) hrs29)
              have Fs50 := eqF hs50 (fm_I Fs49 (inl_ok (a := 94) rfl))
              have vs50 : iI s50 94 = e30 := eqI hs50 (iI_u hrs29)
              have fs50 : Fm [94] [] s49 s50 := by rw [hs50]; exact fm_I (fm_rf _ _ _) (show 94 ∈ _ by decide)
              have JRLx_s50 : RLx s50 := RLx_fm fs50 (by decide) JRLx_s49
              refine z_aload_n X (x := A 179) rfl (List.Mem.tail _ (List.Mem.tail _ (List.Mem.tail _ (List.Mem.tail _ (List.Mem.head _))))) (s_getR X 179 rfl (c518_ok rfl) rfl rfl (z_load_n X (x := x) rfl (List.Mem.tail _ (List.Mem.tail _ (List.Mem.tail _ (List.Mem.tail _ (List.Mem.tail _ (List.Mem.head _)))))) (z_load_n X (x := (iC s 228 (x).toNat)) rfl (List.Mem.tail _ (List.Mem.tail _ (List.Mem.tail _ (List.Mem.head _)))) (z_ast X 256 rfl (c518_ok rfl) rfl (by first | exact p0.1 | omega) (show x < 128 by first | exact oq_31b2bf10 p0.2 | omega) (cbig_ok rfl) (wd_gen (fun s51 hs51 => ?_))))))
              have Is51 : Bd s51 := eqB hs51 (bd_C Is50 (show ((-1) : Int) ≤ (iC s 228 (x).toNat) ∧ (iC s 228 (x).toNat) ≤ 7 by first | exact ⟨b1.1, b1.2⟩ | omega) (rng_to _))
              have Fs51 := eqF hs51 (fm_C Fs50 (inl_ok (a := 228) rfl))
              have fs51 : Fm [] [228] s50 s51 := by rw [hs51]; exact fm_C (fm_rf _ _ _) (show 228 ∈ _ by decide)
              have JRLx_s51 : RLx s51 := RLx_fm fs51 (by decide) JRLx_s50
              refine z_aload_n X (x := A 179) rfl (List.Mem.tail _ (List.Mem.tail _ (List.Mem.tail _ (List.Mem.tail _ (List.Mem.head _))))) (s_getR X 179 rfl (c518_ok rfl) rfl rfl (z_load_n X (x := (iC s 228 (x).toNat)) rfl (List.Mem.tail _ (List.Mem.tail _ (List.Mem.tail _ (List.Mem.head _)))) (z_load X (x := (iC s 233 ((iC s 228 (x).toNat)).toNat)) rfl (List.Mem.tail _ (List.Mem.tail _ (List.Mem.head _))) (z_ast X 261 rfl (c518_ok rfl) rfl (by first | exact oq_5234833b b1.1 p2 | omega) (show (iC s 228 (x).toNat) < 8 by first | exact oq_aaea290e b1.2 | omega) (cbig_ok rfl) (wd_gen (fun s52 hs52 => ?_))))))
              have Is52 : Bd s52 := eqB hs52 (bd_C Is51 (show ((-2147483648) : Int) ≤ (iC s 233 ((iC s 228 (x).toNat)).toNat) ∧ (iC s 233 ((iC s 228 (x).toNat)).toNat) ≤ 2147483647 by first | exact ⟨b2.1, b2.2⟩ | omega) (rng_to _))
              have Fs52 := eqF hs52 (fm_C Fs51 (inl_ok (a := 233) rfl))
              have fs52 : Fm [] [233] s51 s52 := by rw [hs52]; exact fm_C (fm_rf _ _ _) (show 233 ∈ _ by decide)
              have JRLx_s52 : RLx s52 := RLx_fm fs52 (by decide) JRLx_s51
              refine z_aload_n X (x := A 179) rfl (List.Mem.tail _ (List.Mem.tail _ (List.Mem.tail _ (List.Mem.tail _ (List.Mem.head _))))) (s_getR X 179 rfl (c518_ok rfl) rfl rfl (z_load_n X (x := y) rfl (List.Mem.tail _ (List.Mem.tail _ (List.Mem.tail _ (List.Mem.tail _ (List.Mem.tail _ (List.Mem.tail _ (List.Mem.head _))))))) (z_load X (x := (iC s 233 (y).toNat)) rfl (List.Mem.tail _ (List.Mem.head _)) (z_ast X 261 rfl (c518_ok rfl) rfl (by first | exact p1.1 | omega) (show y < 8 by first | exact oq_aaea290e p1.2 | omega) (cbig_ok rfl) (wd_gen (fun s53 hs53 => ?_))))))
              have Is53 : Bd s53 := eqB hs53 (bd_C Is52 (show ((-2147483648) : Int) ≤ (iC s 233 (y).toNat) ∧ (iC s 233 (y).toNat) ≤ 2147483647 by first | exact ⟨b3.1, b3.2⟩ | omega) (rng_to _))
              have Fs53 := eqF hs53 (fm_C Fs52 (inl_ok (a := 233) rfl))
              have fs53 : Fm [] [233] s52 s53 := by rw [hs53]; exact fm_C (fm_rf _ _ _) (show 233 ∈ _ by decide)
              have JRLx_s53 : RLx s53 := RLx_fm fs53 (by decide) JRLx_s52
              exact w_vret X.1 q hRt (ax_d X (show cdA 255 160 = some (.return_, 1, 0, 0, 0) from rfl)) (Nat.zero_le _) (Nat.zero_le _) ⟨_, rfl, Is53, Fs53, JRLx_s53, rfl, trivial⟩
set_option maxRecDepth 4000 in
theorem k_findMove (G : GX l s0 D tys a0 dT) (I : Bd s) (jRLx : RLx s)  : CT l s0 D A dT 254 (rmN 254) [.ref (A 179)] s (fun o t => Bd t ∧ Fm [77, 75, 78, 79, 80, 81, 92, 93, 94] [202, 204, 205, 206, 207, 208, 209, 210, 211, 212, 213, 214, 215, 216, 217, 218, 219, 220, 221, 222, 223, 224, 225, 226, 227, 203, 161, 230, 233, 231, 232, 228] s t ∧ RLx t ∧ o = .inl none ∧ (True)) := by
  refine ct_of G (by decide) (Nat.le_of_ble_eq_true rfl) (fun k X E hRt hXt q => ?_)
  show WS k 0 [(0, .ref (A 179))] [] _ 0 0
  have F : Fm [77, 75, 78, 79, 80, 81, 92, 93, 94] [202, 204, 205, 206, 207, 208, 209, 210, 211, 212, 213, 214, 215, 216, 217, 218, 219, 220, 221, 222, 223, 224, 225, 226, 227, 203, 161, 230, 233, 231, 232, 228] s s := fm_rf _ _ s
  have L45 : ∀ (n : Nat) (t : PS) (c p iz st0 : Int), Bd t → Fm [77, 75, 78, 79, 80, 81, 92, 93, 94] [202, 204, 205, 206, 207, 208, 209, 210, 211, 212, 213, 214, 215, 216, 217, 218, 219, 220, 221, 222, 223, 224, 225, 226, 227, 203, 161, 230, 233, 231, 232, 228] s t → RLx t → ((0 ≤ c ∧ c ≤ 127) ∧ (0 ≤ p ∧ p ≤ 7) ∧ (iz = 0 ∨ iz = 1) ∧ 0 ≤ st0 ∧ st0 ≤ 6 ∧ iC t 228 (c).toNat ≠ -1) → (6 - st0 : Int).toNat < n → (∀ (t' : PS) (iz' st0' : Int), Bd t' → Fm [77, 75, 78, 79, 80, 81, 92, 93, 94] [202, 204, 205, 206, 207, 208, 209, 210, 211, 212, 213, 214, 215, 216, 217, 218, 219, 220, 221, 222, 223, 224, 225, 226, 227, 203, 161, 230, 233, 231, 232, 228] s t' → RLx t' → ((0 ≤ c ∧ c ≤ 127) ∧ (0 ≤ p ∧ p ≤ 7) ∧ (iz' = 0 ∨ iz' = 1) ∧ 0 ≤ st0' ∧ st0' ≤ 6 ∧ iC t' 228 (c).toNat ≠ -1) → WS k 93 [(0, .ref (A 179)), (1, .int (Int32.ofInt c)), (2, .int (Int32.ofInt p)), (3, .int (Int32.ofInt iz')), (4, .int (Int32.ofInt st0'))] [] (Wd A dT t') 0 0) → WS k 45 [(0, .ref (A 179)), (1, .int (Int32.ofInt c)), (2, .int (Int32.ofInt p)), (3, .int (Int32.ofInt iz)), (4, .int (Int32.ofInt st0))] [] (Wd A dT t) 0 0 := by
    intro n
    induction n with
    | zero =>
      intro t c p iz st0 I F jjRLx hi hm kx
      exact absurd hm (Nat.not_lt_zero _)
    | succ n ih =>
      intro t c p iz st0 I F jjRLx hi hm kx
      refine z_load X (x := st0) rfl (List.Mem.tail _ (List.Mem.tail _ (List.Mem.tail _ (List.Mem.tail _ (List.Mem.head _))))) (z_bipush X rfl (z_icmp_ge X (t := 93) rfl rfl ⟨by first | exact oq_fa4e5087 hi.2.2.2.1 | omega, by first | exact oq_b301c3bf hi.2.2.2.2.1 | omega⟩ (by decide) (fun g1001 => ?_) (fun g1001 => ?_)))
      ·
        refine WS_pq [0, 1, 2, 3, 4] (lv' := [(0, .ref (A 179)), (1, .int (Int32.ofInt c)), (2, .int (Int32.ofInt p)), (3, .int (Int32.ofInt iz)), (4, .int (Int32.ofInt st0))]) rfl ?_
        exact kx _ iz st0 I F jjRLx (by first | exact ⟨And.intro (hi.1.1) (hi.1.2), And.intro (hi.2.1.1) (hi.2.1.2), hi.2.2.1, hi.2.2.2.1, hi.2.2.2.2.1, hi.2.2.2.2.2⟩ | omega)
      ·
        refine z_load_n X (x := iz) rfl (List.Mem.tail _ (List.Mem.tail _ (List.Mem.tail _ (List.Mem.head _)))) (z_if_ne X (t := 81) rfl rfl ⟨by first | exact oq_bde653e9 hi.2.2.1 | omega, by first | exact oq_4ad2cb8b hi.2.2.1 | omega⟩ (fun g1002 => ?_) (fun g1002 => ?_))
        ·
          refine z_const X rfl (z_goto X (t := 86) rfl rfl (z_store_n X (lv' := [(3, .int (Int32.ofInt 1)), (0, .ref (A 179)), (1, .int (Int32.ofInt c)), (2, .int (Int32.ofInt p)), (4, .int (Int32.ofInt st0))]) rfl (by decide) (fun _ h => h) (z_inc X (x := st0) (lv' := [(4, .int (Int32.ofInt (st0 + 1))), (3, .int (Int32.ofInt 1)), (0, .ref (A 179)), (1, .int (Int32.ofInt c)), (2, .int (Int32.ofInt p))]) rfl (by decide) (List.Mem.tail _ (List.Mem.tail _ (List.Mem.tail _ (List.Mem.tail _ (List.Mem.head _))))) (fun _ h => h) (z_goto X (t := 45) rfl rfl (WS_pq [2, 3, 4, 1, 0] (lv' := [(0, .ref (A 179)), (1, .int (Int32.ofInt c)), (2, .int (Int32.ofInt p)), (3, .int (Int32.ofInt 1)), (4, .int (Int32.ofInt (st0 + 1)))]) rfl ?_)))))
          exact ih _ c p 1 (st0 + 1) I F jjRLx (by first | exact ⟨And.intro (hi.1.1) (hi.1.2), And.intro (hi.2.1.1) (hi.2.1.2), Or.inr (by decide), oq_54f49eb5 hi.2.2.2.1, oq_5bf54478 g1001, hi.2.2.2.2.2⟩ | omega) (by first | exact qk_me hm (by decide) (oq_2265a080 g1001) | omega) kx
        ·
          refine z_load_n X (x := c) rfl (List.Mem.tail _ (List.Mem.head _)) (z_load X (x := st0) rfl (List.Mem.tail _ (List.Mem.tail _ (List.Mem.tail _ (List.Mem.tail _ (List.Mem.head _))))) (zcS_i0 X E (As := [.int (Int32.ofInt c), .int (Int32.ofInt st0)]) (st := []) rfl rfl (k_beside G I (by first | exact ⟨hi.1.1, hi.1.2⟩ | omega) (by first | exact ⟨hi.2.2.2.1, oq_a4cef127 g1001⟩ | omega)) rfl (Nat.le_of_ble_eq_true rfl) (fun s1003 e1004 Is1003 Fs1003 hrs1003 hps1003 => ?_)))
          have hps1003p := And.intro hps1003.2.1 (hps1003.2.2)
          have Gs1003 := fm_tq F Fs1003 rfl rfl
          have cw1005 : iC s1003 228 (c).toNat = iC t 228 (c).toNat := fm_c Fs1003 (by decide)
          have JRLx_s1003 : RLx s1003 := RLx_fm Fs1003 (by decide) jjRLx
          refine z_const X rfl (z_icmp_eq X (t := 85) rfl rfl hrs1003 (by decide) (fun g1006 => ?_) (fun g1006 => ?_))
          ·
            refine z_const X rfl (z_store_n X (lv' := [(3, .int (Int32.ofInt 0)), (0, .ref (A 179)), (1, .int (Int32.ofInt c)), (2, .int (Int32.ofInt p)), (4, .int (Int32.ofInt st0))]) rfl (by decide) (fun _ h => h) (z_inc X (x := st0) (lv' := [(4, .int (Int32.ofInt (st0 + 1))), (3, .int (Int32.ofInt 0)), (0, .ref (A 179)), (1, .int (Int32.ofInt c)), (2, .int (Int32.ofInt p))]) rfl (by decide) (List.Mem.tail _ (List.Mem.tail _ (List.Mem.tail _ (List.Mem.tail _ (List.Mem.head _))))) (fun _ h => h) (z_goto X (t := 45) rfl rfl (WS_pq [2, 3, 4, 1, 0] (lv' := [(0, .ref (A 179)), (1, .int (Int32.ofInt c)), (2, .int (Int32.ofInt p)), (3, .int (Int32.ofInt 0)), (4, .int (Int32.ofInt (st0 + 1)))]) rfl ?_))))
            exact ih _ c p 0 (st0 + 1) Is1003 Gs1003 JRLx_s1003 (by first | exact ⟨And.intro (hi.1.1) (hi.1.2), And.intro (hi.2.1.1) (hi.2.1.2), Or.inl (by decide), oq_54f49eb5 hi.2.2.2.1, oq_5bf54478 g1001, oq_975f6ea0 cw1005 hi.2.2.2.2.2⟩ | omega) (by first | exact qk_me hm (by decide) (oq_2265a080 g1001) | omega) kx
          ·
            refine z_aload_n X (x := A 179) rfl (List.Mem.head _) (s_getR X 179 rfl (c518_ok rfl) rfl rfl (z_load_n X (x := c) rfl (List.Mem.tail _ (List.Mem.head _)) (z_load X (x := st0) rfl (List.Mem.tail _ (List.Mem.tail _ (List.Mem.tail _ (List.Mem.tail _ (List.Mem.head _))))) (zcS_i0 X E (As := [.int (Int32.ofInt c), .int (Int32.ofInt st0)]) (st := [.ref (A 256)]) rfl rfl (k_beside G Is1003 (by first | exact ⟨hi.1.1, hi.1.2⟩ | omega) (by first | exact ⟨hi.2.2.2.1, oq_a4cef127 g1001⟩ | omega)) rfl (Nat.le_of_ble_eq_true rfl) (fun s1007 e1008 Is1007 Fs1007 hrs1007 hps1007 => ?_)))))
            have hps1007p := And.intro hps1007.2.1 (hps1007.2.2)
            have Gs1007 := fm_tq Gs1003 Fs1007 rfl rfl
            have cw1009 : iC s1007 228 (c).toNat = iC s1003 228 (c).toNat := fm_c Fs1007 (by decide)
            have JRLx_s1007 : RLx s1007 := RLx_fm Fs1007 (by decide) JRLx_s1003
            refine z_ald X 256 rfl (c518_ok rfl) rfl (by first | exact oq_5ccab359 hps1007.1 g1006 hps1003.2.2 hps1003.2.1 hps1003.1 hi.1.1 | omega) (show e1008 < 128 by first | exact oq_31b2bf10 hps1007.2.2 | omega) (cbig_ok rfl) ?_
            have b1010 := bc_228 Is1007 (show (e1008).toNat < 128 by first | exact oq_c7f4e9c1 hps1007.2.2 | omega)
            refine z_load_n X (x := p) rfl (List.Mem.tail _ (List.Mem.tail _ (List.Mem.head _))) ?_
            have N1011 : ∀ e1012 : Int, ((((iC s1007 228 (e1008).toNat) ≠ p) ∧ e1012 = 0) ∨ (((iC s1007 228 (e1008).toNat) = p) ∧ e1012 = 1)) → WS k 86 [(0, .ref (A 179)), (1, .int (Int32.ofInt c)), (2, .int (Int32.ofInt p)), (3, .int (Int32.ofInt iz)), (4, .int (Int32.ofInt st0))] [.int (Int32.ofInt e1012)] (Wd A dT s1007) 0 0 := by
              intro e1012 he1012
              have re1012 : 0 ≤ e1012 ∧ e1012 ≤ 1 := by first | (clear he1012 hps1007 g1006 hps1003; omega) | (clear hps1007 g1006 hps1003; omega) | omega
              refine z_store_n X (lv' := [(3, .int (Int32.ofInt e1012)), (0, .ref (A 179)), (1, .int (Int32.ofInt c)), (2, .int (Int32.ofInt p)), (4, .int (Int32.ofInt st0))]) rfl (by decide) (fun _ h => h) (z_inc X (x := st0) (lv' := [(4, .int (Int32.ofInt (st0 + 1))), (3, .int (Int32.ofInt e1012)), (0, .ref (A 179)), (1, .int (Int32.ofInt c)), (2, .int (Int32.ofInt p))]) rfl (by decide) (List.Mem.tail _ (List.Mem.tail _ (List.Mem.tail _ (List.Mem.tail _ (List.Mem.head _))))) (fun _ h => h) (z_goto X (t := 45) rfl rfl (WS_pq [2, 3, 4, 1, 0] (lv' := [(0, .ref (A 179)), (1, .int (Int32.ofInt c)), (2, .int (Int32.ofInt p)), (3, .int (Int32.ofInt e1012)), (4, .int (Int32.ofInt (st0 + 1)))]) rfl ?_)))
              exact ih _ c p e1012 (st0 + 1) Is1007 Gs1007 JRLx_s1007 (by first | exact ⟨And.intro (hi.1.1) (hi.1.2), And.intro (hi.2.1.1) (hi.2.1.2), oq_31e518ae re1012.2 re1012.1, oq_54f49eb5 hi.2.2.2.1, oq_5bf54478 g1001, oq_14c57661 cw1009 cw1005 hi.2.2.2.2.2⟩ | omega) (by first | exact qk_me hm (by decide) (oq_2265a080 g1001) | omega) kx
            refine z_icmp_ne X (t := 85) rfl rfl (rng_to _) ⟨by first | exact oq_fa4e5087 hi.2.1.1 | omega, by first | exact oq_0e78ca7d hi.2.1.2 | omega⟩ (fun g1013 => ?_) (fun g1013 => ?_)
            ·
              exact z_const X rfl (N1011 _ (Or.inl ⟨g1013, rfl⟩))
            ·
              exact z_const X rfl (z_goto X (t := 86) rfl rfl (N1011 _ (Or.inr (⟨g1013, rfl⟩))))
  have L24 : ∀ (n : Nat) (t : PS) (c p : Int), Bd t → Fm [77, 75, 78, 79, 80, 81, 92, 93, 94] [202, 204, 205, 206, 207, 208, 209, 210, 211, 212, 213, 214, 215, 216, 217, 218, 219, 220, 221, 222, 223, 224, 225, 226, 227, 203, 161, 230, 233, 231, 232, 228] s t → RLx t → ((0 ≤ c ∧ c ≤ 127) ∧ 0 ≤ p ∧ p ≤ 8) → (8 - p : Int).toNat < n → (∀ (t' : PS) (p' : Int), Bd t' → Fm [77, 75, 78, 79, 80, 81, 92, 93, 94] [202, 204, 205, 206, 207, 208, 209, 210, 211, 212, 213, 214, 215, 216, 217, 218, 219, 220, 221, 222, 223, 224, 225, 226, 227, 203, 161, 230, 233, 231, 232, 228] s t' → RLx t' → ((0 ≤ c ∧ c ≤ 127) ∧ 0 ≤ p' ∧ p' ≤ 8) → WS k 119 [(0, .ref (A 179)), (1, .int (Int32.ofInt c)), (2, .int (Int32.ofInt p'))] [] (Wd A dT t') 0 0) → WS k 24 [(0, .ref (A 179)), (1, .int (Int32.ofInt c)), (2, .int (Int32.ofInt p))] [] (Wd A dT t) 0 0 := by
    intro n
    induction n with
    | zero =>
      intro t c p I F jjRLx hi hm kx
      exact absurd hm (Nat.not_lt_zero _)
    | succ n ih =>
      intro t c p I F jjRLx hi hm kx
      refine z_load_n X (x := p) rfl (List.Mem.tail _ (List.Mem.tail _ (List.Mem.head _))) (z_bipush X rfl (z_icmp_ge X (t := 119) rfl rfl ⟨by first | exact oq_fa4e5087 hi.2.1 | omega, by first | exact oq_d3f5d874 hi.2.2 | omega⟩ (by decide) (fun g2001 => ?_) (fun g2001 => ?_)))
      ·
        refine WS_pq [0, 1, 2] (lv' := [(0, .ref (A 179)), (1, .int (Int32.ofInt c)), (2, .int (Int32.ofInt p))]) rfl ?_
        exact kx _ p I F jjRLx (by first | exact ⟨And.intro (hi.1.1) (hi.1.2), hi.2.1, hi.2.2⟩ | omega)
      ·
        refine z_aload_n X (x := A 179) rfl (List.Mem.head _) (s_getR X 179 rfl (c518_ok rfl) rfl rfl (z_load_n X (x := c) rfl (List.Mem.tail _ (List.Mem.head _)) (z_ald X 256 rfl (c518_ok rfl) rfl (by first | exact hi.1.1 | omega) (show c < 128 by first | exact oq_31b2bf10 hi.1.2 | omega) (cbig_ok rfl) ?_)))
        have b2002 := bc_228 I (show (c).toNat < 128 by first | exact oq_c7f4e9c1 hi.1.2 | omega)
        refine z_const X rfl (z_icmp_eq X (t := 119) rfl rfl (rng_to _) (by decide) (fun g2003 => ?_) (fun g2003 => ?_))
        ·
          refine WS_pq [0, 1, 2] (lv' := [(0, .ref (A 179)), (1, .int (Int32.ofInt c)), (2, .int (Int32.ofInt p))]) rfl ?_
          exact kx _ p I F jjRLx (by first | exact ⟨And.intro (hi.1.1) (hi.1.2), hi.2.1, hi.2.2⟩ | omega)
        ·
          refine z_const X rfl (z_store_n X (lv' := [(3, .int (Int32.ofInt 0)), (0, .ref (A 179)), (1, .int (Int32.ofInt c)), (2, .int (Int32.ofInt p))]) rfl (by decide) (fun _ h => h) (z_const X rfl (z_store X (lv' := [(4, .int (Int32.ofInt 0)), (3, .int (Int32.ofInt 0)), (0, .ref (A 179)), (1, .int (Int32.ofInt c)), (2, .int (Int32.ofInt p))]) rfl (by decide) (fun _ h => h) (WS_pq [2, 3, 4, 1, 0] (lv' := [(0, .ref (A 179)), (1, .int (Int32.ofInt c)), (2, .int (Int32.ofInt p)), (3, .int (Int32.ofInt 0)), (4, .int (Int32.ofInt 0))]) rfl (L45 ((6 - 0 : Int).toNat + 1) t c p 0 0 I F jjRLx (by first | exact ⟨And.intro (hi.1.1) (hi.1.2), And.intro (hi.2.1) (oq_78c639ed g2001), Or.inl (by decide), by decide, by decide, g2003⟩ | omega) (Nat.lt_succ_self _) ?_)))))
          intro s2004 x2005 x2006 Is2004 Fs2004 JRLx_s2004 hs2004
          refine z_load_n X (x := x2005) rfl (List.Mem.tail _ (List.Mem.tail _ (List.Mem.tail _ (List.Mem.head _)))) (z_if_eq X (t := 113) rfl rfl ⟨by first | exact oq_bde653e9 hs2004.2.2.1 | omega, by first | exact oq_4ad2cb8b hs2004.2.2.1 | omega⟩ (fun g2007 => ?_) (fun g2007 => ?_))
          ·
            refine z_inc X (x := p) (lv' := [(2, .int (Int32.ofInt (p + 1))), (0, .ref (A 179)), (1, .int (Int32.ofInt c)), (3, .int (Int32.ofInt x2005)), (4, .int (Int32.ofInt x2006))]) rfl (by decide) (List.Mem.tail _ (List.Mem.tail _ (List.Mem.head _))) (fun _ h => h) (z_goto X (t := 24) rfl rfl (WS_pq [1, 2, 0] (lv' := [(0, .ref (A 179)), (1, .int (Int32.ofInt c)), (2, .int (Int32.ofInt (p + 1)))]) rfl ?_))
            exact ih _ c (p + 1) Is2004 Fs2004 JRLx_s2004 (by first | exact ⟨And.intro (hs2004.1.1) (hs2004.1.2), oq_54f49eb5 hs2004.2.1.1, oq_18969492 hs2004.2.1.2⟩ | omega) (by first | exact qk_me hm (by decide) (oq_6bd25173 hs2004.2.1.2) | omega) kx
          ·
            refine z_load_n X (x := p) rfl (List.Mem.tail _ (List.Mem.tail _ (List.Mem.head _))) (z_aload_n X (x := A 179) rfl (List.Mem.head _) (s_getR X 179 rfl (c518_ok rfl) rfl rfl (z_load_n X (x := c) rfl (List.Mem.tail _ (List.Mem.head _)) (z_ald X 256 rfl (c518_ok rfl) rfl (by first | exact hs2004.1.1 | omega) (show c < 128 by first | exact oq_31b2bf10 hs2004.1.2 | omega) (cbig_ok rfl) ?_))))
            have b2008 := bc_228 Is2004 (show (c).toNat < 128 by first | exact oq_c7f4e9c1 hs2004.1.2 | omega)
            refine z_icmp_eq X (t := 113) rfl rfl ⟨by first | exact oq_fa4e5087 hs2004.2.1.1 | omega, by first | exact oq_0e78ca7d hs2004.2.1.2 | omega⟩ (rng_to _) (fun g2009 => ?_) (fun g2009 => ?_)
            ·
              refine z_inc X (x := p) (lv' := [(2, .int (Int32.ofInt (p + 1))), (0, .ref (A 179)), (1, .int (Int32.ofInt c)), (3, .int (Int32.ofInt x2005)), (4, .int (Int32.ofInt x2006))]) rfl (by decide) (List.Mem.tail _ (List.Mem.tail _ (List.Mem.head _))) (fun _ h => h) (z_goto X (t := 24) rfl rfl (WS_pq [1, 2, 0] (lv' := [(0, .ref (A 179)), (1, .int (Int32.ofInt c)), (2, .int (Int32.ofInt (p + 1)))]) rfl ?_))
              exact ih _ c (p + 1) Is2004 Fs2004 JRLx_s2004 (by first | exact ⟨And.intro (hs2004.1.1) (hs2004.1.2), oq_54f49eb5 hs2004.2.1.1, oq_18969492 hs2004.2.1.2⟩ | omega) (by first | exact qk_me hm (by decide) (oq_6bd25173 hs2004.2.1.2) | omega) kx
            ·
              refine z_aload_n X (x := A 179) rfl (List.Mem.head _) (z_load_n X (x := c) rfl (List.Mem.tail _ (List.Mem.head _)) (z_load_n X (x := p) rfl (List.Mem.tail _ (List.Mem.tail _ (List.Mem.head _))) (zcV_v1 X E 179 (As := [.int (Int32.ofInt c), .int (Int32.ofInt p)]) (st := []) rfl rfl rfl rfl (k_tries G Is2004 JRLx_s2004 (by first | exact ⟨hs2004.1.1, hs2004.1.2⟩ | omega) (by first | exact ⟨hs2004.2.1.1, hs2004.2.1.2⟩ | omega) (by first | exact hs2004.2.2.2.2.2 | omega)) rfl (Nat.le_of_ble_eq_true rfl) (fun s2010 Is2010 Fs2010 JRLx_s2010 hps2010 => ?_))))
              have Gs2010 := fm_tq Fs2004 Fs2010 rfl rfl
              have JRLx_s2010 : RLx s2010 := RLx_fm Fs2010 (by decide) JRLx_s2004
              refine z_inc X (x := p) (lv' := [(2, .int (Int32.ofInt (p + 1))), (0, .ref (A 179)), (1, .int (Int32.ofInt c)), (3, .int (Int32.ofInt x2005)), (4, .int (Int32.ofInt x2006))]) rfl (by decide) (List.Mem.tail _ (List.Mem.tail _ (List.Mem.head _))) (fun _ h => h) (z_goto X (t := 24) rfl rfl (WS_pq [1, 2, 0] (lv' := [(0, .ref (A 179)), (1, .int (Int32.ofInt c)), (2, .int (Int32.ofInt (p + 1)))]) rfl ?_))
              exact ih _ c (p + 1) Is2010 Gs2010 JRLx_s2010 (by first | exact ⟨And.intro (hs2004.1.1) (hs2004.1.2), oq_54f49eb5 hs2004.2.1.1, oq_18969492 hs2004.2.1.2⟩ | omega) (by first | exact qk_me hm (by decide) (oq_6bd25173 hs2004.2.1.2) | omega) kx
  have L15 : ∀ (n : Nat) (t : PS) (c : Int), Bd t → Fm [77, 75, 78, 79, 80, 81, 92, 93, 94] [202, 204, 205, 206, 207, 208, 209, 210, 211, 212, 213, 214, 215, 216, 217, 218, 219, 220, 221, 222, 223, 224, 225, 226, 227, 203, 161, 230, 233, 231, 232, 228] s t → RLx t → (0 ≤ c ∧ c ≤ 128) → (128 - c : Int).toNat < n → (∀ (t' : PS) (c' : Int), Bd t' → Fm [77, 75, 78, 79, 80, 81, 92, 93, 94] [202, 204, 205, 206, 207, 208, 209, 210, 211, 212, 213, 214, 215, 216, 217, 218, 219, 220, 221, 222, 223, 224, 225, 226, 227, 203, 161, 230, 233, 231, 232, 228] s t' → RLx t' → (0 ≤ c' ∧ c' ≤ 128) → WS k 125 [(0, .ref (A 179)), (1, .int (Int32.ofInt c'))] [] (Wd A dT t') 0 0) → WS k 15 [(0, .ref (A 179)), (1, .int (Int32.ofInt c))] [] (Wd A dT t) 0 0 := by
    intro n
    induction n with
    | zero =>
      intro t c I F jjRLx hi hm kx
      exact absurd hm (Nat.not_lt_zero _)
    | succ n ih =>
      intro t c I F jjRLx hi hm kx
      refine z_load_n X (x := c) rfl (List.Mem.tail _ (List.Mem.head _)) (z_sipush X rfl (z_icmp_ge X (t := 125) rfl rfl ⟨by first | exact oq_fa4e5087 hi.1 | omega, by first | exact oq_4ee82282 hi.2 | omega⟩ (by decide) (fun g3001 => ?_) (fun g3001 => ?_)))
      ·
        refine WS_pq [0, 1] (lv' := [(0, .ref (A 179)), (1, .int (Int32.ofInt c))]) rfl ?_
        exact kx _ c I F jjRLx (by first | exact ⟨hi.1, hi.2⟩ | omega)
      ·
        refine z_const X rfl (z_store_n X (lv' := [(2, .int (Int32.ofInt 0)), (0, .ref (A 179)), (1, .int (Int32.ofInt c))]) rfl (by decide) (fun _ h => h) (WS_pq [1, 2, 0] (lv' := [(0, .ref (A 179)), (1, .int (Int32.ofInt c)), (2, .int (Int32.ofInt 0))]) rfl (L24 ((8 - 0 : Int).toNat + 1) t c 0 I F jjRLx (by first | exact ⟨And.intro (hi.1) (oq_04367f15 g3001), by decide, by decide⟩ | omega) (Nat.lt_succ_self _) ?_)))
        intro s3002 x3003 Is3002 Fs3002 JRLx_s3002 hs3002
        refine z_inc X (x := c) (lv' := [(1, .int (Int32.ofInt (c + 1))), (0, .ref (A 179)), (2, .int (Int32.ofInt x3003))]) rfl (by decide) (List.Mem.tail _ (List.Mem.head _)) (fun _ h => h) (z_goto X (t := 15) rfl rfl (WS_pq [1, 0] (lv' := [(0, .ref (A 179)), (1, .int (Int32.ofInt (c + 1)))]) rfl ?_))
        exact ih _ (c + 1) Is3002 Fs3002 JRLx_s3002 (by first | exact ⟨oq_54f49eb5 hs3002.1.1, oq_e4399267 hs3002.1.2⟩ | omega) (by first | exact qk_me hm (by decide) (oq_7e05e720 hs3002.1.2) | omega) kx
  refine z_aload_n X (x := A 179) rfl (List.Mem.head _) (z_const X rfl (s_putI X 179 rfl (c518_ok rfl) rfl rfl (by decide) rfl rfl rfl (wd_gen (fun s1 hs1 => ?_))))
  have Is1 : Bd s1 := eqB hs1 (bd_I I (show ((-1) : Int) ≤ (-1) ∧ (-1) ≤ 127 by first | exact ⟨by decide, by decide⟩ | omega) (by decide))
  have Fs1 := eqF hs1 (fm_I F (inl_ok (a := 92) rfl))
  have vs1 : iI s1 92 = (-1) := eqI hs1 (iI_u (by decide))
  have fs1 : Fm [92] [] s s1 := by rw [hs1]; exact fm_I (fm_rf _ _ _) (show 92 ∈ _ by decide)
  have JRLx_s1 : RLx s1 := RLx_fm fs1 (by decide) jRLx
  refine z_aload_n X (x := A 179) rfl (List.Mem.head _) (z_aload_n X (x := A 179) rfl (List.Mem.head _) (zcV_i1 X E 179 (As := []) (st := [.ref (A 179)]) rfl rfl rfl rfl (k_costOf G Is1 JRLx_s1 ) rfl (Nat.le_of_ble_eq_true rfl) (fun s2 e3 Is2 Fs2 JRLx_s2 hrs2 hps2 => ?_)))
  have Gs2 := fm_tq Fs1 Fs2 rfl rfl
  have JRLx_s2 : RLx s2 := RLx_fm Fs2 (by decide) JRLx_s1
  refine s_putI X 179 rfl (c518_ok rfl) rfl rfl (by decide) rfl rfl rfl (wd_gen (fun s4 hs4 => ?_))
  have Is4 : Bd s4 := eqB hs4 (bd_I Is2 (show ((-2147483648) : Int) ≤ e3 ∧ e3 ≤ 2147483647 by omega) hrs2)
  have Fs4 := eqF hs4 (fm_I Gs2 (inl_ok (a := 94) rfl))
  have vs4 : iI s4 94 = e3 := eqI hs4 (iI_u hrs2)
  have fs4 : Fm [94] [] s2 s4 := by rw [hs4]; exact fm_I (fm_rf _ _ _) (show 94 ∈ _ by decide)
  have JRLx_s4 : RLx s4 := RLx_fm fs4 (by decide) JRLx_s2
  refine z_const X rfl (z_store_n X (lv' := [(1, .int (Int32.ofInt 0)), (0, .ref (A 179))]) rfl (by decide) (fun _ h => h) (WS_pq [1, 0] (lv' := [(0, .ref (A 179)), (1, .int (Int32.ofInt 0))]) rfl (L15 ((128 - 0 : Int).toNat + 1) s4 0 Is4 Fs4 JRLx_s4 (by first | exact ⟨by decide, by decide⟩ | omega) (Nat.lt_succ_self _) ?_)))
  intro s5 x6 Is5 Fs5 JRLx_s5 hs5
  exact w_vret X.1 q hRt (ax_d X (show cdA 254 125 = some (.return_, 1, 0, 0, 0) from rfl)) (Nat.zero_le _) (Nat.zero_le _) ⟨_, rfl, Is5, Fs5, JRLx_s5, rfl, trivial⟩
set_option maxRecDepth 4000 in
theorem k_better (G : GX l s0 D tys a0 dT) (I : Bd s) (jRLx : RLx s) {x : Int} (p0 : rng x) : CT l s0 D A dT 256 (rmN 256) [.ref (A 179), .int (Int32.ofInt x)] s (fun o t => Bd t ∧ Fm [73, 77, 75, 78, 79, 80, 81, 92, 93, 94] [202, 204, 205, 206, 207, 208, 209, 210, 211, 212, 213, 214, 215, 216, 217, 218, 219, 220, 221, 222, 223, 224, 225, 226, 227, 203, 161, 230, 233, 231, 232, 228] s t ∧ RLx t ∧ ∃ e, o = .inl (some (.int (Int32.ofInt e))) ∧ rng e ∧ (True)) := by
  refine ct_of G (by decide) (Nat.le_of_ble_eq_true rfl) (fun k X E hRt hXt q => ?_)
  show WS k 0 [(0, .ref (A 179)), (1, .int (Int32.ofInt x))] [] _ 0 0
  have F : Fm [73, 77, 75, 78, 79, 80, 81, 92, 93, 94] [202, 204, 205, 206, 207, 208, 209, 210, 211, 212, 213, 214, 215, 216, 217, 218, 219, 220, 221, 222, 223, 224, 225, 226, 227, 203, 161, 230, 233, 231, 232, 228] s s := fm_rf _ _ s
  have b1 := bi_73 I
  refine z_aload_n X (x := A 179) rfl (List.Mem.head _) (z_const X rfl (s_putI X 179 rfl (c518_ok rfl) rfl rfl (by decide) rfl rfl rfl (wd_gen (fun s2 hs2 => ?_))))
  have Is2 : Bd s2 := eqB hs2 (bd_I I (show (0 : Int) ≤ 0 ∧ 0 ≤ 3 by first | exact ⟨by decide, by decide⟩ | omega) (by decide))
  have Fs2 := eqF hs2 (fm_I F (inl_ok (a := 73) rfl))
  have vs2 : iI s2 73 = 0 := eqI hs2 (iI_u (by decide))
  have fs2 : Fm [73] [] s s2 := by rw [hs2]; exact fm_I (fm_rf _ _ _) (show 73 ∈ _ by decide)
  have JRLx_s2 : RLx s2 := RLx_fm fs2 (by decide) jRLx
  refine z_aload_n X (x := A 179) rfl (List.Mem.head _) (z_load_n X (x := x) rfl (List.Mem.tail _ (List.Mem.head _)) (z_const X rfl (z_const X rfl (zcS_i0 X E (As := [.int (Int32.ofInt x), .int (Int32.ofInt 0), .int (Int32.ofInt 2)]) (st := [.ref (A 179)]) rfl rfl (k_in G Is2 (by first | exact ⟨p0.1, p0.2⟩ | omega) (by first | exact ⟨by decide, by decide⟩ | omega) (by first | exact ⟨by decide, by decide⟩ | omega)) rfl (Nat.le_of_ble_eq_true rfl) (fun s3 e4 Is3 Fs3 hrs3 hps3 => ?_)))))
  have Gs3 := fm_tq Fs2 Fs3 rfl rfl
  have JRLx_s3 : RLx s3 := RLx_fm Fs3 (by decide) JRLx_s2
  have ws3_73 : iI s3 73 = iI s2 73 := fm_iq Fs3 rfl
  have N5 : ∀ e6 : Int, (((e4 ≠ 0) ∧ e6 = 0) ∨ ((e4 = 0) ∧ e6 = 1)) → WS k 20 [(0, .ref (A 179)), (1, .int (Int32.ofInt x))] [.int (Int32.ofInt e6), .ref (A 179)] (Wd A dT s3) 0 0 := by
    intro e6 he6
    have re6 : 0 ≤ e6 ∧ e6 ≤ 1 := by first | (clear he6 hps3; omega) | (clear hps3; omega) | omega
    refine z_const X rfl (zcV_i0 X E 179 (As := [.int (Int32.ofInt e6), .int (Int32.ofInt 1)]) (st := []) rfl rfl rfl rfl (k_bad G Is3 (by first | exact oq_31e518ae re6.2 re6.1 | omega) (by first | exact ⟨by decide, by decide⟩ | omega)) rfl (Nat.le_of_ble_eq_true rfl) (fun s7 e8 Is7 Fs7 hrs7 hps7 => ?_))
    have Gs7 := fm_tq Gs3 Fs7 rfl rfl
    have JRLx_s7 : RLx s7 := RLx_fm Fs7 (by decide) JRLx_s3
    have b9 := bi_73 Is7
    refine z_if_eq X (t := 29) rfl rfl hrs7 (fun g10 => ?_) (fun g10 => ?_)
    ·
      refine z_aload_n X (x := A 179) rfl (List.Mem.head _) (zcV_v1 X E 179 (As := []) (st := []) rfl rfl rfl rfl (k_findMove G Is7 JRLx_s7 ) rfl (Nat.le_of_ble_eq_true rfl) (fun s11 Is11 Fs11 JRLx_s11 hps11 => ?_))
      have Gs11 := fm_tq Gs7 Fs11 rfl rfl
      have JRLx_s11 : RLx s11 := RLx_fm Fs11 (by decide) JRLx_s7
      have ws11_73 : iI s11 73 = iI s7 73 := fm_iq Fs11 rfl
      refine z_aload_n X (x := A 179) rfl (List.Mem.head _) (z_getI X 179 rfl (c518_ok rfl) rfl rfl ?_)
      have b13 := bi_92 Is11
      refine z_const X rfl ?_
      have N14 : ∀ e15 : Int, ((((iI s11 92) ≠ (-1)) ∧ (x ≠ 0) ∧ (x ≠ 1) ∧ (((-2147483648) : Int) ≤ iI s11 94 ∧ iI s11 94 ≤ 2147483647) ∧ e15 = (iI s11 94)) ∨ (((iI s11 92) ≠ (-1)) ∧ (x ≠ 0) ∧ (x = 1) ∧ ((0 : Int) ≤ iI s11 93 ∧ iI s11 93 ≤ 7) ∧ e15 = (iI s11 93)) ∨ (((iI s11 92) ≠ (-1)) ∧ (x = 0) ∧ (((-1) : Int) ≤ iI s11 92 ∧ iI s11 92 ≤ 127) ∧ e15 = (iI s11 92)) ∨ (((iI s11 92) = (-1)) ∧ e15 = (-1))) → WS k 72 [(0, .ref (A 179)), (1, .int (Int32.ofInt x))] [.int (Int32.ofInt e15)] (Wd A dT s11) 0 0 := by
        intro e15 he15
        exact w_iret X.1 q hRt rfl (ax_d X (show cdA 256 72 = some (.ireturn, 1, 0, 0, 0) from rfl)) (Nat.zero_le _) (Nat.zero_le _) ⟨_, rfl, Is11, Gs11, JRLx_s11, e15, rfl, ⟨by first | exact oq_9c9def6c he15 b13.1 | omega, by first | exact oq_659a582c he15 b13.2 | omega⟩, trivial⟩
      refine z_icmp_ne X (t := 45) rfl rfl (rng_to _) (by decide) (fun g16 => ?_) (fun g16 => ?_)
      ·
        refine z_load_n X (x := x) rfl (List.Mem.tail _ (List.Mem.head _)) (z_if_ne X (t := 56) rfl rfl ⟨by first | exact p0.1 | omega, by first | exact p0.2 | omega⟩ (fun g17 => ?_) (fun g17 => ?_))
        ·
          refine z_load_n X (x := x) rfl (List.Mem.tail _ (List.Mem.head _)) (z_const X rfl (z_icmp_ne X (t := 68) rfl rfl ⟨by first | exact p0.1 | omega, by first | exact p0.2 | omega⟩ (by decide) (fun g18 => ?_) (fun g18 => ?_)))
          ·
            refine z_aload_n X (x := A 179) rfl (List.Mem.head _) (z_getI X 179 rfl (c518_ok rfl) rfl rfl ?_)
            have b19 := bi_94 Is11
            exact N14 _ (Or.inl ⟨g16, g17, g18, b19, rfl⟩)
          ·
            refine z_aload_n X (x := A 179) rfl (List.Mem.head _) (z_getI X 179 rfl (c518_ok rfl) rfl rfl ?_)
            have b20 := bi_93 Is11
            exact z_goto X (t := 72) rfl rfl (N14 _ (Or.inr (Or.inl ⟨g16, g17, g18, b20, rfl⟩)))
        ·
          refine z_aload_n X (x := A 179) rfl (List.Mem.head _) (z_getI X 179 rfl (c518_ok rfl) rfl rfl ?_)
          have b21 := bi_92 Is11
          exact z_goto X (t := 72) rfl rfl (N14 _ (Or.inr (Or.inr (Or.inl ⟨g16, g17, b21, rfl⟩))))
      ·
        exact z_const X rfl (z_goto X (t := 72) rfl rfl (N14 _ (Or.inr (Or.inr (Or.inr (⟨g16, rfl⟩))))))
    ·
      refine z_const X rfl ?_
      exact w_iret X.1 q hRt rfl (ax_d X (show cdA 256 28 = some (.ireturn, 1, 0, 0, 0) from rfl)) (Nat.zero_le _) (Nat.zero_le _) ⟨_, rfl, Is7, Gs7, JRLx_s7, 0, rfl, (by decide), trivial⟩
  refine z_if_ne X (t := 19) rfl rfl hrs3 (fun g22 => ?_) (fun g22 => ?_)
  ·
    exact z_const X rfl (N5 _ (Or.inl ⟨g22, rfl⟩))
  ·
    exact z_const X rfl (z_goto X (t := 20) rfl rfl (N5 _ (Or.inr (⟨g22, rfl⟩))))
set_option maxRecDepth 4000 in
theorem k_grow (G : GX l s0 D tys a0 dT) (I : Bd s) (jRLx : RLx s) {x : Int} (p0 : rng x) : CT l s0 D A dT 257 (rmN 257) [.ref (A 179), .int (Int32.ofInt x)] s (fun o t => Bd t ∧ Fm [73, 77, 75, 78, 79, 80, 81, 92, 93, 94] [202, 204, 205, 206, 207, 208, 209, 210, 211, 212, 213, 214, 215, 216, 217, 218, 219, 220, 221, 222, 223, 224, 225, 226, 227, 203, 161, 230, 233, 231, 232, 228] s t ∧ RLx t ∧ ∃ e, o = .inl (some (.int (Int32.ofInt e))) ∧ rng e ∧ (True)) := by
  refine ct_of G (by decide) (Nat.le_of_ble_eq_true rfl) (fun k X E hRt hXt q => ?_)
  show WS k 0 [(0, .ref (A 179)), (1, .int (Int32.ofInt x))] [] _ 0 0
  have F : Fm [73, 77, 75, 78, 79, 80, 81, 92, 93, 94] [202, 204, 205, 206, 207, 208, 209, 210, 211, 212, 213, 214, 215, 216, 217, 218, 219, 220, 221, 222, 223, 224, 225, 226, 227, 203, 161, 230, 233, 231, 232, 228] s s := fm_rf _ _ s
  have b1 := bi_73 I
  have L32 : ∀ (n : Nat) (t : PS) (xv ka : Int), Bd t → Fm [73, 77, 75, 78, 79, 80, 81, 92, 93, 94] [202, 204, 205, 206, 207, 208, 209, 210, 211, 212, 213, 214, 215, 216, 217, 218, 219, 220, 221, 222, 223, 224, 225, 226, 227, 203, 161, 230, 233, 231, 232, 228] s t → RLx t → ((0 ≤ xv ∧ xv ≤ 20) ∧ 0 ≤ ka ∧ ka ≤ 20) → (20 - ka : Int).toNat < n → (∀ (t' : PS) (ka' : Int), Bd t' → Fm [73, 77, 75, 78, 79, 80, 81, 92, 93, 94] [202, 204, 205, 206, 207, 208, 209, 210, 211, 212, 213, 214, 215, 216, 217, 218, 219, 220, 221, 222, 223, 224, 225, 226, 227, 203, 161, 230, 233, 231, 232, 228] s t' → RLx t' → ((0 ≤ xv ∧ xv ≤ 20) ∧ 0 ≤ ka' ∧ ka' ≤ 20) → WS k 70 [(0, .ref (A 179)), (1, .int (Int32.ofInt xv)), (2, .int (Int32.ofInt ka'))] [] (Wd A dT t') 0 0) → WS k 32 [(0, .ref (A 179)), (1, .int (Int32.ofInt xv)), (2, .int (Int32.ofInt ka))] [] (Wd A dT t) 0 0 := by
    intro n
    induction n with
    | zero =>
      intro t xv ka I F jjRLx hi hm kx
      exact absurd hm (Nat.not_lt_zero _)
    | succ n ih =>
      intro t xv ka I F jjRLx hi hm kx
      have b1001 := bi_73 I
      refine z_load_n X (x := ka) rfl (List.Mem.tail _ (List.Mem.tail _ (List.Mem.head _))) (z_load_n X (x := xv) rfl (List.Mem.tail _ (List.Mem.head _)) (z_icmp_ge X (t := 70) rfl rfl ⟨by first | exact oq_fa4e5087 hi.2.1 | omega, by first | exact oq_d1028203 hi.2.2 | omega⟩ ⟨by first | exact oq_fa4e5087 hi.1.1 | omega, by first | exact oq_d1028203 hi.1.2 | omega⟩ (fun g1002 => ?_) (fun g1002 => ?_)))
      ·
        refine WS_pq [0, 1, 2] (lv' := [(0, .ref (A 179)), (1, .int (Int32.ofInt xv)), (2, .int (Int32.ofInt ka))]) rfl ?_
        exact kx _ ka I F jjRLx (by first | exact ⟨And.intro (hi.1.1) (hi.1.2), hi.2.1, hi.2.2⟩ | omega)
      ·
        refine z_aload_n X (x := A 179) rfl (List.Mem.head _) (zcV_v1 X E 179 (As := []) (st := []) rfl rfl rfl rfl (k_findMove G I jjRLx ) rfl (Nat.le_of_ble_eq_true rfl) (fun s1003 Is1003 Fs1003 JRLx_s1003 hps1003 => ?_))
        have Gs1003 := fm_tq F Fs1003 rfl rfl
        have JRLx_s1003 : RLx s1003 := RLx_fm Fs1003 (by decide) jjRLx
        have ws1003_73 : iI s1003 73 = iI t 73 := fm_iq Fs1003 rfl
        refine z_aload_n X (x := A 179) rfl (List.Mem.head _) (z_getI X 179 rfl (c518_ok rfl) rfl rfl ?_)
        have b1005 := bi_92 Is1003
        refine z_const X rfl (z_icmp_ne X (t := 51) rfl rfl (rng_to _) (by decide) (fun g1006 => ?_) (fun g1006 => ?_))
        ·
          refine z_aload_n X (x := A 179) rfl (List.Mem.head _) (s_getR X 179 rfl (c518_ok rfl) rfl rfl (z_aload_n X (x := A 179) rfl (List.Mem.head _) (z_getI X 179 rfl (c518_ok rfl) rfl rfl ?_)))
          have b1007 := bi_92 Is1003
          refine z_aload_n X (x := A 179) rfl (List.Mem.head _) (z_getI X 179 rfl (c518_ok rfl) rfl rfl ?_)
          have b1008 := bi_93 Is1003
          refine z_ast X 256 rfl (c518_ok rfl) rfl (by first | exact oq_5234833b b1007.1 g1006 | omega) (show (iI s1003 92) < 128 by first | exact oq_31b2bf10 b1007.2 | omega) (cbig_ok rfl) (wd_gen (fun s1009 hs1009 => ?_))
          have Is1009 : Bd s1009 := eqB hs1009 (bd_C Is1003 (show ((-1) : Int) ≤ (iI s1003 93) ∧ (iI s1003 93) ≤ 7 by first | exact ⟨oq_ca54ea22 b1008.1, b1008.2⟩ | omega) (rng_to _))
          have Fs1009 := eqF hs1009 (fm_C Gs1003 (inl_ok (a := 228) rfl))
          have ws1009_73 : iI s1009 73 = iI s1003 73 := eqI hs1009 rfl
          have fs1009 : Fm [] [228] s1003 s1009 := by rw [hs1009]; exact fm_C (fm_rf _ _ _) (show 228 ∈ _ by decide)
          have JRLx_s1009 : RLx s1009 := RLx_fm fs1009 (by decide) JRLx_s1003
          refine z_inc X (x := ka) (lv' := [(2, .int (Int32.ofInt (ka + 1))), (0, .ref (A 179)), (1, .int (Int32.ofInt xv))]) rfl (by decide) (List.Mem.tail _ (List.Mem.tail _ (List.Mem.head _))) (fun _ h => h) (z_goto X (t := 32) rfl rfl (WS_pq [1, 2, 0] (lv' := [(0, .ref (A 179)), (1, .int (Int32.ofInt xv)), (2, .int (Int32.ofInt (ka + 1)))]) rfl ?_))
          exact ih _ xv (ka + 1) Is1009 Fs1009 JRLx_s1009 (by first | exact ⟨And.intro (hi.1.1) (hi.1.2), oq_54f49eb5 hi.2.1, oq_35fd3fdc g1002 hi.1.2⟩ | omega) (by first | exact qk_me hm (by decide) (oq_f6b465a6 g1002 hi.1.2) | omega) kx
        ·
          refine z_load_n X (x := ka) rfl (List.Mem.tail _ (List.Mem.tail _ (List.Mem.head _))) ?_
          exact w_iret X.1 q hRt rfl (ax_d X (show cdA 257 50 = some (.ireturn, 1, 0, 0, 0) from rfl)) (Nat.zero_le _) (Nat.zero_le _) ⟨_, rfl, Is1003, Gs1003, JRLx_s1003, ka, rfl, ⟨by first | exact oq_fa4e5087 hi.2.1 | omega, by first | exact oq_d1028203 hi.2.2 | omega⟩, trivial⟩
  refine z_aload_n X (x := A 179) rfl (List.Mem.head _) (z_const X rfl (s_putI X 179 rfl (c518_ok rfl) rfl rfl (by decide) rfl rfl rfl (wd_gen (fun s2 hs2 => ?_))))
  have Is2 : Bd s2 := eqB hs2 (bd_I I (show (0 : Int) ≤ 0 ∧ 0 ≤ 3 by first | exact ⟨by decide, by decide⟩ | omega) (by decide))
  have Fs2 := eqF hs2 (fm_I F (inl_ok (a := 73) rfl))
  have vs2 : iI s2 73 = 0 := eqI hs2 (iI_u (by decide))
  have fs2 : Fm [73] [] s s2 := by rw [hs2]; exact fm_I (fm_rf _ _ _) (show 73 ∈ _ by decide)
  have JRLx_s2 : RLx s2 := RLx_fm fs2 (by decide) jRLx
  refine z_aload_n X (x := A 179) rfl (List.Mem.head _) (z_load_n X (x := x) rfl (List.Mem.tail _ (List.Mem.head _)) (z_const X rfl (z_bipush X rfl (zcS_i0 X E (As := [.int (Int32.ofInt x), .int (Int32.ofInt 0), .int (Int32.ofInt 20)]) (st := [.ref (A 179)]) rfl rfl (k_in G Is2 (by first | exact ⟨p0.1, p0.2⟩ | omega) (by first | exact ⟨by decide, by decide⟩ | omega) (by first | exact ⟨by decide, by decide⟩ | omega)) rfl (Nat.le_of_ble_eq_true rfl) (fun s3 e4 Is3 Fs3 hrs3 hps3 => ?_)))))
  have Gs3 := fm_tq Fs2 Fs3 rfl rfl
  have JRLx_s3 : RLx s3 := RLx_fm Fs3 (by decide) JRLx_s2
  have ws3_73 : iI s3 73 = iI s2 73 := fm_iq Fs3 rfl
  have N5 : ∀ e6 : Int, (((e4 ≠ 0) ∧ e6 = 0) ∨ ((e4 = 0) ∧ e6 = 1)) → WS k 21 [(0, .ref (A 179)), (1, .int (Int32.ofInt x))] [.int (Int32.ofInt e6), .ref (A 179)] (Wd A dT s3) 0 0 := by
    intro e6 he6
    have re6 : 0 ≤ e6 ∧ e6 ≤ 1 := by first | (clear he6 hps3; omega) | (clear hps3; omega) | omega
    refine z_const X rfl (zcV_i0 X E 179 (As := [.int (Int32.ofInt e6), .int (Int32.ofInt 1)]) (st := []) rfl rfl rfl rfl (k_bad G Is3 (by first | exact oq_31e518ae re6.2 re6.1 | omega) (by first | exact ⟨by decide, by decide⟩ | omega)) rfl (Nat.le_of_ble_eq_true rfl) (fun s7 e8 Is7 Fs7 hrs7 hps7 => ?_))
    have Gs7 := fm_tq Gs3 Fs7 rfl rfl
    have JRLx_s7 : RLx s7 := RLx_fm Fs7 (by decide) JRLx_s3
    have b9 := bi_73 Is7
    refine z_if_eq X (t := 30) rfl rfl hrs7 (fun g10 => ?_) (fun g10 => ?_)
    ·
      refine z_const X rfl (z_store_n X (lv' := [(2, .int (Int32.ofInt 0)), (0, .ref (A 179)), (1, .int (Int32.ofInt x))]) rfl (by decide) (fun _ h => h) (WS_pq [1, 2, 0] (lv' := [(0, .ref (A 179)), (1, .int (Int32.ofInt x)), (2, .int (Int32.ofInt 0))]) rfl (L32 ((20 - 0 : Int).toNat + 1) s7 x 0 Is7 Gs7 JRLx_s7 (by first | exact ⟨oq_0a6fdc2c g10 hps7.2.1 re6.2 he6 hps3, by decide, by decide⟩ | omega) (Nat.lt_succ_self _) ?_)))
      intro s11 x12 Is11 Fs11 JRLx_s11 hs11
      have b13 := bi_73 Is11
      refine z_load_n X (x := x) rfl (List.Mem.tail _ (List.Mem.head _)) ?_
      exact w_iret X.1 q hRt rfl (ax_d X (show cdA 257 71 = some (.ireturn, 1, 0, 0, 0) from rfl)) (Nat.zero_le _) (Nat.zero_le _) ⟨_, rfl, Is11, Fs11, JRLx_s11, x, rfl, ⟨by first | exact p0.1 | omega, by first | exact p0.2 | omega⟩, trivial⟩
    ·
      refine z_const X rfl ?_
      exact w_iret X.1 q hRt rfl (ax_d X (show cdA 257 29 = some (.ireturn, 1, 0, 0, 0) from rfl)) (Nat.zero_le _) (Nat.zero_le _) ⟨_, rfl, Is7, Gs7, JRLx_s7, 0, rfl, (by decide), trivial⟩
  refine z_if_ne X (t := 20) rfl rfl hrs3 (fun g14 => ?_) (fun g14 => ?_)
  ·
    exact z_const X rfl (N5 _ (Or.inl ⟨g14, rfl⟩))
  ·
    exact z_const X rfl (z_goto X (t := 21) rfl rfl (N5 _ (Or.inr (⟨g14, rfl⟩))))
set_option maxRecDepth 4000 in
theorem k_worth (G : GX l s0 D tys a0 dT) (I : Bd s) (jRLx : RLx s) {x y : Int} (p0 : rng x) (p1 : rng y) : CT l s0 D A dT 291 (rmN 291) [.ref (A 179), .int (Int32.ofInt x), .int (Int32.ofInt y)] s (fun o t => Bd t ∧ Fm [73, 77, 75, 78, 79, 80, 81] [202, 204, 205, 206, 207, 208, 209, 210, 211, 212, 213, 214, 215, 216, 217, 218, 219, 220, 221, 222, 223, 224, 225, 226, 227, 203, 161, 230, 233, 228] s t ∧ RLx t ∧ ∃ e, o = .inl (some (.int (Int32.ofInt e))) ∧ rng e ∧ (True)) := by
  refine ct_of G (by decide) (Nat.le_of_ble_eq_true rfl) (fun k X E hRt hXt q => ?_)
  show WS k 0 [(0, .ref (A 179)), (1, .int (Int32.ofInt x)), (2, .int (Int32.ofInt y))] [] _ 0 0
  have F : Fm [73, 77, 75, 78, 79, 80, 81] [202, 204, 205, 206, 207, 208, 209, 210, 211, 212, 213, 214, 215, 216, 217, 218, 219, 220, 221, 222, 223, 224, 225, 226, 227, 203, 161, 230, 233, 228] s s := fm_rf _ _ s
  have b1 := bi_73 I
  refine z_aload_n X (x := A 179) rfl (List.Mem.head _) (z_const X rfl (s_putI X 179 rfl (c518_ok rfl) rfl rfl (by decide) rfl rfl rfl (wd_gen (fun s2 hs2 => ?_))))
  have Is2 : Bd s2 := eqB hs2 (bd_I I (show (0 : Int) ≤ 0 ∧ 0 ≤ 3 by first | exact ⟨by decide, by decide⟩ | omega) (by decide))
  have Fs2 := eqF hs2 (fm_I F (inl_ok (a := 73) rfl))
  have vs2 : iI s2 73 = 0 := eqI hs2 (iI_u (by decide))
  have fs2 : Fm [73] [] s s2 := by rw [hs2]; exact fm_I (fm_rf _ _ _) (show 73 ∈ _ by decide)
  have JRLx_s2 : RLx s2 := RLx_fm fs2 (by decide) jRLx
  refine z_aload_n X (x := A 179) rfl (List.Mem.head _) (z_load_n X (x := x) rfl (List.Mem.tail _ (List.Mem.head _)) (z_const X rfl (z_bipush X rfl (zcS_i0 X E (As := [.int (Int32.ofInt x), .int (Int32.ofInt 0), .int (Int32.ofInt 127)]) (st := [.ref (A 179)]) rfl rfl (k_in G Is2 (by first | exact ⟨p0.1, p0.2⟩ | omega) (by first | exact ⟨by decide, by decide⟩ | omega) (by first | exact ⟨by decide, by decide⟩ | omega)) rfl (Nat.le_of_ble_eq_true rfl) (fun s3 e4 Is3 Fs3 hrs3 hps3 => ?_)))))
  have Gs3 := fm_tq Fs2 Fs3 rfl rfl
  have JRLx_s3 : RLx s3 := RLx_fm Fs3 (by decide) JRLx_s2
  have ws3_73 : iI s3 73 = iI s2 73 := fm_iq Fs3 rfl
  have N5 : ∀ e6 : Int, (((e4 ≠ 0) ∧ e6 = 0) ∨ ((e4 = 0) ∧ e6 = 1)) → WS k 21 [(0, .ref (A 179)), (1, .int (Int32.ofInt x)), (2, .int (Int32.ofInt y))] [.int (Int32.ofInt e6), .ref (A 179)] (Wd A dT s3) 0 0 := by
    intro e6 he6
    have re6 : 0 ≤ e6 ∧ e6 ≤ 1 := by first | (clear he6 hps3; omega) | (clear hps3; omega) | omega
    refine z_const X rfl (zcV_i0 X E 179 (As := [.int (Int32.ofInt e6), .int (Int32.ofInt 1)]) (st := []) rfl rfl rfl rfl (k_bad G Is3 (by first | exact oq_31e518ae re6.2 re6.1 | omega) (by first | exact ⟨by decide, by decide⟩ | omega)) rfl (Nat.le_of_ble_eq_true rfl) (fun s7 e8 Is7 Fs7 hrs7 hps7 => ?_))
    have Gs7 := fm_tq Gs3 Fs7 rfl rfl
    have JRLx_s7 : RLx s7 := RLx_fm Fs7 (by decide) JRLx_s3
    have b9 := bi_73 Is7
    refine z_if_ne X (t := 71) rfl rfl hrs7 (fun g10 => ?_) (fun g10 => ?_)
    ·
      refine z_const X rfl ?_
      exact w_iret X.1 q hRt rfl (ax_d X (show cdA 291 72 = some (.ireturn, 1, 0, 0, 0) from rfl)) (Nat.zero_le _) (Nat.zero_le _) ⟨_, rfl, Is7, Gs7, JRLx_s7, 0, rfl, (by decide), trivial⟩
    ·
      refine z_aload_n X (x := A 179) rfl (List.Mem.head _) (z_load_n X (x := y) rfl (List.Mem.tail _ (List.Mem.tail _ (List.Mem.head _))) (z_const X rfl (z_bipush X rfl (zcS_i0 X E (As := [.int (Int32.ofInt y), .int (Int32.ofInt 0), .int (Int32.ofInt 7)]) (st := [.ref (A 179)]) rfl rfl (k_in G Is7 (by first | exact ⟨p1.1, p1.2⟩ | omega) (by first | exact ⟨by decide, by decide⟩ | omega) (by first | exact ⟨by decide, by decide⟩ | omega)) rfl (Nat.le_of_ble_eq_true rfl) (fun s11 e12 Is11 Fs11 hrs11 hps11 => ?_)))))
      have Gs11 := fm_tq Gs7 Fs11 rfl rfl
      have JRLx_s11 : RLx s11 := RLx_fm Fs11 (by decide) JRLx_s7
      have ws11_73 : iI s11 73 = iI s7 73 := fm_iq Fs11 rfl
      have N13 : ∀ e14 : Int, (((e12 = 0) ∧ e14 = 1) ∨ ((e12 ≠ 0) ∧ (((-1) : Int) ≤ iC s11 228 (x).toNat ∧ iC s11 228 (x).toNat ≤ 7) ∧ ((iC s11 228 (x).toNat) = (-1)) ∧ e14 = 1) ∨ ((e12 ≠ 0) ∧ (((-1) : Int) ≤ iC s11 228 (x).toNat ∧ iC s11 228 (x).toNat ≤ 7) ∧ ((iC s11 228 (x).toNat) ≠ (-1)) ∧ (((-1) : Int) ≤ iC s11 228 (x).toNat ∧ iC s11 228 (x).toNat ≤ 7) ∧ ((iC s11 228 (x).toNat) ≠ y) ∧ e14 = 0) ∨ ((e12 ≠ 0) ∧ (((-1) : Int) ≤ iC s11 228 (x).toNat ∧ iC s11 228 (x).toNat ≤ 7) ∧ ((iC s11 228 (x).toNat) ≠ (-1)) ∧ (((-1) : Int) ≤ iC s11 228 (x).toNat ∧ iC s11 228 (x).toNat ≤ 7) ∧ ((iC s11 228 (x).toNat) = y) ∧ e14 = 1)) → WS k 64 [(0, .ref (A 179)), (1, .int (Int32.ofInt x)), (2, .int (Int32.ofInt y))] [.int (Int32.ofInt e14), .ref (A 179)] (Wd A dT s11) 0 0 := by
        intro e14 he14
        have re14 : 0 ≤ e14 ∧ e14 ≤ 1 := by first | (clear he14 hps11 hps7 he6 hps3; omega) | (clear hps11 hps7 he6 hps3; omega) | omega
        refine z_const X rfl (zcV_i0 X E 179 (As := [.int (Int32.ofInt e14), .int (Int32.ofInt 2)]) (st := []) rfl rfl rfl rfl (k_bad G Is11 (by first | exact oq_31e518ae re14.2 re14.1 | omega) (by first | exact ⟨by decide, by decide⟩ | omega)) rfl (Nat.le_of_ble_eq_true rfl) (fun s15 e16 Is15 Fs15 hrs15 hps15 => ?_))
        have Gs15 := fm_tq Gs11 Fs15 rfl rfl
        have JRLx_s15 : RLx s15 := RLx_fm Fs15 (by decide) JRLx_s11
        have b17 := bi_73 Is15
        refine z_if_eq X (t := 73) rfl rfl hrs15 (fun g18 => ?_) (fun g18 => ?_)
        ·
          refine z_aload_n X (x := A 179) rfl (List.Mem.head _) (zcV_i1 X E 179 (As := []) (st := []) rfl rfl rfl rfl (k_costOf G Is15 JRLx_s15 ) rfl (Nat.le_of_ble_eq_true rfl) (fun s19 e20 Is19 Fs19 JRLx_s19 hrs19 hps19 => ?_))
          have Gs19 := fm_tq Gs15 Fs19 rfl rfl
          have JRLx_s19 : RLx s19 := RLx_fm Fs19 (by decide) JRLx_s15
          have ws19_73 : iI s19 73 = iI s15 73 := fm_iq Fs19 rfl
          refine z_store_n X (lv' := [(3, .int (Int32.ofInt e20)), (0, .ref (A 179)), (1, .int (Int32.ofInt x)), (2, .int (Int32.ofInt y))]) rfl (by decide) (fun _ h => h) (z_aload_n X (x := A 179) rfl (List.Mem.tail _ (List.Mem.head _)) (s_getR X 179 rfl (c518_ok rfl) rfl rfl (z_load_n X (x := x) rfl (List.Mem.tail _ (List.Mem.tail _ (List.Mem.head _))) (z_ald X 256 rfl (c518_ok rfl) rfl (by first | exact oq_d2f74293 g10 hps7.2.1 re6.2 he6 hps3 | omega) (show x < 128 by first | exact oq_bb641c4c g10 hps7.2.1 re6.2 he6 hps3 | omega) (cbig_ok rfl) ?_))))
          have b21 := bc_228 Is19 (show (x).toNat < 128 by first | exact oq_48be0e30 g10 hps7.2.1 re6.2 he6 hps3 | omega)
          refine z_store X (lv' := [(4, .int (Int32.ofInt (iC s19 228 (x).toNat))), (3, .int (Int32.ofInt e20)), (0, .ref (A 179)), (1, .int (Int32.ofInt x)), (2, .int (Int32.ofInt y))]) rfl (by decide) (fun _ h => h) (z_aload_n X (x := A 179) rfl (List.Mem.tail _ (List.Mem.tail _ (List.Mem.head _))) (s_getR X 179 rfl (c518_ok rfl) rfl rfl (z_load_n X (x := x) rfl (List.Mem.tail _ (List.Mem.tail _ (List.Mem.tail _ (List.Mem.head _)))) (z_load_n X (x := y) rfl (List.Mem.tail _ (List.Mem.tail _ (List.Mem.tail _ (List.Mem.tail _ (List.Mem.head _))))) (z_ast X 256 rfl (c518_ok rfl) rfl (by first | exact oq_d2f74293 g10 hps7.2.1 re6.2 he6 hps3 | omega) (show x < 128 by first | exact oq_bb641c4c g10 hps7.2.1 re6.2 he6 hps3 | omega) (cbig_ok rfl) (wd_gen (fun s22 hs22 => ?_)))))))
          have Is22 : Bd s22 := eqB hs22 (bd_C Is19 (show ((-1) : Int) ≤ y ∧ y ≤ 7 by first | exact ⟨oq_b304fff0 g18 hps15.2.1 re14.2 he14 hps11, oq_ff2891b8 g18 hps15.2.1 re14.2 he14 hps11⟩ | omega) ⟨by first | exact p1.1 | omega, by first | exact p1.2 | omega⟩)
          have Fs22 := eqF hs22 (fm_C Gs19 (inl_ok (a := 228) rfl))
          have ws22_73 : iI s22 73 = iI s19 73 := eqI hs22 rfl
          have fs22 : Fm [] [228] s19 s22 := by rw [hs22]; exact fm_C (fm_rf _ _ _) (show 228 ∈ _ by decide)
          have JRLx_s22 : RLx s22 := RLx_fm fs22 (by decide) JRLx_s19
          refine z_aload_n X (x := A 179) rfl (List.Mem.tail _ (List.Mem.tail _ (List.Mem.head _))) (zcV_i1 X E 179 (As := []) (st := []) rfl rfl rfl rfl (k_costOf G Is22 JRLx_s22 ) rfl (Nat.le_of_ble_eq_true rfl) (fun s23 e24 Is23 Fs23 JRLx_s23 hrs23 hps23 => ?_))
          have Gs23 := fm_tq Fs22 Fs23 rfl rfl
          have JRLx_s23 : RLx s23 := RLx_fm Fs23 (by decide) JRLx_s22
          have ws23_73 : iI s23 73 = iI s22 73 := fm_iq Fs23 rfl
          refine z_store X (lv' := [(5, .int (Int32.ofInt e24)), (4, .int (Int32.ofInt (iC s19 228 (x).toNat))), (3, .int (Int32.ofInt e20)), (0, .ref (A 179)), (1, .int (Int32.ofInt x)), (2, .int (Int32.ofInt y))]) rfl (by decide) (fun _ h => h) (z_aload_n X (x := A 179) rfl (List.Mem.tail _ (List.Mem.tail _ (List.Mem.tail _ (List.Mem.head _)))) (s_getR X 179 rfl (c518_ok rfl) rfl rfl (z_load_n X (x := x) rfl (List.Mem.tail _ (List.Mem.tail _ (List.Mem.tail _ (List.Mem.tail _ (List.Mem.head _))))) (z_load X (x := (iC s19 228 (x).toNat)) rfl (List.Mem.tail _ (List.Mem.head _)) (z_ast X 256 rfl (c518_ok rfl) rfl (by first | exact oq_d2f74293 g10 hps7.2.1 re6.2 he6 hps3 | omega) (show x < 128 by first | exact oq_bb641c4c g10 hps7.2.1 re6.2 he6 hps3 | omega) (cbig_ok rfl) (wd_gen (fun s25 hs25 => ?_)))))))
          have Is25 : Bd s25 := eqB hs25 (bd_C Is23 (show ((-1) : Int) ≤ (iC s19 228 (x).toNat) ∧ (iC s19 228 (x).toNat) ≤ 7 by first | exact ⟨b21.1, b21.2⟩ | omega) (rng_to _))
          have Fs25 := eqF hs25 (fm_C Gs23 (inl_ok (a := 228) rfl))
          have ws25_73 : iI s25 73 = iI s23 73 := eqI hs25 rfl
          have fs25 : Fm [] [228] s23 s25 := by rw [hs25]; exact fm_C (fm_rf _ _ _) (show 228 ∈ _ by decide)
          have JRLx_s25 : RLx s25 := RLx_fm fs25 (by decide) JRLx_s23
          refine z_load_n X (x := e20) rfl (List.Mem.tail _ (List.Mem.tail _ (List.Mem.head _))) (z_load X (x := e24) rfl (List.Mem.head _) (z_sub X rfl (z_any (fun y26 hy26 => ?_))))
          exact w_iret X.1 q hRt rfl (ax_d X (show cdA 291 111 = some (.ireturn, 1, 0, 0, 0) from rfl)) (Nat.zero_le _) (Nat.zero_le _) ⟨_, rfl, Is25, Fs25, JRLx_s25, y26, rfl, hy26, trivial⟩
        ·
          refine z_const X rfl ?_
          exact w_iret X.1 q hRt rfl (ax_d X (show cdA 291 72 = some (.ireturn, 1, 0, 0, 0) from rfl)) (Nat.zero_le _) (Nat.zero_le _) ⟨_, rfl, Is15, Gs15, JRLx_s15, 0, rfl, (by decide), trivial⟩
      refine z_if_eq X (t := 59) rfl rfl hrs11 (fun g27 => ?_) (fun g27 => ?_)
      ·
        exact z_const X rfl (z_goto X (t := 64) rfl rfl (N13 _ (Or.inl ⟨g27, rfl⟩)))
      ·
        refine z_aload_n X (x := A 179) rfl (List.Mem.head _) (s_getR X 179 rfl (c518_ok rfl) rfl rfl (z_load_n X (x := x) rfl (List.Mem.tail _ (List.Mem.head _)) (z_ald X 256 rfl (c518_ok rfl) rfl (by first | exact oq_d2f74293 g10 hps7.2.1 re6.2 he6 hps3 | omega) (show x < 128 by first | exact oq_bb641c4c g10 hps7.2.1 re6.2 he6 hps3 | omega) (cbig_ok rfl) ?_)))
        have b28 := bc_228 Is11 (show (x).toNat < 128 by first | exact oq_48be0e30 g10 hps7.2.1 re6.2 he6 hps3 | omega)
        refine z_const X rfl (z_icmp_eq X (t := 59) rfl rfl (rng_to _) (by decide) (fun g29 => ?_) (fun g29 => ?_))
        ·
          exact z_const X rfl (z_goto X (t := 64) rfl rfl (N13 _ (Or.inr (Or.inl ⟨g27, b28, g29, rfl⟩))))
        ·
          refine z_aload_n X (x := A 179) rfl (List.Mem.head _) (s_getR X 179 rfl (c518_ok rfl) rfl rfl (z_load_n X (x := x) rfl (List.Mem.tail _ (List.Mem.head _)) (z_ald X 256 rfl (c518_ok rfl) rfl (by first | exact oq_d2f74293 g10 hps7.2.1 re6.2 he6 hps3 | omega) (show x < 128 by first | exact oq_bb641c4c g10 hps7.2.1 re6.2 he6 hps3 | omega) (cbig_ok rfl) ?_)))
          have b30 := bc_228 Is11 (show (x).toNat < 128 by first | exact oq_48be0e30 g10 hps7.2.1 re6.2 he6 hps3 | omega)
          refine z_load_n X (x := y) rfl (List.Mem.tail _ (List.Mem.tail _ (List.Mem.head _))) (z_icmp_ne X (t := 63) rfl rfl (rng_to _) ⟨by first | exact p1.1 | omega, by first | exact p1.2 | omega⟩ (fun g31 => ?_) (fun g31 => ?_))
          ·
            exact z_const X rfl (N13 _ (Or.inr (Or.inr (Or.inl ⟨g27, b28, g29, b30, g31, rfl⟩))))
          ·
            exact z_const X rfl (z_goto X (t := 64) rfl rfl (N13 _ (Or.inr (Or.inr (Or.inr (⟨g27, b28, g29, b30, g31, rfl⟩))))))
  refine z_if_ne X (t := 20) rfl rfl hrs3 (fun g32 => ?_) (fun g32 => ?_)
  ·
    exact z_const X rfl (N5 _ (Or.inl ⟨g32, rfl⟩))
  ·
    exact z_const X rfl (z_goto X (t := 21) rfl rfl (N5 _ (Or.inr (⟨g32, rfl⟩))))
end M58
