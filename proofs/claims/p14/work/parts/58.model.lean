theorem oq_212cfe9d {a0 a1 : Int} (h0 : a0 = a1) (h1 : a1 ≠ (-1)) (h2 : (-1) ≤ a1) : 0 ≤ a0 := by omega
theorem oq_a618c864 {a0 a1 a2 a3 : Int} (h0 : a0 = a1) (h1 : a2 < a3) (h2 : a1 = a3) : a2 < a0 := by omega
theorem oq_5ccab359 {a0 a1 a2 a3 : Int} (h0 : ((a0 = 0 ∧ (((a1 % 8) = 7 ∧ a2 = (-1)) ∨ ((¬ ((a1 % 8) = 7)) ∧ a2 = (a1 + 1)))) ∨ ((a0 = 1 ∧ (((a1 % 8) = 0 ∧ a2 = (-1)) ∨ ((¬ ((a1 % 8) = 0)) ∧ a2 = (a1 - 1)))) ∨ ((a0 = 2 ∧ ((((a1 / 8) % 8) = 7 ∧ a2 = (-1)) ∨ ((¬ (((a1 / 8) % 8) = 7)) ∧ a2 = (a1 + 8)))) ∨ ((a0 = 3 ∧ ((((a1 / 8) % 8) = 0 ∧ a2 = (-1)) ∨ ((¬ (((a1 / 8) % 8) = 0)) ∧ a2 = (a1 - 8)))) ∨ ((a0 = 4 ∧ (((a1 / 64) = 1 ∧ a2 = (-1)) ∨ ((¬ ((a1 / 64) = 1)) ∧ a2 = (a1 + 64)))) ∨ (a0 = 5 ∧ (((a1 / 64) = 0 ∧ a2 = (-1)) ∨ ((¬ ((a1 / 64) = 0)) ∧ a2 = (a1 - 64)))))))))) (h1 : a3 ≠ (-1)) (h2 : a3 ≤ 127) (h3 : (-1) ≤ a3) (h4 : ((a0 = 0 ∧ (((a1 % 8) = 7 ∧ a3 = (-1)) ∨ ((¬ ((a1 % 8) = 7)) ∧ a3 = (a1 + 1)))) ∨ ((a0 = 1 ∧ (((a1 % 8) = 0 ∧ a3 = (-1)) ∨ ((¬ ((a1 % 8) = 0)) ∧ a3 = (a1 - 1)))) ∨ ((a0 = 2 ∧ ((((a1 / 8) % 8) = 7 ∧ a3 = (-1)) ∨ ((¬ (((a1 / 8) % 8) = 7)) ∧ a3 = (a1 + 8)))) ∨ ((a0 = 3 ∧ ((((a1 / 8) % 8) = 0 ∧ a3 = (-1)) ∨ ((¬ (((a1 / 8) % 8) = 0)) ∧ a3 = (a1 - 8)))) ∨ ((a0 = 4 ∧ (((a1 / 64) = 1 ∧ a3 = (-1)) ∨ ((¬ ((a1 / 64) = 1)) ∧ a3 = (a1 + 64)))) ∨ (a0 = 5 ∧ (((a1 / 64) = 0 ∧ a3 = (-1)) ∨ ((¬ ((a1 / 64) = 0)) ∧ a3 = (a1 - 64)))))))))) (h5 : 0 ≤ a1) : 0 ≤ a2 := by omega
theorem oq_04367f15 {a0 : Int} (h0 : a0 < 128) : a0 ≤ 127 := by omega
theorem oq_5c09eddf {a0 a1 a2 : Int} (h0 : a0 ≤ 1) (h1 : a1 ≤ a2) : (a1 + a0) ≤ (a2 + 1) := by omega
theorem oq_e4399267 {a0 : Int} (h0 : a0 ≤ 127) : (a0 + 1) ≤ 128 := by omega
theorem oq_7e05e720 {a0 : Int} (h0 : a0 ≤ 127) : 0 < (128 - a0) := by omega
theorem oq_df5c764a {a0 a1 a2 a3 : Int} (h0 : ((a0 = 0 ∧ (((-2147483648) ≤ a1 ∧ a1 ≤ 2147483647) ∧ a2 = a1)) ∨ ((a0 ≠ 0 ∧ (((-2147483648) ≤ a1 ∧ a1 ≤ 2147483647) ∧ (a1 ≤ a3 ∧ a2 = a3))) ∨ (a0 ≠ 0 ∧ (((-2147483648) ≤ a1 ∧ a1 ≤ 2147483647) ∧ (a3 < a1 ∧ (((-2147483648) ≤ a1 ∧ a1 ≤ 2147483647) ∧ a2 = a1))))))) (h1 : a3 ≤ 2147483647) (h2 : (-2147483648) ≤ a3) : ((-2147483648) ≤ a2 ∧ a2 ≤ 2147483647) := by omega
theorem oq_70a17013 {a0 a1 : Int} (h0 : a0 ≤ a1) (h1 : a1 < 8) : a0 ≤ 2147483647 := by omega
theorem oq_e9ac77f5 {a0 a1 : Int} (h0 : a0 ≤ a1) (h1 : a0 = 0) : 0 ≤ a1 := by omega
theorem oq_ef392b12 {a0 a1 : Int} (h0 : a0 < a1) (h1 : a1 ≤ 2147483647) : a0 ≤ 2147483647 := by omega
/-! The model: edges, costs, moves -/
section M58
variable {l : Launch} {s0 : State} {D : va_G} {tys : List (ClassId × FieldType)} {a0 : Array Value} {A : Nat → Nat} {dT : Nat → ClassId} {s : PS}
set_option maxRecDepth 4000 in
theorem k_isCrossing (G : GX l s0 D tys a0 dT) (I : Bd s) (jRLx : RLx s) {x : Int} (p0 : 0 ≤ x ∧ x ≤ 127) : CT l s0 D A dT 245 (rmN 245) [.ref (A 179), .int (Int32.ofInt x)] s (fun o t => Bd t ∧ Fm [] [202, 204, 205, 206, 207, 208, 209, 210, 211, 212, 213, 214, 215, 216, 217, 218, 219, 220, 221, 222, 223, 224, 225, 226, 227, 203] s t ∧ RLx t ∧ ∃ e, o = .inl (some (.int (Int32.ofInt e))) ∧ rng e ∧ (e = 0 ∨ e = 1)) := by
  refine ct_of G (by decide) (Nat.le_of_ble_eq_true rfl) (fun k X E hRt hXt q => ?_)
  show WS k 0 [(0, .ref (A 179)), (1, .int (Int32.ofInt x))] [] _ 0 0
  have F : Fm [] [202, 204, 205, 206, 207, 208, 209, 210, 211, 212, 213, 214, 215, 216, 217, 218, 219, 220, 221, 222, 223, 224, 225, 226, 227, 203] s s := fm_rf _ _ s
  have b1 := bi_90 I
  have L19 : ∀ (n : Nat) (t : PS) (xv a b : Int), Bd t → Fm [] [202, 204, 205, 206, 207, 208, 209, 210, 211, 212, 213, 214, 215, 216, 217, 218, 219, 220, 221, 222, 223, 224, 225, 226, 227, 203] s t → RLx t → (NQ t) → ((0 ≤ xv ∧ xv ≤ 127) ∧ 0 ≤ a ∧ a < iI t 90 ∧ 1 ≤ b ∧ b ≤ 12) → (12 - b : Int).toNat < n → (∀ (t' : PS) (b' : Int), Bd t' → Fm [] [202, 204, 205, 206, 207, 208, 209, 210, 211, 212, 213, 214, 215, 216, 217, 218, 219, 220, 221, 222, 223, 224, 225, 226, 227, 203] s t' → RLx t' → (NQ t') → ((0 ≤ xv ∧ xv ≤ 127) ∧ 0 ≤ a ∧ a < iI t' 90 ∧ 1 ≤ b' ∧ b' ≤ 12) → WS k 88 [(0, .ref (A 179)), (1, .int (Int32.ofInt xv)), (2, .int (Int32.ofInt a)), (3, .int (Int32.ofInt b'))] [] (Wd A dT t') 0 0) → WS k 19 [(0, .ref (A 179)), (1, .int (Int32.ofInt xv)), (2, .int (Int32.ofInt a)), (3, .int (Int32.ofInt b))] [] (Wd A dT t) 0 0 := by
    intro n
    induction n with
    | zero =>
      intro t xv a b I F jjRLx hq hi hm kx
      exact absurd hm (Nat.not_lt_zero _)
    | succ n ih =>
      intro t xv a b I F jjRLx hq hi hm kx
      have b1001 := bi_90 I
      refine z_load_n X (x := b) rfl (List.Mem.tail _ (List.Mem.tail _ (List.Mem.tail _ (List.Mem.head _)))) (z_aload_n X (x := A 179) rfl (List.Mem.head _) (z_getI X 179 rfl (c518_ok rfl) rfl rfl ?_))
      have b1002 := bi_90 I
      refine z_icmp_ge X (t := 88) rfl rfl ⟨by first | exact oq_9462313e hi.2.2.2.1 | omega, by first | exact oq_78843a64 hi.2.2.2.2 | omega⟩ (rng_to _) (fun g1003 => ?_) (fun g1003 => ?_)
      ·
        refine WS_pq [0, 1, 2, 3] (lv' := [(0, .ref (A 179)), (1, .int (Int32.ofInt xv)), (2, .int (Int32.ofInt a)), (3, .int (Int32.ofInt b))]) rfl ?_
        exact kx _ b I F jjRLx hq (by first | exact ⟨And.intro (hi.1.1) (hi.1.2), hi.2.1, hi.2.2.1, hi.2.2.2.1, hi.2.2.2.2⟩ | omega)
      ·
        refine z_aload_n X (x := A 179) rfl (List.Mem.head _) (s_getR X 179 rfl (c518_ok rfl) rfl rfl (z_load_n X (x := a) rfl (List.Mem.tail _ (List.Mem.tail _ (List.Mem.head _))) (z_aald X rw_202 rfl (by first | exact hi.2.1 | omega) (show a < 12 by first | exact oq_f36e82a8 hi.2.2.1 b1002.2 | omega) (by decide) (z_load_n X (x := xv) rfl (List.Mem.tail _ (List.Mem.head _)) (z_ald2 X rw_202 rfl (show (a : Int).toNat < 12 by first | exact oq_2dac6850 hi.2.2.1 b1002.2 | omega) (by first | exact hi.1.1 | omega) (show xv < 128 by first | exact oq_31b2bf10 hi.1.2 | omega) (by decide) ?_)))))
        have b1004 : ((-1) : Int) ≤ (iC t (178 + (a : Int).toNat) (xv : Int).toNat) ∧ (iC t (178 + (a : Int).toNat) (xv : Int).toNat) ≤ 23 := rw_bd rw_202 I (show (a : Int).toNat < 12 by first | exact oq_2dac6850 hi.2.2.1 b1002.2 | omega) (show (xv : Int).toNat < 128 by first | exact oq_c7f4e9c1 hi.1.2 | omega)
        refine z_const X rfl (z_icmp_eq X (t := 82) rfl rfl (rng_to _) (by decide) (fun g1005 => ?_) (fun g1005 => ?_))
        ·
          refine z_inc X (x := b) (lv' := [(3, .int (Int32.ofInt (b + 1))), (0, .ref (A 179)), (1, .int (Int32.ofInt xv)), (2, .int (Int32.ofInt a))]) rfl (by decide) (List.Mem.tail _ (List.Mem.tail _ (List.Mem.tail _ (List.Mem.head _)))) (fun _ h => h) (z_goto X (t := 19) rfl rfl (WS_pq [1, 2, 3, 0] (lv' := [(0, .ref (A 179)), (1, .int (Int32.ofInt xv)), (2, .int (Int32.ofInt a)), (3, .int (Int32.ofInt (b + 1)))]) rfl ?_))
          exact ih _ xv a (b + 1) I F jjRLx hq (by first | exact ⟨And.intro (hi.1.1) (hi.1.2), hi.2.1, hi.2.2.1, oq_1e1a2df6 hi.2.2.2.1, oq_4dae995e g1003 b1002.2⟩ | omega) (by first | exact qk_me hm (by decide) (oq_b575e8c1 g1003 b1002.2) | omega) kx
        ·
          refine z_aload_n X (x := A 179) rfl (List.Mem.head _) (s_getR X 179 rfl (c518_ok rfl) rfl rfl (z_load_n X (x := b) rfl (List.Mem.tail _ (List.Mem.tail _ (List.Mem.tail _ (List.Mem.head _)))) (z_aald X rw_202 rfl (by first | exact oq_2a6e3b50 hi.2.2.2.1 | omega) (show b < 12 by first | exact oq_f36e82a8 g1003 b1002.2 | omega) (by decide) (z_load_n X (x := xv) rfl (List.Mem.tail _ (List.Mem.head _)) (z_ald2 X rw_202 rfl (show (b : Int).toNat < 12 by first | exact oq_2dac6850 g1003 b1002.2 | omega) (by first | exact hi.1.1 | omega) (show xv < 128 by first | exact oq_31b2bf10 hi.1.2 | omega) (by decide) ?_)))))
          have b1006 : ((-1) : Int) ≤ (iC t (178 + (b : Int).toNat) (xv : Int).toNat) ∧ (iC t (178 + (b : Int).toNat) (xv : Int).toNat) ≤ 23 := rw_bd rw_202 I (show (b : Int).toNat < 12 by first | exact oq_2dac6850 g1003 b1002.2 | omega) (show (xv : Int).toNat < 128 by first | exact oq_c7f4e9c1 hi.1.2 | omega)
          refine z_const X rfl (z_icmp_eq X (t := 82) rfl rfl (rng_to _) (by decide) (fun g1007 => ?_) (fun g1007 => ?_))
          ·
            refine z_inc X (x := b) (lv' := [(3, .int (Int32.ofInt (b + 1))), (0, .ref (A 179)), (1, .int (Int32.ofInt xv)), (2, .int (Int32.ofInt a))]) rfl (by decide) (List.Mem.tail _ (List.Mem.tail _ (List.Mem.tail _ (List.Mem.head _)))) (fun _ h => h) (z_goto X (t := 19) rfl rfl (WS_pq [1, 2, 3, 0] (lv' := [(0, .ref (A 179)), (1, .int (Int32.ofInt xv)), (2, .int (Int32.ofInt a)), (3, .int (Int32.ofInt (b + 1)))]) rfl ?_))
            exact ih _ xv a (b + 1) I F jjRLx hq (by first | exact ⟨And.intro (hi.1.1) (hi.1.2), hi.2.1, hi.2.2.1, oq_1e1a2df6 hi.2.2.2.1, oq_4dae995e g1003 b1002.2⟩ | omega) (by first | exact qk_me hm (by decide) (oq_b575e8c1 g1003 b1002.2) | omega) kx
          ·
            refine z_aload_n X (x := A 179) rfl (List.Mem.head _) (z_load_n X (x := a) rfl (List.Mem.tail _ (List.Mem.tail _ (List.Mem.head _))) (z_aload_n X (x := A 179) rfl (List.Mem.head _) (s_getR X 179 rfl (c518_ok rfl) rfl rfl (z_load_n X (x := a) rfl (List.Mem.tail _ (List.Mem.tail _ (List.Mem.head _))) (z_aald X rw_202 rfl (by first | exact hi.2.1 | omega) (show a < 12 by first | exact oq_f36e82a8 hi.2.2.1 b1002.2 | omega) (by decide) (z_load_n X (x := xv) rfl (List.Mem.tail _ (List.Mem.head _)) (z_ald2 X rw_202 rfl (show (a : Int).toNat < 12 by first | exact oq_2dac6850 hi.2.2.1 b1002.2 | omega) (by first | exact hi.1.1 | omega) (show xv < 128 by first | exact oq_31b2bf10 hi.1.2 | omega) (by decide) ?_)))))))
            have b1008 : ((-1) : Int) ≤ (iC t (178 + (a : Int).toNat) (xv : Int).toNat) ∧ (iC t (178 + (a : Int).toNat) (xv : Int).toNat) ≤ 23 := rw_bd rw_202 I (show (a : Int).toNat < 12 by first | exact oq_2dac6850 hi.2.2.1 b1002.2 | omega) (show (xv : Int).toNat < 128 by first | exact oq_c7f4e9c1 hi.1.2 | omega)
            have n11009 := (hq (a : Int).toNat (by first | (clear g1007 g1005; omega) | (clear g1005; omega) | omega) (by first | (clear g1007 g1005; omega) | (clear g1005; omega) | omega)).1
            have r11010 := (jjRLx (a : Int).toNat (by first | (clear g1007 g1005; omega) | (clear g1005; omega) | omega) (by first | (clear g1007 g1005; omega) | (clear g1005; omega) | omega)).2 (xv : Int).toNat (by first | (clear g1007 g1005; omega) | (clear g1005; omega) | omega)
            refine zcV_i0 X E 179 (As := [.int (Int32.ofInt a), .int (Int32.ofInt (iC t (178 + (a : Int).toNat) (xv : Int).toNat))]) (st := []) rfl rfl rfl rfl (k_goes G I (by first | exact ⟨hi.2.1, oq_e4d7f3c5 hi.2.2.1 b1002.2⟩ | omega) (by first | exact ⟨oq_5234833b b1008.1 g1005, by first | (clear g1007 g1005; omega) | (clear g1005; omega) | omega⟩ | omega)) rfl (Nat.le_of_ble_eq_true rfl) (fun s1011 e1012 Is1011 Fs1011 hrs1011 hps1011 => ?_)
            have Gs1011 := fm_tq F Fs1011 rfl rfl
            have JRLx_s1011 : RLx s1011 := RLx_fm Fs1011 (by decide) jjRLx
            have JNQ_s1011 : NQ s1011 := NQ_fm Fs1011 (by decide) hq
            have ws1011_90 : iI s1011 90 = iI t 90 := fm_iq Fs1011 rfl
            refine z_aload_n X (x := A 179) rfl (List.Mem.head _) (z_load_n X (x := b) rfl (List.Mem.tail _ (List.Mem.tail _ (List.Mem.tail _ (List.Mem.head _)))) (z_aload_n X (x := A 179) rfl (List.Mem.head _) (s_getR X 179 rfl (c518_ok rfl) rfl rfl (z_load_n X (x := b) rfl (List.Mem.tail _ (List.Mem.tail _ (List.Mem.tail _ (List.Mem.head _)))) (z_aald X rw_202 rfl (by first | exact oq_2a6e3b50 hi.2.2.2.1 | omega) (show b < 12 by first | exact oq_f36e82a8 g1003 b1002.2 | omega) (by decide) (z_load_n X (x := xv) rfl (List.Mem.tail _ (List.Mem.head _)) (z_ald2 X rw_202 rfl (show (b : Int).toNat < 12 by first | exact oq_2dac6850 g1003 b1002.2 | omega) (by first | exact hi.1.1 | omega) (show xv < 128 by first | exact oq_31b2bf10 hi.1.2 | omega) (by decide) ?_)))))))
            have b1013 : ((-1) : Int) ≤ (iC s1011 (178 + (b : Int).toNat) (xv : Int).toNat) ∧ (iC s1011 (178 + (b : Int).toNat) (xv : Int).toNat) ≤ 23 := rw_bd rw_202 Is1011 (show (b : Int).toNat < 12 by first | exact oq_2dac6850 g1003 b1002.2 | omega) (show (xv : Int).toNat < 128 by first | exact oq_c7f4e9c1 hi.1.2 | omega)
            have n01014 : iC s1011 (178 + (b : Int).toNat) (xv : Int).toNat = iC t (178 + (b : Int).toNat) (xv : Int).toNat := fm_c Fs1011 (fun h => absurd h List.not_mem_nil)
            have n11015 := (JNQ_s1011 (b : Int).toNat (by first | (clear g1007 g1005; omega) | (clear g1005; omega) | omega) (by first | (clear g1007 g1005; omega) | (clear g1005; omega) | omega)).1
            have r11016 := (JRLx_s1011 (b : Int).toNat (by first | (clear g1007 g1005; omega) | (clear g1005; omega) | omega) (by first | (clear g1007 g1005; omega) | (clear g1005; omega) | omega)).2 (xv : Int).toNat (by first | (clear g1007 g1005; omega) | (clear g1005; omega) | omega)
            refine zcV_i0 X E 179 (As := [.int (Int32.ofInt b), .int (Int32.ofInt (iC s1011 (178 + (b : Int).toNat) (xv : Int).toNat))]) (st := [.int (Int32.ofInt e1012)]) rfl rfl rfl rfl (k_goes G Is1011 (by first | exact ⟨oq_2a6e3b50 hi.2.2.2.1, oq_e4d7f3c5 g1003 b1002.2⟩ | omega) (by first | exact ⟨oq_212cfe9d n01014 g1007 b1006.1, by first | (clear g1007 g1005; omega) | (clear g1005; omega) | omega⟩ | omega)) rfl (Nat.le_of_ble_eq_true rfl) (fun s1017 e1018 Is1017 Fs1017 hrs1017 hps1017 => ?_)
            have Gs1017 := fm_tq Gs1011 Fs1017 rfl rfl
            have JRLx_s1017 : RLx s1017 := RLx_fm Fs1017 (by decide) JRLx_s1011
            have JNQ_s1017 : NQ s1017 := NQ_fm Fs1017 (by decide) JNQ_s1011
            have ws1017_90 : iI s1017 90 = iI s1011 90 := fm_iq Fs1017 rfl
            refine z_icmp_eq X (t := 82) rfl rfl hrs1011 hrs1017 (fun g1019 => ?_) (fun g1019 => ?_)
            ·
              refine z_inc X (x := b) (lv' := [(3, .int (Int32.ofInt (b + 1))), (0, .ref (A 179)), (1, .int (Int32.ofInt xv)), (2, .int (Int32.ofInt a))]) rfl (by decide) (List.Mem.tail _ (List.Mem.tail _ (List.Mem.tail _ (List.Mem.head _)))) (fun _ h => h) (z_goto X (t := 19) rfl rfl (WS_pq [1, 2, 3, 0] (lv' := [(0, .ref (A 179)), (1, .int (Int32.ofInt xv)), (2, .int (Int32.ofInt a)), (3, .int (Int32.ofInt (b + 1)))]) rfl ?_))
              exact ih _ xv a (b + 1) Is1017 Gs1017 JRLx_s1017 JNQ_s1017 (by first | exact ⟨And.intro (hi.1.1) (hi.1.2), hi.2.1, oq_a618c864 ws1017_90 hi.2.2.1 ws1011_90, oq_1e1a2df6 hi.2.2.2.1, oq_4dae995e g1003 b1002.2⟩ | omega) (by first | exact qk_me hm (by decide) (oq_b575e8c1 g1003 b1002.2) | omega) kx
            ·
              refine z_const X rfl ?_
              exact w_iret X.1 q hRt (nar_ret (by first | exact Or.inr (by decide) | omega)) (ax_d X (show cdA 245 81 = some (.ireturn, 1, 0, 0, 0) from rfl)) (Nat.zero_le _) (Nat.zero_le _) ⟨_, rfl, Is1017, Gs1017, JRLx_s1017, 1, rfl, (by decide), by first | exact Or.inr (by decide) | omega⟩
  have L7 : ∀ (n : Nat) (t : PS) (xv a : Int), Bd t → Fm [] [202, 204, 205, 206, 207, 208, 209, 210, 211, 212, 213, 214, 215, 216, 217, 218, 219, 220, 221, 222, 223, 224, 225, 226, 227, 203] s t → RLx t → (NQ t) → ((0 ≤ xv ∧ xv ≤ 127) ∧ 0 ≤ a ∧ a ≤ 12) → (12 - a : Int).toNat < n → (∀ (t' : PS) (a' : Int), Bd t' → Fm [] [202, 204, 205, 206, 207, 208, 209, 210, 211, 212, 213, 214, 215, 216, 217, 218, 219, 220, 221, 222, 223, 224, 225, 226, 227, 203] s t' → RLx t' → (NQ t') → ((0 ≤ xv ∧ xv ≤ 127) ∧ 0 ≤ a' ∧ a' ≤ 12) → WS k 94 [(0, .ref (A 179)), (1, .int (Int32.ofInt xv)), (2, .int (Int32.ofInt a'))] [] (Wd A dT t') 0 0) → WS k 7 [(0, .ref (A 179)), (1, .int (Int32.ofInt xv)), (2, .int (Int32.ofInt a))] [] (Wd A dT t) 0 0 := by
    intro n
    induction n with
    | zero =>
      intro t xv a I F jjRLx hq hi hm kx
      exact absurd hm (Nat.not_lt_zero _)
    | succ n ih =>
      intro t xv a I F jjRLx hq hi hm kx
      have b2001 := bi_90 I
      refine z_load_n X (x := a) rfl (List.Mem.tail _ (List.Mem.tail _ (List.Mem.head _))) (z_aload_n X (x := A 179) rfl (List.Mem.head _) (z_getI X 179 rfl (c518_ok rfl) rfl rfl ?_))
      have b2002 := bi_90 I
      refine z_icmp_ge X (t := 94) rfl rfl ⟨by first | exact oq_fa4e5087 hi.2.1 | omega, by first | exact oq_78843a64 hi.2.2 | omega⟩ (rng_to _) (fun g2003 => ?_) (fun g2003 => ?_)
      ·
        refine WS_pq [0, 1, 2] (lv' := [(0, .ref (A 179)), (1, .int (Int32.ofInt xv)), (2, .int (Int32.ofInt a))]) rfl ?_
        exact kx _ a I F jjRLx hq (by first | exact ⟨And.intro (hi.1.1) (hi.1.2), hi.2.1, hi.2.2⟩ | omega)
      ·
        refine z_load_n X (x := a) rfl (List.Mem.tail _ (List.Mem.tail _ (List.Mem.head _))) (z_const X rfl (z_add X rfl (z_store_n X (lv' := [(3, .int (Int32.ofInt (a + 1))), (0, .ref (A 179)), (1, .int (Int32.ofInt xv)), (2, .int (Int32.ofInt a))]) rfl (by decide) (fun _ h => h) (WS_pq [1, 2, 3, 0] (lv' := [(0, .ref (A 179)), (1, .int (Int32.ofInt xv)), (2, .int (Int32.ofInt a)), (3, .int (Int32.ofInt (a + 1)))]) rfl (L19 ((12 - (a + 1) : Int).toNat + 1) t xv a (a + 1) I F jjRLx hq (by first | exact ⟨And.intro (hi.1.1) (hi.1.2), hi.2.1, g2003, oq_b15b052d hi.2.1, oq_4dae995e g2003 b2002.2⟩ | omega) (Nat.lt_succ_self _) ?_)))))
        intro s2004 x2005 Is2004 Fs2004 JRLx_s2004 Qs2004 hs2004
        have b2006 := bi_90 Is2004
        refine z_inc X (x := a) (lv' := [(2, .int (Int32.ofInt (a + 1))), (0, .ref (A 179)), (1, .int (Int32.ofInt xv)), (3, .int (Int32.ofInt x2005))]) rfl (by decide) (List.Mem.tail _ (List.Mem.tail _ (List.Mem.head _))) (fun _ h => h) (z_goto X (t := 7) rfl rfl (WS_pq [1, 2, 0] (lv' := [(0, .ref (A 179)), (1, .int (Int32.ofInt xv)), (2, .int (Int32.ofInt (a + 1)))]) rfl ?_))
        exact ih _ xv (a + 1) Is2004 Fs2004 JRLx_s2004 Qs2004 (by first | exact ⟨And.intro (hs2004.1.1) (hs2004.1.2), oq_54f49eb5 hs2004.2.1, oq_4dae995e hs2004.2.2.1 b2006.2⟩ | omega) (by first | exact qk_me hm (by decide) (oq_b575e8c1 hs2004.2.2.1 b2006.2) | omega) kx
  refine z_aload_n X (x := A 179) rfl (List.Mem.head _) (z_const X rfl (zcV_v2 X E 179 (As := [.int (Int32.ofInt 0)]) (st := []) rfl rfl rfl rfl (k_asTold G I jRLx (by first | exact ⟨by decide, by decide⟩ | omega)) rfl (Nat.le_of_ble_eq_true rfl) (fun s2 Is2 Fs2 JRLx_s2 JNQ_s2 hps2 => ?_)))
  have Gs2 := fm_tq F Fs2 rfl rfl
  have JRLx_s2 : RLx s2 := RLx_fm Fs2 (by decide) jRLx
  have ws2_90 : iI s2 90 = iI s 90 := fm_iq Fs2 rfl
  refine z_const X rfl (z_store_n X (lv' := [(2, .int (Int32.ofInt 0)), (0, .ref (A 179)), (1, .int (Int32.ofInt x))]) rfl (by decide) (fun _ h => h) (WS_pq [1, 2, 0] (lv' := [(0, .ref (A 179)), (1, .int (Int32.ofInt x)), (2, .int (Int32.ofInt 0))]) rfl (L7 ((12 - 0 : Int).toNat + 1) s2 x 0 Is2 Gs2 JRLx_s2 JNQ_s2 (by first | exact ⟨And.intro (p0.1) (p0.2), by decide, by decide⟩ | omega) (Nat.lt_succ_self _) ?_)))
  intro s4 x5 Is4 Fs4 JRLx_s4 Qs4 hs4
  have b6 := bi_90 Is4
  refine z_const X rfl ?_
  exact w_iret X.1 q hRt (nar_ret (by first | exact Or.inl (by decide) | omega)) (ax_d X (show cdA 245 95 = some (.ireturn, 1, 0, 0, 0) from rfl)) (Nat.zero_le _) (Nat.zero_le _) ⟨_, rfl, Is4, Fs4, JRLx_s4, 0, rfl, (by decide), by first | exact Or.inl (by decide) | omega⟩
set_option maxRecDepth 4000 in
theorem k_edge (G : GX l s0 D tys a0 dT) (I : Bd s) (jRLx : RLx s) {x : Int} (p0 : rng x) : CT l s0 D A dT 246 (rmN 246) [.ref (A 179), .int (Int32.ofInt x)] s (fun o t => Bd t ∧ Fm [73] [202, 204, 205, 206, 207, 208, 209, 210, 211, 212, 213, 214, 215, 216, 217, 218, 219, 220, 221, 222, 223, 224, 225, 226, 227, 203] s t ∧ RLx t ∧ ∃ e, o = .inl (some (.int (Int32.ofInt e))) ∧ rng e ∧ (True)) := by
  refine ct_of G (by decide) (Nat.le_of_ble_eq_true rfl) (fun k X E hRt hXt q => ?_)
  show WS k 0 [(0, .ref (A 179)), (1, .int (Int32.ofInt x))] [] _ 0 0
  have F : Fm [73] [202, 204, 205, 206, 207, 208, 209, 210, 211, 212, 213, 214, 215, 216, 217, 218, 219, 220, 221, 222, 223, 224, 225, 226, 227, 203] s s := fm_rf _ _ s
  have b1 := bi_73 I
  have L68 : ∀ (n : Nat) (t : PS) (xv nn c iz st0 : Int), Bd t → Fm [73] [202, 204, 205, 206, 207, 208, 209, 210, 211, 212, 213, 214, 215, 216, 217, 218, 219, 220, 221, 222, 223, 224, 225, 226, 227, 203] s t → RLx t → (rng xv ∧ (0 ≤ nn ∧ nn ≤ c) ∧ (0 ≤ c ∧ c ≤ 127) ∧ (iz = 0 ∨ iz = 1) ∧ 0 ≤ st0 ∧ st0 ≤ 6) → (6 - st0 : Int).toNat < n → (∀ (t' : PS) (iz' st0' : Int), Bd t' → Fm [73] [202, 204, 205, 206, 207, 208, 209, 210, 211, 212, 213, 214, 215, 216, 217, 218, 219, 220, 221, 222, 223, 224, 225, 226, 227, 203] s t' → RLx t' → (rng xv ∧ (0 ≤ nn ∧ nn ≤ c) ∧ (0 ≤ c ∧ c ≤ 127) ∧ (iz' = 0 ∨ iz' = 1) ∧ 0 ≤ st0' ∧ st0' ≤ 6) → WS k 118 [(0, .ref (A 179)), (1, .int (Int32.ofInt xv)), (2, .int (Int32.ofInt nn)), (3, .int (Int32.ofInt c)), (4, .int (Int32.ofInt iz')), (5, .int (Int32.ofInt st0'))] [] (Wd A dT t') 0 0) → WS k 68 [(0, .ref (A 179)), (1, .int (Int32.ofInt xv)), (2, .int (Int32.ofInt nn)), (3, .int (Int32.ofInt c)), (4, .int (Int32.ofInt iz)), (5, .int (Int32.ofInt st0))] [] (Wd A dT t) 0 0 := by
    intro n
    induction n with
    | zero =>
      intro t xv nn c iz st0 I F jjRLx hi hm kx
      exact absurd hm (Nat.not_lt_zero _)
    | succ n ih =>
      intro t xv nn c iz st0 I F jjRLx hi hm kx
      have b1001 := bi_73 I
      refine z_load X (x := st0) rfl (List.Mem.tail _ (List.Mem.tail _ (List.Mem.tail _ (List.Mem.tail _ (List.Mem.tail _ (List.Mem.head _)))))) (z_bipush X rfl (z_icmp_ge X (t := 118) rfl rfl ⟨by first | exact oq_fa4e5087 hi.2.2.2.2.1 | omega, by first | exact oq_b301c3bf hi.2.2.2.2.2 | omega⟩ (by decide) (fun g1002 => ?_) (fun g1002 => ?_)))
      ·
        refine WS_pq [0, 1, 2, 3, 4, 5] (lv' := [(0, .ref (A 179)), (1, .int (Int32.ofInt xv)), (2, .int (Int32.ofInt nn)), (3, .int (Int32.ofInt c)), (4, .int (Int32.ofInt iz)), (5, .int (Int32.ofInt st0))]) rfl ?_
        exact kx _ iz st0 I F jjRLx (by first | exact ⟨And.intro (hi.1.1) (hi.1.2), And.intro (hi.2.1.1) (hi.2.1.2), And.intro (hi.2.2.1.1) (hi.2.2.1.2), hi.2.2.2.1, hi.2.2.2.2.1, hi.2.2.2.2.2⟩ | omega)
      ·
        refine z_load X (x := iz) rfl (List.Mem.tail _ (List.Mem.tail _ (List.Mem.tail _ (List.Mem.tail _ (List.Mem.head _))))) (z_if_ne X (t := 105) rfl rfl ⟨by first | exact oq_bde653e9 hi.2.2.2.1 | omega, by first | exact oq_4ad2cb8b hi.2.2.2.1 | omega⟩ (fun g1003 => ?_) (fun g1003 => ?_))
        ·
          refine z_const X rfl (z_goto X (t := 110) rfl rfl (z_store X (lv' := [(4, .int (Int32.ofInt 1)), (0, .ref (A 179)), (1, .int (Int32.ofInt xv)), (2, .int (Int32.ofInt nn)), (3, .int (Int32.ofInt c)), (5, .int (Int32.ofInt st0))]) rfl (by decide) (fun _ h => h) (z_inc X (x := st0) (lv' := [(5, .int (Int32.ofInt (st0 + 1))), (4, .int (Int32.ofInt 1)), (0, .ref (A 179)), (1, .int (Int32.ofInt xv)), (2, .int (Int32.ofInt nn)), (3, .int (Int32.ofInt c))]) rfl (by decide) (List.Mem.tail _ (List.Mem.tail _ (List.Mem.tail _ (List.Mem.tail _ (List.Mem.tail _ (List.Mem.head _)))))) (fun _ h => h) (z_goto X (t := 68) rfl rfl (WS_pq [2, 3, 4, 5, 1, 0] (lv' := [(0, .ref (A 179)), (1, .int (Int32.ofInt xv)), (2, .int (Int32.ofInt nn)), (3, .int (Int32.ofInt c)), (4, .int (Int32.ofInt 1)), (5, .int (Int32.ofInt (st0 + 1)))]) rfl ?_)))))
          exact ih _ xv nn c 1 (st0 + 1) I F jjRLx (by first | exact ⟨And.intro (hi.1.1) (hi.1.2), And.intro (hi.2.1.1) (hi.2.1.2), And.intro (hi.2.2.1.1) (hi.2.2.1.2), Or.inr (by decide), oq_54f49eb5 hi.2.2.2.2.1, oq_5bf54478 g1002⟩ | omega) (by first | exact qk_me hm (by decide) (oq_2265a080 g1002) | omega) kx
        ·
          refine z_load_n X (x := c) rfl (List.Mem.tail _ (List.Mem.tail _ (List.Mem.tail _ (List.Mem.head _)))) (z_load X (x := st0) rfl (List.Mem.tail _ (List.Mem.tail _ (List.Mem.tail _ (List.Mem.tail _ (List.Mem.tail _ (List.Mem.head _)))))) (zcS_i0 X E (As := [.int (Int32.ofInt c), .int (Int32.ofInt st0)]) (st := []) rfl rfl (k_beside G I (by first | exact ⟨hi.2.2.1.1, hi.2.2.1.2⟩ | omega) (by first | exact ⟨hi.2.2.2.2.1, oq_a4cef127 g1002⟩ | omega)) rfl (Nat.le_of_ble_eq_true rfl) (fun s1004 e1005 Is1004 Fs1004 hrs1004 hps1004 => ?_)))
          have hps1004p := And.intro hps1004.2.1 (hps1004.2.2)
          have Gs1004 := fm_tq F Fs1004 rfl rfl
          have JRLx_s1004 : RLx s1004 := RLx_fm Fs1004 (by decide) jjRLx
          have ws1004_73 : iI s1004 73 = iI t 73 := fm_iq Fs1004 rfl
          refine z_const X rfl (z_icmp_eq X (t := 109) rfl rfl hrs1004 (by decide) (fun g1006 => ?_) (fun g1006 => ?_))
          ·
            refine z_const X rfl (z_store X (lv' := [(4, .int (Int32.ofInt 0)), (0, .ref (A 179)), (1, .int (Int32.ofInt xv)), (2, .int (Int32.ofInt nn)), (3, .int (Int32.ofInt c)), (5, .int (Int32.ofInt st0))]) rfl (by decide) (fun _ h => h) (z_inc X (x := st0) (lv' := [(5, .int (Int32.ofInt (st0 + 1))), (4, .int (Int32.ofInt 0)), (0, .ref (A 179)), (1, .int (Int32.ofInt xv)), (2, .int (Int32.ofInt nn)), (3, .int (Int32.ofInt c))]) rfl (by decide) (List.Mem.tail _ (List.Mem.tail _ (List.Mem.tail _ (List.Mem.tail _ (List.Mem.tail _ (List.Mem.head _)))))) (fun _ h => h) (z_goto X (t := 68) rfl rfl (WS_pq [2, 3, 4, 5, 1, 0] (lv' := [(0, .ref (A 179)), (1, .int (Int32.ofInt xv)), (2, .int (Int32.ofInt nn)), (3, .int (Int32.ofInt c)), (4, .int (Int32.ofInt 0)), (5, .int (Int32.ofInt (st0 + 1)))]) rfl ?_))))
            exact ih _ xv nn c 0 (st0 + 1) Is1004 Gs1004 JRLx_s1004 (by first | exact ⟨And.intro (hi.1.1) (hi.1.2), And.intro (hi.2.1.1) (hi.2.1.2), And.intro (hi.2.2.1.1) (hi.2.2.1.2), Or.inl (by decide), oq_54f49eb5 hi.2.2.2.2.1, oq_5bf54478 g1002⟩ | omega) (by first | exact qk_me hm (by decide) (oq_2265a080 g1002) | omega) kx
          ·
            refine z_aload_n X (x := A 179) rfl (List.Mem.head _) (s_getR X 179 rfl (c518_ok rfl) rfl rfl (z_load_n X (x := c) rfl (List.Mem.tail _ (List.Mem.tail _ (List.Mem.tail _ (List.Mem.head _)))) (z_load X (x := st0) rfl (List.Mem.tail _ (List.Mem.tail _ (List.Mem.tail _ (List.Mem.tail _ (List.Mem.tail _ (List.Mem.head _)))))) (zcS_i0 X E (As := [.int (Int32.ofInt c), .int (Int32.ofInt st0)]) (st := [.ref (A 256)]) rfl rfl (k_beside G Is1004 (by first | exact ⟨hi.2.2.1.1, hi.2.2.1.2⟩ | omega) (by first | exact ⟨hi.2.2.2.2.1, oq_a4cef127 g1002⟩ | omega)) rfl (Nat.le_of_ble_eq_true rfl) (fun s1007 e1008 Is1007 Fs1007 hrs1007 hps1007 => ?_)))))
            have hps1007p := And.intro hps1007.2.1 (hps1007.2.2)
            have Gs1007 := fm_tq Gs1004 Fs1007 rfl rfl
            have JRLx_s1007 : RLx s1007 := RLx_fm Fs1007 (by decide) JRLx_s1004
            have ws1007_73 : iI s1007 73 = iI s1004 73 := fm_iq Fs1007 rfl
            refine z_ald X 256 rfl (c518_ok rfl) rfl (by first | exact oq_5ccab359 hps1007.1 g1006 hps1004.2.2 hps1004.2.1 hps1004.1 hi.2.2.1.1 | omega) (show e1008 < 128 by first | exact oq_31b2bf10 hps1007.2.2 | omega) (cbig_ok rfl) ?_
            have b1009 := bc_228 Is1007 (show (e1008).toNat < 128 by first | exact oq_c7f4e9c1 hps1007.2.2 | omega)
            refine z_load_n X (x := xv) rfl (List.Mem.tail _ (List.Mem.head _)) ?_
            have N1010 : ∀ e1011 : Int, ((((iC s1007 228 (e1008).toNat) = xv) ∧ e1011 = 0) ∨ (((iC s1007 228 (e1008).toNat) ≠ xv) ∧ e1011 = 1)) → WS k 110 [(0, .ref (A 179)), (1, .int (Int32.ofInt xv)), (2, .int (Int32.ofInt nn)), (3, .int (Int32.ofInt c)), (4, .int (Int32.ofInt iz)), (5, .int (Int32.ofInt st0))] [.int (Int32.ofInt e1011)] (Wd A dT s1007) 0 0 := by
              intro e1011 he1011
              have re1011 : 0 ≤ e1011 ∧ e1011 ≤ 1 := by first | (clear he1011 hps1007 g1006 hps1004; omega) | (clear hps1007 g1006 hps1004; omega) | omega
              refine z_store X (lv' := [(4, .int (Int32.ofInt e1011)), (0, .ref (A 179)), (1, .int (Int32.ofInt xv)), (2, .int (Int32.ofInt nn)), (3, .int (Int32.ofInt c)), (5, .int (Int32.ofInt st0))]) rfl (by decide) (fun _ h => h) (z_inc X (x := st0) (lv' := [(5, .int (Int32.ofInt (st0 + 1))), (4, .int (Int32.ofInt e1011)), (0, .ref (A 179)), (1, .int (Int32.ofInt xv)), (2, .int (Int32.ofInt nn)), (3, .int (Int32.ofInt c))]) rfl (by decide) (List.Mem.tail _ (List.Mem.tail _ (List.Mem.tail _ (List.Mem.tail _ (List.Mem.tail _ (List.Mem.head _)))))) (fun _ h => h) (z_goto X (t := 68) rfl rfl (WS_pq [2, 3, 4, 5, 1, 0] (lv' := [(0, .ref (A 179)), (1, .int (Int32.ofInt xv)), (2, .int (Int32.ofInt nn)), (3, .int (Int32.ofInt c)), (4, .int (Int32.ofInt e1011)), (5, .int (Int32.ofInt (st0 + 1)))]) rfl ?_)))
              exact ih _ xv nn c e1011 (st0 + 1) Is1007 Gs1007 JRLx_s1007 (by first | exact ⟨And.intro (hi.1.1) (hi.1.2), And.intro (hi.2.1.1) (hi.2.1.2), And.intro (hi.2.2.1.1) (hi.2.2.1.2), oq_31e518ae re1011.2 re1011.1, oq_54f49eb5 hi.2.2.2.2.1, oq_5bf54478 g1002⟩ | omega) (by first | exact qk_me hm (by decide) (oq_2265a080 g1002) | omega) kx
            refine z_icmp_eq X (t := 109) rfl rfl (rng_to _) ⟨by first | exact hi.1.1 | omega, by first | exact hi.1.2 | omega⟩ (fun g1012 => ?_) (fun g1012 => ?_)
            ·
              exact z_const X rfl (N1010 _ (Or.inl ⟨g1012, rfl⟩))
            ·
              exact z_const X rfl (z_goto X (t := 110) rfl rfl (N1010 _ (Or.inr (⟨g1012, rfl⟩))))
  have L34 : ∀ (n : Nat) (t : PS) (xv nn c : Int), Bd t → Fm [73] [202, 204, 205, 206, 207, 208, 209, 210, 211, 212, 213, 214, 215, 216, 217, 218, 219, 220, 221, 222, 223, 224, 225, 226, 227, 203] s t → RLx t → (rng xv ∧ (0 ≤ nn ∧ nn ≤ c) ∧ c ≤ 128) → (128 - c : Int).toNat < n → (∀ (t' : PS) (nn' c' : Int), Bd t' → Fm [73] [202, 204, 205, 206, 207, 208, 209, 210, 211, 212, 213, 214, 215, 216, 217, 218, 219, 220, 221, 222, 223, 224, 225, 226, 227, 203] s t' → RLx t' → (rng xv ∧ (0 ≤ nn' ∧ nn' ≤ c') ∧ c' ≤ 128) → WS k 137 [(0, .ref (A 179)), (1, .int (Int32.ofInt xv)), (2, .int (Int32.ofInt nn')), (3, .int (Int32.ofInt c'))] [] (Wd A dT t') 0 0) → WS k 34 [(0, .ref (A 179)), (1, .int (Int32.ofInt xv)), (2, .int (Int32.ofInt nn)), (3, .int (Int32.ofInt c))] [] (Wd A dT t) 0 0 := by
    intro n
    induction n with
    | zero =>
      intro t xv nn c I F jjRLx hi hm kx
      exact absurd hm (Nat.not_lt_zero _)
    | succ n ih =>
      intro t xv nn c I F jjRLx hi hm kx
      have b2001 := bi_73 I
      refine z_load_n X (x := c) rfl (List.Mem.tail _ (List.Mem.tail _ (List.Mem.tail _ (List.Mem.head _)))) (z_sipush X rfl (z_icmp_ge X (t := 137) rfl rfl ⟨by first | exact oq_e001bc0d hi.2.1.2 hi.2.1.1 | omega, by first | exact oq_4ee82282 hi.2.2 | omega⟩ (by decide) (fun g2002 => ?_) (fun g2002 => ?_)))
      ·
        refine WS_pq [0, 1, 2, 3] (lv' := [(0, .ref (A 179)), (1, .int (Int32.ofInt xv)), (2, .int (Int32.ofInt nn)), (3, .int (Int32.ofInt c))]) rfl ?_
        exact kx _ nn c I F jjRLx (by first | exact ⟨And.intro (hi.1.1) (hi.1.2), And.intro (hi.2.1.1) (hi.2.1.2), hi.2.2⟩ | omega)
      ·
        refine z_aload_n X (x := A 179) rfl (List.Mem.head _) (s_getR X 179 rfl (c518_ok rfl) rfl rfl (z_load_n X (x := c) rfl (List.Mem.tail _ (List.Mem.tail _ (List.Mem.tail _ (List.Mem.head _)))) (z_ald X 256 rfl (c518_ok rfl) rfl (by first | exact oq_12a1f9e1 hi.2.1.2 hi.2.1.1 | omega) (show c < 128 by first | exact g2002 | omega) (cbig_ok rfl) ?_)))
        have b2003 := bc_228 I (show (c).toNat < 128 by first | exact oq_afb89947 g2002 | omega)
        refine z_load_n X (x := xv) rfl (List.Mem.tail _ (List.Mem.head _)) (z_icmp_ne X (t := 131) rfl rfl (rng_to _) ⟨by first | exact hi.1.1 | omega, by first | exact hi.1.2 | omega⟩ (fun g2004 => ?_) (fun g2004 => ?_))
        ·
          refine z_inc X (x := c) (lv' := [(3, .int (Int32.ofInt (c + 1))), (0, .ref (A 179)), (1, .int (Int32.ofInt xv)), (2, .int (Int32.ofInt nn))]) rfl (by decide) (List.Mem.tail _ (List.Mem.tail _ (List.Mem.tail _ (List.Mem.head _)))) (fun _ h => h) (z_goto X (t := 34) rfl rfl (WS_pq [1, 2, 3, 0] (lv' := [(0, .ref (A 179)), (1, .int (Int32.ofInt xv)), (2, .int (Int32.ofInt nn)), (3, .int (Int32.ofInt (c + 1)))]) rfl ?_))
          exact ih _ xv nn (c + 1) I F jjRLx (by first | exact ⟨And.intro (hi.1.1) (hi.1.2), And.intro (hi.2.1.1) (oq_03182e9e hi.2.1.2), oq_d2afb425 g2002⟩ | omega) (by first | exact qk_me hm (by decide) (oq_c268b7bd g2002) | omega) kx
        ·
          refine z_aload_n X (x := A 179) rfl (List.Mem.head _) (z_load_n X (x := c) rfl (List.Mem.tail _ (List.Mem.tail _ (List.Mem.tail _ (List.Mem.head _)))) (zcV_i1 X E 179 (As := [.int (Int32.ofInt c)]) (st := []) rfl rfl rfl rfl (k_isCrossing G I jjRLx (by first | exact ⟨oq_12a1f9e1 hi.2.1.2 hi.2.1.1, oq_04367f15 g2002⟩ | omega)) rfl (Nat.le_of_ble_eq_true rfl) (fun s2005 e2006 Is2005 Fs2005 JRLx_s2005 hrs2005 hps2005 => ?_)))
          have Gs2005 := fm_tq F Fs2005 rfl rfl
          have JRLx_s2005 : RLx s2005 := RLx_fm Fs2005 (by decide) jjRLx
          have ws2005_73 : iI s2005 73 = iI t 73 := fm_iq Fs2005 rfl
          refine z_if_ne X (t := 62) rfl rfl hrs2005 (fun g2007 => ?_) (fun g2007 => ?_)
          ·
            refine z_const X rfl (z_store X (lv' := [(4, .int (Int32.ofInt 0)), (0, .ref (A 179)), (1, .int (Int32.ofInt xv)), (2, .int (Int32.ofInt nn)), (3, .int (Int32.ofInt c))]) rfl (by decide) (fun _ h => h) (z_const X rfl (z_store X (lv' := [(5, .int (Int32.ofInt 0)), (4, .int (Int32.ofInt 0)), (0, .ref (A 179)), (1, .int (Int32.ofInt xv)), (2, .int (Int32.ofInt nn)), (3, .int (Int32.ofInt c))]) rfl (by decide) (fun _ h => h) (WS_pq [2, 3, 4, 5, 1, 0] (lv' := [(0, .ref (A 179)), (1, .int (Int32.ofInt xv)), (2, .int (Int32.ofInt nn)), (3, .int (Int32.ofInt c)), (4, .int (Int32.ofInt 0)), (5, .int (Int32.ofInt 0))]) rfl (L68 ((6 - 0 : Int).toNat + 1) s2005 xv nn c 0 0 Is2005 Gs2005 JRLx_s2005 (by first | exact ⟨And.intro (hi.1.1) (hi.1.2), And.intro (hi.2.1.1) (hi.2.1.2), And.intro (oq_12a1f9e1 hi.2.1.2 hi.2.1.1) (oq_04367f15 g2002), Or.inl (by decide), by decide, by decide⟩ | omega) (Nat.lt_succ_self _) ?_)))))
            intro s2008 x2009 x2010 Is2008 Fs2008 JRLx_s2008 hs2008
            have b2011 := bi_73 Is2008
            refine z_load_n X (x := nn) rfl (List.Mem.tail _ (List.Mem.tail _ (List.Mem.head _))) (z_load X (x := x2009) rfl (List.Mem.tail _ (List.Mem.tail _ (List.Mem.tail _ (List.Mem.tail _ (List.Mem.head _))))) ?_)
            have N2012 : ∀ e2013 : Int, (((x2009 = 0) ∧ e2013 = 0) ∨ ((x2009 ≠ 0) ∧ e2013 = 1)) → WS k 129 [(0, .ref (A 179)), (1, .int (Int32.ofInt xv)), (2, .int (Int32.ofInt nn)), (3, .int (Int32.ofInt c)), (4, .int (Int32.ofInt x2009)), (5, .int (Int32.ofInt x2010))] [.int (Int32.ofInt e2013), .int (Int32.ofInt nn)] (Wd A dT s2008) 0 0 := by
              intro e2013 he2013
              have re2013 : 0 ≤ e2013 ∧ e2013 ≤ 1 := by first | (clear he2013 g2007 hps2005; omega) | (clear g2007 hps2005; omega) | omega
              refine z_add X rfl (z_store_n X (lv' := [(2, .int (Int32.ofInt (nn + e2013))), (0, .ref (A 179)), (1, .int (Int32.ofInt xv)), (3, .int (Int32.ofInt c)), (4, .int (Int32.ofInt x2009)), (5, .int (Int32.ofInt x2010))]) rfl (by decide) (fun _ h => h) (z_inc X (x := c) (lv' := [(3, .int (Int32.ofInt (c + 1))), (2, .int (Int32.ofInt (nn + e2013))), (0, .ref (A 179)), (1, .int (Int32.ofInt xv)), (4, .int (Int32.ofInt x2009)), (5, .int (Int32.ofInt x2010))]) rfl (by decide) (List.Mem.tail _ (List.Mem.tail _ (List.Mem.tail _ (List.Mem.head _)))) (fun _ h => h) (z_goto X (t := 34) rfl rfl (WS_pq [2, 3, 1, 0] (lv' := [(0, .ref (A 179)), (1, .int (Int32.ofInt xv)), (2, .int (Int32.ofInt (nn + e2013))), (3, .int (Int32.ofInt (c + 1)))]) rfl ?_))))
              exact ih _ xv (nn + e2013) (c + 1) Is2008 Fs2008 JRLx_s2008 (by first | exact ⟨And.intro (hs2008.1.1) (hs2008.1.2), And.intro (oq_d8d6a599 re2013.1 hs2008.2.1.1) (oq_5c09eddf re2013.2 hs2008.2.1.2), oq_e4399267 hs2008.2.2.1.2⟩ | omega) (by first | exact qk_me hm (by decide) (oq_7e05e720 hs2008.2.2.1.2) | omega) kx
            refine z_if_eq X (t := 128) rfl rfl ⟨by first | exact oq_bde653e9 hs2008.2.2.2.1 | omega, by first | exact oq_4ad2cb8b hs2008.2.2.2.1 | omega⟩ (fun g2014 => ?_) (fun g2014 => ?_)
            ·
              exact z_const X rfl (N2012 _ (Or.inl ⟨g2014, rfl⟩))
            ·
              exact z_const X rfl (z_goto X (t := 129) rfl rfl (N2012 _ (Or.inr (⟨g2014, rfl⟩))))
          ·
            refine z_goto X (t := 131) rfl rfl (z_inc X (x := c) (lv' := [(3, .int (Int32.ofInt (c + 1))), (0, .ref (A 179)), (1, .int (Int32.ofInt xv)), (2, .int (Int32.ofInt nn))]) rfl (by decide) (List.Mem.tail _ (List.Mem.tail _ (List.Mem.tail _ (List.Mem.head _)))) (fun _ h => h) (z_goto X (t := 34) rfl rfl (WS_pq [1, 2, 3, 0] (lv' := [(0, .ref (A 179)), (1, .int (Int32.ofInt xv)), (2, .int (Int32.ofInt nn)), (3, .int (Int32.ofInt (c + 1)))]) rfl ?_)))
            exact ih _ xv nn (c + 1) Is2005 Gs2005 JRLx_s2005 (by first | exact ⟨And.intro (hi.1.1) (hi.1.2), And.intro (hi.2.1.1) (oq_03182e9e hi.2.1.2), oq_d2afb425 g2002⟩ | omega) (by first | exact qk_me hm (by decide) (oq_c268b7bd g2002) | omega) kx
  refine z_aload_n X (x := A 179) rfl (List.Mem.head _) (z_const X rfl (s_putI X 179 rfl (c518_ok rfl) rfl rfl (by decide) rfl rfl rfl (wd_gen (fun s2 hs2 => ?_))))
  have Is2 : Bd s2 := eqB hs2 (bd_I I (show (0 : Int) ≤ 0 ∧ 0 ≤ 3 by first | exact ⟨by decide, by decide⟩ | omega) (by decide))
  have Fs2 := eqF hs2 (fm_I F (inl_ok (a := 73) rfl))
  have vs2 : iI s2 73 = 0 := eqI hs2 (iI_u (by decide))
  have fs2 : Fm [73] [] s s2 := by rw [hs2]; exact fm_I (fm_rf _ _ _) (show 73 ∈ _ by decide)
  have JRLx_s2 : RLx s2 := RLx_fm fs2 (by decide) jRLx
  refine z_aload_n X (x := A 179) rfl (List.Mem.head _) (z_load_n X (x := x) rfl (List.Mem.tail _ (List.Mem.head _)) (z_const X rfl (z_bipush X rfl (zcS_i0 X E (As := [.int (Int32.ofInt x), .int (Int32.ofInt 0), .int (Int32.ofInt 7)]) (st := [.ref (A 179)]) rfl rfl (k_in G Is2 (by first | exact ⟨p0.1, p0.2⟩ | omega) (by first | exact ⟨by decide, by decide⟩ | omega) (by first | exact ⟨by decide, by decide⟩ | omega)) rfl (Nat.le_of_ble_eq_true rfl) (fun s3 e4 Is3 Fs3 hrs3 hps3 => ?_)))))
  have Gs3 := fm_tq Fs2 Fs3 rfl rfl
  have JRLx_s3 : RLx s3 := RLx_fm Fs3 (by decide) JRLx_s2
  have ws3_73 : iI s3 73 = iI s2 73 := fm_iq Fs3 rfl
  have N5 : ∀ e6 : Int, (((e4 ≠ 0) ∧ e6 = 0) ∨ ((e4 = 0) ∧ e6 = 1)) → WS k 21 [(0, .ref (A 179)), (1, .int (Int32.ofInt x))] [.int (Int32.ofInt e6), .ref (A 179)] (Wd A dT s3) 0 0 := by
    intro e6 he6
    have re6 : 0 ≤ e6 ∧ e6 ≤ 1 := by first | (clear he6 hps3; omega) | (clear hps3; omega) | omega
    refine z_const X rfl (zcV_i0 X E 179 (As := [.int (Int32.ofInt e6), .int (Int32.ofInt 1)]) (st := []) rfl rfl rfl rfl (k_bad G Is3 (by first | exact oq_31e518ae re6.2 re6.1 | omega) (by first | exact ⟨by decide, by decide⟩ | omega)) rfl (Nat.le_of_ble_eq_true rfl) (fun s7 e8 Is7 Fs7 hrs7 hps7 => ?_))
    have Gs7 := fm_tq Gs3 Fs7 rfl rfl
    have JRLx_s7 : RLx s7 := RLx_fm Fs7 (by decide) JRLx_s3
    have b9 := bi_73 Is7
    refine z_if_eq X (t := 30) rfl rfl hrs7 (fun g10 => ?_) (fun g10 => ?_)
    ·
      refine z_const X rfl (z_store_n X (lv' := [(2, .int (Int32.ofInt 0)), (0, .ref (A 179)), (1, .int (Int32.ofInt x))]) rfl (by decide) (fun _ h => h) (z_const X rfl (z_store_n X (lv' := [(3, .int (Int32.ofInt 0)), (2, .int (Int32.ofInt 0)), (0, .ref (A 179)), (1, .int (Int32.ofInt x))]) rfl (by decide) (fun _ h => h) (WS_pq [2, 3, 1, 0] (lv' := [(0, .ref (A 179)), (1, .int (Int32.ofInt x)), (2, .int (Int32.ofInt 0)), (3, .int (Int32.ofInt 0))]) rfl (L34 ((128 - 0 : Int).toNat + 1) s7 x 0 0 Is7 Gs7 JRLx_s7 (by first | exact ⟨And.intro (p0.1) (p0.2), And.intro (by decide) (by decide), by decide⟩ | omega) (Nat.lt_succ_self _) ?_)))))
      intro s11 x12 x13 Is11 Fs11 JRLx_s11 hs11
      have b14 := bi_73 Is11
      refine z_load_n X (x := x12) rfl (List.Mem.tail _ (List.Mem.tail _ (List.Mem.head _))) ?_
      exact w_iret X.1 q hRt rfl (ax_d X (show cdA 246 138 = some (.ireturn, 1, 0, 0, 0) from rfl)) (Nat.zero_le _) (Nat.zero_le _) ⟨_, rfl, Is11, Fs11, JRLx_s11, x12, rfl, ⟨by first | exact oq_fa4e5087 hs11.2.1.1 | omega, by first | exact oq_9eb6cd9c hs11.2.1.2 hs11.2.2 | omega⟩, trivial⟩
    ·
      refine z_const X rfl ?_
      exact w_iret X.1 q hRt rfl (ax_d X (show cdA 246 29 = some (.ireturn, 1, 0, 0, 0) from rfl)) (Nat.zero_le _) (Nat.zero_le _) ⟨_, rfl, Is7, Gs7, JRLx_s7, 0, rfl, (by decide), trivial⟩
  refine z_if_ne X (t := 20) rfl rfl hrs3 (fun g15 => ?_) (fun g15 => ?_)
  ·
    exact z_const X rfl (N5 _ (Or.inl ⟨g15, rfl⟩))
  ·
    exact z_const X rfl (z_goto X (t := 21) rfl rfl (N5 _ (Or.inr (⟨g15, rfl⟩))))
end M58
