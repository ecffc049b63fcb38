theorem oq_1a1eeab1 {a0 a1 : Int} (h0 : a0 < a1) (h1 : a1 ≤ 3) : a0 < 3 := by omega
theorem oq_2a01c7dc {a0 a1 : Int} (h0 : a0 < a1) (h1 : a1 ≤ 3) : (a0 : Int).toNat < 3 := by omega
theorem oq_e36c8877 {a0 a1 a2 : Int} (h0 : ((a0 = a1 ∧ a2 ≤ a1) ∨ (a0 = a2 ∧ a1 < a2))) (h1 : a2 ≤ 2147483647) (h2 : a1 ≤ 2147483647) (h3 : (-2147483648) ≤ a1) : ((-2147483648) ≤ a0 ∧ a0 ≤ 2147483647) := by omega
theorem oq_300cfc0a {a0 a1 : Int} (h0 : a0 ≤ a1) (h1 : a1 ≤ 3) : a0 ≤ 3 := by omega
theorem oq_8067230e : 7 + 1 ≤ (12 + (12 + (0))) := by omega
theorem oq_f178cd33 : 8 + (6 + 11) + 121 ≤ (500 + 45 * (12 + (0))) := by omega
theorem oq_f647a1c7 {a0 a1 : Int} (h0 : a0 ≤ a1) (h1 : a1 ≤ 3) : a0 ≤ 2147483647 := by omega
theorem oq_2da74134 {a0 a1 : Int} (h0 : a0 < a1) (h1 : a1 ≤ 8) : a0 ≤ 11 := by omega
theorem oq_07b7da50 {a0 a1 : Int} (h0 : a0 ≤ a1) (h1 : a1 ≤ 255) : a0 ≤ 255 := by omega
theorem oq_fdc39e03 {a0 a1 : Int} (h0 : a0 ≤ a1) (h1 : a1 ≤ 255) : a0 ≤ 2147483647 := by omega
theorem oq_bc9971d6 {a0 a1 a2 a3 a4 a5 : Int} (h0 : a0 = a1) (h1 : a2 < a3) (h2 : a1 = a4) (h3 : a4 = a5) (h4 : a5 = a3) : a2 < a0 := by omega
theorem oq_ae749fef (r : Nat) : 7 + 1 ≤ (12 + (12 + (r + 1))) := by omega
theorem oq_7e2d2a8e (r : Nat) : 8 + (6 + 11) + 121 ≤ (500 + 45 * (12 + (r + 1))) := by omega
theorem oq_24bb5479 {a0 a1 a2 : Int} (h0 : a0 = a1) (h1 : 1 ≤ a2) (h2 : a1 ≤ 8) : (a0 - a2) ≤ ((8 : Nat) : Int) := by omega
theorem oq_475ba1bc : 32 + 1 ≤ 33 := by omega
theorem oq_a1d4c57c : 8 + (5 + 11) + 1400 ≤ 1424 := by omega
/-! The class: joins, region -/
section M76
variable {l : Launch} {s0 : State} {D : va_G} {tys : List (ClassId × FieldType)} {a0 : Array Value} {A : Nat → Nat} {dT : Nat → ClassId} {s : PS}
set_option maxRecDepth 4000 in
theorem c7_joinsHold_19 (G : GX l s0 D tys a0 dT) (I : Bd s) (p0 : iI s 12 ≤ 8) : CT l s0 D A dT 83 (rmN 83) [.ref (A 19), .ref (A 39)] s (fun o t => Bd t ∧ Fm [] [20] s t ∧ ∃ e, o = .inl (some (.int (Int32.ofInt e))) ∧ rng e ∧ (e = 0 ∨ e = 1)) := by
  refine ct_ofX G (by decide) (Nat.le_of_ble_eq_true rfl) (fun k X E ET hRt hXt q => ?_)
  show WS k 0 [(0, .ref (A 19)), (1, .ref (A 39))] [] _ 0 0
  have F : Fm [] [20] s s := fm_rf _ _ s
  have b1 := bi_12 I
  have L2 : ∀ (n : Nat) (t : PS) (c : Int), Bd t → Fm [] [20] s t → (0 ≤ c ∧ c ≤ 8 ∧ iI t 12 ≤ 8) → (8 - c : Int).toNat < n → (∀ (t' : PS) (c' : Int), Bd t' → Fm [] [20] s t' → (0 ≤ c' ∧ c' ≤ 8 ∧ iI t' 12 ≤ 8) → WS k 38 [(0, .ref (A 19)), (1, .ref (A 39)), (2, .int (Int32.ofInt c'))] [] (Wd A dT t') 0 0) → WS k 2 [(0, .ref (A 19)), (1, .ref (A 39)), (2, .int (Int32.ofInt c))] [] (Wd A dT t) 0 0 := by
    intro n
    induction n with
    | zero =>
      intro t c I F hi hm kx
      exact absurd hm (Nat.not_lt_zero _)
    | succ n ih =>
      intro t c I F hi hm kx
      have b1001 := bi_12 I
      refine z_load_n X (x := c) rfl (List.Mem.tail _ (List.Mem.tail _ (List.Mem.head _))) (z_aload_n X (x := A 19) rfl (List.Mem.head _) (z_getI X 19 rfl (c518_ok rfl) rfl rfl ?_))
      have b1002 := bi_12 I
      refine z_icmp_ge X (t := 38) rfl rfl ⟨by first | exact oq_fa4e5087 hi.1 | omega, by first | exact oq_d3f5d874 hi.2.1 | omega⟩ (rng_to _) (fun g1003 => ?_) (fun g1003 => ?_)
      ·
        refine WS_pq [0, 1, 2] (lv' := [(0, .ref (A 19)), (1, .ref (A 39)), (2, .int (Int32.ofInt c))]) rfl ?_
        exact kx _ c I F (by first | exact ⟨hi.1, hi.2.1, hi.2.2⟩ | omega)
      ·
        refine z_aload_n X (x := A 19) rfl (List.Mem.head _) (z_getI X 19 rfl (c518_ok rfl) rfl rfl ?_)
        have b1004 := bi_14 I
        refine z_load_n X (x := c) rfl (List.Mem.tail _ (List.Mem.tail _ (List.Mem.head _))) (z_bshr X rfl (z_any (fun y1005 hy1005 => ?_)))
        refine z_const X rfl (z_band X rfl (z_any (fun y1006 hy1006 => ?_)))
        refine z_if_eq X (t := 32) rfl rfl hy1006 (fun g1007 => ?_) (fun g1007 => ?_)
        ·
          refine z_inc X (x := c) (lv' := [(2, .int (Int32.ofInt (c + 1))), (0, .ref (A 19)), (1, .ref (A 39))]) rfl (by decide) (List.Mem.tail _ (List.Mem.tail _ (List.Mem.head _))) (fun _ h => h) (z_goto X (t := 2) rfl rfl (WS_pq [1, 2, 0] (lv' := [(0, .ref (A 19)), (1, .ref (A 39)), (2, .int (Int32.ofInt (c + 1)))]) rfl ?_))
          exact ih _ (c + 1) I F (by first | exact ⟨oq_54f49eb5 hi.1, oq_f6204d84 g1003 hi.2.2, hi.2.2⟩ | omega) (by first | exact qk_me hm (by decide) (oq_ccc5e5e0 g1003 hi.2.2) | omega) kx
        ·
          refine z_aload_n X (x := A 19) rfl (List.Mem.head _) (z_load_n X (x := c) rfl (List.Mem.tail _ (List.Mem.tail _ (List.Mem.head _))) (z_aload_n X (x := A 39) rfl (List.Mem.tail _ (List.Mem.head _)) (zcV_i0 X E 19 (As := [.int (Int32.ofInt c), .ref (A 39)]) (st := []) rfl rfl rfl rfl (c7_work_31 G I (by first | exact ⟨oq_ca54ea22 hi.1, oq_e297cd40 g1003 hi.2.2⟩ | omega)) rfl (Nat.le_of_ble_eq_true rfl) (fun s1008 e1009 Is1008 Fs1008 hrs1008 hps1008 => ?_))))
          have Gs1008 := fm_tq F Fs1008 rfl rfl
          have ws1008_12 : iI s1008 12 = iI t 12 := fm_iq Fs1008 rfl
          refine z_if_ne X (t := 32) rfl rfl hrs1008 (fun g1010 => ?_) (fun g1010 => ?_)
          ·
            refine z_inc X (x := c) (lv' := [(2, .int (Int32.ofInt (c + 1))), (0, .ref (A 19)), (1, .ref (A 39))]) rfl (by decide) (List.Mem.tail _ (List.Mem.tail _ (List.Mem.head _))) (fun _ h => h) (z_goto X (t := 2) rfl rfl (WS_pq [1, 2, 0] (lv' := [(0, .ref (A 19)), (1, .ref (A 39)), (2, .int (Int32.ofInt (c + 1)))]) rfl ?_))
            exact ih _ (c + 1) Is1008 Gs1008 (by first | exact ⟨oq_54f49eb5 hi.1, oq_f6204d84 g1003 hi.2.2, oq_86ef0b17 ws1008_12 hi.2.2⟩ | omega) (by first | exact qk_me hm (by decide) (oq_ccc5e5e0 g1003 hi.2.2) | omega) kx
          ·
            refine z_const X rfl ?_
            exact w_iret X.1 q hRt (nar_ret (by first | exact Or.inl (by decide) | omega)) (ax_d X (show cdA 83 31 = some (.ireturn, 1, 0, 0, 0) from rfl)) (Nat.zero_le _) (Nat.zero_le _) ⟨_, rfl, Is1008, Gs1008, 0, rfl, (by decide), by first | exact Or.inl (by decide) | omega⟩
  refine z_const X rfl (z_store_n X (lv' := [(2, .int (Int32.ofInt 0)), (0, .ref (A 19)), (1, .ref (A 39))]) rfl (by decide) (fun _ h => h) (WS_pq [1, 2, 0] (lv' := [(0, .ref (A 19)), (1, .ref (A 39)), (2, .int (Int32.ofInt 0))]) rfl (L2 ((8 - 0 : Int).toNat + 1) s 0 I F (by first | exact ⟨by decide, by decide, p0⟩ | omega) (Nat.lt_succ_self _) ?_)))
  intro s2 x3 Is2 Fs2 hs2
  have b4 := bi_12 Is2
  refine z_const X rfl ?_
  exact w_iret X.1 q hRt (nar_ret (by first | exact Or.inr (by decide) | omega)) (ax_d X (show cdA 83 39 = some (.ireturn, 1, 0, 0, 0) from rfl)) (Nat.zero_le _) (Nat.zero_le _) ⟨_, rfl, Is2, Fs2, 1, rfl, (by decide), by first | exact Or.inr (by decide) | omega⟩
set_option maxRecDepth 4000 in
theorem c5_add_46 (G : GX l s0 D tys a0 dT) (I : Bd s) {x : Int} (p0 : 0 ≤ x ∧ x ≤ 127) : CT l s0 D A dT 54 (rmN 54) [.ref (A 46), .int (Int32.ofInt x)] s (fun o t => Bd t ∧ Fm [28] [39] s t ∧ ∃ e, o = .inl (some (.int (Int32.ofInt e))) ∧ rng e ∧ (True)) := by
  refine ct_ofX G (by decide) (Nat.le_of_ble_eq_true rfl) (fun k X E ET hRt hXt q => ?_)
  show WS k 0 [(0, .ref (A 46)), (1, .int (Int32.ofInt x))] [] _ 0 0
  have F : Fm [28] [39] s s := fm_rf _ _ s
  have b1 := bi_28 I
  have L13 : ∀ (n : Nat) (t : PS) (xv c : Int), Bd t → Fm [28] [39] s t → ((0 ≤ xv ∧ xv ≤ 127) ∧ 0 ≤ c ∧ c ≤ 8 ∧ iI t 28 ≤ 7) → (8 - c : Int).toNat < n → (∀ (t' : PS) (c' : Int), Bd t' → Fm [28] [39] s t' → ((0 ≤ xv ∧ xv ≤ 127) ∧ 0 ≤ c' ∧ c' ≤ 8 ∧ iI t' 28 ≤ 7) → WS k 40 [(0, .ref (A 46)), (1, .int (Int32.ofInt xv)), (2, .int (Int32.ofInt c'))] [] (Wd A dT t') 0 0) → WS k 13 [(0, .ref (A 46)), (1, .int (Int32.ofInt xv)), (2, .int (Int32.ofInt c))] [] (Wd A dT t) 0 0 := by
    intro n
    induction n with
    | zero =>
      intro t xv c I F hi hm kx
      exact absurd hm (Nat.not_lt_zero _)
    | succ n ih =>
      intro t xv c I F hi hm kx
      have b1001 := bi_28 I
      refine z_load_n X (x := c) rfl (List.Mem.tail _ (List.Mem.tail _ (List.Mem.head _))) (z_aload_n X (x := A 46) rfl (List.Mem.head _) (z_getI X 46 rfl (c518_ok rfl) rfl rfl ?_))
      have b1002 := bi_28 I
      refine z_icmp_ge X (t := 40) rfl rfl ⟨by first | exact oq_fa4e5087 hi.2.1 | omega, by first | exact oq_d3f5d874 hi.2.2.1 | omega⟩ (rng_to _) (fun g1003 => ?_) (fun g1003 => ?_)
      ·
        refine WS_pq [0, 1, 2] (lv' := [(0, .ref (A 46)), (1, .int (Int32.ofInt xv)), (2, .int (Int32.ofInt c))]) rfl ?_
        exact kx _ c I F (by first | exact ⟨And.intro (hi.1.1) (hi.1.2), hi.2.1, hi.2.2.1, hi.2.2.2⟩ | omega)
      ·
        refine z_aload_n X (x := A 46) rfl (List.Mem.head _) (s_getR X 46 rfl (c518_ok rfl) rfl rfl (z_load_n X (x := c) rfl (List.Mem.tail _ (List.Mem.tail _ (List.Mem.head _))) (z_ald X 47 rfl (c518_ok rfl) rfl (by first | exact hi.2.1 | omega) (show c < 8 by first | exact oq_7f5b2e79 g1003 b1002.2 | omega) (cbig_ok rfl) ?_)))
        have b1004 := bc_39 I (show (c).toNat < 8 by first | exact oq_67be0351 g1003 b1002.2 | omega)
        refine z_load_n X (x := xv) rfl (List.Mem.tail _ (List.Mem.head _)) (z_icmp_ne X (t := 34) rfl rfl (rng_to _) ⟨by first | exact oq_fa4e5087 hi.1.1 | omega, by first | exact oq_07d346ce hi.1.2 | omega⟩ (fun g1005 => ?_) (fun g1005 => ?_))
        ·
          refine z_inc X (x := c) (lv' := [(2, .int (Int32.ofInt (c + 1))), (0, .ref (A 46)), (1, .int (Int32.ofInt xv))]) rfl (by decide) (List.Mem.tail _ (List.Mem.tail _ (List.Mem.head _))) (fun _ h => h) (z_goto X (t := 13) rfl rfl (WS_pq [1, 2, 0] (lv' := [(0, .ref (A 46)), (1, .int (Int32.ofInt xv)), (2, .int (Int32.ofInt (c + 1)))]) rfl ?_))
          exact ih _ xv (c + 1) I F (by first | exact ⟨And.intro (hi.1.1) (hi.1.2), oq_54f49eb5 hi.2.1, oq_f6204d84 g1003 b1002.2, hi.2.2.2⟩ | omega) (by first | exact qk_me hm (by decide) (oq_ccc5e5e0 g1003 b1002.2) | omega) kx
        ·
          refine z_bipush X rfl ?_
          exact w_iret X.1 q hRt rfl (ax_d X (show cdA 54 33 = some (.ireturn, 1, 0, 0, 0) from rfl)) (Nat.zero_le _) (Nat.zero_le _) ⟨_, rfl, I, F, (-2), rfl, (by decide), trivial⟩
  refine z_aload_n X (x := A 46) rfl (List.Mem.head _) (z_getI X 46 rfl (c518_ok rfl) rfl rfl ?_)
  have b2 := bi_28 I
  refine z_bipush X rfl (z_icmp_lt X (t := 11) rfl rfl (rng_to _) (by decide) (fun g3 => ?_) (fun g3 => ?_))
  ·
    refine z_const X rfl (z_store_n X (lv' := [(2, .int (Int32.ofInt 0)), (0, .ref (A 46)), (1, .int (Int32.ofInt x))]) rfl (by decide) (fun _ h => h) (WS_pq [1, 2, 0] (lv' := [(0, .ref (A 46)), (1, .int (Int32.ofInt x)), (2, .int (Int32.ofInt 0))]) rfl (L13 ((8 - 0 : Int).toNat + 1) s x 0 I F (by first | exact ⟨And.intro (p0.1) (p0.2), by decide, by decide, oq_78c639ed g3⟩ | omega) (Nat.lt_succ_self _) ?_)))
    intro s4 x5 Is4 Fs4 hs4
    have b6 := bi_28 Is4
    refine z_aload_n X (x := A 46) rfl (List.Mem.head _) (s_getR X 46 rfl (c518_ok rfl) rfl rfl (z_aload_n X (x := A 46) rfl (List.Mem.head _) (z_getI X 46 rfl (c518_ok rfl) rfl rfl ?_)))
    have b7 := bi_28 Is4
    refine z_load_n X (x := x) rfl (List.Mem.tail _ (List.Mem.head _)) (z_ast X 47 rfl (c518_ok rfl) rfl (by first | exact b7.1 | omega) (show (iI s4 28) < 8 by first | exact oq_aaea290e hs4.2.2.2 | omega) (cbig_ok rfl) (wd_gen (fun s8 hs8 => ?_)))
    have Is8 : Bd s8 := eqB hs8 (bd_C Is4 (show (0 : Int) ≤ x ∧ x ≤ 127 by first | exact ⟨hs4.1.1, hs4.1.2⟩ | omega) ⟨by first | exact oq_fa4e5087 hs4.1.1 | omega, by first | exact oq_07d346ce hs4.1.2 | omega⟩)
    have Fs8 := eqF hs8 (fm_C Fs4 (inl_ok (a := 39) rfl))
    have ws8_28 : iI s8 28 = iI s4 28 := eqI hs8 rfl
    refine z_aload_n X (x := A 46) rfl (List.Mem.head _) (w_dup X.1 (ax_d X (show cdA 54 51 = some (.dup, 1, 0, 0, 0) from rfl)) rfl (z_getI X 46 rfl (c518_ok rfl) rfl rfl ?_))
    have b9 := bi_28 Is8
    refine z_const X rfl (z_add X rfl (s_putI X 46 rfl (c518_ok rfl) rfl rfl (by decide) rfl rfl rfl (wd_gen (fun s10 hs10 => ?_))))
    have Is10 : Bd s10 := eqB hs10 (bd_I Is8 (show (0 : Int) ≤ ((iI s8 28) + 1) ∧ ((iI s8 28) + 1) ≤ 8 by first | exact ⟨oq_54f49eb5 b9.1, oq_216077ba ws8_28 hs4.2.2.2⟩ | omega) ⟨by first | exact oq_74de1e16 b9.1 | omega, by first | exact oq_3762dfb5 b9.2 | omega⟩)
    have Fs10 := eqF hs10 (fm_I Fs8 (inl_ok (a := 28) rfl))
    have vs10 : iI s10 28 = ((iI s8 28) + 1) := eqI hs10 (iI_u ⟨by first | exact oq_74de1e16 b9.1 | omega, by first | exact oq_3762dfb5 b9.2 | omega⟩)
    refine z_aload_n X (x := A 46) rfl (List.Mem.head _) (z_getI X 46 rfl (c518_ok rfl) rfl rfl ?_)
    have b11 := bi_28 Is10
    exact w_iret X.1 q hRt rfl (ax_d X (show cdA 54 64 = some (.ireturn, 1, 0, 0, 0) from rfl)) (Nat.zero_le _) (Nat.zero_le _) ⟨_, rfl, Is10, Fs10, (iI s10 28), rfl, (rng_to _), trivial⟩
  ·
    refine z_const X rfl ?_
    exact w_iret X.1 q hRt rfl (ax_d X (show cdA 54 10 = some (.ireturn, 1, 0, 0, 0) from rfl)) (Nat.zero_le _) (Nat.zero_le _) ⟨_, rfl, I, F, (-1), rfl, (by decide), trivial⟩
set_option maxRecDepth 4000 in
theorem c5_hearSubset_46 (G : GX l s0 D tys a0 dT) (I : Bd s) {x : Int} (p0 : 1 ≤ x ∧ x ≤ 255) : CT l s0 D A dT 56 (rmN 56) [.ref (A 46), .int (Int32.ofInt x)] s (fun o t => Bd t ∧ Fm [22, 23, 24] [33, 26, 27, 28, 29, 30, 31, 32, 20, 40, 41, 42] s t ∧ o = .inl none ∧ (True)) := by
  refine ct_ofX G (by decide) (Nat.le_of_ble_eq_true rfl) (fun k X E ET hRt hXt q => ?_)
  show WS k 0 [(0, .ref (A 46)), (1, .int (Int32.ofInt x))] [] _ 0 0
  have F : Fm [22, 23, 24] [33, 26, 27, 28, 29, 30, 31, 32, 20, 40, 41, 42] s s := fm_rf _ _ s
  have b1 := bi_28 I
  have L8 : ∀ (n : Nat) (t : PS) (xv : Int) (lw : Int64) (hw : Int64) (c : Int), Bd t → Fm [22, 23, 24] [33, 26, 27, 28, 29, 30, 31, 32, 20, 40, 41, 42] s t → ((1 ≤ xv ∧ xv ≤ 255) ∧ 0 ≤ c ∧ c ≤ 8) → (8 - c : Int).toNat < n → (∀ (t' : PS) (lw' : Int64) (hw' : Int64) (c' : Int), Bd t' → Fm [22, 23, 24] [33, 26, 27, 28, 29, 30, 31, 32, 20, 40, 41, 42] s t' → ((1 ≤ xv ∧ xv ≤ 255) ∧ 0 ≤ c' ∧ c' ≤ 8) → WS k 73 [(0, .ref (A 46)), (1, .int (Int32.ofInt xv)), (2, .long lw'), (4, .long hw'), (6, .int (Int32.ofInt c'))] [] (Wd A dT t') 0 0) → WS k 8 [(0, .ref (A 46)), (1, .int (Int32.ofInt xv)), (2, .long lw), (4, .long hw), (6, .int (Int32.ofInt c))] [] (Wd A dT t) 0 0 := by
    intro n
    induction n with
    | zero =>
      intro t xv lw hw c I F hi hm kx
      exact absurd hm (Nat.not_lt_zero _)
    | succ n ih =>
      intro t xv lw hw c I F hi hm kx
      have b1001 := bi_28 I
      refine z_load X (x := c) rfl (List.Mem.tail _ (List.Mem.tail _ (List.Mem.tail _ (List.Mem.tail _ (List.Mem.head _))))) (z_aload_n X (x := A 46) rfl (List.Mem.head _) (z_getI X 46 rfl (c518_ok rfl) rfl rfl ?_))
      have b1002 := bi_28 I
      refine z_icmp_ge X (t := 73) rfl rfl ⟨by first | exact oq_fa4e5087 hi.2.1 | omega, by first | exact oq_d3f5d874 hi.2.2 | omega⟩ (rng_to _) (fun g1003 => ?_) (fun g1003 => ?_)
      ·
        refine WS_pq [0, 1, 2, 3, 4] (lv' := [(0, .ref (A 46)), (1, .int (Int32.ofInt xv)), (2, .long lw), (4, .long hw), (6, .int (Int32.ofInt c))]) rfl ?_
        exact kx _ lw hw c I F (by first | exact ⟨And.intro (hi.1.1) (hi.1.2), hi.2.1, hi.2.2⟩ | omega)
      ·
        refine z_load_n X (x := xv) rfl (List.Mem.tail _ (List.Mem.head _)) (z_load X (x := c) rfl (List.Mem.tail _ (List.Mem.tail _ (List.Mem.tail _ (List.Mem.tail _ (List.Mem.head _))))) (z_bshr X rfl (z_any (fun y1004 hy1004 => ?_))))
        refine z_const X rfl (z_band X rfl (z_any (fun y1005 hy1005 => ?_)))
        refine z_if_eq X (t := 67) rfl rfl hy1005 (fun g1006 => ?_) (fun g1006 => ?_)
        ·
          refine z_inc X (x := c) (lv' := [(6, .int (Int32.ofInt (c + 1))), (0, .ref (A 46)), (1, .int (Int32.ofInt xv)), (2, .long lw), (4, .long hw)]) rfl (by decide) (List.Mem.tail _ (List.Mem.tail _ (List.Mem.tail _ (List.Mem.tail _ (List.Mem.head _))))) (fun _ h => h) (z_goto X (t := 8) rfl rfl (WS_pq [1, 2, 3, 4, 0] (lv' := [(0, .ref (A 46)), (1, .int (Int32.ofInt xv)), (2, .long lw), (4, .long hw), (6, .int (Int32.ofInt (c + 1)))]) rfl ?_))
          exact ih _ xv lw hw (c + 1) I F (by first | exact ⟨And.intro (hi.1.1) (hi.1.2), oq_54f49eb5 hi.2.1, oq_f6204d84 g1003 b1002.2⟩ | omega) (by first | exact qk_me hm (by decide) (oq_ccc5e5e0 g1003 b1002.2) | omega) kx
        ·
          refine w_lconst X.1 (ax_d X (show cdA 56 26 = some (.lconst 1, 1, 0, 0, 0) from rfl)) rfl (z_anyJ (fun j1007 => ?_))
          refine z_aload_n X (x := A 46) rfl (List.Mem.head _) (s_getR X 46 rfl (c518_ok rfl) rfl rfl (z_load X (x := c) rfl (List.Mem.tail _ (List.Mem.tail _ (List.Mem.tail _ (List.Mem.tail _ (List.Mem.head _))))) (z_ald X 47 rfl (c518_ok rfl) rfl (by first | exact hi.2.1 | omega) (show c < 8 by first | exact oq_7f5b2e79 g1003 b1002.2 | omega) (cbig_ok rfl) ?_)))
          have b1008 := bc_39 I (show (c).toNat < 8 by first | exact oq_67be0351 g1003 b1002.2 | omega)
          refine z_bipush X rfl (z_band X rfl (z_any (fun y1009 hy1009 => ?_)))
          refine w_lshl X.1 (ax_d X (show cdA 56 37 = some (.lshl, 1, 0, 0, 0) from rfl)) (z_anyJ (fun j1010 => ?_))
          refine w_lstore X.1 (lv' := [(7, .long j1010), (0, .ref (A 46)), (1, .int (Int32.ofInt xv)), (2, .long lw), (4, .long hw), (6, .int (Int32.ofInt c))]) (ax_d X (show cdA 56 38 = some (.lstore 7, 2, 0, 0, 0) from rfl)) (by rw [X.2.1.2.2]; decide) (fun _ h => h) (z_aload_n X (x := A 46) rfl (List.Mem.tail _ (List.Mem.head _)) (s_getR X 46 rfl (c518_ok rfl) rfl rfl (z_load X (x := c) rfl (List.Mem.tail _ (List.Mem.tail _ (List.Mem.tail _ (List.Mem.tail _ (List.Mem.tail _ (List.Mem.head _)))))) (z_ald X 47 rfl (c518_ok rfl) rfl (by first | exact hi.2.1 | omega) (show c < 8 by first | exact oq_7f5b2e79 g1003 b1002.2 | omega) (cbig_ok rfl) ?_))))
          have b1011 := bc_39 I (show (c).toNat < 8 by first | exact oq_67be0351 g1003 b1002.2 | omega)
          refine z_bipush X rfl (z_icmp_ge X (t := 60) rfl rfl (rng_to _) (by decide) (fun g1012 => ?_) (fun g1012 => ?_))
          ·
            refine w_lload X.1 (ax_d X (show cdA 56 60 = some (.lload 4, 2, 0, 0, 0) from rfl)) (x := hw) (List.Mem.tail _ (List.Mem.tail _ (List.Mem.tail _ (List.Mem.tail _ (List.Mem.head _))))) (w_lload X.1 (ax_d X (show cdA 56 62 = some (.lload 7, 2, 0, 0, 0) from rfl)) (x := j1010) (List.Mem.head _) (w_lor X.1 (ax_d X (show cdA 56 64 = some (.lor, 1, 0, 0, 0) from rfl)) (z_anyJ (fun j1013 => ?_))))
            refine w_lstore X.1 (lv' := [(4, .long j1013), (7, .long j1010), (0, .ref (A 46)), (1, .int (Int32.ofInt xv)), (2, .long lw), (6, .int (Int32.ofInt c))]) (ax_d X (show cdA 56 65 = some (.lstore 4, 2, 0, 0, 0) from rfl)) (by rw [X.2.1.2.2]; decide) (fun _ h => h) (z_inc X (x := c) (lv' := [(6, .int (Int32.ofInt (c + 1))), (4, .long j1013), (7, .long j1010), (0, .ref (A 46)), (1, .int (Int32.ofInt xv)), (2, .long lw)]) rfl (by decide) (List.Mem.tail _ (List.Mem.tail _ (List.Mem.tail _ (List.Mem.tail _ (List.Mem.tail _ (List.Mem.head _)))))) (fun _ h => h) (z_goto X (t := 8) rfl rfl (WS_pq [3, 4, 5, 1, 0] (lv' := [(0, .ref (A 46)), (1, .int (Int32.ofInt xv)), (2, .long lw), (4, .long j1013), (6, .int (Int32.ofInt (c + 1)))]) rfl ?_)))
            exact ih _ xv lw j1013 (c + 1) I F (by first | exact ⟨And.intro (hi.1.1) (hi.1.2), oq_54f49eb5 hi.2.1, oq_f6204d84 g1003 b1002.2⟩ | omega) (by first | exact qk_me hm (by decide) (oq_ccc5e5e0 g1003 b1002.2) | omega) kx
          ·
            refine w_lload_n X.1 (ax_d X (show cdA 56 52 = some (.lload_n 2, 1, 0, 0, 0) from rfl)) (x := lw) (List.Mem.tail _ (List.Mem.tail _ (List.Mem.tail _ (List.Mem.head _)))) (w_lload X.1 (ax_d X (show cdA 56 53 = some (.lload 7, 2, 0, 0, 0) from rfl)) (x := j1010) (List.Mem.head _) (w_lor X.1 (ax_d X (show cdA 56 55 = some (.lor, 1, 0, 0, 0) from rfl)) (z_anyJ (fun j1014 => ?_))))
            refine w_lstore_n X.1 (lv' := [(2, .long j1014), (7, .long j1010), (0, .ref (A 46)), (1, .int (Int32.ofInt xv)), (4, .long hw), (6, .int (Int32.ofInt c))]) (ax_d X (show cdA 56 56 = some (.lstore_n 2, 1, 0, 0, 0) from rfl)) (by rw [X.2.1.2.2]; decide) (fun _ h => h) (z_goto X (t := 67) rfl rfl (z_inc X (x := c) (lv' := [(6, .int (Int32.ofInt (c + 1))), (2, .long j1014), (7, .long j1010), (0, .ref (A 46)), (1, .int (Int32.ofInt xv)), (4, .long hw)]) rfl (by decide) (List.Mem.tail _ (List.Mem.tail _ (List.Mem.tail _ (List.Mem.tail _ (List.Mem.tail _ (List.Mem.head _)))))) (fun _ h => h) (z_goto X (t := 8) rfl rfl (WS_pq [3, 4, 1, 5, 0] (lv' := [(0, .ref (A 46)), (1, .int (Int32.ofInt xv)), (2, .long j1014), (4, .long hw), (6, .int (Int32.ofInt (c + 1)))]) rfl ?_))))
            exact ih _ xv j1014 hw (c + 1) I F (by first | exact ⟨And.intro (hi.1.1) (hi.1.2), oq_54f49eb5 hi.2.1, oq_f6204d84 g1003 b1002.2⟩ | omega) (by first | exact qk_me hm (by decide) (oq_ccc5e5e0 g1003 b1002.2) | omega) kx
  refine w_lconst X.1 (ax_d X (show cdA 56 0 = some (.lconst 0, 1, 0, 0, 0) from rfl)) rfl (z_anyJ (fun j2 => ?_))
  refine w_lstore_n X.1 (lv' := [(2, .long j2), (0, .ref (A 46)), (1, .int (Int32.ofInt x))]) (ax_d X (show cdA 56 1 = some (.lstore_n 2, 1, 0, 0, 0) from rfl)) (by rw [X.2.1.2.2]; decide) (fun _ h => h) (w_lconst X.1 (ax_d X (show cdA 56 2 = some (.lconst 0, 1, 0, 0, 0) from rfl)) rfl (z_anyJ (fun j3 => ?_)))
  refine w_lstore X.1 (lv' := [(4, .long j3), (2, .long j2), (0, .ref (A 46)), (1, .int (Int32.ofInt x))]) (ax_d X (show cdA 56 3 = some (.lstore 4, 2, 0, 0, 0) from rfl)) (by rw [X.2.1.2.2]; decide) (fun _ h => h) (z_const X rfl (z_store X (lv' := [(6, .int (Int32.ofInt 0)), (4, .long j3), (2, .long j2), (0, .ref (A 46)), (1, .int (Int32.ofInt x))]) rfl (by decide) (fun _ h => h) (WS_pq [3, 4, 2, 1, 0] (lv' := [(0, .ref (A 46)), (1, .int (Int32.ofInt x)), (2, .long j2), (4, .long j3), (6, .int (Int32.ofInt 0))]) rfl (L8 ((8 - 0 : Int).toNat + 1) s x j2 j3 0 I F (by first | exact ⟨And.intro (p0.1) (p0.2), by decide, by decide⟩ | omega) (Nat.lt_succ_self _) ?_))))
  intro s4 x5 x6 x7 Is4 Fs4 hs4
  have b8 := bi_28 Is4
  refine z_aload_n X (x := A 46) rfl (List.Mem.head _) (s_getR X 46 rfl (c518_ok rfl) rfl rfl (z_load_n X (x := x) rfl (List.Mem.tail _ (List.Mem.head _)) (w_lload_n X.1 (ax_d X (show cdA 56 78 = some (.lload_n 2, 1, 0, 0, 0) from rfl)) (x := x5) (List.Mem.tail _ (List.Mem.tail _ (List.Mem.head _))) (w_lload X.1 (ax_d X (show cdA 56 79 = some (.lload 4, 2, 0, 0, 0) from rfl)) (x := x6) (List.Mem.tail _ (List.Mem.tail _ (List.Mem.tail _ (List.Mem.head _)))) (zcS_i0 X E (As := [.long x5, .long x6]) (st := [.int (Int32.ofInt x), .ref (A 48)]) rfl rfl (c3_hangs G Is4 ) rfl (Nat.le_of_ble_eq_true rfl) (fun s9 e10 Is9 Fs9 hrs9 hps9 => ?_))))))
  have Gs9 := fm_tq Fs4 Fs9 rfl rfl
  have ws9_28 : iI s9 28 = iI s4 28 := fm_iq Fs9 rfl
  refine z_zast X 48 rfl (c518_ok rfl) rfl (by first | exact oq_2a6e3b50 hs4.1.1 | omega) (show x < 256 by first | exact oq_29e5dbe2 hs4.1.2 | omega) (cbig_ok rfl) (by first | exact hps9 | omega) (wd_gen (fun s11 hs11 => ?_))
  have Is11 : Bd s11 := eqB hs11 (bd_C Is9 (show (0 : Int) ≤ e10 ∧ e10 ≤ 1 by first | exact ⟨oq_e4aca38c hps9, oq_14617724 hps9⟩ | omega) hrs9)
  have Fs11 := eqF hs11 (fm_C Gs9 (inl_ok (a := 40) rfl))
  have ws11_28 : iI s11 28 = iI s9 28 := eqI hs11 rfl
  refine z_aload_n X (x := A 46) rfl (List.Mem.head _) (s_getR X 46 rfl (c518_ok rfl) rfl rfl (z_load_n X (x := x) rfl (List.Mem.tail _ (List.Mem.head _)) (z_zald X 48 rfl (c518_ok rfl) rfl (by first | exact oq_2a6e3b50 hs4.1.1 | omega) (show x < 256 by first | exact oq_29e5dbe2 hs4.1.2 | omega) (cbig_ok rfl) ?_)))
  have b12 := bc_40 Is11 (show (x).toNat < 256 by first | exact oq_c39a26fc hs4.1.2 | omega)
  refine z_if_eq X (t := 131) rfl rfl (rng_to _) (fun g13 => ?_) (fun g13 => ?_)
  ·
    exact w_vret X.1 q hRt (ax_d X (show cdA 56 131 = some (.return_, 1, 0, 0, 0) from rfl)) (Nat.zero_le _) (Nat.zero_le _) ⟨_, rfl, Is11, Fs11, rfl, trivial⟩
  ·
    refine z_aload_n X (x := A 46) rfl (List.Mem.head _) (s_getR X 46 rfl (c518_ok rfl) rfl rfl (w_lload_n X.1 (ax_d X (show cdA 56 98 = some (.lload_n 2, 1, 0, 0, 0) from rfl)) (x := x5) (List.Mem.tail _ (List.Mem.tail _ (List.Mem.head _))) (w_lload X.1 (ax_d X (show cdA 56 99 = some (.lload 4, 2, 0, 0, 0) from rfl)) (x := x6) (List.Mem.tail _ (List.Mem.tail _ (List.Mem.tail _ (List.Mem.head _)))) (z_const X rfl (zcV_v0 X E 31 (As := [.long x5, .long x6, .int (Int32.ofInt 1)]) (st := []) rfl rfl rfl rfl (c0_listen_31 G Is11 (by first | exact ⟨by decide, by decide⟩ | omega)) rfl (Nat.le_of_ble_eq_true rfl) (fun s14 Is14 Fs14 hps14 => ?_))))))
    have Gs14 := fm_tq Fs11 Fs14 rfl rfl
    have ws14_28 : iI s14 28 = iI s11 28 := fm_iq Fs14 rfl
    refine z_aload_n X (x := A 46) rfl (List.Mem.head _) (s_getR X 46 rfl (c518_ok rfl) rfl rfl (z_load_n X (x := x) rfl (List.Mem.tail _ (List.Mem.head _)) (z_aload_n X (x := A 46) rfl (List.Mem.head _) (s_getR X 46 rfl (c518_ok rfl) rfl rfl (zcV_i0 X E 31 (As := []) (st := [.int (Int32.ofInt x), .ref (A 49)]) rfl rfl rfl rfl (c0_findPeak_31 G Is14 ) rfl (Nat.le_of_ble_eq_true rfl) (fun s16 e17 Is16 Fs16 hrs16 hps16 => ?_))))))
    have Gs16 := fm_tq Gs14 Fs16 rfl rfl
    have ws16_28 : iI s16 28 = iI s14 28 := fm_iq Fs16 rfl
    refine z_ast X 49 rfl (c518_ok rfl) rfl (by first | exact oq_2a6e3b50 hs4.1.1 | omega) (show x < 256 by first | exact oq_29e5dbe2 hs4.1.2 | omega) (cbig_ok rfl) (wd_gen (fun s18 hs18 => ?_))
    have Is18 : Bd s18 := eqB hs18 (bd_C Is16 (show ((-2147483648) : Int) ≤ e17 ∧ e17 ≤ 2147483647 by first | (clear g13 hps9; omega) | (clear hps9; omega) | omega) hrs16)
    have Fs18 := eqF hs18 (fm_C Gs16 (inl_ok (a := 41) rfl))
    have ws18_28 : iI s18 28 = iI s16 28 := eqI hs18 rfl
    refine z_aload_n X (x := A 46) rfl (List.Mem.head _) (s_getR X 46 rfl (c518_ok rfl) rfl rfl (z_load_n X (x := x) rfl (List.Mem.tail _ (List.Mem.head _)) (z_aload_n X (x := A 46) rfl (List.Mem.head _) (s_getR X 46 rfl (c518_ok rfl) rfl rfl (zcV_i0 X E 31 (As := []) (st := [.int (Int32.ofInt x), .ref (A 50)]) rfl rfl rfl rfl (c0_overInAll_31 G Is18 ) rfl (Nat.le_of_ble_eq_true rfl) (fun s19 e20 Is19 Fs19 hrs19 hps19 => ?_))))))
    have Gs19 := fm_tq Fs18 Fs19 rfl rfl
    have ws19_28 : iI s19 28 = iI s18 28 := fm_iq Fs19 rfl
    refine z_ast X 50 rfl (c518_ok rfl) rfl (by first | exact oq_2a6e3b50 hs4.1.1 | omega) (show x < 256 by first | exact oq_29e5dbe2 hs4.1.2 | omega) (cbig_ok rfl) (wd_gen (fun s21 hs21 => ?_))
    have Is21 : Bd s21 := eqB hs21 (bd_C Is19 (show ((-2147483648) : Int) ≤ e20 ∧ e20 ≤ 2147483647 by first | (clear g13 hps9; omega) | (clear hps9; omega) | omega) hrs19)
    have Fs21 := eqF hs21 (fm_C Gs19 (inl_ok (a := 42) rfl))
    have ws21_28 : iI s21 28 = iI s19 28 := eqI hs21 rfl
    exact w_vret X.1 q hRt (ax_d X (show cdA 56 131 = some (.return_, 1, 0, 0, 0) from rfl)) (Nat.zero_le _) (Nat.zero_le _) ⟨_, rfl, Is21, Fs21, rfl, trivial⟩
set_option maxRecDepth 4000 in
theorem c5_compare_46 (G : GX l s0 D tys a0 dT) (I : Bd s) {x : Int} (p0 : 0 ≤ x ∧ x ≤ 3) : CT l s0 D A dT 58 (rmN 58) [.ref (A 46), .int (Int32.ofInt x)] s (fun o t => Bd t ∧ Fm [31, 29, 30] [45] s t ∧ o = .inl none ∧ (True)) := by
  refine ct_ofX G (by decide) (Nat.le_of_ble_eq_true rfl) (fun k X E ET hRt hXt q => ?_)
  show WS k 0 [(0, .ref (A 46)), (1, .int (Int32.ofInt x))] [] _ 0 0
  have F : Fm [31, 29, 30] [45] s s := fm_rf _ _ s
  have b1 := bi_28 I
  have L8 : ∀ (n : Nat) (t : PS) (xv pk ov hp : Int), Bd t → Fm [31, 29, 30] [45] s t → ((0 ≤ xv ∧ xv ≤ 3) ∧ rng pk ∧ rng ov ∧ 0 ≤ hp ∧ hp ≤ 3) → (3 - hp : Int).toNat < n → (∀ (t' : PS) (pk' ov' hp' : Int), Bd t' → Fm [31, 29, 30] [45] s t' → ((0 ≤ xv ∧ xv ≤ 3) ∧ rng pk' ∧ rng ov' ∧ 0 ≤ hp' ∧ hp' ≤ 3) → WS k 62 [(0, .ref (A 46)), (1, .int (Int32.ofInt xv)), (2, .int (Int32.ofInt pk')), (3, .int (Int32.ofInt ov')), (4, .int (Int32.ofInt hp'))] [] (Wd A dT t') 0 0) → WS k 8 [(0, .ref (A 46)), (1, .int (Int32.ofInt xv)), (2, .int (Int32.ofInt pk)), (3, .int (Int32.ofInt ov)), (4, .int (Int32.ofInt hp))] [] (Wd A dT t) 0 0 := by
    intro n
    induction n with
    | zero =>
      intro t xv pk ov hp I F hi hm kx
      exact absurd hm (Nat.not_lt_zero _)
    | succ n ih =>
      intro t xv pk ov hp I F hi hm kx
      have b1001 := bi_28 I
      refine z_load X (x := hp) rfl (List.Mem.tail _ (List.Mem.tail _ (List.Mem.tail _ (List.Mem.tail _ (List.Mem.head _))))) (z_load_n X (x := xv) rfl (List.Mem.tail _ (List.Mem.head _)) (z_icmp_ge X (t := 62) rfl rfl ⟨by first | exact oq_fa4e5087 hi.2.2.2.1 | omega, by first | exact oq_c5520c83 hi.2.2.2.2 | omega⟩ ⟨by first | exact oq_fa4e5087 hi.1.1 | omega, by first | exact oq_c5520c83 hi.1.2 | omega⟩ (fun g1002 => ?_) (fun g1002 => ?_)))
      ·
        refine WS_pq [0, 1, 2, 3, 4] (lv' := [(0, .ref (A 46)), (1, .int (Int32.ofInt xv)), (2, .int (Int32.ofInt pk)), (3, .int (Int32.ofInt ov)), (4, .int (Int32.ofInt hp))]) rfl ?_
        exact kx _ pk ov hp I F (by first | exact ⟨And.intro (hi.1.1) (hi.1.2), And.intro (hi.2.1.1) (hi.2.1.2), And.intro (hi.2.2.1.1) (hi.2.2.1.2), hi.2.2.2.1, hi.2.2.2.2⟩ | omega)
      ·
        refine z_aload_n X (x := A 46) rfl (List.Mem.head _) (s_getR X 46 rfl (c518_ok rfl) rfl rfl (z_load X (x := hp) rfl (List.Mem.tail _ (List.Mem.tail _ (List.Mem.tail _ (List.Mem.tail _ (List.Mem.head _))))) (z_ald X 52 rfl (c518_ok rfl) rfl (by first | exact hi.2.2.2.1 | omega) (show hp < 3 by first | exact oq_1a1eeab1 g1002 hi.1.2 | omega) (cbig_ok rfl) ?_)))
        have b1003 := bc_44 I (show (hp).toNat < 3 by first | exact oq_2a01c7dc g1002 hi.1.2 | omega)
        refine z_store X (lv' := [(5, .int (Int32.ofInt (iC t 44 (hp).toNat))), (0, .ref (A 46)), (1, .int (Int32.ofInt xv)), (2, .int (Int32.ofInt pk)), (3, .int (Int32.ofInt ov)), (4, .int (Int32.ofInt hp))]) rfl (by decide) (fun _ h => h) (z_aload_n X (x := A 46) rfl (List.Mem.tail _ (List.Mem.head _)) (s_getR X 46 rfl (c518_ok rfl) rfl rfl (z_load X (x := (iC t 44 (hp).toNat)) rfl (List.Mem.head _) (z_zald X 48 rfl (c518_ok rfl) rfl (by first | exact b1003.1 | omega) (show (iC t 44 (hp).toNat) < 256 by first | exact oq_29e5dbe2 b1003.2 | omega) (cbig_ok rfl) ?_))))
        have b1004 := bc_40 I (show ((iC t 44 (hp).toNat)).toNat < 256 by first | exact oq_c39a26fc b1003.2 | omega)
        refine z_if_ne X (t := 34) rfl rfl (rng_to _) (fun g1005 => ?_) (fun g1005 => ?_)
        ·
          refine z_load_n X (x := pk) rfl (List.Mem.tail _ (List.Mem.tail _ (List.Mem.tail _ (List.Mem.head _)))) (z_aload_n X (x := A 46) rfl (List.Mem.tail _ (List.Mem.head _)) (s_getR X 46 rfl (c518_ok rfl) rfl rfl (z_load X (x := (iC t 44 (hp).toNat)) rfl (List.Mem.head _) (z_ald X 49 rfl (c518_ok rfl) rfl (by first | exact b1003.1 | omega) (show (iC t 44 (hp).toNat) < 256 by first | exact oq_29e5dbe2 b1003.2 | omega) (cbig_ok rfl) ?_))))
          have b1006 := bc_41 I (show ((iC t 44 (hp).toNat)).toNat < 256 by first | exact oq_c39a26fc b1003.2 | omega)
          refine z_max X rfl ⟨by first | exact hi.2.1.1 | omega, by first | exact hi.2.1.2 | omega⟩ (rng_to _) (by rw [E.2.2.2]; decide) (by rw [E.2.2.2]; exact Nat.le_of_ble_eq_true rfl) (Nat.zero_le _) (Nat.zero_le _) (fun e1007 he1007 => ?_)
          refine z_store_n X (lv' := [(2, .int (Int32.ofInt e1007)), (5, .int (Int32.ofInt (iC t 44 (hp).toNat))), (0, .ref (A 46)), (1, .int (Int32.ofInt xv)), (3, .int (Int32.ofInt ov)), (4, .int (Int32.ofInt hp))]) rfl (by decide) (fun _ h => h) (z_load_n X (x := ov) rfl (List.Mem.tail _ (List.Mem.tail _ (List.Mem.tail _ (List.Mem.tail _ (List.Mem.head _))))) (z_aload_n X (x := A 46) rfl (List.Mem.tail _ (List.Mem.tail _ (List.Mem.head _))) (s_getR X 46 rfl (c518_ok rfl) rfl rfl (z_load X (x := (iC t 44 (hp).toNat)) rfl (List.Mem.tail _ (List.Mem.head _)) (z_ald X 50 rfl (c518_ok rfl) rfl (by first | exact b1003.1 | omega) (show (iC t 44 (hp).toNat) < 256 by first | exact oq_29e5dbe2 b1003.2 | omega) (cbig_ok rfl) ?_)))))
          have b1008 := bc_42 I (show ((iC t 44 (hp).toNat)).toNat < 256 by first | exact oq_c39a26fc b1003.2 | omega)
          refine z_add X rfl (z_any (fun y1009 hy1009 => ?_))
          refine z_store_n X (lv' := [(3, .int (Int32.ofInt y1009)), (2, .int (Int32.ofInt e1007)), (5, .int (Int32.ofInt (iC t 44 (hp).toNat))), (0, .ref (A 46)), (1, .int (Int32.ofInt xv)), (4, .int (Int32.ofInt hp))]) rfl (by decide) (fun _ h => h) (z_inc X (x := hp) (lv' := [(4, .int (Int32.ofInt (hp + 1))), (3, .int (Int32.ofInt y1009)), (2, .int (Int32.ofInt e1007)), (5, .int (Int32.ofInt (iC t 44 (hp).toNat))), (0, .ref (A 46)), (1, .int (Int32.ofInt xv))]) rfl (by decide) (List.Mem.tail _ (List.Mem.tail _ (List.Mem.tail _ (List.Mem.tail _ (List.Mem.tail _ (List.Mem.head _)))))) (fun _ h => h) (z_goto X (t := 8) rfl rfl (WS_pq [4, 5, 2, 1, 0] (lv' := [(0, .ref (A 46)), (1, .int (Int32.ofInt xv)), (2, .int (Int32.ofInt e1007)), (3, .int (Int32.ofInt y1009)), (4, .int (Int32.ofInt (hp + 1)))]) rfl ?_)))
          exact ih _ xv e1007 y1009 (hp + 1) I F (by first | exact ⟨And.intro (hi.1.1) (hi.1.2), oq_e36c8877 he1007 b1006.2 hi.2.1.2 hi.2.1.1, And.intro (hy1009.1) (hy1009.2), oq_54f49eb5 hi.2.2.2.1, oq_917370dc g1002 hi.1.2⟩ | omega) (by first | exact qk_me hm (by decide) (oq_83a89698 g1002 hi.1.2) | omega) kx
        ·
          exact w_vret X.1 q hRt (ax_d X (show cdA 58 33 = some (.return_, 1, 0, 0, 0) from rfl)) (Nat.zero_le _) (Nat.zero_le _) ⟨_, rfl, I, F, rfl, trivial⟩
  refine z_ldc X rfl (z_store_n X (lv' := [(2, .int (Int32.ofInt (-2147483648))), (0, .ref (A 46)), (1, .int (Int32.ofInt x))]) rfl (by decide) (fun _ h => h) (z_const X rfl (z_store_n X (lv' := [(3, .int (Int32.ofInt 0)), (2, .int (Int32.ofInt (-2147483648))), (0, .ref (A 46)), (1, .int (Int32.ofInt x))]) rfl (by decide) (fun _ h => h) (z_const X rfl (z_store X (lv' := [(4, .int (Int32.ofInt 0)), (3, .int (Int32.ofInt 0)), (2, .int (Int32.ofInt (-2147483648))), (0, .ref (A 46)), (1, .int (Int32.ofInt x))]) rfl (by decide) (fun _ h => h) (WS_pq [3, 4, 2, 1, 0] (lv' := [(0, .ref (A 46)), (1, .int (Int32.ofInt x)), (2, .int (Int32.ofInt (-2147483648))), (3, .int (Int32.ofInt 0)), (4, .int (Int32.ofInt 0))]) rfl (L8 ((3 - 0 : Int).toNat + 1) s x (-2147483648) 0 0 I F (by first | exact ⟨And.intro (p0.1) (p0.2), And.intro (by decide) (by decide), And.intro (by decide) (by decide), by decide, by decide⟩ | omega) (Nat.lt_succ_self _) ?_)))))))
  intro s2 x3 x4 x5 Is2 Fs2 hs2
  have b6 := bi_28 Is2
  refine z_aload_n X (x := A 46) rfl (List.Mem.head _) (z_getI X 46 rfl (c518_ok rfl) rfl rfl ?_)
  have b7 := bi_31 Is2
  refine z_if_eq X (t := 93) rfl rfl (rng_to _) (fun g8 => ?_) (fun g8 => ?_)
  ·
    refine z_aload_n X (x := A 46) rfl (List.Mem.head _) (z_const X rfl (s_putI X 46 rfl (c518_ok rfl) rfl rfl (by decide) (nar_ret (by omega)) (fit_z (by omega)) rfl (wd_gen (fun s9 hs9 => ?_))))
    have Is9 : Bd s9 := eqB hs9 (bd_I Is2 (show (0 : Int) ≤ 1 ∧ 1 ≤ 1 by first | exact ⟨by decide, by decide⟩ | omega) (by decide))
    have Fs9 := eqF hs9 (fm_I Fs2 (inl_ok (a := 31) rfl))
    have vs9 : iI s9 31 = 1 := eqI hs9 (iI_u (by decide))
    have ws9_28 : iI s9 28 = iI s2 28 := eqI hs9 rfl
    refine z_aload_n X (x := A 46) rfl (List.Mem.head _) (z_load_n X (x := x3) rfl (List.Mem.tail _ (List.Mem.tail _ (List.Mem.head _))) (s_putI X 46 rfl (c518_ok rfl) rfl rfl (by decide) rfl rfl rfl (wd_gen (fun s10 hs10 => ?_))))
    have Is10 : Bd s10 := eqB hs10 (bd_I Is9 (show ((-2147483648) : Int) ≤ x3 ∧ x3 ≤ 2147483647 by first | exact ⟨hs2.2.1.1, hs2.2.1.2⟩ | omega) ⟨by first | exact hs2.2.1.1 | omega, by first | exact hs2.2.1.2 | omega⟩)
    have Fs10 := eqF hs10 (fm_I Fs9 (inl_ok (a := 29) rfl))
    have vs10 : iI s10 29 = x3 := eqI hs10 (iI_u ⟨by first | exact hs2.2.1.1 | omega, by first | exact hs2.2.1.2 | omega⟩)
    have ws10_28 : iI s10 28 = iI s9 28 := eqI hs10 rfl
    refine z_aload_n X (x := A 46) rfl (List.Mem.head _) (z_load_n X (x := x4) rfl (List.Mem.tail _ (List.Mem.tail _ (List.Mem.tail _ (List.Mem.head _)))) (s_putI X 46 rfl (c518_ok rfl) rfl rfl (by decide) rfl rfl rfl (wd_gen (fun s11 hs11 => ?_))))
    have Is11 : Bd s11 := eqB hs11 (bd_I Is10 (show ((-2147483648) : Int) ≤ x4 ∧ x4 ≤ 2147483647 by first | exact ⟨hs2.2.2.1.1, hs2.2.2.1.2⟩ | omega) ⟨by first | exact hs2.2.2.1.1 | omega, by first | exact hs2.2.2.1.2 | omega⟩)
    have Fs11 := eqF hs11 (fm_I Fs10 (inl_ok (a := 30) rfl))
    have vs11 : iI s11 30 = x4 := eqI hs11 (iI_u ⟨by first | exact hs2.2.2.1.1 | omega, by first | exact hs2.2.2.1.2 | omega⟩)
    have ws11_28 : iI s11 28 = iI s10 28 := eqI hs11 rfl
    refine z_aload_n X (x := A 46) rfl (List.Mem.head _) (s_getR X 46 rfl (c518_ok rfl) rfl rfl (z_const X rfl (z_aload_n X (x := A 46) rfl (List.Mem.head _) (s_getR X 46 rfl (c518_ok rfl) rfl rfl (z_const X rfl (z_aload_n X (x := A 46) rfl (List.Mem.head _) (z_getI X 46 rfl (c518_ok rfl) rfl rfl ?_)))))))
    have b12 := bi_28 Is11
    refine z_copy X Is11 51 53 (st := []) rfl (by decide) (by decide) rfl rfl (by omega) (by omega) (by omega) (show 0 + (iI s11 28) ≤ ((8 : Nat) : Int) by omega) (show 0 + (iI s11 28) ≤ ((8 : Nat) : Int) by omega) (by decide) (by rw [E.2.2.2]; decide) (by rw [E.2.2.2]; exact Nat.le_of_ble_eq_true rfl) (fun s13 Is13 Fs13 => ?_)
    have Gs13 := fm_tq Fs11 Fs13 rfl rfl
    have ws13_28 : iI s13 28 = iI s11 28 := fm_iq Fs13 rfl
    exact w_vret X.1 q hRt (ax_d X (show cdA 58 125 = some (.return_, 1, 0, 0, 0) from rfl)) (Nat.zero_le _) (Nat.zero_le _) ⟨_, rfl, Is13, Gs13, rfl, trivial⟩
  ·
    refine z_load_n X (x := x3) rfl (List.Mem.tail _ (List.Mem.tail _ (List.Mem.head _))) (z_aload_n X (x := A 46) rfl (List.Mem.head _) (z_getI X 46 rfl (c518_ok rfl) rfl rfl ?_))
    have b14 := bi_29 Is2
    refine z_icmp_lt X (t := 93) rfl rfl ⟨by first | exact hs2.2.1.1 | omega, by first | exact hs2.2.1.2 | omega⟩ (rng_to _) (fun g15 => ?_) (fun g15 => ?_)
    ·
      refine z_aload_n X (x := A 46) rfl (List.Mem.head _) (z_const X rfl (s_putI X 46 rfl (c518_ok rfl) rfl rfl (by decide) (nar_ret (by first | (clear g8; omega) | omega)) (fit_z (by first | (clear g8; omega) | omega)) rfl (wd_gen (fun s16 hs16 => ?_))))
      have Is16 : Bd s16 := eqB hs16 (bd_I Is2 (show (0 : Int) ≤ 1 ∧ 1 ≤ 1 by first | exact ⟨by decide, by decide⟩ | omega) (by decide))
      have Fs16 := eqF hs16 (fm_I Fs2 (inl_ok (a := 31) rfl))
      have vs16 : iI s16 31 = 1 := eqI hs16 (iI_u (by decide))
      have ws16_28 : iI s16 28 = iI s2 28 := eqI hs16 rfl
      refine z_aload_n X (x := A 46) rfl (List.Mem.head _) (z_load_n X (x := x3) rfl (List.Mem.tail _ (List.Mem.tail _ (List.Mem.head _))) (s_putI X 46 rfl (c518_ok rfl) rfl rfl (by decide) rfl rfl rfl (wd_gen (fun s17 hs17 => ?_))))
      have Is17 : Bd s17 := eqB hs17 (bd_I Is16 (show ((-2147483648) : Int) ≤ x3 ∧ x3 ≤ 2147483647 by first | exact ⟨hs2.2.1.1, hs2.2.1.2⟩ | omega) ⟨by first | exact hs2.2.1.1 | omega, by first | exact hs2.2.1.2 | omega⟩)
      have Fs17 := eqF hs17 (fm_I Fs16 (inl_ok (a := 29) rfl))
      have vs17 : iI s17 29 = x3 := eqI hs17 (iI_u ⟨by first | exact hs2.2.1.1 | omega, by first | exact hs2.2.1.2 | omega⟩)
      have ws17_28 : iI s17 28 = iI s16 28 := eqI hs17 rfl
      refine z_aload_n X (x := A 46) rfl (List.Mem.head _) (z_load_n X (x := x4) rfl (List.Mem.tail _ (List.Mem.tail _ (List.Mem.tail _ (List.Mem.head _)))) (s_putI X 46 rfl (c518_ok rfl) rfl rfl (by decide) rfl rfl rfl (wd_gen (fun s18 hs18 => ?_))))
      have Is18 : Bd s18 := eqB hs18 (bd_I Is17 (show ((-2147483648) : Int) ≤ x4 ∧ x4 ≤ 2147483647 by first | exact ⟨hs2.2.2.1.1, hs2.2.2.1.2⟩ | omega) ⟨by first | exact hs2.2.2.1.1 | omega, by first | exact hs2.2.2.1.2 | omega⟩)
      have Fs18 := eqF hs18 (fm_I Fs17 (inl_ok (a := 30) rfl))
      have vs18 : iI s18 30 = x4 := eqI hs18 (iI_u ⟨by first | exact hs2.2.2.1.1 | omega, by first | exact hs2.2.2.1.2 | omega⟩)
      have ws18_28 : iI s18 28 = iI s17 28 := eqI hs18 rfl
      refine z_aload_n X (x := A 46) rfl (List.Mem.head _) (s_getR X 46 rfl (c518_ok rfl) rfl rfl (z_const X rfl (z_aload_n X (x := A 46) rfl (List.Mem.head _) (s_getR X 46 rfl (c518_ok rfl) rfl rfl (z_const X rfl (z_aload_n X (x := A 46) rfl (List.Mem.head _) (z_getI X 46 rfl (c518_ok rfl) rfl rfl ?_)))))))
      have b19 := bi_28 Is18
      refine z_copy X Is18 51 53 (st := []) rfl (by decide) (by decide) rfl rfl (by first | (clear g8; omega) | omega) (by first | (clear g8; omega) | omega) (by first | (clear g8; omega) | omega) (show 0 + (iI s18 28) ≤ ((8 : Nat) : Int) by first | (clear g8; omega) | omega) (show 0 + (iI s18 28) ≤ ((8 : Nat) : Int) by first | (clear g8; omega) | omega) (by decide) (by rw [E.2.2.2]; decide) (by rw [E.2.2.2]; exact Nat.le_of_ble_eq_true rfl) (fun s20 Is20 Fs20 => ?_)
      have Gs20 := fm_tq Fs18 Fs20 rfl rfl
      have ws20_28 : iI s20 28 = iI s18 28 := fm_iq Fs20 rfl
      exact w_vret X.1 q hRt (ax_d X (show cdA 58 125 = some (.return_, 1, 0, 0, 0) from rfl)) (Nat.zero_le _) (Nat.zero_le _) ⟨_, rfl, Is20, Gs20, rfl, trivial⟩
    ·
      refine z_load_n X (x := x3) rfl (List.Mem.tail _ (List.Mem.tail _ (List.Mem.head _))) (z_aload_n X (x := A 46) rfl (List.Mem.head _) (z_getI X 46 rfl (c518_ok rfl) rfl rfl ?_))
      have b21 := bi_29 Is2
      refine z_icmp_ne X (t := 125) rfl rfl ⟨by first | exact hs2.2.1.1 | omega, by first | exact hs2.2.1.2 | omega⟩ (rng_to _) (fun g22 => ?_) (fun g22 => ?_)
      ·
        exact w_vret X.1 q hRt (ax_d X (show cdA 58 125 = some (.return_, 1, 0, 0, 0) from rfl)) (Nat.zero_le _) (Nat.zero_le _) ⟨_, rfl, Is2, Fs2, rfl, trivial⟩
      ·
        refine z_load_n X (x := x4) rfl (List.Mem.tail _ (List.Mem.tail _ (List.Mem.tail _ (List.Mem.head _)))) (z_aload_n X (x := A 46) rfl (List.Mem.head _) (z_getI X 46 rfl (c518_ok rfl) rfl rfl ?_))
        have b23 := bi_30 Is2
        refine z_icmp_ge X (t := 125) rfl rfl ⟨by first | exact hs2.2.2.1.1 | omega, by first | exact hs2.2.2.1.2 | omega⟩ (rng_to _) (fun g24 => ?_) (fun g24 => ?_)
        ·
          exact w_vret X.1 q hRt (ax_d X (show cdA 58 125 = some (.return_, 1, 0, 0, 0) from rfl)) (Nat.zero_le _) (Nat.zero_le _) ⟨_, rfl, Is2, Fs2, rfl, trivial⟩
        ·
          refine z_aload_n X (x := A 46) rfl (List.Mem.head _) (z_const X rfl (s_putI X 46 rfl (c518_ok rfl) rfl rfl (by decide) (nar_ret (by first | (clear g8; omega) | omega)) (fit_z (by first | (clear g8; omega) | omega)) rfl (wd_gen (fun s25 hs25 => ?_))))
          have Is25 : Bd s25 := eqB hs25 (bd_I Is2 (show (0 : Int) ≤ 1 ∧ 1 ≤ 1 by first | exact ⟨by decide, by decide⟩ | omega) (by decide))
          have Fs25 := eqF hs25 (fm_I Fs2 (inl_ok (a := 31) rfl))
          have vs25 : iI s25 31 = 1 := eqI hs25 (iI_u (by decide))
          have ws25_28 : iI s25 28 = iI s2 28 := eqI hs25 rfl
          refine z_aload_n X (x := A 46) rfl (List.Mem.head _) (z_load_n X (x := x3) rfl (List.Mem.tail _ (List.Mem.tail _ (List.Mem.head _))) (s_putI X 46 rfl (c518_ok rfl) rfl rfl (by decide) rfl rfl rfl (wd_gen (fun s26 hs26 => ?_))))
          have Is26 : Bd s26 := eqB hs26 (bd_I Is25 (show ((-2147483648) : Int) ≤ x3 ∧ x3 ≤ 2147483647 by first | exact ⟨hs2.2.1.1, hs2.2.1.2⟩ | omega) ⟨by first | exact hs2.2.1.1 | omega, by first | exact hs2.2.1.2 | omega⟩)
          have Fs26 := eqF hs26 (fm_I Fs25 (inl_ok (a := 29) rfl))
          have vs26 : iI s26 29 = x3 := eqI hs26 (iI_u ⟨by first | exact hs2.2.1.1 | omega, by first | exact hs2.2.1.2 | omega⟩)
          have ws26_28 : iI s26 28 = iI s25 28 := eqI hs26 rfl
          refine z_aload_n X (x := A 46) rfl (List.Mem.head _) (z_load_n X (x := x4) rfl (List.Mem.tail _ (List.Mem.tail _ (List.Mem.tail _ (List.Mem.head _)))) (s_putI X 46 rfl (c518_ok rfl) rfl rfl (by decide) rfl rfl rfl (wd_gen (fun s27 hs27 => ?_))))
          have Is27 : Bd s27 := eqB hs27 (bd_I Is26 (show ((-2147483648) : Int) ≤ x4 ∧ x4 ≤ 2147483647 by first | exact ⟨hs2.2.2.1.1, hs2.2.2.1.2⟩ | omega) ⟨by first | exact hs2.2.2.1.1 | omega, by first | exact hs2.2.2.1.2 | omega⟩)
          have Fs27 := eqF hs27 (fm_I Fs26 (inl_ok (a := 30) rfl))
          have vs27 : iI s27 30 = x4 := eqI hs27 (iI_u ⟨by first | exact hs2.2.2.1.1 | omega, by first | exact hs2.2.2.1.2 | omega⟩)
          have ws27_28 : iI s27 28 = iI s26 28 := eqI hs27 rfl
          refine z_aload_n X (x := A 46) rfl (List.Mem.head _) (s_getR X 46 rfl (c518_ok rfl) rfl rfl (z_const X rfl (z_aload_n X (x := A 46) rfl (List.Mem.head _) (s_getR X 46 rfl (c518_ok rfl) rfl rfl (z_const X rfl (z_aload_n X (x := A 46) rfl (List.Mem.head _) (z_getI X 46 rfl (c518_ok rfl) rfl rfl ?_)))))))
          have b28 := bi_28 Is27
          refine z_copy X Is27 51 53 (st := []) rfl (by decide) (by decide) rfl rfl (by first | (clear g8; omega) | omega) (by first | (clear g8; omega) | omega) (by first | (clear g8; omega) | omega) (show 0 + (iI s27 28) ≤ ((8 : Nat) : Int) by first | (clear g8; omega) | omega) (show 0 + (iI s27 28) ≤ ((8 : Nat) : Int) by first | (clear g8; omega) | omega) (by decide) (by rw [E.2.2.2]; decide) (by rw [E.2.2.2]; exact Nat.le_of_ble_eq_true rfl) (fun s29 Is29 Fs29 => ?_)
          have Gs29 := fm_tq Fs27 Fs29 rfl rfl
          have ws29_28 : iI s29 28 = iI s27 28 := fm_iq Fs29 rfl
          exact w_vret X.1 q hRt (ax_d X (show cdA 58 125 = some (.return_, 1, 0, 0, 0) from rfl)) (Nat.zero_le _) (Nat.zero_le _) ⟨_, rfl, Is29, Gs29, rfl, trivial⟩
set_option maxRecDepth 4000 in
theorem c5_place0 (G : GX l s0 D tys a0 dT) (I : Bd s) {x y z : Int} (p0 : 0 ≤ x ∧ x ≤ iI s 28) (p1 : iI s 28 - x ≤ ((0 : Nat) : Int)) (p2 : 0 ≤ y ∧ y ≤ z) (p3 : 1 ≤ z ∧ z ≤ 3) : CT l s0 D A dT 57 (rkR (12 + (0))) [.ref (A 46), .int (Int32.ofInt x), .int (Int32.ofInt y), .int (Int32.ofInt z)] s (fun o t => Bd t ∧ Fm [31, 29, 30] [45, 43, 44] s t ∧ o = .inl none ∧ (True)) := by
  refine ct_ofX G (by decide) (Nat.le_of_ble_eq_true rfl) (fun k X E ET hRt hXt q => ?_)
  show WS k 0 [(0, .ref (A 46)), (1, .int (Int32.ofInt x)), (2, .int (Int32.ofInt y)), (3, .int (Int32.ofInt z))] [] _ 0 0
  have F : Fm [31, 29, 30] [45, 43, 44] s s := fm_rf _ _ s
  have b1 := bi_28 I
  refine z_load_n X (x := x) rfl (List.Mem.tail _ (List.Mem.head _)) (z_aload_n X (x := A 46) rfl (List.Mem.head _) (z_getI X 46 rfl (c518_ok rfl) rfl rfl ?_))
  have b2 := bi_28 I
  refine z_icmp_lt X (t := 14) rfl rfl ⟨by first | exact oq_fa4e5087 p0.1 | omega, by first | exact oq_b5dbaaed p0.2 b2.2 | omega⟩ (rng_to _) (fun g3 => ?_) (fun g3 => ?_)
  ·
    exfalso
    omega
  ·
    refine z_aload_n X (x := A 46) rfl (List.Mem.head _) (z_load_n X (x := y) rfl (List.Mem.tail _ (List.Mem.tail _ (List.Mem.head _))) (z_callV X 46 (rm := rmN 58) (As := [.int (Int32.ofInt y)]) (st := []) rfl rfl (by decide) rfl (by rw [E.1, E.2.1, E.2.2.1]; exact c5_compare_46 G I (by first | exact ⟨p2.1, oq_300cfc0a p2.2 p3.2⟩ | omega)) ⟨by rw [E.2.2.2]; exact (show 7 + 1 ≤ (12 + (12 + (0))) from oq_8067230e), by rw [E.2.2.2]; exact (show 8 + (6 + 11) + 121 ≤ (500 + 45 * (12 + (0))) from oq_f178cd33), by rw [E.2.2.2]; exact Nat.le_refl 0, by rw [E.2.2.2]; exact Nat.le_refl 0⟩ (Nat.le_of_ble_eq_true rfl) (fun vv s4 hq => ?_) (fun ee s4 hq => ?_)))
    rotate_left
    · obtain ⟨Is4, Fs4, hv, hps4⟩ := hq; cases hv
    obtain ⟨Is4, Fs4, hv, hps4⟩ := hq
    cases hv
    have Gs4 := fm_tq F Fs4 rfl rfl
    have ws4_28 : iI s4 28 = iI s 28 := fm_iq Fs4 rfl
    show WS k 13 [(0, .ref (A 46)), (1, .int (Int32.ofInt x)), (2, .int (Int32.ofInt y)), (3, .int (Int32.ofInt z))] [] (Wd A dT s4) 0 0
    exact w_vret X.1 q hRt (ax_d X (show cdA 57 13 = some (.return_, 1, 0, 0, 0) from rfl)) (Nat.zero_le _) (Nat.zero_le _) ⟨_, rfl, Is4, Gs4, rfl, trivial⟩
set_option maxRecDepth 4000 in
theorem c5_placeS (G : GX l s0 D tys a0 dT) {r : Nat} (hR : ∀ {s : PS} {x y z : Int}, Bd s → (0 ≤ x ∧ x ≤ iI s 28) → (iI s 28 - x ≤ ((r : Nat) : Int)) → (0 ≤ y ∧ y ≤ z) → (1 ≤ z ∧ z ≤ 3) → CT l s0 D A dT 57 (rkR (12 + (r))) [.ref (A 46), .int (Int32.ofInt x), .int (Int32.ofInt y), .int (Int32.ofInt z)] s (fun o t => Bd t ∧ Fm [31, 29, 30] [45, 43, 44] s t ∧ o = .inl none ∧ (True))) (I : Bd s) {x y z : Int} (p0 : 0 ≤ x ∧ x ≤ iI s 28) (p1 : iI s 28 - x ≤ ((r + 1 : Nat) : Int)) (p2 : 0 ≤ y ∧ y ≤ z) (p3 : 1 ≤ z ∧ z ≤ 3) : CT l s0 D A dT 57 (rkR (12 + (r + 1))) [.ref (A 46), .int (Int32.ofInt x), .int (Int32.ofInt y), .int (Int32.ofInt z)] s (fun o t => Bd t ∧ Fm [31, 29, 30] [45, 43, 44] s t ∧ o = .inl none ∧ (True)) := by
  refine ct_ofX G (by decide) (Nat.le_of_ble_eq_true rfl) (fun k X E ET hRt hXt q => ?_)
  show WS k 0 [(0, .ref (A 46)), (1, .int (Int32.ofInt x)), (2, .int (Int32.ofInt y)), (3, .int (Int32.ofInt z))] [] _ 0 0
  have F : Fm [31, 29, 30] [45, 43, 44] s s := fm_rf _ _ s
  have b1 := bi_28 I
  have L17 : ∀ (n : Nat) (t : PS) (xv yv zv hh : Int), Bd t → Fm [31, 29, 30] [45, 43, 44] s t → (xv = x ∧ (0 ≤ xv ∧ xv < iI t 28) ∧ (0 ≤ yv ∧ yv ≤ zv) ∧ (1 ≤ zv ∧ zv ≤ 3) ∧ 0 ≤ hh ∧ hh ≤ 3 ∧ iI t 28 = iI s 28) → (3 - hh : Int).toNat < n → (∀ (t' : PS) (hh' : Int), Bd t' → Fm [31, 29, 30] [45, 43, 44] s t' → (xv = x ∧ (0 ≤ xv ∧ xv < iI t' 28) ∧ (0 ≤ yv ∧ yv ≤ zv) ∧ (1 ≤ zv ∧ zv ≤ 3) ∧ 0 ≤ hh' ∧ hh' ≤ 3 ∧ iI t' 28 = iI s 28) → WS k 92 [(0, .ref (A 46)), (1, .int (Int32.ofInt xv)), (2, .int (Int32.ofInt yv)), (3, .int (Int32.ofInt zv)), (4, .int (Int32.ofInt hh'))] [] (Wd A dT t') 0 0) → WS k 17 [(0, .ref (A 46)), (1, .int (Int32.ofInt xv)), (2, .int (Int32.ofInt yv)), (3, .int (Int32.ofInt zv)), (4, .int (Int32.ofInt hh))] [] (Wd A dT t) 0 0 := by
    intro n
    induction n with
    | zero =>
      intro t xv yv zv hh I F hi hm kx
      exact absurd hm (Nat.not_lt_zero _)
    | succ n ih =>
      intro t xv yv zv hh I F hi hm kx
      have b1001 := bi_28 I
      refine z_load X (x := hh) rfl (List.Mem.tail _ (List.Mem.tail _ (List.Mem.tail _ (List.Mem.tail _ (List.Mem.head _))))) (z_load_n X (x := yv) rfl (List.Mem.tail _ (List.Mem.tail _ (List.Mem.head _))) (z_icmp_gt X (t := 92) rfl rfl ⟨by first | exact oq_fa4e5087 hi.2.2.2.2.1 | omega, by first | exact oq_c5520c83 hi.2.2.2.2.2.1 | omega⟩ ⟨by first | exact oq_fa4e5087 hi.2.2.1.1 | omega, by first | exact oq_f647a1c7 hi.2.2.1.2 hi.2.2.2.1.2 | omega⟩ (fun g1002 => ?_) (fun g1002 => ?_)))
      ·
        refine WS_pq [0, 1, 2, 3, 4] (lv' := [(0, .ref (A 46)), (1, .int (Int32.ofInt xv)), (2, .int (Int32.ofInt yv)), (3, .int (Int32.ofInt zv)), (4, .int (Int32.ofInt hh))]) rfl ?_
        exact kx _ hh I F (by first | exact ⟨hi.1, And.intro (hi.2.1.1) (hi.2.1.2), And.intro (hi.2.2.1.1) (hi.2.2.1.2), And.intro (hi.2.2.2.1.1) (hi.2.2.2.1.2), hi.2.2.2.2.1, hi.2.2.2.2.2.1, hi.2.2.2.2.2.2⟩ | omega)
      ·
        refine z_load X (x := hh) rfl (List.Mem.tail _ (List.Mem.tail _ (List.Mem.tail _ (List.Mem.tail _ (List.Mem.head _))))) (z_load_n X (x := zv) rfl (List.Mem.tail _ (List.Mem.tail _ (List.Mem.tail _ (List.Mem.head _)))) (z_icmp_ge X (t := 92) rfl rfl ⟨by first | exact oq_fa4e5087 hi.2.2.2.2.1 | omega, by first | exact oq_c5520c83 hi.2.2.2.2.2.1 | omega⟩ ⟨by first | exact oq_9462313e hi.2.2.2.1.1 | omega, by first | exact oq_c5520c83 hi.2.2.2.1.2 | omega⟩ (fun g1003 => ?_) (fun g1003 => ?_)))
        ·
          refine WS_pq [0, 1, 2, 3, 4] (lv' := [(0, .ref (A 46)), (1, .int (Int32.ofInt xv)), (2, .int (Int32.ofInt yv)), (3, .int (Int32.ofInt zv)), (4, .int (Int32.ofInt hh))]) rfl ?_
          exact kx _ hh I F (by first | exact ⟨hi.1, And.intro (hi.2.1.1) (hi.2.1.2), And.intro (hi.2.2.1.1) (hi.2.2.1.2), And.intro (hi.2.2.2.1.1) (hi.2.2.2.1.2), hi.2.2.2.2.1, hi.2.2.2.2.2.1, hi.2.2.2.2.2.2⟩ | omega)
        ·
          refine z_aload_n X (x := A 46) rfl (List.Mem.head _) (s_getR X 46 rfl (c518_ok rfl) rfl rfl (z_load_n X (x := xv) rfl (List.Mem.tail _ (List.Mem.head _)) (z_load X (x := hh) rfl (List.Mem.tail _ (List.Mem.tail _ (List.Mem.tail _ (List.Mem.tail _ (List.Mem.head _))))) (z_ast X 51 rfl (c518_ok rfl) rfl (by first | exact hi.2.1.1 | omega) (show xv < 8 by first | exact oq_7f5b2e79 hi.2.1.2 b1001.2 | omega) (cbig_ok rfl) (wd_gen (fun s1004 hs1004 => ?_))))))
          have Is1004 : Bd s1004 := eqB hs1004 (bd_C I (show ((-2147483648) : Int) ≤ hh ∧ hh ≤ 2147483647 by first | exact ⟨oq_fa4e5087 hi.2.2.2.2.1, oq_c5520c83 hi.2.2.2.2.2.1⟩ | omega) ⟨by first | exact oq_fa4e5087 hi.2.2.2.2.1 | omega, by first | exact oq_c5520c83 hi.2.2.2.2.2.1 | omega⟩)
          have Fs1004 := eqF hs1004 (fm_C F (inl_ok (a := 43) rfl))
          have ws1004_28 : iI s1004 28 = iI t 28 := eqI hs1004 rfl
          refine z_aload_n X (x := A 46) rfl (List.Mem.head _) (s_getR X 46 rfl (c518_ok rfl) rfl rfl (z_load X (x := hh) rfl (List.Mem.tail _ (List.Mem.tail _ (List.Mem.tail _ (List.Mem.tail _ (List.Mem.head _))))) (w_dup2_11 X.1 (ax_d X (show cdA 57 43 = some (.dup2, 1, 0, 0, 0) from rfl)) rfl rfl (z_ald X 52 rfl (c518_ok rfl) rfl (by first | exact hi.2.2.2.2.1 | omega) (show hh < 3 by first | exact oq_1a1eeab1 g1003 hi.2.2.2.1.2 | omega) (cbig_ok rfl) ?_))))
          have b1005 := bc_44 Is1004 (show (hh).toNat < 3 by first | exact oq_2a01c7dc g1003 hi.2.2.2.1.2 | omega)
          refine z_const X rfl (z_load_n X (x := xv) rfl (List.Mem.tail _ (List.Mem.head _)) (z_shl1 X rfl (by first | exact ⟨hi.2.1.1, oq_2da74134 hi.2.1.2 b1001.2⟩ | omega) (fun y1006 hy1006 iy1006 jy1006 ky1006 => ?_)))
          refine z_orb X rfl 8 (by decide) (show 0 ≤ (iC s1004 44 (hh).toNat) ∧ (iC s1004 44 (hh).toNat) < 2 ^ 8 by omega) (show 0 ≤ y1006 ∧ y1006 < 2 ^ 8 by omega) (fun y1007 hy1007 iy1007 => ?_)
          have ib1008 : y1007 < 256 := iy1007
          refine z_ast X 52 rfl (c518_ok rfl) rfl (by first | exact hi.2.2.2.2.1 | omega) (show hh < 3 by first | exact oq_1a1eeab1 g1003 hi.2.2.2.1.2 | omega) (cbig_ok rfl) (wd_gen (fun s1009 hs1009 => ?_))
          have Is1009 : Bd s1009 := eqB hs1009 (bd_C Is1004 (show (0 : Int) ≤ y1007 ∧ y1007 ≤ 255 by first | exact ⟨hy1007, oq_b4026d49 ib1008⟩ | omega) ⟨by first | exact oq_fa4e5087 hy1007 | omega, by first | exact oq_17ce71fa ib1008 | omega⟩)
          have Fs1009 := eqF hs1009 (fm_C Fs1004 (inl_ok (a := 44) rfl))
          have ws1009_28 : iI s1009 28 = iI s1004 28 := eqI hs1009 rfl
          refine z_aload_n X (x := A 46) rfl (List.Mem.head _) (z_load_n X (x := xv) rfl (List.Mem.tail _ (List.Mem.head _)) (z_const X rfl (z_add X rfl (z_load X (x := hh) rfl (List.Mem.tail _ (List.Mem.tail _ (List.Mem.tail _ (List.Mem.tail _ (List.Mem.head _))))) (z_load_n X (x := yv) rfl (List.Mem.tail _ (List.Mem.tail _ (List.Mem.head _))) ?_)))))
          have N1010 : ∀ e1011 : Int, (((hh ≠ yv) ∧ e1011 = yv) ∨ ((hh = yv) ∧ e1011 = (yv + 1))) → WS k 67 [(0, .ref (A 46)), (1, .int (Int32.ofInt xv)), (2, .int (Int32.ofInt yv)), (3, .int (Int32.ofInt zv)), (4, .int (Int32.ofInt hh))] [.int (Int32.ofInt e1011), .int (Int32.ofInt (xv + 1)), .ref (A 46)] (Wd A dT s1009) 0 0 := by
            intro e1011 he1011
            refine z_load_n X (x := zv) rfl (List.Mem.tail _ (List.Mem.tail _ (List.Mem.tail _ (List.Mem.head _)))) (z_callV X 46 (rm := (rkR (12 + (r)))) (As := [.int (Int32.ofInt (xv + 1)), .int (Int32.ofInt e1011), .int (Int32.ofInt zv)]) (st := []) rfl rfl (by decide) rfl (by rw [E.1, E.2.1, E.2.2.1]; exact hR Is1009 (by first | exact ⟨p0.1, oq_c0bca489 ws1009_28 hi.1 ws1004_28 hi.2.1.2⟩ | omega) (by first | (clear he1011; omega) | omega) (by first | exact ⟨p2.1, p2.2⟩ | omega) (by first | exact ⟨p3.1, p3.2⟩ | omega)) ⟨by rw [E.2.2.2]; exact (show (12 + (12 + (r))) + 1 ≤ (12 + (12 + (r + 1))) from oq_23161452 r), by rw [E.2.2.2]; exact (show 8 + (5 + 11) + (500 + 45 * (12 + (r))) ≤ (500 + 45 * (12 + (r + 1))) from oq_5db9f55c r), by rw [E.2.2.2]; exact Nat.le_refl 0, by rw [E.2.2.2]; exact Nat.le_refl 0⟩ (Nat.le_of_ble_eq_true rfl) (fun vv s1012 hq => ?_) (fun ee s1012 hq => ?_))
            rotate_left
            · obtain ⟨Is1012, Fs1012, hv, hps1012⟩ := hq; cases hv
            obtain ⟨Is1012, Fs1012, hv, hps1012⟩ := hq
            cases hv
            have Gs1012 := fm_tq Fs1009 Fs1012 rfl rfl
            have ws1012_28 : iI s1012 28 = iI s1009 28 := fm_iq Fs1012 rfl
            show WS k 71 [(0, .ref (A 46)), (1, .int (Int32.ofInt xv)), (2, .int (Int32.ofInt yv)), (3, .int (Int32.ofInt zv)), (4, .int (Int32.ofInt hh))] [] (Wd A dT s1012) 0 0
            refine z_aload_n X (x := A 46) rfl (List.Mem.head _) (s_getR X 46 rfl (c518_ok rfl) rfl rfl (z_load X (x := hh) rfl (List.Mem.tail _ (List.Mem.tail _ (List.Mem.tail _ (List.Mem.tail _ (List.Mem.head _))))) (w_dup2_11 X.1 (ax_d X (show cdA 57 77 = some (.dup2, 1, 0, 0, 0) from rfl)) rfl rfl (z_ald X 52 rfl (c518_ok rfl) rfl (by first | exact hi.2.2.2.2.1 | omega) (show hh < 3 by first | exact oq_1a1eeab1 g1003 hi.2.2.2.1.2 | omega) (cbig_ok rfl) ?_))))
            have b1014 := bc_44 Is1012 (show (hh).toNat < 3 by first | exact oq_2a01c7dc g1003 hi.2.2.2.1.2 | omega)
            refine z_const X rfl (z_load_n X (x := xv) rfl (List.Mem.tail _ (List.Mem.head _)) (z_shl1 X rfl (by first | exact ⟨hi.2.1.1, oq_2da74134 hi.2.1.2 b1001.2⟩ | omega) (fun y1015 hy1015 iy1015 jy1015 ky1015 => ?_)))
            refine z_const X rfl (z_bxor X rfl (z_any (fun y1016 hy1016 => ?_)))
            refine z_andl X rfl (show 0 ≤ (iC s1012 44 (hh).toNat) by first | exact b1014.1 | omega) (show (iC s1012 44 (hh).toNat) ≤ 2147483647 by first | exact oq_4567a937 b1014.2 | omega) (fun y1017 hy1017 gy1017 => ?_)
            refine z_ast X 52 rfl (c518_ok rfl) rfl (by first | exact hi.2.2.2.2.1 | omega) (show hh < 3 by first | exact oq_1a1eeab1 g1003 hi.2.2.2.1.2 | omega) (cbig_ok rfl) (wd_gen (fun s1018 hs1018 => ?_))
            have Is1018 : Bd s1018 := eqB hs1018 (bd_C Is1012 (show (0 : Int) ≤ y1017 ∧ y1017 ≤ 255 by first | exact ⟨hy1017, oq_07b7da50 gy1017 b1014.2⟩ | omega) ⟨by first | exact oq_fa4e5087 hy1017 | omega, by first | exact oq_fdc39e03 gy1017 b1014.2 | omega⟩)
            have Fs1018 := eqF hs1018 (fm_C Gs1012 (inl_ok (a := 44) rfl))
            have ws1018_28 : iI s1018 28 = iI s1012 28 := eqI hs1018 rfl
            refine z_inc X (x := hh) (lv' := [(4, .int (Int32.ofInt (hh + 1))), (0, .ref (A 46)), (1, .int (Int32.ofInt xv)), (2, .int (Int32.ofInt yv)), (3, .int (Int32.ofInt zv))]) rfl (by decide) (List.Mem.tail _ (List.Mem.tail _ (List.Mem.tail _ (List.Mem.tail _ (List.Mem.head _))))) (fun _ h => h) (z_goto X (t := 17) rfl rfl (WS_pq [1, 2, 3, 4, 0] (lv' := [(0, .ref (A 46)), (1, .int (Int32.ofInt xv)), (2, .int (Int32.ofInt yv)), (3, .int (Int32.ofInt zv)), (4, .int (Int32.ofInt (hh + 1)))]) rfl ?_))
            exact ih _ xv yv zv (hh + 1) Is1018 Fs1018 (by first | exact ⟨hi.1, And.intro (hi.2.1.1) (oq_bc9971d6 ws1018_28 hi.2.1.2 ws1012_28 ws1009_28 ws1004_28), And.intro (hi.2.2.1.1) (hi.2.2.1.2), And.intro (hi.2.2.2.1.1) (hi.2.2.2.1.2), oq_54f49eb5 hi.2.2.2.2.1, oq_917370dc g1003 hi.2.2.2.1.2, oq_469c7eaf ws1018_28 ws1012_28 ws1009_28 ws1004_28 hi.2.2.2.2.2.2⟩ | omega) (by first | exact qk_me hm (by decide) (oq_83a89698 g1003 hi.2.2.2.1.2) | omega) kx
          refine z_icmp_ne X (t := 66) rfl rfl ⟨by first | exact oq_fa4e5087 hi.2.2.2.2.1 | omega, by first | exact oq_c5520c83 hi.2.2.2.2.2.1 | omega⟩ ⟨by first | exact oq_fa4e5087 hi.2.2.1.1 | omega, by first | exact oq_f647a1c7 hi.2.2.1.2 hi.2.2.2.1.2 | omega⟩ (fun g1019 => ?_) (fun g1019 => ?_)
          ·
            exact z_load_n X (x := yv) rfl (List.Mem.tail _ (List.Mem.tail _ (List.Mem.head _))) (N1010 _ (Or.inl ⟨g1019, rfl⟩))
          ·
            exact z_load_n X (x := yv) rfl (List.Mem.tail _ (List.Mem.tail _ (List.Mem.head _))) (z_const X rfl (z_add X rfl (z_goto X (t := 67) rfl rfl (N1010 _ (Or.inr (⟨g1019, rfl⟩))))))
  refine z_load_n X (x := x) rfl (List.Mem.tail _ (List.Mem.head _)) (z_aload_n X (x := A 46) rfl (List.Mem.head _) (z_getI X 46 rfl (c518_ok rfl) rfl rfl ?_))
  have b2 := bi_28 I
  refine z_icmp_lt X (t := 14) rfl rfl ⟨by first | exact oq_fa4e5087 p0.1 | omega, by first | exact oq_b5dbaaed p0.2 b2.2 | omega⟩ (rng_to _) (fun g3 => ?_) (fun g3 => ?_)
  ·
    refine z_const X rfl (z_store X (lv' := [(4, .int (Int32.ofInt 0)), (0, .ref (A 46)), (1, .int (Int32.ofInt x)), (2, .int (Int32.ofInt y)), (3, .int (Int32.ofInt z))]) rfl (by decide) (fun _ h => h) (WS_pq [1, 2, 3, 4, 0] (lv' := [(0, .ref (A 46)), (1, .int (Int32.ofInt x)), (2, .int (Int32.ofInt y)), (3, .int (Int32.ofInt z)), (4, .int (Int32.ofInt 0))]) rfl (L17 ((3 - 0 : Int).toNat + 1) s x y z 0 I F (by first | exact ⟨by decide, And.intro (p0.1) (g3), And.intro (p2.1) (p2.2), And.intro (p3.1) (p3.2), by decide, by decide, by decide⟩ | omega) (Nat.lt_succ_self _) ?_)))
    intro s4 x5 Is4 Fs4 hs4
    have b6 := bi_28 Is4
    exact w_vret X.1 q hRt (ax_d X (show cdA 57 92 = some (.return_, 1, 0, 0, 0) from rfl)) (Nat.zero_le _) (Nat.zero_le _) ⟨_, rfl, Is4, Fs4, rfl, trivial⟩
  ·
    refine z_aload_n X (x := A 46) rfl (List.Mem.head _) (z_load_n X (x := y) rfl (List.Mem.tail _ (List.Mem.tail _ (List.Mem.head _))) (z_callV X 46 (rm := rmN 58) (As := [.int (Int32.ofInt y)]) (st := []) rfl rfl (by decide) rfl (by rw [E.1, E.2.1, E.2.2.1]; exact c5_compare_46 G I (by first | exact ⟨p2.1, oq_300cfc0a p2.2 p3.2⟩ | omega)) ⟨by rw [E.2.2.2]; exact (show 7 + 1 ≤ (12 + (12 + (r + 1))) from oq_ae749fef r), by rw [E.2.2.2]; exact (show 8 + (6 + 11) + 121 ≤ (500 + 45 * (12 + (r + 1))) from oq_7e2d2a8e r), by rw [E.2.2.2]; exact Nat.le_refl 0, by rw [E.2.2.2]; exact Nat.le_refl 0⟩ (Nat.le_of_ble_eq_true rfl) (fun vv s7 hq => ?_) (fun ee s7 hq => ?_)))
    rotate_left
    · obtain ⟨Is7, Fs7, hv, hps7⟩ := hq; cases hv
    obtain ⟨Is7, Fs7, hv, hps7⟩ := hq
    cases hv
    have Gs7 := fm_tq F Fs7 rfl rfl
    have ws7_28 : iI s7 28 = iI s 28 := fm_iq Fs7 rfl
    show WS k 13 [(0, .ref (A 46)), (1, .int (Int32.ofInt x)), (2, .int (Int32.ofInt y)), (3, .int (Int32.ofInt z))] [] (Wd A dT s7) 0 0
    exact w_vret X.1 q hRt (ax_d X (show cdA 57 13 = some (.return_, 1, 0, 0, 0) from rfl)) (Nat.zero_le _) (Nat.zero_le _) ⟨_, rfl, Is7, Gs7, rfl, trivial⟩
theorem c5_placer (G : GX l s0 D tys a0 dT) (r : Nat) : ∀ {s : PS} {x y z : Int}, Bd s → (0 ≤ x ∧ x ≤ iI s 28) → (iI s 28 - x ≤ ((r : Nat) : Int)) → (0 ≤ y ∧ y ≤ z) → (1 ≤ z ∧ z ≤ 3) → CT l s0 D A dT 57 (rkR (12 + (r))) [.ref (A 46), .int (Int32.ofInt x), .int (Int32.ofInt y), .int (Int32.ofInt z)] s (fun o t => Bd t ∧ Fm [31, 29, 30] [45, 43, 44] s t ∧ o = .inl none ∧ (True)) := by
  induction r with
  | zero => exact fun {_ _ _ _} I p0 p1 p2 p3 => c5_place0 G I p0 p1 p2 p3
  | succ r ih => exact fun {_ _ _ _} I p0 p1 p2 p3 => c5_placeS G ih I p0 p1 p2 p3
set_option maxRecDepth 4000 in
theorem c5_solve_46 (G : GX l s0 D tys a0 dT) (I : Bd s) {x : Int} (p0 : 1 ≤ x ∧ x ≤ 3) : CT l s0 D A dT 55 (rmN 55) [.ref (A 46), .int (Int32.ofInt x)] s (fun o t => Bd t ∧ Fm [22, 23, 24, 31, 29, 30] [33, 26, 27, 28, 29, 30, 31, 32, 20, 40, 41, 42, 45, 43, 44] s t ∧ ∃ e, o = .inl (some (.int (Int32.ofInt e))) ∧ rng e ∧ (e = 0 ∨ e = 1)) := by
  refine ct_ofX G (by decide) (Nat.le_of_ble_eq_true rfl) (fun k X E ET hRt hXt q => ?_)
  show WS k 0 [(0, .ref (A 46)), (1, .int (Int32.ofInt x))] [] _ 0 0
  have F : Fm [22, 23, 24, 31, 29, 30] [33, 26, 27, 28, 29, 30, 31, 32, 20, 40, 41, 42, 45, 43, 44] s s := fm_rf _ _ s
  have b1 := bi_28 I
  have L16 : ∀ (n : Nat) (t : PS) (xv c : Int), Bd t → Fm [22, 23, 24, 31, 29, 30] [33, 26, 27, 28, 29, 30, 31, 32, 20, 40, 41, 42, 45, 43, 44] s t → ((1 ≤ xv ∧ xv ≤ 3) ∧ 1 ≤ c ∧ c ≤ 256) → (256 - c : Int).toNat < n → (∀ (t' : PS) (c' : Int), Bd t' → Fm [22, 23, 24, 31, 29, 30] [33, 26, 27, 28, 29, 30, 31, 32, 20, 40, 41, 42, 45, 43, 44] s t' → ((1 ≤ xv ∧ xv ≤ 3) ∧ 1 ≤ c' ∧ c' ≤ 256) → WS k 37 [(0, .ref (A 46)), (1, .int (Int32.ofInt xv)), (2, .int (Int32.ofInt c'))] [] (Wd A dT t') 0 0) → WS k 16 [(0, .ref (A 46)), (1, .int (Int32.ofInt xv)), (2, .int (Int32.ofInt c))] [] (Wd A dT t) 0 0 := by
    intro n
    induction n with
    | zero =>
      intro t xv c I F hi hm kx
      exact absurd hm (Nat.not_lt_zero _)
    | succ n ih =>
      intro t xv c I F hi hm kx
      have b1001 := bi_28 I
      refine z_load_n X (x := c) rfl (List.Mem.tail _ (List.Mem.tail _ (List.Mem.head _))) (z_const X rfl (z_aload_n X (x := A 46) rfl (List.Mem.head _) (z_getI X 46 rfl (c518_ok rfl) rfl rfl ?_)))
      have b1002 := bi_28 I
      refine z_shl1 X rfl (by first | exact ⟨b1002.1, oq_58cbab50 b1002.2⟩ | omega) (fun y1003 hy1003 iy1003 jy1003 ky1003 => ?_)
      refine z_icmp_ge X (t := 37) rfl rfl ⟨by first | exact oq_9462313e hi.2.1 | omega, by first | exact oq_09cd9fc1 hi.2.2 | omega⟩ ⟨by first | exact oq_9462313e hy1003 | omega, by first | exact oq_e0f19d36 iy1003 | omega⟩ (fun g1004 => ?_) (fun g1004 => ?_)
      ·
        refine WS_pq [0, 1, 2] (lv' := [(0, .ref (A 46)), (1, .int (Int32.ofInt xv)), (2, .int (Int32.ofInt c))]) rfl ?_
        exact kx _ c I F (by first | exact ⟨And.intro (hi.1.1) (hi.1.2), hi.2.1, hi.2.2⟩ | omega)
      ·
        refine z_aload_n X (x := A 46) rfl (List.Mem.head _) (z_load_n X (x := c) rfl (List.Mem.tail _ (List.Mem.tail _ (List.Mem.head _))) (zcV_v0 X E 46 (As := [.int (Int32.ofInt c)]) (st := []) rfl rfl rfl rfl (c5_hearSubset_46 G I (by first | exact ⟨hi.2.1, by omega⟩ | omega)) rfl (Nat.le_of_ble_eq_true rfl) (fun s1005 Is1005 Fs1005 hps1005 => ?_)))
        have Gs1005 := fm_tq F Fs1005 rfl rfl
        have ws1005_28 : iI s1005 28 = iI t 28 := fm_iq Fs1005 rfl
        refine z_inc X (x := c) (lv' := [(2, .int (Int32.ofInt (c + 1))), (0, .ref (A 46)), (1, .int (Int32.ofInt xv))]) rfl (by decide) (List.Mem.tail _ (List.Mem.tail _ (List.Mem.head _))) (fun _ h => h) (z_goto X (t := 16) rfl rfl (WS_pq [1, 2, 0] (lv' := [(0, .ref (A 46)), (1, .int (Int32.ofInt xv)), (2, .int (Int32.ofInt (c + 1)))]) rfl ?_))
        exact ih _ xv (c + 1) Is1005 Gs1005 (by first | exact ⟨And.intro (hi.1.1) (hi.1.2), oq_1e1a2df6 hi.2.1, by omega⟩ | omega) (by omega) kx
  refine z_aload_n X (x := A 46) rfl (List.Mem.head _) (z_const X rfl (s_putI X 46 rfl (c518_ok rfl) rfl rfl (by decide) (nar_ret (by omega)) (fit_z (by omega)) rfl (wd_gen (fun s2 hs2 => ?_))))
  have Is2 : Bd s2 := eqB hs2 (bd_I I (show (0 : Int) ≤ 0 ∧ 0 ≤ 1 by first | exact ⟨by decide, by decide⟩ | omega) (by decide))
  have Fs2 := eqF hs2 (fm_I F (inl_ok (a := 31) rfl))
  have vs2 : iI s2 31 = 0 := eqI hs2 (iI_u (by decide))
  have ws2_28 : iI s2 28 = iI s 28 := eqI hs2 rfl
  refine z_aload_n X (x := A 46) rfl (List.Mem.head _) (z_getI X 46 rfl (c518_ok rfl) rfl rfl ?_)
  have b3 := bi_28 Is2
  refine z_if_ne X (t := 14) rfl rfl (rng_to _) (fun g4 => ?_) (fun g4 => ?_)
  ·
    refine z_const X rfl (z_store_n X (lv' := [(2, .int (Int32.ofInt 1)), (0, .ref (A 46)), (1, .int (Int32.ofInt x))]) rfl (by decide) (fun _ h => h) (WS_pq [1, 2, 0] (lv' := [(0, .ref (A 46)), (1, .int (Int32.ofInt x)), (2, .int (Int32.ofInt 1))]) rfl (L16 ((256 - 1 : Int).toNat + 1) s2 x 1 Is2 Fs2 (by first | exact ⟨And.intro (p0.1) (p0.2), by decide, by decide⟩ | omega) (Nat.lt_succ_self _) ?_)))
    intro s5 x6 Is5 Fs5 hs5
    have b7 := bi_28 Is5
    refine z_aload_n X (x := A 46) rfl (List.Mem.head _) (s_getR X 46 rfl (c518_ok rfl) rfl rfl (z_const X rfl (zcS_v0 X E (As := [.ref (A 52), .int (Int32.ofInt 0)]) (st := []) rfl rfl (j_fill_52 G Is5 (by first | exact ⟨by decide, by decide⟩ | omega)) rfl (Nat.le_of_ble_eq_true rfl) (fun s8 Is8 Fs8 hps8 => ?_))))
    have Gs8 := fm_tq Fs5 Fs8 rfl rfl
    have ws8_28 : iI s8 28 = iI s5 28 := fm_iq Fs8 rfl
    refine z_aload_n X (x := A 46) rfl (List.Mem.head _) (z_const X rfl (z_const X rfl (z_load_n X (x := x) rfl (List.Mem.tail _ (List.Mem.head _)) (z_callV X 46 (rm := (rkR (12 + 8))) (As := [.int (Int32.ofInt 0), .int (Int32.ofInt 0), .int (Int32.ofInt x)]) (st := []) rfl rfl (by decide) rfl (by rw [E.1, E.2.1, E.2.2.1]; exact c5_placer G 8 Is8 (by first | exact ⟨oq_2a6e3b50 hs5.1.1, by first | (clear g4; omega) | omega⟩ | omega) (by first | exact oq_24bb5479 ws8_28 hs5.1.1 b7.2 | omega) (by first | (clear g4; omega) | omega) (by first | (clear g4; omega) | omega)) ⟨by rw [E.2.2.2]; exact (show 32 + 1 ≤ 33 from oq_475ba1bc), by rw [E.2.2.2]; exact (show 8 + (5 + 11) + 1400 ≤ 1424 from oq_a1d4c57c), by rw [E.2.2.2]; exact Nat.le_refl 0, by rw [E.2.2.2]; exact Nat.le_refl 0⟩ (Nat.le_of_ble_eq_true rfl) (fun vv s10 hq => ?_) (fun ee s10 hq => ?_)))))
    rotate_left
    · obtain ⟨Is10, Fs10, hv, hps10⟩ := hq; cases hv
    obtain ⟨Is10, Fs10, hv, hps10⟩ := hq
    cases hv
    have Gs10 := fm_tq Gs8 Fs10 rfl rfl
    have ws10_28 : iI s10 28 = iI s8 28 := fm_iq Fs10 rfl
    show WS k 52 [(0, .ref (A 46)), (1, .int (Int32.ofInt x)), (2, .int (Int32.ofInt x6))] [] (Wd A dT s10) 0 0
    refine z_aload_n X (x := A 46) rfl (List.Mem.head _) (z_getI X 46 rfl (c518_ok rfl) rfl rfl ?_)
    have b12 := bi_31 Is10
    exact w_iret X.1 q hRt (nar_ret (by first | exact oq_31e518ae b12.2 b12.1 | omega)) (ax_d X (show cdA 55 56 = some (.ireturn, 1, 0, 0, 0) from rfl)) (Nat.zero_le _) (Nat.zero_le _) ⟨_, rfl, Is10, Gs10, (iI s10 31), rfl, (rng_to _), by first | exact oq_31e518ae b12.2 b12.1 | omega⟩
  ·
    refine z_const X rfl ?_
    exact w_iret X.1 q hRt (nar_ret (by first | exact Or.inl (by decide) | omega)) (ax_d X (show cdA 55 13 = some (.ireturn, 1, 0, 0, 0) from rfl)) (Nat.zero_le _) (Nat.zero_le _) ⟨_, rfl, Is2, Fs2, 0, rfl, (by decide), by first | exact Or.inl (by decide) | omega⟩
end M76
