section
theorem oq_1a1eeab1 {a0 a1 : Int} (h0 : a0 < a1) (h1 : a1 ≤ 3) : a0 < 3 := by omega
theorem oq_2a01c7dc {a0 a1 : Int} (h0 : a0 < a1) (h1 : a1 ≤ 3) : (a0 : Int).toNat < 3 := by omega
theorem oq_e36c8877 {a0 a1 a2 : Int} (h0 : ((a0 = a1 ∧ a2 ≤ a1) ∨ (a0 = a2 ∧ a1 < a2))) (h1 : a2 ≤ 2147483647) (h2 : a1 ≤ 2147483647) (h3 : (-2147483648) ≤ a1) : ((-2147483648) ≤ a0 ∧ a0 ≤ 2147483647) := by omega
theorem oq_300cfc0a {a0 a1 : Int} (h0 : a0 ≤ a1) (h1 : a1 ≤ 3) : a0 ≤ 3 := by omega
theorem oq_8067230e : 7 + 1 ≤ (12 + (12 + (0))) := by omega
theorem oq_f178cd33 : 8 + (6 + 11) + 121 ≤ (500 + 45 * (12 + (0))) := by omega
theorem oq_f647a1c7 {a0 a1 : Int} (h0 : a0 ≤ a1) (h1 : a1 ≤ 3) : a0 ≤ 2147483647 := by omega
theorem oq_2da74134 {a0 a1 : Int} (h0 : a0 < a1) (h1 : a1 ≤ 8) : a0 ≤ 11 := by omega
theorem oq_07b7da50 {a0 a1 : Int} (h0 : a0 ≤ a1) (h1 : a1 ≤ 255) : a0 ≤ 255 := by omega
theorem oq_fdc39e03 {a0 a1 : Int} (h0 : a0 ≤ a1) (h1 : a1 ≤ 255) : a0 ≤ 2147483647 := by omega
theorem oq_bc9971d6 {a0 a1 a2 a3 a4 a5 : Int} (h0 : a0 = a1) (h1 : a2 < a3) (h2 : a1 = a4) (h3 : a4 = a5) (h4 : a5 = a3) : a2 < a0 := by omega
theorem oq_ae749fef (r : Nat) : 7 + 1 ≤ (12 + (12 + (r + 1))) := by omega
theorem oq_7e2d2a8e (r : Nat) : 8 + (6 + 11) + 121 ≤ (500 + 45 * (12 + (r + 1))) := by omega
theorem oq_24bb5479 {a0 a1 a2 : Int} (h0 : a0 = a1) (h1 : 1 ≤ a2) (h2 : a1 ≤ 8) : (a0 - a2) ≤ ((8 : Nat) : Int) := by omega
theorem oq_475ba1bc : 32 + 1 ≤ 33 := by omega
theorem oq_a1d4c57c : 8 + (5 + 11) + 1400 ≤ 1424 := by omega
/-! The class: joins, region -/
section M76
variable {l : Launch} {s0 : State} {D : va_G} {tys : List (ClassId × FieldType)} {a0 : Array Value} {A : Nat → Nat} {dT : Nat → ClassId} {s : PS}
set_option maxRecDepth 4000 in
theorem c7_joinsHold_19 (G : GX l s0 D tys a0 dT) (I : Bd s) (p0 : iI s 12 ≤ 8) : CT l s0 D A dT 83 (rmN 83) [.ref (A 19), .ref (A 39)] s (fun o t => Bd t ∧ Fm [] [20] s t ∧ ∃ e, o = .inl (some (.int (Int32.ofInt e))) ∧ rng e ∧ (e = 0 ∨ e = 1)) := by
  refine ct_ofX G (by decide) (Nat.le_of_ble_eq_true rfl) (fun k X E ET hRt hXt q => ?_)
  show WS k 0 [(0, .ref (A 19)), (1, .ref (A 39))] [] _ 0 0
  have F : Fm [] [20] s s := fm_rf _ _ s
  have b1 := bi_12 I
  have L2 : ∀ (n : Nat) (t : PS) (c : Int), Bd t → Fm [] [20] s t → (0 ≤ c ∧ c ≤ 8 ∧ iI t 12 ≤ 8) → (8 - c : Int).toNat < n → (∀ (t' : PS) (c' : Int), Bd t' → Fm [] [20] s t' → (0 ≤ c' ∧ c' ≤ 8 ∧ iI t' 12 ≤ 8) → WS k 38 [(0, .ref (A 19)), (1, .ref (A 39)), (2, .int (Int32.ofInt c'))] [] (Wd A dT t') 0 0) → WS k 2 [(0, .ref (A 19)), (1, .ref (A 39)), (2, .int (Int32.ofInt c))] [] (Wd A dT t) 0 0 := by
    intro n
    induction n with
    | zero =>
      intro t c I F hi hm kx
      exact absurd hm (Nat.not_lt_zero _)
    | succ n ih =>
      intro t c I F hi hm kx
      have b1001 := bi_12 I
      refine z_load_n X (x := c) rfl (List.Mem.tail _ (List.Mem.tail _ (List.Mem.head _))) (z_aload_n X (x := A 19) rfl (List.Mem.head _) (z_getI X 19 rfl (c518_ok rfl) rfl rfl ?_))
      have b1002 := bi_12 I
      refine z_icmp_ge X (t := 38) rfl rfl ⟨by first | exact oq_fa4e5087 hi.1 | omega, by first | exact oq_d3f5d874 hi.2.1 | omega⟩ (rng_to _) (fun g1003 => ?_) (fun g1003 => ?_)
      ·
        refine WS_pq [0, 1, 2] (lv' := [(0, .ref (A 19)), (1, .ref (A 39)), (2, .int (Int32.ofInt c))]) rfl ?_
        exact kx _ c I F (by first | exact ⟨hi.1, hi.2.1, hi.2.2⟩ | omega)
      ·
        refine z_aload_n X (x := A 19) rfl (List.Mem.head _) (z_getI X 19 rfl (c518_ok rfl) rfl rfl ?_)
        have b1004 := bi_14 I
        refine z_load_n X (x := c) rfl (List.Mem.tail _ (List.Mem.tail _ (List.Mem.head _))) (z_bshr X rfl (z_any (fun y1005 hy1005 => ?_)))
        refine z_const X rfl (z_band X rfl (z_any (fun y1006 hy1006 => ?_)))
        refine z_if_eq X (t := 32) rfl rfl hy1006 (fun g1007 => ?_) (fun g1007 => ?_)
        ·
          refine z_inc X (x := c) (lv' := [(2, .int (Int32.ofInt (c + 1))), (0, .ref (A 19)), (1, .ref (A 39))]) rfl (by decide) (List.Mem.tail _ (List.Mem.tail _ (List.Mem.head _))) (fun _ h => h) (z_goto X (t := 2) rfl rfl (WS_pq [1, 2, 0] (lv' := [(0, .ref (A 19)), (1, .ref (A 39)), (2, .int (Int32.ofInt (c + 1)))]) rfl ?_))
          exact ih _ (c + 1) I F (by first | exact ⟨oq_54f49eb5 hi.1, oq_f6204d84 g1003 hi.2.2, hi.2.2⟩ | omega) (by first | exact qk_me hm (by decide) (oq_ccc5e5e0 g1003 hi.2.2) | omega) kx
        ·
          refine z_aload_n X (x := A 19) rfl (List.Mem.head _) (z_load_n X (x := c) rfl (List.Mem.tail _ (List.Mem.tail _ (List.Mem.head _))) (z_aload_n X (x := A 39) rfl (List.Mem.tail _ (List.Mem.head _)) (zcV_i0 X E 19 (As := [.int (Int32.ofInt c), .ref (A 39)]) (st := []) rfl rfl rfl rfl (c7_work_31 G I (by first | exact ⟨oq_ca54ea22 hi.1, oq_e297cd40 g1003 hi.2.2⟩ | omega)) rfl (Nat.le_of_ble_eq_true rfl) (fun s1008 e1009 Is1008 Fs1008 hrs1008 hps1008 => ?_))))
          have Gs1008 := fm_tq F Fs1008 rfl rfl
          have ws1008_12 : iI s1008 12 = iI t 12 := fm_iq Fs1008 rfl
          refine z_if_ne X (t := 32) rfl rfl hrs1008 (fun g1010 => ?_) (fun g1010 => ?_)
          ·
            refine z_inc X (x := c) (lv' := [(2, .int (Int32.ofInt (c + 1))), (0, .ref (A 19)), (1, .ref (A 39))]) rfl (by decide) (List.Mem.tail _ (List.Mem.tail _ (List.Mem.head _))) (fun _ h => h) (z_goto X (t := 2) rfl rfl (WS_pq [1, 2, 0] (lv' := [(0, .ref (A 19)), (1, .ref (A 39)), (2, .int (Int32.ofInt (c + 1)))]) rfl ?_))
            exact ih _ (c + 1) Is1008 Gs1008 (by first | exact ⟨oq_54f49eb5 hi.1, oq_f6204d84 g1003 hi.2.2, oq_86ef0b17 ws1008_12 hi.2.2⟩ | omega) (by first | exact qk_me hm (by decide) (oq_ccc5e5e0 g1003 hi.2.2) | omega) kx
          ·
            refine z_const X rfl ?_
            exact w_iret X.1 q hRt (nar_ret (by first | exact Or.inl (by decide) | omega)) (ax_d X (show cdA 83 31 = some (.ireturn, 1, 0, 0, 0) from rfl)) (Nat.zero_le _) (Nat.zero_le _) ⟨_, rfl, Is1008, Gs1008, 0, rfl, (by decide), by first | exact Or.inl (by decide) | omega⟩
  refine z_const X rfl (z_store_n X (lv' := [(2, .int (Int32.ofInt 0)), (0, .ref (A 19)), (1, .ref (A 39))]) rfl (by decide) (fun _ h => h) (WS_pq [1, 2, 0] (lv' := [(0, .ref (A 19)), (1, .ref (A 39)), (2, .int (Int32.ofInt 0))]) rfl (L2 ((8 - 0 : Int).toNat + 1) s 0 I F (by first | exact ⟨by decide, by decide, p0⟩ | omega) (Nat.lt_succ_self _) ?_)))
  intro s2 x3 Is2 Fs2 hs2
  have b4 := bi_12 Is2
  refine z_const X rfl ?_
  exact w_iret X.1 q hRt (nar_ret (by first | exact Or.inr (by decide) | omega)) (ax_d X (show cdA 83 39 = some (.ireturn, 1, 0, 0, 0) from rfl)) (Nat.zero_le _) (Nat.zero_le _) ⟨_, rfl, Is2, Fs2, 1, rfl, (by decide), by first | exact Or.inr (by decide) | omega⟩
set_option maxRecDepth 4000 in
theorem c5_add_46 (G : GX l s0 D tys a0 dT) (I : Bd s) {x : Int} (p0 : 0 ≤ x ∧ x ≤ 127) : CT l s0 D A dT 54 (rmN 54) [.ref (A 46), .int (Int32.ofInt x)] s (fun o t => Bd t ∧ Fm [28] [39] s t ∧ ∃ e, o = .inl (some (.int (Int32.ofInt e))) ∧ rng e ∧ (True)) := by
  refine ct_ofX G (by decide) (Nat.le_of_ble_eq_true rfl) (fun k X E ET hRt hXt q => ?_)
  show WS k 0 [(0, .ref (A 46)), (1, .int (Int32.ofInt x))] [] _ 0 0
  have F : Fm [28] [39] s s := fm_rf _ _ s
  have b1 := bi_28 I
  have L13 : ∀ (n : Nat) (t : PS) (xv c : Int), Bd t → Fm [28] [39] s t → ((0 ≤ xv ∧ xv ≤ 127) ∧ 0 ≤ c ∧ c ≤ 8 ∧ iI t 28 ≤ 7) → (8 - c : Int).toNat < n → (∀ (t' : PS) (c' : Int), Bd t' → Fm [28] [39] s t' → ((0 ≤ xv ∧ xv ≤ 127) ∧ 0 ≤ c' ∧ c' ≤ 8 ∧ iI t' 28 ≤ 7) → WS k 40 [(0, .ref (A 46)), (1, .int (Int32.ofInt xv)), (2, .int (Int32.ofInt c'))] [] (Wd A dT t') 0 0) → WS k 13 [(0, .ref (A 46)), (1, .int (Int32.ofInt xv)), (2, .int (Int32.ofInt c))] [] (Wd A dT t) 0 0 := by
    intro n
    induction n with
    | zero =>
      intro t xv c I F hi hm kx
      exact absurd hm (Nat.not_lt_zero _)
    | succ n ih =>
      intro t xv c I F hi hm kx
      have b1001 := bi_28 I
      refine z_load_n X (x := c) rfl (List.Mem.tail _ (List.Mem.tail _ (List.Mem.head _))) (z_aload_n X (x := A 46) rfl (List.Mem.head _) (z_getI X 46 rfl (c518_ok rfl) rfl rfl ?_))
      have b1002 := bi_28 I
      refine z_icmp_ge X (t := 40) rfl rfl ⟨by first | exact oq_fa4e5087 hi.2.1 | omega, by first | exact oq_d3f5d874 hi.2.2.1 | omega⟩ (rng_to _) (fun g1003 => ?_) (fun g1003 => ?_)
      ·
        refine WS_pq [0, 1, 2] (lv' := [(0, .ref (A 46)), (1, .int (Int32.ofInt xv)), (2, .int (Int32.ofInt c))]) rfl ?_
        exact kx _ c I F (by first | exact ⟨And.intro (hi.1.1) (hi.1.2), hi.2.1, hi.2.2.1, hi.2.2.2⟩ | omega)
      ·
        refine z_aload_n X (x := A 46) rfl (List.Mem.head _) (s_getR X 46 rfl (c518_ok rfl) rfl rfl (z_load_n X (x := c) rfl (List.Mem.tail _ (List.Mem.tail _ (List.Mem.head _))) (z_ald X 47 rfl (c518_ok rfl) rfl (by first | exact hi.2.1 | omega) (show c < 8 by first | exact oq_7f5b2e79 g1003 b1002.2 | omega) (cbig_ok rfl) ?_)))
        have b1004 := bc_39 I (show (c).toNat < 8 by first | exact oq_67be0351 g1003 b1002.2 | omega)
        refine z_load_n X (x := xv) rfl (List.Mem.tail _ (List.Mem.head _)) (z_icmp_ne X (t := 34) rfl rfl (rng_to _) ⟨by first | exact oq_fa4e5087 hi.1.1 | omega, by first | exact oq_07d346ce hi.1.2 | omega⟩ (fun g1005 => ?_) (fun g1005 => ?_))
        ·
          refine z_inc X (x := c) (lv' := [(2, .int (Int32.ofInt (c + 1))), (0, .ref (A 46)), (1, .int (Int32.ofInt xv))]) rfl (by decide) (List.Mem.tail _ (List.Mem.tail _ (List.Mem.head _))) (fun _ h => h) (z_goto X (t := 13) rfl rfl (WS_pq [1, 2, 0] (lv' := [(0, .ref (A 46)), (1, .int (Int32.ofInt xv)), (2, .int (Int32.ofInt (c + 1)))]) rfl ?_))
          exact ih _ xv (c + 1) I F (by first | exact ⟨And.intro (hi.1.1) (hi.1.2), oq_54f49eb5 hi.2.1, oq_f6204d84 g1003 b1002.2, hi.2.2.2⟩ | omega) (by first | exact qk_me hm (by decide) (oq_ccc5e5e0 g1003 b1002.2) | omega) kx
        ·
          refine z_bipush X rfl ?_
          exact w_iret X.1 q hRt rfl (ax_d X (show cdA 54 33 = some (.ireturn, 1, 0, 0, 0) from rfl)) (Nat.zero_le _) (Nat.zero_le _) ⟨_, rfl, I, F, (-2), rfl, (by decide), trivial⟩
  refine z_aload_n X (x := A 46) rfl (List.Mem.head _) (z_getI X 46 rfl (c518_ok rfl) rfl rfl ?_)
  have b2 := bi_28 I
  refine z_bipush X rfl (z_icmp_lt X (t := 11) rfl rfl (rng_to _) (by decide) (fun g3 => ?_) (fun g3 => ?_))
  ·
    refine z_const X rfl (z_store_n X (lv' := [(2, .int (Int32.ofInt 0)), (0, .ref (A 46)), (1, .int (Int32.ofInt x))]) rfl (by decide) (fun _ h => h) (WS_pq [1, 2, 0] (lv' := [(0, .ref (A 46)), (1, .int (Int32.ofInt x)), (2, .int (Int32.ofInt 0))]) rfl (L13 ((8 - 0 : Int).toNat + 1) s x 0 I F (by first | exact ⟨And.intro (p0.1) (p0.2), by decide, by decide, oq_78c639ed g3⟩ | omega) (Nat.lt_succ_self _) ?_)))
    intro s4 x5 Is4 Fs4 hs4
    have b6 := bi_28 Is4
    refine z_aload_n X (x := A 46) rfl (List.Mem.head _) (s_getR X 46 rfl (c518_ok rfl) rfl rfl (z_aload_n X (x := A 46) rfl (List.Mem.head _) (z_getI X 46 rfl (c518_ok rfl) rfl rfl ?_)))
    have b7 := bi_28 Is4
    refine z_load_n X (x := x) rfl (List.Mem.tail _ (List.Mem.head _)) (z_ast X 47 rfl (c518_ok rfl) rfl (by first | exact b7.1 | omega) (show (iI s4 28) < 8 by first | exact oq_aaea290e hs4.2.2.2 | omega) (cbig_ok rfl) (wd_gen (fun s8 hs8 => ?_)))
    have Is8 : Bd s8 := eqB hs8 (bd_C Is4 (show (0 : Int) ≤ x ∧ x ≤ 127 by first | exact ⟨hs4.1.1, hs4.1.2⟩ | omega) ⟨by first | exact oq_fa4e5087 hs4.1.1 | omega, by first | exact oq_07d346ce hs4.1.2 | omega⟩)
    have Fs8 := eqF hs8 (fm_C Fs4 (inl_ok (a := 39) rfl))
    have ws8_28 : iI s8 28 = iI s4 28 := eqI hs8 rfl
    refine z_aload_n X (x := A 46) rfl (List.Mem.head _) (w_dup X.1 (ax_d X (show cdA 54 51 = some (.dup, 1, 0, 0, 0) from rfl)) rfl (z_getI X 46 rfl (c518_ok rfl) rfl rfl ?_))
    have b9 := bi_28 Is8
    refine z_const X rfl (z_add X rfl (s_putI X 46 rfl (c518_ok rfl) rfl rfl (by decide) rfl rfl rfl (wd_gen (fun s10 hs10 => ?_))))
    have Is10 : Bd s10 := eqB hs10 (bd_I Is8 (show (0 : Int) ≤ ((iI s8 28) + 1) ∧ ((iI s8 28) + 1) ≤ 8 by first | exact ⟨oq_54f49eb5 b9.1, oq_216077ba ws8_28 hs4.2.2.2⟩ | omega) ⟨by first | exact oq_74de1e16 b9.1 | omega, by first | exact oq_3762dfb5 b9.2 | omega⟩)
    have Fs10 := eqF hs10 (fm_I Fs8 (inl_ok (a := 28) rfl))
    have vs10 : iI s10 28 = ((iI s8 28) + 1) := eqI hs10 (iI_u ⟨by first | exact oq_74de1e16 b9.1 | omega, by first | exact oq_3762dfb5 b9.2 | omega⟩)
    refine z_aload_n X (x := A 46) rfl (List.Mem.head _) (z_getI X 46 rfl (c518_ok rfl) rfl rfl ?_)
    have b11 := bi_28 Is10
    exact w_iret X.1 q hRt rfl (ax_d X (show cdA 54 64 = some (.ireturn, 1, 0, 0, 0) from rfl)) (Nat.zero_le _) (Nat.zero_le _) ⟨_, rfl, Is10, Fs10, (iI s10 28), rfl, (rng_to _), trivial⟩
  ·
    refine z_const X rfl ?_
    exact w_iret X.1 q hRt rfl (ax_d X (show cdA 54 10 = some (.ireturn, 1, 0, 0, 0) from rfl)) (Nat.zero_le _) (Nat.zero_le _) ⟨_, rfl, I, F, (-1), rfl, (by decide), trivial⟩
set_option maxRecDepth 4000 in
theorem c5_hearSubset_46 (G : GX l s0 D tys a0 dT) (I : Bd s) {x : Int} (p0 : 1 ≤ x ∧ x ≤ 255) : CT l s0 D A dT 56 (rmN 56) [.ref (A 46), .int (Int32.ofInt x)] s (fun o t => Bd t ∧ Fm [22, 23, 24] [33, 26, 27, 28, 29, 30, 31, 32, 20, 40, 41, 42] s t ∧ o = .inl none ∧ (True)) := by
  refine ct_ofX G (by decide) (Nat.le_of_ble_eq_true rfl) (fun k X E ET hRt hXt q => ?_)
  show WS k 0 [(0, .ref (A 46)), (1, .int (Int32.ofInt x))] [] _ 0 0
  have F : Fm [22, 23, 24] [33, 26, 27, 28, 29, 30, 31, 32, 20, 40, 41, 42] s s := fm_rf _ _ s
  have b1 := bi_28 I
  have L8 : ∀ (n : Nat) (t : PS) (xv : Int) (lw : Int64) (hw : Int64) (c : Int), Bd t → Fm [22, 23, 24] [33, 26, 27, 28, 29, 30, 31, 32, 20, 40, 41, 42] s t → ((1 ≤ xv ∧ xv ≤ 255) ∧ 0 ≤ c ∧ c ≤ 8) → (8 - c : Int).toNat < n → (∀ (t' : PS) (lw' : Int64) (hw' : Int64) (c' : Int), Bd t' → Fm [22, 23, 24] [33, 26, 27, 28, 29, 30, 31, 32, 20, 40, 41, 42] s t' → ((1 ≤ xv ∧ xv ≤ 255) ∧ 0 ≤ c' ∧ c' ≤ 8) → WS k 73 [(0, .ref (A 46)), (1, .int (Int32.ofInt xv)), (2, .long lw'), (4, .long hw'), (6, .int (Int32.ofInt c'))] [] (Wd A dT t') 0 0) → WS k 8 [(0, .ref (A 46)), (1, .int (Int32.ofInt xv)), (2, .long lw), (4, .long hw), (6, .int (Int32.ofInt c))] [] (Wd A dT t) 0 0 := by
    intro n
    induction n with
    | zero =>
      intro t xv lw hw c I F hi hm kx
      exact absurd hm (Nat.not_lt_zero _)
    | succ n ih =>
      intro t xv lw hw c I F hi hm kx
      have b1001 := bi_28 I
      refine z_load X (x := c) rfl (List.Mem.tail _ (List.Mem.tail _ (List.Mem.tail _ (List.Mem.tail _ (List.Mem.head _))))) (z_aload_n X (x := A 46) rfl (List.Mem.head _) (z_getI X 46 rfl (c518_ok rfl) rfl rfl ?_))
      have b1002 := bi_28 I
      refine z_icmp_ge X (t := 73) rfl rfl ⟨by first | exact oq_fa4e5087 hi.2.1 | omega, by first | exact oq_d3f5d874 hi.2.2 | omega⟩ (rng_to _) (fun g1003 => ?_) (fun g1003 => ?_)
      ·
        refine WS_pq [0, 1, 2, 3, 4] (lv' := [(0, .ref (A 46)), (1, .int (Int32.ofInt xv)), (2, .long lw), (4, .long hw), (6, .int (Int32.ofInt c))]) rfl ?_
        exact kx _ lw hw c I F (by first | exact ⟨And.intro (hi.1.1) (hi.1.2), hi.2.1, hi.2.2⟩ | omega)
      ·
        refine z_load_n X (x := xv) rfl (List.Mem.tail _ (List.Mem.head _)) (z_load X (x := c) rfl (List.Mem.tail _ (List.Mem.tail _ (List.Mem.tail _ (List.Mem.tail _ (List.Mem.head _))))) (z_bshr X rfl (z_any (fun y1004 hy1004 => ?_))))
        refine z_const X rfl (z_band X rfl (z_any (fun y1005 hy1005 => ?_)))
        refine z_if_eq X (t := 67) rfl rfl hy1005 (fun g1006 => ?_) (fun g1006 => ?_)
        ·
          refine z_inc X (x := c) (lv' := [(6, .int (Int32.ofInt (c + 1))), (0, .ref (A 46)), (1, .int (Int32.ofInt xv)), (2, .long lw), (4, .long hw)]) rfl (by decide) (List.Mem.tail _ (List.Mem.tail _ (List.Mem.tail _ (List.Mem.tail _ (List.Mem.head _))))) (fun _ h => h) (z_goto X (t := 8) rfl rfl (WS_pq [1, 2, 3, 4, 0] (lv' := [(0, .ref (A 46)), (1, .int (Int32.ofInt xv)), (2, .long lw), (4, .long hw), (6, .int (Int32.ofInt (c + 1)))]) rfl ?_))
          exact ih _ xv lw hw (c + 1) I F (by first | exact ⟨And.intro (hi.1.1) (hi.1.2), oq_54f49eb5 hi.2.1, oq_f6204d84 g1003 b1002.2⟩ | omega) (by first | exact qk_me hm (by decide) (oq_ccc5e5e0 g1003 b1002.2) | omega) kx
        ·
          refine w_lconst X.1 (ax_d X (show cdA 56 26 = some (.lconst 1, 1, 0, 0, 0) from rfl)) rfl (z_anyJ (fun j1007 => ?_))
          refine z_aload_n X (x := A 46) rfl (List.Mem.head _) (s_getR X 46 rfl (c518_ok rfl) rfl rfl (z_load X (x := c) rfl (List.Mem.tail _ (List.Mem.tail _ (List.Mem.tail _ (List.Mem.tail _ (List.Mem.head _))))) (z_ald X 47 rfl (c518_ok rfl) rfl (by first | exact hi.2.1 | omega) (show c < 8 by first | exact oq_7f5b2e79 g1003 b1002.2 | omega) (cbig_ok rfl) ?_)))
          have b1008 := bc_39 I (show (c).toNat < 8 by first | exact oq_67be0351 g1003 b1002.2 | omega)
          refine z_bipush X rfl (z_band X rfl (z_any (fun y1009 hy1009 => ?_)))
          refine w_lshl X.1 (ax_d X (show cdA 56 37 = some (.lshl, 1, 0, 0, 0) from rfl)) (z_anyJ (fun j1010 => ?_))
          refine w_lstore X.1 (lv' := [(7, .long j1010), (0, .ref (A 46)), (1, .int (Int32.ofInt xv)), (2, .long lw), (4, .long hw), (6, .int (Int32.ofInt c))]) (ax_d X (show cdA 56 38 = some (.lstore 7, 2, 0, 0, 0) from rfl)) (by rw [X.2.1.2.2]; decide) (fun _ h => h) (z_aload_n X (x := A 46) rfl (List.Mem.tail _ (List.Mem.head _)) (s_getR X 46 rfl (c518_ok rfl) rfl rfl (z_load X (x := c) rfl (List.Mem.tail _ (List.Mem.tail _ (List.Mem.tail _ (List.Mem.tail _ (List.Mem.tail _ (List.Mem.head _)))))) (z_ald X 47 rfl (c518_ok rfl) rfl (by first | exact hi.2.1 | omega) (show c < 8 by first | exact oq_7f5b2e79 g1003 b1002.2 | omega) (cbig_ok rfl) ?_))))
          have b1011 := bc_39 I (show (c).toNat < 8 by first | exact oq_67be0351 g1003 b1002.2 | omega)
          refine z_bipush X rfl (z_icmp_ge X (t := 60) rfl rfl (rng_to _) (by decide) (fun g1012 => ?_) (fun g1012 => ?_))
          ·
            refine w_lload X.1 (ax_d X (show cdA 56 60 = some (.lload 4, 2, 0, 0, 0) from rfl)) (x := hw) (List.Mem.tail _ (List.Mem.tail _ (List.Mem.tail _ (List.Mem.tail _ (List.Mem.head _))))) (w_lload X.1 (ax_d X (show cdA 56 62 = some (.lload 7, 2, 0, 0, 0) from rfl)) (x := j1010) (List.Mem.head _) (w_lor X.1 (ax_d X (show cdA 56 64 = some (.lor, 1, 0, 0, 0) from rfl)) (z_anyJ (fun j1013 => ?_))))
            refine w_lstore X.1 (lv' := [(4, .long j1013), (7, .long j1010), (0, .ref (A 46)), (1, .int (Int32.ofInt xv)), (2, .long lw), (6, .int (Int32.ofInt c))]) (ax_d X (show cdA 56 65 = some (.lstore 4, 2, 0, 0, 0) from rfl)) (by rw [X.2.1.2.2]; decide) (fun _ h => h) (z_inc X (x := c) (lv' := [(6, .int (Int32.ofInt (c + 1))), (4, .long j1013), (7, .long j1010), (0, .ref (A 46)), (1, .int (Int32.ofInt xv)), (2, .long lw)]) rfl (by decide) (List.Mem.tail _ (List.Mem.tail _ (List.Mem.tail _ (List.Mem.tail _ (List.Mem.tail _ (List.Mem.head _)))))) (fun _ h => h) (z_goto X (t := 8) rfl rfl (WS_pq [3, 4, 5, 1, 0] (lv' := [(0, .ref (A 46)), (1, .int (Int32.ofInt xv)), (2, .long lw), (4, .long j1013), (6, .int (Int32.ofInt (c + 1)))]) rfl ?_)))
            exact ih _ xv lw j1013 (c + 1) I F (by first | exact ⟨And.intro (hi.1.1) (hi.1.2), oq_54f49eb5 hi.2.1, oq_f6204d84 g1003 b1002.2⟩ | omega) (by first | exact qk_me hm (by decide) (oq_ccc5e5e0 g1003 b1002.2) | omega) kx
          ·
            refine w_lload_n X.1 (ax_d X (show cdA 56 52 = some (.lload_n 2, 1, 0, 0, 0) from rfl)) (x := lw) (List.Mem.tail _ (List.Mem.tail _ (List.Mem.tail _ (List.Mem.head _)))) (w_lload X.1 (ax_d X (show cdA 56 53 = some (.lload 7, 2, 0, 0, 0) from rfl)) (x := j1010) (List.Mem.head _) (w_lor X.1 (ax_d X (show cdA 56 55 = some (.lor, 1, 0, 0, 0) from rfl)) (z_anyJ (fun j1014 => ?_))))
            refine w_lstore_n X.1 (lv' := [(2, .long j1014), (7, .long j1010), (0, .ref (A 46)), (1, .int (Int32.ofInt xv)), (4, .long hw), (6, .int (Int32.ofInt c))]) (ax_d X (show cdA 56 56 = some (.lstore_n 2, 1, 0, 0, 0) from rfl)) (by rw [X.2.1.2.2]; decide) (fun _ h => h) (z_goto X (t := 67) rfl rfl (z_inc X (x := c) (lv' := [(6, .int (Int32.ofInt (c + 1))), (2, .long j1014), (7, .long j1010), (0, .ref (A 46)), (1, .int (Int32.ofInt xv)), (4, .long hw)]) rfl (by decide) (List.Mem.tail _ (List.Mem.tail _ (List.Mem.tail _ (List.Mem.tail _ (List.Mem.tail _ (List.Mem.head _)))))) (fun _ h => h) (z_goto X (t := 8) rfl rfl (WS_pq [3, 4, 1, 5, 0] (lv' := [(0, .ref (A 46)), (1, .int (Int32.ofInt xv)), (2, .long j1014), (4, .long hw), (6, .int (Int32.ofInt (c + 1)))]) rfl ?_))))
            exact ih _ xv j1014 hw (c + 1) I F (by first | exact ⟨And.intro (hi.1.1) (hi.1.2), oq_54f49eb5 hi.2.1, oq_f6204d84 g1003 b1002.2⟩ | omega) (by first | exact qk_me hm (by decide) (oq_ccc5e5e0 g1003 b1002.2) | omega) kx
  refine w_lconst X.1 (ax_d X (show cdA 56 0 = some (.lconst 0, 1, 0, 0, 0) from rfl)) rfl (z_anyJ (fun j2 => ?_))
  refine w_lstore_n X.1 (lv' := [(2, .long j2), (0, .ref (A 46)), (1, .int (Int32.ofInt x))]) (ax_d X (show cdA 56 1 = some (.lstore_n 2, 1, 0, 0, 0) from rfl)) (by rw [X.2.1.2.2]; decide) (fun _ h => h) (w_lconst X.1 (ax_d X (show cdA 56 2 = some (.lconst 0, 1, 0, 0, 0) from rfl)) rfl (z_anyJ (fun j3 => ?_)))
  refine w_lstore X.1 (lv' := [(4, .long j3), (2, .long j2), (0, .ref (A 46)), (1, .int (Int32.ofInt x))]) (ax_d X (show cdA 56 3 = some (.lstore 4, 2, 0, 0, 0) from rfl)) (by rw [X.2.1.2.2]; decide) (fun _ h => h) (z_const X rfl (z_store X (lv' := [(6, .int (Int32.ofInt 0)), (4, .long j3), (2, .long j2), (0, .ref (A 46)), (1, .int (Int32.ofInt x))]) rfl (by decide) (fun _ h => h) (WS_pq [3, 4, 2, 1, 0] (lv' := [(0, .ref (A 46)), (1, .int (Int32.ofInt x)), (2, .long j2), (4, .long j3), (6, .int (Int32.ofInt 0))]) rfl (L8 ((8 - 0 : Int).toNat + 1) s x j2 j3 0 I F (by first | exact ⟨And.intro (p0.1) (p0.2), by decide, by decide⟩ | omega) (Nat.lt_succ_self _) ?_))))
  intro s4 x5 x6 x7 Is4 Fs4 hs4
  have b8 := bi_28 Is4
  refine z_aload_n X (x := A 46) rfl (List.Mem.head _) (s_getR X 46 rfl (c518_ok rfl) rfl rfl (z_load_n X (x := x) rfl (List.Mem.tail _ (List.Mem.head _)) (w_lload_n X.1 (ax_d X (show cdA 56 78 = some (.lload_n 2, 1, 0, 0, 0) from rfl)) (x := x5) (List.Mem.tail _ (List.Mem.tail _ (List.Mem.head _))) (w_lload X.1 (ax_d X (show cdA 56 79 = some (.lload 4, 2, 0, 0, 0) from rfl)) (x := x6) (List.Mem.tail _ (List.Mem.tail _ (List.Mem.tail _ (List.Mem.head _)))) (zcS_i0 X E (As := [.long x5, .long x6]) (st := [.int (Int32.ofInt x), .ref (A 48)]) rfl rfl (c3_hangs G Is4 ) rfl (Nat.le_of_ble_eq_true rfl) (fun s9 e10 Is9 Fs9 hrs9 hps9 => ?_))))))
  have Gs9 := fm_tq Fs4 Fs9 rfl rfl
  have ws9_28 : iI s9 28 = iI s4 28 := fm_iq Fs9 rfl
  refine z_zast X 48 rfl (c518_ok rfl) rfl (by first | exact oq_2a6e3b50 hs4.1.1 | omega) (show x < 256 by first | exact oq_29e5dbe2 hs4.1.2 | omega) (cbig_ok rfl) (by first | exact hps9 | omega) (wd_gen (fun s11 hs11 => ?_))
  have Is11 : Bd s11 := eqB hs11 (bd_C Is9 (show (0 : Int) ≤ e10 ∧ e10 ≤ 1 by first | exact ⟨oq_e4aca38c hps9, oq_14617724 hps9⟩ | omega) hrs9)
  have Fs11 := eqF hs11 (fm_C Gs9 (inl_ok (a := 40) rfl))
  have ws11_28 : iI s11 28 = iI s9 28 := eqI hs11 rfl
  refine z_aload_n X (x := A 46) rfl (List.Mem.head _) (s_getR X 46 rfl (c518_ok rfl) rfl rfl (z_load_n X (x := x) rfl (List.Mem.tail _ (List.Mem.head _)) (z_zald X 48 rfl (c518_ok rfl) rfl (by first | exact oq_2a6e3b50 hs4.1.1 | omega) (show x < 256 by first | exact oq_29e5dbe2 hs4.1.2 | omega) (cbig_ok rfl) ?_)))
  have b12 := bc_40 Is11 (show (x).toNat < 256 by first | exact oq_c39a26fc hs4.1.2 | omega)
  refine z_if_eq X (t := 131) rfl rfl (rng_to _) (fun g13 => ?_) (fun g13 => ?_)
  ·
    exact w_vret X.1 q hRt (ax_d X (show cdA 56 131 = some (.return_, 1, 0, 0, 0) from rfl)) (Nat.zero_le _) (Nat.zero_le _) ⟨_, rfl, Is11, Fs11, rfl, trivial⟩
  ·
    refine z_aload_n X (x := A 46) rfl (List.Mem.head _) (s_getR X 46 rfl (c518_ok rfl) rfl rfl (w_lload_n X.1 (ax_d X (show cdA 56 98 = some (.lload_n 2, 1, 0, 0, 0) from rfl)) (x := x5) (List.Mem.tail _ (List.Mem.tail _ (List.Mem.head _))) (w_lload X.1 (ax_d X (show cdA 56 99 = some (.lload 4, 2, 0, 0, 0) from rfl)) (x := x6) (List.Mem.tail _ (List.Mem.tail _ (List.Mem.tail _ (List.Mem.head _)))) (z_const X rfl (zcV_v0 X E 31 (As := [.long x5, .long x6, .int (Int32.ofInt 1)]) (st := []) rfl rfl rfl rfl (c0_listen_31 G Is11 (by first | exact ⟨by decide, by decide⟩ | omega)) rfl (Nat.le_of_ble_eq_true rfl) (fun s14 Is14 Fs14 hps14 => ?_))))))
    have Gs14 := fm_tq Fs11 Fs14 rfl rfl
    have ws14_28 : iI s14 28 = iI s11 28 := fm_iq Fs14 rfl
    refine z_aload_n X (x := A 46) rfl (List.Mem.head _) (s_getR X 46 rfl (c518_ok rfl) rfl rfl (z_load_n X (x := x) rfl (List.Mem.tail _ (List.Mem.head _)) (z_aload_n X (x := A 46) rfl (List.Mem.head _) (s_getR X 46 rfl (c518_ok rfl) rfl rfl (zcV_i0 X E 31 (As := []) (st := [.int (Int32.ofInt x), .ref (A 49)]) rfl rfl rfl rfl (c0_findPeak_31 G Is14 ) rfl (Nat.le_of_ble_eq_true rfl) (fun s16 e17 Is16 Fs16 hrs16 hps16 => ?_))))))
    have Gs16 := fm_tq Gs14 Fs16 rfl rfl
    have ws16_28 : iI s16 28 = iI s14 28 := fm_iq Fs16 rfl
    refine z_ast X 49 rfl (c518_ok rfl) rfl (by first | exact oq_2a6e3b50 hs4.1.1 | omega) (show x < 256 by first | exact oq_29e5dbe2 hs4.1.2 | omega) (cbig_ok rfl) (wd_gen (fun s18 hs18 => ?_))
    have Is18 : Bd s18 := eqB hs18 (bd_C Is16 (show ((-2147483648) : Int) ≤ e17 ∧ e17 ≤ 2147483647 by first | (clear g13 hps9; omega) | (clear hps9; omega) | omega) hrs16)
    have Fs18 := eqF hs18 (fm_C Gs16 (inl_ok (a := 41) rfl))
    have ws18_28 : iI s18 28 = iI s16 28 := eqI hs18 rfl
    refine z_aload_n X (x := A 46) rfl (List.Mem.head _) (s_getR X 46 rfl (c518_ok rfl) rfl rfl (z_load_n X (x := x) rfl (List.Mem.tail _ (List.Mem.head _)) (z_aload_n X (x := A 46) rfl (List.Mem.head _) (s_getR X 46 rfl (c518_ok rfl) rfl rfl (zcV_i0 X E 31 (As := []) (st := [.int (Int32.ofInt x), .ref (A 50)]) rfl rfl rfl rfl (c0_overInAll_31 G Is18 ) rfl (Nat.le_of_ble_eq_true rfl) (fun s19 e20 Is19 Fs19 hrs19 hps19 => ?_))))))
    have Gs19 := fm_tq Fs18 Fs19 rfl rfl
    have ws19_28 : iI s19 28 = iI s18 28 := fm_iq Fs19 rfl
    refine z_ast X 50 rfl (c518_ok rfl) rfl (by first | exact oq_2a6e3b50 hs4.1.1 | omega) (show x < 256 by first | exact oq_29e5dbe2 hs4.1.2 | omega) (cbig_ok rfl) (wd_gen (fun s21 hs21 => ?_))
    have Is21 : Bd s21 := eqB hs21 (bd_C Is19 (show ((-2147483648) : Int) ≤ e20 ∧ e20 ≤ 2147483647 by first | (clear g13 hps9; omega) | (clear hps9; omega) | omega) hrs19)
    have Fs21 := eqF hs21 (fm_C Gs19 (inl_ok (a := 42) rfl))
    have ws21_28 : iI s21 28 = iI s19 28 := eqI hs21 rfl
    exact w_vret X.1 q hRt (ax_d X (show cdA 56 131 = some (.return_, 1, 0, 0, 0) from rfl)) (Nat.zero_le _) (Nat.zero_le _) ⟨_, rfl, Is21, Fs21, rfl, trivial⟩
set_option maxRecDepth 4000 in
theorem c5_compare_46 (G : GX l s0 D tys a0 dT) (I : Bd s) {x : Int} (p0 : 0 ≤ x ∧ x ≤ 3) : CT l s0 D A dT 58 (rmN 58) [.ref (A 46), .int (Int32.ofInt x)] s (fun o t => Bd t ∧ Fm [31, 29, 30] [45] s t ∧ o = .inl none ∧ (True)) := by
  refine ct_ofX G (by decide) (Nat.le_of_ble_eq_true rfl) (fun k X E ET hRt hXt q => ?_)
  show WS k 0 [(0, .ref (A 46)), (1, .int (Int32.ofInt x))] [] _ 0 0
  have F : Fm [31, 29, 30] [45] s s := fm_rf _ _ s
  have b1 := bi_28 I
  have L8 : ∀ (n : Nat) (t : PS) (xv pk ov hp : Int), Bd t → Fm [31, 29, 30] [45] s t → ((0 ≤ xv ∧ xv ≤ 3) ∧ rng pk ∧ rng ov ∧ 0 ≤ hp ∧ hp ≤ 3) → (3 - hp : Int).toNat < n → (∀ (t' : PS) (pk' ov' hp' : Int), Bd t' → Fm [31, 29, 30] [45] s t' → ((0 ≤ xv ∧ xv ≤ 3) ∧ rng pk' ∧ rng ov' ∧ 0 ≤ hp' ∧ hp' ≤ 3) → WS k 62 [(0, .ref (A 46)), (1, .int (Int32.ofInt xv)), (2, .int (Int32.ofInt pk')), (3, .int (Int32.ofInt ov')), (4, .int (Int32.ofInt hp'))] [] (Wd A dT t') 0 0) → WS k 8 [(0, .ref (A 46)), (1, .int (Int32.ofInt xv)), (2, .int (Int32.ofInt pk)), (3, .int (Int32.ofInt ov)), (4, .int (Int32.ofInt hp))] [] (Wd A dT t) 0 0 := by
    intro n
    induction n with
    | zero =>
      intro t xv pk ov hp I F hi hm kx
      exact absurd hm (Nat.not_lt_zero _)
    | succ n ih =>
      intro t xv pk ov hp I F hi hm kx
      have b1001 := bi_28 I
      refine z_load X (x := hp) rfl (List.Mem.tail _ (List.Mem.tail _ (List.Mem.tail _ (List.Mem.tail _ (List.Mem.head _))))) (z_load_n X (x := xv) rfl (List.Mem.tail _ (List.Mem.head _)) (z_icmp_ge X (t := 62) rfl rfl ⟨by first | exact oq_fa4e5087 hi.2.2.2.1 | omega, by first | exact oq_c5520c83 hi.2.2.2.2 | omega⟩ ⟨by first | exact oq_fa4e5087 hi.1.1 | omega, by first | exact oq_c5520c83 hi.1.2 | omega⟩ (fun g1002 => ?_) (fun g1002 => ?_)))
      ·
        refine WS_pq [0, 1, 2, 3, 4] (lv' := [(0, .ref (A 46)), (1, .int (Int32.ofInt xv)), (2, .int (Int32.ofInt pk)), (3, .int (Int32.ofInt ov)), (4, .int (Int32.ofInt hp))]) rfl ?_
        exact kx _ pk ov hp I F (by first | exact ⟨And.intro (hi.1.1) (hi.1.2), And.intro (hi.2.1.1) (hi.2.1.2), And.intro (hi.2.2.1.1) (hi.2.2.1.2), hi.2.2.2.1, hi.2.2.2.2⟩ | omega)
      ·
        refine z_aload_n X (x := A 46) rfl (List.Mem.head _) (s_getR X 46 rfl (c518_ok rfl) rfl rfl (z_load X (x := hp) rfl (List.Mem.tail _ (List.Mem.tail _ (List.Mem.tail _ (List.Mem.tail _ (List.Mem.head _))))) (z_ald X 52 rfl (c518_ok rfl) rfl (by first | exact hi.2.2.2.1 | omega) (show hp < 3 by first | exact oq_1a1eeab1 g1002 hi.1.2 | omega) (cbig_ok rfl) ?_)))
        have b1003 := bc_44 I (show (hp).toNat < 3 by first | exact oq_2a01c7dc g1002 hi.1.2 | omega)
        refine z_store X (lv' := [(5, .int (Int32.ofInt (iC t 44 (hp).toNat))), (0, .ref (A 46)), (1, .int (Int32.ofInt xv)), (2, .int (Int32.ofInt pk)), (3, .int (Int32.ofInt ov)), (4, .int (Int32.ofInt hp))]) rfl (by decide) (fun _ h => h) (z_aload_n X (x := A 46) rfl (List.Mem.tail _ (List.Mem.head _)) (s_getR X 46 rfl (c518_ok rfl) rfl rfl (z_load X (x := (iC t 44 (hp).toNat)) rfl (List.Mem.head _) (z_zald X 48 rfl (c518_ok rfl) rfl (by first | exact b1003.1 | omega) (show (iC t 44 (hp).toNat) < 256 by first | exact oq_29e5dbe2 b1003.2 | omega) (cbig_ok rfl) ?_))))
        have b1004 := bc_40 I (show ((iC t 44 (hp).toNat)).toNat < 256 by first | exact oq_c39a26fc b1003.2 | omega)
        refine z_if_ne X (t := 34) rfl rfl (rng_to _) (fun g1005 => ?_) (fun g1005 => ?_)
        ·
          refine z_load_n X (x := pk) rfl (List.Mem.tail _ (List.Mem.tail _ (List.Mem.tail _ (List.Mem.head _)))) (z_aload_n X (x := A 46) rfl (List.Mem.tail _ (List.Mem.head _)) (s_getR X 46 rfl (c518_ok rfl) rfl rfl (z_load X (x := (iC t 44 (hp).toNat)) rfl (List.Mem.head _) (z_ald X 49 rfl (c518_ok rfl) rfl (by first | exact b1003.1 | omega) (show (iC t 44 (hp).toNat) < 256 by first | exact oq_29e5dbe2 b1003.2 | omega) (cbig_ok rfl) ?_))))
          have b1006 := bc_41 I (show ((iC t 44 (hp).toNat)).toNat < 256 by first | exact oq_c39a26fc b1003.2 | omega)
          refine z_max X rfl ⟨by first | exact hi.2.1.1 | omega, by first | exact hi.2.1.2 | omega⟩ (rng_to _) (by rw [E.2.2.2]; decide) (by rw [E.2.2.2]; exact Nat.le_of_ble_eq_true rfl) (Nat.zero_le _) (Nat.zero_le _) (fun e1007 he1007 => ?_)
          refine z_store_n X (lv' := [(2, .int (Int32.ofInt e1007)), (5, .int (Int32.ofInt (iC t 44 (hp).toNat))), (0, .ref (A 46)), (1, .int (Int32.ofInt xv)), (3, .int (Int32.ofInt ov)), (4, .int (Int32.ofInt hp))]) rfl (by decide) (fun _ h => h) (z_load_n X (x := ov) rfl (List.Mem.tail _ (List.Mem.tail _ (List.Mem.tail _ (List.Mem.tail _ (List.Mem.head _))))) (z_aload_n X (x := A 46) rfl (List.Mem.tail _ (List.Mem.tail _ (List.Mem.head _))) (s_getR X 46 rfl (c518_ok rfl) rfl rfl (z_load X (x := (iC t 44 (hp).toNat)) rfl (List.Mem.tail _ (List.Mem.head _)) (z_ald X 50 rfl (c518_ok rfl) rfl (by first | exact b1003.1 | omega) (show (iC t 44 (hp).toNat) < 256 by first | exact oq_29e5dbe2 b1003.2 | omega) (cbig_ok rfl) ?_)))))
          have b1008 := bc_42 I (show ((iC t 44 (hp).toNat)).toNat < 256 by first | exact oq_c39a26fc b1003.2 | omega)
          refine z_add X rfl (z_any (fun y1009 hy1009 => ?_))
          refine z_store_n X (lv' := [(3, .int (Int32.ofInt y1009)), (2, .int (Int32.ofInt e1007)), (5, .int (Int32.ofInt (iC t 44 (hp).toNat))), (0, .ref (A 46)), (1, .int (Int32.ofInt xv)), (4, .int (Int32.ofInt hp))]) rfl (by decide) (fun _ h => h) (z_inc X (x := hp) (lv' := [(4, .int (Int32.ofInt (hp + 1))), (3, .int (Int32.ofInt y1009)), (2, .int (Int32.ofInt e1007)), (5, .int (Int32.ofInt (iC t 44 (hp).toNat))), (0, .ref (A 46)), (1, .int (Int32.ofInt xv))]) rfl (by decide) (List.Mem.tail _ (List.Mem.tail _ (List.Mem.tail _ (List.Mem.tail _ (List.Mem.tail _ (List.Mem.head _)))))) (fun _ h => h) (z_goto X (t := 8) rfl rfl (WS_pq [4, 5, 2, 1, 0] (lv' := [(0, .ref (A 46)), (1, .int (Int32.ofInt xv)), (2, .int (Int32.ofInt e1007)), (3, .int (Int32.ofInt y1009)), (4, .int (Int32.ofInt (hp + 1)))]) rfl ?_)))
          exact ih _ xv e1007 y1009 (hp + 1) I F (by first | exact ⟨And.intro (hi.1.1) (hi.1.2), oq_e36c8877 he1007 b1006.2 hi.2.1.2 hi.2.1.1, And.intro (hy1009.1) (hy1009.2), oq_54f49eb5 hi.2.2.2.1, oq_917370dc g1002 hi.1.2⟩ | omega) (by first | exact qk_me hm (by decide) (oq_83a89698 g1002 hi.1.2) | omega) kx
        ·
          exact w_vret X.1 q hRt (ax_d X (show cdA 58 33 = some (.return_, 1, 0, 0, 0) from rfl)) (Nat.zero_le _) (Nat.zero_le _) ⟨_, rfl, I, F, rfl, trivial⟩
  refine z_ldc X rfl (z_store_n X (lv' := [(2, .int (Int32.ofInt (-2147483648))), (0, .ref (A 46)), (1, .int (Int32.ofInt x))]) rfl (by decide) (fun _ h => h) (z_const X rfl (z_store_n X (lv' := [(3, .int (Int32.ofInt 0)), (2, .int (Int32.ofInt (-2147483648))), (0, .ref (A 46)), (1, .int (Int32.ofInt x))]) rfl (by decide) (fun _ h => h) (z_const X rfl (z_store X (lv' := [(4, .int (Int32.ofInt 0)), (3, .int (Int32.ofInt 0)), (2, .int (Int32.ofInt (-2147483648))), (0, .ref (A 46)), (1, .int (Int32.ofInt x))]) rfl (by decide) (fun _ h => h) (WS_pq [3, 4, 2, 1, 0] (lv' := [(0, .ref (A 46)), (1, .int (Int32.ofInt x)), (2, .int (Int32.ofInt (-2147483648))), (3, .int (Int32.ofInt 0)), (4, .int (Int32.ofInt 0))]) rfl (L8 ((3 - 0 : Int).toNat + 1) s x (-2147483648) 0 0 I F (by first | exact ⟨And.intro (p0.1) (p0.2), And.intro (by decide) (by decide), And.intro (by decide) (by decide), by decide, by decide⟩ | omega) (Nat.lt_succ_self _) ?_)))))))
  intro s2 x3 x4 x5 Is2 Fs2 hs2
  have b6 := bi_28 Is2
  refine z_aload_n X (x := A 46) rfl (List.Mem.head _) (z_getI X 46 rfl (c518_ok rfl) rfl rfl ?_)
  have b7 := bi_31 Is2
  refine z_if_eq X (t := 93) rfl rfl (rng_to _) (fun g8 => ?_) (fun g8 => ?_)
  ·
    refine z_aload_n X (x := A 46) rfl (List.Mem.head _) (z_const X rfl (s_putI X 46 rfl (c518_ok rfl) rfl rfl (by decide) (nar_ret (by omega)) (fit_z (by omega)) rfl (wd_gen (fun s9 hs9 => ?_))))
    have Is9 : Bd s9 := eqB hs9 (bd_I Is2 (show (0 : Int) ≤ 1 ∧ 1 ≤ 1 by first | exact ⟨by decide, by decide⟩ | omega) (by decide))
    have Fs9 := eqF hs9 (fm_I Fs2 (inl_ok (a := 31) rfl))
    have vs9 : iI s9 31 = 1 := eqI hs9 (iI_u (by decide))
    have ws9_28 : iI s9 28 = iI s2 28 := eqI hs9 rfl
    refine z_aload_n X (x := A 46) rfl (List.Mem.head _) (z_load_n X (x := x3) rfl (List.Mem.tail _ (List.Mem.tail _ (List.Mem.head _))) (s_putI X 46 rfl (c518_ok rfl) rfl rfl (by decide) rfl rfl rfl (wd_gen (fun s10 hs10 => ?_))))
    have Is10 : Bd s10 := eqB hs10 (bd_I Is9 (show ((-2147483648) : Int) ≤ x3 ∧ x3 ≤ 2147483647 by first | exact ⟨hs2.2.1.1, hs2.2.1.2⟩ | omega) ⟨by first | exact hs2.2.1.1 | omega, by first | exact hs2.2.1.2 | omega⟩)
    have Fs10 := eqF hs10 (fm_I Fs9 (inl_ok (a := 29) rfl))
    have vs10 : iI s10 29 = x3 := eqI hs10 (iI_u ⟨by first | exact hs2.2.1.1 | omega, by first | exact hs2.2.1.2 | omega⟩)
    have ws10_28 : iI s10 28 = iI s9 28 := eqI hs10 rfl
    refine z_aload_n X (x := A 46) rfl (List.Mem.head _) (z_load_n X (x := x4) rfl (List.Mem.tail _ (List.Mem.tail _ (List.Mem.tail _ (List.Mem.head _)))) (s_putI X 46 rfl (c518_ok rfl) rfl rfl (by decide) rfl rfl rfl (wd_gen (fun s11 hs11 => ?_))))
    have Is11 : Bd s11 := eqB hs11 (bd_I Is10 (show ((-2147483648) : Int) ≤ x4 ∧ x4 ≤ 2147483647 by first | exact ⟨hs2.2.2.1.1, hs2.2.2.1.2⟩ | omega) ⟨by first | exact hs2.2.2.1.1 | omega, by first | exact hs2.2.2.1.2 | omega⟩)
    have Fs11 := eqF hs11 (fm_I Fs10 (inl_ok (a := 30) rfl))
    have vs11 : iI s11 30 = x4 := eqI hs11 (iI_u ⟨by first | exact hs2.2.2.1.1 | omega, by first | exact hs2.2.2.1.2 | omega⟩)
    have ws11_28 : iI s11 28 = iI s10 28 := eqI hs11 rfl
    refine z_aload_n X (x := A 46) rfl (List.Mem.head _) (s_getR X 46 rfl (c518_ok rfl) rfl rfl (z_const X rfl (z_aload_n X (x := A 46) rfl (List.Mem.head _) (s_getR X 46 rfl (c518_ok rfl) rfl rfl (z_const X rfl (z_aload_n X (x := A 46) rfl (List.Mem.head _) (z_getI X 46 rfl (c518_ok rfl) rfl rfl ?_)))))))
    have b12 := bi_28 Is11
    refine z_copy X Is11 51 53 (st := []) rfl (by decide) (by decide) rfl rfl (by omega) (by omega) (by omega) (show 0 + (iI s11 28) ≤ ((8 : Nat) : Int) by omega) (show 0 + (iI s11 28) ≤ ((8 : Nat) : Int) by omega) (by decide) (by rw [E.2.2.2]; decide) (by rw [E.2.2.2]; exact Nat.le_of_ble_eq_true rfl) (fun s13 Is13 Fs13 => ?_)
    have Gs13 := fm_tq Fs11 Fs13 rfl rfl
    have ws13_28 : iI s13 28 = iI s11 28 := fm_iq Fs13 rfl
    exact w_vret X.1 q hRt (ax_d X (show cdA 58 125 = some (.return_, 1, 0, 0, 0) from rfl)) (Nat.zero_le _) (Nat.zero_le _) ⟨_, rfl, Is13, Gs13, rfl, trivial⟩
  ·
    refine z_load_n X (x := x3) rfl (List.Mem.tail _ (List.Mem.tail _ (List.Mem.head _))) (z_aload_n X (x := A 46) rfl (List.Mem.head _) (z_getI X 46 rfl (c518_ok rfl) rfl rfl ?_))
    have b14 := bi_29 Is2
    refine z_icmp_lt X (t := 93) rfl rfl ⟨by first | exact hs2.2.1.1 | omega, by first | exact hs2.2.1.2 | omega⟩ (rng_to _) (fun g15 => ?_) (fun g15 => ?_)
    ·
      refine z_aload_n X (x := A 46) rfl (List.Mem.head _) (z_const X rfl (s_putI X 46 rfl (c518_ok rfl) rfl rfl (by decide) (nar_ret (by first | (clear g8; omega) | omega)) (fit_z (by first | (clear g8; omega) | omega)) rfl (wd_gen (fun s16 hs16 => ?_))))
      have Is16 : Bd s16 := eqB hs16 (bd_I Is2 (show (0 : Int) ≤ 1 ∧ 1 ≤ 1 by first | exact ⟨by decide, by decide⟩ | omega) (by decide))
      have Fs16 := eqF hs16 (fm_I Fs2 (inl_ok (a := 31) rfl))
      have vs16 : iI s16 31 = 1 := eqI hs16 (iI_u (by decide))
      have ws16_28 : iI s16 28 = iI s2 28 := eqI hs16 rfl
      refine z_aload_n X (x := A 46) rfl (List.Mem.head _) (z_load_n X (x := x3) rfl (List.Mem.tail _ (List.Mem.tail _ (List.Mem.head _))) (s_putI X 46 rfl (c518_ok rfl) rfl rfl (by decide) rfl rfl rfl (wd_gen (fun s17 hs17 => ?_))))
      have Is17 : Bd s17 := eqB hs17 (bd_I Is16 (show ((-2147483648) : Int) ≤ x3 ∧ x3 ≤ 2147483647 by first | exact ⟨hs2.2.1.1, hs2.2.1.2⟩ | omega) ⟨by first | exact hs2.2.1.1 | omega, by first | exact hs2.2.1.2 | omega⟩)
      have Fs17 := eqF hs17 (fm_I Fs16 (inl_ok (a := 29) rfl))
      have vs17 : iI s17 29 = x3 := eqI hs17 (iI_u ⟨by first | exact hs2.2.1.1 | omega, by first | exact hs2.2.1.2 | omega⟩)
      have ws17_28 : iI s17 28 = iI s16 28 := eqI hs17 rfl
      refine z_aload_n X (x := A 46) rfl (List.Mem.head _) (z_load_n X (x := x4) rfl (List.Mem.tail _ (List.Mem.tail _ (List.Mem.tail _ (List.Mem.head _)))) (s_putI X 46 rfl (c518_ok rfl) rfl rfl (by decide) rfl rfl rfl (wd_gen (fun s18 hs18 => ?_))))
      have Is18 : Bd s18 := eqB hs18 (bd_I Is17 (show ((-2147483648) : Int) ≤ x4 ∧ x4 ≤ 2147483647 by first | exact ⟨hs2.2.2.1.1, hs2.2.2.1.2⟩ | omega) ⟨by first | exact hs2.2.2.1.1 | omega, by first | exact hs2.2.2.1.2 | omega⟩)
      have Fs18 := eqF hs18 (fm_I Fs17 (inl_ok (a := 30) rfl))
      have vs18 : iI s18 30 = x4 := eqI hs18 (iI_u ⟨by first | exact hs2.2.2.1.1 | omega, by first | exact hs2.2.2.1.2 | omega⟩)
      have ws18_28 : iI s18 28 = iI s17 28 := eqI hs18 rfl
      refine z_aload_n X (x := A 46) rfl (List.Mem.head _) (s_getR X 46 rfl (c518_ok rfl) rfl rfl (z_const X rfl (z_aload_n X (x := A 46) rfl (List.Mem.head _) (s_getR X 46 rfl (c518_ok rfl) rfl rfl (z_const X rfl (z_aload_n X (x := A 46) rfl (List.Mem.head _) (z_getI X 46 rfl (c518_ok rfl) rfl rfl ?_)))))))
      have b19 := bi_28 Is18
      refine z_copy X Is18 51 53 (st := []) rfl (by decide) (by decide) rfl rfl (by first | (clear g8; omega) | omega) (by first | (clear g8; omega) | omega) (by first | (clear g8; omega) | omega) (show 0 + (iI s18 28) ≤ ((8 : Nat) : Int) by first | (clear g8; omega) | omega) (show 0 + (iI s18 28) ≤ ((8 : Nat) : Int) by first | (clear g8; omega) | omega) (by decide) (by rw [E.2.2.2]; decide) (by rw [E.2.2.2]; exact Nat.le_of_ble_eq_true rfl) (fun s20 Is20 Fs20 => ?_)
      have Gs20 := fm_tq Fs18 Fs20 rfl rfl
      have ws20_28 : iI s20 28 = iI s18 28 := fm_iq Fs20 rfl
      exact w_vret X.1 q hRt (ax_d X (show cdA 58 125 = some (.return_, 1, 0, 0, 0) from rfl)) (Nat.zero_le _) (Nat.zero_le _) ⟨_, rfl, Is20, Gs20, rfl, trivial⟩
    ·
      refine z_load_n X (x := x3) rfl (List.Mem.tail _ (List.Mem.tail _ (List.Mem.head _))) (z_aload_n X (x := A 46) rfl (List.Mem.head _) (z_getI X 46 rfl (c518_ok rfl) rfl rfl ?_))
      have b21 := bi_29 Is2
      refine z_icmp_ne X (t := 125) rfl rfl ⟨by first | exact hs2.2.1.1 | omega, by first | exact hs2.2.1.2 | omega⟩ (rng_to _) (fun g22 => ?_) (fun g22 => ?_)
      ·
        exact w_vret X.1 q hRt (ax_d X (show cdA 58 125 = some (.return_, 1, 0, 0, 0) from rfl)) (Nat.zero_le _) (Nat.zero_le _) ⟨_, rfl, Is2, Fs2, rfl, trivial⟩
      ·
        refine z_load_n X (x := x4) rfl (List.Mem.tail _ (List.Mem.tail _ (List.Mem.tail _ (List.Mem.head _)))) (z_aload_n X (x := A 46) rfl (List.Mem.head _) (z_getI X 46 rfl (c518_ok rfl) rfl rfl ?_))
        have b23 := bi_30 Is2
        refine z_icmp_ge X (t := 125) rfl rfl ⟨by first | exact hs2.2.2.1.1 | omega, by first | exact hs2.2.2.1.2 | omega⟩ (rng_to _) (fun g24 => ?_) (fun g24 => ?_)
        ·
          exact w_vret X.1 q hRt (ax_d X (show cdA 58 125 = some (.return_, 1, 0, 0, 0) from rfl)) (Nat.zero_le _) (Nat.zero_le _) ⟨_, rfl, Is2, Fs2, rfl, trivial⟩
        ·
          refine z_aload_n X (x := A 46) rfl (List.Mem.head _) (z_const X rfl (s_putI X 46 rfl (c518_ok rfl) rfl rfl (by decide) (nar_ret (by first | (clear g8; omega) | omega)) (fit_z (by first | (clear g8; omega) | omega)) rfl (wd_gen (fun s25 hs25 => ?_))))
          have Is25 : Bd s25 := eqB hs25 (bd_I Is2 (show (0 : Int) ≤ 1 ∧ 1 ≤ 1 by first | exact ⟨by decide, by decide⟩ | omega) (by decide))
          have Fs25 := eqF hs25 (fm_I Fs2 (inl_ok (a := 31) rfl))
          have vs25 : iI s25 31 = 1 := eqI hs25 (iI_u (by decide))
          have ws25_28 : iI s25 28 = iI s2 28 := eqI hs25 rfl
          refine z_aload_n X (x := A 46) rfl (List.Mem.head _) (z_load_n X (x := x3) rfl (List.Mem.tail _ (List.Mem.tail _ (List.Mem.head _))) (s_putI X 46 rfl (c518_ok rfl) rfl rfl (by decide) rfl rfl rfl (wd_gen (fun s26 hs26 => ?_))))
          have Is26 : Bd s26 := eqB hs26 (bd_I Is25 (show ((-2147483648) : Int) ≤ x3 ∧ x3 ≤ 2147483647 by first | exact ⟨hs2.2.1.1, hs2.2.1.2⟩ | omega) ⟨by first | exact hs2.2.1.1 | omega, by first | exact hs2.2.1.2 | omega⟩)
          have Fs26 := eqF hs26 (fm_I Fs25 (inl_ok (a := 29) rfl))
          have vs26 : iI s26 29 = x3 := eqI hs26 (iI_u ⟨by first | exact hs2.2.1.1 | omega, by first | exact hs2.2.1.2 | omega⟩)
          have ws26_28 : iI s26 28 = iI s25 28 := eqI hs26 rfl
          refine z_aload_n X (x := A 46) rfl (List.Mem.head _) (z_load_n X (x := x4) rfl (List.Mem.tail _ (List.Mem.tail _ (List.Mem.tail _ (List.Mem.head _)))) (s_putI X 46 rfl (c518_ok rfl) rfl rfl (by decide) rfl rfl rfl (wd_gen (fun s27 hs27 => ?_))))
          have Is27 : Bd s27 := eqB hs27 (bd_I Is26 (show ((-2147483648) : Int) ≤ x4 ∧ x4 ≤ 2147483647 by first | exact ⟨hs2.2.2.1.1, hs2.2.2.1.2⟩ | omega) ⟨by first | exact hs2.2.2.1.1 | omega, by first | exact hs2.2.2.1.2 | omega⟩)
          have Fs27 := eqF hs27 (fm_I Fs26 (inl_ok (a := 30) rfl))
          have vs27 : iI s27 30 = x4 := eqI hs27 (iI_u ⟨by first | exact hs2.2.2.1.1 | omega, by first | exact hs2.2.2.1.2 | omega⟩)
          have ws27_28 : iI s27 28 = iI s26 28 := eqI hs27 rfl
          refine z_aload_n X (x := A 46) rfl (List.Mem.head _) (s_getR X 46 rfl (c518_ok rfl) rfl rfl (z_const X rfl (z_aload_n X (x := A 46) rfl (List.Mem.head _) (s_getR X 46 rfl (c518_ok rfl) rfl rfl (z_const X rfl (z_aload_n X (x := A 46) rfl (List.Mem.head _) (z_getI X 46 rfl (c518_ok rfl) rfl rfl ?_)))))))
          have b28 := bi_28 Is27
          refine z_copy X Is27 51 53 (st := []) rfl (by decide) (by decide) rfl rfl (by first | (clear g8; omega) | omega) (by first | (clear g8; omega) | omega) (by first | (clear g8; omega) | omega) (show 0 + (iI s27 28) ≤ ((8 : Nat) : Int) by first | (clear g8; omega) | omega) (show 0 + (iI s27 28) ≤ ((8 : Nat) : Int) by first | (clear g8; omega) | omega) (by decide) (by rw [E.2.2.2]; decide) (by rw [E.2.2.2]; exact Nat.le_of_ble_eq_true rfl) (fun s29 Is29 Fs29 => ?_)
          have Gs29 := fm_tq Fs27 Fs29 rfl rfl
          have ws29_28 : iI s29 28 = iI s27 28 := fm_iq Fs29 rfl
          exact w_vret X.1 q hRt (ax_d X (show cdA 58 125 = some (.return_, 1, 0, 0, 0) from rfl)) (Nat.zero_le _) (Nat.zero_le _) ⟨_, rfl, Is29, Gs29, rfl, trivial⟩
set_option maxRecDepth 4000 in
theorem c5_place0 (G : GX l s0 D tys a0 dT) (I : Bd s) {x y z : Int} (p0 : 0 ≤ x ∧ x ≤ iI s 28) (p1 : iI s 28 - x ≤ ((0 : Nat) : Int)) (p2 : 0 ≤ y ∧ y ≤ z) (p3 : 1 ≤ z ∧ z ≤ 3) : CT l s0 D A dT 57 (rkR (12 + (0))) [.ref (A 46), .int (Int32.ofInt x), .int (Int32.ofInt y), .int (Int32.ofInt z)] s (fun o t => Bd t ∧ Fm [31, 29, 30] [45, 43, 44] s t ∧ o = .inl none ∧ (True)) := by
  refine ct_ofX G (by decide) (Nat.le_of_ble_eq_true rfl) (fun k X E ET hRt hXt q => ?_)
  show WS k 0 [(0, .ref (A 46)), (1, .int (Int32.ofInt x)), (2, .int (Int32.ofInt y)), (3, .int (Int32.ofInt z))] [] _ 0 0
  have F : Fm [31, 29, 30] [45, 43, 44] s s := fm_rf _ _ s
  have b1 := bi_28 I
  refine z_load_n X (x := x) rfl (List.Mem.tail _ (List.Mem.head _)) (z_aload_n X (x := A 46) rfl (List.Mem.head _) (z_getI X 46 rfl (c518_ok rfl) rfl rfl ?_))
  have b2 := bi_28 I
  refine z_icmp_lt X (t := 14) rfl rfl ⟨by first | exact oq_fa4e5087 p0.1 | omega, by first | exact oq_b5dbaaed p0.2 b2.2 | omega⟩ (rng_to _) (fun g3 => ?_) (fun g3 => ?_)
  ·
    exfalso
    omega
  ·
    refine z_aload_n X (x := A 46) rfl (List.Mem.head _) (z_load_n X (x := y) rfl (List.Mem.tail _ (List.Mem.tail _ (List.Mem.head _))) (z_callV X 46 (rm := rmN 58) (As := [.int (Int32.ofInt y)]) (st := []) rfl rfl (by decide) rfl (by rw [E.1, E.2.1, E.2.2.1]; exact c5_compare_46 G I (by first | exact ⟨p2.1, oq_300cfc0a p2.2 p3.2⟩ | omega)) ⟨by rw [E.2.2.2]; exact (show 7 + 1 ≤ (12 + (12 + (0))) from oq_8067230e), by rw [E.2.2.2]; exact (show 8 + (6 + 11) + 121 ≤ (500 + 45 * (12 + (0))) from oq_f178cd33), by rw [E.2.2.2]; exact Nat.le_refl 0, by rw [E.2.2.2]; exact Nat.le_refl 0⟩ (Nat.le_of_ble_eq_true rfl) (fun vv s4 hq => ?_) (fun ee s4 hq => ?_)))
    rotate_left
    · obtain ⟨Is4, Fs4, hv, hps4⟩ := hq; cases hv
    obtain ⟨Is4, Fs4, hv, hps4⟩ := hq
    cases hv
    have Gs4 := fm_tq F Fs4 rfl rfl
    have ws4_28 : iI s4 28 = iI s 28 := fm_iq Fs4 rfl
    show WS k 13 [(0, .ref (A 46)), (1, .int (Int32.ofInt x)), (2, .int (Int32.ofInt y)), (3, .int (Int32.ofInt z))] [] (Wd A dT s4) 0 0
    exact w_vret X.1 q hRt (ax_d X (show cdA 57 13 = some (.return_, 1, 0, 0, 0) from rfl)) (Nat.zero_le _) (Nat.zero_le _) ⟨_, rfl, Is4, Gs4, rfl, trivial⟩
set_option maxRecDepth 4000 in
theorem c5_placeS (G : GX l s0 D tys a0 dT) {r : Nat} (hR : ∀ {s : PS} {x y z : Int}, Bd s → (0 ≤ x ∧ x ≤ iI s 28) → (iI s 28 - x ≤ ((r : Nat) : Int)) → (0 ≤ y ∧ y ≤ z) → (1 ≤ z ∧ z ≤ 3) → CT l s0 D A dT 57 (rkR (12 + (r))) [.ref (A 46), .int (Int32.ofInt x), .int (Int32.ofInt y), .int (Int32.ofInt z)] s (fun o t => Bd t ∧ Fm [31, 29, 30] [45, 43, 44] s t ∧ o = .inl none ∧ (True))) (I : Bd s) {x y z : Int} (p0 : 0 ≤ x ∧ x ≤ iI s 28) (p1 : iI s 28 - x ≤ ((r + 1 : Nat) : Int)) (p2 : 0 ≤ y ∧ y ≤ z) (p3 : 1 ≤ z ∧ z ≤ 3) : CT l s0 D A dT 57 (rkR (12 + (r + 1))) [.ref (A 46), .int (Int32.ofInt x), .int (Int32.ofInt y), .int (Int32.ofInt z)] s (fun o t => Bd t ∧ Fm [31, 29, 30] [45, 43, 44] s t ∧ o = .inl none ∧ (True)) := by
  refine ct_ofX G (by decide) (Nat.le_of_ble_eq_true rfl) (fun k X E ET hRt hXt q => ?_)
  show WS k 0 [(0, .ref (A 46)), (1, .int (Int32.ofInt x)), (2, .int (Int32.ofInt y)), (3, .int (Int32.ofInt z))] [] _ 0 0
  have F : Fm [31, 29, 30] [45, 43, 44] s s := fm_rf _ _ s
  have b1 := bi_28 I
  have L17 : ∀ (n : Nat) (t : PS) (xv yv zv hh : Int), Bd t → Fm [31, 29, 30] [45, 43, 44] s t → (xv = x ∧ (0 ≤ xv ∧ xv < iI t 28) ∧ (0 ≤ yv ∧ yv ≤ zv) ∧ (1 ≤ zv ∧ zv ≤ 3) ∧ 0 ≤ hh ∧ hh ≤ 3 ∧ iI t 28 = iI s 28) → (3 - hh : Int).toNat < n → (∀ (t' : PS) (hh' : Int), Bd t' → Fm [31, 29, 30] [45, 43, 44] s t' → (xv = x ∧ (0 ≤ xv ∧ xv < iI t' 28) ∧ (0 ≤ yv ∧ yv ≤ zv) ∧ (1 ≤ zv ∧ zv ≤ 3) ∧ 0 ≤ hh' ∧ hh' ≤ 3 ∧ iI t' 28 = iI s 28) → WS k 92 [(0, .ref (A 46)), (1, .int (Int32.ofInt xv)), (2, .int (Int32.ofInt yv)), (3, .int (Int32.ofInt zv)), (4, .int (Int32.ofInt hh'))] [] (Wd A dT t') 0 0) → WS k 17 [(0, .ref (A 46)), (1, .int (Int32.ofInt xv)), (2, .int (Int32.ofInt yv)), (3, .int (Int32.ofInt zv)), (4, .int (Int32.ofInt hh))] [] (Wd A dT t) 0 0 := by
    intro n
    induction n with
    | zero =>
      intro t xv yv zv hh I F hi hm kx
      exact absurd hm (Nat.not_lt_zero _)
    | succ n ih =>
      intro t xv yv zv hh I F hi hm kx
      have b1001 := bi_28 I
      refine z_load X (x := hh) rfl (List.Mem.tail _ (List.Mem.tail _ (List.Mem.tail _ (List.Mem.tail _ (List.Mem.head _))))) (z_load_n X (x := yv) rfl (List.Mem.tail _ (List.Mem.tail _ (List.Mem.head _))) (z_icmp_gt X (t := 92) rfl rfl ⟨by first | exact oq_fa4e5087 hi.2.2.2.2.1 | omega, by first | exact oq_c5520c83 hi.2.2.2.2.2.1 | omega⟩ ⟨by first | exact oq_fa4e5087 hi.2.2.1.1 | omega, by first | exact oq_f647a1c7 hi.2.2.1.2 hi.2.2.2.1.2 | omega⟩ (fun g1002 => ?_) (fun g1002 => ?_)))
      ·
        refine WS_pq [0, 1, 2, 3, 4] (lv' := [(0, .ref (A 46)), (1, .int (Int32.ofInt xv)), (2, .int (Int32.ofInt yv)), (3, .int (Int32.ofInt zv)), (4, .int (Int32.ofInt hh))]) rfl ?_
        exact kx _ hh I F (by first | exact ⟨hi.1, And.intro (hi.2.1.1) (hi.2.1.2), And.intro (hi.2.2.1.1) (hi.2.2.1.2), And.intro (hi.2.2.2.1.1) (hi.2.2.2.1.2), hi.2.2.2.2.1, hi.2.2.2.2.2.1, hi.2.2.2.2.2.2⟩ | omega)
      ·
        refine z_load X (x := hh) rfl (List.Mem.tail _ (List.Mem.tail _ (List.Mem.tail _ (List.Mem.tail _ (List.Mem.head _))))) (z_load_n X (x := zv) rfl (List.Mem.tail _ (List.Mem.tail _ (List.Mem.tail _ (List.Mem.head _)))) (z_icmp_ge X (t := 92) rfl rfl ⟨by first | exact oq_fa4e5087 hi.2.2.2.2.1 | omega, by first | exact oq_c5520c83 hi.2.2.2.2.2.1 | omega⟩ ⟨by first | exact oq_9462313e hi.2.2.2.1.1 | omega, by first | exact oq_c5520c83 hi.2.2.2.1.2 | omega⟩ (fun g1003 => ?_) (fun g1003 => ?_)))
        ·
          refine WS_pq [0, 1, 2, 3, 4] (lv' := [(0, .ref (A 46)), (1, .int (Int32.ofInt xv)), (2, .int (Int32.ofInt yv)), (3, .int (Int32.ofInt zv)), (4, .int (Int32.ofInt hh))]) rfl ?_
          exact kx _ hh I F (by first | exact ⟨hi.1, And.intro (hi.2.1.1) (hi.2.1.2), And.intro (hi.2.2.1.1) (hi.2.2.1.2), And.intro (hi.2.2.2.1.1) (hi.2.2.2.1.2), hi.2.2.2.2.1, hi.2.2.2.2.2.1, hi.2.2.2.2.2.2⟩ | omega)
        ·
          refine z_aload_n X (x := A 46) rfl (List.Mem.head _) (s_getR X 46 rfl (c518_ok rfl) rfl rfl (z_load_n X (x := xv) rfl (List.Mem.tail _ (List.Mem.head _)) (z_load X (x := hh) rfl (List.Mem.tail _ (List.Mem.tail _ (List.Mem.tail _ (List.Mem.tail _ (List.Mem.head _))))) (z_ast X 51 rfl (c518_ok rfl) rfl (by first | exact hi.2.1.1 | omega) (show xv < 8 by first | exact oq_7f5b2e79 hi.2.1.2 b1001.2 | omega) (cbig_ok rfl) (wd_gen (fun s1004 hs1004 => ?_))))))
          have Is1004 : Bd s1004 := eqB hs1004 (bd_C I (show ((-2147483648) : Int) ≤ hh ∧ hh ≤ 2147483647 by first | exact ⟨oq_fa4e5087 hi.2.2.2.2.1, oq_c5520c83 hi.2.2.2.2.2.1⟩ | omega) ⟨by first | exact oq_fa4e5087 hi.2.2.2.2.1 | omega, by first | exact oq_c5520c83 hi.2.2.2.2.2.1 | omega⟩)
          have Fs1004 := eqF hs1004 (fm_C F (inl_ok (a := 43) rfl))
          have ws1004_28 : iI s1004 28 = iI t 28 := eqI hs1004 rfl
          refine z_aload_n X (x := A 46) rfl (List.Mem.head _) (s_getR X 46 rfl (c518_ok rfl) rfl rfl (z_load X (x := hh) rfl (List.Mem.tail _ (List.Mem.tail _ (List.Mem.tail _ (List.Mem.tail _ (List.Mem.head _))))) (w_dup2_11 X.1 (ax_d X (show cdA 57 43 = some (.dup2, 1, 0, 0, 0) from rfl)) rfl rfl (z_ald X 52 rfl (c518_ok rfl) rfl (by first | exact hi.2.2.2.2.1 | omega) (show hh < 3 by first | exact oq_1a1eeab1 g1003 hi.2.2.2.1.2 | omega) (cbig_ok rfl) ?_))))
          have b1005 := bc_44 Is1004 (show (hh).toNat < 3 by first | exact oq_2a01c7dc g1003 hi.2.2.2.1.2 | omega)
          refine z_const X rfl (z_load_n X (x := xv) rfl (List.Mem.tail _ (List.Mem.head _)) (z_shl1 X rfl (by first | exact ⟨hi.2.1.1, oq_2da74134 hi.2.1.2 b1001.2⟩ | omega) (fun y1006 hy1006 iy1006 jy1006 ky1006 => ?_)))
          refine z_orb X rfl 8 (by decide) (show 0 ≤ (iC s1004 44 (hh).toNat) ∧ (iC s1004 44 (hh).toNat) < 2 ^ 8 by omega) (show 0 ≤ y1006 ∧ y1006 < 2 ^ 8 by omega) (fun y1007 hy1007 iy1007 => ?_)
          have ib1008 : y1007 < 256 := iy1007
          refine z_ast X 52 rfl (c518_ok rfl) rfl (by first | exact hi.2.2.2.2.1 | omega) (show hh < 3 by first | exact oq_1a1eeab1 g1003 hi.2.2.2.1.2 | omega) (cbig_ok rfl) (wd_gen (fun s1009 hs1009 => ?_))
          have Is1009 : Bd s1009 := eqB hs1009 (bd_C Is1004 (show (0 : Int) ≤ y1007 ∧ y1007 ≤ 255 by first | exact ⟨hy1007, oq_b4026d49 ib1008⟩ | omega) ⟨by first | exact oq_fa4e5087 hy1007 | omega, by first | exact oq_17ce71fa ib1008 | omega⟩)
          have Fs1009 := eqF hs1009 (fm_C Fs1004 (inl_ok (a := 44) rfl))
          have ws1009_28 : iI s1009 28 = iI s1004 28 := eqI hs1009 rfl
          refine z_aload_n X (x := A 46) rfl (List.Mem.head _) (z_load_n X (x := xv) rfl (List.Mem.tail _ (List.Mem.head _)) (z_const X rfl (z_add X rfl (z_load X (x := hh) rfl (List.Mem.tail _ (List.Mem.tail _ (List.Mem.tail _ (List.Mem.tail _ (List.Mem.head _))))) (z_load_n X (x := yv) rfl (List.Mem.tail _ (List.Mem.tail _ (List.Mem.head _))) ?_)))))
          have N1010 : ∀ e1011 : Int, (((hh ≠ yv) ∧ e1011 = yv) ∨ ((hh = yv) ∧ e1011 = (yv + 1))) → WS k 67 [(0, .ref (A 46)), (1, .int (Int32.ofInt xv)), (2, .int (Int32.ofInt yv)), (3, .int (Int32.ofInt zv)), (4, .int (Int32.ofInt hh))] [.int (Int32.ofInt e1011), .int (Int32.ofInt (xv + 1)), .ref (A 46)] (Wd A dT s1009) 0 0 := by
            intro e1011 he1011
            refine z_load_n X (x := zv) rfl (List.Mem.tail _ (List.Mem.tail _ (List.Mem.tail _ (List.Mem.head _)))) (z_callV X 46 (rm := (rkR (12 + (r)))) (As := [.int (Int32.ofInt (xv + 1)), .int (Int32.ofInt e1011), .int (Int32.ofInt zv)]) (st := []) rfl rfl (by decide) rfl (by rw [E.1, E.2.1, E.2.2.1]; exact hR Is1009 (by first | exact ⟨p0.1, oq_c0bca489 ws1009_28 hi.1 ws1004_28 hi.2.1.2⟩ | omega) (by first | (clear he1011; omega) | omega) (by first | exact ⟨p2.1, p2.2⟩ | omega) (by first | exact ⟨p3.1, p3.2⟩ | omega)) ⟨by rw [E.2.2.2]; exact (show (12 + (12 + (r))) + 1 ≤ (12 + (12 + (r + 1))) from oq_23161452 r), by rw [E.2.2.2]; exact (show 8 + (5 + 11) + (500 + 45 * (12 + (r))) ≤ (500 + 45 * (12 + (r + 1))) from oq_5db9f55c r), by rw [E.2.2.2]; exact Nat.le_refl 0, by rw [E.2.2.2]; exact Nat.le_refl 0⟩ (Nat.le_of_ble_eq_true rfl) (fun vv s1012 hq => ?_) (fun ee s1012 hq => ?_))
            rotate_left
            · obtain ⟨Is1012, Fs1012, hv, hps1012⟩ := hq; cases hv
            obtain ⟨Is1012, Fs1012, hv, hps1012⟩ := hq
            cases hv
            have Gs1012 := fm_tq Fs1009 Fs1012 rfl rfl
            have ws1012_28 : iI s1012 28 = iI s1009 28 := fm_iq Fs1012 rfl
            show WS k 71 [(0, .ref (A 46)), (1, .int (Int32.ofInt xv)), (2, .int (Int32.ofInt yv)), (3, .int (Int32.ofInt zv)), (4, .int (Int32.ofInt hh))] [] (Wd A dT s1012) 0 0
            refine z_aload_n X (x := A 46) rfl (List.Mem.head _) (s_getR X 46 rfl (c518_ok rfl) rfl rfl (z_load X (x := hh) rfl (List.Mem.tail _ (List.Mem.tail _ (List.Mem.tail _ (List.Mem.tail _ (List.Mem.head _))))) (w_dup2_11 X.1 (ax_d X (show cdA 57 77 = some (.dup2, 1, 0, 0, 0) from rfl)) rfl rfl (z_ald X 52 rfl (c518_ok rfl) rfl (by first | exact hi.2.2.2.2.1 | omega) (show hh < 3 by first | exact oq_1a1eeab1 g1003 hi.2.2.2.1.2 | omega) (cbig_ok rfl) ?_))))
            have b1014 := bc_44 Is1012 (show (hh).toNat < 3 by first | exact oq_2a01c7dc g1003 hi.2.2.2.1.2 | omega)
            refine z_const X rfl (z_load_n X (x := xv) rfl (List.Mem.tail _ (List.Mem.head _)) (z_shl1 X rfl (by first | exact ⟨hi.2.1.1, oq_2da74134 hi.2.1.2 b1001.2⟩ | omega) (fun y1015 hy1015 iy1015 jy1015 ky1015 => ?_)))
            refine z_const X rfl (z_bxor X rfl (z_any (fun y1016 hy1016 => ?_)))
            refine z_andl X rfl (show 0 ≤ (iC s1012 44 (hh).toNat) by first | exact b1014.1 | omega) (show (iC s1012 44 (hh).toNat) ≤ 2147483647 by first | exact oq_4567a937 b1014.2 | omega) (fun y1017 hy1017 gy1017 => ?_)
            refine z_ast X 52 rfl (c518_ok rfl) rfl (by first | exact hi.2.2.2.2.1 | omega) (show hh < 3 by first | exact oq_1a1eeab1 g1003 hi.2.2.2.1.2 | omega) (cbig_ok rfl) (wd_gen (fun s1018 hs1018 => ?_))
            have Is1018 : Bd s1018 := eqB hs1018 (bd_C Is1012 (show (0 : Int) ≤ y1017 ∧ y1017 ≤ 255 by first | exact ⟨hy1017, oq_07b7da50 gy1017 b1014.2⟩ | omega) ⟨by first | exact oq_fa4e5087 hy1017 | omega, by first | exact oq_fdc39e03 gy1017 b1014.2 | omega⟩)
            have Fs1018 := eqF hs1018 (fm_C Gs1012 (inl_ok (a := 44) rfl))
            have ws1018_28 : iI s1018 28 = iI s1012 28 := eqI hs1018 rfl
            refine z_inc X (x := hh) (lv' := [(4, .int (Int32.ofInt (hh + 1))), (0, .ref (A 46)), (1, .int (Int32.ofInt xv)), (2, .int (Int32.ofInt yv)), (3, .int (Int32.ofInt zv))]) rfl (by decide) (List.Mem.tail _ (List.Mem.tail _ (List.Mem.tail _ (List.Mem.tail _ (List.Mem.head _))))) (fun _ h => h) (z_goto X (t := 17) rfl rfl (WS_pq [1, 2, 3, 4, 0] (lv' := [(0, .ref (A 46)), (1, .int (Int32.ofInt xv)), (2, .int (Int32.ofInt yv)), (3, .int (Int32.ofInt zv)), (4, .int (Int32.ofInt (hh + 1)))]) rfl ?_))
            exact ih _ xv yv zv (hh + 1) Is1018 Fs1018 (by first | exact ⟨hi.1, And.intro (hi.2.1.1) (oq_bc9971d6 ws1018_28 hi.2.1.2 ws1012_28 ws1009_28 ws1004_28), And.intro (hi.2.2.1.1) (hi.2.2.1.2), And.intro (hi.2.2.2.1.1) (hi.2.2.2.1.2), oq_54f49eb5 hi.2.2.2.2.1, oq_917370dc g1003 hi.2.2.2.1.2, oq_469c7eaf ws1018_28 ws1012_28 ws1009_28 ws1004_28 hi.2.2.2.2.2.2⟩ | omega) (by first | exact qk_me hm (by decide) (oq_83a89698 g1003 hi.2.2.2.1.2) | omega) kx
          refine z_icmp_ne X (t := 66) rfl rfl ⟨by first | exact oq_fa4e5087 hi.2.2.2.2.1 | omega, by first | exact oq_c5520c83 hi.2.2.2.2.2.1 | omega⟩ ⟨by first | exact oq_fa4e5087 hi.2.2.1.1 | omega, by first | exact oq_f647a1c7 hi.2.2.1.2 hi.2.2.2.1.2 | omega⟩ (fun g1019 => ?_) (fun g1019 => ?_)
          ·
            exact z_load_n X (x := yv) rfl (List.Mem.tail _ (List.Mem.tail _ (List.Mem.head _))) (N1010 _ (Or.inl ⟨g1019, rfl⟩))
          ·
            exact z_load_n X (x := yv) rfl (List.Mem.tail _ (List.Mem.tail _ (List.Mem.head _))) (z_const X rfl (z_add X rfl (z_goto X (t := 67) rfl rfl (N1010 _ (Or.inr (⟨g1019, rfl⟩))))))
  refine z_load_n X (x := x) rfl (List.Mem.tail _ (List.Mem.head _)) (z_aload_n X (x := A 46) rfl (List.Mem.head _) (z_getI X 46 rfl (c518_ok rfl) rfl rfl ?_))
  have b2 := bi_28 I
  refine z_icmp_lt X (t := 14) rfl rfl ⟨by first | exact oq_fa4e5087 p0.1 | omega, by first | exact oq_b5dbaaed p0.2 b2.2 | omega⟩ (rng_to _) (fun g3 => ?_) (fun g3 => ?_)
  ·
    refine z_const X rfl (z_store X (lv' := [(4, .int (Int32.ofInt 0)), (0, .ref (A 46)), (1, .int (Int32.ofInt x)), (2, .int (Int32.ofInt y)), (3, .int (Int32.ofInt z))]) rfl (by decide) (fun _ h => h) (WS_pq [1, 2, 3, 4, 0] (lv' := [(0, .ref (A 46)), (1, .int (Int32.ofInt x)), (2, .int (Int32.ofInt y)), (3, .int (Int32.ofInt z)), (4, .int (Int32.ofInt 0))]) rfl (L17 ((3 - 0 : Int).toNat + 1) s x y z 0 I F (by first | exact ⟨by decide, And.intro (p0.1) (g3), And.intro (p2.1) (p2.2), And.intro (p3.1) (p3.2), by decide, by decide, by decide⟩ | omega) (Nat.lt_succ_self _) ?_)))
    intro s4 x5 Is4 Fs4 hs4
    have b6 := bi_28 Is4
    exact w_vret X.1 q hRt (ax_d X (show cdA 57 92 = some (.return_, 1, 0, 0, 0) from rfl)) (Nat.zero_le _) (Nat.zero_le _) ⟨_, rfl, Is4, Fs4, rfl, trivial⟩
  ·
    refine z_aload_n X (x := A 46) rfl (List.Mem.head _) (z_load_n X (x := y) rfl (List.Mem.tail _ (List.Mem.tail _ (List.Mem.head _))) (z_callV X 46 (rm := rmN 58) (As := [.int (Int32.ofInt y)]) (st := []) rfl rfl (by decide) rfl (by rw [E.1, E.2.1, E.2.2.1]; exact c5_compare_46 G I (by first | exact ⟨p2.1, oq_300cfc0a p2.2 p3.2⟩ | omega)) ⟨by rw [E.2.2.2]; exact (show 7 + 1 ≤ (12 + (12 + (r + 1))) from oq_ae749fef r), by rw [E.2.2.2]; exact (show 8 + (6 + 11) + 121 ≤ (500 + 45 * (12 + (r + 1))) from oq_7e2d2a8e r), by rw [E.2.2.2]; exact Nat.le_refl 0, by rw [E.2.2.2]; exact Nat.le_refl 0⟩ (Nat.le_of_ble_eq_true rfl) (fun vv s7 hq => ?_) (fun ee s7 hq => ?_)))
    rotate_left
    · obtain ⟨Is7, Fs7, hv, hps7⟩ := hq; cases hv
    obtain ⟨Is7, Fs7, hv, hps7⟩ := hq
    cases hv
    have Gs7 := fm_tq F Fs7 rfl rfl
    have ws7_28 : iI s7 28 = iI s 28 := fm_iq Fs7 rfl
    show WS k 13 [(0, .ref (A 46)), (1, .int (Int32.ofInt x)), (2, .int (Int32.ofInt y)), (3, .int (Int32.ofInt z))] [] (Wd A dT s7) 0 0
    exact w_vret X.1 q hRt (ax_d X (show cdA 57 13 = some (.return_, 1, 0, 0, 0) from rfl)) (Nat.zero_le _) (Nat.zero_le _) ⟨_, rfl, Is7, Gs7, rfl, trivial⟩
theorem c5_placer (G : GX l s0 D tys a0 dT) (r : Nat) : ∀ {s : PS} {x y z : Int}, Bd s → (0 ≤ x ∧ x ≤ iI s 28) → (iI s 28 - x ≤ ((r : Nat) : Int)) → (0 ≤ y ∧ y ≤ z) → (1 ≤ z ∧ z ≤ 3) → CT l s0 D A dT 57 (rkR (12 + (r))) [.ref (A 46), .int (Int32.ofInt x), .int (Int32.ofInt y), .int (Int32.ofInt z)] s (fun o t => Bd t ∧ Fm [31, 29, 30] [45, 43, 44] s t ∧ o = .inl none ∧ (True)) := by
  induction r with
  | zero => exact fun {_ _ _ _} I p0 p1 p2 p3 => c5_place0 G I p0 p1 p2 p3
  | succ r ih => exact fun {_ _ _ _} I p0 p1 p2 p3 => c5_placeS G ih I p0 p1 p2 p3
set_option maxRecDepth 4000 in
theorem c5_solve_46 (G : GX l s0 D tys a0 dT) (I : Bd s) {x : Int} (p0 : 1 ≤ x ∧ x ≤ 3) : CT l s0 D A dT 55 (rmN 55) [.ref (A 46), .int (Int32.ofInt x)] s (fun o t => Bd t ∧ Fm [22, 23, 24, 31, 29, 30] [33, 26, 27, 28, 29, 30, 31, 32, 20, 40, 41, 42, 45, 43, 44] s t ∧ ∃ e, o = .inl (some (.int (Int32.ofInt e))) ∧ rng e ∧ (e = 0 ∨ e = 1)) := by
  refine ct_ofX G (by decide) (Nat.le_of_ble_eq_true rfl) (fun k X E ET hRt hXt q => ?_)
  show WS k 0 [(0, .ref (A 46)), (1, .int (Int32.ofInt x))] [] _ 0 0
  have F : Fm [22, 23, 24, 31, 29, 30] [33, 26, 27, 28, 29, 30, 31, 32, 20, 40, 41, 42, 45, 43, 44] s s := fm_rf _ _ s
  have b1 := bi_28 I
  have L16 : ∀ (n : Nat) (t : PS) (xv c : Int), Bd t → Fm [22, 23, 24, 31, 29, 30] [33, 26, 27, 28, 29, 30, 31, 32, 20, 40, 41, 42, 45, 43, 44] s t → ((1 ≤ xv ∧ xv ≤ 3) ∧ 1 ≤ c ∧ c ≤ 256) → (256 - c : Int).toNat < n → (∀ (t' : PS) (c' : Int), Bd t' → Fm [22, 23, 24, 31, 29, 30] [33, 26, 27, 28, 29, 30, 31, 32, 20, 40, 41, 42, 45, 43, 44] s t' → ((1 ≤ xv ∧ xv ≤ 3) ∧ 1 ≤ c' ∧ c' ≤ 256) → WS k 37 [(0, .ref (A 46)), (1, .int (Int32.ofInt xv)), (2, .int (Int32.ofInt c'))] [] (Wd A dT t') 0 0) → WS k 16 [(0, .ref (A 46)), (1, .int (Int32.ofInt xv)), (2, .int (Int32.ofInt c))] [] (Wd A dT t) 0 0 := by
    intro n
    induction n with
    | zero =>
      intro t xv c I F hi hm kx
      exact absurd hm (Nat.not_lt_zero _)
    | succ n ih =>
      intro t xv c I F hi hm kx
      have b1001 := bi_28 I
      refine z_load_n X (x := c) rfl (List.Mem.tail _ (List.Mem.tail _ (List.Mem.head _))) (z_const X rfl (z_aload_n X (x := A 46) rfl (List.Mem.head _) (z_getI X 46 rfl (c518_ok rfl) rfl rfl ?_)))
      have b1002 := bi_28 I
      refine z_shl1 X rfl (by first | exact ⟨b1002.1, oq_58cbab50 b1002.2⟩ | omega) (fun y1003 hy1003 iy1003 jy1003 ky1003 => ?_)
      refine z_icmp_ge X (t := 37) rfl rfl ⟨by first | exact oq_9462313e hi.2.1 | omega, by first | exact oq_09cd9fc1 hi.2.2 | omega⟩ ⟨by first | exact oq_9462313e hy1003 | omega, by first | exact oq_e0f19d36 iy1003 | omega⟩ (fun g1004 => ?_) (fun g1004 => ?_)
      ·
        refine WS_pq [0, 1, 2] (lv' := [(0, .ref (A 46)), (1, .int (Int32.ofInt xv)), (2, .int (Int32.ofInt c))]) rfl ?_
        exact kx _ c I F (by first | exact ⟨And.intro (hi.1.1) (hi.1.2), hi.2.1, hi.2.2⟩ | omega)
      ·
        refine z_aload_n X (x := A 46) rfl (List.Mem.head _) (z_load_n X (x := c) rfl (List.Mem.tail _ (List.Mem.tail _ (List.Mem.head _))) (zcV_v0 X E 46 (As := [.int (Int32.ofInt c)]) (st := []) rfl rfl rfl rfl (c5_hearSubset_46 G I (by first | exact ⟨hi.2.1, by omega⟩ | omega)) rfl (Nat.le_of_ble_eq_true rfl) (fun s1005 Is1005 Fs1005 hps1005 => ?_)))
        have Gs1005 := fm_tq F Fs1005 rfl rfl
        have ws1005_28 : iI s1005 28 = iI t 28 := fm_iq Fs1005 rfl
        refine z_inc X (x := c) (lv' := [(2, .int (Int32.ofInt (c + 1))), (0, .ref (A 46)), (1, .int (Int32.ofInt xv))]) rfl (by decide) (List.Mem.tail _ (List.Mem.tail _ (List.Mem.head _))) (fun _ h => h) (z_goto X (t := 16) rfl rfl (WS_pq [1, 2, 0] (lv' := [(0, .ref (A 46)), (1, .int (Int32.ofInt xv)), (2, .int (Int32.ofInt (c + 1)))]) rfl ?_))
        exact ih _ xv (c + 1) Is1005 Gs1005 (by first | exact ⟨And.intro (hi.1.1) (hi.1.2), oq_1e1a2df6 hi.2.1, by omega⟩ | omega) (by omega) kx
  refine z_aload_n X (x := A 46) rfl (List.Mem.head _) (z_const X rfl (s_putI X 46 rfl (c518_ok rfl) rfl rfl (by decide) (nar_ret (by omega)) (fit_z (by omega)) rfl (wd_gen (fun s2 hs2 => ?_))))
  have Is2 : Bd s2 := eqB hs2 (bd_I I (show (0 : Int) ≤ 0 ∧ 0 ≤ 1 by first | exact ⟨by decide, by decide⟩ | omega) (by decide))
  have Fs2 := eqF hs2 (fm_I F (inl_ok (a := 31) rfl))
  have vs2 : iI s2 31 = 0 := eqI hs2 (iI_u (by decide))
  have ws2_28 : iI s2 28 = iI s 28 := eqI hs2 rfl
  refine z_aload_n X (x := A 46) rfl (List.Mem.head _) (z_getI X 46 rfl (c518_ok rfl) rfl rfl ?_)
  have b3 := bi_28 Is2
  refine z_if_ne X (t := 14) rfl rfl (rng_to _) (fun g4 => ?_) (fun g4 => ?_)
  ·
    refine z_const X rfl (z_store_n X (lv' := [(2, .int (Int32.ofInt 1)), (0, .ref (A 46)), (1, .int (Int32.ofInt x))]) rfl (by decide) (fun _ h => h) (WS_pq [1, 2, 0] (lv' := [(0, .ref (A 46)), (1, .int (Int32.ofInt x)), (2, .int (Int32.ofInt 1))]) rfl (L16 ((256 - 1 : Int).toNat + 1) s2 x 1 Is2 Fs2 (by first | exact ⟨And.intro (p0.1) (p0.2), by decide, by decide⟩ | omega) (Nat.lt_succ_self _) ?_)))
    intro s5 x6 Is5 Fs5 hs5
    have b7 := bi_28 Is5
    refine z_aload_n X (x := A 46) rfl (List.Mem.head _) (s_getR X 46 rfl (c518_ok rfl) rfl rfl (z_const X rfl (zcS_v0 X E (As := [.ref (A 52), .int (Int32.ofInt 0)]) (st := []) rfl rfl (j_fill_52 G Is5 (by first | exact ⟨by decide, by decide⟩ | omega)) rfl (Nat.le_of_ble_eq_true rfl) (fun s8 Is8 Fs8 hps8 => ?_))))
    have Gs8 := fm_tq Fs5 Fs8 rfl rfl
    have ws8_28 : iI s8 28 = iI s5 28 := fm_iq Fs8 rfl
    refine z_aload_n X (x := A 46) rfl (List.Mem.head _) (z_const X rfl (z_const X rfl (z_load_n X (x := x) rfl (List.Mem.tail _ (List.Mem.head _)) (z_callV X 46 (rm := (rkR (12 + 8))) (As := [.int (Int32.ofInt 0), .int (Int32.ofInt 0), .int (Int32.ofInt x)]) (st := []) rfl rfl (by decide) rfl (by rw [E.1, E.2.1, E.2.2.1]; exact c5_placer G 8 Is8 (by first | exact ⟨oq_2a6e3b50 hs5.1.1, by first | (clear g4; omega) | omega⟩ | omega) (by first | exact oq_24bb5479 ws8_28 hs5.1.1 b7.2 | omega) (by first | (clear g4; omega) | omega) (by first | (clear g4; omega) | omega)) ⟨by rw [E.2.2.2]; exact (show 32 + 1 ≤ 33 from oq_475ba1bc), by rw [E.2.2.2]; exact (show 8 + (5 + 11) + 1400 ≤ 1424 from oq_a1d4c57c), by rw [E.2.2.2]; exact Nat.le_refl 0, by rw [E.2.2.2]; exact Nat.le_refl 0⟩ (Nat.le_of_ble_eq_true rfl) (fun vv s10 hq => ?_) (fun ee s10 hq => ?_)))))
    rotate_left
    · obtain ⟨Is10, Fs10, hv, hps10⟩ := hq; cases hv
    obtain ⟨Is10, Fs10, hv, hps10⟩ := hq
    cases hv
    have Gs10 := fm_tq Gs8 Fs10 rfl rfl
    have ws10_28 : iI s10 28 = iI s8 28 := fm_iq Fs10 rfl
    show WS k 52 [(0, .ref (A 46)), (1, .int (Int32.ofInt x)), (2, .int (Int32.ofInt x6))] [] (Wd A dT s10) 0 0
    refine z_aload_n X (x := A 46) rfl (List.Mem.head _) (z_getI X 46 rfl (c518_ok rfl) rfl rfl ?_)
    have b12 := bi_31 Is10
    exact w_iret X.1 q hRt (nar_ret (by first | exact oq_31e518ae b12.2 b12.1 | omega)) (ax_d X (show cdA 55 56 = some (.ireturn, 1, 0, 0, 0) from rfl)) (Nat.zero_le _) (Nat.zero_le _) ⟨_, rfl, Is10, Gs10, (iI s10 31), rfl, (rng_to _), by first | exact oq_31e518ae b12.2 b12.1 | omega⟩
  ·
    refine z_const X rfl ?_
    exact w_iret X.1 q hRt (nar_ret (by first | exact Or.inl (by decide) | omega)) (ax_d X (show cdA 55 13 = some (.ireturn, 1, 0, 0, 0) from rfl)) (Nat.zero_le _) (Nat.zero_le _) ⟨_, rfl, Is2, Fs2, 0, rfl, (by decide), by first | exact Or.inl (by decide) | omega⟩
end M76
end
section
theorem oq_adfddeb6 {a0 a1 : Int} (h0 : a0 ≤ 5) (h1 : a1 < 24) : ((a0 * 24) + a1) < 144 := by omega
theorem oq_fda8ee8e {a0 a1 : Int} (h0 : a0 ≤ 5) (h1 : a1 < 24) : (((a0 * 24) + a1) : Int).toNat < 144 := by omega
theorem oq_ceab338e {a0 a1 : Int} (h0 : a0 ≤ 5) (h1 : a1 ≤ 23) : ((a0 * 24) + a1) < 144 := by omega
theorem oq_ab7254e1 {a0 a1 : Int} (h0 : a0 ≤ 5) (h1 : a1 ≤ 23) : (((a0 * 24) + a1) : Int).toNat < 144 := by omega
theorem oq_dd3f4b9e {a0 a1 : Int} (h0 : a0 ≤ (7 - a1)) : (a0 + 1) ≤ (7 - (a1 + (-1))) := by omega
theorem oq_a11a259b {a0 : Int} (h0 : a0 ≤ 9999) : a0 ≤ 2147483647 := by omega
theorem oq_a8f61181 {a0 a1 a2 : Int} (h0 : 0 ≤ a0) (h1 : 0 ≤ a1) (h2 : 0 ≤ a2) : (-2147483648) ≤ ((((a0 * 6) + a1) * 24) + a2) := by omega
theorem oq_9baaab2f {a0 a1 a2 : Int} (h0 : a0 ≤ 23) (h1 : a1 ≤ 5) (h2 : a2 ≤ 23) : ((((a0 * 6) + a1) * 24) + a2) ≤ 2147483647 := by omega
theorem oq_eb1958c2 {a0 : Int} (h0 : a0 ≤ 22) : (a0 + 1) ≤ 23 := by omega
theorem oq_ca4bf3cc {a0 : Int} (h0 : a0 ≤ 23) : (a0 - 1) ≤ 23 := by omega
theorem oq_db74133e {a0 a1 a2 a3 : Int} (h0 : a0 = (((((a1 + 1) * 6) + a2) * 24) + (a3 - 1))) (h1 : 0 ≤ a1) (h2 : 0 ≤ a2) (h3 : 1 ≤ a3) : 0 ≤ a0 := by omega
theorem oq_cb24e896 {a0 a1 a2 a3 a4 : Int} (h0 : a0 = (((((a1 + 1) * 6) + a2) * 24) + (a3 - 1))) (h1 : a1 ≤ 22) (h2 : a3 ≤ 23) (h3 : a2 < a4) (h4 : a4 ≤ 6) : a0 < 3456 := by omega
theorem oq_b0c4ef7a {a0 a1 a2 a3 a4 : Int} (h0 : a0 = (((((a1 + 1) * 6) + a2) * 24) + (a3 - 1))) (h1 : a1 ≤ 22) (h2 : a3 ≤ 23) (h3 : a2 < a4) (h4 : a4 ≤ 6) : (a0 : Int).toNat < 3456 := by omega
theorem oq_6fe820e0 {a0 a1 a2 a3 : Int} (h0 : a0 = (((((a1 + 1) * 6) + a2) * 24) + a3)) (h1 : 0 ≤ a1) (h2 : 0 ≤ a2) (h3 : 0 ≤ a3) : 0 ≤ a0 := by omega
theorem oq_caf24c68 {a0 a1 a2 a3 : Int} (h0 : a0 = (((((a1 + 1) * 6) + a2) * 24) + a3)) (h1 : a1 ≠ 23) (h2 : a3 ≤ 23) (h3 : a2 ≤ 5) (h4 : a1 ≤ 23) : a0 < 3456 := by omega
theorem oq_5229c5ae {a0 a1 a2 a3 : Int} (h0 : a0 = (((((a1 + 1) * 6) + a2) * 24) + a3)) (h1 : a1 ≠ 23) (h2 : a3 ≤ 23) (h3 : a2 ≤ 5) (h4 : a1 ≤ 23) : (a0 : Int).toNat < 3456 := by omega
theorem oq_f7ee2828 {a0 : Int} (h0 : a0 ≠ 23) (h1 : a0 ≤ 23) : (a0 + 1) < 24 := by omega
theorem oq_129091dc {a0 : Int} (h0 : a0 ≠ 23) (h1 : a0 ≤ 23) : ((a0 + 1) : Int).toNat < 24 := by omega
theorem oq_f0f9908c {a0 : Int} (h0 : a0 ≠ 23) (h1 : a0 ≤ 23) (h2 : 0 ≤ a0) : (0 ≤ a0 ∧ a0 ≤ 22) := by omega
theorem oq_c974ed27 {a0 a1 a2 a3 : Int} (h0 : a0 = ((((a1 * 6) + a2) * 24) + (a3 - 1))) (h1 : 1 ≤ a1) (h2 : 0 ≤ a2) (h3 : 0 < a3) : 0 ≤ a0 := by omega
theorem oq_1c844a3f {a0 a1 a2 a3 a4 : Int} (h0 : a0 = ((((a1 * 6) + a2) * 24) + (a3 - 1))) (h1 : a1 ≤ 23) (h2 : a2 < a4) (h3 : a4 ≤ 6) (h4 : a3 ≤ 23) : a0 < 3456 := by omega
theorem oq_b5cc632c {a0 a1 a2 a3 a4 : Int} (h0 : a0 = ((((a1 * 6) + a2) * 24) + (a3 - 1))) (h1 : a1 ≤ 23) (h2 : a2 < a4) (h3 : a4 ≤ 6) (h4 : a3 ≤ 23) : (a0 : Int).toNat < 3456 := by omega
theorem oq_1837768b {a0 a1 : Int} (h0 : a0 = a1) (h1 : 0 < a0) : 1 ≤ a1 := by omega
theorem oq_532cec08 {a0 a1 a2 a3 : Int} (h0 : a0 = ((((a1 * 6) + a2) * 24) + a3)) (h1 : 1 ≤ a1) (h2 : 0 ≤ a2) (h3 : 0 ≤ a3) : 0 ≤ a0 := by omega
theorem oq_8cfaa477 {a0 a1 a2 a3 a4 : Int} (h0 : a0 = ((((a1 * 6) + a2) * 24) + a3)) (h1 : a1 ≤ 23) (h2 : a3 ≤ 23) (h3 : a2 = a4) (h4 : a4 ≤ 5) : a0 < 3456 := by omega
theorem oq_170502e6 {a0 a1 a2 a3 a4 : Int} (h0 : a0 = ((((a1 * 6) + a2) * 24) + a3)) (h1 : a1 ≤ 23) (h2 : a3 ≤ 23) (h3 : a2 = a4) (h4 : a4 ≤ 5) : (a0 : Int).toNat < 3456 := by omega
theorem oq_27118732 {a0 a1 a2 : Int} (h0 : a0 = a1) (h1 : a2 = a0) : a2 = a1 := by omega
theorem oq_748293e5 {a0 : Int} (h0 : a0 ≤ 23) : (a0 - 1) < 24 := by omega
theorem oq_15f19a7c {a0 : Int} (h0 : a0 ≤ 23) : ((a0 - 1) : Int).toNat < 24 := by omega
theorem oq_73ace697 {a0 a1 a2 : Int} (h0 : a0 = ((((0 * 6) + a1) * 24) + a2)) (h1 : 0 ≤ a1) (h2 : 0 ≤ a2) : 0 ≤ a0 := by omega
theorem oq_1f4e7f5e {a0 a1 a2 a3 : Int} (h0 : a0 = ((((0 * 6) + a1) * 24) + a2)) (h1 : a2 ≤ a3) (h2 : a3 ≤ 23) (h3 : a1 ≤ 6) : a0 < 3456 := by omega
theorem oq_c4b096a1 {a0 a1 a2 a3 : Int} (h0 : a0 = ((((0 * 6) + a1) * 24) + a2)) (h1 : a2 ≤ a3) (h2 : a3 ≤ 23) (h3 : a1 ≤ 6) : (a0 : Int).toNat < 3456 := by omega
theorem oq_7b5db82c {a0 a1 a2 a3 a4 a5 : Int} (h0 : a0 ≠ a1) (h1 : a1 = a2) (h2 : a0 = a3) (h3 : a2 = a4) (h4 : (a3 = a4 ∨ 1 ≤ a5)) (h5 : a5 ≤ 23) : (0 ≤ (a5 + (-1)) ∧ (a5 + (-1)) ≤ 23) := by omega
theorem oq_90ac6b8d {a0 a1 a2 a3 : Int} (h0 : a0 = ((((a1 * 6) + a2) * 24) + a3)) (h1 : 0 ≤ a1) (h2 : 0 ≤ a2) (h3 : 0 ≤ a3) : 0 ≤ a0 := by omega
theorem oq_9a142767 {a0 a1 a2 a3 a4 : Int} (h0 : a0 = ((((a1 * 6) + a2) * 24) + a3)) (h1 : a1 ≤ 23) (h2 : a2 ≤ 5) (h3 : a3 ≤ a4) (h4 : a4 ≤ 23) : a0 < 3456 := by omega
/-! The class: plans -/
section M77
variable {l : Launch} {s0 : State} {D : va_G} {tys : List (ClassId × FieldType)} {a0 : Array Value} {A : Nat → Nat} {dT : Nat → ClassId} {s : PS}
set_option maxRecDepth 4000 in
theorem c4_judgeGroup_54 (G : GX l s0 D tys a0 dT) (I : Bd s) {x y z : Int} (p0 : 0 ≤ x ∧ x ≤ 5) (p1 : rng y) (p2 : z = 0 ∨ z = 1) (p3 : iI s 12 ≤ 8) : CT l s0 D A dT 46 (rmN 46) [.ref (A 54), .int (Int32.ofInt x), .int (Int32.ofInt y), .int (Int32.ofInt z)] s (fun o t => Bd t ∧ Fm [] [33, 20, 48] s t ∧ o = .inl none ∧ (True)) := by
  refine ct_ofX G (by decide) (Nat.le_of_ble_eq_true rfl) (fun k X E ET hRt hXt q => ?_)
  show WS k 0 [(0, .ref (A 54)), (1, .int (Int32.ofInt x)), (2, .int (Int32.ofInt y)), (3, .int (Int32.ofInt z))] [] _ 0 0
  have F : Fm [] [33, 20, 48] s s := fm_rf _ _ s
  have b1 := bi_12 I
  have L3 : ∀ (n : Nat) (t : PS) (xv yv zv qq : Int), Bd t → Fm [] [33, 20, 48] s t → ((0 ≤ xv ∧ xv ≤ 5) ∧ rng yv ∧ (zv = 0 ∨ zv = 1) ∧ 0 ≤ qq ∧ qq ≤ 24 ∧ iI t 12 ≤ 8) → (24 - qq : Int).toNat < n → (∀ (t' : PS) (qq' : Int), Bd t' → Fm [] [33, 20, 48] s t' → ((0 ≤ xv ∧ xv ≤ 5) ∧ rng yv ∧ (zv = 0 ∨ zv = 1) ∧ 0 ≤ qq' ∧ qq' ≤ 24 ∧ iI t' 12 ≤ 8) → WS k 127 [(0, .ref (A 54)), (1, .int (Int32.ofInt xv)), (2, .int (Int32.ofInt yv)), (3, .int (Int32.ofInt zv)), (4, .int (Int32.ofInt qq'))] [] (Wd A dT t') 0 0) → WS k 3 [(0, .ref (A 54)), (1, .int (Int32.ofInt xv)), (2, .int (Int32.ofInt yv)), (3, .int (Int32.ofInt zv)), (4, .int (Int32.ofInt qq))] [] (Wd A dT t) 0 0 := by
    intro n
    induction n with
    | zero =>
      intro t xv yv zv qq I F hi hm kx
      exact absurd hm (Nat.not_lt_zero _)
    | succ n ih =>
      intro t xv yv zv qq I F hi hm kx
      have b1001 := bi_12 I
      refine z_load X (x := qq) rfl (List.Mem.tail _ (List.Mem.tail _ (List.Mem.tail _ (List.Mem.tail _ (List.Mem.head _))))) (z_bipush X rfl (z_icmp_ge X (t := 127) rfl rfl ⟨by first | exact oq_fa4e5087 hi.2.2.2.1 | omega, by first | exact oq_5bcd337f hi.2.2.2.2.1 | omega⟩ (by decide) (fun g1002 => ?_) (fun g1002 => ?_)))
      ·
        refine WS_pq [0, 1, 2, 3, 4] (lv' := [(0, .ref (A 54)), (1, .int (Int32.ofInt xv)), (2, .int (Int32.ofInt yv)), (3, .int (Int32.ofInt zv)), (4, .int (Int32.ofInt qq))]) rfl ?_
        exact kx _ qq I F (by first | exact ⟨And.intro (hi.1.1) (hi.1.2), And.intro (hi.2.1.1) (hi.2.1.2), hi.2.2.1, hi.2.2.2.1, hi.2.2.2.2.1, hi.2.2.2.2.2⟩ | omega)
      ·
        refine z_load_n X (x := xv) rfl (List.Mem.tail _ (List.Mem.head _)) (z_bipush X rfl (z_mul X rfl (z_load X (x := qq) rfl (List.Mem.tail _ (List.Mem.tail _ (List.Mem.tail _ (List.Mem.tail _ (List.Mem.head _))))) (z_add X rfl (z_store X (lv' := [(5, .int (Int32.ofInt ((xv * 24) + qq))), (0, .ref (A 54)), (1, .int (Int32.ofInt xv)), (2, .int (Int32.ofInt yv)), (3, .int (Int32.ofInt zv)), (4, .int (Int32.ofInt qq))]) rfl (by decide) (fun _ h => h) (z_aload_n X (x := A 54) rfl (List.Mem.tail _ (List.Mem.head _)) (s_getR X 54 rfl (c518_ok rfl) rfl rfl (s_getR X 3 rfl (c518_ok rfl) rfl rfl (z_load X (x := qq) rfl (List.Mem.tail _ (List.Mem.tail _ (List.Mem.tail _ (List.Mem.tail _ (List.Mem.tail _ (List.Mem.head _)))))) (z_ald X 17 rfl (c518_ok rfl) rfl (by first | exact hi.2.2.2.1 | omega) (show qq < 24 by first | exact g1002 | omega) (cbig_ok rfl) ?_))))))))))
        have b1003 := bc_14 I (show (qq).toNat < 24 by first | exact oq_797efae6 g1002 | omega)
        refine z_load X (x := qq) rfl (List.Mem.tail _ (List.Mem.tail _ (List.Mem.tail _ (List.Mem.tail _ (List.Mem.tail _ (List.Mem.head _)))))) (z_icmp_eq X (t := 64) rfl rfl (rng_to _) ⟨by first | exact oq_fa4e5087 hi.2.2.2.1 | omega, by first | exact oq_1d70227b g1002 | omega⟩ (fun g1004 => ?_) (fun g1004 => ?_))
        ·
          refine z_aload_n X (x := A 54) rfl (List.Mem.tail _ (List.Mem.head _)) (s_getR X 54 rfl (c518_ok rfl) rfl rfl (z_load X (x := ((xv * 24) + qq)) rfl (List.Mem.head _) (z_zald X 57 rfl (c518_ok rfl) rfl (by first | exact oq_4071a75f hi.1.1 hi.2.2.2.1 | omega) (show ((xv * 24) + qq) < 144 by first | exact oq_adfddeb6 hi.1.2 g1002 | omega) (cbig_ok rfl) ?_)))
          have b1005 := bc_48 I (show (((xv * 24) + qq)).toNat < 144 by first | exact oq_fda8ee8e hi.1.2 g1002 | omega)
          refine z_if_eq X (t := 121) rfl rfl (rng_to _) (fun g1006 => ?_) (fun g1006 => ?_)
          ·
            refine z_inc X (x := qq) (lv' := [(4, .int (Int32.ofInt (qq + 1))), (5, .int (Int32.ofInt ((xv * 24) + qq))), (0, .ref (A 54)), (1, .int (Int32.ofInt xv)), (2, .int (Int32.ofInt yv)), (3, .int (Int32.ofInt zv))]) rfl (by decide) (List.Mem.tail _ (List.Mem.tail _ (List.Mem.tail _ (List.Mem.tail _ (List.Mem.tail _ (List.Mem.head _)))))) (fun _ h => h) (z_goto X (t := 3) rfl rfl (WS_pq [2, 3, 4, 5, 0] (lv' := [(0, .ref (A 54)), (1, .int (Int32.ofInt xv)), (2, .int (Int32.ofInt yv)), (3, .int (Int32.ofInt zv)), (4, .int (Int32.ofInt (qq + 1)))]) rfl ?_))
            exact ih _ xv yv zv (qq + 1) I F (by first | exact ⟨And.intro (hi.1.1) (hi.1.2), And.intro (hi.2.1.1) (hi.2.1.2), hi.2.2.1, oq_54f49eb5 hi.2.2.2.1, oq_cec7cb2e g1002, hi.2.2.2.2.2⟩ | omega) (by first | exact qk_me hm (by decide) (oq_ffa8317e g1002) | omega) kx
          ·
            refine z_aload_n X (x := A 54) rfl (List.Mem.tail _ (List.Mem.head _)) (s_getR X 54 rfl (c518_ok rfl) rfl rfl (z_load X (x := ((xv * 24) + qq)) rfl (List.Mem.head _) (z_aload_n X (x := A 54) rfl (List.Mem.tail _ (List.Mem.head _)) (s_getR X 54 rfl (c518_ok rfl) rfl rfl (z_load X (x := qq) rfl (List.Mem.tail _ (List.Mem.tail _ (List.Mem.tail _ (List.Mem.tail _ (List.Mem.tail _ (List.Mem.head _)))))) (z_const X rfl (zcV_i0 X E 31 (As := [.int (Int32.ofInt qq), .int (Int32.ofInt (-1))]) (st := [.int (Int32.ofInt ((xv * 24) + qq)), .ref (A 57)]) rfl rfl rfl rfl (c0_loadAt_31 G I (by first | exact ⟨hi.2.2.2.1, oq_c69fe266 g1002⟩ | omega) (by first | exact ⟨by decide, by decide⟩ | omega)) rfl (Nat.le_of_ble_eq_true rfl) (fun s1007 e1008 Is1007 Fs1007 hrs1007 hps1007 => ?_))))))))
            have Gs1007 := fm_tq F Fs1007 rfl rfl
            have ws1007_12 : iI s1007 12 = iI t 12 := fm_iq Fs1007 rfl
            refine z_load_n X (x := yv) rfl (List.Mem.tail _ (List.Mem.tail _ (List.Mem.tail _ (List.Mem.head _)))) (z_icmp_gt X (t := 119) rfl rfl hrs1007 ⟨by first | exact hi.2.1.1 | omega, by first | exact hi.2.1.2 | omega⟩ (fun g1009 => ?_) (fun g1009 => ?_))
            ·
              refine z_const X rfl (z_zast X 57 rfl (c518_ok rfl) rfl (by first | exact oq_4071a75f hi.1.1 hi.2.2.2.1 | omega) (show ((xv * 24) + qq) < 144 by first | exact oq_adfddeb6 hi.1.2 g1002 | omega) (by decide) (by first | exact Or.inl (cbig_ok rfl) | omega) (wd_gen (fun s1010 hs1010 => ?_)))
              have Is1010 : Bd s1010 := eqB hs1010 (bd_C Is1007 (show (0 : Int) ≤ 0 ∧ 0 ≤ 1 by first | exact ⟨by decide, by decide⟩ | omega) (by decide))
              have Fs1010 := eqF hs1010 (fm_C Gs1007 (inl_ok (a := 48) rfl))
              have ws1010_12 : iI s1010 12 = iI s1007 12 := eqI hs1010 rfl
              refine z_inc X (x := qq) (lv' := [(4, .int (Int32.ofInt (qq + 1))), (5, .int (Int32.ofInt ((xv * 24) + qq))), (0, .ref (A 54)), (1, .int (Int32.ofInt xv)), (2, .int (Int32.ofInt yv)), (3, .int (Int32.ofInt zv))]) rfl (by decide) (List.Mem.tail _ (List.Mem.tail _ (List.Mem.tail _ (List.Mem.tail _ (List.Mem.tail _ (List.Mem.head _)))))) (fun _ h => h) (z_goto X (t := 3) rfl rfl (WS_pq [2, 3, 4, 5, 0] (lv' := [(0, .ref (A 54)), (1, .int (Int32.ofInt xv)), (2, .int (Int32.ofInt yv)), (3, .int (Int32.ofInt zv)), (4, .int (Int32.ofInt (qq + 1)))]) rfl ?_))
              exact ih _ xv yv zv (qq + 1) Is1010 Fs1010 (by first | exact ⟨And.intro (hi.1.1) (hi.1.2), And.intro (hi.2.1.1) (hi.2.1.2), hi.2.2.1, oq_54f49eb5 hi.2.2.2.1, oq_cec7cb2e g1002, oq_d7ce4408 ws1010_12 ws1007_12 hi.2.2.2.2.2⟩ | omega) (by first | exact qk_me hm (by decide) (oq_ffa8317e g1002) | omega) kx
            ·
              refine z_load_n X (x := zv) rfl (List.Mem.tail _ (List.Mem.tail _ (List.Mem.tail _ (List.Mem.tail _ (List.Mem.head _))))) (z_if_eq X (t := 115) rfl rfl ⟨by first | exact oq_bde653e9 hi.2.2.1 | omega, by first | exact oq_4ad2cb8b hi.2.2.1 | omega⟩ (fun g1011 => ?_) (fun g1011 => ?_))
              ·
                refine z_const X rfl (z_goto X (t := 120) rfl rfl (z_zast X 57 rfl (c518_ok rfl) rfl (by first | exact oq_4071a75f hi.1.1 hi.2.2.2.1 | omega) (show ((xv * 24) + qq) < 144 by first | exact oq_adfddeb6 hi.1.2 g1002 | omega) (by decide) (by first | exact Or.inr (cbig_ok rfl) | omega) (wd_gen (fun s1012 hs1012 => ?_))))
                have Is1012 : Bd s1012 := eqB hs1012 (bd_C Is1007 (show (0 : Int) ≤ 1 ∧ 1 ≤ 1 by first | exact ⟨by decide, by decide⟩ | omega) (by decide))
                have Fs1012 := eqF hs1012 (fm_C Gs1007 (inl_ok (a := 48) rfl))
                have ws1012_12 : iI s1012 12 = iI s1007 12 := eqI hs1012 rfl
                refine z_inc X (x := qq) (lv' := [(4, .int (Int32.ofInt (qq + 1))), (5, .int (Int32.ofInt ((xv * 24) + qq))), (0, .ref (A 54)), (1, .int (Int32.ofInt xv)), (2, .int (Int32.ofInt yv)), (3, .int (Int32.ofInt zv))]) rfl (by decide) (List.Mem.tail _ (List.Mem.tail _ (List.Mem.tail _ (List.Mem.tail _ (List.Mem.tail _ (List.Mem.head _)))))) (fun _ h => h) (z_goto X (t := 3) rfl rfl (WS_pq [2, 3, 4, 5, 0] (lv' := [(0, .ref (A 54)), (1, .int (Int32.ofInt xv)), (2, .int (Int32.ofInt yv)), (3, .int (Int32.ofInt zv)), (4, .int (Int32.ofInt (qq + 1)))]) rfl ?_))
                exact ih _ xv yv zv (qq + 1) Is1012 Fs1012 (by first | exact ⟨And.intro (hi.1.1) (hi.1.2), And.intro (hi.2.1.1) (hi.2.1.2), hi.2.2.1, oq_54f49eb5 hi.2.2.2.1, oq_cec7cb2e g1002, oq_d7ce4408 ws1012_12 ws1007_12 hi.2.2.2.2.2⟩ | omega) (by first | exact qk_me hm (by decide) (oq_ffa8317e g1002) | omega) kx
              ·
                refine z_aload_n X (x := A 54) rfl (List.Mem.tail _ (List.Mem.head _)) (s_getR X 54 rfl (c518_ok rfl) rfl rfl (z_aload_n X (x := A 54) rfl (List.Mem.tail _ (List.Mem.head _)) (s_getR X 54 rfl (c518_ok rfl) rfl rfl (s_getR X 31 rfl (c518_ok rfl) rfl rfl (zcV_i0 X E 19 (As := [.ref (A 39)]) (st := [.int (Int32.ofInt ((xv * 24) + qq)), .ref (A 57)]) rfl rfl rfl rfl (c7_joinsHold_19 G Is1007 (by first | exact oq_86ef0b17 ws1007_12 hi.2.2.2.2.2 | omega)) rfl (Nat.le_of_ble_eq_true rfl) (fun s1013 e1014 Is1013 Fs1013 hrs1013 hps1013 => ?_))))))
                have Gs1013 := fm_tq Gs1007 Fs1013 rfl rfl
                have ws1013_12 : iI s1013 12 = iI s1007 12 := fm_iq Fs1013 rfl
                have N1015 : ∀ e1016 : Int, (((e1014 = 0) ∧ e1016 = 0) ∨ ((e1014 ≠ 0) ∧ e1016 = 1)) → WS k 120 [(5, .int (Int32.ofInt ((xv * 24) + qq))), (0, .ref (A 54)), (1, .int (Int32.ofInt xv)), (2, .int (Int32.ofInt yv)), (3, .int (Int32.ofInt zv)), (4, .int (Int32.ofInt qq))] [.int (Int32.ofInt e1016), .int (Int32.ofInt ((xv * 24) + qq)), .ref (A 57)] (Wd A dT s1013) 0 0 := by
                  intro e1016 he1016
                  have re1016 : 0 ≤ e1016 ∧ e1016 ≤ 1 := by first | (clear he1016 hps1013 g1011 g1006 p2; omega) | (clear hps1013 g1011 g1006 p2; omega) | omega
                  refine z_zast X 57 rfl (c518_ok rfl) rfl (by first | exact oq_4071a75f hi.1.1 hi.2.2.2.1 | omega) (show ((xv * 24) + qq) < 144 by first | exact oq_adfddeb6 hi.1.2 g1002 | omega) (cbig_ok rfl) (by first | exact oq_54ac7134 re1016.2 re1016.1 he1016 | omega) (wd_gen (fun s1017 hs1017 => ?_))
                  have Is1017 : Bd s1017 := eqB hs1017 (bd_C Is1013 (show (0 : Int) ≤ e1016 ∧ e1016 ≤ 1 by first | exact ⟨re1016.1, re1016.2⟩ | omega) ⟨by first | exact oq_fa4e5087 re1016.1 | omega, by first | exact oq_22e1e6b0 re1016.2 | omega⟩)
                  have Fs1017 := eqF hs1017 (fm_C Gs1013 (inl_ok (a := 48) rfl))
                  have ws1017_12 : iI s1017 12 = iI s1013 12 := eqI hs1017 rfl
                  refine z_inc X (x := qq) (lv' := [(4, .int (Int32.ofInt (qq + 1))), (5, .int (Int32.ofInt ((xv * 24) + qq))), (0, .ref (A 54)), (1, .int (Int32.ofInt xv)), (2, .int (Int32.ofInt yv)), (3, .int (Int32.ofInt zv))]) rfl (by decide) (List.Mem.tail _ (List.Mem.tail _ (List.Mem.tail _ (List.Mem.tail _ (List.Mem.tail _ (List.Mem.head _)))))) (fun _ h => h) (z_goto X (t := 3) rfl rfl (WS_pq [2, 3, 4, 5, 0] (lv' := [(0, .ref (A 54)), (1, .int (Int32.ofInt xv)), (2, .int (Int32.ofInt yv)), (3, .int (Int32.ofInt zv)), (4, .int (Int32.ofInt (qq + 1)))]) rfl ?_))
                  exact ih _ xv yv zv (qq + 1) Is1017 Fs1017 (by first | exact ⟨And.intro (hi.1.1) (hi.1.2), And.intro (hi.2.1.1) (hi.2.1.2), hi.2.2.1, oq_54f49eb5 hi.2.2.2.1, oq_cec7cb2e g1002, oq_e14d47df ws1017_12 ws1013_12 ws1007_12 hi.2.2.2.2.2⟩ | omega) (by first | exact qk_me hm (by decide) (oq_ffa8317e g1002) | omega) kx
                refine z_if_eq X (t := 119) rfl rfl hrs1013 (fun g1018 => ?_) (fun g1018 => ?_)
                ·
                  exact z_const X rfl (N1015 _ (Or.inl ⟨g1018, rfl⟩))
                ·
                  exact z_const X rfl (z_goto X (t := 120) rfl rfl (N1015 _ (Or.inr (⟨g1018, rfl⟩))))
        ·
          refine z_aload_n X (x := A 54) rfl (List.Mem.tail _ (List.Mem.head _)) (s_getR X 54 rfl (c518_ok rfl) rfl rfl (z_load X (x := ((xv * 24) + qq)) rfl (List.Mem.head _) (z_aload_n X (x := A 54) rfl (List.Mem.tail _ (List.Mem.head _)) (s_getR X 54 rfl (c518_ok rfl) rfl rfl (z_load_n X (x := xv) rfl (List.Mem.tail _ (List.Mem.tail _ (List.Mem.head _))) (z_bipush X rfl (z_mul X rfl (z_aload_n X (x := A 54) rfl (List.Mem.tail _ (List.Mem.head _)) (s_getR X 54 rfl (c518_ok rfl) rfl rfl (s_getR X 3 rfl (c518_ok rfl) rfl rfl (z_load X (x := qq) rfl (List.Mem.tail _ (List.Mem.tail _ (List.Mem.tail _ (List.Mem.tail _ (List.Mem.tail _ (List.Mem.head _)))))) ?_)))))))))))
          refine z_ald X 17 rfl (c518_ok rfl) rfl (by first | exact hi.2.2.2.1 | omega) (show qq < 24 by first | exact g1002 | omega) (cbig_ok rfl) ?_
          have b1019 := bc_14 I (show (qq).toNat < 24 by first | exact oq_797efae6 g1002 | omega)
          refine z_add X rfl (z_zald X 57 rfl (c518_ok rfl) rfl (by first | exact oq_4071a75f hi.1.1 b1019.1 | omega) (show ((xv * 24) + (iC t 14 (qq).toNat)) < 144 by first | exact oq_ceab338e hi.1.2 b1019.2 | omega) (cbig_ok rfl) ?_)
          have b1020 := bc_48 I (show (((xv * 24) + (iC t 14 (qq).toNat))).toNat < 144 by first | exact oq_ab7254e1 hi.1.2 b1019.2 | omega)
          refine z_zast X 57 rfl (c518_ok rfl) rfl (by first | exact oq_4071a75f hi.1.1 hi.2.2.2.1 | omega) (show ((xv * 24) + qq) < 144 by first | exact oq_adfddeb6 hi.1.2 g1002 | omega) (cbig_ok rfl) (by first | exact oq_31e518ae b1020.2 b1020.1 | omega) (wd_gen (fun s1021 hs1021 => ?_))
          have Is1021 : Bd s1021 := eqB hs1021 (bd_C I (show (0 : Int) ≤ (iC t 48 (((xv * 24) + (iC t 14 (qq).toNat))).toNat) ∧ (iC t 48 (((xv * 24) + (iC t 14 (qq).toNat))).toNat) ≤ 1 by first | exact ⟨b1020.1, b1020.2⟩ | omega) (rng_to _))
          have Fs1021 := eqF hs1021 (fm_C F (inl_ok (a := 48) rfl))
          have ws1021_12 : iI s1021 12 = iI t 12 := eqI hs1021 rfl
          refine z_goto X (t := 121) rfl rfl (z_inc X (x := qq) (lv' := [(4, .int (Int32.ofInt (qq + 1))), (5, .int (Int32.ofInt ((xv * 24) + qq))), (0, .ref (A 54)), (1, .int (Int32.ofInt xv)), (2, .int (Int32.ofInt yv)), (3, .int (Int32.ofInt zv))]) rfl (by decide) (List.Mem.tail _ (List.Mem.tail _ (List.Mem.tail _ (List.Mem.tail _ (List.Mem.tail _ (List.Mem.head _)))))) (fun _ h => h) (z_goto X (t := 3) rfl rfl (WS_pq [2, 3, 4, 5, 0] (lv' := [(0, .ref (A 54)), (1, .int (Int32.ofInt xv)), (2, .int (Int32.ofInt yv)), (3, .int (Int32.ofInt zv)), (4, .int (Int32.ofInt (qq + 1)))]) rfl ?_)))
          exact ih _ xv yv zv (qq + 1) Is1021 Fs1021 (by first | exact ⟨And.intro (hi.1.1) (hi.1.2), And.intro (hi.2.1.1) (hi.2.1.2), hi.2.2.1, oq_54f49eb5 hi.2.2.2.1, oq_cec7cb2e g1002, oq_86ef0b17 ws1021_12 hi.2.2.2.2.2⟩ | omega) (by first | exact qk_me hm (by decide) (oq_ffa8317e g1002) | omega) kx
  refine z_const X rfl (z_store X (lv' := [(4, .int (Int32.ofInt 0)), (0, .ref (A 54)), (1, .int (Int32.ofInt x)), (2, .int (Int32.ofInt y)), (3, .int (Int32.ofInt z))]) rfl (by decide) (fun _ h => h) (WS_pq [1, 2, 3, 4, 0] (lv' := [(0, .ref (A 54)), (1, .int (Int32.ofInt x)), (2, .int (Int32.ofInt y)), (3, .int (Int32.ofInt z)), (4, .int (Int32.ofInt 0))]) rfl (L3 ((24 - 0 : Int).toNat + 1) s x y z 0 I F (by first | exact ⟨And.intro (p0.1) (p0.2), And.intro (p1.1) (p1.2), p2, by decide, by decide, p3⟩ | omega) (Nat.lt_succ_self _) ?_)))
  intro s2 x3 Is2 Fs2 hs2
  have b4 := bi_12 Is2
  exact w_vret X.1 q hRt (ax_d X (show cdA 46 127 = some (.return_, 1, 0, 0, 0) from rfl)) (Nat.zero_le _) (Nat.zero_le _) ⟨_, rfl, Is2, Fs2, rfl, trivial⟩
set_option maxRecDepth 4000 in
theorem c4_judge_54 (G : GX l s0 D tys a0 dT) (I : Bd s) {x : Int} (p0 : 0 ≤ x ∧ x ≤ 5) (p1 : iI s 12 ≤ 8) : CT l s0 D A dT 45 (rmN 45) [.ref (A 54), .int (Int32.ofInt x)] s (fun o t => Bd t ∧ Fm [22, 23, 24] [33, 26, 27, 28, 29, 30, 31, 32, 20, 48, 47] s t ∧ o = .inl none ∧ (True)) := by
  refine ct_ofX G (by decide) (Nat.le_of_ble_eq_true rfl) (fun k X E ET hRt hXt q => ?_)
  show WS k 0 [(0, .ref (A 54)), (1, .int (Int32.ofInt x))] [] _ 0 0
  have F : Fm [22, 23, 24] [33, 26, 27, 28, 29, 30, 31, 32, 20, 48, 47] s s := fm_rf _ _ s
  have b1 := bi_12 I
  have L9 : ∀ (n : Nat) (t : PS) (xv qq : Int), Bd t → Fm [22, 23, 24] [33, 26, 27, 28, 29, 30, 31, 32, 20, 48, 47] s t → ((0 ≤ xv ∧ xv ≤ 5) ∧ 0 ≤ qq ∧ qq ≤ 24 ∧ iI t 12 ≤ 8) → (24 - qq : Int).toNat < n → (∀ (t' : PS) (qq' : Int), Bd t' → Fm [22, 23, 24] [33, 26, 27, 28, 29, 30, 31, 32, 20, 48, 47] s t' → ((0 ≤ xv ∧ xv ≤ 5) ∧ 0 ≤ qq' ∧ qq' ≤ 24 ∧ iI t' 12 ≤ 8) → WS k 33 [(0, .ref (A 54)), (1, .int (Int32.ofInt xv)), (2, .int (Int32.ofInt qq'))] [] (Wd A dT t') 0 0) → WS k 9 [(0, .ref (A 54)), (1, .int (Int32.ofInt xv)), (2, .int (Int32.ofInt qq))] [] (Wd A dT t) 0 0 := by
    intro n
    induction n with
    | zero =>
      intro t xv qq I F hi hm kx
      exact absurd hm (Nat.not_lt_zero _)
    | succ n ih =>
      intro t xv qq I F hi hm kx
      have b1001 := bi_12 I
      refine z_load_n X (x := qq) rfl (List.Mem.tail _ (List.Mem.tail _ (List.Mem.head _))) (z_bipush X rfl (z_icmp_ge X (t := 33) rfl rfl ⟨by first | exact oq_fa4e5087 hi.2.1 | omega, by first | exact oq_5bcd337f hi.2.2.1 | omega⟩ (by decide) (fun g1002 => ?_) (fun g1002 => ?_)))
      ·
        refine WS_pq [0, 1, 2] (lv' := [(0, .ref (A 54)), (1, .int (Int32.ofInt xv)), (2, .int (Int32.ofInt qq))]) rfl ?_
        exact kx _ qq I F (by first | exact ⟨And.intro (hi.1.1) (hi.1.2), hi.2.1, hi.2.2.1, hi.2.2.2⟩ | omega)
      ·
        refine z_aload_n X (x := A 54) rfl (List.Mem.head _) (s_getR X 54 rfl (c518_ok rfl) rfl rfl (z_load_n X (x := xv) rfl (List.Mem.tail _ (List.Mem.head _)) (z_bipush X rfl (z_mul X rfl (z_load_n X (x := qq) rfl (List.Mem.tail _ (List.Mem.tail _ (List.Mem.head _))) (z_add X rfl (z_const X rfl (z_zast X 57 rfl (c518_ok rfl) rfl (by first | exact oq_4071a75f hi.1.1 hi.2.1 | omega) (show ((xv * 24) + qq) < 144 by first | exact oq_adfddeb6 hi.1.2 g1002 | omega) (by decide) (by first | exact Or.inr (cbig_ok rfl) | omega) (wd_gen (fun s1003 hs1003 => ?_))))))))))
        have Is1003 : Bd s1003 := eqB hs1003 (bd_C I (show (0 : Int) ≤ 1 ∧ 1 ≤ 1 by first | exact ⟨by decide, by decide⟩ | omega) (by decide))
        have Fs1003 := eqF hs1003 (fm_C F (inl_ok (a := 48) rfl))
        have ws1003_12 : iI s1003 12 = iI t 12 := eqI hs1003 rfl
        refine z_inc X (x := qq) (lv' := [(2, .int (Int32.ofInt (qq + 1))), (0, .ref (A 54)), (1, .int (Int32.ofInt xv))]) rfl (by decide) (List.Mem.tail _ (List.Mem.tail _ (List.Mem.head _))) (fun _ h => h) (z_goto X (t := 9) rfl rfl (WS_pq [1, 2, 0] (lv' := [(0, .ref (A 54)), (1, .int (Int32.ofInt xv)), (2, .int (Int32.ofInt (qq + 1)))]) rfl ?_))
        exact ih _ xv (qq + 1) Is1003 Fs1003 (by first | exact ⟨And.intro (hi.1.1) (hi.1.2), oq_54f49eb5 hi.2.1, oq_cec7cb2e g1002, oq_86ef0b17 ws1003_12 hi.2.2.2⟩ | omega) (by first | exact qk_me hm (by decide) (oq_ffa8317e g1002) | omega) kx
  have L56 : ∀ (n : Nat) (t : PS) (xv : Int) (gp : Int) (lw : Int64) (hw : Int64) (mm : Int) (li : Int) (p : Int), Bd t → Fm [22, 23, 24] [33, 26, 27, 28, 29, 30, 31, 32, 20, 48, 47] s t → ((0 ≤ xv ∧ xv ≤ 5) ∧ (0 ≤ gp ∧ gp ≤ 7) ∧ (0 ≤ mm ∧ mm ≤ 7 - p) ∧ rng li ∧ -1 ≤ p ∧ p ≤ 7 ∧ iI t 12 ≤ 8) → (p + 1 : Int).toNat < n → (∀ (t' : PS) (lw' : Int64) (hw' : Int64) (mm' : Int) (li' : Int) (p' : Int), Bd t' → Fm [22, 23, 24] [33, 26, 27, 28, 29, 30, 31, 32, 20, 48, 47] s t' → ((0 ≤ xv ∧ xv ≤ 5) ∧ (0 ≤ gp ∧ gp ≤ 7) ∧ (0 ≤ mm' ∧ mm' ≤ 7 - p') ∧ rng li' ∧ -1 ≤ p' ∧ p' ≤ 7 ∧ iI t' 12 ≤ 8) → WS k 140 [(0, .ref (A 54)), (1, .int (Int32.ofInt xv)), (2, .int (Int32.ofInt gp)), (3, .long lw'), (5, .long hw'), (7, .int (Int32.ofInt mm')), (8, .int (Int32.ofInt li')), (9, .int (Int32.ofInt p'))] [] (Wd A dT t') 0 0) → WS k 56 [(0, .ref (A 54)), (1, .int (Int32.ofInt xv)), (2, .int (Int32.ofInt gp)), (3, .long lw), (5, .long hw), (7, .int (Int32.ofInt mm)), (8, .int (Int32.ofInt li)), (9, .int (Int32.ofInt p))] [] (Wd A dT t) 0 0 := by
    intro n
    induction n with
    | zero =>
      intro t xv gp lw hw mm li p I F hi hm kx
      exact absurd hm (Nat.not_lt_zero _)
    | succ n ih =>
      intro t xv gp lw hw mm li p I F hi hm kx
      have b2001 := bi_12 I
      refine z_load X (x := p) rfl (List.Mem.tail _ (List.Mem.tail _ (List.Mem.tail _ (List.Mem.tail _ (List.Mem.tail _ (List.Mem.tail _ (List.Mem.tail _ (List.Mem.head _)))))))) (z_if_lt X (t := 140) rfl rfl ⟨by first | exact oq_97ee2c2a hi.2.2.2.2.1 | omega, by first | exact oq_0e78ca7d hi.2.2.2.2.2.1 | omega⟩ (fun g2002 => ?_) (fun g2002 => ?_))
      ·
        refine WS_pq [0, 1, 2, 3, 4, 5, 6, 7] (lv' := [(0, .ref (A 54)), (1, .int (Int32.ofInt xv)), (2, .int (Int32.ofInt gp)), (3, .long lw), (5, .long hw), (7, .int (Int32.ofInt mm)), (8, .int (Int32.ofInt li)), (9, .int (Int32.ofInt p))]) rfl ?_
        exact kx _ lw hw mm li p I F (by first | exact ⟨And.intro (hi.1.1) (hi.1.2), And.intro (hi.2.1.1) (hi.2.1.2), And.intro (hi.2.2.1.1) (hi.2.2.1.2), And.intro (hi.2.2.2.1.1) (hi.2.2.2.1.2), hi.2.2.2.2.1, hi.2.2.2.2.2.1, hi.2.2.2.2.2.2⟩ | omega)
      ·
        refine z_aload_n X (x := A 54) rfl (List.Mem.head _) (s_getR X 54 rfl (c518_ok rfl) rfl rfl (z_load_n X (x := xv) rfl (List.Mem.tail _ (List.Mem.head _)) (z_ald X 55 rfl (c518_ok rfl) rfl (by first | exact hi.1.1 | omega) (show xv < 6 by first | exact oq_9207f8f8 hi.1.2 | omega) (cbig_ok rfl) ?_)))
        have b2003 := bc_46 I (show (xv).toNat < 6 by first | exact oq_78f9cd89 hi.1.2 | omega)
        refine z_const X rfl (z_load X (x := p) rfl (List.Mem.tail _ (List.Mem.tail _ (List.Mem.tail _ (List.Mem.tail _ (List.Mem.tail _ (List.Mem.tail _ (List.Mem.tail _ (List.Mem.head _)))))))) (z_mul X rfl (z_bshr X rfl (z_any (fun y2004 hy2004 => ?_)))))
        refine z_bipush X rfl (z_band X rfl (z_any (fun y2005 hy2005 => ?_)))
        refine z_load_n X (x := gp) rfl (List.Mem.tail _ (List.Mem.tail _ (List.Mem.head _))) (z_icmp_ne X (t := 134) rfl rfl hy2005 ⟨by first | exact oq_fa4e5087 hi.2.1.1 | omega, by first | exact oq_0e78ca7d hi.2.1.2 | omega⟩ (fun g2006 => ?_) (fun g2006 => ?_))
        ·
          refine z_inc X (x := p) (lv' := [(9, .int (Int32.ofInt (p + (-1)))), (0, .ref (A 54)), (1, .int (Int32.ofInt xv)), (2, .int (Int32.ofInt gp)), (3, .long lw), (5, .long hw), (7, .int (Int32.ofInt mm)), (8, .int (Int32.ofInt li))]) rfl (by decide) (List.Mem.tail _ (List.Mem.tail _ (List.Mem.tail _ (List.Mem.tail _ (List.Mem.tail _ (List.Mem.tail _ (List.Mem.tail _ (List.Mem.head _)))))))) (fun _ h => h) (z_goto X (t := 56) rfl rfl (WS_pq [1, 2, 3, 4, 5, 6, 7, 0] (lv' := [(0, .ref (A 54)), (1, .int (Int32.ofInt xv)), (2, .int (Int32.ofInt gp)), (3, .long lw), (5, .long hw), (7, .int (Int32.ofInt mm)), (8, .int (Int32.ofInt li)), (9, .int (Int32.ofInt (p + (-1))))]) rfl ?_))
          exact ih _ xv gp lw hw mm li (p + (-1)) I F (by first | exact ⟨And.intro (hi.1.1) (hi.1.2), And.intro (hi.2.1.1) (hi.2.1.2), And.intro (hi.2.2.1.1) (oq_256ac20b hi.2.2.1.2), And.intro (hi.2.2.2.1.1) (hi.2.2.2.1.2), oq_285ed02d g2002, oq_40e69522 hi.2.2.2.2.2.1, hi.2.2.2.2.2.2⟩ | omega) (by first | exact qk_me hm (by decide) (oq_7a276f11 g2002) | omega) kx
        ·
          refine z_aload_n X (x := A 54) rfl (List.Mem.head _) (s_getR X 54 rfl (c518_ok rfl) rfl rfl (z_load X (x := p) rfl (List.Mem.tail _ (List.Mem.tail _ (List.Mem.tail _ (List.Mem.tail _ (List.Mem.tail _ (List.Mem.tail _ (List.Mem.tail _ (List.Mem.head _)))))))) (zcV_i0 X E 25 (As := [.int (Int32.ofInt p)]) (st := []) rfl rfl rfl rfl (c3_hasCells_25 G I (by first | exact ⟨g2002, hi.2.2.2.2.2.1⟩ | omega)) rfl (Nat.le_of_ble_eq_true rfl) (fun s2007 e2008 Is2007 Fs2007 hrs2007 hps2007 => ?_))))
          have Gs2007 := fm_tq F Fs2007 rfl rfl
          have ws2007_12 : iI s2007 12 = iI t 12 := fm_iq Fs2007 rfl
          refine z_if_eq X (t := 134) rfl rfl hrs2007 (fun g2009 => ?_) (fun g2009 => ?_)
          ·
            refine z_inc X (x := p) (lv' := [(9, .int (Int32.ofInt (p + (-1)))), (0, .ref (A 54)), (1, .int (Int32.ofInt xv)), (2, .int (Int32.ofInt gp)), (3, .long lw), (5, .long hw), (7, .int (Int32.ofInt mm)), (8, .int (Int32.ofInt li))]) rfl (by decide) (List.Mem.tail _ (List.Mem.tail _ (List.Mem.tail _ (List.Mem.tail _ (List.Mem.tail _ (List.Mem.tail _ (List.Mem.tail _ (List.Mem.head _)))))))) (fun _ h => h) (z_goto X (t := 56) rfl rfl (WS_pq [1, 2, 3, 4, 5, 6, 7, 0] (lv' := [(0, .ref (A 54)), (1, .int (Int32.ofInt xv)), (2, .int (Int32.ofInt gp)), (3, .long lw), (5, .long hw), (7, .int (Int32.ofInt mm)), (8, .int (Int32.ofInt li)), (9, .int (Int32.ofInt (p + (-1))))]) rfl ?_))
            exact ih _ xv gp lw hw mm li (p + (-1)) Is2007 Gs2007 (by first | exact ⟨And.intro (hi.1.1) (hi.1.2), And.intro (hi.2.1.1) (hi.2.1.2), And.intro (hi.2.2.1.1) (oq_256ac20b hi.2.2.1.2), And.intro (hi.2.2.2.1.1) (hi.2.2.2.1.2), oq_285ed02d g2002, oq_40e69522 hi.2.2.2.2.2.1, oq_86ef0b17 ws2007_12 hi.2.2.2.2.2.2⟩ | omega) (by first | exact qk_me hm (by decide) (oq_7a276f11 g2002) | omega) kx
          ·
            refine w_lload_n X.1 (ax_d X (show cdA 45 91 = some (.lload_n 3, 1, 0, 0, 0) from rfl)) (x := lw) (List.Mem.tail _ (List.Mem.tail _ (List.Mem.tail _ (List.Mem.head _)))) (z_aload_n X (x := A 54) rfl (List.Mem.head _) (s_getR X 54 rfl (c518_ok rfl) rfl rfl (s_getR X 25 rfl (c518_ok rfl) rfl rfl (z_load X (x := p) rfl (List.Mem.tail _ (List.Mem.tail _ (List.Mem.tail _ (List.Mem.tail _ (List.Mem.tail _ (List.Mem.tail _ (List.Mem.tail _ (List.Mem.head _)))))))) (z_lald X 27 rfl (c518_ok rfl) rfl (by first | exact g2002 | omega) (show p < 8 by first | exact oq_aaea290e hi.2.2.2.2.2.1 | omega) (cbig_ok rfl) (fun j2010 => ?_))))))
            refine w_lor X.1 (ax_d X (show cdA 45 102 = some (.lor, 1, 0, 0, 0) from rfl)) (z_anyJ (fun j2011 => ?_))
            refine w_lstore_n X.1 (lv' := [(3, .long j2011), (0, .ref (A 54)), (1, .int (Int32.ofInt xv)), (2, .int (Int32.ofInt gp)), (5, .long hw), (7, .int (Int32.ofInt mm)), (8, .int (Int32.ofInt li)), (9, .int (Int32.ofInt p))]) (ax_d X (show cdA 45 103 = some (.lstore_n 3, 1, 0, 0, 0) from rfl)) (by rw [X.2.1.2.2]; decide) (fun _ h => h) (w_lload X.1 (ax_d X (show cdA 45 104 = some (.lload 5, 2, 0, 0, 0) from rfl)) (x := hw) (List.Mem.tail _ (List.Mem.tail _ (List.Mem.tail _ (List.Mem.tail _ (List.Mem.head _))))) (z_aload_n X (x := A 54) rfl (List.Mem.tail _ (List.Mem.head _)) (s_getR X 54 rfl (c518_ok rfl) rfl rfl (s_getR X 25 rfl (c518_ok rfl) rfl rfl (z_load X (x := p) rfl (List.Mem.tail _ (List.Mem.tail _ (List.Mem.tail _ (List.Mem.tail _ (List.Mem.tail _ (List.Mem.tail _ (List.Mem.tail _ (List.Mem.head _)))))))) (z_lald X 28 rfl (c518_ok rfl) rfl (by first | exact g2002 | omega) (show p < 8 by first | exact oq_aaea290e hi.2.2.2.2.2.1 | omega) (cbig_ok rfl) (fun j2012 => ?_)))))))
            refine w_lor X.1 (ax_d X (show cdA 45 116 = some (.lor, 1, 0, 0, 0) from rfl)) (z_anyJ (fun j2013 => ?_))
            refine w_lstore X.1 (lv' := [(5, .long j2013), (3, .long j2011), (0, .ref (A 54)), (1, .int (Int32.ofInt xv)), (2, .int (Int32.ofInt gp)), (7, .int (Int32.ofInt mm)), (8, .int (Int32.ofInt li)), (9, .int (Int32.ofInt p))]) (ax_d X (show cdA 45 117 = some (.lstore 5, 2, 0, 0, 0) from rfl)) (by rw [X.2.1.2.2]; decide) (fun _ h => h) (z_inc X (x := mm) (lv' := [(7, .int (Int32.ofInt (mm + 1))), (5, .long j2013), (3, .long j2011), (0, .ref (A 54)), (1, .int (Int32.ofInt xv)), (2, .int (Int32.ofInt gp)), (8, .int (Int32.ofInt li)), (9, .int (Int32.ofInt p))]) rfl (by decide) (List.Mem.tail _ (List.Mem.tail _ (List.Mem.tail _ (List.Mem.tail _ (List.Mem.tail _ (List.Mem.head _)))))) (fun _ h => h) (z_aload_n X (x := A 54) rfl (List.Mem.tail _ (List.Mem.tail _ (List.Mem.tail _ (List.Mem.head _)))) (s_getR X 54 rfl (c518_ok rfl) rfl rfl (s_getR X 25 rfl (c518_ok rfl) rfl rfl (z_load X (x := p) rfl (List.Mem.tail _ (List.Mem.tail _ (List.Mem.tail _ (List.Mem.tail _ (List.Mem.tail _ (List.Mem.tail _ (List.Mem.tail _ (List.Mem.head _)))))))) (z_ald X 29 rfl (c518_ok rfl) rfl (by first | exact g2002 | omega) (show p < 8 by first | exact oq_aaea290e hi.2.2.2.2.2.1 | omega) (cbig_ok rfl) ?_))))))
            have b2014 := bc_24 Is2007 (show (p).toNat < 8 by first | exact oq_c19a3aae hi.2.2.2.2.2.1 | omega)
            refine z_store X (lv' := [(8, .int (Int32.ofInt (iC s2007 24 (p).toNat))), (7, .int (Int32.ofInt (mm + 1))), (5, .long j2013), (3, .long j2011), (0, .ref (A 54)), (1, .int (Int32.ofInt xv)), (2, .int (Int32.ofInt gp)), (9, .int (Int32.ofInt p))]) rfl (by decide) (fun _ h => h) (z_inc X (x := p) (lv' := [(9, .int (Int32.ofInt (p + (-1)))), (8, .int (Int32.ofInt (iC s2007 24 (p).toNat))), (7, .int (Int32.ofInt (mm + 1))), (5, .long j2013), (3, .long j2011), (0, .ref (A 54)), (1, .int (Int32.ofInt xv)), (2, .int (Int32.ofInt gp))]) rfl (by decide) (List.Mem.tail _ (List.Mem.tail _ (List.Mem.tail _ (List.Mem.tail _ (List.Mem.tail _ (List.Mem.tail _ (List.Mem.tail _ (List.Mem.head _)))))))) (fun _ h => h) (z_goto X (t := 56) rfl rfl (WS_pq [5, 6, 7, 4, 3, 2, 1, 0] (lv' := [(0, .ref (A 54)), (1, .int (Int32.ofInt xv)), (2, .int (Int32.ofInt gp)), (3, .long j2011), (5, .long j2013), (7, .int (Int32.ofInt (mm + 1))), (8, .int (Int32.ofInt (iC s2007 24 (p).toNat))), (9, .int (Int32.ofInt (p + (-1))))]) rfl ?_)))
            exact ih _ xv gp j2011 j2013 (mm + 1) (iC s2007 24 (p).toNat) (p + (-1)) Is2007 Gs2007 (by first | exact ⟨And.intro (hi.1.1) (hi.1.2), And.intro (hi.2.1.1) (hi.2.1.2), And.intro (oq_54f49eb5 hi.2.2.1.1) (oq_dd3f4b9e hi.2.2.1.2), And.intro (oq_fa4e5087 b2014.1) (oq_a11a259b b2014.2), oq_285ed02d g2002, oq_40e69522 hi.2.2.2.2.2.1, oq_86ef0b17 ws2007_12 hi.2.2.2.2.2.2⟩ | omega) (by first | exact qk_me hm (by decide) (oq_7a276f11 g2002) | omega) kx
  have L35 : ∀ (n : Nat) (t : PS) (xv gp : Int), Bd t → Fm [22, 23, 24] [33, 26, 27, 28, 29, 30, 31, 32, 20, 48, 47] s t → ((0 ≤ xv ∧ xv ≤ 5) ∧ 0 ≤ gp ∧ gp ≤ 8 ∧ iI t 12 ≤ 8) → (8 - gp : Int).toNat < n → (∀ (t' : PS) (gp' : Int), Bd t' → Fm [22, 23, 24] [33, 26, 27, 28, 29, 30, 31, 32, 20, 48, 47] s t' → ((0 ≤ xv ∧ xv ≤ 5) ∧ 0 ≤ gp' ∧ gp' ≤ 8 ∧ iI t' 12 ≤ 8) → WS k 191 [(0, .ref (A 54)), (1, .int (Int32.ofInt xv)), (2, .int (Int32.ofInt gp'))] [] (Wd A dT t') 0 0) → WS k 35 [(0, .ref (A 54)), (1, .int (Int32.ofInt xv)), (2, .int (Int32.ofInt gp))] [] (Wd A dT t) 0 0 := by
    intro n
    induction n with
    | zero =>
      intro t xv gp I F hi hm kx
      exact absurd hm (Nat.not_lt_zero _)
    | succ n ih =>
      intro t xv gp I F hi hm kx
      have b3001 := bi_12 I
      refine z_load_n X (x := gp) rfl (List.Mem.tail _ (List.Mem.tail _ (List.Mem.head _))) (z_bipush X rfl (z_icmp_ge X (t := 191) rfl rfl ⟨by first | exact oq_fa4e5087 hi.2.1 | omega, by first | exact oq_d3f5d874 hi.2.2.1 | omega⟩ (by decide) (fun g3002 => ?_) (fun g3002 => ?_)))
      ·
        refine WS_pq [0, 1, 2] (lv' := [(0, .ref (A 54)), (1, .int (Int32.ofInt xv)), (2, .int (Int32.ofInt gp))]) rfl ?_
        exact kx _ gp I F (by first | exact ⟨And.intro (hi.1.1) (hi.1.2), hi.2.1, hi.2.2.1, hi.2.2.2⟩ | omega)
      ·
        refine w_lconst X.1 (ax_d X (show cdA 45 41 = some (.lconst 0, 1, 0, 0, 0) from rfl)) rfl (z_anyJ (fun j3003 => ?_))
        refine w_lstore_n X.1 (lv' := [(3, .long j3003), (0, .ref (A 54)), (1, .int (Int32.ofInt xv)), (2, .int (Int32.ofInt gp))]) (ax_d X (show cdA 45 42 = some (.lstore_n 3, 1, 0, 0, 0) from rfl)) (by rw [X.2.1.2.2]; decide) (fun _ h => h) (w_lconst X.1 (ax_d X (show cdA 45 43 = some (.lconst 0, 1, 0, 0, 0) from rfl)) rfl (z_anyJ (fun j3004 => ?_)))
        refine w_lstore X.1 (lv' := [(5, .long j3004), (3, .long j3003), (0, .ref (A 54)), (1, .int (Int32.ofInt xv)), (2, .int (Int32.ofInt gp))]) (ax_d X (show cdA 45 44 = some (.lstore 5, 2, 0, 0, 0) from rfl)) (by rw [X.2.1.2.2]; decide) (fun _ h => h) (z_const X rfl (z_store X (lv' := [(7, .int (Int32.ofInt 0)), (5, .long j3004), (3, .long j3003), (0, .ref (A 54)), (1, .int (Int32.ofInt xv)), (2, .int (Int32.ofInt gp))]) rfl (by decide) (fun _ h => h) (z_const X rfl (z_store X (lv' := [(8, .int (Int32.ofInt 0)), (7, .int (Int32.ofInt 0)), (5, .long j3004), (3, .long j3003), (0, .ref (A 54)), (1, .int (Int32.ofInt xv)), (2, .int (Int32.ofInt gp))]) rfl (by decide) (fun _ h => h) (z_bipush X rfl (z_store X (lv' := [(9, .int (Int32.ofInt 7)), (8, .int (Int32.ofInt 0)), (7, .int (Int32.ofInt 0)), (5, .long j3004), (3, .long j3003), (0, .ref (A 54)), (1, .int (Int32.ofInt xv)), (2, .int (Int32.ofInt gp))]) rfl (by decide) (fun _ h => h) (WS_pq [5, 6, 7, 4, 3, 2, 1, 0] (lv' := [(0, .ref (A 54)), (1, .int (Int32.ofInt xv)), (2, .int (Int32.ofInt gp)), (3, .long j3003), (5, .long j3004), (7, .int (Int32.ofInt 0)), (8, .int (Int32.ofInt 0)), (9, .int (Int32.ofInt 7))]) rfl (L56 ((7 + 1 : Int).toNat + 1) t xv gp j3003 j3004 0 0 7 I F (by first | exact ⟨And.intro (hi.1.1) (hi.1.2), And.intro (hi.2.1) (oq_78c639ed g3002), And.intro (by decide) (by decide), And.intro (by decide) (by decide), by decide, by decide, hi.2.2.2⟩ | omega) (Nat.lt_succ_self _) ?_))))))))
        intro s3005 x3006 x3007 x3008 x3009 x3010 Is3005 Fs3005 hs3005
        have b3011 := bi_12 Is3005
        refine z_load X (x := x3008) rfl (List.Mem.tail _ (List.Mem.tail _ (List.Mem.tail _ (List.Mem.tail _ (List.Mem.tail _ (List.Mem.head _)))))) (z_if_le X (t := 185) rfl rfl ⟨by first | exact oq_fa4e5087 hs3005.2.2.1.1 | omega, by first | exact oq_6d3b9c21 hs3005.2.2.1.2 hs3005.2.2.2.2.1 | omega⟩ (fun g3012 => ?_) (fun g3012 => ?_))
        ·
          refine z_inc X (x := gp) (lv' := [(2, .int (Int32.ofInt (gp + 1))), (0, .ref (A 54)), (1, .int (Int32.ofInt xv)), (3, .long x3006), (5, .long x3007), (7, .int (Int32.ofInt x3008)), (8, .int (Int32.ofInt x3009)), (9, .int (Int32.ofInt x3010))]) rfl (by decide) (List.Mem.tail _ (List.Mem.tail _ (List.Mem.head _))) (fun _ h => h) (z_goto X (t := 35) rfl rfl (WS_pq [1, 2, 0] (lv' := [(0, .ref (A 54)), (1, .int (Int32.ofInt xv)), (2, .int (Int32.ofInt (gp + 1)))]) rfl ?_))
          exact ih _ xv (gp + 1) Is3005 Fs3005 (by first | exact ⟨And.intro (hs3005.1.1) (hs3005.1.2), oq_54f49eb5 hs3005.2.1.1, oq_18969492 hs3005.2.1.2, hs3005.2.2.2.2.2.2⟩ | omega) (by first | exact qk_me hm (by decide) (oq_6bd25173 hs3005.2.1.2) | omega) kx
        ·
          refine z_aload_n X (x := A 54) rfl (List.Mem.head _) (s_getR X 54 rfl (c518_ok rfl) rfl rfl (z_load_n X (x := xv) rfl (List.Mem.tail _ (List.Mem.head _)) (w_dup2_11 X.1 (ax_d X (show cdA 45 150 = some (.dup2, 1, 0, 0, 0) from rfl)) rfl rfl (z_ald X 56 rfl (c518_ok rfl) rfl (by first | exact hs3005.1.1 | omega) (show xv < 6 by first | exact oq_9207f8f8 hs3005.1.2 | omega) (cbig_ok rfl) ?_))))
          have b3013 := bc_47 Is3005 (show (xv).toNat < 6 by first | exact oq_78f9cd89 hs3005.1.2 | omega)
          refine z_const X rfl (z_add X rfl (z_any (fun y3014 hy3014 => ?_)))
          refine z_ast X 56 rfl (c518_ok rfl) rfl (by first | exact hs3005.1.1 | omega) (show xv < 6 by first | exact oq_9207f8f8 hs3005.1.2 | omega) (cbig_ok rfl) (wd_gen (fun s3015 hs3015 => ?_))
          have Is3015 : Bd s3015 := eqB hs3015 (bd_C Is3005 (show ((-2147483648) : Int) ≤ y3014 ∧ y3014 ≤ 2147483647 by first | exact ⟨hy3014.1, hy3014.2⟩ | omega) hy3014)
          have Fs3015 := eqF hs3015 (fm_C Fs3005 (inl_ok (a := 47) rfl))
          have ws3015_12 : iI s3015 12 = iI s3005 12 := eqI hs3015 rfl
          refine z_aload_n X (x := A 54) rfl (List.Mem.head _) (s_getR X 54 rfl (c518_ok rfl) rfl rfl (w_lload_n X.1 (ax_d X (show cdA 45 159 = some (.lload_n 3, 1, 0, 0, 0) from rfl)) (x := x3006) (List.Mem.tail _ (List.Mem.tail _ (List.Mem.tail _ (List.Mem.head _)))) (w_lload X.1 (ax_d X (show cdA 45 160 = some (.lload 5, 2, 0, 0, 0) from rfl)) (x := x3007) (List.Mem.tail _ (List.Mem.tail _ (List.Mem.tail _ (List.Mem.tail _ (List.Mem.head _))))) (z_load X (x := x3008) rfl (List.Mem.tail _ (List.Mem.tail _ (List.Mem.tail _ (List.Mem.tail _ (List.Mem.tail _ (List.Mem.head _)))))) (zcV_v0 X E 31 (As := [.long x3006, .long x3007, .int (Int32.ofInt x3008)]) (st := []) rfl rfl rfl rfl (c0_listen_31 G Is3015 (by first | exact ⟨oq_97e58444 g3012, oq_6d3b9c21 hs3005.2.2.1.2 hs3005.2.2.2.2.1⟩ | omega)) rfl (Nat.le_of_ble_eq_true rfl) (fun s3016 Is3016 Fs3016 hps3016 => ?_))))))
          have Gs3016 := fm_tq Fs3015 Fs3016 rfl rfl
          have ws3016_12 : iI s3016 12 = iI s3015 12 := fm_iq Fs3016 rfl
          refine z_aload_n X (x := A 54) rfl (List.Mem.head _) (z_load_n X (x := xv) rfl (List.Mem.tail _ (List.Mem.head _)) (z_load X (x := x3009) rfl (List.Mem.tail _ (List.Mem.tail _ (List.Mem.tail _ (List.Mem.tail _ (List.Mem.tail _ (List.Mem.tail _ (List.Mem.head _))))))) (z_load X (x := x3008) rfl (List.Mem.tail _ (List.Mem.tail _ (List.Mem.tail _ (List.Mem.tail _ (List.Mem.tail _ (List.Mem.head _)))))) (z_const X rfl ?_))))
          have N3018 : ∀ e3019 : Int, (((x3008 ≤ 1) ∧ e3019 = 0) ∨ ((1 < x3008) ∧ e3019 = 1)) → WS k 182 [(0, .ref (A 54)), (1, .int (Int32.ofInt xv)), (2, .int (Int32.ofInt gp)), (3, .long x3006), (5, .long x3007), (7, .int (Int32.ofInt x3008)), (8, .int (Int32.ofInt x3009)), (9, .int (Int32.ofInt x3010))] [.int (Int32.ofInt e3019), .int (Int32.ofInt x3009), .int (Int32.ofInt xv), .ref (A 54)] (Wd A dT s3016) 0 0 := by
            intro e3019 he3019
            have re3019 : 0 ≤ e3019 ∧ e3019 ≤ 1 := by first | (clear he3019; omega) | omega
            refine zcV_v0 X E 54 (As := [.int (Int32.ofInt xv), .int (Int32.ofInt x3009), .int (Int32.ofInt e3019)]) (st := []) rfl rfl rfl rfl (c4_judgeGroup_54 G Is3016 (by first | exact ⟨hs3005.1.1, hs3005.1.2⟩ | omega) (by first | exact ⟨hs3005.2.2.2.1.1, hs3005.2.2.2.1.2⟩ | omega) (by first | exact oq_31e518ae re3019.2 re3019.1 | omega) (by first | exact oq_d7ce4408 ws3016_12 ws3015_12 hs3005.2.2.2.2.2.2 | omega)) rfl (Nat.le_of_ble_eq_true rfl) (fun s3020 Is3020 Fs3020 hps3020 => ?_)
            have Gs3020 := fm_tq Gs3016 Fs3020 rfl rfl
            have ws3020_12 : iI s3020 12 = iI s3016 12 := fm_iq Fs3020 rfl
            refine z_inc X (x := gp) (lv' := [(2, .int (Int32.ofInt (gp + 1))), (0, .ref (A 54)), (1, .int (Int32.ofInt xv)), (3, .long x3006), (5, .long x3007), (7, .int (Int32.ofInt x3008)), (8, .int (Int32.ofInt x3009)), (9, .int (Int32.ofInt x3010))]) rfl (by decide) (List.Mem.tail _ (List.Mem.tail _ (List.Mem.head _))) (fun _ h => h) (z_goto X (t := 35) rfl rfl (WS_pq [1, 2, 0] (lv' := [(0, .ref (A 54)), (1, .int (Int32.ofInt xv)), (2, .int (Int32.ofInt (gp + 1)))]) rfl ?_))
            exact ih _ xv (gp + 1) Is3020 Gs3020 (by first | exact ⟨And.intro (hs3005.1.1) (hs3005.1.2), oq_54f49eb5 hs3005.2.1.1, oq_18969492 hs3005.2.1.2, oq_e14d47df ws3020_12 ws3016_12 ws3015_12 hs3005.2.2.2.2.2.2⟩ | omega) (by first | exact qk_me hm (by decide) (oq_6bd25173 hs3005.2.1.2) | omega) kx
          refine z_icmp_le X (t := 181) rfl rfl ⟨by first | exact oq_97e58444 g3012 | omega, by first | exact oq_6d3b9c21 hs3005.2.2.1.2 hs3005.2.2.2.2.1 | omega⟩ (by decide) (fun g3022 => ?_) (fun g3022 => ?_)
          ·
            exact z_const X rfl (N3018 _ (Or.inl ⟨g3022, rfl⟩))
          ·
            exact z_const X rfl (z_goto X (t := 182) rfl rfl (N3018 _ (Or.inr (⟨g3022, rfl⟩))))
  refine z_aload_n X (x := A 54) rfl (List.Mem.head _) (s_getR X 54 rfl (c518_ok rfl) rfl rfl (z_load_n X (x := x) rfl (List.Mem.tail _ (List.Mem.head _)) (z_const X rfl (z_ast X 56 rfl (c518_ok rfl) rfl (by first | exact p0.1 | omega) (show x < 6 by first | exact oq_9207f8f8 p0.2 | omega) (cbig_ok rfl) (wd_gen (fun s2 hs2 => ?_))))))
  have Is2 : Bd s2 := eqB hs2 (bd_C I (show ((-2147483648) : Int) ≤ 0 ∧ 0 ≤ 2147483647 by first | exact ⟨by decide, by decide⟩ | omega) (by decide))
  have Fs2 := eqF hs2 (fm_C F (inl_ok (a := 47) rfl))
  have ws2_12 : iI s2 12 = iI s 12 := eqI hs2 rfl
  refine z_const X rfl (z_store_n X (lv' := [(2, .int (Int32.ofInt 0)), (0, .ref (A 54)), (1, .int (Int32.ofInt x))]) rfl (by decide) (fun _ h => h) (WS_pq [1, 2, 0] (lv' := [(0, .ref (A 54)), (1, .int (Int32.ofInt x)), (2, .int (Int32.ofInt 0))]) rfl (L9 ((24 - 0 : Int).toNat + 1) s2 x 0 Is2 Fs2 (by first | exact ⟨And.intro (p0.1) (p0.2), by decide, by decide, oq_86ef0b17 ws2_12 p1⟩ | omega) (Nat.lt_succ_self _) ?_)))
  intro s3 x4 Is3 Fs3 hs3
  have b5 := bi_12 Is3
  refine z_const X rfl (z_store_n X (lv' := [(2, .int (Int32.ofInt 0)), (0, .ref (A 54)), (1, .int (Int32.ofInt x))]) rfl (by decide) (fun _ h => h) (WS_pq [1, 2, 0] (lv' := [(0, .ref (A 54)), (1, .int (Int32.ofInt x)), (2, .int (Int32.ofInt 0))]) rfl (L35 ((8 - 0 : Int).toNat + 1) s3 x 0 Is3 Fs3 (by first | exact ⟨And.intro (hs3.1.1) (hs3.1.2), by decide, by decide, hs3.2.2.2⟩ | omega) (Nat.lt_succ_self _) ?_)))
  intro s6 x7 Is6 Fs6 hs6
  have b8 := bi_12 Is6
  exact w_vret X.1 q hRt (ax_d X (show cdA 45 191 = some (.return_, 1, 0, 0, 0) from rfl)) (Nat.zero_le _) (Nat.zero_le _) ⟨_, rfl, Is6, Fs6, rfl, trivial⟩
set_option maxRecDepth 4000 in
theorem c4_addLoads_54 (G : GX l s0 D tys a0 dT) (I : Bd s)  : CT l s0 D A dT 47 (rmN 47) [.ref (A 54)] s (fun o t => Bd t ∧ Fm [22, 23, 24] [33, 26, 27, 28, 29, 30, 31, 32, 20, 49] s t ∧ o = .inl none ∧ (True)) := by
  refine ct_ofX G (by decide) (Nat.le_of_ble_eq_true rfl) (fun k X E ET hRt hXt q => ?_)
  show WS k 0 [(0, .ref (A 54))] [] _ 0 0
  have F : Fm [22, 23, 24] [33, 26, 27, 28, 29, 30, 31, 32, 20, 49] s s := fm_rf _ _ s
  have L55 : ∀ (n : Nat) (t : PS) (p qq : Int), Bd t → Fm [22, 23, 24] [33, 26, 27, 28, 29, 30, 31, 32, 20, 49] s t → ((0 ≤ p ∧ p ≤ 7) ∧ 0 ≤ qq ∧ qq ≤ 24) → (24 - qq : Int).toNat < n → (∀ (t' : PS) (qq' : Int), Bd t' → Fm [22, 23, 24] [33, 26, 27, 28, 29, 30, 31, 32, 20, 49] s t' → ((0 ≤ p ∧ p ≤ 7) ∧ 0 ≤ qq' ∧ qq' ≤ 24) → WS k 113 [(0, .ref (A 54)), (1, .int (Int32.ofInt p)), (2, .int (Int32.ofInt qq'))] [] (Wd A dT t') 0 0) → WS k 55 [(0, .ref (A 54)), (1, .int (Int32.ofInt p)), (2, .int (Int32.ofInt qq))] [] (Wd A dT t) 0 0 := by
    intro n
    induction n with
    | zero =>
      intro t p qq I F hi hm kx
      exact absurd hm (Nat.not_lt_zero _)
    | succ n ih =>
      intro t p qq I F hi hm kx
      refine z_load_n X (x := qq) rfl (List.Mem.tail _ (List.Mem.tail _ (List.Mem.head _))) (z_bipush X rfl (z_icmp_ge X (t := 113) rfl rfl ⟨by first | exact oq_fa4e5087 hi.2.1 | omega, by first | exact oq_5bcd337f hi.2.2 | omega⟩ (by decide) (fun g1001 => ?_) (fun g1001 => ?_)))
      ·
        refine WS_pq [0, 1, 2] (lv' := [(0, .ref (A 54)), (1, .int (Int32.ofInt p)), (2, .int (Int32.ofInt qq))]) rfl ?_
        exact kx _ qq I F (by first | exact ⟨And.intro (hi.1.1) (hi.1.2), hi.2.1, hi.2.2⟩ | omega)
      ·
        refine z_aload_n X (x := A 54) rfl (List.Mem.head _) (s_getR X 54 rfl (c518_ok rfl) rfl rfl (s_getR X 3 rfl (c518_ok rfl) rfl rfl (z_load_n X (x := qq) rfl (List.Mem.tail _ (List.Mem.tail _ (List.Mem.head _))) (z_ald X 17 rfl (c518_ok rfl) rfl (by first | exact hi.2.1 | omega) (show qq < 24 by first | exact g1001 | omega) (cbig_ok rfl) ?_))))
        have b1002 := bc_14 I (show (qq).toNat < 24 by first | exact oq_797efae6 g1001 | omega)
        refine z_store_n X (lv' := [(3, .int (Int32.ofInt (iC t 14 (qq).toNat))), (0, .ref (A 54)), (1, .int (Int32.ofInt p)), (2, .int (Int32.ofInt qq))]) rfl (by decide) (fun _ h => h) (z_aload_n X (x := A 54) rfl (List.Mem.tail _ (List.Mem.head _)) (s_getR X 54 rfl (c518_ok rfl) rfl rfl (z_load_n X (x := qq) rfl (List.Mem.tail _ (List.Mem.tail _ (List.Mem.tail _ (List.Mem.head _)))) (z_load_n X (x := (iC t 14 (qq).toNat)) rfl (List.Mem.head _) (z_load_n X (x := qq) rfl (List.Mem.tail _ (List.Mem.tail _ (List.Mem.tail _ (List.Mem.head _)))) (z_icmp_ne X (t := 100) rfl rfl (rng_to _) ⟨by first | exact oq_fa4e5087 hi.2.1 | omega, by first | exact oq_1d70227b g1001 | omega⟩ (fun g1003 => ?_) (fun g1003 => ?_)))))))
        ·
          refine z_aload_n X (x := A 54) rfl (List.Mem.tail _ (List.Mem.head _)) (s_getR X 54 rfl (c518_ok rfl) rfl rfl (z_load_n X (x := (iC t 14 (qq).toNat)) rfl (List.Mem.head _) (z_ald X 58 rfl (c518_ok rfl) rfl (by first | exact b1002.1 | omega) (show (iC t 14 (qq).toNat) < 24 by first | exact oq_7fdb8aa6 b1002.2 | omega) (cbig_ok rfl) ?_)))
          have b1004 := bc_49 I (show ((iC t 14 (qq).toNat)).toNat < 24 by first | exact oq_138251d6 b1002.2 | omega)
          refine z_ast X 58 rfl (c518_ok rfl) rfl (by first | exact hi.2.1 | omega) (show qq < 24 by first | exact g1001 | omega) (cbig_ok rfl) (wd_gen (fun s1005 hs1005 => ?_))
          have Is1005 : Bd s1005 := eqB hs1005 (bd_C I (show ((-2147483648) : Int) ≤ (iC t 49 ((iC t 14 (qq).toNat)).toNat) ∧ (iC t 49 ((iC t 14 (qq).toNat)).toNat) ≤ 2147483647 by first | exact ⟨b1004.1, b1004.2⟩ | omega) (rng_to _))
          have Fs1005 := eqF hs1005 (fm_C F (inl_ok (a := 49) rfl))
          refine z_inc X (x := qq) (lv' := [(2, .int (Int32.ofInt (qq + 1))), (3, .int (Int32.ofInt (iC t 14 (qq).toNat))), (0, .ref (A 54)), (1, .int (Int32.ofInt p))]) rfl (by decide) (List.Mem.tail _ (List.Mem.tail _ (List.Mem.tail _ (List.Mem.head _)))) (fun _ h => h) (z_goto X (t := 55) rfl rfl (WS_pq [2, 3, 0] (lv' := [(0, .ref (A 54)), (1, .int (Int32.ofInt p)), (2, .int (Int32.ofInt (qq + 1)))]) rfl ?_))
          exact ih _ p (qq + 1) Is1005 Fs1005 (by first | exact ⟨And.intro (hi.1.1) (hi.1.2), oq_54f49eb5 hi.2.1, oq_cec7cb2e g1001⟩ | omega) (by first | exact qk_me hm (by decide) (oq_ffa8317e g1001) | omega) kx
        ·
          refine z_aload_n X (x := A 54) rfl (List.Mem.tail _ (List.Mem.head _)) (s_getR X 54 rfl (c518_ok rfl) rfl rfl (z_load_n X (x := qq) rfl (List.Mem.tail _ (List.Mem.tail _ (List.Mem.tail _ (List.Mem.head _)))) (z_ald X 58 rfl (c518_ok rfl) rfl (by first | exact hi.2.1 | omega) (show qq < 24 by first | exact g1001 | omega) (cbig_ok rfl) ?_)))
          have b1006 := bc_49 I (show (qq).toNat < 24 by first | exact oq_797efae6 g1001 | omega)
          refine z_aload_n X (x := A 54) rfl (List.Mem.tail _ (List.Mem.head _)) (s_getR X 54 rfl (c518_ok rfl) rfl rfl (z_load_n X (x := qq) rfl (List.Mem.tail _ (List.Mem.tail _ (List.Mem.tail _ (List.Mem.head _)))) (z_const X rfl (zcV_i0 X E 31 (As := [.int (Int32.ofInt qq), .int (Int32.ofInt (-1))]) (st := [.int (Int32.ofInt (iC t 49 (qq).toNat)), .int (Int32.ofInt qq), .ref (A 58)]) rfl rfl rfl rfl (c0_loadAt_31 G I (by first | exact ⟨hi.2.1, oq_c69fe266 g1001⟩ | omega) (by first | exact ⟨by decide, by decide⟩ | omega)) rfl (Nat.le_of_ble_eq_true rfl) (fun s1007 e1008 Is1007 Fs1007 hrs1007 hps1007 => ?_)))))
          have Gs1007 := fm_tq F Fs1007 rfl rfl
          refine z_add X rfl (z_any (fun y1009 hy1009 => ?_))
          refine z_goto X (t := 106) rfl rfl (z_ast X 58 rfl (c518_ok rfl) rfl (by first | exact hi.2.1 | omega) (show qq < 24 by first | exact g1001 | omega) (cbig_ok rfl) (wd_gen (fun s1010 hs1010 => ?_)))
          have Is1010 : Bd s1010 := eqB hs1010 (bd_C Is1007 (show ((-2147483648) : Int) ≤ y1009 ∧ y1009 ≤ 2147483647 by first | exact ⟨hy1009.1, hy1009.2⟩ | omega) hy1009)
          have Fs1010 := eqF hs1010 (fm_C Gs1007 (inl_ok (a := 49) rfl))
          refine z_inc X (x := qq) (lv' := [(2, .int (Int32.ofInt (qq + 1))), (3, .int (Int32.ofInt (iC t 14 (qq).toNat))), (0, .ref (A 54)), (1, .int (Int32.ofInt p))]) rfl (by decide) (List.Mem.tail _ (List.Mem.tail _ (List.Mem.tail _ (List.Mem.head _)))) (fun _ h => h) (z_goto X (t := 55) rfl rfl (WS_pq [2, 3, 0] (lv' := [(0, .ref (A 54)), (1, .int (Int32.ofInt p)), (2, .int (Int32.ofInt (qq + 1)))]) rfl ?_))
          exact ih _ p (qq + 1) Is1010 Fs1010 (by first | exact ⟨And.intro (hi.1.1) (hi.1.2), oq_54f49eb5 hi.2.1, oq_cec7cb2e g1001⟩ | omega) (by first | exact qk_me hm (by decide) (oq_ffa8317e g1001) | omega) kx
  have L10 : ∀ (n : Nat) (t : PS) (p : Int), Bd t → Fm [22, 23, 24] [33, 26, 27, 28, 29, 30, 31, 32, 20, 49] s t → (0 ≤ p ∧ p ≤ 8) → (8 - p : Int).toNat < n → (∀ (t' : PS) (p' : Int), Bd t' → Fm [22, 23, 24] [33, 26, 27, 28, 29, 30, 31, 32, 20, 49] s t' → (0 ≤ p' ∧ p' ≤ 8) → WS k 119 [(0, .ref (A 54)), (1, .int (Int32.ofInt p'))] [] (Wd A dT t') 0 0) → WS k 10 [(0, .ref (A 54)), (1, .int (Int32.ofInt p))] [] (Wd A dT t) 0 0 := by
    intro n
    induction n with
    | zero =>
      intro t p I F hi hm kx
      exact absurd hm (Nat.not_lt_zero _)
    | succ n ih =>
      intro t p I F hi hm kx
      refine z_load_n X (x := p) rfl (List.Mem.tail _ (List.Mem.head _)) (z_bipush X rfl (z_icmp_ge X (t := 119) rfl rfl ⟨by first | exact oq_fa4e5087 hi.1 | omega, by first | exact oq_d3f5d874 hi.2 | omega⟩ (by decide) (fun g2001 => ?_) (fun g2001 => ?_)))
      ·
        refine WS_pq [0, 1] (lv' := [(0, .ref (A 54)), (1, .int (Int32.ofInt p))]) rfl ?_
        exact kx _ p I F (by first | exact ⟨hi.1, hi.2⟩ | omega)
      ·
        refine z_aload_n X (x := A 54) rfl (List.Mem.head _) (s_getR X 54 rfl (c518_ok rfl) rfl rfl (z_load_n X (x := p) rfl (List.Mem.tail _ (List.Mem.head _)) (zcV_i0 X E 25 (As := [.int (Int32.ofInt p)]) (st := []) rfl rfl rfl rfl (c3_hasCells_25 G I (by first | exact ⟨hi.1, oq_78c639ed g2001⟩ | omega)) rfl (Nat.le_of_ble_eq_true rfl) (fun s2002 e2003 Is2002 Fs2002 hrs2002 hps2002 => ?_))))
        have Gs2002 := fm_tq F Fs2002 rfl rfl
        refine z_if_eq X (t := 113) rfl rfl hrs2002 (fun g2004 => ?_) (fun g2004 => ?_)
        ·
          refine z_inc X (x := p) (lv' := [(1, .int (Int32.ofInt (p + 1))), (0, .ref (A 54))]) rfl (by decide) (List.Mem.tail _ (List.Mem.head _)) (fun _ h => h) (z_goto X (t := 10) rfl rfl (WS_pq [1, 0] (lv' := [(0, .ref (A 54)), (1, .int (Int32.ofInt (p + 1)))]) rfl ?_))
          exact ih _ (p + 1) Is2002 Gs2002 (by first | exact ⟨oq_54f49eb5 hi.1, oq_0c7b19c3 g2001⟩ | omega) (by first | exact qk_me hm (by decide) (oq_9f368f35 g2001) | omega) kx
        ·
          refine z_aload_n X (x := A 54) rfl (List.Mem.head _) (s_getR X 54 rfl (c518_ok rfl) rfl rfl (z_aload_n X (x := A 54) rfl (List.Mem.head _) (s_getR X 54 rfl (c518_ok rfl) rfl rfl (s_getR X 25 rfl (c518_ok rfl) rfl rfl (z_load_n X (x := p) rfl (List.Mem.tail _ (List.Mem.head _)) (z_lald X 27 rfl (c518_ok rfl) rfl (by first | exact hi.1 | omega) (show p < 8 by first | exact g2001 | omega) (cbig_ok rfl) (fun j2005 => ?_)))))))
          refine z_aload_n X (x := A 54) rfl (List.Mem.head _) (s_getR X 54 rfl (c518_ok rfl) rfl rfl (s_getR X 25 rfl (c518_ok rfl) rfl rfl (z_load_n X (x := p) rfl (List.Mem.tail _ (List.Mem.head _)) (z_lald X 28 rfl (c518_ok rfl) rfl (by first | exact hi.1 | omega) (show p < 8 by first | exact g2001 | omega) (cbig_ok rfl) (fun j2006 => ?_)))))
          refine z_const X rfl (zcV_v0 X E 31 (As := [.long j2005, .long j2006, .int (Int32.ofInt 1)]) (st := []) rfl rfl rfl rfl (c0_listen_31 G Is2002 (by first | exact ⟨by decide, by decide⟩ | omega)) rfl (Nat.le_of_ble_eq_true rfl) (fun s2007 Is2007 Fs2007 hps2007 => ?_))
          have Gs2007 := fm_tq Gs2002 Fs2007 rfl rfl
          refine z_const X rfl (z_store_n X (lv' := [(2, .int (Int32.ofInt 0)), (0, .ref (A 54)), (1, .int (Int32.ofInt p))]) rfl (by decide) (fun _ h => h) (WS_pq [1, 2, 0] (lv' := [(0, .ref (A 54)), (1, .int (Int32.ofInt p)), (2, .int (Int32.ofInt 0))]) rfl (L55 ((24 - 0 : Int).toNat + 1) s2007 p 0 Is2007 Gs2007 (by first | exact ⟨And.intro (hi.1) (oq_78c639ed g2001), by decide, by decide⟩ | omega) (Nat.lt_succ_self _) ?_)))
          intro s2009 x2010 Is2009 Fs2009 hs2009
          refine z_inc X (x := p) (lv' := [(1, .int (Int32.ofInt (p + 1))), (0, .ref (A 54)), (2, .int (Int32.ofInt x2010))]) rfl (by decide) (List.Mem.tail _ (List.Mem.head _)) (fun _ h => h) (z_goto X (t := 10) rfl rfl (WS_pq [1, 0] (lv' := [(0, .ref (A 54)), (1, .int (Int32.ofInt (p + 1)))]) rfl ?_))
          exact ih _ (p + 1) Is2009 Fs2009 (by first | exact ⟨oq_54f49eb5 hs2009.1.1, oq_18969492 hs2009.1.2⟩ | omega) (by first | exact qk_me hm (by decide) (oq_6bd25173 hs2009.1.2) | omega) kx
  refine z_aload_n X (x := A 54) rfl (List.Mem.head _) (s_getR X 54 rfl (c518_ok rfl) rfl rfl (z_const X rfl (zcS_v0 X E (As := [.ref (A 58), .int (Int32.ofInt 0)]) (st := []) rfl rfl (j_fill_58 G I (by first | exact ⟨by decide, by decide⟩ | omega)) rfl (Nat.le_of_ble_eq_true rfl) (fun s1 Is1 Fs1 hps1 => ?_))))
  have Gs1 := fm_tq F Fs1 rfl rfl
  refine z_const X rfl (z_store_n X (lv' := [(1, .int (Int32.ofInt 0)), (0, .ref (A 54))]) rfl (by decide) (fun _ h => h) (WS_pq [1, 0] (lv' := [(0, .ref (A 54)), (1, .int (Int32.ofInt 0))]) rfl (L10 ((8 - 0 : Int).toNat + 1) s1 0 Is1 Gs1 (by first | exact ⟨by decide, by decide⟩ | omega) (Nat.lt_succ_self _) ?_)))
  intro s3 x4 Is3 Fs3 hs3
  exact w_vret X.1 q hRt (ax_d X (show cdA 47 119 = some (.return_, 1, 0, 0, 0) from rfl)) (Nat.zero_le _) (Nat.zero_le _) ⟨_, rfl, Is3, Fs3, rfl, trivial⟩
set_option maxRecDepth 4000 in
theorem c4_placeOf (G : GX l s0 D tys a0 dT) (I : Bd s) {x y z : Int} (p0 : 0 ≤ x ∧ x ≤ 23) (p1 : 0 ≤ y ∧ y ≤ 5) (p2 : 0 ≤ z ∧ z ≤ 23) : CT l s0 D A dT 49 (rmN 49) [.int (Int32.ofInt x), .int (Int32.ofInt y), .int (Int32.ofInt z)] s (fun o t => s = t ∧ ∃ e, o = .inl (some (.int (Int32.ofInt e))) ∧ rng e ∧ (e = (x * 6 + y) * 24 + z)) := by
  refine ct_ofX G (by decide) (Nat.le_of_ble_eq_true rfl) (fun k X E ET hRt hXt q => ?_)
  show WS k 0 [(0, .int (Int32.ofInt x)), (1, .int (Int32.ofInt y)), (2, .int (Int32.ofInt z))] [] _ 0 0
  have F : Fm [] [] s s := fm_rf _ _ s
  refine z_load_n X (x := x) rfl (List.Mem.head _) (z_bipush X rfl (z_mul X rfl (z_load_n X (x := y) rfl (List.Mem.tail _ (List.Mem.head _)) (z_add X rfl (z_bipush X rfl (z_mul X rfl (z_load_n X (x := z) rfl (List.Mem.tail _ (List.Mem.tail _ (List.Mem.head _))) (z_add X rfl ?_))))))))
  exact w_iret X.1 q hRt rfl (ax_d X (show cdA 49 11 = some (.ireturn, 1, 0, 0, 0) from rfl)) (Nat.zero_le _) (Nat.zero_le _) ⟨_, rfl, rfl, ((((x * 6) + y) * 24) + z), rfl, ⟨by first | exact oq_a8f61181 p0.1 p1.1 p2.1 | omega, by first | exact oq_9baaab2f p0.2 p1.2 p2.2 | omega⟩, by omega⟩
set_option maxRecDepth 4000 in
theorem c4_fewestBehind_54 (G : GX l s0 D tys a0 dT) (I : Bd s) {x y z : Int} (p0 : 0 ≤ x ∧ x ≤ 23) (p1 : 0 ≤ y ∧ y ≤ 5) (p2 : 0 ≤ z ∧ z ≤ 23) : CT l s0 D A dT 50 (rmN 50) [.ref (A 54), .int (Int32.ofInt x), .int (Int32.ofInt y), .int (Int32.ofInt z)] s (fun o t => Bd t ∧ Fm [] [] s t ∧ ∃ e, o = .inl (some (.int (Int32.ofInt e))) ∧ rng e ∧ (True)) := by
  refine ct_ofX G (by decide) (Nat.le_of_ble_eq_true rfl) (fun k X E ET hRt hXt q => ?_)
  show WS k 0 [(0, .ref (A 54)), (1, .int (Int32.ofInt x)), (2, .int (Int32.ofInt y)), (3, .int (Int32.ofInt z))] [] _ 0 0
  have F : Fm [] [] s s := fm_rf _ _ s
  have b1 := bi_32 I
  have L54 : ∀ (n : Nat) (t : PS) (xv yv zv le c : Int), Bd t → Fm [] [] s t → ((0 ≤ xv ∧ xv ≤ 22) ∧ (0 ≤ yv ∧ yv ≤ 5) ∧ (1 ≤ zv ∧ zv ≤ 23) ∧ rng le ∧ 0 ≤ c ∧ c ≤ 6) → (6 - c : Int).toNat < n → (∀ (t' : PS) (le' c' : Int), Bd t' → Fm [] [] s t' → (rng le') → WS k 98 [(0, .ref (A 54)), (1, .int (Int32.ofInt xv)), (2, .int (Int32.ofInt yv)), (3, .int (Int32.ofInt zv)), (4, .int (Int32.ofInt le')), (5, .int (Int32.ofInt c'))] [] (Wd A dT t') 0 0) → WS k 54 [(0, .ref (A 54)), (1, .int (Int32.ofInt xv)), (2, .int (Int32.ofInt yv)), (3, .int (Int32.ofInt zv)), (4, .int (Int32.ofInt le)), (5, .int (Int32.ofInt c))] [] (Wd A dT t) 0 0 := by
    intro n
    induction n with
    | zero =>
      intro t xv yv zv le c I F hi hm kx
      exact absurd hm (Nat.not_lt_zero _)
    | succ n ih =>
      intro t xv yv zv le c I F hi hm kx
      have b1001 := bi_32 I
      refine z_load X (x := c) rfl (List.Mem.tail _ (List.Mem.tail _ (List.Mem.tail _ (List.Mem.tail _ (List.Mem.tail _ (List.Mem.head _)))))) (z_aload_n X (x := A 54) rfl (List.Mem.head _) (z_getI X 54 rfl (c518_ok rfl) rfl rfl ?_))
      have b1002 := bi_32 I
      refine z_icmp_ge X (t := 98) rfl rfl ⟨by first | exact oq_fa4e5087 hi.2.2.2.2.1 | omega, by first | exact oq_b301c3bf hi.2.2.2.2.2 | omega⟩ (rng_to _) (fun g1003 => ?_) (fun g1003 => ?_)
      ·
        refine WS_pq [0, 1, 2, 3, 4, 5] (lv' := [(0, .ref (A 54)), (1, .int (Int32.ofInt xv)), (2, .int (Int32.ofInt yv)), (3, .int (Int32.ofInt zv)), (4, .int (Int32.ofInt le)), (5, .int (Int32.ofInt c))]) rfl ?_
        exact kx _ le c I F (by first | exact ⟨hi.2.2.2.1.1, hi.2.2.2.1.2⟩ | omega)
      ·
        refine z_load X (x := c) rfl (List.Mem.tail _ (List.Mem.tail _ (List.Mem.tail _ (List.Mem.tail _ (List.Mem.tail _ (List.Mem.head _)))))) (z_load_n X (x := yv) rfl (List.Mem.tail _ (List.Mem.tail _ (List.Mem.head _))) (z_icmp_eq X (t := 92) rfl rfl ⟨by first | exact oq_fa4e5087 hi.2.2.2.2.1 | omega, by first | exact oq_b301c3bf hi.2.2.2.2.2 | omega⟩ ⟨by first | exact oq_fa4e5087 hi.2.1.1 | omega, by first | exact oq_a3dd55e5 hi.2.1.2 | omega⟩ (fun g1004 => ?_) (fun g1004 => ?_)))
        ·
          refine z_inc X (x := c) (lv' := [(5, .int (Int32.ofInt (c + 1))), (0, .ref (A 54)), (1, .int (Int32.ofInt xv)), (2, .int (Int32.ofInt yv)), (3, .int (Int32.ofInt zv)), (4, .int (Int32.ofInt le))]) rfl (by decide) (List.Mem.tail _ (List.Mem.tail _ (List.Mem.tail _ (List.Mem.tail _ (List.Mem.tail _ (List.Mem.head _)))))) (fun _ h => h) (z_goto X (t := 54) rfl rfl (WS_pq [1, 2, 3, 4, 5, 0] (lv' := [(0, .ref (A 54)), (1, .int (Int32.ofInt xv)), (2, .int (Int32.ofInt yv)), (3, .int (Int32.ofInt zv)), (4, .int (Int32.ofInt le)), (5, .int (Int32.ofInt (c + 1)))]) rfl ?_))
          exact ih _ xv yv zv le (c + 1) I F (by first | exact ⟨And.intro (hi.1.1) (hi.1.2), And.intro (hi.2.1.1) (hi.2.1.2), And.intro (hi.2.2.1.1) (hi.2.2.1.2), And.intro (hi.2.2.2.1.1) (hi.2.2.2.1.2), oq_54f49eb5 hi.2.2.2.2.1, oq_8b7431d5 g1004 hi.2.1.2⟩ | omega) (by first | exact qk_me hm (by decide) (oq_ac916594 g1004 hi.2.1.2) | omega) kx
        ·
          refine z_load X (x := le) rfl (List.Mem.tail _ (List.Mem.tail _ (List.Mem.tail _ (List.Mem.tail _ (List.Mem.head _))))) (z_aload_n X (x := A 54) rfl (List.Mem.head _) (s_getR X 54 rfl (c518_ok rfl) rfl rfl (z_load_n X (x := xv) rfl (List.Mem.tail _ (List.Mem.head _)) (z_const X rfl (z_add X rfl (z_load X (x := c) rfl (List.Mem.tail _ (List.Mem.tail _ (List.Mem.tail _ (List.Mem.tail _ (List.Mem.tail _ (List.Mem.head _)))))) (z_load_n X (x := zv) rfl (List.Mem.tail _ (List.Mem.tail _ (List.Mem.tail _ (List.Mem.head _)))) (z_const X rfl (z_sub X rfl (z_callS X (rm := rmN 49) (As := [.int (Int32.ofInt (xv + 1)), .int (Int32.ofInt c), .int (Int32.ofInt (zv - 1))]) (st := [.ref (A 59), .int (Int32.ofInt le)]) rfl rfl (by rw [E.1, E.2.1, E.2.2.1]; exact c4_placeOf G I (by first | exact ⟨oq_54f49eb5 hi.1.1, oq_eb1958c2 hi.1.2⟩ | omega) (by first | exact ⟨hi.2.2.2.2.1, oq_4af6a0a9 g1003 b1002.2⟩ | omega) (by first | exact ⟨oq_02aa5459 hi.2.2.1.1, oq_ca4bf3cc hi.2.2.1.2⟩ | omega)) ⟨by rw [E.2.2.2]; exact (show (rmN 49).frames + 1 ≤ (rmN 50).frames by decide), by rw [E.2.2.2]; exact (show 8 + (mNL (miB 49) + 11) + (rmN 49).locals ≤ (rmN 50).locals by decide), by rw [E.2.2.2]; exact (show 0 + (rmN 49).cells ≤ (rmN 50).cells by decide), by rw [E.2.2.2]; exact (show 0 + (rmN 49).slots ≤ (rmN 50).slots by decide)⟩ (Nat.le_of_ble_eq_true rfl) (fun vv s1005 hq => ?_) (fun ee s1005 hq => ?_)))))))))))
          rotate_left
          · obtain ⟨rfl, e1006, hv, hrs1005, hps1005⟩ := hq; cases hv
          obtain ⟨rfl, e1006, hv, hrs1005, hps1005⟩ := hq
          cases hv
          show WS k 86 [(0, .ref (A 54)), (1, .int (Int32.ofInt xv)), (2, .int (Int32.ofInt yv)), (3, .int (Int32.ofInt zv)), (4, .int (Int32.ofInt le)), (5, .int (Int32.ofInt c))] [.int (Int32.ofInt e1006), .ref (A 59), .int (Int32.ofInt le)] (Wd A dT t) 0 0
          refine z_ald X 59 rfl (c518_ok rfl) rfl (by first | exact oq_db74133e hps1005 hi.1.1 hi.2.2.2.2.1 hi.2.2.1.1 | omega) (show e1006 < 3456 by first | exact oq_cb24e896 hps1005 hi.1.2 hi.2.2.1.2 g1003 b1002.2 | omega) (cbig_ok rfl) ?_
          have b1007 := bc_50 I (show (e1006).toNat < 3456 by first | exact oq_b0c4ef7a hps1005 hi.1.2 hi.2.2.1.2 g1003 b1002.2 | omega)
          refine z_min X rfl ⟨by first | exact hi.2.2.2.1.1 | omega, by first | exact hi.2.2.2.1.2 | omega⟩ (rng_to _) (by rw [E.2.2.2]; decide) (by rw [E.2.2.2]; exact Nat.le_of_ble_eq_true rfl) (Nat.zero_le _) (Nat.zero_le _) (fun e1008 he1008 => ?_)
          refine z_store X (lv' := [(4, .int (Int32.ofInt e1008)), (0, .ref (A 54)), (1, .int (Int32.ofInt xv)), (2, .int (Int32.ofInt yv)), (3, .int (Int32.ofInt zv)), (5, .int (Int32.ofInt c))]) rfl (by decide) (fun _ h => h) (z_inc X (x := c) (lv' := [(5, .int (Int32.ofInt (c + 1))), (4, .int (Int32.ofInt e1008)), (0, .ref (A 54)), (1, .int (Int32.ofInt xv)), (2, .int (Int32.ofInt yv)), (3, .int (Int32.ofInt zv))]) rfl (by decide) (List.Mem.tail _ (List.Mem.tail _ (List.Mem.tail _ (List.Mem.tail _ (List.Mem.tail _ (List.Mem.head _)))))) (fun _ h => h) (z_goto X (t := 54) rfl rfl (WS_pq [2, 3, 4, 5, 1, 0] (lv' := [(0, .ref (A 54)), (1, .int (Int32.ofInt xv)), (2, .int (Int32.ofInt yv)), (3, .int (Int32.ofInt zv)), (4, .int (Int32.ofInt e1008)), (5, .int (Int32.ofInt (c + 1)))]) rfl ?_)))
          exact ih _ xv yv zv e1008 (c + 1) I F (by first | exact ⟨And.intro (hi.1.1) (hi.1.2), And.intro (hi.2.1.1) (hi.2.1.2), And.intro (hi.2.2.1.1) (hi.2.2.1.2), oq_566e2836 he1008 b1007.1 hi.2.2.2.1.2 hi.2.2.2.1.1, oq_54f49eb5 hi.2.2.2.2.1, oq_d2f4feca g1003 b1002.2⟩ | omega) (by first | exact qk_me hm (by decide) (oq_4619bacb g1003 b1002.2) | omega) kx
  refine z_load_n X (x := x) rfl (List.Mem.tail _ (List.Mem.head _)) (z_bipush X rfl (z_icmp_ne X (t := 17) rfl rfl ⟨by first | exact oq_fa4e5087 p0.1 | omega, by first | exact oq_1a42ef34 p0.2 | omega⟩ (by decide) (fun g2 => ?_) (fun g2 => ?_)))
  ·
    refine z_aload_n X (x := A 54) rfl (List.Mem.head _) (s_getR X 54 rfl (c518_ok rfl) rfl rfl (z_load_n X (x := x) rfl (List.Mem.tail _ (List.Mem.head _)) (z_const X rfl (z_add X rfl (z_load_n X (x := y) rfl (List.Mem.tail _ (List.Mem.tail _ (List.Mem.head _))) (z_load_n X (x := z) rfl (List.Mem.tail _ (List.Mem.tail _ (List.Mem.tail _ (List.Mem.head _)))) (z_callS X (rm := rmN 49) (As := [.int (Int32.ofInt (x + 1)), .int (Int32.ofInt y), .int (Int32.ofInt z)]) (st := [.ref (A 59)]) rfl rfl (by rw [E.1, E.2.1, E.2.2.1]; exact c4_placeOf G I (by first | exact ⟨oq_54f49eb5 p0.1, oq_5885e3c8 g2 p0.2⟩ | omega) (by first | exact ⟨p1.1, p1.2⟩ | omega) (by first | exact ⟨p2.1, p2.2⟩ | omega)) ⟨by rw [E.2.2.2]; exact (show (rmN 49).frames + 1 ≤ (rmN 50).frames by decide), by rw [E.2.2.2]; exact (show 8 + (mNL (miB 49) + 11) + (rmN 49).locals ≤ (rmN 50).locals by decide), by rw [E.2.2.2]; exact (show 0 + (rmN 49).cells ≤ (rmN 50).cells by decide), by rw [E.2.2.2]; exact (show 0 + (rmN 49).slots ≤ (rmN 50).slots by decide)⟩ (Nat.le_of_ble_eq_true rfl) (fun vv s3 hq => ?_) (fun ee s3 hq => ?_))))))))
    rotate_left
    · obtain ⟨rfl, e4, hv, hrs3, hps3⟩ := hq; cases hv
    obtain ⟨rfl, e4, hv, hrs3, hps3⟩ := hq
    cases hv
    show WS k 29 [(0, .ref (A 54)), (1, .int (Int32.ofInt x)), (2, .int (Int32.ofInt y)), (3, .int (Int32.ofInt z))] [.int (Int32.ofInt e4), .ref (A 59)] (Wd A dT s) 0 0
    refine z_ald X 59 rfl (c518_ok rfl) rfl (by first | exact oq_6fe820e0 hps3 p0.1 p1.1 p2.1 | omega) (show e4 < 3456 by first | exact oq_caf24c68 hps3 g2 p2.2 p1.2 p0.2 | omega) (cbig_ok rfl) ?_
    have b5 := bc_50 I (show (e4).toNat < 3456 by first | exact oq_5229c5ae hps3 g2 p2.2 p1.2 p0.2 | omega)
    refine z_store X (lv' := [(4, .int (Int32.ofInt (iC s 50 (e4).toNat))), (0, .ref (A 54)), (1, .int (Int32.ofInt x)), (2, .int (Int32.ofInt y)), (3, .int (Int32.ofInt z))]) rfl (by decide) (fun _ h => h) (z_load_n X (x := z) rfl (List.Mem.tail _ (List.Mem.tail _ (List.Mem.tail _ (List.Mem.tail _ (List.Mem.head _))))) (z_if_le X (t := 98) rfl rfl ⟨by first | exact oq_fa4e5087 p2.1 | omega, by first | exact oq_1a42ef34 p2.2 | omega⟩ (fun g6 => ?_) (fun g6 => ?_)))
    ·
      exact z_load X (x := (iC s 50 (e4).toNat)) rfl (List.Mem.head _) (w_iret X.1 q hRt rfl (ax_d X (show cdA 50 100 = some (.ireturn, 1, 0, 0, 0) from rfl)) (Nat.zero_le _) (Nat.zero_le _) ⟨_, rfl, I, F, (iC s 50 (e4).toNat), rfl, (rng_to _), trivial⟩)
    ·
      refine z_aload_n X (x := A 54) rfl (List.Mem.tail _ (List.Mem.head _)) (s_getR X 54 rfl (c518_ok rfl) rfl rfl (z_load_n X (x := x) rfl (List.Mem.tail _ (List.Mem.tail _ (List.Mem.head _))) (z_const X rfl (z_add X rfl (z_ald X 58 rfl (c518_ok rfl) rfl (by first | exact oq_54f49eb5 p0.1 | omega) (show (x + 1) < 24 by first | exact oq_f7ee2828 g2 p0.2 | omega) (cbig_ok rfl) ?_)))))
      have b7 := bc_49 I (show ((x + 1)).toNat < 24 by first | exact oq_129091dc g2 p0.2 | omega)
      refine z_aload_n X (x := A 54) rfl (List.Mem.tail _ (List.Mem.head _)) (z_getI X 54 rfl (c518_ok rfl) rfl rfl ?_)
      have b8 := bi_33 I
      refine z_icmp_gt X (t := 98) rfl rfl (rng_to _) (rng_to _) (fun g9 => ?_) (fun g9 => ?_)
      ·
        exact z_load X (x := (iC s 50 (e4).toNat)) rfl (List.Mem.head _) (w_iret X.1 q hRt rfl (ax_d X (show cdA 50 100 = some (.ireturn, 1, 0, 0, 0) from rfl)) (Nat.zero_le _) (Nat.zero_le _) ⟨_, rfl, I, F, (iC s 50 (e4).toNat), rfl, (rng_to _), trivial⟩)
      ·
        refine z_const X rfl (z_store X (lv' := [(5, .int (Int32.ofInt 0)), (4, .int (Int32.ofInt (iC s 50 (e4).toNat))), (0, .ref (A 54)), (1, .int (Int32.ofInt x)), (2, .int (Int32.ofInt y)), (3, .int (Int32.ofInt z))]) rfl (by decide) (fun _ h => h) (WS_pq [2, 3, 4, 5, 1, 0] (lv' := [(0, .ref (A 54)), (1, .int (Int32.ofInt x)), (2, .int (Int32.ofInt y)), (3, .int (Int32.ofInt z)), (4, .int (Int32.ofInt (iC s 50 (e4).toNat))), (5, .int (Int32.ofInt 0))]) rfl (L54 ((6 - 0 : Int).toNat + 1) s x y z (iC s 50 (e4).toNat) 0 I F (by first | exact ⟨oq_f0f9908c g2 p0.2 p0.1, And.intro (p1.1) (p1.2), And.intro (oq_a1517f2e g6) (p2.2), And.intro (b5.1) (b5.2), by decide, by decide⟩ | omega) (Nat.lt_succ_self _) ?_)))
        intro s10 x11 x12 Is10 Fs10 hs10
        have b13 := bi_32 Is10
        refine z_load X (x := x11) rfl (List.Mem.tail _ (List.Mem.tail _ (List.Mem.tail _ (List.Mem.tail _ (List.Mem.head _))))) ?_
        exact w_iret X.1 q hRt rfl (ax_d X (show cdA 50 100 = some (.ireturn, 1, 0, 0, 0) from rfl)) (Nat.zero_le _) (Nat.zero_le _) ⟨_, rfl, Is10, Fs10, x11, rfl, ⟨by first | exact hs10.1 | omega, by first | exact hs10.2 | omega⟩, trivial⟩
  ·
    refine z_load_n X (x := z) rfl (List.Mem.tail _ (List.Mem.tail _ (List.Mem.tail _ (List.Mem.head _)))) (z_if_ne X (t := 14) rfl rfl ⟨by first | exact oq_fa4e5087 p2.1 | omega, by first | exact oq_1a42ef34 p2.2 | omega⟩ (fun g14 => ?_) (fun g14 => ?_))
    ·
      refine z_ldc X rfl ?_
      exact w_iret X.1 q hRt rfl (ax_d X (show cdA 50 16 = some (.ireturn, 1, 0, 0, 0) from rfl)) (Nat.zero_le _) (Nat.zero_le _) ⟨_, rfl, I, F, 1000000, rfl, (by decide), trivial⟩
    ·
      refine z_const X rfl (z_goto X (t := 16) rfl rfl ?_)
      exact w_iret X.1 q hRt rfl (ax_d X (show cdA 50 16 = some (.ireturn, 1, 0, 0, 0) from rfl)) (Nat.zero_le _) (Nat.zero_le _) ⟨_, rfl, I, F, 0, rfl, (by decide), trivial⟩
set_option maxRecDepth 4000 in
theorem c4_nextOf_54 (G : GX l s0 D tys a0 dT) (I : Bd s) {x y z : Int} (p0 : 1 ≤ x ∧ x ≤ 23) (p1 : 0 ≤ y ∧ y ≤ 23) (p2 : rng z) : CT l s0 D A dT 52 (rmN 52) [.ref (A 54), .int (Int32.ofInt x), .int (Int32.ofInt y), .int (Int32.ofInt z)] s (fun o t => Bd t ∧ Fm [] [] s t ∧ ∃ e, o = .inl (some (.int (Int32.ofInt e))) ∧ rng e ∧ ((0 ≤ e ∧ e ≤ 5) ∧ (e = iC s 51 (x - 1).toNat ∨ 1 ≤ y))) := by
  refine ct_ofX G (by decide) (Nat.le_of_ble_eq_true rfl) (fun k X E ET hRt hXt q => ?_)
  show WS k 0 [(0, .ref (A 54)), (1, .int (Int32.ofInt x)), (2, .int (Int32.ofInt y)), (3, .int (Int32.ofInt z))] [] _ 0 0
  have F : Fm [] [] s s := fm_rf _ _ s
  have b1 := bi_32 I
  have L13 : ∀ (n : Nat) (t : PS) (xv yv zv ah c : Int), Bd t → Fm [] [] s t → ((1 ≤ xv ∧ xv ≤ 23) ∧ (0 ≤ yv ∧ yv ≤ 23 ∧ yv = y) ∧ rng zv ∧ (0 ≤ ah ∧ ah ≤ 5 ∧ ah = iC s 51 (x - 1).toNat) ∧ 0 ≤ c ∧ c ≤ 6) → (6 - c : Int).toNat < n → (∀ (t' : PS) (c' : Int), Bd t' → Fm [] [] s t' → ((1 ≤ xv ∧ xv ≤ 23) ∧ (0 ≤ yv ∧ yv ≤ 23 ∧ yv = y) ∧ rng zv ∧ (0 ≤ ah ∧ ah ≤ 5 ∧ ah = iC s 51 (x - 1).toNat) ∧ 0 ≤ c' ∧ c' ≤ 6) → WS k 92 [(0, .ref (A 54)), (1, .int (Int32.ofInt xv)), (2, .int (Int32.ofInt yv)), (3, .int (Int32.ofInt zv)), (4, .int (Int32.ofInt ah)), (5, .int (Int32.ofInt c'))] [] (Wd A dT t') 0 0) → WS k 13 [(0, .ref (A 54)), (1, .int (Int32.ofInt xv)), (2, .int (Int32.ofInt yv)), (3, .int (Int32.ofInt zv)), (4, .int (Int32.ofInt ah)), (5, .int (Int32.ofInt c))] [] (Wd A dT t) 0 0 := by
    intro n
    induction n with
    | zero =>
      intro t xv yv zv ah c I F hi hm kx
      exact absurd hm (Nat.not_lt_zero _)
    | succ n ih =>
      intro t xv yv zv ah c I F hi hm kx
      have b1001 := bi_32 I
      refine z_load X (x := c) rfl (List.Mem.tail _ (List.Mem.tail _ (List.Mem.tail _ (List.Mem.tail _ (List.Mem.tail _ (List.Mem.head _)))))) (z_aload_n X (x := A 54) rfl (List.Mem.head _) (z_getI X 54 rfl (c518_ok rfl) rfl rfl ?_))
      have b1002 := bi_32 I
      refine z_icmp_ge X (t := 92) rfl rfl ⟨by first | exact oq_fa4e5087 hi.2.2.2.2.1 | omega, by first | exact oq_b301c3bf hi.2.2.2.2.2 | omega⟩ (rng_to _) (fun g1003 => ?_) (fun g1003 => ?_)
      ·
        refine WS_pq [0, 1, 2, 3, 4, 5] (lv' := [(0, .ref (A 54)), (1, .int (Int32.ofInt xv)), (2, .int (Int32.ofInt yv)), (3, .int (Int32.ofInt zv)), (4, .int (Int32.ofInt ah)), (5, .int (Int32.ofInt c))]) rfl ?_
        exact kx _ c I F (by first | exact ⟨And.intro (hi.1.1) (hi.1.2), And.intro (hi.2.1.1) (And.intro (hi.2.1.2.1) (hi.2.1.2.2)), And.intro (hi.2.2.1.1) (hi.2.2.1.2), And.intro (hi.2.2.2.1.1) (And.intro (hi.2.2.2.1.2.1) (hi.2.2.2.1.2.2)), hi.2.2.2.2.1, hi.2.2.2.2.2⟩ | omega)
      ·
        refine z_load X (x := c) rfl (List.Mem.tail _ (List.Mem.tail _ (List.Mem.tail _ (List.Mem.tail _ (List.Mem.tail _ (List.Mem.head _)))))) (z_load X (x := ah) rfl (List.Mem.tail _ (List.Mem.tail _ (List.Mem.tail _ (List.Mem.tail _ (List.Mem.head _))))) (z_icmp_ne X (t := 48) rfl rfl ⟨by first | exact oq_fa4e5087 hi.2.2.2.2.1 | omega, by first | exact oq_b301c3bf hi.2.2.2.2.2 | omega⟩ ⟨by first | exact oq_fa4e5087 hi.2.2.2.1.1 | omega, by first | exact oq_a3dd55e5 hi.2.2.2.1.2.1 | omega⟩ (fun g1004 => ?_) (fun g1004 => ?_)))
        ·
          refine z_load_n X (x := yv) rfl (List.Mem.tail _ (List.Mem.tail _ (List.Mem.head _))) (z_if_le X (t := 86) rfl rfl ⟨by first | exact oq_fa4e5087 hi.2.1.1 | omega, by first | exact oq_1a42ef34 hi.2.1.2.1 | omega⟩ (fun g1005 => ?_) (fun g1005 => ?_))
          ·
            refine z_inc X (x := c) (lv' := [(5, .int (Int32.ofInt (c + 1))), (0, .ref (A 54)), (1, .int (Int32.ofInt xv)), (2, .int (Int32.ofInt yv)), (3, .int (Int32.ofInt zv)), (4, .int (Int32.ofInt ah))]) rfl (by decide) (List.Mem.tail _ (List.Mem.tail _ (List.Mem.tail _ (List.Mem.tail _ (List.Mem.tail _ (List.Mem.head _)))))) (fun _ h => h) (z_goto X (t := 13) rfl rfl (WS_pq [1, 2, 3, 4, 5, 0] (lv' := [(0, .ref (A 54)), (1, .int (Int32.ofInt xv)), (2, .int (Int32.ofInt yv)), (3, .int (Int32.ofInt zv)), (4, .int (Int32.ofInt ah)), (5, .int (Int32.ofInt (c + 1)))]) rfl ?_))
            exact ih _ xv yv zv ah (c + 1) I F (by first | exact ⟨And.intro (hi.1.1) (hi.1.2), And.intro (hi.2.1.1) (And.intro (hi.2.1.2.1) (hi.2.1.2.2)), And.intro (hi.2.2.1.1) (hi.2.2.1.2), And.intro (hi.2.2.2.1.1) (And.intro (hi.2.2.2.1.2.1) (hi.2.2.2.1.2.2)), oq_54f49eb5 hi.2.2.2.2.1, oq_d2f4feca g1003 b1002.2⟩ | omega) (by first | exact qk_me hm (by decide) (oq_4619bacb g1003 b1002.2) | omega) kx
          ·
            refine z_aload_n X (x := A 54) rfl (List.Mem.head _) (s_getR X 54 rfl (c518_ok rfl) rfl rfl (z_load_n X (x := xv) rfl (List.Mem.tail _ (List.Mem.head _)) (z_ald X 58 rfl (c518_ok rfl) rfl (by first | exact oq_2a6e3b50 hi.1.1 | omega) (show xv < 24 by first | exact oq_7fdb8aa6 hi.1.2 | omega) (cbig_ok rfl) ?_)))
            have b1006 := bc_49 I (show (xv).toNat < 24 by first | exact oq_138251d6 hi.1.2 | omega)
            refine z_aload_n X (x := A 54) rfl (List.Mem.head _) (z_getI X 54 rfl (c518_ok rfl) rfl rfl ?_)
            have b1007 := bi_33 I
            refine z_icmp_gt X (t := 86) rfl rfl (rng_to _) (rng_to _) (fun g1008 => ?_) (fun g1008 => ?_)
            ·
              refine z_inc X (x := c) (lv' := [(5, .int (Int32.ofInt (c + 1))), (0, .ref (A 54)), (1, .int (Int32.ofInt xv)), (2, .int (Int32.ofInt yv)), (3, .int (Int32.ofInt zv)), (4, .int (Int32.ofInt ah))]) rfl (by decide) (List.Mem.tail _ (List.Mem.tail _ (List.Mem.tail _ (List.Mem.tail _ (List.Mem.tail _ (List.Mem.head _)))))) (fun _ h => h) (z_goto X (t := 13) rfl rfl (WS_pq [1, 2, 3, 4, 5, 0] (lv' := [(0, .ref (A 54)), (1, .int (Int32.ofInt xv)), (2, .int (Int32.ofInt yv)), (3, .int (Int32.ofInt zv)), (4, .int (Int32.ofInt ah)), (5, .int (Int32.ofInt (c + 1)))]) rfl ?_))
              exact ih _ xv yv zv ah (c + 1) I F (by first | exact ⟨And.intro (hi.1.1) (hi.1.2), And.intro (hi.2.1.1) (And.intro (hi.2.1.2.1) (hi.2.1.2.2)), And.intro (hi.2.2.1.1) (hi.2.2.1.2), And.intro (hi.2.2.2.1.1) (And.intro (hi.2.2.2.1.2.1) (hi.2.2.2.1.2.2)), oq_54f49eb5 hi.2.2.2.2.1, oq_d2f4feca g1003 b1002.2⟩ | omega) (by first | exact qk_me hm (by decide) (oq_4619bacb g1003 b1002.2) | omega) kx
            ·
              refine z_aload_n X (x := A 54) rfl (List.Mem.head _) (s_getR X 54 rfl (c518_ok rfl) rfl rfl (z_load_n X (x := xv) rfl (List.Mem.tail _ (List.Mem.head _)) (z_load X (x := c) rfl (List.Mem.tail _ (List.Mem.tail _ (List.Mem.tail _ (List.Mem.tail _ (List.Mem.tail _ (List.Mem.head _)))))) (z_load_n X (x := yv) rfl (List.Mem.tail _ (List.Mem.tail _ (List.Mem.head _))) (z_const X rfl (z_sub X rfl (z_callS X (rm := rmN 49) (As := [.int (Int32.ofInt xv), .int (Int32.ofInt c), .int (Int32.ofInt (yv - 1))]) (st := [.ref (A 59)]) rfl rfl (by rw [E.1, E.2.1, E.2.2.1]; exact c4_placeOf G I (by first | exact ⟨oq_2a6e3b50 hi.1.1, hi.1.2⟩ | omega) (by first | exact ⟨hi.2.2.2.2.1, oq_4af6a0a9 g1003 b1002.2⟩ | omega) (by first | exact ⟨oq_a4f22177 g1005, oq_ca4bf3cc hi.2.1.2.1⟩ | omega)) ⟨by rw [E.2.2.2]; exact (show (rmN 49).frames + 1 ≤ (rmN 52).frames by decide), by rw [E.2.2.2]; exact (show 8 + (mNL (miB 49) + 11) + (rmN 49).locals ≤ (rmN 52).locals by decide), by rw [E.2.2.2]; exact (show 0 + (rmN 49).cells ≤ (rmN 52).cells by decide), by rw [E.2.2.2]; exact (show 0 + (rmN 49).slots ≤ (rmN 52).slots by decide)⟩ (Nat.le_of_ble_eq_true rfl) (fun vv s1009 hq => ?_) (fun ee s1009 hq => ?_))))))))
              rotate_left
              · obtain ⟨rfl, e1010, hv, hrs1009, hps1009⟩ := hq; cases hv
              obtain ⟨rfl, e1010, hv, hrs1009, hps1009⟩ := hq
              cases hv
              show WS k 78 [(0, .ref (A 54)), (1, .int (Int32.ofInt xv)), (2, .int (Int32.ofInt yv)), (3, .int (Int32.ofInt zv)), (4, .int (Int32.ofInt ah)), (5, .int (Int32.ofInt c))] [.int (Int32.ofInt e1010), .ref (A 59)] (Wd A dT t) 0 0
              refine z_ald X 59 rfl (c518_ok rfl) rfl (by first | exact oq_c974ed27 hps1009 hi.1.1 hi.2.2.2.2.1 g1005 | omega) (show e1010 < 3456 by first | exact oq_1c844a3f hps1009 hi.1.2 g1003 b1002.2 hi.2.1.2.1 | omega) (cbig_ok rfl) ?_
              have b1011 := bc_50 I (show (e1010).toNat < 3456 by first | exact oq_b5cc632c hps1009 hi.1.2 g1003 b1002.2 hi.2.1.2.1 | omega)
              refine z_load_n X (x := zv) rfl (List.Mem.tail _ (List.Mem.tail _ (List.Mem.tail _ (List.Mem.head _)))) (z_icmp_ne X (t := 86) rfl rfl (rng_to _) ⟨by first | exact hi.2.2.1.1 | omega, by first | exact hi.2.2.1.2 | omega⟩ (fun g1012 => ?_) (fun g1012 => ?_))
              ·
                refine z_inc X (x := c) (lv' := [(5, .int (Int32.ofInt (c + 1))), (0, .ref (A 54)), (1, .int (Int32.ofInt xv)), (2, .int (Int32.ofInt yv)), (3, .int (Int32.ofInt zv)), (4, .int (Int32.ofInt ah))]) rfl (by decide) (List.Mem.tail _ (List.Mem.tail _ (List.Mem.tail _ (List.Mem.tail _ (List.Mem.tail _ (List.Mem.head _)))))) (fun _ h => h) (z_goto X (t := 13) rfl rfl (WS_pq [1, 2, 3, 4, 5, 0] (lv' := [(0, .ref (A 54)), (1, .int (Int32.ofInt xv)), (2, .int (Int32.ofInt yv)), (3, .int (Int32.ofInt zv)), (4, .int (Int32.ofInt ah)), (5, .int (Int32.ofInt (c + 1)))]) rfl ?_))
                exact ih _ xv yv zv ah (c + 1) I F (by first | exact ⟨And.intro (hi.1.1) (hi.1.2), And.intro (hi.2.1.1) (And.intro (hi.2.1.2.1) (hi.2.1.2.2)), And.intro (hi.2.2.1.1) (hi.2.2.1.2), And.intro (hi.2.2.2.1.1) (And.intro (hi.2.2.2.1.2.1) (hi.2.2.2.1.2.2)), oq_54f49eb5 hi.2.2.2.2.1, oq_d2f4feca g1003 b1002.2⟩ | omega) (by first | exact qk_me hm (by decide) (oq_4619bacb g1003 b1002.2) | omega) kx
              ·
                refine z_load X (x := c) rfl (List.Mem.tail _ (List.Mem.tail _ (List.Mem.tail _ (List.Mem.tail _ (List.Mem.tail _ (List.Mem.head _)))))) ?_
                exact w_iret X.1 q hRt rfl (ax_d X (show cdA 52 85 = some (.ireturn, 1, 0, 0, 0) from rfl)) (Nat.zero_le _) (Nat.zero_le _) ⟨_, rfl, I, F, c, rfl, ⟨by first | exact oq_fa4e5087 hi.2.2.2.2.1 | omega, by first | exact oq_b301c3bf hi.2.2.2.2.2 | omega⟩, by first | exact ⟨And.intro (hi.2.2.2.2.1) (oq_4af6a0a9 g1003 b1002.2), Or.inr (oq_1837768b hi.2.1.2.2 g1005)⟩ | omega⟩
        ·
          refine z_aload_n X (x := A 54) rfl (List.Mem.head _) (s_getR X 54 rfl (c518_ok rfl) rfl rfl (z_load_n X (x := xv) rfl (List.Mem.tail _ (List.Mem.head _)) (z_load X (x := c) rfl (List.Mem.tail _ (List.Mem.tail _ (List.Mem.tail _ (List.Mem.tail _ (List.Mem.tail _ (List.Mem.head _)))))) (z_load_n X (x := yv) rfl (List.Mem.tail _ (List.Mem.tail _ (List.Mem.head _))) (z_callS X (rm := rmN 49) (As := [.int (Int32.ofInt xv), .int (Int32.ofInt c), .int (Int32.ofInt yv)]) (st := [.ref (A 59)]) rfl rfl (by rw [E.1, E.2.1, E.2.2.1]; exact c4_placeOf G I (by first | exact ⟨oq_2a6e3b50 hi.1.1, hi.1.2⟩ | omega) (by first | exact ⟨hi.2.2.2.2.1, oq_e4712df0 g1004 hi.2.2.2.1.2.1⟩ | omega) (by first | exact ⟨hi.2.1.1, hi.2.1.2.1⟩ | omega)) ⟨by rw [E.2.2.2]; exact (show (rmN 49).frames + 1 ≤ (rmN 52).frames by decide), by rw [E.2.2.2]; exact (show 8 + (mNL (miB 49) + 11) + (rmN 49).locals ≤ (rmN 52).locals by decide), by rw [E.2.2.2]; exact (show 0 + (rmN 49).cells ≤ (rmN 52).cells by decide), by rw [E.2.2.2]; exact (show 0 + (rmN 49).slots ≤ (rmN 52).slots by decide)⟩ (Nat.le_of_ble_eq_true rfl) (fun vv s1013 hq => ?_) (fun ee s1013 hq => ?_))))))
          rotate_left
          · obtain ⟨rfl, e1014, hv, hrs1013, hps1013⟩ := hq; cases hv
          obtain ⟨rfl, e1014, hv, hrs1013, hps1013⟩ := hq
          cases hv
          show WS k 40 [(0, .ref (A 54)), (1, .int (Int32.ofInt xv)), (2, .int (Int32.ofInt yv)), (3, .int (Int32.ofInt zv)), (4, .int (Int32.ofInt ah)), (5, .int (Int32.ofInt c))] [.int (Int32.ofInt e1014), .ref (A 59)] (Wd A dT t) 0 0
          refine z_ald X 59 rfl (c518_ok rfl) rfl (by first | exact oq_532cec08 hps1013 hi.1.1 hi.2.2.2.2.1 hi.2.1.1 | omega) (show e1014 < 3456 by first | exact oq_8cfaa477 hps1013 hi.1.2 hi.2.1.2.1 g1004 hi.2.2.2.1.2.1 | omega) (cbig_ok rfl) ?_
          have b1015 := bc_50 I (show (e1014).toNat < 3456 by first | exact oq_170502e6 hps1013 hi.1.2 hi.2.1.2.1 g1004 hi.2.2.2.1.2.1 | omega)
          refine z_load_n X (x := zv) rfl (List.Mem.tail _ (List.Mem.tail _ (List.Mem.tail _ (List.Mem.head _)))) (z_icmp_ne X (t := 86) rfl rfl (rng_to _) ⟨by first | exact hi.2.2.1.1 | omega, by first | exact hi.2.2.1.2 | omega⟩ (fun g1016 => ?_) (fun g1016 => ?_))
          ·
            refine z_inc X (x := c) (lv' := [(5, .int (Int32.ofInt (c + 1))), (0, .ref (A 54)), (1, .int (Int32.ofInt xv)), (2, .int (Int32.ofInt yv)), (3, .int (Int32.ofInt zv)), (4, .int (Int32.ofInt ah))]) rfl (by decide) (List.Mem.tail _ (List.Mem.tail _ (List.Mem.tail _ (List.Mem.tail _ (List.Mem.tail _ (List.Mem.head _)))))) (fun _ h => h) (z_goto X (t := 13) rfl rfl (WS_pq [1, 2, 3, 4, 5, 0] (lv' := [(0, .ref (A 54)), (1, .int (Int32.ofInt xv)), (2, .int (Int32.ofInt yv)), (3, .int (Int32.ofInt zv)), (4, .int (Int32.ofInt ah)), (5, .int (Int32.ofInt (c + 1)))]) rfl ?_))
            exact ih _ xv yv zv ah (c + 1) I F (by first | exact ⟨And.intro (hi.1.1) (hi.1.2), And.intro (hi.2.1.1) (And.intro (hi.2.1.2.1) (hi.2.1.2.2)), And.intro (hi.2.2.1.1) (hi.2.2.1.2), And.intro (hi.2.2.2.1.1) (And.intro (hi.2.2.2.1.2.1) (hi.2.2.2.1.2.2)), oq_54f49eb5 hi.2.2.2.2.1, oq_8b7431d5 g1004 hi.2.2.2.1.2.1⟩ | omega) (by first | exact qk_me hm (by decide) (oq_ac916594 g1004 hi.2.2.2.1.2.1) | omega) kx
          ·
            refine z_load X (x := c) rfl (List.Mem.tail _ (List.Mem.tail _ (List.Mem.tail _ (List.Mem.tail _ (List.Mem.tail _ (List.Mem.head _)))))) ?_
            exact w_iret X.1 q hRt rfl (ax_d X (show cdA 52 47 = some (.ireturn, 1, 0, 0, 0) from rfl)) (Nat.zero_le _) (Nat.zero_le _) ⟨_, rfl, I, F, c, rfl, ⟨by first | exact oq_fa4e5087 hi.2.2.2.2.1 | omega, by first | exact oq_b301c3bf hi.2.2.2.2.2 | omega⟩, by first | exact ⟨And.intro (hi.2.2.2.2.1) (oq_e4712df0 g1004 hi.2.2.2.1.2.1), Or.inl (oq_27118732 hi.2.2.2.1.2.2 g1004)⟩ | omega⟩
  refine z_aload_n X (x := A 54) rfl (List.Mem.head _) (s_getR X 54 rfl (c518_ok rfl) rfl rfl (z_load_n X (x := x) rfl (List.Mem.tail _ (List.Mem.head _)) (z_const X rfl (z_sub X rfl (z_ald X 60 rfl (c518_ok rfl) rfl (by first | exact oq_02aa5459 p0.1 | omega) (show (x - 1) < 24 by first | exact oq_748293e5 p0.2 | omega) (cbig_ok rfl) ?_)))))
  have b2 := bc_51 I (show ((x - 1)).toNat < 24 by first | exact oq_15f19a7c p0.2 | omega)
  refine z_store X (lv' := [(4, .int (Int32.ofInt (iC s 51 ((x - 1)).toNat))), (0, .ref (A 54)), (1, .int (Int32.ofInt x)), (2, .int (Int32.ofInt y)), (3, .int (Int32.ofInt z))]) rfl (by decide) (fun _ h => h) (z_const X rfl (z_store X (lv' := [(5, .int (Int32.ofInt 0)), (4, .int (Int32.ofInt (iC s 51 ((x - 1)).toNat))), (0, .ref (A 54)), (1, .int (Int32.ofInt x)), (2, .int (Int32.ofInt y)), (3, .int (Int32.ofInt z))]) rfl (by decide) (fun _ h => h) (WS_pq [2, 3, 4, 5, 1, 0] (lv' := [(0, .ref (A 54)), (1, .int (Int32.ofInt x)), (2, .int (Int32.ofInt y)), (3, .int (Int32.ofInt z)), (4, .int (Int32.ofInt (iC s 51 ((x - 1)).toNat))), (5, .int (Int32.ofInt 0))]) rfl (L13 ((6 - 0 : Int).toNat + 1) s x y z (iC s 51 ((x - 1)).toNat) 0 I F (by first | exact ⟨And.intro (p0.1) (p0.2), And.intro (p1.1) (And.intro (p1.2) (by decide)), And.intro (p2.1) (p2.2), And.intro (b2.1) (And.intro (b2.2) (by decide)), by decide, by decide⟩ | omega) (Nat.lt_succ_self _) ?_))))
  intro s3 x4 Is3 Fs3 hs3
  have b5 := bi_32 Is3
  refine z_load X (x := (iC s 51 ((x - 1)).toNat)) rfl (List.Mem.tail _ (List.Mem.tail _ (List.Mem.tail _ (List.Mem.tail _ (List.Mem.head _))))) ?_
  exact w_iret X.1 q hRt rfl (ax_d X (show cdA 52 94 = some (.ireturn, 1, 0, 0, 0) from rfl)) (Nat.zero_le _) (Nat.zero_le _) ⟨_, rfl, Is3, Fs3, (iC s 51 ((x - 1)).toNat), rfl, (rng_to _), by first | exact ⟨And.intro (hs3.2.2.2.1.1) (hs3.2.2.2.1.2.1), Or.inl (by decide)⟩ | omega⟩
set_option maxRecDepth 4000 in
theorem c4_choose_54 (G : GX l s0 D tys a0 dT) (I : Bd s) {x : Int} (p0 : 0 ≤ x ∧ x ≤ 23) : CT l s0 D A dT 51 (rmN 51) [.ref (A 54), .int (Int32.ofInt x)] s (fun o t => Bd t ∧ Fm [34, 35] [51] s t ∧ ∃ e, o = .inl (some (.int (Int32.ofInt e))) ∧ rng e ∧ (e = 0 ∨ e = 1)) := by
  refine ct_ofX G (by decide) (Nat.le_of_ble_eq_true rfl) (fun k X E ET hRt hXt q => ?_)
  show WS k 0 [(0, .ref (A 54)), (1, .int (Int32.ofInt x))] [] _ 0 0
  have F : Fm [34, 35] [51] s s := fm_rf _ _ s
  have b1 := bi_32 I
  have b2 := bi_35 I
  have L27 : ∀ (n : Nat) (t : PS) (xv kk c : Int), Bd t → Fm [34, 35] [51] s t → ((0 ≤ xv ∧ xv ≤ 23) ∧ (0 ≤ kk ∧ kk ≤ xv) ∧ 0 ≤ c ∧ c ≤ 6) → (6 - c : Int).toNat < n → (∀ (t' : PS) (c' : Int), Bd t' → Fm [34, 35] [51] s t' → ((0 ≤ xv ∧ xv ≤ 23) ∧ (0 ≤ kk ∧ kk ≤ xv) ∧ 0 ≤ c' ∧ c' ≤ 6) → WS k 81 [(0, .ref (A 54)), (1, .int (Int32.ofInt xv)), (2, .int (Int32.ofInt kk)), (3, .int (Int32.ofInt c'))] [] (Wd A dT t') 0 0) → WS k 27 [(0, .ref (A 54)), (1, .int (Int32.ofInt xv)), (2, .int (Int32.ofInt kk)), (3, .int (Int32.ofInt c))] [] (Wd A dT t) 0 0 := by
    intro n
    induction n with
    | zero =>
      intro t xv kk c I F hi hm kx
      exact absurd hm (Nat.not_lt_zero _)
    | succ n ih =>
      intro t xv kk c I F hi hm kx
      have b1001 := bi_32 I
      have b1002 := bi_35 I
      refine z_load_n X (x := c) rfl (List.Mem.tail _ (List.Mem.tail _ (List.Mem.tail _ (List.Mem.head _)))) (z_aload_n X (x := A 54) rfl (List.Mem.head _) (z_getI X 54 rfl (c518_ok rfl) rfl rfl ?_))
      have b1003 := bi_32 I
      refine z_icmp_ge X (t := 81) rfl rfl ⟨by first | exact oq_fa4e5087 hi.2.2.1 | omega, by first | exact oq_b301c3bf hi.2.2.2 | omega⟩ (rng_to _) (fun g1004 => ?_) (fun g1004 => ?_)
      ·
        refine WS_pq [0, 1, 2, 3] (lv' := [(0, .ref (A 54)), (1, .int (Int32.ofInt xv)), (2, .int (Int32.ofInt kk)), (3, .int (Int32.ofInt c))]) rfl ?_
        exact kx _ c I F (by first | exact ⟨And.intro (hi.1.1) (hi.1.2), And.intro (hi.2.1.1) (hi.2.1.2), hi.2.2.1, hi.2.2.2⟩ | omega)
      ·
        refine z_aload_n X (x := A 54) rfl (List.Mem.head _) (s_getR X 54 rfl (c518_ok rfl) rfl rfl (z_const X rfl (z_load_n X (x := c) rfl (List.Mem.tail _ (List.Mem.tail _ (List.Mem.tail _ (List.Mem.head _)))) (z_load_n X (x := kk) rfl (List.Mem.tail _ (List.Mem.tail _ (List.Mem.head _))) (z_callS X (rm := rmN 49) (As := [.int (Int32.ofInt 0), .int (Int32.ofInt c), .int (Int32.ofInt kk)]) (st := [.ref (A 59)]) rfl rfl (by rw [E.1, E.2.1, E.2.2.1]; exact c4_placeOf G I (by first | exact ⟨by decide, by decide⟩ | omega) (by first | exact ⟨hi.2.2.1, oq_4af6a0a9 g1004 b1003.2⟩ | omega) (by first | exact ⟨hi.2.1.1, oq_943835ba hi.2.1.2 hi.1.2⟩ | omega)) ⟨by rw [E.2.2.2]; exact (show (rmN 49).frames + 1 ≤ (rmN 51).frames by decide), by rw [E.2.2.2]; exact (show 8 + (mNL (miB 49) + 11) + (rmN 49).locals ≤ (rmN 51).locals by decide), by rw [E.2.2.2]; exact (show 0 + (rmN 49).cells ≤ (rmN 51).cells by decide), by rw [E.2.2.2]; exact (show 0 + (rmN 49).slots ≤ (rmN 51).slots by decide)⟩ (Nat.le_of_ble_eq_true rfl) (fun vv s1005 hq => ?_) (fun ee s1005 hq => ?_))))))
        rotate_left
        · obtain ⟨rfl, e1006, hv, hrs1005, hps1005⟩ := hq; cases hv
        obtain ⟨rfl, e1006, hv, hrs1005, hps1005⟩ := hq
        cases hv
        show WS k 45 [(0, .ref (A 54)), (1, .int (Int32.ofInt xv)), (2, .int (Int32.ofInt kk)), (3, .int (Int32.ofInt c))] [.int (Int32.ofInt e1006), .ref (A 59)] (Wd A dT t) 0 0
        refine z_ald X 59 rfl (c518_ok rfl) rfl (by first | exact oq_73ace697 hps1005 hi.2.2.1 hi.2.1.1 | omega) (show e1006 < 3456 by first | exact oq_1f4e7f5e hps1005 hi.2.1.2 hi.1.2 hi.2.2.2 | omega) (cbig_ok rfl) ?_
        have b1007 := bc_50 I (show (e1006).toNat < 3456 by first | exact oq_c4b096a1 hps1005 hi.2.1.2 hi.1.2 hi.2.2.2 | omega)
        refine z_store X (lv' := [(4, .int (Int32.ofInt (iC t 50 (e1006).toNat))), (0, .ref (A 54)), (1, .int (Int32.ofInt xv)), (2, .int (Int32.ofInt kk)), (3, .int (Int32.ofInt c))]) rfl (by decide) (fun _ h => h) (z_load X (x := (iC t 50 (e1006).toNat)) rfl (List.Mem.head _) (z_aload_n X (x := A 54) rfl (List.Mem.tail _ (List.Mem.head _)) (z_getI X 54 rfl (c518_ok rfl) rfl rfl ?_)))
        have b1008 := bi_34 I
        refine z_icmp_ge X (t := 75) rfl rfl (rng_to _) (rng_to _) (fun g1009 => ?_) (fun g1009 => ?_)
        ·
          refine z_inc X (x := c) (lv' := [(3, .int (Int32.ofInt (c + 1))), (4, .int (Int32.ofInt (iC t 50 (e1006).toNat))), (0, .ref (A 54)), (1, .int (Int32.ofInt xv)), (2, .int (Int32.ofInt kk))]) rfl (by decide) (List.Mem.tail _ (List.Mem.tail _ (List.Mem.tail _ (List.Mem.tail _ (List.Mem.head _))))) (fun _ h => h) (z_goto X (t := 27) rfl rfl (WS_pq [2, 3, 4, 0] (lv' := [(0, .ref (A 54)), (1, .int (Int32.ofInt xv)), (2, .int (Int32.ofInt kk)), (3, .int (Int32.ofInt (c + 1)))]) rfl ?_))
          exact ih _ xv kk (c + 1) I F (by first | exact ⟨And.intro (hi.1.1) (hi.1.2), And.intro (hi.2.1.1) (hi.2.1.2), oq_54f49eb5 hi.2.2.1, oq_d2f4feca g1004 b1003.2⟩ | omega) (by first | exact qk_me hm (by decide) (oq_4619bacb g1004 b1003.2) | omega) kx
        ·
          refine z_aload_n X (x := A 54) rfl (List.Mem.tail _ (List.Mem.head _)) (z_load X (x := (iC t 50 (e1006).toNat)) rfl (List.Mem.head _) (s_putI X 54 rfl (c518_ok rfl) rfl rfl (by decide) rfl rfl rfl (wd_gen (fun s1010 hs1010 => ?_))))
          have Is1010 : Bd s1010 := eqB hs1010 (bd_I I (show ((-2147483648) : Int) ≤ (iC t 50 (e1006).toNat) ∧ (iC t 50 (e1006).toNat) ≤ 2147483647 by first | exact ⟨b1007.1, b1007.2⟩ | omega) (rng_to _))
          have Fs1010 := eqF hs1010 (fm_I F (inl_ok (a := 34) rfl))
          have vs1010 : iI s1010 34 = (iC t 50 (e1006).toNat) := eqI hs1010 (iI_u (rng_to _))
          have ws1010_32 : iI s1010 32 = iI t 32 := eqI hs1010 rfl
          have ws1010_35 : iI s1010 35 = iI t 35 := eqI hs1010 rfl
          refine z_aload_n X (x := A 54) rfl (List.Mem.tail _ (List.Mem.head _)) (z_load_n X (x := kk) rfl (List.Mem.tail _ (List.Mem.tail _ (List.Mem.tail _ (List.Mem.head _)))) (s_putI X 54 rfl (c518_ok rfl) rfl rfl (by decide) rfl rfl rfl (wd_gen (fun s1011 hs1011 => ?_))))
          have Is1011 : Bd s1011 := eqB hs1011 (bd_I Is1010 (show (0 : Int) ≤ kk ∧ kk ≤ 23 by first | exact ⟨hi.2.1.1, oq_943835ba hi.2.1.2 hi.1.2⟩ | omega) ⟨by first | exact oq_fa4e5087 hi.2.1.1 | omega, by first | exact oq_7c6846ed hi.2.1.2 hi.1.2 | omega⟩)
          have Fs1011 := eqF hs1011 (fm_I Fs1010 (inl_ok (a := 35) rfl))
          have vs1011 : iI s1011 35 = kk := eqI hs1011 (iI_u ⟨by first | exact oq_fa4e5087 hi.2.1.1 | omega, by first | exact oq_7c6846ed hi.2.1.2 hi.1.2 | omega⟩)
          have ws1011_32 : iI s1011 32 = iI s1010 32 := eqI hs1011 rfl
          refine z_aload_n X (x := A 54) rfl (List.Mem.tail _ (List.Mem.head _)) (s_getR X 54 rfl (c518_ok rfl) rfl rfl (z_const X rfl (z_load_n X (x := c) rfl (List.Mem.tail _ (List.Mem.tail _ (List.Mem.tail _ (List.Mem.tail _ (List.Mem.head _))))) (z_ast X 60 rfl (c518_ok rfl) rfl (by decide) (show 0 < 24 by decide) (cbig_ok rfl) (wd_gen (fun s1012 hs1012 => ?_))))))
          have Is1012 : Bd s1012 := eqB hs1012 (bd_C Is1011 (show (0 : Int) ≤ c ∧ c ≤ 5 by first | exact ⟨hi.2.2.1, oq_4af6a0a9 g1004 b1003.2⟩ | omega) ⟨by first | exact oq_fa4e5087 hi.2.2.1 | omega, by first | exact oq_b301c3bf hi.2.2.2 | omega⟩)
          have Fs1012 := eqF hs1012 (fm_C Fs1011 (inl_ok (a := 51) rfl))
          have ws1012_32 : iI s1012 32 = iI s1011 32 := eqI hs1012 rfl
          have ws1012_35 : iI s1012 35 = iI s1011 35 := eqI hs1012 rfl
          have vs1012 : iC s1012 51 (0 : Int).toNat = c := eqC hs1012 (iC_u ⟨by first | exact oq_fa4e5087 hi.2.2.1 | omega, by first | exact oq_b301c3bf hi.2.2.2 | omega⟩)
          refine z_inc X (x := c) (lv' := [(3, .int (Int32.ofInt (c + 1))), (4, .int (Int32.ofInt (iC t 50 (e1006).toNat))), (0, .ref (A 54)), (1, .int (Int32.ofInt xv)), (2, .int (Int32.ofInt kk))]) rfl (by decide) (List.Mem.tail _ (List.Mem.tail _ (List.Mem.tail _ (List.Mem.tail _ (List.Mem.head _))))) (fun _ h => h) (z_goto X (t := 27) rfl rfl (WS_pq [2, 3, 4, 0] (lv' := [(0, .ref (A 54)), (1, .int (Int32.ofInt xv)), (2, .int (Int32.ofInt kk)), (3, .int (Int32.ofInt (c + 1)))]) rfl ?_))
          exact ih _ xv kk (c + 1) Is1012 Fs1012 (by first | exact ⟨And.intro (hi.1.1) (hi.1.2), And.intro (hi.2.1.1) (hi.2.1.2), oq_54f49eb5 hi.2.2.1, oq_d2f4feca g1004 b1003.2⟩ | omega) (by first | exact qk_me hm (by decide) (oq_4619bacb g1004 b1003.2) | omega) kx
  have L20 : ∀ (n : Nat) (t : PS) (xv kk : Int), Bd t → Fm [34, 35] [51] s t → ((0 ≤ xv ∧ xv ≤ 23) ∧ 0 ≤ kk ∧ kk ≤ 24) → (24 - kk : Int).toNat < n → (∀ (t' : PS) (kk' : Int), Bd t' → Fm [34, 35] [51] s t' → ((0 ≤ xv ∧ xv ≤ 23) ∧ 0 ≤ kk' ∧ kk' ≤ 24) → WS k 87 [(0, .ref (A 54)), (1, .int (Int32.ofInt xv)), (2, .int (Int32.ofInt kk'))] [] (Wd A dT t') 0 0) → WS k 20 [(0, .ref (A 54)), (1, .int (Int32.ofInt xv)), (2, .int (Int32.ofInt kk))] [] (Wd A dT t) 0 0 := by
    intro n
    induction n with
    | zero =>
      intro t xv kk I F hi hm kx
      exact absurd hm (Nat.not_lt_zero _)
    | succ n ih =>
      intro t xv kk I F hi hm kx
      have b2001 := bi_32 I
      have b2002 := bi_35 I
      refine z_load_n X (x := kk) rfl (List.Mem.tail _ (List.Mem.tail _ (List.Mem.head _))) (z_load_n X (x := xv) rfl (List.Mem.tail _ (List.Mem.head _)) (z_icmp_gt X (t := 87) rfl rfl ⟨by first | exact oq_fa4e5087 hi.2.1 | omega, by first | exact oq_5bcd337f hi.2.2 | omega⟩ ⟨by first | exact oq_fa4e5087 hi.1.1 | omega, by first | exact oq_1a42ef34 hi.1.2 | omega⟩ (fun g2003 => ?_) (fun g2003 => ?_)))
      ·
        refine WS_pq [0, 1, 2] (lv' := [(0, .ref (A 54)), (1, .int (Int32.ofInt xv)), (2, .int (Int32.ofInt kk))]) rfl ?_
        exact kx _ kk I F (by first | exact ⟨And.intro (hi.1.1) (hi.1.2), hi.2.1, hi.2.2⟩ | omega)
      ·
        refine z_const X rfl (z_store_n X (lv' := [(3, .int (Int32.ofInt 0)), (0, .ref (A 54)), (1, .int (Int32.ofInt xv)), (2, .int (Int32.ofInt kk))]) rfl (by decide) (fun _ h => h) (WS_pq [1, 2, 3, 0] (lv' := [(0, .ref (A 54)), (1, .int (Int32.ofInt xv)), (2, .int (Int32.ofInt kk)), (3, .int (Int32.ofInt 0))]) rfl (L27 ((6 - 0 : Int).toNat + 1) t xv kk 0 I F (by first | exact ⟨And.intro (hi.1.1) (hi.1.2), And.intro (hi.2.1) (g2003), by decide, by decide⟩ | omega) (Nat.lt_succ_self _) ?_)))
        intro s2004 x2005 Is2004 Fs2004 hs2004
        have b2006 := bi_32 Is2004
        have b2007 := bi_35 Is2004
        refine z_inc X (x := kk) (lv' := [(2, .int (Int32.ofInt (kk + 1))), (0, .ref (A 54)), (1, .int (Int32.ofInt xv)), (3, .int (Int32.ofInt x2005))]) rfl (by decide) (List.Mem.tail _ (List.Mem.tail _ (List.Mem.head _))) (fun _ h => h) (z_goto X (t := 20) rfl rfl (WS_pq [1, 2, 0] (lv' := [(0, .ref (A 54)), (1, .int (Int32.ofInt xv)), (2, .int (Int32.ofInt (kk + 1)))]) rfl ?_))
        exact ih _ xv (kk + 1) Is2004 Fs2004 (by first | exact ⟨And.intro (hs2004.1.1) (hs2004.1.2), oq_54f49eb5 hs2004.2.1.1, oq_3f5436dc hs2004.2.1.2 hs2004.1.2⟩ | omega) (by first | exact qk_me hm (by decide) (oq_416f5e90 hs2004.2.1.2 hs2004.1.2) | omega) kx
  have L111 : ∀ (n : Nat) (t : PS) (kk lf qq : Int), Bd t → Fm [34, 35] [51] s t → ((0 ≤ kk ∧ kk ≤ 23) ∧ rng lf ∧ 1 ≤ qq ∧ qq ≤ 24) → (24 - qq : Int).toNat < n → (∀ (t' : PS) (kk' lf' qq' : Int), Bd t' → Fm [34, 35] [51] s t' → ((0 ≤ kk' ∧ kk' ≤ 23) ∧ rng lf' ∧ 1 ≤ qq' ∧ qq' ≤ 24) → WS k 178 [(0, .ref (A 54)), (2, .int (Int32.ofInt kk')), (3, .int (Int32.ofInt lf')), (4, .int (Int32.ofInt qq'))] [] (Wd A dT t') 0 0) → WS k 111 [(0, .ref (A 54)), (2, .int (Int32.ofInt kk)), (3, .int (Int32.ofInt lf)), (4, .int (Int32.ofInt qq))] [] (Wd A dT t) 0 0 := by
    intro n
    induction n with
    | zero =>
      intro t kk lf qq I F hi hm kx
      exact absurd hm (Nat.not_lt_zero _)
    | succ n ih =>
      intro t kk lf qq I F hi hm kx
      have b3001 := bi_32 I
      have b3002 := bi_35 I
      refine z_load X (x := qq) rfl (List.Mem.tail _ (List.Mem.tail _ (List.Mem.tail _ (List.Mem.head _)))) (z_bipush X rfl (z_icmp_ge X (t := 178) rfl rfl ⟨by first | exact oq_9462313e hi.2.2.1 | omega, by first | exact oq_5bcd337f hi.2.2.2 | omega⟩ (by decide) (fun g3003 => ?_) (fun g3003 => ?_)))
      ·
        refine WS_pq [0, 1, 2, 3] (lv' := [(0, .ref (A 54)), (2, .int (Int32.ofInt kk)), (3, .int (Int32.ofInt lf)), (4, .int (Int32.ofInt qq))]) rfl ?_
        exact kx _ kk lf qq I F (by first | exact ⟨And.intro (hi.1.1) (hi.1.2), And.intro (hi.2.1.1) (hi.2.1.2), hi.2.2.1, hi.2.2.2⟩ | omega)
      ·
        refine z_load_n X (x := lf) rfl (List.Mem.tail _ (List.Mem.tail _ (List.Mem.head _))) (z_aload_n X (x := A 54) rfl (List.Mem.head _) (s_getR X 54 rfl (c518_ok rfl) rfl rfl (z_aload_n X (x := A 54) rfl (List.Mem.head _) (s_getR X 54 rfl (c518_ok rfl) rfl rfl (z_load X (x := qq) rfl (List.Mem.tail _ (List.Mem.tail _ (List.Mem.tail _ (List.Mem.head _)))) (z_const X rfl (z_sub X rfl (z_ald X 60 rfl (c518_ok rfl) rfl (by first | exact oq_02aa5459 hi.2.2.1 | omega) (show (qq - 1) < 24 by first | exact oq_2c248f40 g3003 | omega) (cbig_ok rfl) ?_))))))))
        have b3004 := bc_51 I (show ((qq - 1)).toNat < 24 by first | exact oq_94a41655 g3003 | omega)
        refine z_ald X 56 rfl (c518_ok rfl) rfl (by first | exact b3004.1 | omega) (show (iC t 51 ((qq - 1)).toNat) < 6 by first | exact oq_9207f8f8 b3004.2 | omega) (cbig_ok rfl) ?_
        have b3005 := bc_47 I (show ((iC t 51 ((qq - 1)).toNat)).toNat < 6 by first | exact oq_78f9cd89 b3004.2 | omega)
        refine z_sub X rfl (z_any (fun y3006 hy3006 => ?_))
        refine z_store_n X (lv' := [(3, .int (Int32.ofInt y3006)), (0, .ref (A 54)), (2, .int (Int32.ofInt kk)), (4, .int (Int32.ofInt qq))]) rfl (by decide) (fun _ h => h) (z_aload_n X (x := A 54) rfl (List.Mem.tail _ (List.Mem.head _)) (s_getR X 54 rfl (c518_ok rfl) rfl rfl (z_load X (x := qq) rfl (List.Mem.tail _ (List.Mem.tail _ (List.Mem.tail _ (List.Mem.head _)))) (z_aload_n X (x := A 54) rfl (List.Mem.tail _ (List.Mem.head _)) (z_load X (x := qq) rfl (List.Mem.tail _ (List.Mem.tail _ (List.Mem.tail _ (List.Mem.head _)))) (z_load_n X (x := kk) rfl (List.Mem.tail _ (List.Mem.tail _ (List.Mem.head _))) (z_load_n X (x := y3006) rfl (List.Mem.head _) (zcV_i0 X E 54 (As := [.int (Int32.ofInt qq), .int (Int32.ofInt kk), .int (Int32.ofInt y3006)]) (st := [.int (Int32.ofInt qq), .ref (A 60)]) rfl rfl rfl rfl (c4_nextOf_54 G I (by first | exact ⟨hi.2.2.1, oq_c69fe266 g3003⟩ | omega) (by first | exact ⟨hi.1.1, hi.1.2⟩ | omega) (by first | exact ⟨hy3006.1, hy3006.2⟩ | omega)) rfl (Nat.le_of_ble_eq_true rfl) (fun s3007 e3008 Is3007 Fs3007 hrs3007 hps3007 => ?_)))))))))
        have hps3007p := hps3007.1
        have Gs3007 := fm_tq F Fs3007 rfl rfl
        have ws3007_32 : iI s3007 32 = iI t 32 := fm_iq Fs3007 rfl
        have ws3007_35 : iI s3007 35 = iI t 35 := fm_iq Fs3007 rfl
        have ca3009 : iC s3007 51 (qq - 1).toNat = iC t 51 (qq - 1).toNat := fm_c Fs3007 (by decide)
        refine z_ast X 60 rfl (c518_ok rfl) rfl (by first | exact oq_2a6e3b50 hi.2.2.1 | omega) (show qq < 24 by first | exact g3003 | omega) (cbig_ok rfl) (wd_gen (fun s3010 hs3010 => ?_))
        have Is3010 : Bd s3010 := eqB hs3010 (bd_C Is3007 (show (0 : Int) ≤ e3008 ∧ e3008 ≤ 5 by first | exact ⟨hps3007.1.1, hps3007.1.2⟩ | omega) hrs3007)
        have Fs3010 := eqF hs3010 (fm_C Gs3007 (inl_ok (a := 51) rfl))
        have ws3010_32 : iI s3010 32 = iI s3007 32 := eqI hs3010 rfl
        have ws3010_35 : iI s3010 35 = iI s3007 35 := eqI hs3010 rfl
        have vs3010 : iC s3010 51 (qq).toNat = e3008 := eqC hs3010 (iC_u hrs3007)
        have cb3011 : iC s3010 51 (qq - 1).toNat = iC s3007 51 (qq - 1).toNat := eqC hs3010 (iC_n (by first | (clear hps3007; omega) | omega))
        refine z_aload_n X (x := A 54) rfl (List.Mem.tail _ (List.Mem.head _)) (s_getR X 54 rfl (c518_ok rfl) rfl rfl (z_load X (x := qq) rfl (List.Mem.tail _ (List.Mem.tail _ (List.Mem.tail _ (List.Mem.head _)))) (z_ald X 60 rfl (c518_ok rfl) rfl (by first | exact oq_2a6e3b50 hi.2.2.1 | omega) (show qq < 24 by first | exact g3003 | omega) (cbig_ok rfl) ?_)))
        have b3012 := bc_51 Is3010 (show (qq).toNat < 24 by first | exact oq_797efae6 g3003 | omega)
        refine z_aload_n X (x := A 54) rfl (List.Mem.tail _ (List.Mem.head _)) (s_getR X 54 rfl (c518_ok rfl) rfl rfl (z_load X (x := qq) rfl (List.Mem.tail _ (List.Mem.tail _ (List.Mem.tail _ (List.Mem.head _)))) (z_const X rfl (z_sub X rfl (z_ald X 60 rfl (c518_ok rfl) rfl (by first | exact oq_02aa5459 hi.2.2.1 | omega) (show (qq - 1) < 24 by first | exact oq_2c248f40 g3003 | omega) (cbig_ok rfl) ?_)))))
        have b3013 := bc_51 Is3010 (show ((qq - 1)).toNat < 24 by first | exact oq_94a41655 g3003 | omega)
        refine z_icmp_eq X (t := 172) rfl rfl (rng_to _) (rng_to _) (fun g3014 => ?_) (fun g3014 => ?_)
        ·
          refine z_inc X (x := qq) (lv' := [(4, .int (Int32.ofInt (qq + 1))), (3, .int (Int32.ofInt y3006)), (0, .ref (A 54)), (2, .int (Int32.ofInt kk))]) rfl (by decide) (List.Mem.tail _ (List.Mem.tail _ (List.Mem.tail _ (List.Mem.head _)))) (fun _ h => h) (z_goto X (t := 111) rfl rfl (WS_pq [2, 3, 1, 0] (lv' := [(0, .ref (A 54)), (2, .int (Int32.ofInt kk)), (3, .int (Int32.ofInt y3006)), (4, .int (Int32.ofInt (qq + 1)))]) rfl ?_))
          exact ih _ kk y3006 (qq + 1) Is3010 Fs3010 (by first | exact ⟨And.intro (hi.1.1) (hi.1.2), And.intro (hy3006.1) (hy3006.2), oq_1e1a2df6 hi.2.2.1, oq_cec7cb2e g3003⟩ | omega) (by first | exact qk_me hm (by decide) (oq_ffa8317e g3003) | omega) kx
        ·
          refine z_inc X (x := kk) (lv' := [(2, .int (Int32.ofInt (kk + (-1)))), (3, .int (Int32.ofInt y3006)), (0, .ref (A 54)), (4, .int (Int32.ofInt qq))]) rfl (by decide) (List.Mem.tail _ (List.Mem.tail _ (List.Mem.head _))) (fun _ h => h) (z_inc X (x := qq) (lv' := [(4, .int (Int32.ofInt (qq + 1))), (2, .int (Int32.ofInt (kk + (-1)))), (3, .int (Int32.ofInt y3006)), (0, .ref (A 54))]) rfl (by decide) (List.Mem.tail _ (List.Mem.tail _ (List.Mem.tail _ (List.Mem.head _)))) (fun _ h => h) (z_goto X (t := 111) rfl rfl (WS_pq [3, 1, 2, 0] (lv' := [(0, .ref (A 54)), (2, .int (Int32.ofInt (kk + (-1)))), (3, .int (Int32.ofInt y3006)), (4, .int (Int32.ofInt (qq + 1)))]) rfl ?_)))
          exact ih _ (kk + (-1)) y3006 (qq + 1) Is3010 Fs3010 (by first | exact ⟨oq_7b5db82c g3014 cb3011 vs3010 ca3009 hps3007.2 hi.1.2, And.intro (hy3006.1) (hy3006.2), oq_1e1a2df6 hi.2.2.1, oq_cec7cb2e g3003⟩ | omega) (by first | exact qk_me hm (by decide) (oq_ffa8317e g3003) | omega) kx
  refine z_aload_n X (x := A 54) rfl (List.Mem.head _) (z_ldc X rfl (s_putI X 54 rfl (c518_ok rfl) rfl rfl (by decide) rfl rfl rfl (wd_gen (fun s3 hs3 => ?_))))
  have Is3 : Bd s3 := eqB hs3 (bd_I I (show ((-2147483648) : Int) ≤ 1000000 ∧ 1000000 ≤ 2147483647 by first | exact ⟨by decide, by decide⟩ | omega) (by decide))
  have Fs3 := eqF hs3 (fm_I F (inl_ok (a := 34) rfl))
  have vs3 : iI s3 34 = 1000000 := eqI hs3 (iI_u (by decide))
  have ws3_32 : iI s3 32 = iI s 32 := eqI hs3 rfl
  have ws3_35 : iI s3 35 = iI s 35 := eqI hs3 rfl
  refine z_aload_n X (x := A 54) rfl (List.Mem.head _) (z_const X rfl (s_putI X 54 rfl (c518_ok rfl) rfl rfl (by decide) rfl rfl rfl (wd_gen (fun s4 hs4 => ?_))))
  have Is4 : Bd s4 := eqB hs4 (bd_I Is3 (show (0 : Int) ≤ 0 ∧ 0 ≤ 23 by first | exact ⟨by decide, by decide⟩ | omega) (by decide))
  have Fs4 := eqF hs4 (fm_I Fs3 (inl_ok (a := 35) rfl))
  have vs4 : iI s4 35 = 0 := eqI hs4 (iI_u (by decide))
  have ws4_32 : iI s4 32 = iI s3 32 := eqI hs4 rfl
  refine z_aload_n X (x := A 54) rfl (List.Mem.head _) (s_getR X 54 rfl (c518_ok rfl) rfl rfl (z_const X rfl (z_const X rfl (z_ast X 60 rfl (c518_ok rfl) rfl (by decide) (show 0 < 24 by decide) (cbig_ok rfl) (wd_gen (fun s5 hs5 => ?_))))))
  have Is5 : Bd s5 := eqB hs5 (bd_C Is4 (show (0 : Int) ≤ 0 ∧ 0 ≤ 5 by first | exact ⟨by decide, by decide⟩ | omega) (by decide))
  have Fs5 := eqF hs5 (fm_C Fs4 (inl_ok (a := 51) rfl))
  have ws5_32 : iI s5 32 = iI s4 32 := eqI hs5 rfl
  have ws5_35 : iI s5 35 = iI s4 35 := eqI hs5 rfl
  have vs5 : iC s5 51 (0 : Int).toNat = 0 := eqC hs5 (iC_u (by decide))
  refine z_const X rfl (z_store_n X (lv' := [(2, .int (Int32.ofInt 0)), (0, .ref (A 54)), (1, .int (Int32.ofInt x))]) rfl (by decide) (fun _ h => h) (WS_pq [1, 2, 0] (lv' := [(0, .ref (A 54)), (1, .int (Int32.ofInt x)), (2, .int (Int32.ofInt 0))]) rfl (L20 ((24 - 0 : Int).toNat + 1) s5 x 0 Is5 Fs5 (by first | exact ⟨And.intro (p0.1) (p0.2), by decide, by decide⟩ | omega) (Nat.lt_succ_self _) ?_)))
  intro s6 x7 Is6 Fs6 hs6
  have b8 := bi_32 Is6
  have b9 := bi_35 Is6
  refine z_aload_n X (x := A 54) rfl (List.Mem.head _) (z_getI X 54 rfl (c518_ok rfl) rfl rfl ?_)
  have b10 := bi_34 Is6
  refine z_ldc X rfl (z_icmp_lt X (t := 98) rfl rfl (rng_to _) (by decide) (fun g11 => ?_) (fun g11 => ?_))
  ·
    refine z_aload_n X (x := A 54) rfl (List.Mem.head _) (z_getI X 54 rfl (c518_ok rfl) rfl rfl ?_)
    have b12 := bi_35 Is6
    refine z_store_n X (lv' := [(2, .int (Int32.ofInt (iI s6 35))), (0, .ref (A 54)), (1, .int (Int32.ofInt x))]) rfl (by decide) (fun _ h => h) (z_aload_n X (x := A 54) rfl (List.Mem.tail _ (List.Mem.head _)) (z_getI X 54 rfl (c518_ok rfl) rfl rfl ?_))
    have b13 := bi_34 Is6
    refine z_store_n X (lv' := [(3, .int (Int32.ofInt (iI s6 34))), (2, .int (Int32.ofInt (iI s6 35))), (0, .ref (A 54)), (1, .int (Int32.ofInt x))]) rfl (by decide) (fun _ h => h) (z_const X rfl (z_store X (lv' := [(4, .int (Int32.ofInt 1)), (3, .int (Int32.ofInt (iI s6 34))), (2, .int (Int32.ofInt (iI s6 35))), (0, .ref (A 54)), (1, .int (Int32.ofInt x))]) rfl (by decide) (fun _ h => h) (WS_pq [3, 2, 1, 0] (lv' := [(0, .ref (A 54)), (2, .int (Int32.ofInt (iI s6 35))), (3, .int (Int32.ofInt (iI s6 34))), (4, .int (Int32.ofInt 1))]) rfl (L111 ((24 - 1 : Int).toNat + 1) s6 (iI s6 35) (iI s6 34) 1 Is6 Fs6 (by first | exact ⟨And.intro (b12.1) (b12.2), And.intro (b13.1) (b13.2), by decide, by decide⟩ | omega) (Nat.lt_succ_self _) ?_))))
    intro s14 x15 x16 x17 Is14 Fs14 hs14
    have b18 := bi_32 Is14
    have b19 := bi_35 Is14
    refine z_const X rfl ?_
    exact w_iret X.1 q hRt (nar_ret (by first | exact Or.inr (by decide) | omega)) (ax_d X (show cdA 51 179 = some (.ireturn, 1, 0, 0, 0) from rfl)) (Nat.zero_le _) (Nat.zero_le _) ⟨_, rfl, Is14, Fs14, 1, rfl, (by decide), by first | exact Or.inr (by decide) | omega⟩
  ·
    refine z_const X rfl ?_
    exact w_iret X.1 q hRt (nar_ret (by first | exact Or.inl (by decide) | omega)) (ax_d X (show cdA 51 97 = some (.ireturn, 1, 0, 0, 0) from rfl)) (Nat.zero_le _) (Nat.zero_le _) ⟨_, rfl, Is6, Fs6, 0, rfl, (by decide), by first | exact Or.inl (by decide) | omega⟩
set_option maxRecDepth 4000 in
theorem c4_solve_54 (G : GX l s0 D tys a0 dT) (I : Bd s) {x : Int} (p0 : 0 ≤ x ∧ x ≤ 23) (p1 : iI s 12 ≤ 8) : CT l s0 D A dT 48 (rmN 48) [.ref (A 54), .int (Int32.ofInt x)] s (fun o t => Bd t ∧ Fm [22, 23, 24, 34, 35] [33, 26, 27, 28, 29, 30, 31, 32, 20, 48, 47, 49, 50, 51] s t ∧ ∃ e, o = .inl (some (.int (Int32.ofInt e))) ∧ rng e ∧ (e = 0 ∨ e = 1)) := by
  refine ct_ofX G (by decide) (Nat.le_of_ble_eq_true rfl) (fun k X E ET hRt hXt q => ?_)
  show WS k 0 [(0, .ref (A 54)), (1, .int (Int32.ofInt x))] [] _ 0 0
  have F : Fm [22, 23, 24, 34, 35] [33, 26, 27, 28, 29, 30, 31, 32, 20, 48, 47, 49, 50, 51] s s := fm_rf _ _ s
  have b1 := bi_32 I
  have b2 := bi_12 I
  have L2 : ∀ (n : Nat) (t : PS) (xv c : Int), Bd t → Fm [22, 23, 24, 34, 35] [33, 26, 27, 28, 29, 30, 31, 32, 20, 48, 47, 49, 50, 51] s t → ((0 ≤ xv ∧ xv ≤ 23) ∧ 0 ≤ c ∧ c ≤ 6 ∧ iI t 12 ≤ 8) → (6 - c : Int).toNat < n → (∀ (t' : PS) (c' : Int), Bd t' → Fm [22, 23, 24, 34, 35] [33, 26, 27, 28, 29, 30, 31, 32, 20, 48, 47, 49, 50, 51] s t' → ((0 ≤ xv ∧ xv ≤ 23) ∧ 0 ≤ c' ∧ c' ≤ 6 ∧ iI t' 12 ≤ 8) → WS k 21 [(0, .ref (A 54)), (1, .int (Int32.ofInt xv)), (2, .int (Int32.ofInt c'))] [] (Wd A dT t') 0 0) → WS k 2 [(0, .ref (A 54)), (1, .int (Int32.ofInt xv)), (2, .int (Int32.ofInt c))] [] (Wd A dT t) 0 0 := by
    intro n
    induction n with
    | zero =>
      intro t xv c I F hi hm kx
      exact absurd hm (Nat.not_lt_zero _)
    | succ n ih =>
      intro t xv c I F hi hm kx
      have b1001 := bi_32 I
      have b1002 := bi_12 I
      refine z_load_n X (x := c) rfl (List.Mem.tail _ (List.Mem.tail _ (List.Mem.head _))) (z_aload_n X (x := A 54) rfl (List.Mem.head _) (z_getI X 54 rfl (c518_ok rfl) rfl rfl ?_))
      have b1003 := bi_32 I
      refine z_icmp_ge X (t := 21) rfl rfl ⟨by first | exact oq_fa4e5087 hi.2.1 | omega, by first | exact oq_b301c3bf hi.2.2.1 | omega⟩ (rng_to _) (fun g1004 => ?_) (fun g1004 => ?_)
      ·
        refine WS_pq [0, 1, 2] (lv' := [(0, .ref (A 54)), (1, .int (Int32.ofInt xv)), (2, .int (Int32.ofInt c))]) rfl ?_
        exact kx _ c I F (by first | exact ⟨And.intro (hi.1.1) (hi.1.2), hi.2.1, hi.2.2.1, hi.2.2.2⟩ | omega)
      ·
        refine z_aload_n X (x := A 54) rfl (List.Mem.head _) (z_load_n X (x := c) rfl (List.Mem.tail _ (List.Mem.tail _ (List.Mem.head _))) (zcV_v0 X E 54 (As := [.int (Int32.ofInt c)]) (st := []) rfl rfl rfl rfl (c4_judge_54 G I (by first | exact ⟨hi.2.1, oq_4af6a0a9 g1004 b1003.2⟩ | omega) (by first | exact hi.2.2.2 | omega)) rfl (Nat.le_of_ble_eq_true rfl) (fun s1005 Is1005 Fs1005 hps1005 => ?_)))
        have Gs1005 := fm_tq F Fs1005 rfl rfl
        have ws1005_32 : iI s1005 32 = iI t 32 := fm_iq Fs1005 rfl
        have ws1005_12 : iI s1005 12 = iI t 12 := fm_iq Fs1005 rfl
        refine z_inc X (x := c) (lv' := [(2, .int (Int32.ofInt (c + 1))), (0, .ref (A 54)), (1, .int (Int32.ofInt xv))]) rfl (by decide) (List.Mem.tail _ (List.Mem.tail _ (List.Mem.head _))) (fun _ h => h) (z_goto X (t := 2) rfl rfl (WS_pq [1, 2, 0] (lv' := [(0, .ref (A 54)), (1, .int (Int32.ofInt xv)), (2, .int (Int32.ofInt (c + 1)))]) rfl ?_))
        exact ih _ xv (c + 1) Is1005 Gs1005 (by first | exact ⟨And.intro (hi.1.1) (hi.1.2), oq_54f49eb5 hi.2.1, oq_d2f4feca g1004 b1003.2, oq_86ef0b17 ws1005_12 hi.2.2.2⟩ | omega) (by first | exact qk_me hm (by decide) (oq_4619bacb g1004 b1003.2) | omega) kx
  have L45 : ∀ (n : Nat) (t : PS) (xv qq c kk : Int), Bd t → Fm [22, 23, 24, 34, 35] [33, 26, 27, 28, 29, 30, 31, 32, 20, 48, 47, 49, 50, 51] s t → ((0 ≤ xv ∧ xv ≤ 23) ∧ (0 ≤ qq ∧ qq ≤ 23) ∧ (0 ≤ c ∧ c ≤ 5) ∧ 0 ≤ kk ∧ kk ≤ 24) → (24 - kk : Int).toNat < n → (∀ (t' : PS) (kk' : Int), Bd t' → Fm [22, 23, 24, 34, 35] [33, 26, 27, 28, 29, 30, 31, 32, 20, 48, 47, 49, 50, 51] s t' → ((0 ≤ xv ∧ xv ≤ 23) ∧ (0 ≤ qq ∧ qq ≤ 23) ∧ (0 ≤ c ∧ c ≤ 5) ∧ 0 ≤ kk' ∧ kk' ≤ 24) → WS k 119 [(0, .ref (A 54)), (1, .int (Int32.ofInt xv)), (2, .int (Int32.ofInt qq)), (3, .int (Int32.ofInt c)), (4, .int (Int32.ofInt kk'))] [] (Wd A dT t') 0 0) → WS k 45 [(0, .ref (A 54)), (1, .int (Int32.ofInt xv)), (2, .int (Int32.ofInt qq)), (3, .int (Int32.ofInt c)), (4, .int (Int32.ofInt kk))] [] (Wd A dT t) 0 0 := by
    intro n
    induction n with
    | zero =>
      intro t xv qq c kk I F hi hm kx
      exact absurd hm (Nat.not_lt_zero _)
    | succ n ih =>
      intro t xv qq c kk I F hi hm kx
      have b2001 := bi_32 I
      have b2002 := bi_12 I
      refine z_load X (x := kk) rfl (List.Mem.tail _ (List.Mem.tail _ (List.Mem.tail _ (List.Mem.tail _ (List.Mem.head _))))) (z_load_n X (x := xv) rfl (List.Mem.tail _ (List.Mem.head _)) (z_icmp_gt X (t := 119) rfl rfl ⟨by first | exact oq_fa4e5087 hi.2.2.2.1 | omega, by first | exact oq_5bcd337f hi.2.2.2.2 | omega⟩ ⟨by first | exact oq_fa4e5087 hi.1.1 | omega, by first | exact oq_1a42ef34 hi.1.2 | omega⟩ (fun g2003 => ?_) (fun g2003 => ?_)))
      ·
        refine WS_pq [0, 1, 2, 3, 4] (lv' := [(0, .ref (A 54)), (1, .int (Int32.ofInt xv)), (2, .int (Int32.ofInt qq)), (3, .int (Int32.ofInt c)), (4, .int (Int32.ofInt kk))]) rfl ?_
        exact kx _ kk I F (by first | exact ⟨And.intro (hi.1.1) (hi.1.2), And.intro (hi.2.1.1) (hi.2.1.2), And.intro (hi.2.2.1.1) (hi.2.2.1.2), hi.2.2.2.1, hi.2.2.2.2⟩ | omega)
      ·
        refine z_aload_n X (x := A 54) rfl (List.Mem.head _) (s_getR X 54 rfl (c518_ok rfl) rfl rfl (z_load_n X (x := c) rfl (List.Mem.tail _ (List.Mem.tail _ (List.Mem.tail _ (List.Mem.head _)))) (z_bipush X rfl (z_mul X rfl (z_load_n X (x := qq) rfl (List.Mem.tail _ (List.Mem.tail _ (List.Mem.head _))) (z_add X rfl (z_zald X 57 rfl (c518_ok rfl) rfl (by first | exact oq_4071a75f hi.2.2.1.1 hi.2.1.1 | omega) (show ((c * 24) + qq) < 144 by first | exact oq_ceab338e hi.2.2.1.2 hi.2.1.2 | omega) (cbig_ok rfl) ?_)))))))
        have b2004 := bc_48 I (show (((c * 24) + qq)).toNat < 144 by first | exact oq_ab7254e1 hi.2.2.1.2 hi.2.1.2 | omega)
        refine z_if_eq X (t := 76) rfl rfl (rng_to _) (fun g2005 => ?_) (fun g2005 => ?_)
        ·
          refine z_ldc X rfl (z_store X (lv' := [(5, .int (Int32.ofInt 1000000)), (0, .ref (A 54)), (1, .int (Int32.ofInt xv)), (2, .int (Int32.ofInt qq)), (3, .int (Int32.ofInt c)), (4, .int (Int32.ofInt kk))]) rfl (by decide) (fun _ h => h) (z_aload_n X (x := A 54) rfl (List.Mem.tail _ (List.Mem.head _)) (s_getR X 54 rfl (c518_ok rfl) rfl rfl (z_load_n X (x := qq) rfl (List.Mem.tail _ (List.Mem.tail _ (List.Mem.tail _ (List.Mem.head _)))) (z_load_n X (x := c) rfl (List.Mem.tail _ (List.Mem.tail _ (List.Mem.tail _ (List.Mem.tail _ (List.Mem.head _))))) (z_load X (x := kk) rfl (List.Mem.tail _ (List.Mem.tail _ (List.Mem.tail _ (List.Mem.tail _ (List.Mem.tail _ (List.Mem.head _)))))) (z_callS X (rm := rmN 49) (As := [.int (Int32.ofInt qq), .int (Int32.ofInt c), .int (Int32.ofInt kk)]) (st := [.ref (A 59)]) rfl rfl (by rw [E.1, E.2.1, E.2.2.1]; exact c4_placeOf G I (by first | exact ⟨hi.2.1.1, hi.2.1.2⟩ | omega) (by first | exact ⟨hi.2.2.1.1, hi.2.2.1.2⟩ | omega) (by first | exact ⟨hi.2.2.2.1, oq_943835ba g2003 hi.1.2⟩ | omega)) ⟨by rw [E.2.2.2]; exact (show (rmN 49).frames + 1 ≤ (rmN 48).frames by decide), by rw [E.2.2.2]; exact (show 8 + (mNL (miB 49) + 11) + (rmN 49).locals ≤ (rmN 48).locals by decide), by rw [E.2.2.2]; exact (show 0 + (rmN 49).cells ≤ (rmN 48).cells by decide), by rw [E.2.2.2]; exact (show 0 + (rmN 49).slots ≤ (rmN 48).slots by decide)⟩ (Nat.le_of_ble_eq_true rfl) (fun vv s2006 hq => ?_) (fun ee s2006 hq => ?_))))))))
          rotate_left
          · obtain ⟨rfl, e2007, hv, hrs2006, hps2006⟩ := hq; cases hv
          obtain ⟨rfl, e2007, hv, hrs2006, hps2006⟩ := hq
          cases hv
          show WS k 91 [(5, .int (Int32.ofInt 1000000)), (0, .ref (A 54)), (1, .int (Int32.ofInt xv)), (2, .int (Int32.ofInt qq)), (3, .int (Int32.ofInt c)), (4, .int (Int32.ofInt kk))] [.int (Int32.ofInt e2007), .ref (A 59)] (Wd A dT t) 0 0
          refine z_load X (x := 1000000) rfl (List.Mem.head _) (z_ldc X rfl (z_icmp_lt X (t := 103) rfl rfl (by decide) (by decide) (fun g2008 => ?_) (fun g2008 => ?_)))
          ·
            refine z_aload_n X (x := A 54) rfl (List.Mem.tail _ (List.Mem.head _)) (s_getR X 54 rfl (c518_ok rfl) rfl rfl (z_load_n X (x := c) rfl (List.Mem.tail _ (List.Mem.tail _ (List.Mem.tail _ (List.Mem.tail _ (List.Mem.head _))))) (z_ald X 56 rfl (c518_ok rfl) rfl (by first | exact hi.2.2.1.1 | omega) (show c < 6 by first | exact oq_9207f8f8 hi.2.2.1.2 | omega) (cbig_ok rfl) ?_)))
            have b2009 := bc_47 I (show (c).toNat < 6 by first | exact oq_78f9cd89 hi.2.2.1.2 | omega)
            refine z_load X (x := 1000000) rfl (List.Mem.head _) (z_add X rfl (z_any (fun y2010 hy2010 => ?_)))
            refine z_ast X 59 rfl (c518_ok rfl) rfl (by first | exact oq_90ac6b8d hps2006 hi.2.1.1 hi.2.2.1.1 hi.2.2.2.1 | omega) (show e2007 < 3456 by first | exact oq_9a142767 hps2006 hi.2.1.2 hi.2.2.1.2 g2003 hi.1.2 | omega) (cbig_ok rfl) (wd_gen (fun s2011 hs2011 => ?_))
            have Is2011 : Bd s2011 := eqB hs2011 (bd_C I (show ((-2147483648) : Int) ≤ y2010 ∧ y2010 ≤ 2147483647 by first | exact ⟨hy2010.1, hy2010.2⟩ | omega) hy2010)
            have Fs2011 := eqF hs2011 (fm_C F (inl_ok (a := 50) rfl))
            have ws2011_32 : iI s2011 32 = iI t 32 := eqI hs2011 rfl
            have ws2011_12 : iI s2011 12 = iI t 12 := eqI hs2011 rfl
            refine z_inc X (x := kk) (lv' := [(4, .int (Int32.ofInt (kk + 1))), (5, .int (Int32.ofInt 1000000)), (0, .ref (A 54)), (1, .int (Int32.ofInt xv)), (2, .int (Int32.ofInt qq)), (3, .int (Int32.ofInt c))]) rfl (by decide) (List.Mem.tail _ (List.Mem.tail _ (List.Mem.tail _ (List.Mem.tail _ (List.Mem.tail _ (List.Mem.head _)))))) (fun _ h => h) (z_goto X (t := 45) rfl rfl (WS_pq [2, 3, 4, 5, 0] (lv' := [(0, .ref (A 54)), (1, .int (Int32.ofInt xv)), (2, .int (Int32.ofInt qq)), (3, .int (Int32.ofInt c)), (4, .int (Int32.ofInt (kk + 1)))]) rfl ?_))
            exact ih _ xv qq c (kk + 1) Is2011 Fs2011 (by first | exact ⟨And.intro (hi.1.1) (hi.1.2), And.intro (hi.2.1.1) (hi.2.1.2), And.intro (hi.2.2.1.1) (hi.2.2.1.2), oq_54f49eb5 hi.2.2.2.1, oq_3f5436dc g2003 hi.1.2⟩ | omega) (by first | exact qk_me hm (by decide) (oq_416f5e90 g2003 hi.1.2) | omega) kx
          ·
            refine z_ldc X rfl (z_goto X (t := 112) rfl rfl (z_ast X 59 rfl (c518_ok rfl) rfl (by first | exact oq_90ac6b8d hps2006 hi.2.1.1 hi.2.2.1.1 hi.2.2.2.1 | omega) (show e2007 < 3456 by first | exact oq_9a142767 hps2006 hi.2.1.2 hi.2.2.1.2 g2003 hi.1.2 | omega) (cbig_ok rfl) (wd_gen (fun s2012 hs2012 => ?_))))
            have Is2012 : Bd s2012 := eqB hs2012 (bd_C I (show ((-2147483648) : Int) ≤ 1000000 ∧ 1000000 ≤ 2147483647 by first | exact ⟨by decide, by decide⟩ | omega) (by decide))
            have Fs2012 := eqF hs2012 (fm_C F (inl_ok (a := 50) rfl))
            have ws2012_32 : iI s2012 32 = iI t 32 := eqI hs2012 rfl
            have ws2012_12 : iI s2012 12 = iI t 12 := eqI hs2012 rfl
            refine z_inc X (x := kk) (lv' := [(4, .int (Int32.ofInt (kk + 1))), (5, .int (Int32.ofInt 1000000)), (0, .ref (A 54)), (1, .int (Int32.ofInt xv)), (2, .int (Int32.ofInt qq)), (3, .int (Int32.ofInt c))]) rfl (by decide) (List.Mem.tail _ (List.Mem.tail _ (List.Mem.tail _ (List.Mem.tail _ (List.Mem.tail _ (List.Mem.head _)))))) (fun _ h => h) (z_goto X (t := 45) rfl rfl (WS_pq [2, 3, 4, 5, 0] (lv' := [(0, .ref (A 54)), (1, .int (Int32.ofInt xv)), (2, .int (Int32.ofInt qq)), (3, .int (Int32.ofInt c)), (4, .int (Int32.ofInt (kk + 1)))]) rfl ?_))
            exact ih _ xv qq c (kk + 1) Is2012 Fs2012 (by first | exact ⟨And.intro (hi.1.1) (hi.1.2), And.intro (hi.2.1.1) (hi.2.1.2), And.intro (hi.2.2.1.1) (hi.2.2.1.2), oq_54f49eb5 hi.2.2.2.1, oq_3f5436dc g2003 hi.1.2⟩ | omega) (by first | exact qk_me hm (by decide) (oq_416f5e90 g2003 hi.1.2) | omega) kx
        ·
          refine z_aload_n X (x := A 54) rfl (List.Mem.head _) (z_load_n X (x := qq) rfl (List.Mem.tail _ (List.Mem.tail _ (List.Mem.head _))) (z_load_n X (x := c) rfl (List.Mem.tail _ (List.Mem.tail _ (List.Mem.tail _ (List.Mem.head _)))) (z_load X (x := kk) rfl (List.Mem.tail _ (List.Mem.tail _ (List.Mem.tail _ (List.Mem.tail _ (List.Mem.head _))))) (zcV_i0 X E 54 (As := [.int (Int32.ofInt qq), .int (Int32.ofInt c), .int (Int32.ofInt kk)]) (st := []) rfl rfl rfl rfl (c4_fewestBehind_54 G I (by first | exact ⟨hi.2.1.1, hi.2.1.2⟩ | omega) (by first | exact ⟨hi.2.2.1.1, hi.2.2.1.2⟩ | omega) (by first | exact ⟨hi.2.2.2.1, oq_943835ba g2003 hi.1.2⟩ | omega)) rfl (Nat.le_of_ble_eq_true rfl) (fun s2013 e2014 Is2013 Fs2013 hrs2013 hps2013 => ?_)))))
          have Gs2013 := fm_tq F Fs2013 rfl rfl
          have ws2013_32 : iI s2013 32 = iI t 32 := fm_iq Fs2013 rfl
          have ws2013_12 : iI s2013 12 = iI t 12 := fm_iq Fs2013 rfl
          refine z_goto X (t := 78) rfl rfl (z_store X (lv' := [(5, .int (Int32.ofInt e2014)), (0, .ref (A 54)), (1, .int (Int32.ofInt xv)), (2, .int (Int32.ofInt qq)), (3, .int (Int32.ofInt c)), (4, .int (Int32.ofInt kk))]) rfl (by decide) (fun _ h => h) (z_aload_n X (x := A 54) rfl (List.Mem.tail _ (List.Mem.head _)) (s_getR X 54 rfl (c518_ok rfl) rfl rfl (z_load_n X (x := qq) rfl (List.Mem.tail _ (List.Mem.tail _ (List.Mem.tail _ (List.Mem.head _)))) (z_load_n X (x := c) rfl (List.Mem.tail _ (List.Mem.tail _ (List.Mem.tail _ (List.Mem.tail _ (List.Mem.head _))))) (z_load X (x := kk) rfl (List.Mem.tail _ (List.Mem.tail _ (List.Mem.tail _ (List.Mem.tail _ (List.Mem.tail _ (List.Mem.head _)))))) (z_callS X (rm := rmN 49) (As := [.int (Int32.ofInt qq), .int (Int32.ofInt c), .int (Int32.ofInt kk)]) (st := [.ref (A 59)]) rfl rfl (by rw [E.1, E.2.1, E.2.2.1]; exact c4_placeOf G Is2013 (by first | exact ⟨hi.2.1.1, hi.2.1.2⟩ | omega) (by first | exact ⟨hi.2.2.1.1, hi.2.2.1.2⟩ | omega) (by first | exact ⟨hi.2.2.2.1, oq_943835ba g2003 hi.1.2⟩ | omega)) ⟨by rw [E.2.2.2]; exact (show (rmN 49).frames + 1 ≤ (rmN 48).frames by decide), by rw [E.2.2.2]; exact (show 8 + (mNL (miB 49) + 11) + (rmN 49).locals ≤ (rmN 48).locals by decide), by rw [E.2.2.2]; exact (show 0 + (rmN 49).cells ≤ (rmN 48).cells by decide), by rw [E.2.2.2]; exact (show 0 + (rmN 49).slots ≤ (rmN 48).slots by decide)⟩ (Nat.le_of_ble_eq_true rfl) (fun vv s2015 hq => ?_) (fun ee s2015 hq => ?_))))))))
          rotate_left
          · obtain ⟨rfl, e2016, hv, hrs2015, hps2015⟩ := hq; cases hv
          obtain ⟨rfl, e2016, hv, hrs2015, hps2015⟩ := hq
          cases hv
          show WS k 91 [(5, .int (Int32.ofInt e2014)), (0, .ref (A 54)), (1, .int (Int32.ofInt xv)), (2, .int (Int32.ofInt qq)), (3, .int (Int32.ofInt c)), (4, .int (Int32.ofInt kk))] [.int (Int32.ofInt e2016), .ref (A 59)] (Wd A dT s2013) 0 0
          refine z_load X (x := e2014) rfl (List.Mem.head _) (z_ldc X rfl (z_icmp_lt X (t := 103) rfl rfl hrs2013 (by decide) (fun g2017 => ?_) (fun g2017 => ?_)))
          ·
            refine z_aload_n X (x := A 54) rfl (List.Mem.tail _ (List.Mem.head _)) (s_getR X 54 rfl (c518_ok rfl) rfl rfl (z_load_n X (x := c) rfl (List.Mem.tail _ (List.Mem.tail _ (List.Mem.tail _ (List.Mem.tail _ (List.Mem.head _))))) (z_ald X 56 rfl (c518_ok rfl) rfl (by first | exact hi.2.2.1.1 | omega) (show c < 6 by first | exact oq_9207f8f8 hi.2.2.1.2 | omega) (cbig_ok rfl) ?_)))
            have b2018 := bc_47 Is2013 (show (c).toNat < 6 by first | exact oq_78f9cd89 hi.2.2.1.2 | omega)
            refine z_load X (x := e2014) rfl (List.Mem.head _) (z_add X rfl (z_any (fun y2019 hy2019 => ?_)))
            refine z_ast X 59 rfl (c518_ok rfl) rfl (by first | exact oq_90ac6b8d hps2015 hi.2.1.1 hi.2.2.1.1 hi.2.2.2.1 | omega) (show e2016 < 3456 by first | exact oq_9a142767 hps2015 hi.2.1.2 hi.2.2.1.2 g2003 hi.1.2 | omega) (cbig_ok rfl) (wd_gen (fun s2020 hs2020 => ?_))
            have Is2020 : Bd s2020 := eqB hs2020 (bd_C Is2013 (show ((-2147483648) : Int) ≤ y2019 ∧ y2019 ≤ 2147483647 by first | exact ⟨hy2019.1, hy2019.2⟩ | omega) hy2019)
            have Fs2020 := eqF hs2020 (fm_C Gs2013 (inl_ok (a := 50) rfl))
            have ws2020_32 : iI s2020 32 = iI s2013 32 := eqI hs2020 rfl
            have ws2020_12 : iI s2020 12 = iI s2013 12 := eqI hs2020 rfl
            refine z_inc X (x := kk) (lv' := [(4, .int (Int32.ofInt (kk + 1))), (5, .int (Int32.ofInt e2014)), (0, .ref (A 54)), (1, .int (Int32.ofInt xv)), (2, .int (Int32.ofInt qq)), (3, .int (Int32.ofInt c))]) rfl (by decide) (List.Mem.tail _ (List.Mem.tail _ (List.Mem.tail _ (List.Mem.tail _ (List.Mem.tail _ (List.Mem.head _)))))) (fun _ h => h) (z_goto X (t := 45) rfl rfl (WS_pq [2, 3, 4, 5, 0] (lv' := [(0, .ref (A 54)), (1, .int (Int32.ofInt xv)), (2, .int (Int32.ofInt qq)), (3, .int (Int32.ofInt c)), (4, .int (Int32.ofInt (kk + 1)))]) rfl ?_))
            exact ih _ xv qq c (kk + 1) Is2020 Fs2020 (by first | exact ⟨And.intro (hi.1.1) (hi.1.2), And.intro (hi.2.1.1) (hi.2.1.2), And.intro (hi.2.2.1.1) (hi.2.2.1.2), oq_54f49eb5 hi.2.2.2.1, oq_3f5436dc g2003 hi.1.2⟩ | omega) (by first | exact qk_me hm (by decide) (oq_416f5e90 g2003 hi.1.2) | omega) kx
          ·
            refine z_ldc X rfl (z_goto X (t := 112) rfl rfl (z_ast X 59 rfl (c518_ok rfl) rfl (by first | exact oq_90ac6b8d hps2015 hi.2.1.1 hi.2.2.1.1 hi.2.2.2.1 | omega) (show e2016 < 3456 by first | exact oq_9a142767 hps2015 hi.2.1.2 hi.2.2.1.2 g2003 hi.1.2 | omega) (cbig_ok rfl) (wd_gen (fun s2021 hs2021 => ?_))))
            have Is2021 : Bd s2021 := eqB hs2021 (bd_C Is2013 (show ((-2147483648) : Int) ≤ 1000000 ∧ 1000000 ≤ 2147483647 by first | exact ⟨by decide, by decide⟩ | omega) (by decide))
            have Fs2021 := eqF hs2021 (fm_C Gs2013 (inl_ok (a := 50) rfl))
            have ws2021_32 : iI s2021 32 = iI s2013 32 := eqI hs2021 rfl
            have ws2021_12 : iI s2021 12 = iI s2013 12 := eqI hs2021 rfl
            refine z_inc X (x := kk) (lv' := [(4, .int (Int32.ofInt (kk + 1))), (5, .int (Int32.ofInt e2014)), (0, .ref (A 54)), (1, .int (Int32.ofInt xv)), (2, .int (Int32.ofInt qq)), (3, .int (Int32.ofInt c))]) rfl (by decide) (List.Mem.tail _ (List.Mem.tail _ (List.Mem.tail _ (List.Mem.tail _ (List.Mem.tail _ (List.Mem.head _)))))) (fun _ h => h) (z_goto X (t := 45) rfl rfl (WS_pq [2, 3, 4, 5, 0] (lv' := [(0, .ref (A 54)), (1, .int (Int32.ofInt xv)), (2, .int (Int32.ofInt qq)), (3, .int (Int32.ofInt c)), (4, .int (Int32.ofInt (kk + 1)))]) rfl ?_))
            exact ih _ xv qq c (kk + 1) Is2021 Fs2021 (by first | exact ⟨And.intro (hi.1.1) (hi.1.2), And.intro (hi.2.1.1) (hi.2.1.2), And.intro (hi.2.2.1.1) (hi.2.2.1.2), oq_54f49eb5 hi.2.2.2.1, oq_3f5436dc g2003 hi.1.2⟩ | omega) (by first | exact qk_me hm (by decide) (oq_416f5e90 g2003 hi.1.2) | omega) kx
  have L34 : ∀ (n : Nat) (t : PS) (xv qq c : Int), Bd t → Fm [22, 23, 24, 34, 35] [33, 26, 27, 28, 29, 30, 31, 32, 20, 48, 47, 49, 50, 51] s t → ((0 ≤ xv ∧ xv ≤ 23) ∧ (0 ≤ qq ∧ qq ≤ 23) ∧ 0 ≤ c ∧ c ≤ 6) → (6 - c : Int).toNat < n → (∀ (t' : PS) (c' : Int), Bd t' → Fm [22, 23, 24, 34, 35] [33, 26, 27, 28, 29, 30, 31, 32, 20, 48, 47, 49, 50, 51] s t' → ((0 ≤ xv ∧ xv ≤ 23) ∧ (0 ≤ qq ∧ qq ≤ 23) ∧ 0 ≤ c' ∧ c' ≤ 6) → WS k 125 [(0, .ref (A 54)), (1, .int (Int32.ofInt xv)), (2, .int (Int32.ofInt qq)), (3, .int (Int32.ofInt c'))] [] (Wd A dT t') 0 0) → WS k 34 [(0, .ref (A 54)), (1, .int (Int32.ofInt xv)), (2, .int (Int32.ofInt qq)), (3, .int (Int32.ofInt c))] [] (Wd A dT t) 0 0 := by
    intro n
    induction n with
    | zero =>
      intro t xv qq c I F hi hm kx
      exact absurd hm (Nat.not_lt_zero _)
    | succ n ih =>
      intro t xv qq c I F hi hm kx
      have b3001 := bi_32 I
      have b3002 := bi_12 I
      refine z_load_n X (x := c) rfl (List.Mem.tail _ (List.Mem.tail _ (List.Mem.tail _ (List.Mem.head _)))) (z_aload_n X (x := A 54) rfl (List.Mem.head _) (z_getI X 54 rfl (c518_ok rfl) rfl rfl ?_))
      have b3003 := bi_32 I
      refine z_icmp_ge X (t := 125) rfl rfl ⟨by first | exact oq_fa4e5087 hi.2.2.1 | omega, by first | exact oq_b301c3bf hi.2.2.2 | omega⟩ (rng_to _) (fun g3004 => ?_) (fun g3004 => ?_)
      ·
        refine WS_pq [0, 1, 2, 3] (lv' := [(0, .ref (A 54)), (1, .int (Int32.ofInt xv)), (2, .int (Int32.ofInt qq)), (3, .int (Int32.ofInt c))]) rfl ?_
        exact kx _ c I F (by first | exact ⟨And.intro (hi.1.1) (hi.1.2), And.intro (hi.2.1.1) (hi.2.1.2), hi.2.2.1, hi.2.2.2⟩ | omega)
      ·
        refine z_const X rfl (z_store X (lv' := [(4, .int (Int32.ofInt 0)), (0, .ref (A 54)), (1, .int (Int32.ofInt xv)), (2, .int (Int32.ofInt qq)), (3, .int (Int32.ofInt c))]) rfl (by decide) (fun _ h => h) (WS_pq [1, 2, 3, 4, 0] (lv' := [(0, .ref (A 54)), (1, .int (Int32.ofInt xv)), (2, .int (Int32.ofInt qq)), (3, .int (Int32.ofInt c)), (4, .int (Int32.ofInt 0))]) rfl (L45 ((24 - 0 : Int).toNat + 1) t xv qq c 0 I F (by first | exact ⟨And.intro (hi.1.1) (hi.1.2), And.intro (hi.2.1.1) (hi.2.1.2), And.intro (hi.2.2.1) (oq_4af6a0a9 g3004 b3003.2), by decide, by decide⟩ | omega) (Nat.lt_succ_self _) ?_)))
        intro s3005 x3006 Is3005 Fs3005 hs3005
        have b3007 := bi_32 Is3005
        have b3008 := bi_12 Is3005
        refine z_inc X (x := c) (lv' := [(3, .int (Int32.ofInt (c + 1))), (0, .ref (A 54)), (1, .int (Int32.ofInt xv)), (2, .int (Int32.ofInt qq)), (4, .int (Int32.ofInt x3006))]) rfl (by decide) (List.Mem.tail _ (List.Mem.tail _ (List.Mem.tail _ (List.Mem.head _)))) (fun _ h => h) (z_goto X (t := 34) rfl rfl (WS_pq [1, 2, 3, 0] (lv' := [(0, .ref (A 54)), (1, .int (Int32.ofInt xv)), (2, .int (Int32.ofInt qq)), (3, .int (Int32.ofInt (c + 1)))]) rfl ?_))
        exact ih _ xv qq (c + 1) Is3005 Fs3005 (by first | exact ⟨And.intro (hs3005.1.1) (hs3005.1.2), And.intro (hs3005.2.1.1) (hs3005.2.1.2), oq_54f49eb5 hs3005.2.2.1.1, oq_470b4404 hs3005.2.2.1.2⟩ | omega) (by first | exact qk_me hm (by decide) (oq_58901df9 hs3005.2.2.1.2) | omega) kx
  have L28 : ∀ (n : Nat) (t : PS) (xv qq : Int), Bd t → Fm [22, 23, 24, 34, 35] [33, 26, 27, 28, 29, 30, 31, 32, 20, 48, 47, 49, 50, 51] s t → ((0 ≤ xv ∧ xv ≤ 23) ∧ -1 ≤ qq ∧ qq ≤ 23) → (qq + 1 : Int).toNat < n → (∀ (t' : PS) (qq' : Int), Bd t' → Fm [22, 23, 24, 34, 35] [33, 26, 27, 28, 29, 30, 31, 32, 20, 48, 47, 49, 50, 51] s t' → ((0 ≤ xv ∧ xv ≤ 23) ∧ -1 ≤ qq' ∧ qq' ≤ 23) → WS k 131 [(0, .ref (A 54)), (1, .int (Int32.ofInt xv)), (2, .int (Int32.ofInt qq'))] [] (Wd A dT t') 0 0) → WS k 28 [(0, .ref (A 54)), (1, .int (Int32.ofInt xv)), (2, .int (Int32.ofInt qq))] [] (Wd A dT t) 0 0 := by
    intro n
    induction n with
    | zero =>
      intro t xv qq I F hi hm kx
      exact absurd hm (Nat.not_lt_zero _)
    | succ n ih =>
      intro t xv qq I F hi hm kx
      have b4001 := bi_32 I
      have b4002 := bi_12 I
      refine z_load_n X (x := qq) rfl (List.Mem.tail _ (List.Mem.tail _ (List.Mem.head _))) (z_if_lt X (t := 131) rfl rfl ⟨by first | exact oq_97ee2c2a hi.2.1 | omega, by first | exact oq_1a42ef34 hi.2.2 | omega⟩ (fun g4003 => ?_) (fun g4003 => ?_))
      ·
        refine WS_pq [0, 1, 2] (lv' := [(0, .ref (A 54)), (1, .int (Int32.ofInt xv)), (2, .int (Int32.ofInt qq))]) rfl ?_
        exact kx _ qq I F (by first | exact ⟨And.intro (hi.1.1) (hi.1.2), hi.2.1, hi.2.2⟩ | omega)
      ·
        refine z_const X rfl (z_store_n X (lv' := [(3, .int (Int32.ofInt 0)), (0, .ref (A 54)), (1, .int (Int32.ofInt xv)), (2, .int (Int32.ofInt qq))]) rfl (by decide) (fun _ h => h) (WS_pq [1, 2, 3, 0] (lv' := [(0, .ref (A 54)), (1, .int (Int32.ofInt xv)), (2, .int (Int32.ofInt qq)), (3, .int (Int32.ofInt 0))]) rfl (L34 ((6 - 0 : Int).toNat + 1) t xv qq 0 I F (by first | exact ⟨And.intro (hi.1.1) (hi.1.2), And.intro (g4003) (hi.2.2), by decide, by decide⟩ | omega) (Nat.lt_succ_self _) ?_)))
        intro s4004 x4005 Is4004 Fs4004 hs4004
        have b4006 := bi_32 Is4004
        have b4007 := bi_12 Is4004
        refine z_inc X (x := qq) (lv' := [(2, .int (Int32.ofInt (qq + (-1)))), (0, .ref (A 54)), (1, .int (Int32.ofInt xv)), (3, .int (Int32.ofInt x4005))]) rfl (by decide) (List.Mem.tail _ (List.Mem.tail _ (List.Mem.head _))) (fun _ h => h) (z_goto X (t := 28) rfl rfl (WS_pq [1, 2, 0] (lv' := [(0, .ref (A 54)), (1, .int (Int32.ofInt xv)), (2, .int (Int32.ofInt (qq + (-1))))]) rfl ?_))
        exact ih _ xv (qq + (-1)) Is4004 Fs4004 (by first | exact ⟨And.intro (hs4004.1.1) (hs4004.1.2), oq_285ed02d hs4004.2.1.1, oq_92f1d9fb hs4004.2.1.2⟩ | omega) (by first | exact qk_me hm (by decide) (oq_7a276f11 hs4004.2.1.1) | omega) kx
  refine z_const X rfl (z_store_n X (lv' := [(2, .int (Int32.ofInt 0)), (0, .ref (A 54)), (1, .int (Int32.ofInt x))]) rfl (by decide) (fun _ h => h) (WS_pq [1, 2, 0] (lv' := [(0, .ref (A 54)), (1, .int (Int32.ofInt x)), (2, .int (Int32.ofInt 0))]) rfl (L2 ((6 - 0 : Int).toNat + 1) s x 0 I F (by first | exact ⟨And.intro (p0.1) (p0.2), by decide, by decide, p1⟩ | omega) (Nat.lt_succ_self _) ?_)))
  intro s3 x4 Is3 Fs3 hs3
  have b5 := bi_32 Is3
  have b6 := bi_12 Is3
  refine z_aload_n X (x := A 54) rfl (List.Mem.head _) (zcV_v0 X E 54 (As := []) (st := []) rfl rfl rfl rfl (c4_addLoads_54 G Is3 ) rfl (Nat.le_of_ble_eq_true rfl) (fun s7 Is7 Fs7 hps7 => ?_))
  have Gs7 := fm_tq Fs3 Fs7 rfl rfl
  have ws7_32 : iI s7 32 = iI s3 32 := fm_iq Fs7 rfl
  have ws7_12 : iI s7 12 = iI s3 12 := fm_iq Fs7 rfl
  refine z_bipush X rfl (z_store_n X (lv' := [(2, .int (Int32.ofInt 23)), (0, .ref (A 54)), (1, .int (Int32.ofInt x))]) rfl (by decide) (fun _ h => h) (WS_pq [1, 2, 0] (lv' := [(0, .ref (A 54)), (1, .int (Int32.ofInt x)), (2, .int (Int32.ofInt 23))]) rfl (L28 ((23 + 1 : Int).toNat + 1) s7 x 23 Is7 Gs7 (by first | exact ⟨And.intro (hs3.1.1) (hs3.1.2), by decide, by decide⟩ | omega) (Nat.lt_succ_self _) ?_)))
  intro s9 x10 Is9 Fs9 hs9
  have b11 := bi_32 Is9
  have b12 := bi_12 Is9
  refine z_aload_n X (x := A 54) rfl (List.Mem.head _) (z_load_n X (x := x) rfl (List.Mem.tail _ (List.Mem.head _)) (zcV_i0 X E 54 (As := [.int (Int32.ofInt x)]) (st := []) rfl rfl rfl rfl (c4_choose_54 G Is9 (by first | exact ⟨hs9.1.1, hs9.1.2⟩ | omega)) rfl (Nat.le_of_ble_eq_true rfl) (fun s13 e14 Is13 Fs13 hrs13 hps13 => ?_)))
  have Gs13 := fm_tq Fs9 Fs13 rfl rfl
  have ws13_32 : iI s13 32 = iI s9 32 := fm_iq Fs13 rfl
  have ws13_12 : iI s13 12 = iI s9 12 := fm_iq Fs13 rfl
  exact w_iret X.1 q hRt (nar_ret (by first | exact hps13 | omega)) (ax_d X (show cdA 48 136 = some (.ireturn, 1, 0, 0, 0) from rfl)) (Nat.zero_le _) (Nat.zero_le _) ⟨_, rfl, Is13, Gs13, e14, rfl, hrs13, by first | exact hps13 | omega⟩
end M77
end
