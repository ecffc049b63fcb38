theorem oq_4ee82282 {a0 : Int} (h0 : a0 ≤ 128) : a0 ≤ 2147483647 := by omega
theorem oq_afb89947 {a0 : Int} (h0 : a0 < 128) : (a0 : Int).toNat < 128 := by omega
theorem oq_d2afb425 {a0 : Int} (h0 : a0 < 128) : (a0 + 1) ≤ 128 := by omega
theorem qk_me {a b : Int} {n : Nat} (h : a.toNat < n + 1) (h1 : b < a) (h2 : 0 < a) : b.toNat < n := by omega
theorem oq_c268b7bd {a0 : Int} (h0 : a0 < 128) : 0 < (128 - a0) := by omega
theorem oq_4cdb41ba {a0 a1 a2 : Int} (h0 : a0 ≤ 1) (h1 : 0 ≤ a0) (h2 : ((a1 ≠ a2 ∧ a0 = 0) ∨ (a1 = a2 ∧ a0 = 1))) : (a0 = 0 ∨ a0 = 1) := by omega
theorem oq_8ff7beb9 {a0 a1 : Int} (h0 : a0 < a1) (h1 : a1 ≤ 24) : a0 < 24 := by omega
theorem oq_9e668fc9 {a0 a1 : Int} (h0 : a0 < a1) (h1 : a1 ≤ 24) : (a0 : Int).toNat < 24 := by omega
theorem oq_41473be0 {a0 a1 : Int} (h0 : a0 < a1) (h1 : a1 ≤ 24) : (a0 + 1) ≤ 24 := by omega
theorem oq_9dea93e6 {a0 a1 : Int} (h0 : a0 < a1) (h1 : a1 ≤ 24) : 0 < (24 - a0) := by omega
theorem oq_d3f5d874 {a0 : Int} (h0 : a0 ≤ 8) : a0 ≤ 2147483647 := by omega
theorem oq_7f5b2e79 {a0 a1 : Int} (h0 : a0 < a1) (h1 : a1 ≤ 8) : a0 < 8 := by omega
theorem oq_67be0351 {a0 a1 : Int} (h0 : a0 < a1) (h1 : a1 ≤ 8) : (a0 : Int).toNat < 8 := by omega
theorem oq_07d346ce {a0 : Int} (h0 : a0 ≤ 127) : a0 ≤ 2147483647 := by omega
theorem oq_f6204d84 {a0 a1 : Int} (h0 : a0 < a1) (h1 : a1 ≤ 8) : (a0 + 1) ≤ 8 := by omega
theorem oq_ccc5e5e0 {a0 a1 : Int} (h0 : a0 < a1) (h1 : a1 ≤ 8) : 0 < (8 - a0) := by omega
theorem oq_0661024d {a0 a1 a2 a3 : Int} (h0 : a0 = 0) (h1 : (a1 = 1 → a0 = 1)) (h2 : a1 ≤ 1) (h3 : ((a2 ≠ 0 ∧ a1 = 0) ∨ (a2 = 0 ∧ a1 = 1))) (h4 : ((a2 = 1 ∧ (0 ≤ a3 ∧ a3 ≤ 127)) ∨ (a2 = 0 ∧ (a3 < 0 ∨ 127 < a3)))) : (0 ≤ a3 ∧ a3 ≤ 127) := by omega
theorem oq_5dae24e3 {a0 : Int} (h0 : a0 ≠ 8) (h1 : a0 ≤ 8) : a0 ≤ 7 := by omega
theorem oq_aaea290e {a0 : Int} (h0 : a0 ≤ 7) : a0 < 8 := by omega
theorem oq_216077ba {a0 a1 : Int} (h0 : a0 = a1) (h1 : a1 ≤ 7) : (a0 + 1) ≤ 8 := by omega
theorem oq_3762dfb5 {a0 : Int} (h0 : a0 ≤ 8) : (a0 + 1) ≤ 2147483647 := by omega
theorem oq_9272904e {a0 a1 a2 : Int} (h0 : a0 = a1) (h1 : a2 ≤ a1) : a2 ≤ a0 := by omega
theorem oq_8dc46605 {a0 a1 a2 a3 : Int} (h0 : a0 = a1) (h1 : (a1 = a2 ∨ a1 ≤ a3)) (h2 : a2 ≤ a1) : (a0 = a2 ∨ a0 ≤ a3) := by omega
theorem oq_1aa5be9e {a0 a1 a2 : Int} (h0 : a0 = a1) (h1 : a1 = a2) : a0 = a2 := by omega
theorem oq_9fb74c64 {a0 a1 a2 a3 : Int} (h0 : a0 = 32) (h1 : a1 = a2) (h2 : ((a3 ≤ a2 ∧ a0 = (-1)) ∨ (a2 < a3 ∧ (0 ≤ a0 ∧ a0 ≤ 255)))) (h3 : a3 ≤ 200) : (a1 + 1) ≤ 400 := by omega
theorem oq_964ce197 {a0 : Int} (h0 : a0 ≤ 400) : (a0 + 1) ≤ 2147483647 := by omega
theorem oq_6d7927be {a0 a1 a2 a3 : Int} (h0 : a0 = (a1 + 1)) (h1 : a2 ≤ a3) (h2 : a1 = a3) : a2 ≤ a0 := by omega
theorem oq_cfc91213 {a0 a1 a2 a3 a4 a5 a6 : Int} (h0 : a0 = (a1 + 1)) (h1 : a2 = 32) (h2 : a1 = a3) (h3 : ((a4 ≤ a3 ∧ a2 = (-1)) ∨ (a3 < a4 ∧ (0 ≤ a2 ∧ a2 ≤ 255)))) (h4 : a4 = a5) : (a0 = a6 ∨ a0 ≤ a5) := by omega
theorem oq_d0d2714e {a0 a1 a2 a3 : Int} (h0 : a0 = a1) (h1 : a2 = a3) (h2 : a1 = a2) : a0 = a3 := by omega
theorem oq_956b687f {a0 a1 a2 a3 a4 a5 : Int} (h0 : a0 = a1) (h1 : a2 = (a3 + 1)) (h2 : a1 = a4) (h3 : a3 = a5) : (a0 - a2) < (a4 - a5) := by omega
theorem oq_a9fc5a51 {a0 a1 a2 : Int} (h0 : a0 = 32) (h1 : ((a1 ≤ a2 ∧ a0 = (-1)) ∨ (a2 < a1 ∧ (0 ≤ a0 ∧ a0 ≤ 255)))) : 0 < (a1 - a2) := by omega
/-! The model: simple loops -/
section M32
variable {l : Launch} {s0 : State} {D : va_G} {tys : List (ClassId × FieldType)} {a0 : Array Value} {A : Nat → Nat} {dT : Nat → ClassId} {s : PS}
theorem k_hasCells (G : GX l s0 D tys a0 dT) (I : Bd s) {x : Int} (p0 : rng x) : CT l s0 D A dT 233 (rmN 233) [.ref (A 179), .int (Int32.ofInt x)] s (fun o t => Bd t ∧ Fm [] [] s t ∧ ∃ e, o = .inl (some (.int (Int32.ofInt e))) ∧ rng e ∧ (e = 0 ∨ e = 1)) := by
  refine ct_of G (by decide) (Nat.le_of_ble_eq_true rfl) (fun k X E hRt hXt q => ?_)
  show WS k 0 [(0, .ref (A 179)), (1, .int (Int32.ofInt x))] [] _ 0 0
  have F : Fm [] [] s s := fm_rf _ _ s
  have L2 : ∀ (n : Nat) (t : PS) (x1 c : Int), Bd t → Fm [] [] s t → (rng x1 ∧ 0 ≤ c ∧ c ≤ 128) → (128 - c : Int).toNat < n → (∀ (t' : PS) (x1' c' : Int), Bd t' → Fm [] [] s t' → (rng x1' ∧ 0 ≤ c' ∧ c' ≤ 128) → WS k 27 [(0, .ref (A 179)), (1, .int (Int32.ofInt x1')), (2, .int (Int32.ofInt c'))] [] (Wd A dT t') 0 0) → WS k 2 [(0, .ref (A 179)), (1, .int (Int32.ofInt x1)), (2, .int (Int32.ofInt c))] [] (Wd A dT t) 0 0 := by
    intro n
    induction n with
    | zero =>
      intro t x1 c I F hi hm kx
      exact absurd hm (Nat.not_lt_zero _)
    | succ n ih =>
      intro t x1 c I F hi hm kx
      refine z_load_n X (x := c) rfl (List.Mem.tail _ (List.Mem.tail _ (List.Mem.head _))) (z_sipush X rfl (z_icmp_ge X (t := 27) rfl rfl ⟨by first | exact oq_fa4e5087 hi.2.1 | omega, by first | exact oq_4ee82282 hi.2.2 | omega⟩ (by decide) (fun g1001 => ?_) (fun g1001 => ?_)))
      ·
        refine WS_pq [0, 1, 2] (lv' := [(0, .ref (A 179)), (1, .int (Int32.ofInt x1)), (2, .int (Int32.ofInt c))]) rfl ?_
        exact kx _ x1 c I F (by first | exact ⟨And.intro (hi.1.1) (hi.1.2), hi.2.1, hi.2.2⟩ | omega)
      ·
        refine z_aload_n X (x := A 179) rfl (List.Mem.head _) (s_getR X 179 rfl (c518_ok rfl) rfl rfl (z_load_n X (x := c) rfl (List.Mem.tail _ (List.Mem.tail _ (List.Mem.head _))) (z_ald X 256 rfl (c518_ok rfl) rfl (by first | exact hi.2.1 | omega) (show c < 128 by first | exact g1001 | omega) (cbig_ok rfl) ?_)))
        have b1002 := bc_228 I (show (c).toNat < 128 by first | exact oq_afb89947 g1001 | omega)
        refine z_load_n X (x := x1) rfl (List.Mem.tail _ (List.Mem.head _)) (z_icmp_ne X (t := 21) rfl rfl (rng_to _) ⟨by first | exact hi.1.1 | omega, by first | exact hi.1.2 | omega⟩ (fun g1003 => ?_) (fun g1003 => ?_))
        ·
          refine z_inc X (x := c) (lv' := [(2, .int (Int32.ofInt (c + 1))), (0, .ref (A 179)), (1, .int (Int32.ofInt x1))]) rfl (by decide) (List.Mem.tail _ (List.Mem.tail _ (List.Mem.head _))) (fun _ h => h) (z_goto X (t := 2) rfl rfl (WS_pq [1, 2, 0] (lv' := [(0, .ref (A 179)), (1, .int (Int32.ofInt x1)), (2, .int (Int32.ofInt (c + 1)))]) rfl ?_))
          exact ih _ x1 (c + 1) I F (by first | exact ⟨And.intro (hi.1.1) (hi.1.2), oq_54f49eb5 hi.2.1, oq_d2afb425 g1001⟩ | omega) (by first | exact qk_me hm (by decide) (oq_c268b7bd g1001) | omega) kx
        ·
          refine z_const X rfl ?_
          exact w_iret X.1 q hRt (nar_ret (by first | exact Or.inr (by decide) | omega)) (ax_d X (show cdA 233 20 = some (.ireturn, 1, 0, 0, 0) from rfl)) (Nat.zero_le _) (Nat.zero_le _) ⟨_, rfl, I, F, 1, rfl, (by decide), by first | exact Or.inr (by decide) | omega⟩
  refine z_const X rfl (z_store_n X (lv' := [(2, .int (Int32.ofInt 0)), (0, .ref (A 179)), (1, .int (Int32.ofInt x))]) rfl (by decide) (fun _ h => h) (WS_pq [1, 2, 0] (lv' := [(0, .ref (A 179)), (1, .int (Int32.ofInt x)), (2, .int (Int32.ofInt 0))]) rfl (L2 ((128 - 0 : Int).toNat + 1) s x 0 I F (by first | exact ⟨And.intro (p0.1) (p0.2), by decide, by decide⟩ | omega) (Nat.lt_succ_self _) ?_)))
  intro s1 x2 x3 Is1 Fs1 hs1
  refine z_const X rfl ?_
  exact w_iret X.1 q hRt (nar_ret (by first | exact Or.inl (by decide) | omega)) (ax_d X (show cdA 233 28 = some (.ireturn, 1, 0, 0, 0) from rfl)) (Nat.zero_le _) (Nat.zero_le _) ⟨_, rfl, Is1, Fs1, 0, rfl, (by decide), by first | exact Or.inl (by decide) | omega⟩
theorem k_setOf (G : GX l s0 D tys a0 dT) (I : Bd s) {x : Int} (p0 : rng x) : CT l s0 D A dT 230 (rmN 230) [.ref (A 179), .int (Int32.ofInt x)] s (fun o t => Bd t ∧ Fm [] [230] s t ∧ o = .inl none ∧ (True)) := by
  refine ct_of G (by decide) (Nat.le_of_ble_eq_true rfl) (fun k X E hRt hXt q => ?_)
  show WS k 0 [(0, .ref (A 179)), (1, .int (Int32.ofInt x))] [] _ 0 0
  have F : Fm [] [230] s s := fm_rf _ _ s
  have L2 : ∀ (n : Nat) (t : PS) (x1 c : Int), Bd t → Fm [] [230] s t → (rng x1 ∧ 0 ≤ c ∧ c ≤ 128) → (128 - c : Int).toNat < n → (∀ (t' : PS) (x1' c' : Int), Bd t' → Fm [] [230] s t' → (rng x1' ∧ 0 ≤ c' ∧ c' ≤ 128) → WS k 36 [(0, .ref (A 179)), (1, .int (Int32.ofInt x1')), (2, .int (Int32.ofInt c'))] [] (Wd A dT t') 0 0) → WS k 2 [(0, .ref (A 179)), (1, .int (Int32.ofInt x1)), (2, .int (Int32.ofInt c))] [] (Wd A dT t) 0 0 := by
    intro n
    induction n with
    | zero =>
      intro t x1 c I F hi hm kx
      exact absurd hm (Nat.not_lt_zero _)
    | succ n ih =>
      intro t x1 c I F hi hm kx
      refine z_load_n X (x := c) rfl (List.Mem.tail _ (List.Mem.tail _ (List.Mem.head _))) (z_sipush X rfl (z_icmp_ge X (t := 36) rfl rfl ⟨by first | exact oq_fa4e5087 hi.2.1 | omega, by first | exact oq_4ee82282 hi.2.2 | omega⟩ (by decide) (fun g1001 => ?_) (fun g1001 => ?_)))
      ·
        refine WS_pq [0, 1, 2] (lv' := [(0, .ref (A 179)), (1, .int (Int32.ofInt x1)), (2, .int (Int32.ofInt c))]) rfl ?_
        exact kx _ x1 c I F (by first | exact ⟨And.intro (hi.1.1) (hi.1.2), hi.2.1, hi.2.2⟩ | omega)
      ·
        refine z_aload_n X (x := A 179) rfl (List.Mem.head _) (s_getR X 179 rfl (c518_ok rfl) rfl rfl (z_load_n X (x := c) rfl (List.Mem.tail _ (List.Mem.tail _ (List.Mem.head _))) (z_aload_n X (x := A 179) rfl (List.Mem.head _) (s_getR X 179 rfl (c518_ok rfl) rfl rfl (z_load_n X (x := c) rfl (List.Mem.tail _ (List.Mem.tail _ (List.Mem.head _))) (z_ald X 256 rfl (c518_ok rfl) rfl (by first | exact hi.2.1 | omega) (show c < 128 by first | exact g1001 | omega) (cbig_ok rfl) ?_))))))
        have b1002 := bc_228 I (show (c).toNat < 128 by first | exact oq_afb89947 g1001 | omega)
        refine z_load_n X (x := x1) rfl (List.Mem.tail _ (List.Mem.head _)) ?_
        have N1003 : ∀ e1004 : Int, ((((iC t 228 (c).toNat) ≠ x1) ∧ e1004 = 0) ∨ (((iC t 228 (c).toNat) = x1) ∧ e1004 = 1)) → WS k 29 [(0, .ref (A 179)), (1, .int (Int32.ofInt x1)), (2, .int (Int32.ofInt c))] [.int (Int32.ofInt e1004), .int (Int32.ofInt c), .ref (A 258)] (Wd A dT t) 0 0 := by
          intro e1004 he1004
          have re1004 : 0 ≤ e1004 ∧ e1004 ≤ 1 := by first | (clear he1004; omega) | omega
          refine z_zast X 258 rfl (c518_ok rfl) rfl (by first | exact hi.2.1 | omega) (show c < 128 by first | exact g1001 | omega) (cbig_ok rfl) (by first | exact oq_4cdb41ba re1004.2 re1004.1 he1004 | omega) (wd_gen (fun s1005 hs1005 => ?_))
          have Is1005 : Bd s1005 := eqB hs1005 (bd_C I (show (0 : Int) ≤ e1004 ∧ e1004 ≤ 1 by first | exact ⟨re1004.1, re1004.2⟩ | omega) ⟨by first | exact oq_fa4e5087 re1004.1 | omega, by first | exact oq_22e1e6b0 re1004.2 | omega⟩)
          have Fs1005 := eqF hs1005 (fm_C F (inl_ok (a := 230) rfl))
          refine z_inc X (x := c) (lv' := [(2, .int (Int32.ofInt (c + 1))), (0, .ref (A 179)), (1, .int (Int32.ofInt x1))]) rfl (by decide) (List.Mem.tail _ (List.Mem.tail _ (List.Mem.head _))) (fun _ h => h) (z_goto X (t := 2) rfl rfl (WS_pq [1, 2, 0] (lv' := [(0, .ref (A 179)), (1, .int (Int32.ofInt x1)), (2, .int (Int32.ofInt (c + 1)))]) rfl ?_))
          exact ih _ x1 (c + 1) Is1005 Fs1005 (by first | exact ⟨And.intro (hi.1.1) (hi.1.2), oq_54f49eb5 hi.2.1, oq_d2afb425 g1001⟩ | omega) (by first | exact qk_me hm (by decide) (oq_c268b7bd g1001) | omega) kx
        refine z_icmp_ne X (t := 28) rfl rfl (rng_to _) ⟨by first | exact hi.1.1 | omega, by first | exact hi.1.2 | omega⟩ (fun g1006 => ?_) (fun g1006 => ?_)
        ·
          exact z_const X rfl (N1003 _ (Or.inl ⟨g1006, rfl⟩))
        ·
          exact z_const X rfl (z_goto X (t := 29) rfl rfl (N1003 _ (Or.inr (⟨g1006, rfl⟩))))
  refine z_const X rfl (z_store_n X (lv' := [(2, .int (Int32.ofInt 0)), (0, .ref (A 179)), (1, .int (Int32.ofInt x))]) rfl (by decide) (fun _ h => h) (WS_pq [1, 2, 0] (lv' := [(0, .ref (A 179)), (1, .int (Int32.ofInt x)), (2, .int (Int32.ofInt 0))]) rfl (L2 ((128 - 0 : Int).toNat + 1) s x 0 I F (by first | exact ⟨And.intro (p0.1) (p0.2), by decide, by decide⟩ | omega) (Nat.lt_succ_self _) ?_)))
  intro s1 x2 x3 Is1 Fs1 hs1
  exact w_vret X.1 q hRt (ax_d X (show cdA 230 36 = some (.return_, 1, 0, 0, 0) from rfl)) (Nat.zero_le _) (Nat.zero_le _) ⟨_, rfl, Is1, Fs1, rfl, trivial⟩
theorem k_region (G : GX l s0 D tys a0 dT) (I : Bd s) {x : Int} (p0 : rng x) : CT l s0 D A dT 258 (rmN 258) [.ref (A 179), .int (Int32.ofInt x)] s (fun o t => Bd t ∧ Fm [73, 97] [234] s t ∧ ∃ e, o = .inl (some (.int (Int32.ofInt e))) ∧ rng e ∧ (True)) := by
  refine ct_of G (by decide) (Nat.le_of_ble_eq_true rfl) (fun k X E hRt hXt q => ?_)
  show WS k 0 [(0, .ref (A 179)), (1, .int (Int32.ofInt x))] [] _ 0 0
  have F : Fm [73, 97] [234] s s := fm_rf _ _ s
  have b1 := bi_73 I
  have b2 := bi_97 I
  have L43 : ∀ (n : Nat) (t : PS) (x1 c : Int), Bd t → Fm [73, 97] [234] s t → ((0 ≤ x1 ∧ x1 ≤ 127) ∧ 0 ≤ c ∧ c ≤ 8 ∧ iI t 97 ≤ 7) → (8 - c : Int).toNat < n → (∀ (t' : PS) (x1' c' : Int), Bd t' → Fm [73, 97] [234] s t' → ((0 ≤ x1' ∧ x1' ≤ 127) ∧ 0 ≤ c' ∧ c' ≤ 8 ∧ iI t' 97 ≤ 7) → WS k 70 [(0, .ref (A 179)), (1, .int (Int32.ofInt x1')), (2, .int (Int32.ofInt c'))] [] (Wd A dT t') 0 0) → WS k 43 [(0, .ref (A 179)), (1, .int (Int32.ofInt x1)), (2, .int (Int32.ofInt c))] [] (Wd A dT t) 0 0 := by
    intro n
    induction n with
    | zero =>
      intro t x1 c I F hi hm kx
      exact absurd hm (Nat.not_lt_zero _)
    | succ n ih =>
      intro t x1 c I F hi hm kx
      have b1001 := bi_73 I
      have b1002 := bi_97 I
      refine z_load_n X (x := c) rfl (List.Mem.tail _ (List.Mem.tail _ (List.Mem.head _))) (z_aload_n X (x := A 179) rfl (List.Mem.head _) (z_getI X 179 rfl (c518_ok rfl) rfl rfl ?_))
      have b1003 := bi_97 I
      refine z_icmp_ge X (t := 70) rfl rfl ⟨by first | exact oq_fa4e5087 hi.2.1 | omega, by first | exact oq_d3f5d874 hi.2.2.1 | omega⟩ (rng_to _) (fun g1004 => ?_) (fun g1004 => ?_)
      ·
        refine WS_pq [0, 1, 2] (lv' := [(0, .ref (A 179)), (1, .int (Int32.ofInt x1)), (2, .int (Int32.ofInt c))]) rfl ?_
        exact kx _ x1 c I F (by first | exact ⟨And.intro (hi.1.1) (hi.1.2), hi.2.1, hi.2.2.1, hi.2.2.2⟩ | omega)
      ·
        refine z_aload_n X (x := A 179) rfl (List.Mem.head _) (s_getR X 179 rfl (c518_ok rfl) rfl rfl (z_load_n X (x := c) rfl (List.Mem.tail _ (List.Mem.tail _ (List.Mem.head _))) (z_ald X 262 rfl (c518_ok rfl) rfl (by first | exact hi.2.1 | omega) (show c < 8 by first | exact oq_7f5b2e79 g1004 b1003.2 | omega) (cbig_ok rfl) ?_)))
        have b1005 := bc_234 I (show (c).toNat < 8 by first | exact oq_67be0351 g1004 b1003.2 | omega)
        refine z_load_n X (x := x1) rfl (List.Mem.tail _ (List.Mem.head _)) (z_icmp_ne X (t := 64) rfl rfl (rng_to _) ⟨by first | exact oq_fa4e5087 hi.1.1 | omega, by first | exact oq_07d346ce hi.1.2 | omega⟩ (fun g1006 => ?_) (fun g1006 => ?_))
        ·
          refine z_inc X (x := c) (lv' := [(2, .int (Int32.ofInt (c + 1))), (0, .ref (A 179)), (1, .int (Int32.ofInt x1))]) rfl (by decide) (List.Mem.tail _ (List.Mem.tail _ (List.Mem.head _))) (fun _ h => h) (z_goto X (t := 43) rfl rfl (WS_pq [1, 2, 0] (lv' := [(0, .ref (A 179)), (1, .int (Int32.ofInt x1)), (2, .int (Int32.ofInt (c + 1)))]) rfl ?_))
          exact ih _ x1 (c + 1) I F (by first | exact ⟨And.intro (hi.1.1) (hi.1.2), oq_54f49eb5 hi.2.1, oq_f6204d84 g1004 b1003.2, hi.2.2.2⟩ | omega) (by first | exact qk_me hm (by decide) (oq_ccc5e5e0 g1004 b1003.2) | omega) kx
        ·
          refine z_bipush X rfl ?_
          exact w_iret X.1 q hRt rfl (ax_d X (show cdA 258 63 = some (.ireturn, 1, 0, 0, 0) from rfl)) (Nat.zero_le _) (Nat.zero_le _) ⟨_, rfl, I, F, (-2), rfl, (by decide), trivial⟩
  refine z_aload_n X (x := A 179) rfl (List.Mem.head _) (z_const X rfl (s_putI X 179 rfl (c518_ok rfl) rfl rfl (by decide) rfl rfl rfl (wd_gen (fun s3 hs3 => ?_))))
  have Is3 : Bd s3 := eqB hs3 (bd_I I (show (0 : Int) ≤ 0 ∧ 0 ≤ 3 by first | exact ⟨by decide, by decide⟩ | omega) (by decide))
  have Fs3 := eqF hs3 (fm_I F (inl_ok (a := 73) rfl))
  have vs3 : iI s3 73 = 0 := eqI hs3 (iI_u (by decide))
  have ws3_97 : iI s3 97 = iI s 97 := eqI hs3 rfl
  refine z_aload_n X (x := A 179) rfl (List.Mem.head _) (z_load_n X (x := x) rfl (List.Mem.tail _ (List.Mem.head _)) (z_const X rfl (z_bipush X rfl (zcS_i0 X E (As := [.int (Int32.ofInt x), .int (Int32.ofInt 0), .int (Int32.ofInt 127)]) (st := [.ref (A 179)]) rfl rfl (k_in G Is3 (by first | exact ⟨p0.1, p0.2⟩ | omega) (by first | exact ⟨by decide, by decide⟩ | omega) (by first | exact ⟨by decide, by decide⟩ | omega)) rfl (Nat.le_of_ble_eq_true rfl) (fun s4 e5 Is4 Fs4 hrs4 hps4 => ?_)))))
  have Gs4 := fm_tq Fs3 Fs4 rfl rfl
  have ws4_73 : iI s4 73 = iI s3 73 := fm_iq Fs4 rfl
  have ws4_97 : iI s4 97 = iI s3 97 := fm_iq Fs4 rfl
  have N6 : ∀ e7 : Int, (((e5 ≠ 0) ∧ e7 = 0) ∨ ((e5 = 0) ∧ e7 = 1)) → WS k 21 [(0, .ref (A 179)), (1, .int (Int32.ofInt x))] [.int (Int32.ofInt e7), .ref (A 179)] (Wd A dT s4) 0 0 := by
    intro e7 he7
    have re7 : 0 ≤ e7 ∧ e7 ≤ 1 := by first | (clear he7 hps4; omega) | (clear hps4; omega) | omega
    refine z_const X rfl (zcV_i0 X E 179 (As := [.int (Int32.ofInt e7), .int (Int32.ofInt 1)]) (st := []) rfl rfl rfl rfl (k_bad G Is4 (by first | exact oq_31e518ae re7.2 re7.1 | omega) (by first | exact ⟨by decide, by decide⟩ | omega)) rfl (Nat.le_of_ble_eq_true rfl) (fun s8 e9 Is8 Fs8 hrs8 hps8 => ?_))
    have Gs8 := fm_tq Gs4 Fs8 rfl rfl
    have b10 := bi_73 Is8
    have ws8_97 : iI s8 97 = iI s4 97 := fm_iq Fs8 rfl
    refine z_if_eq X (t := 30) rfl rfl hrs8 (fun g11 => ?_) (fun g11 => ?_)
    ·
      refine z_aload_n X (x := A 179) rfl (List.Mem.head _) (z_getI X 179 rfl (c518_ok rfl) rfl rfl ?_)
      have b12 := bi_97 Is8
      refine z_bipush X rfl (z_icmp_ne X (t := 41) rfl rfl (rng_to _) (by decide) (fun g13 => ?_) (fun g13 => ?_))
      ·
        refine z_const X rfl (z_store_n X (lv' := [(2, .int (Int32.ofInt 0)), (0, .ref (A 179)), (1, .int (Int32.ofInt x))]) rfl (by decide) (fun _ h => h) (WS_pq [1, 2, 0] (lv' := [(0, .ref (A 179)), (1, .int (Int32.ofInt x)), (2, .int (Int32.ofInt 0))]) rfl (L43 ((8 - 0 : Int).toNat + 1) s8 x 0 Is8 Gs8 (by first | exact ⟨oq_0661024d g11 hps8.2.1 re7.2 he7 hps4, by decide, by decide, oq_5dae24e3 g13 b12.2⟩ | omega) (Nat.lt_succ_self _) ?_)))
        intro s14 x15 x16 Is14 Fs14 hs14
        have b17 := bi_73 Is14
        have b18 := bi_97 Is14
        refine z_aload_n X (x := A 179) rfl (List.Mem.head _) (s_getR X 179 rfl (c518_ok rfl) rfl rfl (z_aload_n X (x := A 179) rfl (List.Mem.head _) (z_getI X 179 rfl (c518_ok rfl) rfl rfl ?_)))
        have b19 := bi_97 Is14
        refine z_load_n X (x := x15) rfl (List.Mem.tail _ (List.Mem.head _)) (z_ast X 262 rfl (c518_ok rfl) rfl (by first | exact b19.1 | omega) (show (iI s14 97) < 8 by first | exact oq_aaea290e hs14.2.2.2 | omega) (cbig_ok rfl) (wd_gen (fun s20 hs20 => ?_)))
        have Is20 : Bd s20 := eqB hs20 (bd_C Is14 (show (0 : Int) ≤ x15 ∧ x15 ≤ 127 by first | exact ⟨hs14.1.1, hs14.1.2⟩ | omega) ⟨by first | exact oq_fa4e5087 hs14.1.1 | omega, by first | exact oq_07d346ce hs14.1.2 | omega⟩)
        have Fs20 := eqF hs20 (fm_C Fs14 (inl_ok (a := 234) rfl))
        have ws20_73 : iI s20 73 = iI s14 73 := eqI hs20 rfl
        have ws20_97 : iI s20 97 = iI s14 97 := eqI hs20 rfl
        refine z_aload_n X (x := A 179) rfl (List.Mem.head _) (w_dup X.1 (ax_d X (show cdA 258 81 = some (.dup, 1, 0, 0, 0) from rfl)) rfl (z_getI X 179 rfl (c518_ok rfl) rfl rfl ?_))
        have b21 := bi_97 Is20
        refine z_const X rfl (z_add X rfl (s_putI X 179 rfl (c518_ok rfl) rfl rfl (by decide) rfl rfl rfl (wd_gen (fun s22 hs22 => ?_))))
        have Is22 : Bd s22 := eqB hs22 (bd_I Is20 (show (0 : Int) ≤ ((iI s20 97) + 1) ∧ ((iI s20 97) + 1) ≤ 8 by first | exact ⟨oq_54f49eb5 b21.1, oq_216077ba ws20_97 hs14.2.2.2⟩ | omega) ⟨by first | exact oq_74de1e16 b21.1 | omega, by first | exact oq_3762dfb5 b21.2 | omega⟩)
        have Fs22 := eqF hs22 (fm_I Fs20 (inl_ok (a := 97) rfl))
        have vs22 : iI s22 97 = ((iI s20 97) + 1) := eqI hs22 (iI_u ⟨by first | exact oq_74de1e16 b21.1 | omega, by first | exact oq_3762dfb5 b21.2 | omega⟩)
        have ws22_73 : iI s22 73 = iI s20 73 := eqI hs22 rfl
        refine z_aload_n X (x := A 179) rfl (List.Mem.head _) (z_getI X 179 rfl (c518_ok rfl) rfl rfl ?_)
        have b23 := bi_97 Is22
        exact w_iret X.1 q hRt rfl (ax_d X (show cdA 258 94 = some (.ireturn, 1, 0, 0, 0) from rfl)) (Nat.zero_le _) (Nat.zero_le _) ⟨_, rfl, Is22, Fs22, (iI s22 97), rfl, (rng_to _), trivial⟩
      ·
        refine z_const X rfl ?_
        exact w_iret X.1 q hRt rfl (ax_d X (show cdA 258 40 = some (.ireturn, 1, 0, 0, 0) from rfl)) (Nat.zero_le _) (Nat.zero_le _) ⟨_, rfl, Is8, Gs8, (-1), rfl, (by decide), trivial⟩
    ·
      refine z_const X rfl ?_
      exact w_iret X.1 q hRt rfl (ax_d X (show cdA 258 29 = some (.ireturn, 1, 0, 0, 0) from rfl)) (Nat.zero_le _) (Nat.zero_le _) ⟨_, rfl, Is8, Gs8, 0, rfl, (by decide), trivial⟩
  refine z_if_ne X (t := 20) rfl rfl hrs4 (fun g24 => ?_) (fun g24 => ?_)
  ·
    exact z_const X rfl (N6 _ (Or.inl ⟨g24, rfl⟩))
  ·
    exact z_const X rfl (z_goto X (t := 21) rfl rfl (N6 _ (Or.inr (⟨g24, rfl⟩))))
end M32
