theorem oq_acf68b34 {a0 a1 : Int} (h0 : a0 = a1) (h1 : a1 < 40) : a0 < 40 := by omega
theorem oq_c57cae74 {a0 a1 a2 : Int} (h0 : a0 = a1) (h1 : a1 = a2) (h2 : a2 < 40) : a0 < 40 := by omega
theorem oq_beb58a95 {a0 a1 a2 a3 : Int} (h0 : a0 = a1) (h1 : a1 = a2) (h2 : a2 = a3) (h3 : a3 < 40) : (a0 + 1) ≤ 40 := by omega
theorem oq_83f8f735 {a0 : Int} (h0 : a0 ≤ 3) : (a0 + (-1)) ≤ 3 := by omega
theorem oq_176f24f4 {a0 : Int} (h0 : a0 < 4) : (a0 + 1) ≤ 2147483647 := by omega
theorem oq_a274733e {a0 : Int} (h0 : a0 < 4) : (a0 : Int).toNat < 4 := by omega
theorem oq_6af04329 {a0 a1 : Int} (h0 : 0 ≤ a0) (h1 : 0 ≤ a1) : 0 ≤ ((a0 * 4) + a1) := by omega
theorem oq_7259ae6f {a0 a1 : Int} (h0 : a0 ≤ 39) (h1 : a1 < 4) : ((a0 * 4) + a1) < 160 := by omega
theorem oq_04b9c373 {a0 a1 : Int} (h0 : a0 ≤ 39) (h1 : a1 < 4) : (((a0 * 4) + a1) : Int).toNat < 160 := by omega
theorem oq_60d647b9 {a0 a1 : Int} (h0 : a0 < a1) (h1 : a1 ≤ 40) : a0 ≤ 39 := by omega
theorem oq_c93233a9 {a0 : Int} (h0 : a0 ≤ 39) : (a0 + 1) ≤ 40 := by omega
theorem oq_3e505acc {a0 : Int} (h0 : a0 ≤ 39) : 0 < (40 - a0) := by omega
theorem oq_996e9f4e {a0 : Int} (h0 : a0 ≤ 16777215) : a0 ≤ 2147483647 := by omega
theorem oq_d8f0483d {a0 a1 : Int} (h0 : a0 = a1) (h1 : a1 < 6) : (a0 + 1) ≤ 6 := by omega
theorem oq_5e19d6ec {a0 a1 a2 : Int} (h0 : a0 = (a1 + 1)) (h1 : a1 = a2) : (a0 - 1) = a2 := by omega
theorem oq_65e1730c {a0 a1 : Int} (h0 : (a0 = 0 ∨ a0 ≤ a1)) (h1 : a1 ≤ 2147483647) : a0 ≤ 2147483647 := by omega
theorem oq_00477806 {a0 a1 : Int} (h0 : 0 ≤ a0) (h1 : 1 ≤ a1) : (-2147483648) ≤ (a0 + a1) := by omega
theorem oq_2a8744a7 {a0 a1 : Int} (h0 : a0 ≤ 23) (h1 : a1 ≤ 8) : (a0 + a1) ≤ 2147483647 := by omega
theorem oq_27fc0cec {a0 a1 a2 : Int} (h0 : a0 ≤ 2147483647) (h1 : ((a1 = a2 ∧ a0 ≤ a2) ∨ (a1 = a0 ∧ a2 < a0))) (h2 : a2 ≤ 2147483647) (h3 : (-2147483648) ≤ a2) : ((-2147483648) ≤ a1 ∧ a1 ≤ 2147483647) := by omega
theorem oq_566e2836 {a0 a1 a2 : Int} (h0 : ((a0 = a1 ∧ a1 ≤ a2) ∨ (a0 = a2 ∧ a2 < a1))) (h1 : (-2147483648) ≤ a2) (h2 : a1 ≤ 2147483647) (h3 : (-2147483648) ≤ a1) : ((-2147483648) ≤ a0 ∧ a0 ≤ 2147483647) := by omega
theorem oq_54ac7134 {a0 a1 : Int} (h0 : a0 ≤ 1) (h1 : 0 ≤ a0) (h2 : ((a1 = 0 ∧ a0 = 0) ∨ (a1 ≠ 0 ∧ a0 = 1))) : (a0 = 0 ∨ a0 = 1) := by omega
/-! The class: fits, rota, regions, moves -/
section ZA
variable {k : kx_T} {mn pc : Nat} {dT : Nat → ClassId} {lv : List (Nat × Value)} {st : List Value} {ws : va_W} {ce sl a b : Nat} {z : Int}
theorem and_lel (y : Int32) {q : Int} (h0 : 0 ≤ q) (hq : q ≤ 2147483647) : 0 ≤ (Int32.ofInt q &&& y).toInt ∧ (Int32.ofInt q &&& y).toInt ≤ q := by
  rw [← ofi_to y, ← z_and]
  have e1 : zN q = q.toNat := by unfold zN; omega
  have e2 : Nat.land (zN q) (zN y.toInt) ≤ q.toNat := by rw [e1]; exact Nat.and_le_left
  have e3 : zOf (Nat.land (zN q) (zN y.toInt)) = (Nat.land (zN q) (zN y.toInt) : Int) := by
    unfold zOf
    rw [if_pos (Nat.ble_eq.mpr (by omega))]
  rw [e3, zi ⟨by omega, by omega⟩]
  omega
theorem z_andl (X : AX k mn dT) {y : Int32} {q : Int} (h : cdA mn pc = some (.iand, 1, a, b, z)) (h0 : 0 ≤ q) (hq : q ≤ 2147483647) (g : ∀ e : Int, 0 ≤ e → e ≤ q → WS k (pc + 1) lv (.int (Int32.ofInt e) :: st) ws ce sl) : WS k pc lv (.int y :: .int (Int32.ofInt q) :: st) ws ce sl := by
  refine w_iand X.1 (ax_d X h) ?_
  have := g _ (and_lel y h0 hq).1 (and_lel y h0 hq).2
  rwa [ofi_to] at this
theorem z_bxor (X : AX k mn dT) {x y : Int} (h : cdA mn pc = some (.ixor, 1, a, b, z)) (g : WS k (pc + 1) lv (.int (Int32.ofInt x ^^^ Int32.ofInt y) :: st) ws ce sl) : WS k pc lv (.int (Int32.ofInt y) :: .int (Int32.ofInt x) :: st) ws ce sl := w_ixor X.1 (ax_d X h) g
end ZA
section M75
variable {l : Launch} {s0 : State} {D : va_G} {tys : List (ClassId × FieldType)} {a0 : Array Value} {A : Nat → Nat} {dT : Nat → ClassId} {s : PS}
set_option maxRecDepth 4000 in
theorem c1_add_173 (G : GX l s0 D tys a0 dT) (I : Bd s) {x y : Int} (p0 : rng x) (p1 : y = 0 ∨ y = 1) : CT l s0 D A dT 11 (rmN 11) [.ref (A 173), .ref (A 39), .int (Int32.ofInt x), .int (Int32.ofInt y)] s (fun o t => Bd t ∧ Fm [70] [152, 153, 154] s t ∧ ∃ e, o = .inl (some (.int (Int32.ofInt e))) ∧ rng e ∧ (True)) := by
  refine ct_ofX G (by decide) (Nat.le_of_ble_eq_true rfl) (fun k X E ET hRt hXt q => ?_)
  show WS k 0 [(0, .ref (A 173)), (1, .ref (A 39)), (2, .int (Int32.ofInt x)), (3, .int (Int32.ofInt y))] [] _ 0 0
  have F : Fm [70] [152, 153, 154] s s := fm_rf _ _ s
  have b1 := bi_70 I
  refine z_aload_n X (x := A 173) rfl (List.Mem.head _) (z_getI X 173 rfl (c518_ok rfl) rfl rfl ?_)
  have b2 := bi_70 I
  refine z_bipush X rfl (z_icmp_lt X (t := 11) rfl rfl (rng_to _) (by decide) (fun g3 => ?_) (fun g3 => ?_))
  ·
    refine z_aload_n X (x := A 39) rfl (List.Mem.tail _ (List.Mem.head _)) (z_const X rfl (z_aload_n X (x := A 173) rfl (List.Mem.head _) (s_getR X 173 rfl (c518_ok rfl) rfl rfl (z_aload_n X (x := A 173) rfl (List.Mem.head _) (z_getI X 173 rfl (c518_ok rfl) rfl rfl ?_)))))
    have b4 := bi_70 I
    refine z_const X rfl (z_mul X rfl (z_const X rfl (z_copy X I 39 174 (st := []) rfl (by decide) (by decide) rfl rfl (by first | (clear p1; omega) | omega) (by first | (clear p1; omega) | omega) (by first | (clear p1; omega) | omega) (show 0 + 4 ≤ ((7 : Nat) : Int) by first | (clear p1; omega) | omega) (show ((iI s 70) * 4) + 4 ≤ ((160 : Nat) : Int) by first | (clear p1; omega) | omega) (by decide) (by rw [E.2.2.2]; decide) (by rw [E.2.2.2]; exact Nat.le_of_ble_eq_true rfl) (fun s5 Is5 Fs5 => ?_))))
    have Gs5 := fm_tq F Fs5 rfl rfl
    have ws5_70 : iI s5 70 = iI s 70 := fm_iq Fs5 rfl
    refine z_aload_n X (x := A 173) rfl (List.Mem.head _) (s_getR X 173 rfl (c518_ok rfl) rfl rfl (z_aload_n X (x := A 173) rfl (List.Mem.head _) (z_getI X 173 rfl (c518_ok rfl) rfl rfl ?_)))
    have b6 := bi_70 Is5
    refine z_load_n X (x := x) rfl (List.Mem.tail _ (List.Mem.tail _ (List.Mem.head _))) (z_ast X 175 rfl (c518_ok rfl) rfl (by first | exact b6.1 | omega) (show (iI s5 70) < 40 by first | exact oq_acf68b34 ws5_70 g3 | omega) (cbig_ok rfl) (wd_gen (fun s7 hs7 => ?_)))
    have Is7 : Bd s7 := eqB hs7 (bd_C Is5 (show ((-2147483648) : Int) ≤ x ∧ x ≤ 2147483647 by first | exact ⟨p0.1, p0.2⟩ | omega) ⟨by first | exact p0.1 | omega, by first | exact p0.2 | omega⟩)
    have Fs7 := eqF hs7 (fm_C Gs5 (inl_ok (a := 153) rfl))
    have ws7_70 : iI s7 70 = iI s5 70 := eqI hs7 rfl
    refine z_aload_n X (x := A 173) rfl (List.Mem.head _) (s_getR X 173 rfl (c518_ok rfl) rfl rfl (z_aload_n X (x := A 173) rfl (List.Mem.head _) (z_getI X 173 rfl (c518_ok rfl) rfl rfl ?_)))
    have b8 := bi_70 Is7
    refine z_load_n X (x := y) rfl (List.Mem.tail _ (List.Mem.tail _ (List.Mem.tail _ (List.Mem.head _)))) (z_zast X 176 rfl (c518_ok rfl) rfl (by first | exact b8.1 | omega) (show (iI s7 70) < 40 by first | exact oq_c57cae74 ws7_70 ws5_70 g3 | omega) (cbig_ok rfl) (by first | exact p1 | omega) (wd_gen (fun s9 hs9 => ?_)))
    have Is9 : Bd s9 := eqB hs9 (bd_C Is7 (show (0 : Int) ≤ y ∧ y ≤ 1 by first | exact ⟨oq_e4aca38c p1, oq_14617724 p1⟩ | omega) ⟨by first | exact oq_bde653e9 p1 | omega, by first | exact oq_4ad2cb8b p1 | omega⟩)
    have Fs9 := eqF hs9 (fm_C Fs7 (inl_ok (a := 154) rfl))
    have ws9_70 : iI s9 70 = iI s7 70 := eqI hs9 rfl
    refine z_aload_n X (x := A 173) rfl (List.Mem.head _) (w_dup X.1 (ax_d X (show cdA 11 48 = some (.dup, 1, 0, 0, 0) from rfl)) rfl (z_getI X 173 rfl (c518_ok rfl) rfl rfl ?_))
    have b10 := bi_70 Is9
    refine z_const X rfl (z_add X rfl (s_putI X 173 rfl (c518_ok rfl) rfl rfl (by decide) rfl rfl rfl (wd_gen (fun s11 hs11 => ?_))))
    have Is11 : Bd s11 := eqB hs11 (bd_I Is9 (show (0 : Int) ≤ ((iI s9 70) + 1) ∧ ((iI s9 70) + 1) ≤ 40 by first | exact ⟨oq_54f49eb5 b10.1, oq_beb58a95 ws9_70 ws7_70 ws5_70 g3⟩ | omega) ⟨by first | exact oq_74de1e16 b10.1 | omega, by first | exact oq_c01d6c28 b10.2 | omega⟩)
    have Fs11 := eqF hs11 (fm_I Fs9 (inl_ok (a := 70) rfl))
    have vs11 : iI s11 70 = ((iI s9 70) + 1) := eqI hs11 (iI_u ⟨by first | exact oq_74de1e16 b10.1 | omega, by first | exact oq_c01d6c28 b10.2 | omega⟩)
    refine z_aload_n X (x := A 173) rfl (List.Mem.head _) (z_getI X 173 rfl (c518_ok rfl) rfl rfl ?_)
    have b12 := bi_70 Is11
    refine z_const X rfl (z_sub X rfl ?_)
    exact w_iret X.1 q hRt rfl (ax_d X (show cdA 11 63 = some (.ireturn, 1, 0, 0, 0) from rfl)) (Nat.zero_le _) (Nat.zero_le _) ⟨_, rfl, Is11, Fs11, ((iI s11 70) - 1), rfl, ⟨by first | exact oq_c1e961c7 b12.1 | omega, by first | exact oq_86f8893e b12.2 | omega⟩, trivial⟩
  ·
    refine z_const X rfl ?_
    exact w_iret X.1 q hRt rfl (ax_d X (show cdA 11 10 = some (.ireturn, 1, 0, 0, 0) from rfl)) (Nat.zero_le _) (Nat.zero_le _) ⟨_, rfl, I, F, (-1), rfl, (by decide), trivial⟩
set_option maxRecDepth 4000 in
theorem c1_anyRow_173 (G : GX l s0 D tys a0 dT) (I : Bd s)  : CT l s0 D A dT 14 (rmN 14) [.ref (A 173)] s (fun o t => Bd t ∧ Fm [] [] s t ∧ ∃ e, o = .inl (some (.int (Int32.ofInt e))) ∧ rng e ∧ (e = 0 ∨ e = 1)) := by
  refine ct_ofX G (by decide) (Nat.le_of_ble_eq_true rfl) (fun k X E ET hRt hXt q => ?_)
  show WS k 0 [(0, .ref (A 173))] [] _ 0 0
  have F : Fm [] [] s s := fm_rf _ _ s
  have b1 := bi_70 I
  have L2 : ∀ (n : Nat) (t : PS) (c : Int), Bd t → Fm [] [] s t → (0 ≤ c ∧ c ≤ 40) → (40 - c : Int).toNat < n → (∀ (t' : PS) (c' : Int), Bd t' → Fm [] [] s t' → (0 ≤ c' ∧ c' ≤ 40) → WS k 27 [(0, .ref (A 173)), (1, .int (Int32.ofInt c'))] [] (Wd A dT t') 0 0) → WS k 2 [(0, .ref (A 173)), (1, .int (Int32.ofInt c))] [] (Wd A dT t) 0 0 := by
    intro n
    induction n with
    | zero =>
      intro t c I F hi hm kx
      exact absurd hm (Nat.not_lt_zero _)
    | succ n ih =>
      intro t c I F hi hm kx
      have b1001 := bi_70 I
      refine z_load_n X (x := c) rfl (List.Mem.tail _ (List.Mem.head _)) (z_aload_n X (x := A 173) rfl (List.Mem.head _) (z_getI X 173 rfl (c518_ok rfl) rfl rfl ?_))
      have b1002 := bi_70 I
      refine z_icmp_ge X (t := 27) rfl rfl ⟨by first | exact oq_fa4e5087 hi.1 | omega, by first | exact oq_227d2cd7 hi.2 | omega⟩ (rng_to _) (fun g1003 => ?_) (fun g1003 => ?_)
      ·
        refine WS_pq [0, 1] (lv' := [(0, .ref (A 173)), (1, .int (Int32.ofInt c))]) rfl ?_
        exact kx _ c I F (by first | exact ⟨hi.1, hi.2⟩ | omega)
      ·
        refine z_aload_n X (x := A 173) rfl (List.Mem.head _) (s_getR X 173 rfl (c518_ok rfl) rfl rfl (z_load_n X (x := c) rfl (List.Mem.tail _ (List.Mem.head _)) (z_zald X 176 rfl (c518_ok rfl) rfl (by first | exact hi.1 | omega) (show c < 40 by first | exact oq_497ff6eb g1003 b1002.2 | omega) (cbig_ok rfl) ?_)))
        have b1004 := bc_154 I (show (c).toNat < 40 by first | exact oq_23813e7c g1003 b1002.2 | omega)
        refine z_if_ne X (t := 21) rfl rfl (rng_to _) (fun g1005 => ?_) (fun g1005 => ?_)
        ·
          refine z_inc X (x := c) (lv' := [(1, .int (Int32.ofInt (c + 1))), (0, .ref (A 173))]) rfl (by decide) (List.Mem.tail _ (List.Mem.head _)) (fun _ h => h) (z_goto X (t := 2) rfl rfl (WS_pq [1, 0] (lv' := [(0, .ref (A 173)), (1, .int (Int32.ofInt (c + 1)))]) rfl ?_))
          exact ih _ (c + 1) I F (by first | exact ⟨oq_54f49eb5 hi.1, oq_aa91b9d2 g1003 b1002.2⟩ | omega) (by first | exact qk_me hm (by decide) (oq_e7680c39 g1003 b1002.2) | omega) kx
        ·
          refine z_const X rfl ?_
          exact w_iret X.1 q hRt (nar_ret (by first | exact Or.inr (by decide) | omega)) (ax_d X (show cdA 14 20 = some (.ireturn, 1, 0, 0, 0) from rfl)) (Nat.zero_le _) (Nat.zero_le _) ⟨_, rfl, I, F, 1, rfl, (by decide), by first | exact Or.inr (by decide) | omega⟩
  refine z_const X rfl (z_store_n X (lv' := [(1, .int (Int32.ofInt 0)), (0, .ref (A 173))]) rfl (by decide) (fun _ h => h) (WS_pq [1, 0] (lv' := [(0, .ref (A 173)), (1, .int (Int32.ofInt 0))]) rfl (L2 ((40 - 0 : Int).toNat + 1) s 0 I F (by first | exact ⟨by decide, by decide⟩ | omega) (Nat.lt_succ_self _) ?_)))
  intro s2 x3 Is2 Fs2 hs2
  have b4 := bi_70 Is2
  refine z_const X rfl ?_
  exact w_iret X.1 q hRt (nar_ret (by first | exact Or.inl (by decide) | omega)) (ax_d X (show cdA 14 28 = some (.ireturn, 1, 0, 0, 0) from rfl)) (Nat.zero_le _) (Nat.zero_le _) ⟨_, rfl, Is2, Fs2, 0, rfl, (by decide), by first | exact Or.inl (by decide) | omega⟩
set_option maxRecDepth 4000 in
theorem c1_nextTrial_173 (G : GX l s0 D tys a0 dT) (I : Bd s)  : CT l s0 D A dT 15 (rmN 15) [.ref (A 173)] s (fun o t => Bd t ∧ Fm [] [156] s t ∧ ∃ e, o = .inl (some (.int (Int32.ofInt e))) ∧ rng e ∧ (e = 0 ∨ e = 1)) := by
  refine ct_ofX G (by decide) (Nat.le_of_ble_eq_true rfl) (fun k X E ET hRt hXt q => ?_)
  show WS k 0 [(0, .ref (A 173))] [] _ 0 0
  have F : Fm [] [156] s s := fm_rf _ _ s
  have L2 : ∀ (n : Nat) (t : PS) (c : Int), Bd t → Fm [] [156] s t → (-1 ≤ c ∧ c ≤ 3) → (c + 1 : Int).toNat < n → (∀ (t' : PS) (c' : Int), Bd t' → Fm [] [156] s t' → (-1 ≤ c' ∧ c' ≤ 3) → WS k 41 [(0, .ref (A 173)), (1, .int (Int32.ofInt c'))] [] (Wd A dT t') 0 0) → WS k 2 [(0, .ref (A 173)), (1, .int (Int32.ofInt c))] [] (Wd A dT t) 0 0 := by
    intro n
    induction n with
    | zero =>
      intro t c I F hi hm kx
      exact absurd hm (Nat.not_lt_zero _)
    | succ n ih =>
      intro t c I F hi hm kx
      refine z_load_n X (x := c) rfl (List.Mem.tail _ (List.Mem.head _)) (z_if_lt X (t := 41) rfl rfl ⟨by first | exact oq_97ee2c2a hi.1 | omega, by first | exact oq_c5520c83 hi.2 | omega⟩ (fun g1001 => ?_) (fun g1001 => ?_))
      ·
        refine WS_pq [0, 1] (lv' := [(0, .ref (A 173)), (1, .int (Int32.ofInt c))]) rfl ?_
        exact kx _ c I F (by first | exact ⟨hi.1, hi.2⟩ | omega)
      ·
        refine z_aload_n X (x := A 173) rfl (List.Mem.head _) (s_getR X 173 rfl (c518_ok rfl) rfl rfl (z_load_n X (x := c) rfl (List.Mem.tail _ (List.Mem.head _)) (z_ald X 178 rfl (c518_ok rfl) rfl (by first | exact g1001 | omega) (show c < 4 by first | exact oq_907d7be5 hi.2 | omega) (cbig_ok rfl) ?_)))
        have b1002 := bc_156 I (show (c).toNat < 4 by first | exact oq_b6a8a4cc hi.2 | omega)
        refine z_const X rfl (z_icmp_ge X (t := 28) rfl rfl (rng_to _) (by decide) (fun g1003 => ?_) (fun g1003 => ?_))
        ·
          refine z_aload_n X (x := A 173) rfl (List.Mem.head _) (s_getR X 173 rfl (c518_ok rfl) rfl rfl (z_load_n X (x := c) rfl (List.Mem.tail _ (List.Mem.head _)) (z_const X rfl (z_ast X 178 rfl (c518_ok rfl) rfl (by first | exact g1001 | omega) (show c < 4 by first | exact oq_907d7be5 hi.2 | omega) (cbig_ok rfl) (wd_gen (fun s1004 hs1004 => ?_))))))
          have Is1004 : Bd s1004 := eqB hs1004 (bd_C I (show ((-2147483648) : Int) ≤ 0 ∧ 0 ≤ 2147483647 by first | exact ⟨by decide, by decide⟩ | omega) (by decide))
          have Fs1004 := eqF hs1004 (fm_C F (inl_ok (a := 156) rfl))
          refine z_inc X (x := c) (lv' := [(1, .int (Int32.ofInt (c + (-1)))), (0, .ref (A 173))]) rfl (by decide) (List.Mem.tail _ (List.Mem.head _)) (fun _ h => h) (z_goto X (t := 2) rfl rfl (WS_pq [1, 0] (lv' := [(0, .ref (A 173)), (1, .int (Int32.ofInt (c + (-1))))]) rfl ?_))
          exact ih _ (c + (-1)) Is1004 Fs1004 (by first | exact ⟨oq_285ed02d g1001, oq_83f8f735 hi.2⟩ | omega) (by first | exact qk_me hm (by decide) (oq_7a276f11 g1001) | omega) kx
        ·
          refine z_aload_n X (x := A 173) rfl (List.Mem.head _) (s_getR X 173 rfl (c518_ok rfl) rfl rfl (z_load_n X (x := c) rfl (List.Mem.tail _ (List.Mem.head _)) (w_dup2_11 X.1 (ax_d X (show cdA 15 21 = some (.dup2, 1, 0, 0, 0) from rfl)) rfl rfl (z_ald X 178 rfl (c518_ok rfl) rfl (by first | exact g1001 | omega) (show c < 4 by first | exact oq_907d7be5 hi.2 | omega) (cbig_ok rfl) ?_))))
          have b1005 := bc_156 I (show (c).toNat < 4 by first | exact oq_b6a8a4cc hi.2 | omega)
          refine z_const X rfl (z_add X rfl (z_ast X 178 rfl (c518_ok rfl) rfl (by first | exact g1001 | omega) (show c < 4 by first | exact oq_907d7be5 hi.2 | omega) (cbig_ok rfl) (wd_gen (fun s1006 hs1006 => ?_))))
          have Is1006 : Bd s1006 := eqB hs1006 (bd_C I (show ((-2147483648) : Int) ≤ ((iC t 156 (c).toNat) + 1) ∧ ((iC t 156 (c).toNat) + 1) ≤ 2147483647 by first | exact ⟨oq_14afcb3e b1005.1, oq_176f24f4 g1003⟩ | omega) ⟨by first | exact oq_14afcb3e b1005.1 | omega, by first | exact oq_176f24f4 g1003 | omega⟩)
          have Fs1006 := eqF hs1006 (fm_C F (inl_ok (a := 156) rfl))
          refine z_const X rfl ?_
          exact w_iret X.1 q hRt (nar_ret (by first | exact Or.inr (by decide) | omega)) (ax_d X (show cdA 15 27 = some (.ireturn, 1, 0, 0, 0) from rfl)) (Nat.zero_le _) (Nat.zero_le _) ⟨_, rfl, Is1006, Fs1006, 1, rfl, (by decide), by first | exact Or.inr (by decide) | omega⟩
  refine z_const X rfl (z_store_n X (lv' := [(1, .int (Int32.ofInt 3)), (0, .ref (A 173))]) rfl (by decide) (fun _ h => h) (WS_pq [1, 0] (lv' := [(0, .ref (A 173)), (1, .int (Int32.ofInt 3))]) rfl (L2 ((3 + 1 : Int).toNat + 1) s 3 I F (by first | exact ⟨by decide, by decide⟩ | omega) (Nat.lt_succ_self _) ?_)))
  intro s1 x2 Is1 Fs1 hs1
  refine z_const X rfl ?_
  exact w_iret X.1 q hRt (nar_ret (by first | exact Or.inl (by decide) | omega)) (ax_d X (show cdA 15 42 = some (.ireturn, 1, 0, 0, 0) from rfl)) (Nat.zero_le _) (Nat.zero_le _) ⟨_, rfl, Is1, Fs1, 0, rfl, (by decide), by first | exact Or.inl (by decide) | omega⟩
set_option maxRecDepth 4000 in
theorem c1_offOf_178 (G : GX l s0 D tys a0 dT) (I : Bd s) {y : Int} (p0 : y = 0 ∨ y = 1) : CT l s0 D A dT 16 (rmN 16) [.ref (A 173), .ref (A 178), .int (Int32.ofInt y)] s (fun o t => Bd t ∧ Fm [] [] s t ∧ ∃ e, o = .inl (some (.int (Int32.ofInt e))) ∧ rng e ∧ (True)) := by
  refine ct_ofX G (by decide) (Nat.le_of_ble_eq_true rfl) (fun k X E ET hRt hXt q => ?_)
  show WS k 0 [(0, .ref (A 173)), (1, .ref (A 178)), (2, .int (Int32.ofInt y))] [] _ 0 0
  have F : Fm [] [] s s := fm_rf _ _ s
  have b1 := bi_70 I
  have L37 : ∀ (n : Nat) (t : PS) (yv sm0 rw fr c : Int), Bd t → Fm [] [] s t → ((yv = 0 ∨ yv = 1) ∧ rng sm0 ∧ (0 ≤ rw ∧ rw ≤ 39) ∧ rng fr ∧ 0 ≤ c ∧ c ≤ 4) → (4 - c : Int).toNat < n → (∀ (t' : PS) (fr' c' : Int), Bd t' → Fm [] [] s t' → ((yv = 0 ∨ yv = 1) ∧ rng sm0 ∧ (0 ≤ rw ∧ rw ≤ 39) ∧ rng fr' ∧ 0 ≤ c' ∧ c' ≤ 4) → WS k 71 [(0, .ref (A 173)), (1, .ref (A 178)), (2, .int (Int32.ofInt yv)), (3, .int (Int32.ofInt sm0)), (4, .int (Int32.ofInt rw)), (5, .int (Int32.ofInt fr')), (6, .int (Int32.ofInt c'))] [] (Wd A dT t') 0 0) → WS k 37 [(0, .ref (A 173)), (1, .ref (A 178)), (2, .int (Int32.ofInt yv)), (3, .int (Int32.ofInt sm0)), (4, .int (Int32.ofInt rw)), (5, .int (Int32.ofInt fr)), (6, .int (Int32.ofInt c))] [] (Wd A dT t) 0 0 := by
    intro n
    induction n with
    | zero =>
      intro t yv sm0 rw fr c I F hi hm kx
      exact absurd hm (Nat.not_lt_zero _)
    | succ n ih =>
      intro t yv sm0 rw fr c I F hi hm kx
      have b1001 := bi_70 I
      refine z_load X (x := c) rfl (List.Mem.tail _ (List.Mem.tail _ (List.Mem.tail _ (List.Mem.tail _ (List.Mem.tail _ (List.Mem.tail _ (List.Mem.head _))))))) (z_const X rfl (z_icmp_ge X (t := 71) rfl rfl ⟨by first | exact oq_fa4e5087 hi.2.2.2.2.1 | omega, by first | exact oq_4a4414da hi.2.2.2.2.2 | omega⟩ (by decide) (fun g1002 => ?_) (fun g1002 => ?_)))
      ·
        refine WS_pq [0, 1, 2, 3, 4, 5, 6] (lv' := [(0, .ref (A 173)), (1, .ref (A 178)), (2, .int (Int32.ofInt yv)), (3, .int (Int32.ofInt sm0)), (4, .int (Int32.ofInt rw)), (5, .int (Int32.ofInt fr)), (6, .int (Int32.ofInt c))]) rfl ?_
        exact kx _ fr c I F (by first | exact ⟨hi.1, And.intro (hi.2.1.1) (hi.2.1.2), And.intro (hi.2.2.1.1) (hi.2.2.1.2), And.intro (hi.2.2.2.1.1) (hi.2.2.2.1.2), hi.2.2.2.2.1, hi.2.2.2.2.2⟩ | omega)
      ·
        refine z_load X (x := fr) rfl (List.Mem.tail _ (List.Mem.tail _ (List.Mem.tail _ (List.Mem.tail _ (List.Mem.tail _ (List.Mem.head _)))))) (z_aload_n X (x := A 178) rfl (List.Mem.tail _ (List.Mem.head _)) (z_load X (x := c) rfl (List.Mem.tail _ (List.Mem.tail _ (List.Mem.tail _ (List.Mem.tail _ (List.Mem.tail _ (List.Mem.tail _ (List.Mem.head _))))))) (z_ald X 178 rfl (c518_ok rfl) rfl (by first | exact hi.2.2.2.2.1 | omega) (show c < 4 by first | exact g1002 | omega) (cbig_ok rfl) ?_)))
        have b1003 := bc_156 I (show (c).toNat < 4 by first | exact oq_a274733e g1002 | omega)
        refine z_aload_n X (x := A 173) rfl (List.Mem.head _) (s_getR X 173 rfl (c518_ok rfl) rfl rfl (z_load X (x := rw) rfl (List.Mem.tail _ (List.Mem.tail _ (List.Mem.tail _ (List.Mem.tail _ (List.Mem.head _))))) (z_const X rfl (z_mul X rfl (z_load X (x := c) rfl (List.Mem.tail _ (List.Mem.tail _ (List.Mem.tail _ (List.Mem.tail _ (List.Mem.tail _ (List.Mem.tail _ (List.Mem.head _))))))) (z_add X rfl (z_ald X 174 rfl (c518_ok rfl) rfl (by first | exact oq_6af04329 hi.2.2.1.1 hi.2.2.2.2.1 | omega) (show ((rw * 4) + c) < 160 by first | exact oq_7259ae6f hi.2.2.1.2 g1002 | omega) (cbig_ok rfl) ?_)))))))
        have b1004 := bc_152 I (show (((rw * 4) + c)).toNat < 160 by first | exact oq_04b9c373 hi.2.2.1.2 g1002 | omega)
        refine z_mul X rfl (z_any (fun y1005 hy1005 => ?_))
        refine z_sub X rfl (z_any (fun y1006 hy1006 => ?_))
        refine z_store X (lv' := [(5, .int (Int32.ofInt y1006)), (0, .ref (A 173)), (1, .ref (A 178)), (2, .int (Int32.ofInt yv)), (3, .int (Int32.ofInt sm0)), (4, .int (Int32.ofInt rw)), (6, .int (Int32.ofInt c))]) rfl (by decide) (fun _ h => h) (z_inc X (x := c) (lv' := [(6, .int (Int32.ofInt (c + 1))), (5, .int (Int32.ofInt y1006)), (0, .ref (A 173)), (1, .ref (A 178)), (2, .int (Int32.ofInt yv)), (3, .int (Int32.ofInt sm0)), (4, .int (Int32.ofInt rw))]) rfl (by decide) (List.Mem.tail _ (List.Mem.tail _ (List.Mem.tail _ (List.Mem.tail _ (List.Mem.tail _ (List.Mem.tail _ (List.Mem.head _))))))) (fun _ h => h) (z_goto X (t := 37) rfl rfl (WS_pq [2, 3, 4, 5, 6, 1, 0] (lv' := [(0, .ref (A 173)), (1, .ref (A 178)), (2, .int (Int32.ofInt yv)), (3, .int (Int32.ofInt sm0)), (4, .int (Int32.ofInt rw)), (5, .int (Int32.ofInt y1006)), (6, .int (Int32.ofInt (c + 1)))]) rfl ?_)))
        exact ih _ yv sm0 rw y1006 (c + 1) I F (by first | exact ⟨hi.1, And.intro (hi.2.1.1) (hi.2.1.2), And.intro (hi.2.2.1.1) (hi.2.2.1.2), And.intro (hy1006.1) (hy1006.2), oq_54f49eb5 hi.2.2.2.2.1, oq_5b7aaf9e g1002⟩ | omega) (by first | exact qk_me hm (by decide) (oq_de1b25d0 g1002) | omega) kx
  have L5 : ∀ (n : Nat) (t : PS) (yv sm0 rw : Int), Bd t → Fm [] [] s t → ((yv = 0 ∨ yv = 1) ∧ rng sm0 ∧ 0 ≤ rw ∧ rw ≤ 40) → (40 - rw : Int).toNat < n → (∀ (t' : PS) (sm0' rw' : Int), Bd t' → Fm [] [] s t' → ((yv = 0 ∨ yv = 1) ∧ rng sm0' ∧ 0 ≤ rw' ∧ rw' ≤ 40) → WS k 85 [(0, .ref (A 173)), (1, .ref (A 178)), (2, .int (Int32.ofInt yv)), (3, .int (Int32.ofInt sm0')), (4, .int (Int32.ofInt rw'))] [] (Wd A dT t') 0 0) → WS k 5 [(0, .ref (A 173)), (1, .ref (A 178)), (2, .int (Int32.ofInt yv)), (3, .int (Int32.ofInt sm0)), (4, .int (Int32.ofInt rw))] [] (Wd A dT t) 0 0 := by
    intro n
    induction n with
    | zero =>
      intro t yv sm0 rw I F hi hm kx
      exact absurd hm (Nat.not_lt_zero _)
    | succ n ih =>
      intro t yv sm0 rw I F hi hm kx
      have b2001 := bi_70 I
      refine z_load X (x := rw) rfl (List.Mem.tail _ (List.Mem.tail _ (List.Mem.tail _ (List.Mem.tail _ (List.Mem.head _))))) (z_aload_n X (x := A 173) rfl (List.Mem.head _) (z_getI X 173 rfl (c518_ok rfl) rfl rfl ?_))
      have b2002 := bi_70 I
      refine z_icmp_ge X (t := 85) rfl rfl ⟨by first | exact oq_fa4e5087 hi.2.2.1 | omega, by first | exact oq_227d2cd7 hi.2.2.2 | omega⟩ (rng_to _) (fun g2003 => ?_) (fun g2003 => ?_)
      ·
        refine WS_pq [0, 1, 2, 3, 4] (lv' := [(0, .ref (A 173)), (1, .ref (A 178)), (2, .int (Int32.ofInt yv)), (3, .int (Int32.ofInt sm0)), (4, .int (Int32.ofInt rw))]) rfl ?_
        exact kx _ sm0 rw I F (by first | exact ⟨hi.1, And.intro (hi.2.1.1) (hi.2.1.2), hi.2.2.1, hi.2.2.2⟩ | omega)
      ·
        refine z_aload_n X (x := A 173) rfl (List.Mem.head _) (s_getR X 173 rfl (c518_ok rfl) rfl rfl (z_load X (x := rw) rfl (List.Mem.tail _ (List.Mem.tail _ (List.Mem.tail _ (List.Mem.tail _ (List.Mem.head _))))) (z_zald X 176 rfl (c518_ok rfl) rfl (by first | exact hi.2.2.1 | omega) (show rw < 40 by first | exact oq_497ff6eb g2003 b2002.2 | omega) (cbig_ok rfl) ?_)))
        have b2004 := bc_154 I (show (rw).toNat < 40 by first | exact oq_23813e7c g2003 b2002.2 | omega)
        refine z_load_n X (x := yv) rfl (List.Mem.tail _ (List.Mem.tail _ (List.Mem.head _))) (z_icmp_ne X (t := 79) rfl rfl (rng_to _) ⟨by first | exact oq_bde653e9 hi.1 | omega, by first | exact oq_4ad2cb8b hi.1 | omega⟩ (fun g2005 => ?_) (fun g2005 => ?_))
        ·
          refine z_inc X (x := rw) (lv' := [(4, .int (Int32.ofInt (rw + 1))), (0, .ref (A 173)), (1, .ref (A 178)), (2, .int (Int32.ofInt yv)), (3, .int (Int32.ofInt sm0))]) rfl (by decide) (List.Mem.tail _ (List.Mem.tail _ (List.Mem.tail _ (List.Mem.tail _ (List.Mem.head _))))) (fun _ h => h) (z_goto X (t := 5) rfl rfl (WS_pq [1, 2, 3, 4, 0] (lv' := [(0, .ref (A 173)), (1, .ref (A 178)), (2, .int (Int32.ofInt yv)), (3, .int (Int32.ofInt sm0)), (4, .int (Int32.ofInt (rw + 1)))]) rfl ?_))
          exact ih _ yv sm0 (rw + 1) I F (by first | exact ⟨hi.1, And.intro (hi.2.1.1) (hi.2.1.2), oq_54f49eb5 hi.2.2.1, oq_aa91b9d2 g2003 b2002.2⟩ | omega) (by first | exact qk_me hm (by decide) (oq_e7680c39 g2003 b2002.2) | omega) kx
        ·
          refine z_aload_n X (x := A 173) rfl (List.Mem.head _) (s_getR X 173 rfl (c518_ok rfl) rfl rfl (z_load X (x := rw) rfl (List.Mem.tail _ (List.Mem.tail _ (List.Mem.tail _ (List.Mem.tail _ (List.Mem.head _))))) (z_ald X 175 rfl (c518_ok rfl) rfl (by first | exact hi.2.2.1 | omega) (show rw < 40 by first | exact oq_497ff6eb g2003 b2002.2 | omega) (cbig_ok rfl) ?_)))
          have b2006 := bc_153 I (show (rw).toNat < 40 by first | exact oq_23813e7c g2003 b2002.2 | omega)
          refine z_store X (lv' := [(5, .int (Int32.ofInt (iC t 153 (rw).toNat))), (0, .ref (A 173)), (1, .ref (A 178)), (2, .int (Int32.ofInt yv)), (3, .int (Int32.ofInt sm0)), (4, .int (Int32.ofInt rw))]) rfl (by decide) (fun _ h => h) (z_const X rfl (z_store X (lv' := [(6, .int (Int32.ofInt 0)), (5, .int (Int32.ofInt (iC t 153 (rw).toNat))), (0, .ref (A 173)), (1, .ref (A 178)), (2, .int (Int32.ofInt yv)), (3, .int (Int32.ofInt sm0)), (4, .int (Int32.ofInt rw))]) rfl (by decide) (fun _ h => h) (WS_pq [2, 3, 4, 5, 6, 1, 0] (lv' := [(0, .ref (A 173)), (1, .ref (A 178)), (2, .int (Int32.ofInt yv)), (3, .int (Int32.ofInt sm0)), (4, .int (Int32.ofInt rw)), (5, .int (Int32.ofInt (iC t 153 (rw).toNat))), (6, .int (Int32.ofInt 0))]) rfl (L37 ((4 - 0 : Int).toNat + 1) t yv sm0 rw (iC t 153 (rw).toNat) 0 I F (by first | exact ⟨hi.1, And.intro (hi.2.1.1) (hi.2.1.2), And.intro (hi.2.2.1) (oq_60d647b9 g2003 b2002.2), And.intro (b2006.1) (b2006.2), by decide, by decide⟩ | omega) (Nat.lt_succ_self _) ?_))))
          intro s2007 x2008 x2009 Is2007 Fs2007 hs2007
          have b2010 := bi_70 Is2007
          refine z_load_n X (x := sm0) rfl (List.Mem.tail _ (List.Mem.tail _ (List.Mem.tail _ (List.Mem.head _)))) (z_load X (x := x2008) rfl (List.Mem.tail _ (List.Mem.tail _ (List.Mem.tail _ (List.Mem.tail _ (List.Mem.tail _ (List.Mem.head _)))))) (z_abs X rfl rfl (by rw [E.2.2.2]; decide) (by rw [E.2.2.2]; exact Nat.le_of_ble_eq_true rfl) (Nat.zero_le _) (Nat.zero_le _) (fun e2011 he2011 => ?_)))
          refine z_add X rfl (z_any (fun y2012 hy2012 => ?_))
          refine z_store_n X (lv' := [(3, .int (Int32.ofInt y2012)), (0, .ref (A 173)), (1, .ref (A 178)), (2, .int (Int32.ofInt yv)), (4, .int (Int32.ofInt rw)), (5, .int (Int32.ofInt x2008)), (6, .int (Int32.ofInt x2009))]) rfl (by decide) (fun _ h => h) (z_inc X (x := rw) (lv' := [(4, .int (Int32.ofInt (rw + 1))), (3, .int (Int32.ofInt y2012)), (0, .ref (A 173)), (1, .ref (A 178)), (2, .int (Int32.ofInt yv)), (5, .int (Int32.ofInt x2008)), (6, .int (Int32.ofInt x2009))]) rfl (by decide) (List.Mem.tail _ (List.Mem.tail _ (List.Mem.tail _ (List.Mem.tail _ (List.Mem.head _))))) (fun _ h => h) (z_goto X (t := 5) rfl rfl (WS_pq [2, 3, 4, 1, 0] (lv' := [(0, .ref (A 173)), (1, .ref (A 178)), (2, .int (Int32.ofInt yv)), (3, .int (Int32.ofInt y2012)), (4, .int (Int32.ofInt (rw + 1)))]) rfl ?_)))
          exact ih _ yv y2012 (rw + 1) Is2007 Fs2007 (by first | exact ⟨hs2007.1, And.intro (hy2012.1) (hy2012.2), oq_54f49eb5 hs2007.2.2.1.1, oq_c93233a9 hs2007.2.2.1.2⟩ | omega) (by first | exact qk_me hm (by decide) (oq_3e505acc hs2007.2.2.1.2) | omega) kx
  refine z_const X rfl (z_store_n X (lv' := [(3, .int (Int32.ofInt 0)), (0, .ref (A 173)), (1, .ref (A 178)), (2, .int (Int32.ofInt y))]) rfl (by decide) (fun _ h => h) (z_const X rfl (z_store X (lv' := [(4, .int (Int32.ofInt 0)), (3, .int (Int32.ofInt 0)), (0, .ref (A 173)), (1, .ref (A 178)), (2, .int (Int32.ofInt y))]) rfl (by decide) (fun _ h => h) (WS_pq [2, 3, 4, 1, 0] (lv' := [(0, .ref (A 173)), (1, .ref (A 178)), (2, .int (Int32.ofInt y)), (3, .int (Int32.ofInt 0)), (4, .int (Int32.ofInt 0))]) rfl (L5 ((40 - 0 : Int).toNat + 1) s y 0 0 I F (by first | exact ⟨p0, And.intro (by decide) (by decide), by decide, by decide⟩ | omega) (Nat.lt_succ_self _) ?_)))))
  intro s2 x3 x4 Is2 Fs2 hs2
  have b5 := bi_70 Is2
  refine z_load_n X (x := x3) rfl (List.Mem.tail _ (List.Mem.tail _ (List.Mem.tail _ (List.Mem.head _)))) ?_
  exact w_iret X.1 q hRt rfl (ax_d X (show cdA 16 86 = some (.ireturn, 1, 0, 0, 0) from rfl)) (Nat.zero_le _) (Nat.zero_le _) ⟨_, rfl, Is2, Fs2, x3, rfl, ⟨by first | exact hs2.2.1.1 | omega, by first | exact hs2.2.1.2 | omega⟩, trivial⟩
set_option maxRecDepth 4000 in
theorem c1_offOf_177 (G : GX l s0 D tys a0 dT) (I : Bd s) {y : Int} (p0 : y = 0 ∨ y = 1) : CT l s0 D A dT 16 (rmN 16) [.ref (A 173), .ref (A 177), .int (Int32.ofInt y)] s (fun o t => Bd t ∧ Fm [] [] s t ∧ ∃ e, o = .inl (some (.int (Int32.ofInt e))) ∧ rng e ∧ (True)) := by
  refine ct_ofX G (by decide) (Nat.le_of_ble_eq_true rfl) (fun k X E ET hRt hXt q => ?_)
  show WS k 0 [(0, .ref (A 173)), (1, .ref (A 177)), (2, .int (Int32.ofInt y))] [] _ 0 0
  have F : Fm [] [] s s := fm_rf _ _ s
  have b1 := bi_70 I
  have L37 : ∀ (n : Nat) (t : PS) (yv sm0 rw fr c : Int), Bd t → Fm [] [] s t → ((yv = 0 ∨ yv = 1) ∧ rng sm0 ∧ (0 ≤ rw ∧ rw ≤ 39) ∧ rng fr ∧ 0 ≤ c ∧ c ≤ 4) → (4 - c : Int).toNat < n → (∀ (t' : PS) (fr' c' : Int), Bd t' → Fm [] [] s t' → ((yv = 0 ∨ yv = 1) ∧ rng sm0 ∧ (0 ≤ rw ∧ rw ≤ 39) ∧ rng fr' ∧ 0 ≤ c' ∧ c' ≤ 4) → WS k 71 [(0, .ref (A 173)), (1, .ref (A 177)), (2, .int (Int32.ofInt yv)), (3, .int (Int32.ofInt sm0)), (4, .int (Int32.ofInt rw)), (5, .int (Int32.ofInt fr')), (6, .int (Int32.ofInt c'))] [] (Wd A dT t') 0 0) → WS k 37 [(0, .ref (A 173)), (1, .ref (A 177)), (2, .int (Int32.ofInt yv)), (3, .int (Int32.ofInt sm0)), (4, .int (Int32.ofInt rw)), (5, .int (Int32.ofInt fr)), (6, .int (Int32.ofInt c))] [] (Wd A dT t) 0 0 := by
    intro n
    induction n with
    | zero =>
      intro t yv sm0 rw fr c I F hi hm kx
      exact absurd hm (Nat.not_lt_zero _)
    | succ n ih =>
      intro t yv sm0 rw fr c I F hi hm kx
      have b1001 := bi_70 I
      refine z_load X (x := c) rfl (List.Mem.tail _ (List.Mem.tail _ (List.Mem.tail _ (List.Mem.tail _ (List.Mem.tail _ (List.Mem.tail _ (List.Mem.head _))))))) (z_const X rfl (z_icmp_ge X (t := 71) rfl rfl ⟨by first | exact oq_fa4e5087 hi.2.2.2.2.1 | omega, by first | exact oq_4a4414da hi.2.2.2.2.2 | omega⟩ (by decide) (fun g1002 => ?_) (fun g1002 => ?_)))
      ·
        refine WS_pq [0, 1, 2, 3, 4, 5, 6] (lv' := [(0, .ref (A 173)), (1, .ref (A 177)), (2, .int (Int32.ofInt yv)), (3, .int (Int32.ofInt sm0)), (4, .int (Int32.ofInt rw)), (5, .int (Int32.ofInt fr)), (6, .int (Int32.ofInt c))]) rfl ?_
        exact kx _ fr c I F (by first | exact ⟨hi.1, And.intro (hi.2.1.1) (hi.2.1.2), And.intro (hi.2.2.1.1) (hi.2.2.1.2), And.intro (hi.2.2.2.1.1) (hi.2.2.2.1.2), hi.2.2.2.2.1, hi.2.2.2.2.2⟩ | omega)
      ·
        refine z_load X (x := fr) rfl (List.Mem.tail _ (List.Mem.tail _ (List.Mem.tail _ (List.Mem.tail _ (List.Mem.tail _ (List.Mem.head _)))))) (z_aload_n X (x := A 177) rfl (List.Mem.tail _ (List.Mem.head _)) (z_load X (x := c) rfl (List.Mem.tail _ (List.Mem.tail _ (List.Mem.tail _ (List.Mem.tail _ (List.Mem.tail _ (List.Mem.tail _ (List.Mem.head _))))))) (z_ald X 177 rfl (c518_ok rfl) rfl (by first | exact hi.2.2.2.2.1 | omega) (show c < 4 by first | exact g1002 | omega) (cbig_ok rfl) ?_)))
        have b1003 := bc_155 I (show (c).toNat < 4 by first | exact oq_a274733e g1002 | omega)
        refine z_aload_n X (x := A 173) rfl (List.Mem.head _) (s_getR X 173 rfl (c518_ok rfl) rfl rfl (z_load X (x := rw) rfl (List.Mem.tail _ (List.Mem.tail _ (List.Mem.tail _ (List.Mem.tail _ (List.Mem.head _))))) (z_const X rfl (z_mul X rfl (z_load X (x := c) rfl (List.Mem.tail _ (List.Mem.tail _ (List.Mem.tail _ (List.Mem.tail _ (List.Mem.tail _ (List.Mem.tail _ (List.Mem.head _))))))) (z_add X rfl (z_ald X 174 rfl (c518_ok rfl) rfl (by first | exact oq_6af04329 hi.2.2.1.1 hi.2.2.2.2.1 | omega) (show ((rw * 4) + c) < 160 by first | exact oq_7259ae6f hi.2.2.1.2 g1002 | omega) (cbig_ok rfl) ?_)))))))
        have b1004 := bc_152 I (show (((rw * 4) + c)).toNat < 160 by first | exact oq_04b9c373 hi.2.2.1.2 g1002 | omega)
        refine z_mul X rfl (z_any (fun y1005 hy1005 => ?_))
        refine z_sub X rfl (z_any (fun y1006 hy1006 => ?_))
        refine z_store X (lv' := [(5, .int (Int32.ofInt y1006)), (0, .ref (A 173)), (1, .ref (A 177)), (2, .int (Int32.ofInt yv)), (3, .int (Int32.ofInt sm0)), (4, .int (Int32.ofInt rw)), (6, .int (Int32.ofInt c))]) rfl (by decide) (fun _ h => h) (z_inc X (x := c) (lv' := [(6, .int (Int32.ofInt (c + 1))), (5, .int (Int32.ofInt y1006)), (0, .ref (A 173)), (1, .ref (A 177)), (2, .int (Int32.ofInt yv)), (3, .int (Int32.ofInt sm0)), (4, .int (Int32.ofInt rw))]) rfl (by decide) (List.Mem.tail _ (List.Mem.tail _ (List.Mem.tail _ (List.Mem.tail _ (List.Mem.tail _ (List.Mem.tail _ (List.Mem.head _))))))) (fun _ h => h) (z_goto X (t := 37) rfl rfl (WS_pq [2, 3, 4, 5, 6, 1, 0] (lv' := [(0, .ref (A 173)), (1, .ref (A 177)), (2, .int (Int32.ofInt yv)), (3, .int (Int32.ofInt sm0)), (4, .int (Int32.ofInt rw)), (5, .int (Int32.ofInt y1006)), (6, .int (Int32.ofInt (c + 1)))]) rfl ?_)))
        exact ih _ yv sm0 rw y1006 (c + 1) I F (by first | exact ⟨hi.1, And.intro (hi.2.1.1) (hi.2.1.2), And.intro (hi.2.2.1.1) (hi.2.2.1.2), And.intro (hy1006.1) (hy1006.2), oq_54f49eb5 hi.2.2.2.2.1, oq_5b7aaf9e g1002⟩ | omega) (by first | exact qk_me hm (by decide) (oq_de1b25d0 g1002) | omega) kx
  have L5 : ∀ (n : Nat) (t : PS) (yv sm0 rw : Int), Bd t → Fm [] [] s t → ((yv = 0 ∨ yv = 1) ∧ rng sm0 ∧ 0 ≤ rw ∧ rw ≤ 40) → (40 - rw : Int).toNat < n → (∀ (t' : PS) (sm0' rw' : Int), Bd t' → Fm [] [] s t' → ((yv = 0 ∨ yv = 1) ∧ rng sm0' ∧ 0 ≤ rw' ∧ rw' ≤ 40) → WS k 85 [(0, .ref (A 173)), (1, .ref (A 177)), (2, .int (Int32.ofInt yv)), (3, .int (Int32.ofInt sm0')), (4, .int (Int32.ofInt rw'))] [] (Wd A dT t') 0 0) → WS k 5 [(0, .ref (A 173)), (1, .ref (A 177)), (2, .int (Int32.ofInt yv)), (3, .int (Int32.ofInt sm0)), (4, .int (Int32.ofInt rw))] [] (Wd A dT t) 0 0 := by
    intro n
    induction n with
    | zero =>
      intro t yv sm0 rw I F hi hm kx
      exact absurd hm (Nat.not_lt_zero _)
    | succ n ih =>
      intro t yv sm0 rw I F hi hm kx
      have b2001 := bi_70 I
      refine z_load X (x := rw) rfl (List.Mem.tail _ (List.Mem.tail _ (List.Mem.tail _ (List.Mem.tail _ (List.Mem.head _))))) (z_aload_n X (x := A 173) rfl (List.Mem.head _) (z_getI X 173 rfl (c518_ok rfl) rfl rfl ?_))
      have b2002 := bi_70 I
      refine z_icmp_ge X (t := 85) rfl rfl ⟨by first | exact oq_fa4e5087 hi.2.2.1 | omega, by first | exact oq_227d2cd7 hi.2.2.2 | omega⟩ (rng_to _) (fun g2003 => ?_) (fun g2003 => ?_)
      ·
        refine WS_pq [0, 1, 2, 3, 4] (lv' := [(0, .ref (A 173)), (1, .ref (A 177)), (2, .int (Int32.ofInt yv)), (3, .int (Int32.ofInt sm0)), (4, .int (Int32.ofInt rw))]) rfl ?_
        exact kx _ sm0 rw I F (by first | exact ⟨hi.1, And.intro (hi.2.1.1) (hi.2.1.2), hi.2.2.1, hi.2.2.2⟩ | omega)
      ·
        refine z_aload_n X (x := A 173) rfl (List.Mem.head _) (s_getR X 173 rfl (c518_ok rfl) rfl rfl (z_load X (x := rw) rfl (List.Mem.tail _ (List.Mem.tail _ (List.Mem.tail _ (List.Mem.tail _ (List.Mem.head _))))) (z_zald X 176 rfl (c518_ok rfl) rfl (by first | exact hi.2.2.1 | omega) (show rw < 40 by first | exact oq_497ff6eb g2003 b2002.2 | omega) (cbig_ok rfl) ?_)))
        have b2004 := bc_154 I (show (rw).toNat < 40 by first | exact oq_23813e7c g2003 b2002.2 | omega)
        refine z_load_n X (x := yv) rfl (List.Mem.tail _ (List.Mem.tail _ (List.Mem.head _))) (z_icmp_ne X (t := 79) rfl rfl (rng_to _) ⟨by first | exact oq_bde653e9 hi.1 | omega, by first | exact oq_4ad2cb8b hi.1 | omega⟩ (fun g2005 => ?_) (fun g2005 => ?_))
        ·
          refine z_inc X (x := rw) (lv' := [(4, .int (Int32.ofInt (rw + 1))), (0, .ref (A 173)), (1, .ref (A 177)), (2, .int (Int32.ofInt yv)), (3, .int (Int32.ofInt sm0))]) rfl (by decide) (List.Mem.tail _ (List.Mem.tail _ (List.Mem.tail _ (List.Mem.tail _ (List.Mem.head _))))) (fun _ h => h) (z_goto X (t := 5) rfl rfl (WS_pq [1, 2, 3, 4, 0] (lv' := [(0, .ref (A 173)), (1, .ref (A 177)), (2, .int (Int32.ofInt yv)), (3, .int (Int32.ofInt sm0)), (4, .int (Int32.ofInt (rw + 1)))]) rfl ?_))
          exact ih _ yv sm0 (rw + 1) I F (by first | exact ⟨hi.1, And.intro (hi.2.1.1) (hi.2.1.2), oq_54f49eb5 hi.2.2.1, oq_aa91b9d2 g2003 b2002.2⟩ | omega) (by first | exact qk_me hm (by decide) (oq_e7680c39 g2003 b2002.2) | omega) kx
        ·
          refine z_aload_n X (x := A 173) rfl (List.Mem.head _) (s_getR X 173 rfl (c518_ok rfl) rfl rfl (z_load X (x := rw) rfl (List.Mem.tail _ (List.Mem.tail _ (List.Mem.tail _ (List.Mem.tail _ (List.Mem.head _))))) (z_ald X 175 rfl (c518_ok rfl) rfl (by first | exact hi.2.2.1 | omega) (show rw < 40 by first | exact oq_497ff6eb g2003 b2002.2 | omega) (cbig_ok rfl) ?_)))
          have b2006 := bc_153 I (show (rw).toNat < 40 by first | exact oq_23813e7c g2003 b2002.2 | omega)
          refine z_store X (lv' := [(5, .int (Int32.ofInt (iC t 153 (rw).toNat))), (0, .ref (A 173)), (1, .ref (A 177)), (2, .int (Int32.ofInt yv)), (3, .int (Int32.ofInt sm0)), (4, .int (Int32.ofInt rw))]) rfl (by decide) (fun _ h => h) (z_const X rfl (z_store X (lv' := [(6, .int (Int32.ofInt 0)), (5, .int (Int32.ofInt (iC t 153 (rw).toNat))), (0, .ref (A 173)), (1, .ref (A 177)), (2, .int (Int32.ofInt yv)), (3, .int (Int32.ofInt sm0)), (4, .int (Int32.ofInt rw))]) rfl (by decide) (fun _ h => h) (WS_pq [2, 3, 4, 5, 6, 1, 0] (lv' := [(0, .ref (A 173)), (1, .ref (A 177)), (2, .int (Int32.ofInt yv)), (3, .int (Int32.ofInt sm0)), (4, .int (Int32.ofInt rw)), (5, .int (Int32.ofInt (iC t 153 (rw).toNat))), (6, .int (Int32.ofInt 0))]) rfl (L37 ((4 - 0 : Int).toNat + 1) t yv sm0 rw (iC t 153 (rw).toNat) 0 I F (by first | exact ⟨hi.1, And.intro (hi.2.1.1) (hi.2.1.2), And.intro (hi.2.2.1) (oq_60d647b9 g2003 b2002.2), And.intro (b2006.1) (b2006.2), by decide, by decide⟩ | omega) (Nat.lt_succ_self _) ?_))))
          intro s2007 x2008 x2009 Is2007 Fs2007 hs2007
          have b2010 := bi_70 Is2007
          refine z_load_n X (x := sm0) rfl (List.Mem.tail _ (List.Mem.tail _ (List.Mem.tail _ (List.Mem.head _)))) (z_load X (x := x2008) rfl (List.Mem.tail _ (List.Mem.tail _ (List.Mem.tail _ (List.Mem.tail _ (List.Mem.tail _ (List.Mem.head _)))))) (z_abs X rfl rfl (by rw [E.2.2.2]; decide) (by rw [E.2.2.2]; exact Nat.le_of_ble_eq_true rfl) (Nat.zero_le _) (Nat.zero_le _) (fun e2011 he2011 => ?_)))
          refine z_add X rfl (z_any (fun y2012 hy2012 => ?_))
          refine z_store_n X (lv' := [(3, .int (Int32.ofInt y2012)), (0, .ref (A 173)), (1, .ref (A 177)), (2, .int (Int32.ofInt yv)), (4, .int (Int32.ofInt rw)), (5, .int (Int32.ofInt x2008)), (6, .int (Int32.ofInt x2009))]) rfl (by decide) (fun _ h => h) (z_inc X (x := rw) (lv' := [(4, .int (Int32.ofInt (rw + 1))), (3, .int (Int32.ofInt y2012)), (0, .ref (A 173)), (1, .ref (A 177)), (2, .int (Int32.ofInt yv)), (5, .int (Int32.ofInt x2008)), (6, .int (Int32.ofInt x2009))]) rfl (by decide) (List.Mem.tail _ (List.Mem.tail _ (List.Mem.tail _ (List.Mem.tail _ (List.Mem.head _))))) (fun _ h => h) (z_goto X (t := 5) rfl rfl (WS_pq [2, 3, 4, 1, 0] (lv' := [(0, .ref (A 173)), (1, .ref (A 177)), (2, .int (Int32.ofInt yv)), (3, .int (Int32.ofInt y2012)), (4, .int (Int32.ofInt (rw + 1)))]) rfl ?_)))
          exact ih _ yv y2012 (rw + 1) Is2007 Fs2007 (by first | exact ⟨hs2007.1, And.intro (hy2012.1) (hy2012.2), oq_54f49eb5 hs2007.2.2.1.1, oq_c93233a9 hs2007.2.2.1.2⟩ | omega) (by first | exact qk_me hm (by decide) (oq_3e505acc hs2007.2.2.1.2) | omega) kx
  refine z_const X rfl (z_store_n X (lv' := [(3, .int (Int32.ofInt 0)), (0, .ref (A 173)), (1, .ref (A 177)), (2, .int (Int32.ofInt y))]) rfl (by decide) (fun _ h => h) (z_const X rfl (z_store X (lv' := [(4, .int (Int32.ofInt 0)), (3, .int (Int32.ofInt 0)), (0, .ref (A 173)), (1, .ref (A 177)), (2, .int (Int32.ofInt y))]) rfl (by decide) (fun _ h => h) (WS_pq [2, 3, 4, 1, 0] (lv' := [(0, .ref (A 173)), (1, .ref (A 177)), (2, .int (Int32.ofInt y)), (3, .int (Int32.ofInt 0)), (4, .int (Int32.ofInt 0))]) rfl (L5 ((40 - 0 : Int).toNat + 1) s y 0 0 I F (by first | exact ⟨p0, And.intro (by decide) (by decide), by decide, by decide⟩ | omega) (Nat.lt_succ_self _) ?_)))))
  intro s2 x3 x4 Is2 Fs2 hs2
  have b5 := bi_70 Is2
  refine z_load_n X (x := x3) rfl (List.Mem.tail _ (List.Mem.tail _ (List.Mem.tail _ (List.Mem.head _)))) ?_
  exact w_iret X.1 q hRt rfl (ax_d X (show cdA 16 86 = some (.ireturn, 1, 0, 0, 0) from rfl)) (Nat.zero_le _) (Nat.zero_le _) ⟨_, rfl, Is2, Fs2, x3, rfl, ⟨by first | exact hs2.2.1.1 | omega, by first | exact hs2.2.1.2 | omega⟩, trivial⟩
set_option maxRecDepth 4000 in
theorem c1_offBack_173 (G : GX l s0 D tys a0 dT) (I : Bd s)  : CT l s0 D A dT 13 (rmN 13) [.ref (A 173)] s (fun o t => Bd t ∧ Fm [] [] s t ∧ ∃ e, o = .inl (some (.int (Int32.ofInt e))) ∧ rng e ∧ (True)) := by
  refine ct_ofX G (by decide) (Nat.le_of_ble_eq_true rfl) (fun k X E ET hRt hXt q => ?_)
  show WS k 0 [(0, .ref (A 173))] [] _ 0 0
  have F : Fm [] [] s s := fm_rf _ _ s
  refine z_aload_n X (x := A 173) rfl (List.Mem.head _) (z_aload_n X (x := A 173) rfl (List.Mem.head _) (s_getR X 173 rfl (c518_ok rfl) rfl rfl (z_const X rfl (zcV_i0 X E 173 (As := [.ref (A 177), .int (Int32.ofInt 1)]) (st := []) rfl rfl rfl rfl (c1_offOf_177 G I (by first | exact Or.inr (by decide) | omega)) rfl (Nat.le_of_ble_eq_true rfl) (fun s1 e2 Is1 Fs1 hrs1 hps1 => ?_)))))
  have Gs1 := fm_tq F Fs1 rfl rfl
  exact w_iret X.1 q hRt rfl (ax_d X (show cdA 13 9 = some (.ireturn, 1, 0, 0, 0) from rfl)) (Nat.zero_le _) (Nat.zero_le _) ⟨_, rfl, Is1, Gs1, e2, rfl, hrs1, trivial⟩
set_option maxRecDepth 4000 in
theorem c1_solve_173 (G : GX l s0 D tys a0 dT) (I : Bd s)  : CT l s0 D A dT 12 (rmN 12) [.ref (A 173)] s (fun o t => Bd t ∧ Fm [71, 72] [156, 155] s t ∧ ∃ e, o = .inl (some (.int (Int32.ofInt e))) ∧ rng e ∧ (e = 0 ∨ e = 1)) := by
  refine ct_ofX G (by decide) (Nat.le_of_ble_eq_true rfl) (fun k X E ET hRt hXt q => ?_)
  show WS k 0 [(0, .ref (A 173))] [] _ 0 0
  have F : Fm [71, 72] [156, 155] s s := fm_rf _ _ s
  have L48 : ∀ (n : Nat) (t : PS) (mo c : Int), Bd t → Fm [71, 72] [156, 155] s t → ((mo = 0 ∨ mo = 1) ∧ 0 ≤ c ∧ c ≤ 625) → (625 - c : Int).toNat < n → (∀ (t' : PS) (mo' c' : Int), Bd t' → Fm [71, 72] [156, 155] s t' → ((mo' = 0 ∨ mo' = 1) ∧ 0 ≤ c' ∧ c' ≤ 625) → WS k 107 [(0, .ref (A 173)), (1, .int (Int32.ofInt mo')), (2, .int (Int32.ofInt c'))] [] (Wd A dT t') 0 0) → WS k 48 [(0, .ref (A 173)), (1, .int (Int32.ofInt mo)), (2, .int (Int32.ofInt c))] [] (Wd A dT t) 0 0 := by
    intro n
    induction n with
    | zero =>
      intro t mo c I F hi hm kx
      exact absurd hm (Nat.not_lt_zero _)
    | succ n ih =>
      intro t mo c I F hi hm kx
      refine z_load_n X (x := c) rfl (List.Mem.tail _ (List.Mem.tail _ (List.Mem.head _))) (z_sipush X rfl (z_icmp_ge X (t := 107) rfl rfl ⟨by first | exact oq_fa4e5087 hi.2.1 | omega, by first | exact oq_82406429 hi.2.2 | omega⟩ (by decide) (fun g1001 => ?_) (fun g1001 => ?_)))
      ·
        refine WS_pq [0, 1, 2] (lv' := [(0, .ref (A 173)), (1, .int (Int32.ofInt mo)), (2, .int (Int32.ofInt c))]) rfl ?_
        exact kx _ mo c I F (by first | exact ⟨hi.1, hi.2.1, hi.2.2⟩ | omega)
      ·
        refine z_load_n X (x := mo) rfl (List.Mem.tail _ (List.Mem.head _)) (z_if_eq X (t := 107) rfl rfl ⟨by first | exact oq_bde653e9 hi.1 | omega, by first | exact oq_4ad2cb8b hi.1 | omega⟩ (fun g1002 => ?_) (fun g1002 => ?_))
        ·
          refine WS_pq [0, 1, 2] (lv' := [(0, .ref (A 173)), (1, .int (Int32.ofInt mo)), (2, .int (Int32.ofInt c))]) rfl ?_
          exact kx _ mo c I F (by first | exact ⟨hi.1, hi.2.1, hi.2.2⟩ | omega)
        ·
          refine z_aload_n X (x := A 173) rfl (List.Mem.head _) (z_aload_n X (x := A 173) rfl (List.Mem.head _) (s_getR X 173 rfl (c518_ok rfl) rfl rfl (z_const X rfl (zcV_i0 X E 173 (As := [.ref (A 178), .int (Int32.ofInt 0)]) (st := []) rfl rfl rfl rfl (c1_offOf_178 G I (by first | exact Or.inl (by decide) | omega)) rfl (Nat.le_of_ble_eq_true rfl) (fun s1003 e1004 Is1003 Fs1003 hrs1003 hps1003 => ?_)))))
          have Gs1003 := fm_tq F Fs1003 rfl rfl
          refine z_store_n X (lv' := [(3, .int (Int32.ofInt e1004)), (0, .ref (A 173)), (1, .int (Int32.ofInt mo)), (2, .int (Int32.ofInt c))]) rfl (by decide) (fun _ h => h) (z_load_n X (x := e1004) rfl (List.Mem.head _) (z_aload_n X (x := A 173) rfl (List.Mem.tail _ (List.Mem.head _)) (z_getI X 173 rfl (c518_ok rfl) rfl rfl ?_)))
          have b1005 := bi_72 Is1003
          refine z_icmp_ge X (t := 96) rfl rfl hrs1003 (rng_to _) (fun g1006 => ?_) (fun g1006 => ?_)
          ·
            refine z_aload_n X (x := A 173) rfl (List.Mem.tail _ (List.Mem.head _)) (zcV_i0 X E 173 (As := []) (st := []) rfl rfl rfl rfl (c1_nextTrial_173 G Is1003 ) rfl (Nat.le_of_ble_eq_true rfl) (fun s1007 e1008 Is1007 Fs1007 hrs1007 hps1007 => ?_))
            have Gs1007 := fm_tq Gs1003 Fs1007 rfl rfl
            refine z_store_n X (lv' := [(1, .int (Int32.ofInt e1008)), (3, .int (Int32.ofInt e1004)), (0, .ref (A 173)), (2, .int (Int32.ofInt c))]) rfl (by decide) (fun _ h => h) (z_inc X (x := c) (lv' := [(2, .int (Int32.ofInt (c + 1))), (1, .int (Int32.ofInt e1008)), (3, .int (Int32.ofInt e1004)), (0, .ref (A 173))]) rfl (by decide) (List.Mem.tail _ (List.Mem.tail _ (List.Mem.tail _ (List.Mem.head _)))) (fun _ h => h) (z_goto X (t := 48) rfl rfl (WS_pq [3, 1, 0] (lv' := [(0, .ref (A 173)), (1, .int (Int32.ofInt e1008)), (2, .int (Int32.ofInt (c + 1)))]) rfl ?_)))
            exact ih _ e1008 (c + 1) Is1007 Gs1007 (by first | exact ⟨hps1007, oq_54f49eb5 hi.2.1, oq_d524a3cb g1001⟩ | omega) (by first | exact qk_me hm (by decide) (oq_ad009edd g1001) | omega) kx
          ·
            refine z_aload_n X (x := A 173) rfl (List.Mem.tail _ (List.Mem.head _)) (z_load_n X (x := e1004) rfl (List.Mem.head _) (s_putI X 173 rfl (c518_ok rfl) rfl rfl (by decide) rfl rfl rfl (wd_gen (fun s1009 hs1009 => ?_))))
            have Is1009 : Bd s1009 := eqB hs1009 (bd_I Is1003 (show ((-2147483648) : Int) ≤ e1004 ∧ e1004 ≤ 2147483647 by first | exact ⟨by first | (clear g1002; omega) | omega, oq_ef392b12 g1006 b1005.2⟩ | omega) hrs1003)
            have Fs1009 := eqF hs1009 (fm_I Gs1003 (inl_ok (a := 72) rfl))
            have vs1009 : iI s1009 72 = e1004 := eqI hs1009 (iI_u hrs1003)
            refine z_aload_n X (x := A 173) rfl (List.Mem.tail _ (List.Mem.head _)) (s_getR X 173 rfl (c518_ok rfl) rfl rfl (z_const X rfl (z_aload_n X (x := A 173) rfl (List.Mem.tail _ (List.Mem.head _)) (s_getR X 173 rfl (c518_ok rfl) rfl rfl (z_const X rfl (z_const X rfl (z_copy X Is1009 178 177 (st := []) rfl (by decide) (by decide) rfl rfl (by first | (clear g1002; omega) | omega) (by first | (clear g1002; omega) | omega) (by first | (clear g1002; omega) | omega) (show 0 + 4 ≤ ((4 : Nat) : Int) by first | (clear g1002; omega) | omega) (show 0 + 4 ≤ ((4 : Nat) : Int) by first | (clear g1002; omega) | omega) (by decide) (by rw [E.2.2.2]; decide) (by rw [E.2.2.2]; exact Nat.le_of_ble_eq_true rfl) (fun s1010 Is1010 Fs1010 => ?_))))))))
            have Gs1010 := fm_tq Fs1009 Fs1010 rfl rfl
            refine z_aload_n X (x := A 173) rfl (List.Mem.tail _ (List.Mem.head _)) (zcV_i0 X E 173 (As := []) (st := []) rfl rfl rfl rfl (c1_nextTrial_173 G Is1010 ) rfl (Nat.le_of_ble_eq_true rfl) (fun s1011 e1012 Is1011 Fs1011 hrs1011 hps1011 => ?_))
            have Gs1011 := fm_tq Gs1010 Fs1011 rfl rfl
            refine z_store_n X (lv' := [(1, .int (Int32.ofInt e1012)), (3, .int (Int32.ofInt e1004)), (0, .ref (A 173)), (2, .int (Int32.ofInt c))]) rfl (by decide) (fun _ h => h) (z_inc X (x := c) (lv' := [(2, .int (Int32.ofInt (c + 1))), (1, .int (Int32.ofInt e1012)), (3, .int (Int32.ofInt e1004)), (0, .ref (A 173))]) rfl (by decide) (List.Mem.tail _ (List.Mem.tail _ (List.Mem.tail _ (List.Mem.head _)))) (fun _ h => h) (z_goto X (t := 48) rfl rfl (WS_pq [3, 1, 0] (lv' := [(0, .ref (A 173)), (1, .int (Int32.ofInt e1012)), (2, .int (Int32.ofInt (c + 1)))]) rfl ?_)))
            exact ih _ e1012 (c + 1) Is1011 Gs1011 (by first | exact ⟨hps1011, oq_54f49eb5 hi.2.1, oq_d524a3cb g1001⟩ | omega) (by first | exact qk_me hm (by decide) (oq_ad009edd g1001) | omega) kx
  refine z_aload_n X (x := A 173) rfl (List.Mem.head _) (zcV_i0 X E 173 (As := []) (st := []) rfl rfl rfl rfl (c1_anyRow_173 G I ) rfl (Nat.le_of_ble_eq_true rfl) (fun s1 e2 Is1 Fs1 hrs1 hps1 => ?_))
  have Gs1 := fm_tq F Fs1 rfl rfl
  refine z_if_ne X (t := 9) rfl rfl hrs1 (fun g3 => ?_) (fun g3 => ?_)
  ·
    refine z_aload_n X (x := A 173) rfl (List.Mem.head _) (z_getI X 173 rfl (c518_ok rfl) rfl rfl ?_)
    have b4 := bi_71 Is1
    refine z_aload_n X (x := A 173) rfl (List.Mem.head _) (z_getI X 173 rfl (c518_ok rfl) rfl rfl ?_)
    have b5 := bi_70 Is1
    refine z_icmp_ne X (t := 22) rfl rfl (rng_to _) (rng_to _) (fun g6 => ?_) (fun g6 => ?_)
    ·
      refine z_aload_n X (x := A 173) rfl (List.Mem.head _) (z_aload_n X (x := A 173) rfl (List.Mem.head _) (z_getI X 173 rfl (c518_ok rfl) rfl rfl ?_))
      have b7 := bi_70 Is1
      refine s_putI X 173 rfl (c518_ok rfl) rfl rfl (by decide) rfl rfl rfl (wd_gen (fun s8 hs8 => ?_))
      have Is8 : Bd s8 := eqB hs8 (bd_I Is1 (show ((-2147483648) : Int) ≤ (iI s1 70) ∧ (iI s1 70) ≤ 2147483647 by first | exact ⟨oq_fa4e5087 b7.1, oq_227d2cd7 b7.2⟩ | omega) (rng_to _))
      have Fs8 := eqF hs8 (fm_I Gs1 (inl_ok (a := 71) rfl))
      have vs8 : iI s8 71 = (iI s1 70) := eqI hs8 (iI_u (rng_to _))
      refine z_aload_n X (x := A 173) rfl (List.Mem.head _) (s_getR X 173 rfl (c518_ok rfl) rfl rfl (z_const X rfl (zcS_v0 X E (As := [.ref (A 178), .int (Int32.ofInt 0)]) (st := []) rfl rfl (j_fill_178 G Is8 (by first | exact ⟨by decide, by decide⟩ | omega)) rfl (Nat.le_of_ble_eq_true rfl) (fun s9 Is9 Fs9 hps9 => ?_))))
      have Gs9 := fm_tq Fs8 Fs9 rfl rfl
      refine z_aload_n X (x := A 173) rfl (List.Mem.head _) (z_ldc X rfl (s_putI X 173 rfl (c518_ok rfl) rfl rfl (by decide) rfl rfl rfl (wd_gen (fun s11 hs11 => ?_))))
      have Is11 : Bd s11 := eqB hs11 (bd_I Is9 (show ((-2147483648) : Int) ≤ 2147483647 ∧ 2147483647 ≤ 2147483647 by first | exact ⟨by decide, by decide⟩ | omega) (by decide))
      have Fs11 := eqF hs11 (fm_I Gs9 (inl_ok (a := 72) rfl))
      have vs11 : iI s11 72 = 2147483647 := eqI hs11 (iI_u (by decide))
      refine z_const X rfl (z_store_n X (lv' := [(1, .int (Int32.ofInt 1)), (0, .ref (A 173))]) rfl (by decide) (fun _ h => h) (z_const X rfl (z_store_n X (lv' := [(2, .int (Int32.ofInt 0)), (1, .int (Int32.ofInt 1)), (0, .ref (A 173))]) rfl (by decide) (fun _ h => h) (WS_pq [2, 1, 0] (lv' := [(0, .ref (A 173)), (1, .int (Int32.ofInt 1)), (2, .int (Int32.ofInt 0))]) rfl (L48 ((625 - 0 : Int).toNat + 1) s11 1 0 Is11 Fs11 (by first | exact ⟨Or.inr (by decide), by decide, by decide⟩ | omega) (Nat.lt_succ_self _) ?_)))))
      intro s12 x13 x14 Is12 Fs12 hs12
      refine z_const X rfl ?_
      exact w_iret X.1 q hRt (nar_ret (by first | exact Or.inr (by decide) | omega)) (ax_d X (show cdA 12 108 = some (.ireturn, 1, 0, 0, 0) from rfl)) (Nat.zero_le _) (Nat.zero_le _) ⟨_, rfl, Is12, Fs12, 1, rfl, (by decide), by first | exact Or.inr (by decide) | omega⟩
    ·
      refine z_const X rfl ?_
      exact w_iret X.1 q hRt (nar_ret (by first | exact Or.inr (by decide) | omega)) (ax_d X (show cdA 12 21 = some (.ireturn, 1, 0, 0, 0) from rfl)) (Nat.zero_le _) (Nat.zero_le _) ⟨_, rfl, Is1, Gs1, 1, rfl, (by decide), by first | exact Or.inr (by decide) | omega⟩
  ·
    refine z_const X rfl ?_
    exact w_iret X.1 q hRt (nar_ret (by first | exact Or.inl (by decide) | omega)) (ax_d X (show cdA 12 8 = some (.ireturn, 1, 0, 0, 0) from rfl)) (Nat.zero_le _) (Nat.zero_le _) ⟨_, rfl, Is1, Gs1, 0, rfl, (by decide), by first | exact Or.inl (by decide) | omega⟩
set_option maxRecDepth 4000 in
theorem c4_needAt_54 (G : GX l s0 D tys a0 dT) (I : Bd s) {x : Int} (p0 : 0 ≤ x ∧ x ≤ 23) : CT l s0 D A dT 44 (rmN 44) [.ref (A 54), .int (Int32.ofInt x)] s (fun o t => Bd t ∧ Fm [] [] s t ∧ ∃ e, o = .inl (some (.int (Int32.ofInt e))) ∧ rng e ∧ (True)) := by
  refine ct_ofX G (by decide) (Nat.le_of_ble_eq_true rfl) (fun k X E ET hRt hXt q => ?_)
  show WS k 0 [(0, .ref (A 54)), (1, .int (Int32.ofInt x))] [] _ 0 0
  have F : Fm [] [] s s := fm_rf _ _ s
  refine z_aload_n X (x := A 54) rfl (List.Mem.head _) (s_getR X 54 rfl (c518_ok rfl) rfl rfl (z_aload_n X (x := A 54) rfl (List.Mem.head _) (s_getR X 54 rfl (c518_ok rfl) rfl rfl (z_load_n X (x := x) rfl (List.Mem.tail _ (List.Mem.head _)) (z_ald X 60 rfl (c518_ok rfl) rfl (by first | exact p0.1 | omega) (show x < 24 by first | exact oq_7fdb8aa6 p0.2 | omega) (cbig_ok rfl) ?_)))))
  have b1 := bc_51 I (show (x).toNat < 24 by first | exact oq_138251d6 p0.2 | omega)
  refine z_ald X 56 rfl (c518_ok rfl) rfl (by first | exact b1.1 | omega) (show (iC s 51 (x).toNat) < 6 by first | exact oq_9207f8f8 b1.2 | omega) (cbig_ok rfl) ?_
  have b2 := bc_47 I (show ((iC s 51 (x).toNat)).toNat < 6 by first | exact oq_78f9cd89 b1.2 | omega)
  exact w_iret X.1 q hRt rfl (ax_d X (show cdA 44 11 = some (.ireturn, 1, 0, 0, 0) from rfl)) (Nat.zero_le _) (Nat.zero_le _) ⟨_, rfl, I, F, (iC s 47 ((iC s 51 (x).toNat)).toNat), rfl, (rng_to _), trivial⟩
set_option maxRecDepth 4000 in
theorem c4_add_54 (G : GX l s0 D tys a0 dT) (I : Bd s) {x : Int} (p0 : 0 ≤ x ∧ x ≤ 16777215) : CT l s0 D A dT 43 (rmN 43) [.ref (A 54), .int (Int32.ofInt x)] s (fun o t => Bd t ∧ Fm [32] [46] s t ∧ ∃ e, o = .inl (some (.int (Int32.ofInt e))) ∧ rng e ∧ ((iI s 32 ≤ 5 ∧ iI t 32 = iI s 32 + 1 ∧ e = iI s 32) ∨ (iI s 32 = 6 ∧ iI t 32 = 6 ∧ e = -1))) := by
  refine ct_ofX G (by decide) (Nat.le_of_ble_eq_true rfl) (fun k X E ET hRt hXt q => ?_)
  show WS k 0 [(0, .ref (A 54)), (1, .int (Int32.ofInt x))] [] _ 0 0
  have F : Fm [32] [46] s s := fm_rf _ _ s
  have b1 := bi_32 I
  refine z_aload_n X (x := A 54) rfl (List.Mem.head _) (z_getI X 54 rfl (c518_ok rfl) rfl rfl ?_)
  have b2 := bi_32 I
  refine z_bipush X rfl (z_icmp_lt X (t := 11) rfl rfl (rng_to _) (by decide) (fun g3 => ?_) (fun g3 => ?_))
  ·
    refine z_aload_n X (x := A 54) rfl (List.Mem.head _) (s_getR X 54 rfl (c518_ok rfl) rfl rfl (z_aload_n X (x := A 54) rfl (List.Mem.head _) (z_getI X 54 rfl (c518_ok rfl) rfl rfl ?_)))
    have b4 := bi_32 I
    refine z_load_n X (x := x) rfl (List.Mem.tail _ (List.Mem.head _)) (z_ast X 55 rfl (c518_ok rfl) rfl (by first | exact b4.1 | omega) (show (iI s 32) < 6 by first | exact g3 | omega) (cbig_ok rfl) (wd_gen (fun s5 hs5 => ?_)))
    have Is5 : Bd s5 := eqB hs5 (bd_C I (show (0 : Int) ≤ x ∧ x ≤ 16777215 by first | exact ⟨p0.1, p0.2⟩ | omega) ⟨by first | exact oq_fa4e5087 p0.1 | omega, by first | exact oq_996e9f4e p0.2 | omega⟩)
    have Fs5 := eqF hs5 (fm_C F (inl_ok (a := 46) rfl))
    have ws5_32 : iI s5 32 = iI s 32 := eqI hs5 rfl
    refine z_aload_n X (x := A 54) rfl (List.Mem.head _) (w_dup X.1 (ax_d X (show cdA 43 22 = some (.dup, 1, 0, 0, 0) from rfl)) rfl (z_getI X 54 rfl (c518_ok rfl) rfl rfl ?_))
    have b6 := bi_32 Is5
    refine z_const X rfl (z_add X rfl (s_putI X 54 rfl (c518_ok rfl) rfl rfl (by decide) rfl rfl rfl (wd_gen (fun s7 hs7 => ?_))))
    have Is7 : Bd s7 := eqB hs7 (bd_I Is5 (show (0 : Int) ≤ ((iI s5 32) + 1) ∧ ((iI s5 32) + 1) ≤ 6 by first | exact ⟨oq_54f49eb5 b6.1, oq_d8f0483d ws5_32 g3⟩ | omega) ⟨by first | exact oq_74de1e16 b6.1 | omega, by first | exact oq_5fe14c36 b6.2 | omega⟩)
    have Fs7 := eqF hs7 (fm_I Fs5 (inl_ok (a := 32) rfl))
    have vs7 : iI s7 32 = ((iI s5 32) + 1) := eqI hs7 (iI_u ⟨by first | exact oq_74de1e16 b6.1 | omega, by first | exact oq_5fe14c36 b6.2 | omega⟩)
    refine z_aload_n X (x := A 54) rfl (List.Mem.head _) (z_getI X 54 rfl (c518_ok rfl) rfl rfl ?_)
    have b8 := bi_32 Is7
    refine z_const X rfl (z_sub X rfl ?_)
    exact w_iret X.1 q hRt rfl (ax_d X (show cdA 43 37 = some (.ireturn, 1, 0, 0, 0) from rfl)) (Nat.zero_le _) (Nat.zero_le _) ⟨_, rfl, Is7, Fs7, ((iI s7 32) - 1), rfl, ⟨by first | exact oq_c1e961c7 b8.1 | omega, by first | exact oq_b383b26c b8.2 | omega⟩, by first | exact Or.inl (And.intro (oq_a4cef127 g3) (And.intro (oq_665cd23d vs7 ws5_32) (oq_5e19d6ec vs7 ws5_32))) | omega⟩
  ·
    refine z_const X rfl ?_
    exact w_iret X.1 q hRt rfl (ax_d X (show cdA 43 10 = some (.ireturn, 1, 0, 0, 0) from rfl)) (Nat.zero_le _) (Nat.zero_le _) ⟨_, rfl, I, F, (-1), rfl, (by decide), by first | exact Or.inr (And.intro (oq_0dbc568f b2.2 g3) (And.intro (oq_0dbc568f b2.2 g3) (by decide))) | omega⟩
set_option maxRecDepth 4000 in
theorem c6_setWork_61 (G : GX l s0 D tys a0 dT) (I : Bd s) {x : Int} (p0 : 1 ≤ x ∧ x ≤ 24) : CT l s0 D A dT 60 (rmN 60) [.ref (A 61), .int (Int32.ofInt x)] s (fun o t => Bd t ∧ Fm [36] [] s t ∧ ∃ e, o = .inl (some (.int (Int32.ofInt e))) ∧ rng e ∧ (e = iI s 36 ∧ iI t 36 = x)) := by
  refine ct_ofX G (by decide) (Nat.le_of_ble_eq_true rfl) (fun k X E ET hRt hXt q => ?_)
  show WS k 0 [(0, .ref (A 61)), (1, .int (Int32.ofInt x))] [] _ 0 0
  have F : Fm [36] [] s s := fm_rf _ _ s
  have b1 := bi_36 I
  refine z_aload_n X (x := A 61) rfl (List.Mem.head _) (z_getI X 61 rfl (c518_ok rfl) rfl rfl ?_)
  have b2 := bi_36 I
  refine z_store_n X (lv' := [(2, .int (Int32.ofInt (iI s 36))), (0, .ref (A 61)), (1, .int (Int32.ofInt x))]) rfl (by decide) (fun _ h => h) (z_aload_n X (x := A 61) rfl (List.Mem.tail _ (List.Mem.head _)) (z_load_n X (x := x) rfl (List.Mem.tail _ (List.Mem.tail _ (List.Mem.head _))) (s_putI X 61 rfl (c518_ok rfl) rfl rfl (by decide) rfl rfl rfl (wd_gen (fun s3 hs3 => ?_)))))
  have Is3 : Bd s3 := eqB hs3 (bd_I I (show (1 : Int) ≤ x ∧ x ≤ 24 by first | exact ⟨p0.1, p0.2⟩ | omega) ⟨by first | exact oq_9462313e p0.1 | omega, by first | exact oq_5bcd337f p0.2 | omega⟩)
  have Fs3 := eqF hs3 (fm_I F (inl_ok (a := 36) rfl))
  have vs3 : iI s3 36 = x := eqI hs3 (iI_u ⟨by first | exact oq_9462313e p0.1 | omega, by first | exact oq_5bcd337f p0.2 | omega⟩)
  refine z_load_n X (x := (iI s 36)) rfl (List.Mem.head _) ?_
  exact w_iret X.1 q hRt rfl (ax_d X (show cdA 60 11 = some (.ireturn, 1, 0, 0, 0) from rfl)) (Nat.zero_le _) (Nat.zero_le _) ⟨_, rfl, Is3, Fs3, (iI s 36), rfl, (rng_to _), by first | exact ⟨by decide, vs3⟩ | omega⟩
set_option maxRecDepth 4000 in
theorem c6_setRest_61 (G : GX l s0 D tys a0 dT) (I : Bd s) {x : Int} (p0 : 1 ≤ x ∧ x ≤ 8) : CT l s0 D A dT 61 (rmN 61) [.ref (A 61), .int (Int32.ofInt x)] s (fun o t => Bd t ∧ Fm [37] [] s t ∧ ∃ e, o = .inl (some (.int (Int32.ofInt e))) ∧ rng e ∧ (e = iI s 37 ∧ iI t 37 = x)) := by
  refine ct_ofX G (by decide) (Nat.le_of_ble_eq_true rfl) (fun k X E ET hRt hXt q => ?_)
  show WS k 0 [(0, .ref (A 61)), (1, .int (Int32.ofInt x))] [] _ 0 0
  have F : Fm [37] [] s s := fm_rf _ _ s
  have b1 := bi_37 I
  refine z_aload_n X (x := A 61) rfl (List.Mem.head _) (z_getI X 61 rfl (c518_ok rfl) rfl rfl ?_)
  have b2 := bi_37 I
  refine z_store_n X (lv' := [(2, .int (Int32.ofInt (iI s 37))), (0, .ref (A 61)), (1, .int (Int32.ofInt x))]) rfl (by decide) (fun _ h => h) (z_aload_n X (x := A 61) rfl (List.Mem.tail _ (List.Mem.head _)) (z_load_n X (x := x) rfl (List.Mem.tail _ (List.Mem.tail _ (List.Mem.head _))) (s_putI X 61 rfl (c518_ok rfl) rfl rfl (by decide) rfl rfl rfl (wd_gen (fun s3 hs3 => ?_)))))
  have Is3 : Bd s3 := eqB hs3 (bd_I I (show (1 : Int) ≤ x ∧ x ≤ 8 by first | exact ⟨p0.1, p0.2⟩ | omega) ⟨by first | exact oq_9462313e p0.1 | omega, by first | exact oq_d3f5d874 p0.2 | omega⟩)
  have Fs3 := eqF hs3 (fm_I F (inl_ok (a := 37) rfl))
  have vs3 : iI s3 37 = x := eqI hs3 (iI_u ⟨by first | exact oq_9462313e p0.1 | omega, by first | exact oq_d3f5d874 p0.2 | omega⟩)
  refine z_load_n X (x := (iI s 37)) rfl (List.Mem.head _) ?_
  exact w_iret X.1 q hRt rfl (ax_d X (show cdA 61 11 = some (.ireturn, 1, 0, 0, 0) from rfl)) (Nat.zero_le _) (Nat.zero_le _) ⟨_, rfl, Is3, Fs3, (iI s 37), rfl, (rng_to _), by first | exact ⟨by decide, vs3⟩ | omega⟩
set_option maxRecDepth 4000 in
theorem c6_mayGoOn_61 (G : GX l s0 D tys a0 dT) (I : Bd s) {x y : Int} (p0 : 1 ≤ x ∧ x ≤ 8) (p1 : 0 ≤ y ∧ y ≤ 23) : CT l s0 D A dT 63 (rmN 63) [.ref (A 61), .int (Int32.ofInt x), .int (Int32.ofInt y)] s (fun o t => Bd t ∧ Fm [] [] s t ∧ ∃ e, o = .inl (some (.int (Int32.ofInt e))) ∧ rng e ∧ (True)) := by
  refine ct_ofX G (by decide) (Nat.le_of_ble_eq_true rfl) (fun k X E ET hRt hXt q => ?_)
  show WS k 0 [(0, .ref (A 61)), (1, .int (Int32.ofInt x)), (2, .int (Int32.ofInt y))] [] _ 0 0
  have F : Fm [] [] s s := fm_rf _ _ s
  have L5 : ∀ (n : Nat) (t : PS) (xv yv bi p : Int), Bd t → Fm [] [] s t → ((1 ≤ xv ∧ xv ≤ 8) ∧ (0 ≤ yv ∧ yv ≤ 23) ∧ rng bi ∧ 0 ≤ p ∧ p ≤ 8) → (8 - p : Int).toNat < n → (∀ (t' : PS) (bi' p' : Int), Bd t' → Fm [] [] s t' → ((1 ≤ xv ∧ xv ≤ 8) ∧ (0 ≤ yv ∧ yv ≤ 23) ∧ rng bi' ∧ 0 ≤ p' ∧ p' ≤ 8) → WS k 59 [(0, .ref (A 61)), (1, .int (Int32.ofInt xv)), (2, .int (Int32.ofInt yv)), (3, .int (Int32.ofInt bi')), (4, .int (Int32.ofInt p'))] [] (Wd A dT t') 0 0) → WS k 5 [(0, .ref (A 61)), (1, .int (Int32.ofInt xv)), (2, .int (Int32.ofInt yv)), (3, .int (Int32.ofInt bi)), (4, .int (Int32.ofInt p))] [] (Wd A dT t) 0 0 := by
    intro n
    induction n with
    | zero =>
      intro t xv yv bi p I F hi hm kx
      exact absurd hm (Nat.not_lt_zero _)
    | succ n ih =>
      intro t xv yv bi p I F hi hm kx
      refine z_load X (x := p) rfl (List.Mem.tail _ (List.Mem.tail _ (List.Mem.tail _ (List.Mem.tail _ (List.Mem.head _))))) (z_load_n X (x := xv) rfl (List.Mem.tail _ (List.Mem.head _)) (z_icmp_ge X (t := 59) rfl rfl ⟨by first | exact oq_fa4e5087 hi.2.2.2.1 | omega, by first | exact oq_d3f5d874 hi.2.2.2.2 | omega⟩ ⟨by first | exact oq_9462313e hi.1.1 | omega, by first | exact oq_d3f5d874 hi.1.2 | omega⟩ (fun g1001 => ?_) (fun g1001 => ?_)))
      ·
        refine WS_pq [0, 1, 2, 3, 4] (lv' := [(0, .ref (A 61)), (1, .int (Int32.ofInt xv)), (2, .int (Int32.ofInt yv)), (3, .int (Int32.ofInt bi)), (4, .int (Int32.ofInt p))]) rfl ?_
        exact kx _ bi p I F (by first | exact ⟨And.intro (hi.1.1) (hi.1.2), And.intro (hi.2.1.1) (hi.2.1.2), And.intro (hi.2.2.1.1) (hi.2.2.1.2), hi.2.2.2.1, hi.2.2.2.2⟩ | omega)
      ·
        refine z_aload_n X (x := A 61) rfl (List.Mem.head _) (s_getR X 61 rfl (c518_ok rfl) rfl rfl (z_load X (x := p) rfl (List.Mem.tail _ (List.Mem.tail _ (List.Mem.tail _ (List.Mem.tail _ (List.Mem.head _))))) (z_ald X 63 rfl (c518_ok rfl) rfl (by first | exact hi.2.2.2.1 | omega) (show p < 8 by first | exact oq_7f5b2e79 g1001 hi.1.2 | omega) (cbig_ok rfl) ?_)))
        have b1002 := bc_53 I (show (p).toNat < 8 by first | exact oq_67be0351 g1001 hi.1.2 | omega)
        refine z_if_le X (t := 53) rfl rfl (rng_to _) (fun g1003 => ?_) (fun g1003 => ?_)
        ·
          refine z_inc X (x := p) (lv' := [(4, .int (Int32.ofInt (p + 1))), (0, .ref (A 61)), (1, .int (Int32.ofInt xv)), (2, .int (Int32.ofInt yv)), (3, .int (Int32.ofInt bi))]) rfl (by decide) (List.Mem.tail _ (List.Mem.tail _ (List.Mem.tail _ (List.Mem.tail _ (List.Mem.head _))))) (fun _ h => h) (z_goto X (t := 5) rfl rfl (WS_pq [1, 2, 3, 4, 0] (lv' := [(0, .ref (A 61)), (1, .int (Int32.ofInt xv)), (2, .int (Int32.ofInt yv)), (3, .int (Int32.ofInt bi)), (4, .int (Int32.ofInt (p + 1)))]) rfl ?_))
          exact ih _ xv yv bi (p + 1) I F (by first | exact ⟨And.intro (hi.1.1) (hi.1.2), And.intro (hi.2.1.1) (hi.2.1.2), And.intro (hi.2.2.1.1) (hi.2.2.1.2), oq_54f49eb5 hi.2.2.2.1, oq_f6204d84 g1001 hi.1.2⟩ | omega) (by first | exact qk_me hm (by decide) (oq_ccc5e5e0 g1001 hi.1.2) | omega) kx
        ·
          refine z_aload_n X (x := A 61) rfl (List.Mem.head _) (s_getR X 61 rfl (c518_ok rfl) rfl rfl (z_load X (x := p) rfl (List.Mem.tail _ (List.Mem.tail _ (List.Mem.tail _ (List.Mem.tail _ (List.Mem.head _))))) (z_ald X 63 rfl (c518_ok rfl) rfl (by first | exact hi.2.2.2.1 | omega) (show p < 8 by first | exact oq_7f5b2e79 g1001 hi.1.2 | omega) (cbig_ok rfl) ?_)))
          have b1004 := bc_53 I (show (p).toNat < 8 by first | exact oq_67be0351 g1001 hi.1.2 | omega)
          refine z_aload_n X (x := A 61) rfl (List.Mem.head _) (z_getI X 61 rfl (c518_ok rfl) rfl rfl ?_)
          have b1005 := bi_36 I
          refine z_icmp_ge X (t := 53) rfl rfl (rng_to _) (rng_to _) (fun g1006 => ?_) (fun g1006 => ?_)
          ·
            refine z_inc X (x := p) (lv' := [(4, .int (Int32.ofInt (p + 1))), (0, .ref (A 61)), (1, .int (Int32.ofInt xv)), (2, .int (Int32.ofInt yv)), (3, .int (Int32.ofInt bi))]) rfl (by decide) (List.Mem.tail _ (List.Mem.tail _ (List.Mem.tail _ (List.Mem.tail _ (List.Mem.head _))))) (fun _ h => h) (z_goto X (t := 5) rfl rfl (WS_pq [1, 2, 3, 4, 0] (lv' := [(0, .ref (A 61)), (1, .int (Int32.ofInt xv)), (2, .int (Int32.ofInt yv)), (3, .int (Int32.ofInt bi)), (4, .int (Int32.ofInt (p + 1)))]) rfl ?_))
            exact ih _ xv yv bi (p + 1) I F (by first | exact ⟨And.intro (hi.1.1) (hi.1.2), And.intro (hi.2.1.1) (hi.2.1.2), And.intro (hi.2.2.1.1) (hi.2.2.1.2), oq_54f49eb5 hi.2.2.2.1, oq_f6204d84 g1001 hi.1.2⟩ | omega) (by first | exact qk_me hm (by decide) (oq_ccc5e5e0 g1001 hi.1.2) | omega) kx
          ·
            refine z_load_n X (x := yv) rfl (List.Mem.tail _ (List.Mem.tail _ (List.Mem.head _))) (z_aload_n X (x := A 61) rfl (List.Mem.head _) (s_getR X 61 rfl (c518_ok rfl) rfl rfl (z_load X (x := p) rfl (List.Mem.tail _ (List.Mem.tail _ (List.Mem.tail _ (List.Mem.tail _ (List.Mem.head _))))) (z_ald X 62 rfl (c518_ok rfl) rfl (by first | exact hi.2.2.2.1 | omega) (show p < 8 by first | exact oq_7f5b2e79 g1001 hi.1.2 | omega) (cbig_ok rfl) ?_))))
            have b1007 := bc_52 I (show (p).toNat < 8 by first | exact oq_67be0351 g1001 hi.1.2 | omega)
            refine z_icmp_ge X (t := 53) rfl rfl ⟨by first | exact oq_fa4e5087 hi.2.1.1 | omega, by first | exact oq_1a42ef34 hi.2.1.2 | omega⟩ (rng_to _) (fun g1008 => ?_) (fun g1008 => ?_)
            ·
              refine z_inc X (x := p) (lv' := [(4, .int (Int32.ofInt (p + 1))), (0, .ref (A 61)), (1, .int (Int32.ofInt xv)), (2, .int (Int32.ofInt yv)), (3, .int (Int32.ofInt bi))]) rfl (by decide) (List.Mem.tail _ (List.Mem.tail _ (List.Mem.tail _ (List.Mem.tail _ (List.Mem.head _))))) (fun _ h => h) (z_goto X (t := 5) rfl rfl (WS_pq [1, 2, 3, 4, 0] (lv' := [(0, .ref (A 61)), (1, .int (Int32.ofInt xv)), (2, .int (Int32.ofInt yv)), (3, .int (Int32.ofInt bi)), (4, .int (Int32.ofInt (p + 1)))]) rfl ?_))
              exact ih _ xv yv bi (p + 1) I F (by first | exact ⟨And.intro (hi.1.1) (hi.1.2), And.intro (hi.2.1.1) (hi.2.1.2), And.intro (hi.2.2.1.1) (hi.2.2.1.2), oq_54f49eb5 hi.2.2.2.1, oq_f6204d84 g1001 hi.1.2⟩ | omega) (by first | exact qk_me hm (by decide) (oq_ccc5e5e0 g1001 hi.1.2) | omega) kx
            ·
              refine z_load_n X (x := bi) rfl (List.Mem.tail _ (List.Mem.tail _ (List.Mem.tail _ (List.Mem.head _)))) (z_const X rfl (z_load X (x := p) rfl (List.Mem.tail _ (List.Mem.tail _ (List.Mem.tail _ (List.Mem.tail _ (List.Mem.head _))))) (z_bshl X rfl (z_any (fun y1009 hy1009 => ?_)))))
              refine z_bor X rfl (z_any (fun y1010 hy1010 => ?_))
              refine z_store_n X (lv' := [(3, .int (Int32.ofInt y1010)), (0, .ref (A 61)), (1, .int (Int32.ofInt xv)), (2, .int (Int32.ofInt yv)), (4, .int (Int32.ofInt p))]) rfl (by decide) (fun _ h => h) (z_inc X (x := p) (lv' := [(4, .int (Int32.ofInt (p + 1))), (3, .int (Int32.ofInt y1010)), (0, .ref (A 61)), (1, .int (Int32.ofInt xv)), (2, .int (Int32.ofInt yv))]) rfl (by decide) (List.Mem.tail _ (List.Mem.tail _ (List.Mem.tail _ (List.Mem.tail _ (List.Mem.head _))))) (fun _ h => h) (z_goto X (t := 5) rfl rfl (WS_pq [2, 3, 4, 1, 0] (lv' := [(0, .ref (A 61)), (1, .int (Int32.ofInt xv)), (2, .int (Int32.ofInt yv)), (3, .int (Int32.ofInt y1010)), (4, .int (Int32.ofInt (p + 1)))]) rfl ?_)))
              exact ih _ xv yv y1010 (p + 1) I F (by first | exact ⟨And.intro (hi.1.1) (hi.1.2), And.intro (hi.2.1.1) (hi.2.1.2), And.intro (hy1010.1) (hy1010.2), oq_54f49eb5 hi.2.2.2.1, oq_f6204d84 g1001 hi.1.2⟩ | omega) (by first | exact qk_me hm (by decide) (oq_ccc5e5e0 g1001 hi.1.2) | omega) kx
  refine z_const X rfl (z_store_n X (lv' := [(3, .int (Int32.ofInt 0)), (0, .ref (A 61)), (1, .int (Int32.ofInt x)), (2, .int (Int32.ofInt y))]) rfl (by decide) (fun _ h => h) (z_const X rfl (z_store X (lv' := [(4, .int (Int32.ofInt 0)), (3, .int (Int32.ofInt 0)), (0, .ref (A 61)), (1, .int (Int32.ofInt x)), (2, .int (Int32.ofInt y))]) rfl (by decide) (fun _ h => h) (WS_pq [2, 3, 4, 1, 0] (lv' := [(0, .ref (A 61)), (1, .int (Int32.ofInt x)), (2, .int (Int32.ofInt y)), (3, .int (Int32.ofInt 0)), (4, .int (Int32.ofInt 0))]) rfl (L5 ((8 - 0 : Int).toNat + 1) s x y 0 0 I F (by first | exact ⟨And.intro (p0.1) (p0.2), And.intro (p1.1) (p1.2), And.intro (by decide) (by decide), by decide, by decide⟩ | omega) (Nat.lt_succ_self _) ?_)))))
  intro s1 x2 x3 Is1 Fs1 hs1
  refine z_load_n X (x := x2) rfl (List.Mem.tail _ (List.Mem.tail _ (List.Mem.tail _ (List.Mem.head _)))) ?_
  exact w_iret X.1 q hRt rfl (ax_d X (show cdA 63 60 = some (.ireturn, 1, 0, 0, 0) from rfl)) (Nat.zero_le _) (Nat.zero_le _) ⟨_, rfl, Is1, Fs1, x2, rfl, ⟨by first | exact hs1.2.2.1.1 | omega, by first | exact hs1.2.2.1.2 | omega⟩, trivial⟩
set_option maxRecDepth 4000 in
theorem c6_mayBegin_61 (G : GX l s0 D tys a0 dT) (I : Bd s) {x y : Int} (p0 : 1 ≤ x ∧ x ≤ 8) (p1 : 0 ≤ y ∧ y ≤ 23) : CT l s0 D A dT 64 (rmN 64) [.ref (A 61), .int (Int32.ofInt x), .int (Int32.ofInt y)] s (fun o t => Bd t ∧ Fm [] [] s t ∧ ∃ e, o = .inl (some (.int (Int32.ofInt e))) ∧ rng e ∧ (True)) := by
  refine ct_ofX G (by decide) (Nat.le_of_ble_eq_true rfl) (fun k X E ET hRt hXt q => ?_)
  show WS k 0 [(0, .ref (A 61)), (1, .int (Int32.ofInt x)), (2, .int (Int32.ofInt y))] [] _ 0 0
  have F : Fm [] [] s s := fm_rf _ _ s
  have L5 : ∀ (n : Nat) (t : PS) (xv yv bi p : Int), Bd t → Fm [] [] s t → ((1 ≤ xv ∧ xv ≤ 8) ∧ (0 ≤ yv ∧ yv ≤ 23) ∧ rng bi ∧ 0 ≤ p ∧ p ≤ 8) → (8 - p : Int).toNat < n → (∀ (t' : PS) (bi' p' : Int), Bd t' → Fm [] [] s t' → ((1 ≤ xv ∧ xv ≤ 8) ∧ (0 ≤ yv ∧ yv ≤ 23) ∧ rng bi' ∧ 0 ≤ p' ∧ p' ≤ 8) → WS k 56 [(0, .ref (A 61)), (1, .int (Int32.ofInt xv)), (2, .int (Int32.ofInt yv)), (3, .int (Int32.ofInt bi')), (4, .int (Int32.ofInt p'))] [] (Wd A dT t') 0 0) → WS k 5 [(0, .ref (A 61)), (1, .int (Int32.ofInt xv)), (2, .int (Int32.ofInt yv)), (3, .int (Int32.ofInt bi)), (4, .int (Int32.ofInt p))] [] (Wd A dT t) 0 0 := by
    intro n
    induction n with
    | zero =>
      intro t xv yv bi p I F hi hm kx
      exact absurd hm (Nat.not_lt_zero _)
    | succ n ih =>
      intro t xv yv bi p I F hi hm kx
      refine z_load X (x := p) rfl (List.Mem.tail _ (List.Mem.tail _ (List.Mem.tail _ (List.Mem.tail _ (List.Mem.head _))))) (z_load_n X (x := xv) rfl (List.Mem.tail _ (List.Mem.head _)) (z_icmp_ge X (t := 56) rfl rfl ⟨by first | exact oq_fa4e5087 hi.2.2.2.1 | omega, by first | exact oq_d3f5d874 hi.2.2.2.2 | omega⟩ ⟨by first | exact oq_9462313e hi.1.1 | omega, by first | exact oq_d3f5d874 hi.1.2 | omega⟩ (fun g1001 => ?_) (fun g1001 => ?_)))
      ·
        refine WS_pq [0, 1, 2, 3, 4] (lv' := [(0, .ref (A 61)), (1, .int (Int32.ofInt xv)), (2, .int (Int32.ofInt yv)), (3, .int (Int32.ofInt bi)), (4, .int (Int32.ofInt p))]) rfl ?_
        exact kx _ bi p I F (by first | exact ⟨And.intro (hi.1.1) (hi.1.2), And.intro (hi.2.1.1) (hi.2.1.2), And.intro (hi.2.2.1.1) (hi.2.2.1.2), hi.2.2.2.1, hi.2.2.2.2⟩ | omega)
      ·
        refine z_aload_n X (x := A 61) rfl (List.Mem.head _) (s_getR X 61 rfl (c518_ok rfl) rfl rfl (z_load X (x := p) rfl (List.Mem.tail _ (List.Mem.tail _ (List.Mem.tail _ (List.Mem.tail _ (List.Mem.head _))))) (z_ald X 63 rfl (c518_ok rfl) rfl (by first | exact hi.2.2.2.1 | omega) (show p < 8 by first | exact oq_7f5b2e79 g1001 hi.1.2 | omega) (cbig_ok rfl) ?_)))
        have b1002 := bc_53 I (show (p).toNat < 8 by first | exact oq_67be0351 g1001 hi.1.2 | omega)
        refine z_if_ne X (t := 50) rfl rfl (rng_to _) (fun g1003 => ?_) (fun g1003 => ?_)
        ·
          refine z_inc X (x := p) (lv' := [(4, .int (Int32.ofInt (p + 1))), (0, .ref (A 61)), (1, .int (Int32.ofInt xv)), (2, .int (Int32.ofInt yv)), (3, .int (Int32.ofInt bi))]) rfl (by decide) (List.Mem.tail _ (List.Mem.tail _ (List.Mem.tail _ (List.Mem.tail _ (List.Mem.head _))))) (fun _ h => h) (z_goto X (t := 5) rfl rfl (WS_pq [1, 2, 3, 4, 0] (lv' := [(0, .ref (A 61)), (1, .int (Int32.ofInt xv)), (2, .int (Int32.ofInt yv)), (3, .int (Int32.ofInt bi)), (4, .int (Int32.ofInt (p + 1)))]) rfl ?_))
          exact ih _ xv yv bi (p + 1) I F (by first | exact ⟨And.intro (hi.1.1) (hi.1.2), And.intro (hi.2.1.1) (hi.2.1.2), And.intro (hi.2.2.1.1) (hi.2.2.1.2), oq_54f49eb5 hi.2.2.2.1, oq_f6204d84 g1001 hi.1.2⟩ | omega) (by first | exact qk_me hm (by decide) (oq_ccc5e5e0 g1001 hi.1.2) | omega) kx
        ·
          refine z_load_n X (x := yv) rfl (List.Mem.tail _ (List.Mem.tail _ (List.Mem.head _))) (z_aload_n X (x := A 61) rfl (List.Mem.head _) (s_getR X 61 rfl (c518_ok rfl) rfl rfl (z_load X (x := p) rfl (List.Mem.tail _ (List.Mem.tail _ (List.Mem.tail _ (List.Mem.tail _ (List.Mem.head _))))) (z_ald X 64 rfl (c518_ok rfl) rfl (by first | exact hi.2.2.2.1 | omega) (show p < 8 by first | exact oq_7f5b2e79 g1001 hi.1.2 | omega) (cbig_ok rfl) ?_))))
          have b1004 := bc_54 I (show (p).toNat < 8 by first | exact oq_67be0351 g1001 hi.1.2 | omega)
          refine z_icmp_lt X (t := 50) rfl rfl ⟨by first | exact oq_fa4e5087 hi.2.1.1 | omega, by first | exact oq_1a42ef34 hi.2.1.2 | omega⟩ (rng_to _) (fun g1005 => ?_) (fun g1005 => ?_)
          ·
            refine z_inc X (x := p) (lv' := [(4, .int (Int32.ofInt (p + 1))), (0, .ref (A 61)), (1, .int (Int32.ofInt xv)), (2, .int (Int32.ofInt yv)), (3, .int (Int32.ofInt bi))]) rfl (by decide) (List.Mem.tail _ (List.Mem.tail _ (List.Mem.tail _ (List.Mem.tail _ (List.Mem.head _))))) (fun _ h => h) (z_goto X (t := 5) rfl rfl (WS_pq [1, 2, 3, 4, 0] (lv' := [(0, .ref (A 61)), (1, .int (Int32.ofInt xv)), (2, .int (Int32.ofInt yv)), (3, .int (Int32.ofInt bi)), (4, .int (Int32.ofInt (p + 1)))]) rfl ?_))
            exact ih _ xv yv bi (p + 1) I F (by first | exact ⟨And.intro (hi.1.1) (hi.1.2), And.intro (hi.2.1.1) (hi.2.1.2), And.intro (hi.2.2.1.1) (hi.2.2.1.2), oq_54f49eb5 hi.2.2.2.1, oq_f6204d84 g1001 hi.1.2⟩ | omega) (by first | exact qk_me hm (by decide) (oq_ccc5e5e0 g1001 hi.1.2) | omega) kx
          ·
            refine z_load_n X (x := yv) rfl (List.Mem.tail _ (List.Mem.tail _ (List.Mem.head _))) (z_aload_n X (x := A 61) rfl (List.Mem.head _) (s_getR X 61 rfl (c518_ok rfl) rfl rfl (z_load X (x := p) rfl (List.Mem.tail _ (List.Mem.tail _ (List.Mem.tail _ (List.Mem.tail _ (List.Mem.head _))))) (z_ald X 62 rfl (c518_ok rfl) rfl (by first | exact hi.2.2.2.1 | omega) (show p < 8 by first | exact oq_7f5b2e79 g1001 hi.1.2 | omega) (cbig_ok rfl) ?_))))
            have b1006 := bc_52 I (show (p).toNat < 8 by first | exact oq_67be0351 g1001 hi.1.2 | omega)
            refine z_icmp_ge X (t := 50) rfl rfl ⟨by first | exact oq_fa4e5087 hi.2.1.1 | omega, by first | exact oq_1a42ef34 hi.2.1.2 | omega⟩ (rng_to _) (fun g1007 => ?_) (fun g1007 => ?_)
            ·
              refine z_inc X (x := p) (lv' := [(4, .int (Int32.ofInt (p + 1))), (0, .ref (A 61)), (1, .int (Int32.ofInt xv)), (2, .int (Int32.ofInt yv)), (3, .int (Int32.ofInt bi))]) rfl (by decide) (List.Mem.tail _ (List.Mem.tail _ (List.Mem.tail _ (List.Mem.tail _ (List.Mem.head _))))) (fun _ h => h) (z_goto X (t := 5) rfl rfl (WS_pq [1, 2, 3, 4, 0] (lv' := [(0, .ref (A 61)), (1, .int (Int32.ofInt xv)), (2, .int (Int32.ofInt yv)), (3, .int (Int32.ofInt bi)), (4, .int (Int32.ofInt (p + 1)))]) rfl ?_))
              exact ih _ xv yv bi (p + 1) I F (by first | exact ⟨And.intro (hi.1.1) (hi.1.2), And.intro (hi.2.1.1) (hi.2.1.2), And.intro (hi.2.2.1.1) (hi.2.2.1.2), oq_54f49eb5 hi.2.2.2.1, oq_f6204d84 g1001 hi.1.2⟩ | omega) (by first | exact qk_me hm (by decide) (oq_ccc5e5e0 g1001 hi.1.2) | omega) kx
            ·
              refine z_load_n X (x := bi) rfl (List.Mem.tail _ (List.Mem.tail _ (List.Mem.tail _ (List.Mem.head _)))) (z_const X rfl (z_load X (x := p) rfl (List.Mem.tail _ (List.Mem.tail _ (List.Mem.tail _ (List.Mem.tail _ (List.Mem.head _))))) (z_bshl X rfl (z_any (fun y1008 hy1008 => ?_)))))
              refine z_bor X rfl (z_any (fun y1009 hy1009 => ?_))
              refine z_store_n X (lv' := [(3, .int (Int32.ofInt y1009)), (0, .ref (A 61)), (1, .int (Int32.ofInt xv)), (2, .int (Int32.ofInt yv)), (4, .int (Int32.ofInt p))]) rfl (by decide) (fun _ h => h) (z_inc X (x := p) (lv' := [(4, .int (Int32.ofInt (p + 1))), (3, .int (Int32.ofInt y1009)), (0, .ref (A 61)), (1, .int (Int32.ofInt xv)), (2, .int (Int32.ofInt yv))]) rfl (by decide) (List.Mem.tail _ (List.Mem.tail _ (List.Mem.tail _ (List.Mem.tail _ (List.Mem.head _))))) (fun _ h => h) (z_goto X (t := 5) rfl rfl (WS_pq [2, 3, 4, 1, 0] (lv' := [(0, .ref (A 61)), (1, .int (Int32.ofInt xv)), (2, .int (Int32.ofInt yv)), (3, .int (Int32.ofInt y1009)), (4, .int (Int32.ofInt (p + 1)))]) rfl ?_)))
              exact ih _ xv yv y1009 (p + 1) I F (by first | exact ⟨And.intro (hi.1.1) (hi.1.2), And.intro (hi.2.1.1) (hi.2.1.2), And.intro (hy1009.1) (hy1009.2), oq_54f49eb5 hi.2.2.2.1, oq_f6204d84 g1001 hi.1.2⟩ | omega) (by first | exact qk_me hm (by decide) (oq_ccc5e5e0 g1001 hi.1.2) | omega) kx
  refine z_const X rfl (z_store_n X (lv' := [(3, .int (Int32.ofInt 0)), (0, .ref (A 61)), (1, .int (Int32.ofInt x)), (2, .int (Int32.ofInt y))]) rfl (by decide) (fun _ h => h) (z_const X rfl (z_store X (lv' := [(4, .int (Int32.ofInt 0)), (3, .int (Int32.ofInt 0)), (0, .ref (A 61)), (1, .int (Int32.ofInt x)), (2, .int (Int32.ofInt y))]) rfl (by decide) (fun _ h => h) (WS_pq [2, 3, 4, 1, 0] (lv' := [(0, .ref (A 61)), (1, .int (Int32.ofInt x)), (2, .int (Int32.ofInt y)), (3, .int (Int32.ofInt 0)), (4, .int (Int32.ofInt 0))]) rfl (L5 ((8 - 0 : Int).toNat + 1) s x y 0 0 I F (by first | exact ⟨And.intro (p0.1) (p0.2), And.intro (p1.1) (p1.2), And.intro (by decide) (by decide), by decide, by decide⟩ | omega) (Nat.lt_succ_self _) ?_)))))
  intro s1 x2 x3 Is1 Fs1 hs1
  refine z_load_n X (x := x2) rfl (List.Mem.tail _ (List.Mem.tail _ (List.Mem.tail _ (List.Mem.head _)))) ?_
  exact w_iret X.1 q hRt rfl (ax_d X (show cdA 64 57 = some (.ireturn, 1, 0, 0, 0) from rfl)) (Nat.zero_le _) (Nat.zero_le _) ⟨_, rfl, Is1, Fs1, x2, rfl, ⟨by first | exact hs1.2.2.1.1 | omega, by first | exact hs1.2.2.1.2 | omega⟩, trivial⟩
set_option maxRecDepth 4000 in
theorem c6_fewestOf_61 (G : GX l s0 D tys a0 dT) (I : Bd s) {x y : Int} (p0 : rng x) (p1 : rng y) : CT l s0 D A dT 65 (rmN 65) [.ref (A 61), .int (Int32.ofInt x), .int (Int32.ofInt y)] s (fun o t => Bd t ∧ Fm [] [] s t ∧ ∃ e, o = .inl (some (.int (Int32.ofInt e))) ∧ rng e ∧ (True)) := by
  refine ct_ofX G (by decide) (Nat.le_of_ble_eq_true rfl) (fun k X E ET hRt hXt q => ?_)
  show WS k 0 [(0, .ref (A 61)), (1, .int (Int32.ofInt x)), (2, .int (Int32.ofInt y))] [] _ 0 0
  have F : Fm [] [] s s := fm_rf _ _ s
  have L17 : ∀ (n : Nat) (t : PS) (xv yv ch c nx p : Int), Bd t → Fm [] [] s t → (rng xv ∧ rng yv ∧ rng ch ∧ (0 ≤ c ∧ c < yv) ∧ (-1 ≤ nx ∧ nx ≤ 7) ∧ 0 ≤ p ∧ p ≤ 8) → (8 - p : Int).toNat < n → (∀ (t' : PS) (nx' p' : Int), Bd t' → Fm [] [] s t' → (rng xv ∧ rng yv ∧ rng ch ∧ (0 ≤ c ∧ c < yv) ∧ (-1 ≤ nx' ∧ nx' ≤ 7) ∧ 0 ≤ p' ∧ p' ≤ 8) → WS k 82 [(0, .ref (A 61)), (1, .int (Int32.ofInt xv)), (2, .int (Int32.ofInt yv)), (3, .int (Int32.ofInt ch)), (4, .int (Int32.ofInt c)), (5, .int (Int32.ofInt nx')), (6, .int (Int32.ofInt p'))] [] (Wd A dT t') 0 0) → WS k 17 [(0, .ref (A 61)), (1, .int (Int32.ofInt xv)), (2, .int (Int32.ofInt yv)), (3, .int (Int32.ofInt ch)), (4, .int (Int32.ofInt c)), (5, .int (Int32.ofInt nx)), (6, .int (Int32.ofInt p))] [] (Wd A dT t) 0 0 := by
    intro n
    induction n with
    | zero =>
      intro t xv yv ch c nx p I F hi hm kx
      exact absurd hm (Nat.not_lt_zero _)
    | succ n ih =>
      intro t xv yv ch c nx p I F hi hm kx
      refine z_load X (x := p) rfl (List.Mem.tail _ (List.Mem.tail _ (List.Mem.tail _ (List.Mem.tail _ (List.Mem.tail _ (List.Mem.tail _ (List.Mem.head _))))))) (z_bipush X rfl (z_icmp_ge X (t := 82) rfl rfl ⟨by first | exact oq_fa4e5087 hi.2.2.2.2.2.1 | omega, by first | exact oq_d3f5d874 hi.2.2.2.2.2.2 | omega⟩ (by decide) (fun g1001 => ?_) (fun g1001 => ?_)))
      ·
        refine WS_pq [0, 1, 2, 3, 4, 5, 6] (lv' := [(0, .ref (A 61)), (1, .int (Int32.ofInt xv)), (2, .int (Int32.ofInt yv)), (3, .int (Int32.ofInt ch)), (4, .int (Int32.ofInt c)), (5, .int (Int32.ofInt nx)), (6, .int (Int32.ofInt p))]) rfl ?_
        exact kx _ nx p I F (by first | exact ⟨And.intro (hi.1.1) (hi.1.2), And.intro (hi.2.1.1) (hi.2.1.2), And.intro (hi.2.2.1.1) (hi.2.2.1.2), And.intro (hi.2.2.2.1.1) (hi.2.2.2.1.2), And.intro (hi.2.2.2.2.1.1) (hi.2.2.2.2.1.2), hi.2.2.2.2.2.1, hi.2.2.2.2.2.2⟩ | omega)
      ·
        refine z_load_n X (x := xv) rfl (List.Mem.tail _ (List.Mem.head _)) (z_load_n X (x := ch) rfl (List.Mem.tail _ (List.Mem.tail _ (List.Mem.tail _ (List.Mem.head _)))) (z_const X rfl (z_bxor X rfl (z_any (fun y1002 hy1002 => ?_)))))
        refine z_band X rfl (z_any (fun y1003 hy1003 => ?_))
        refine z_load X (x := p) rfl (List.Mem.tail _ (List.Mem.tail _ (List.Mem.tail _ (List.Mem.tail _ (List.Mem.tail _ (List.Mem.tail _ (List.Mem.head _))))))) (z_bshr X rfl (z_any (fun y1004 hy1004 => ?_)))
        refine z_const X rfl (z_andm X rfl (by decide) (by decide) (fun y1005 hy1005 gy1005 => ?_))
        have N1006 : ∀ e1007 : Int, (((y1005 = 0) ∧ e1007 = 0) ∨ ((y1005 ≠ 0) ∧ e1007 = 1)) → WS k 42 [(0, .ref (A 61)), (1, .int (Int32.ofInt xv)), (2, .int (Int32.ofInt yv)), (3, .int (Int32.ofInt ch)), (4, .int (Int32.ofInt c)), (5, .int (Int32.ofInt nx)), (6, .int (Int32.ofInt p))] [.int (Int32.ofInt e1007)] (Wd A dT t) 0 0 := by
          intro e1007 he1007
          have re1007 : 0 ≤ e1007 ∧ e1007 ≤ 1 := by first | (clear he1007; omega) | omega
          refine z_store X (lv' := [(7, .int (Int32.ofInt e1007)), (0, .ref (A 61)), (1, .int (Int32.ofInt xv)), (2, .int (Int32.ofInt yv)), (3, .int (Int32.ofInt ch)), (4, .int (Int32.ofInt c)), (5, .int (Int32.ofInt nx)), (6, .int (Int32.ofInt p))]) rfl (by decide) (fun _ h => h) (z_load X (x := e1007) rfl (List.Mem.head _) (z_if_eq X (t := 76) rfl rfl ⟨by first | exact oq_fa4e5087 re1007.1 | omega, by first | exact oq_22e1e6b0 re1007.2 | omega⟩ (fun g1008 => ?_) (fun g1008 => ?_)))
          ·
            refine z_inc X (x := p) (lv' := [(6, .int (Int32.ofInt (p + 1))), (7, .int (Int32.ofInt e1007)), (0, .ref (A 61)), (1, .int (Int32.ofInt xv)), (2, .int (Int32.ofInt yv)), (3, .int (Int32.ofInt ch)), (4, .int (Int32.ofInt c)), (5, .int (Int32.ofInt nx))]) rfl (by decide) (List.Mem.tail _ (List.Mem.tail _ (List.Mem.tail _ (List.Mem.tail _ (List.Mem.tail _ (List.Mem.tail _ (List.Mem.tail _ (List.Mem.head _)))))))) (fun _ h => h) (z_goto X (t := 17) rfl rfl (WS_pq [2, 3, 4, 5, 6, 7, 0] (lv' := [(0, .ref (A 61)), (1, .int (Int32.ofInt xv)), (2, .int (Int32.ofInt yv)), (3, .int (Int32.ofInt ch)), (4, .int (Int32.ofInt c)), (5, .int (Int32.ofInt nx)), (6, .int (Int32.ofInt (p + 1)))]) rfl ?_))
            exact ih _ xv yv ch c nx (p + 1) I F (by first | exact ⟨And.intro (hi.1.1) (hi.1.2), And.intro (hi.2.1.1) (hi.2.1.2), And.intro (hi.2.2.1.1) (hi.2.2.1.2), And.intro (hi.2.2.2.1.1) (hi.2.2.2.1.2), And.intro (hi.2.2.2.2.1.1) (hi.2.2.2.2.1.2), oq_54f49eb5 hi.2.2.2.2.2.1, oq_0c7b19c3 g1001⟩ | omega) (by first | exact qk_me hm (by decide) (oq_9f368f35 g1001) | omega) kx
          ·
            refine z_load X (x := nx) rfl (List.Mem.tail _ (List.Mem.tail _ (List.Mem.tail _ (List.Mem.tail _ (List.Mem.tail _ (List.Mem.tail _ (List.Mem.head _))))))) (z_const X rfl (z_icmp_eq X (t := 72) rfl rfl ⟨by first | exact oq_97ee2c2a hi.2.2.2.2.1.1 | omega, by first | exact oq_0e78ca7d hi.2.2.2.2.1.2 | omega⟩ (by decide) (fun g1009 => ?_) (fun g1009 => ?_)))
            ·
              refine z_load X (x := p) rfl (List.Mem.tail _ (List.Mem.tail _ (List.Mem.tail _ (List.Mem.tail _ (List.Mem.tail _ (List.Mem.tail _ (List.Mem.tail _ (List.Mem.head _)))))))) (z_store X (lv' := [(5, .int (Int32.ofInt p)), (7, .int (Int32.ofInt e1007)), (0, .ref (A 61)), (1, .int (Int32.ofInt xv)), (2, .int (Int32.ofInt yv)), (3, .int (Int32.ofInt ch)), (4, .int (Int32.ofInt c)), (6, .int (Int32.ofInt p))]) rfl (by decide) (fun _ h => h) (z_inc X (x := p) (lv' := [(6, .int (Int32.ofInt (p + 1))), (5, .int (Int32.ofInt p)), (7, .int (Int32.ofInt e1007)), (0, .ref (A 61)), (1, .int (Int32.ofInt xv)), (2, .int (Int32.ofInt yv)), (3, .int (Int32.ofInt ch)), (4, .int (Int32.ofInt c))]) rfl (by decide) (List.Mem.tail _ (List.Mem.tail _ (List.Mem.tail _ (List.Mem.tail _ (List.Mem.tail _ (List.Mem.tail _ (List.Mem.tail _ (List.Mem.head _)))))))) (fun _ h => h) (z_goto X (t := 17) rfl rfl (WS_pq [3, 4, 5, 6, 7, 1, 0] (lv' := [(0, .ref (A 61)), (1, .int (Int32.ofInt xv)), (2, .int (Int32.ofInt yv)), (3, .int (Int32.ofInt ch)), (4, .int (Int32.ofInt c)), (5, .int (Int32.ofInt p)), (6, .int (Int32.ofInt (p + 1)))]) rfl ?_))))
              exact ih _ xv yv ch c p (p + 1) I F (by first | exact ⟨And.intro (hi.1.1) (hi.1.2), And.intro (hi.2.1.1) (hi.2.1.2), And.intro (hi.2.2.1.1) (hi.2.2.1.2), And.intro (hi.2.2.2.1.1) (hi.2.2.2.1.2), And.intro (oq_ca54ea22 hi.2.2.2.2.2.1) (oq_78c639ed g1001), oq_54f49eb5 hi.2.2.2.2.2.1, oq_0c7b19c3 g1001⟩ | omega) (by first | exact qk_me hm (by decide) (oq_9f368f35 g1001) | omega) kx
            ·
              refine z_aload_n X (x := A 61) rfl (List.Mem.tail _ (List.Mem.head _)) (s_getR X 61 rfl (c518_ok rfl) rfl rfl (z_load X (x := p) rfl (List.Mem.tail _ (List.Mem.tail _ (List.Mem.tail _ (List.Mem.tail _ (List.Mem.tail _ (List.Mem.tail _ (List.Mem.tail _ (List.Mem.head _)))))))) (z_ald X 65 rfl (c518_ok rfl) rfl (by first | exact hi.2.2.2.2.2.1 | omega) (show p < 8 by first | exact g1001 | omega) (cbig_ok rfl) ?_)))
              have b1010 := bc_55 I (show (p).toNat < 8 by first | exact oq_db4b3b8b g1001 | omega)
              refine z_aload_n X (x := A 61) rfl (List.Mem.tail _ (List.Mem.head _)) (s_getR X 61 rfl (c518_ok rfl) rfl rfl (z_load X (x := nx) rfl (List.Mem.tail _ (List.Mem.tail _ (List.Mem.tail _ (List.Mem.tail _ (List.Mem.tail _ (List.Mem.tail _ (List.Mem.head _))))))) (z_ald X 65 rfl (c518_ok rfl) rfl (by first | exact oq_7a1025bf g1009 hi.2.2.2.2.1.1 | omega) (show nx < 8 by first | exact oq_aaea290e hi.2.2.2.2.1.2 | omega) (cbig_ok rfl) ?_)))
              have b1011 := bc_55 I (show (nx).toNat < 8 by first | exact oq_c19a3aae hi.2.2.2.2.1.2 | omega)
              refine z_icmp_ge X (t := 76) rfl rfl (rng_to _) (rng_to _) (fun g1012 => ?_) (fun g1012 => ?_)
              ·
                refine z_inc X (x := p) (lv' := [(6, .int (Int32.ofInt (p + 1))), (7, .int (Int32.ofInt e1007)), (0, .ref (A 61)), (1, .int (Int32.ofInt xv)), (2, .int (Int32.ofInt yv)), (3, .int (Int32.ofInt ch)), (4, .int (Int32.ofInt c)), (5, .int (Int32.ofInt nx))]) rfl (by decide) (List.Mem.tail _ (List.Mem.tail _ (List.Mem.tail _ (List.Mem.tail _ (List.Mem.tail _ (List.Mem.tail _ (List.Mem.tail _ (List.Mem.head _)))))))) (fun _ h => h) (z_goto X (t := 17) rfl rfl (WS_pq [2, 3, 4, 5, 6, 7, 0] (lv' := [(0, .ref (A 61)), (1, .int (Int32.ofInt xv)), (2, .int (Int32.ofInt yv)), (3, .int (Int32.ofInt ch)), (4, .int (Int32.ofInt c)), (5, .int (Int32.ofInt nx)), (6, .int (Int32.ofInt (p + 1)))]) rfl ?_))
                exact ih _ xv yv ch c nx (p + 1) I F (by first | exact ⟨And.intro (hi.1.1) (hi.1.2), And.intro (hi.2.1.1) (hi.2.1.2), And.intro (hi.2.2.1.1) (hi.2.2.1.2), And.intro (hi.2.2.2.1.1) (hi.2.2.2.1.2), And.intro (hi.2.2.2.2.1.1) (hi.2.2.2.2.1.2), oq_54f49eb5 hi.2.2.2.2.2.1, oq_0c7b19c3 g1001⟩ | omega) (by first | exact qk_me hm (by decide) (oq_9f368f35 g1001) | omega) kx
              ·
                refine z_load X (x := p) rfl (List.Mem.tail _ (List.Mem.tail _ (List.Mem.tail _ (List.Mem.tail _ (List.Mem.tail _ (List.Mem.tail _ (List.Mem.tail _ (List.Mem.head _)))))))) (z_store X (lv' := [(5, .int (Int32.ofInt p)), (7, .int (Int32.ofInt e1007)), (0, .ref (A 61)), (1, .int (Int32.ofInt xv)), (2, .int (Int32.ofInt yv)), (3, .int (Int32.ofInt ch)), (4, .int (Int32.ofInt c)), (6, .int (Int32.ofInt p))]) rfl (by decide) (fun _ h => h) (z_inc X (x := p) (lv' := [(6, .int (Int32.ofInt (p + 1))), (5, .int (Int32.ofInt p)), (7, .int (Int32.ofInt e1007)), (0, .ref (A 61)), (1, .int (Int32.ofInt xv)), (2, .int (Int32.ofInt yv)), (3, .int (Int32.ofInt ch)), (4, .int (Int32.ofInt c))]) rfl (by decide) (List.Mem.tail _ (List.Mem.tail _ (List.Mem.tail _ (List.Mem.tail _ (List.Mem.tail _ (List.Mem.tail _ (List.Mem.tail _ (List.Mem.head _)))))))) (fun _ h => h) (z_goto X (t := 17) rfl rfl (WS_pq [3, 4, 5, 6, 7, 1, 0] (lv' := [(0, .ref (A 61)), (1, .int (Int32.ofInt xv)), (2, .int (Int32.ofInt yv)), (3, .int (Int32.ofInt ch)), (4, .int (Int32.ofInt c)), (5, .int (Int32.ofInt p)), (6, .int (Int32.ofInt (p + 1)))]) rfl ?_))))
                exact ih _ xv yv ch c p (p + 1) I F (by first | exact ⟨And.intro (hi.1.1) (hi.1.2), And.intro (hi.2.1.1) (hi.2.1.2), And.intro (hi.2.2.1.1) (hi.2.2.1.2), And.intro (hi.2.2.2.1.1) (hi.2.2.2.1.2), And.intro (oq_ca54ea22 hi.2.2.2.2.2.1) (oq_78c639ed g1001), oq_54f49eb5 hi.2.2.2.2.2.1, oq_0c7b19c3 g1001⟩ | omega) (by first | exact qk_me hm (by decide) (oq_9f368f35 g1001) | omega) kx
        refine z_if_eq X (t := 41) rfl rfl ⟨by first | exact oq_fa4e5087 hy1005 | omega, by first | exact oq_22e1e6b0 gy1005 | omega⟩ (fun g1013 => ?_) (fun g1013 => ?_)
        ·
          exact z_const X rfl (N1006 _ (Or.inl ⟨g1013, rfl⟩))
        ·
          exact z_const X rfl (z_goto X (t := 42) rfl rfl (N1006 _ (Or.inr (⟨g1013, rfl⟩))))
  have L5 : ∀ (n : Nat) (t : PS) (xv yv ch c : Int), Bd t → Fm [] [] s t → (rng xv ∧ rng yv ∧ rng ch ∧ 0 ≤ c ∧ (c = 0 ∨ c ≤ yv)) → (yv - c : Int).toNat < n → (∀ (t' : PS) (ch' c' : Int), Bd t' → Fm [] [] s t' → (rng xv ∧ rng yv ∧ rng ch' ∧ 0 ≤ c' ∧ (c' = 0 ∨ c' ≤ yv)) → WS k 103 [(0, .ref (A 61)), (1, .int (Int32.ofInt xv)), (2, .int (Int32.ofInt yv)), (3, .int (Int32.ofInt ch')), (4, .int (Int32.ofInt c'))] [] (Wd A dT t') 0 0) → WS k 5 [(0, .ref (A 61)), (1, .int (Int32.ofInt xv)), (2, .int (Int32.ofInt yv)), (3, .int (Int32.ofInt ch)), (4, .int (Int32.ofInt c))] [] (Wd A dT t) 0 0 := by
    intro n
    induction n with
    | zero =>
      intro t xv yv ch c I F hi hm kx
      exact absurd hm (Nat.not_lt_zero _)
    | succ n ih =>
      intro t xv yv ch c I F hi hm kx
      refine z_load X (x := c) rfl (List.Mem.tail _ (List.Mem.tail _ (List.Mem.tail _ (List.Mem.tail _ (List.Mem.head _))))) (z_load_n X (x := yv) rfl (List.Mem.tail _ (List.Mem.tail _ (List.Mem.head _))) (z_icmp_ge X (t := 103) rfl rfl ⟨by first | exact oq_fa4e5087 hi.2.2.2.1 | omega, by first | exact oq_65e1730c hi.2.2.2.2 hi.2.1.2 | omega⟩ ⟨by first | exact hi.2.1.1 | omega, by first | exact hi.2.1.2 | omega⟩ (fun g2001 => ?_) (fun g2001 => ?_)))
      ·
        refine WS_pq [0, 1, 2, 3, 4] (lv' := [(0, .ref (A 61)), (1, .int (Int32.ofInt xv)), (2, .int (Int32.ofInt yv)), (3, .int (Int32.ofInt ch)), (4, .int (Int32.ofInt c))]) rfl ?_
        exact kx _ ch c I F (by first | exact ⟨And.intro (hi.1.1) (hi.1.2), And.intro (hi.2.1.1) (hi.2.1.2), And.intro (hi.2.2.1.1) (hi.2.2.1.2), hi.2.2.2.1, hi.2.2.2.2⟩ | omega)
      ·
        refine z_const X rfl (z_store X (lv' := [(5, .int (Int32.ofInt (-1))), (0, .ref (A 61)), (1, .int (Int32.ofInt xv)), (2, .int (Int32.ofInt yv)), (3, .int (Int32.ofInt ch)), (4, .int (Int32.ofInt c))]) rfl (by decide) (fun _ h => h) (z_const X rfl (z_store X (lv' := [(6, .int (Int32.ofInt 0)), (5, .int (Int32.ofInt (-1))), (0, .ref (A 61)), (1, .int (Int32.ofInt xv)), (2, .int (Int32.ofInt yv)), (3, .int (Int32.ofInt ch)), (4, .int (Int32.ofInt c))]) rfl (by decide) (fun _ h => h) (WS_pq [2, 3, 4, 5, 6, 1, 0] (lv' := [(0, .ref (A 61)), (1, .int (Int32.ofInt xv)), (2, .int (Int32.ofInt yv)), (3, .int (Int32.ofInt ch)), (4, .int (Int32.ofInt c)), (5, .int (Int32.ofInt (-1))), (6, .int (Int32.ofInt 0))]) rfl (L17 ((8 - 0 : Int).toNat + 1) t xv yv ch c (-1) 0 I F (by first | exact ⟨And.intro (hi.1.1) (hi.1.2), And.intro (hi.2.1.1) (hi.2.1.2), And.intro (hi.2.2.1.1) (hi.2.2.1.2), And.intro (hi.2.2.2.1) (g2001), And.intro (by decide) (by decide), by decide, by decide⟩ | omega) (Nat.lt_succ_self _) ?_)))))
        intro s2002 x2003 x2004 Is2002 Fs2002 hs2002
        refine z_load X (x := x2003) rfl (List.Mem.tail _ (List.Mem.tail _ (List.Mem.tail _ (List.Mem.tail _ (List.Mem.tail _ (List.Mem.head _)))))) (z_const X rfl (z_icmp_ne X (t := 90) rfl rfl ⟨by first | exact oq_97ee2c2a hs2002.2.2.2.2.1.1 | omega, by first | exact oq_0e78ca7d hs2002.2.2.2.2.1.2 | omega⟩ (by decide) (fun g2005 => ?_) (fun g2005 => ?_)))
        ·
          refine z_load_n X (x := ch) rfl (List.Mem.tail _ (List.Mem.tail _ (List.Mem.tail _ (List.Mem.head _)))) (z_const X rfl (z_load X (x := x2003) rfl (List.Mem.tail _ (List.Mem.tail _ (List.Mem.tail _ (List.Mem.tail _ (List.Mem.tail _ (List.Mem.head _)))))) (z_bshl X rfl (z_any (fun y2006 hy2006 => ?_)))))
          refine z_bor X rfl (z_any (fun y2007 hy2007 => ?_))
          refine z_store_n X (lv' := [(3, .int (Int32.ofInt y2007)), (0, .ref (A 61)), (1, .int (Int32.ofInt xv)), (2, .int (Int32.ofInt yv)), (4, .int (Int32.ofInt c)), (5, .int (Int32.ofInt x2003)), (6, .int (Int32.ofInt x2004))]) rfl (by decide) (fun _ h => h) (z_inc X (x := c) (lv' := [(4, .int (Int32.ofInt (c + 1))), (3, .int (Int32.ofInt y2007)), (0, .ref (A 61)), (1, .int (Int32.ofInt xv)), (2, .int (Int32.ofInt yv)), (5, .int (Int32.ofInt x2003)), (6, .int (Int32.ofInt x2004))]) rfl (by decide) (List.Mem.tail _ (List.Mem.tail _ (List.Mem.tail _ (List.Mem.tail _ (List.Mem.head _))))) (fun _ h => h) (z_goto X (t := 5) rfl rfl (WS_pq [2, 3, 4, 1, 0] (lv' := [(0, .ref (A 61)), (1, .int (Int32.ofInt xv)), (2, .int (Int32.ofInt yv)), (3, .int (Int32.ofInt y2007)), (4, .int (Int32.ofInt (c + 1)))]) rfl ?_)))
          exact ih _ xv yv y2007 (c + 1) Is2002 Fs2002 (by first | exact ⟨And.intro (hs2002.1.1) (hs2002.1.2), And.intro (hs2002.2.1.1) (hs2002.2.1.2), And.intro (hy2007.1) (hy2007.2), oq_54f49eb5 hs2002.2.2.2.1.1, Or.inr (oq_afc84a8d hs2002.2.2.2.1.2)⟩ | omega) (by first | exact qk_me hm (by decide) (oq_901836cd hs2002.2.2.2.1.2) | omega) kx
        ·
          refine z_load_n X (x := ch) rfl (List.Mem.tail _ (List.Mem.tail _ (List.Mem.tail _ (List.Mem.head _)))) ?_
          exact w_iret X.1 q hRt rfl (ax_d X (show cdA 65 89 = some (.ireturn, 1, 0, 0, 0) from rfl)) (Nat.zero_le _) (Nat.zero_le _) ⟨_, rfl, Is2002, Fs2002, ch, rfl, ⟨by first | exact hs2002.2.2.1.1 | omega, by first | exact hs2002.2.2.1.2 | omega⟩, trivial⟩
  refine z_const X rfl (z_store_n X (lv' := [(3, .int (Int32.ofInt 0)), (0, .ref (A 61)), (1, .int (Int32.ofInt x)), (2, .int (Int32.ofInt y))]) rfl (by decide) (fun _ h => h) (z_const X rfl (z_store X (lv' := [(4, .int (Int32.ofInt 0)), (3, .int (Int32.ofInt 0)), (0, .ref (A 61)), (1, .int (Int32.ofInt x)), (2, .int (Int32.ofInt y))]) rfl (by decide) (fun _ h => h) (WS_pq [2, 3, 4, 1, 0] (lv' := [(0, .ref (A 61)), (1, .int (Int32.ofInt x)), (2, .int (Int32.ofInt y)), (3, .int (Int32.ofInt 0)), (4, .int (Int32.ofInt 0))]) rfl (L5 ((y - 0 : Int).toNat + 1) s x y 0 0 I F (by first | exact ⟨And.intro (p0.1) (p0.2), And.intro (p1.1) (p1.2), And.intro (by decide) (by decide), by decide, Or.inl (by decide)⟩ | omega) (Nat.lt_succ_self _) ?_)))))
  intro s1 x2 x3 Is1 Fs1 hs1
  refine z_load_n X (x := x2) rfl (List.Mem.tail _ (List.Mem.tail _ (List.Mem.tail _ (List.Mem.head _)))) ?_
  exact w_iret X.1 q hRt rfl (ax_d X (show cdA 65 104 = some (.ireturn, 1, 0, 0, 0) from rfl)) (Nat.zero_le _) (Nat.zero_le _) ⟨_, rfl, Is1, Fs1, x2, rfl, ⟨by first | exact hs1.2.2.1.1 | omega, by first | exact hs1.2.2.1.2 | omega⟩, trivial⟩
set_option maxRecDepth 4000 in
theorem c6_settle_61 (G : GX l s0 D tys a0 dT) (I : Bd s) {x y z : Int} (p0 : 1 ≤ x ∧ x ≤ 8) (p1 : 0 ≤ y ∧ y ≤ 23) (p2 : rng z) : CT l s0 D A dT 66 (rmN 66) [.ref (A 61), .int (Int32.ofInt x), .int (Int32.ofInt y), .int (Int32.ofInt z)] s (fun o t => Bd t ∧ Fm [] [53, 55, 54] s t ∧ o = .inl none ∧ (True)) := by
  refine ct_ofX G (by decide) (Nat.le_of_ble_eq_true rfl) (fun k X E ET hRt hXt q => ?_)
  show WS k 0 [(0, .ref (A 61)), (1, .int (Int32.ofInt x)), (2, .int (Int32.ofInt y)), (3, .int (Int32.ofInt z))] [] _ 0 0
  have F : Fm [] [53, 55, 54] s s := fm_rf _ _ s
  have L3 : ∀ (n : Nat) (t : PS) (xv yv zv p : Int), Bd t → Fm [] [53, 55, 54] s t → ((1 ≤ xv ∧ xv ≤ 8) ∧ (0 ≤ yv ∧ yv ≤ 23) ∧ rng zv ∧ 0 ≤ p ∧ p ≤ 8) → (8 - p : Int).toNat < n → (∀ (t' : PS) (p' : Int), Bd t' → Fm [] [53, 55, 54] s t' → ((1 ≤ xv ∧ xv ≤ 8) ∧ (0 ≤ yv ∧ yv ≤ 23) ∧ rng zv ∧ 0 ≤ p' ∧ p' ≤ 8) → WS k 80 [(0, .ref (A 61)), (1, .int (Int32.ofInt xv)), (2, .int (Int32.ofInt yv)), (3, .int (Int32.ofInt zv)), (4, .int (Int32.ofInt p'))] [] (Wd A dT t') 0 0) → WS k 3 [(0, .ref (A 61)), (1, .int (Int32.ofInt xv)), (2, .int (Int32.ofInt yv)), (3, .int (Int32.ofInt zv)), (4, .int (Int32.ofInt p))] [] (Wd A dT t) 0 0 := by
    intro n
    induction n with
    | zero =>
      intro t xv yv zv p I F hi hm kx
      exact absurd hm (Nat.not_lt_zero _)
    | succ n ih =>
      intro t xv yv zv p I F hi hm kx
      refine z_load X (x := p) rfl (List.Mem.tail _ (List.Mem.tail _ (List.Mem.tail _ (List.Mem.tail _ (List.Mem.head _))))) (z_load_n X (x := xv) rfl (List.Mem.tail _ (List.Mem.head _)) (z_icmp_ge X (t := 80) rfl rfl ⟨by first | exact oq_fa4e5087 hi.2.2.2.1 | omega, by first | exact oq_d3f5d874 hi.2.2.2.2 | omega⟩ ⟨by first | exact oq_9462313e hi.1.1 | omega, by first | exact oq_d3f5d874 hi.1.2 | omega⟩ (fun g1001 => ?_) (fun g1001 => ?_)))
      ·
        refine WS_pq [0, 1, 2, 3, 4] (lv' := [(0, .ref (A 61)), (1, .int (Int32.ofInt xv)), (2, .int (Int32.ofInt yv)), (3, .int (Int32.ofInt zv)), (4, .int (Int32.ofInt p))]) rfl ?_
        exact kx _ p I F (by first | exact ⟨And.intro (hi.1.1) (hi.1.2), And.intro (hi.2.1.1) (hi.2.1.2), And.intro (hi.2.2.1.1) (hi.2.2.1.2), hi.2.2.2.1, hi.2.2.2.2⟩ | omega)
      ·
        refine z_load_n X (x := zv) rfl (List.Mem.tail _ (List.Mem.tail _ (List.Mem.tail _ (List.Mem.head _)))) (z_load X (x := p) rfl (List.Mem.tail _ (List.Mem.tail _ (List.Mem.tail _ (List.Mem.tail _ (List.Mem.head _))))) (z_bshr X rfl (z_any (fun y1002 hy1002 => ?_))))
        refine z_const X rfl (z_andm X rfl (by decide) (by decide) (fun y1003 hy1003 gy1003 => ?_))
        refine z_if_eq X (t := 43) rfl rfl ⟨by first | exact oq_fa4e5087 hy1003 | omega, by first | exact oq_22e1e6b0 gy1003 | omega⟩ (fun g1004 => ?_) (fun g1004 => ?_)
        ·
          refine z_aload_n X (x := A 61) rfl (List.Mem.head _) (s_getR X 61 rfl (c518_ok rfl) rfl rfl (z_load X (x := p) rfl (List.Mem.tail _ (List.Mem.tail _ (List.Mem.tail _ (List.Mem.tail _ (List.Mem.head _))))) (z_ald X 63 rfl (c518_ok rfl) rfl (by first | exact hi.2.2.2.1 | omega) (show p < 8 by first | exact oq_7f5b2e79 g1001 hi.1.2 | omega) (cbig_ok rfl) ?_)))
          have b1005 := bc_53 I (show (p).toNat < 8 by first | exact oq_67be0351 g1001 hi.1.2 | omega)
          refine z_if_le X (t := 74) rfl rfl (rng_to _) (fun g1006 => ?_) (fun g1006 => ?_)
          ·
            refine z_inc X (x := p) (lv' := [(4, .int (Int32.ofInt (p + 1))), (0, .ref (A 61)), (1, .int (Int32.ofInt xv)), (2, .int (Int32.ofInt yv)), (3, .int (Int32.ofInt zv))]) rfl (by decide) (List.Mem.tail _ (List.Mem.tail _ (List.Mem.tail _ (List.Mem.tail _ (List.Mem.head _))))) (fun _ h => h) (z_goto X (t := 3) rfl rfl (WS_pq [1, 2, 3, 4, 0] (lv' := [(0, .ref (A 61)), (1, .int (Int32.ofInt xv)), (2, .int (Int32.ofInt yv)), (3, .int (Int32.ofInt zv)), (4, .int (Int32.ofInt (p + 1)))]) rfl ?_))
            exact ih _ xv yv zv (p + 1) I F (by first | exact ⟨And.intro (hi.1.1) (hi.1.2), And.intro (hi.2.1.1) (hi.2.1.2), And.intro (hi.2.2.1.1) (hi.2.2.1.2), oq_54f49eb5 hi.2.2.2.1, oq_f6204d84 g1001 hi.1.2⟩ | omega) (by first | exact qk_me hm (by decide) (oq_ccc5e5e0 g1001 hi.1.2) | omega) kx
          ·
            refine z_aload_n X (x := A 61) rfl (List.Mem.head _) (s_getR X 61 rfl (c518_ok rfl) rfl rfl (z_load X (x := p) rfl (List.Mem.tail _ (List.Mem.tail _ (List.Mem.tail _ (List.Mem.tail _ (List.Mem.head _))))) (z_const X rfl (z_ast X 63 rfl (c518_ok rfl) rfl (by first | exact hi.2.2.2.1 | omega) (show p < 8 by first | exact oq_7f5b2e79 g1001 hi.1.2 | omega) (cbig_ok rfl) (wd_gen (fun s1007 hs1007 => ?_))))))
            have Is1007 : Bd s1007 := eqB hs1007 (bd_C I (show ((-2147483648) : Int) ≤ 0 ∧ 0 ≤ 2147483647 by first | exact ⟨by decide, by decide⟩ | omega) (by decide))
            have Fs1007 := eqF hs1007 (fm_C F (inl_ok (a := 53) rfl))
            refine z_aload_n X (x := A 61) rfl (List.Mem.head _) (s_getR X 61 rfl (c518_ok rfl) rfl rfl (z_load X (x := p) rfl (List.Mem.tail _ (List.Mem.tail _ (List.Mem.tail _ (List.Mem.tail _ (List.Mem.head _))))) (z_load_n X (x := yv) rfl (List.Mem.tail _ (List.Mem.tail _ (List.Mem.head _))) (z_aload_n X (x := A 61) rfl (List.Mem.head _) (z_getI X 61 rfl (c518_ok rfl) rfl rfl ?_)))))
            have b1008 := bi_37 Is1007
            refine z_add X rfl (z_ast X 64 rfl (c518_ok rfl) rfl (by first | exact hi.2.2.2.1 | omega) (show p < 8 by first | exact oq_7f5b2e79 g1001 hi.1.2 | omega) (cbig_ok rfl) (wd_gen (fun s1009 hs1009 => ?_)))
            have Is1009 : Bd s1009 := eqB hs1009 (bd_C Is1007 (show ((-2147483648) : Int) ≤ (yv + (iI s1007 37)) ∧ (yv + (iI s1007 37)) ≤ 2147483647 by first | exact ⟨oq_00477806 hi.2.1.1 b1008.1, oq_2a8744a7 hi.2.1.2 b1008.2⟩ | omega) ⟨by first | exact oq_00477806 hi.2.1.1 b1008.1 | omega, by first | exact oq_2a8744a7 hi.2.1.2 b1008.2 | omega⟩)
            have Fs1009 := eqF hs1009 (fm_C Fs1007 (inl_ok (a := 54) rfl))
            refine z_inc X (x := p) (lv' := [(4, .int (Int32.ofInt (p + 1))), (0, .ref (A 61)), (1, .int (Int32.ofInt xv)), (2, .int (Int32.ofInt yv)), (3, .int (Int32.ofInt zv))]) rfl (by decide) (List.Mem.tail _ (List.Mem.tail _ (List.Mem.tail _ (List.Mem.tail _ (List.Mem.head _))))) (fun _ h => h) (z_goto X (t := 3) rfl rfl (WS_pq [1, 2, 3, 4, 0] (lv' := [(0, .ref (A 61)), (1, .int (Int32.ofInt xv)), (2, .int (Int32.ofInt yv)), (3, .int (Int32.ofInt zv)), (4, .int (Int32.ofInt (p + 1)))]) rfl ?_))
            exact ih _ xv yv zv (p + 1) Is1009 Fs1009 (by first | exact ⟨And.intro (hi.1.1) (hi.1.2), And.intro (hi.2.1.1) (hi.2.1.2), And.intro (hi.2.2.1.1) (hi.2.2.1.2), oq_54f49eb5 hi.2.2.2.1, oq_f6204d84 g1001 hi.1.2⟩ | omega) (by first | exact qk_me hm (by decide) (oq_ccc5e5e0 g1001 hi.1.2) | omega) kx
        ·
          refine z_aload_n X (x := A 61) rfl (List.Mem.head _) (s_getR X 61 rfl (c518_ok rfl) rfl rfl (z_load X (x := p) rfl (List.Mem.tail _ (List.Mem.tail _ (List.Mem.tail _ (List.Mem.tail _ (List.Mem.head _))))) (w_dup2_11 X.1 (ax_d X (show cdA 66 24 = some (.dup2, 1, 0, 0, 0) from rfl)) rfl rfl (z_ald X 63 rfl (c518_ok rfl) rfl (by first | exact hi.2.2.2.1 | omega) (show p < 8 by first | exact oq_7f5b2e79 g1001 hi.1.2 | omega) (cbig_ok rfl) ?_))))
          have b1010 := bc_53 I (show (p).toNat < 8 by first | exact oq_67be0351 g1001 hi.1.2 | omega)
          refine z_const X rfl (z_add X rfl (z_any (fun y1011 hy1011 => ?_)))
          refine z_ast X 63 rfl (c518_ok rfl) rfl (by first | exact hi.2.2.2.1 | omega) (show p < 8 by first | exact oq_7f5b2e79 g1001 hi.1.2 | omega) (cbig_ok rfl) (wd_gen (fun s1012 hs1012 => ?_))
          have Is1012 : Bd s1012 := eqB hs1012 (bd_C I (show ((-2147483648) : Int) ≤ y1011 ∧ y1011 ≤ 2147483647 by first | exact ⟨hy1011.1, hy1011.2⟩ | omega) hy1011)
          have Fs1012 := eqF hs1012 (fm_C F (inl_ok (a := 53) rfl))
          refine z_aload_n X (x := A 61) rfl (List.Mem.head _) (s_getR X 61 rfl (c518_ok rfl) rfl rfl (z_load X (x := p) rfl (List.Mem.tail _ (List.Mem.tail _ (List.Mem.tail _ (List.Mem.tail _ (List.Mem.head _))))) (w_dup2_11 X.1 (ax_d X (show cdA 66 35 = some (.dup2, 1, 0, 0, 0) from rfl)) rfl rfl (z_ald X 65 rfl (c518_ok rfl) rfl (by first | exact hi.2.2.2.1 | omega) (show p < 8 by first | exact oq_7f5b2e79 g1001 hi.1.2 | omega) (cbig_ok rfl) ?_))))
          have b1013 := bc_55 Is1012 (show (p).toNat < 8 by first | exact oq_67be0351 g1001 hi.1.2 | omega)
          refine z_const X rfl (z_add X rfl (z_any (fun y1014 hy1014 => ?_)))
          refine z_ast X 65 rfl (c518_ok rfl) rfl (by first | exact hi.2.2.2.1 | omega) (show p < 8 by first | exact oq_7f5b2e79 g1001 hi.1.2 | omega) (cbig_ok rfl) (wd_gen (fun s1015 hs1015 => ?_))
          have Is1015 : Bd s1015 := eqB hs1015 (bd_C Is1012 (show ((-2147483648) : Int) ≤ y1014 ∧ y1014 ≤ 2147483647 by first | exact ⟨hy1014.1, hy1014.2⟩ | omega) hy1014)
          have Fs1015 := eqF hs1015 (fm_C Fs1012 (inl_ok (a := 55) rfl))
          refine z_goto X (t := 74) rfl rfl (z_inc X (x := p) (lv' := [(4, .int (Int32.ofInt (p + 1))), (0, .ref (A 61)), (1, .int (Int32.ofInt xv)), (2, .int (Int32.ofInt yv)), (3, .int (Int32.ofInt zv))]) rfl (by decide) (List.Mem.tail _ (List.Mem.tail _ (List.Mem.tail _ (List.Mem.tail _ (List.Mem.head _))))) (fun _ h => h) (z_goto X (t := 3) rfl rfl (WS_pq [1, 2, 3, 4, 0] (lv' := [(0, .ref (A 61)), (1, .int (Int32.ofInt xv)), (2, .int (Int32.ofInt yv)), (3, .int (Int32.ofInt zv)), (4, .int (Int32.ofInt (p + 1)))]) rfl ?_)))
          exact ih _ xv yv zv (p + 1) Is1015 Fs1015 (by first | exact ⟨And.intro (hi.1.1) (hi.1.2), And.intro (hi.2.1.1) (hi.2.1.2), And.intro (hi.2.2.1.1) (hi.2.2.1.2), oq_54f49eb5 hi.2.2.2.1, oq_f6204d84 g1001 hi.1.2⟩ | omega) (by first | exact qk_me hm (by decide) (oq_ccc5e5e0 g1001 hi.1.2) | omega) kx
  refine z_const X rfl (z_store X (lv' := [(4, .int (Int32.ofInt 0)), (0, .ref (A 61)), (1, .int (Int32.ofInt x)), (2, .int (Int32.ofInt y)), (3, .int (Int32.ofInt z))]) rfl (by decide) (fun _ h => h) (WS_pq [1, 2, 3, 4, 0] (lv' := [(0, .ref (A 61)), (1, .int (Int32.ofInt x)), (2, .int (Int32.ofInt y)), (3, .int (Int32.ofInt z)), (4, .int (Int32.ofInt 0))]) rfl (L3 ((8 - 0 : Int).toNat + 1) s x y z 0 I F (by first | exact ⟨And.intro (p0.1) (p0.2), And.intro (p1.1) (p1.2), And.intro (p2.1) (p2.2), by decide, by decide⟩ | omega) (Nat.lt_succ_self _) ?_)))
  intro s1 x2 Is1 Fs1 hs1
  exact w_vret X.1 q hRt (ax_d X (show cdA 66 80 = some (.return_, 1, 0, 0, 0) from rfl)) (Nat.zero_le _) (Nat.zero_le _) ⟨_, rfl, Is1, Fs1, rfl, trivial⟩
set_option maxRecDepth 4000 in
theorem c6_run_61 (G : GX l s0 D tys a0 dT) (I : Bd s) {x : Int} (p0 : 1 ≤ x ∧ x ≤ 8) : CT l s0 D A dT 62 (rmN 62) [.ref (A 61), .int (Int32.ofInt x)] s (fun o t => Bd t ∧ Fm [38] [53, 54, 55, 56] s t ∧ o = .inl none ∧ (True)) := by
  refine ct_ofX G (by decide) (Nat.le_of_ble_eq_true rfl) (fun k X E ET hRt hXt q => ?_)
  show WS k 0 [(0, .ref (A 61)), (1, .int (Int32.ofInt x))] [] _ 0 0
  have F : Fm [38] [53, 54, 55, 56] s s := fm_rf _ _ s
  have L31 : ∀ (n : Nat) (t : PS) (xv qq : Int), Bd t → Fm [38] [53, 54, 55, 56] s t → ((1 ≤ xv ∧ xv ≤ 8) ∧ 0 ≤ qq ∧ qq ≤ 24) → (24 - qq : Int).toNat < n → (∀ (t' : PS) (qq' : Int), Bd t' → Fm [38] [53, 54, 55, 56] s t' → ((1 ≤ xv ∧ xv ≤ 8) ∧ 0 ≤ qq' ∧ qq' ≤ 24) → WS k 119 [(0, .ref (A 61)), (1, .int (Int32.ofInt xv)), (2, .int (Int32.ofInt qq'))] [] (Wd A dT t') 0 0) → WS k 31 [(0, .ref (A 61)), (1, .int (Int32.ofInt xv)), (2, .int (Int32.ofInt qq))] [] (Wd A dT t) 0 0 := by
    intro n
    induction n with
    | zero =>
      intro t xv qq I F hi hm kx
      exact absurd hm (Nat.not_lt_zero _)
    | succ n ih =>
      intro t xv qq I F hi hm kx
      refine z_load_n X (x := qq) rfl (List.Mem.tail _ (List.Mem.tail _ (List.Mem.head _))) (z_bipush X rfl (z_icmp_ge X (t := 119) rfl rfl ⟨by first | exact oq_fa4e5087 hi.2.1 | omega, by first | exact oq_5bcd337f hi.2.2 | omega⟩ (by decide) (fun g1001 => ?_) (fun g1001 => ?_)))
      ·
        refine WS_pq [0, 1, 2] (lv' := [(0, .ref (A 61)), (1, .int (Int32.ofInt xv)), (2, .int (Int32.ofInt qq))]) rfl ?_
        exact kx _ qq I F (by first | exact ⟨And.intro (hi.1.1) (hi.1.2), hi.2.1, hi.2.2⟩ | omega)
      ·
        refine z_aload_n X (x := A 61) rfl (List.Mem.head _) (s_getR X 61 rfl (c518_ok rfl) rfl rfl (z_load_n X (x := qq) rfl (List.Mem.tail _ (List.Mem.tail _ (List.Mem.head _))) (zcV_i0 X E 54 (As := [.int (Int32.ofInt qq)]) (st := []) rfl rfl rfl rfl (c4_needAt_54 G I (by first | exact ⟨hi.2.1, oq_c69fe266 g1001⟩ | omega)) rfl (Nat.le_of_ble_eq_true rfl) (fun s1002 e1003 Is1002 Fs1002 hrs1002 hps1002 => ?_))))
        have Gs1002 := fm_tq F Fs1002 rfl rfl
        refine z_store_n X (lv' := [(3, .int (Int32.ofInt e1003)), (0, .ref (A 61)), (1, .int (Int32.ofInt xv)), (2, .int (Int32.ofInt qq))]) rfl (by decide) (fun _ h => h) (z_aload_n X (x := A 61) rfl (List.Mem.tail _ (List.Mem.head _)) (z_aload_n X (x := A 61) rfl (List.Mem.tail _ (List.Mem.head _)) (z_load_n X (x := xv) rfl (List.Mem.tail _ (List.Mem.tail _ (List.Mem.head _))) (z_load_n X (x := qq) rfl (List.Mem.tail _ (List.Mem.tail _ (List.Mem.tail _ (List.Mem.head _)))) (zcV_i0 X E 61 (As := [.int (Int32.ofInt xv), .int (Int32.ofInt qq)]) (st := [.ref (A 61)]) rfl rfl rfl rfl (c6_mayGoOn_61 G Is1002 (by first | exact ⟨hi.1.1, hi.1.2⟩ | omega) (by first | exact ⟨hi.2.1, oq_c69fe266 g1001⟩ | omega)) rfl (Nat.le_of_ble_eq_true rfl) (fun s1004 e1005 Is1004 Fs1004 hrs1004 hps1004 => ?_))))))
        have Gs1004 := fm_tq Gs1002 Fs1004 rfl rfl
        refine z_load_n X (x := e1003) rfl (List.Mem.head _) (zcV_i0 X E 61 (As := [.int (Int32.ofInt e1005), .int (Int32.ofInt e1003)]) (st := []) rfl rfl rfl rfl (c6_fewestOf_61 G Is1004 (by omega) (by omega)) rfl (Nat.le_of_ble_eq_true rfl) (fun s1006 e1007 Is1006 Fs1006 hrs1006 hps1006 => ?_))
        have Gs1006 := fm_tq Gs1004 Fs1006 rfl rfl
        refine z_store X (lv' := [(4, .int (Int32.ofInt e1007)), (3, .int (Int32.ofInt e1003)), (0, .ref (A 61)), (1, .int (Int32.ofInt xv)), (2, .int (Int32.ofInt qq))]) rfl (by decide) (fun _ h => h) (z_load X (x := e1007) rfl (List.Mem.head _) (z_aload_n X (x := A 61) rfl (List.Mem.tail _ (List.Mem.tail _ (List.Mem.head _))) (z_aload_n X (x := A 61) rfl (List.Mem.tail _ (List.Mem.tail _ (List.Mem.head _))) (z_load_n X (x := xv) rfl (List.Mem.tail _ (List.Mem.tail _ (List.Mem.tail _ (List.Mem.head _)))) (z_load_n X (x := qq) rfl (List.Mem.tail _ (List.Mem.tail _ (List.Mem.tail _ (List.Mem.tail _ (List.Mem.head _))))) (zcV_i0 X E 61 (As := [.int (Int32.ofInt xv), .int (Int32.ofInt qq)]) (st := [.ref (A 61), .int (Int32.ofInt e1007)]) rfl rfl rfl rfl (c6_mayBegin_61 G Is1006 (by first | exact ⟨hi.1.1, hi.1.2⟩ | omega) (by first | exact ⟨hi.2.1, oq_c69fe266 g1001⟩ | omega)) rfl (Nat.le_of_ble_eq_true rfl) (fun s1008 e1009 Is1008 Fs1008 hrs1008 hps1008 => ?_)))))))
        have Gs1008 := fm_tq Gs1006 Fs1008 rfl rfl
        refine z_load_n X (x := e1003) rfl (List.Mem.tail _ (List.Mem.head _)) (z_load X (x := e1007) rfl (List.Mem.head _) (zcS_i0 X E (As := [.int (Int32.ofInt e1007)]) (st := [.int (Int32.ofInt e1003), .int (Int32.ofInt e1009), .ref (A 61), .int (Int32.ofInt e1007)]) rfl rfl (j_bitI G Is1008 (by omega)) rfl (Nat.le_of_ble_eq_true rfl) (fun s1010 e1011 Is1010 Fs1010 hrs1010 hps1010 => ?_)))
        have Gs1010 := fm_tq Gs1008 Fs1010 rfl rfl
        refine z_sub X rfl (z_any (fun y1012 hy1012 => ?_))
        refine zcV_i0 X E 61 (As := [.int (Int32.ofInt e1009), .int (Int32.ofInt y1012)]) (st := [.int (Int32.ofInt e1007)]) rfl rfl rfl rfl (c6_fewestOf_61 G Is1010 (by omega) (by first | exact ⟨hy1012.1, hy1012.2⟩ | omega)) rfl (Nat.le_of_ble_eq_true rfl) (fun s1013 e1014 Is1013 Fs1013 hrs1013 hps1013 => ?_)
        have Gs1013 := fm_tq Gs1010 Fs1013 rfl rfl
        refine z_bor X rfl (z_any (fun y1015 hy1015 => ?_))
        refine z_store X (lv' := [(4, .int (Int32.ofInt y1015)), (3, .int (Int32.ofInt e1003)), (0, .ref (A 61)), (1, .int (Int32.ofInt xv)), (2, .int (Int32.ofInt qq))]) rfl (by decide) (fun _ h => h) (z_aload_n X (x := A 61) rfl (List.Mem.tail _ (List.Mem.tail _ (List.Mem.head _))) (w_dup X.1 (ax_d X (show cdA 62 82 = some (.dup, 1, 0, 0, 0) from rfl)) rfl (z_getI X 61 rfl (c518_ok rfl) rfl rfl ?_)))
        have b1016 := bi_38 Is1013
        refine z_load_n X (x := e1003) rfl (List.Mem.tail _ (List.Mem.head _)) (z_load X (x := y1015) rfl (List.Mem.head _) (zcS_i0 X E (As := [.int (Int32.ofInt y1015)]) (st := [.int (Int32.ofInt e1003), .int (Int32.ofInt (iI s1013 38)), .ref (A 61)]) rfl rfl (j_bitI G Is1013 (by first | exact ⟨hy1015.1, hy1015.2⟩ | omega)) rfl (Nat.le_of_ble_eq_true rfl) (fun s1017 e1018 Is1017 Fs1017 hrs1017 hps1017 => ?_)))
        have Gs1017 := fm_tq Gs1013 Fs1017 rfl rfl
        refine z_sub X rfl (z_any (fun y1019 hy1019 => ?_))
        refine z_add X rfl (z_any (fun y1020 hy1020 => ?_))
        refine s_putI X 61 rfl (c518_ok rfl) rfl rfl (by decide) rfl rfl rfl (wd_gen (fun s1021 hs1021 => ?_))
        have Is1021 : Bd s1021 := eqB hs1021 (bd_I Is1017 (show ((-2147483648) : Int) ≤ y1020 ∧ y1020 ≤ 2147483647 by first | exact ⟨hy1020.1, hy1020.2⟩ | omega) hy1020)
        have Fs1021 := eqF hs1021 (fm_I Gs1017 (inl_ok (a := 38) rfl))
        have vs1021 : iI s1021 38 = y1020 := eqI hs1021 (iI_u hy1020)
        refine z_aload_n X (x := A 61) rfl (List.Mem.tail _ (List.Mem.tail _ (List.Mem.head _))) (s_getR X 61 rfl (c518_ok rfl) rfl rfl (z_load_n X (x := qq) rfl (List.Mem.tail _ (List.Mem.tail _ (List.Mem.tail _ (List.Mem.tail _ (List.Mem.head _))))) (z_load X (x := y1015) rfl (List.Mem.head _) (z_ast X 66 rfl (c518_ok rfl) rfl (by first | exact hi.2.1 | omega) (show qq < 24 by first | exact g1001 | omega) (cbig_ok rfl) (wd_gen (fun s1022 hs1022 => ?_))))))
        have Is1022 : Bd s1022 := eqB hs1022 (bd_C Is1021 (show ((-2147483648) : Int) ≤ y1015 ∧ y1015 ≤ 2147483647 by first | exact ⟨hy1015.1, hy1015.2⟩ | omega) hy1015)
        have Fs1022 := eqF hs1022 (fm_C Fs1021 (inl_ok (a := 56) rfl))
        refine z_aload_n X (x := A 61) rfl (List.Mem.tail _ (List.Mem.tail _ (List.Mem.head _))) (z_load_n X (x := xv) rfl (List.Mem.tail _ (List.Mem.tail _ (List.Mem.tail _ (List.Mem.head _)))) (z_load_n X (x := qq) rfl (List.Mem.tail _ (List.Mem.tail _ (List.Mem.tail _ (List.Mem.tail _ (List.Mem.head _))))) (z_load X (x := y1015) rfl (List.Mem.head _) (zcV_v0 X E 61 (As := [.int (Int32.ofInt xv), .int (Int32.ofInt qq), .int (Int32.ofInt y1015)]) (st := []) rfl rfl rfl rfl (c6_settle_61 G Is1022 (by first | exact ⟨hi.1.1, hi.1.2⟩ | omega) (by first | exact ⟨hi.2.1, oq_c69fe266 g1001⟩ | omega) (by first | exact ⟨hy1015.1, hy1015.2⟩ | omega)) rfl (Nat.le_of_ble_eq_true rfl) (fun s1023 Is1023 Fs1023 hps1023 => ?_)))))
        have Gs1023 := fm_tq Fs1022 Fs1023 rfl rfl
        refine z_inc X (x := qq) (lv' := [(2, .int (Int32.ofInt (qq + 1))), (4, .int (Int32.ofInt y1015)), (3, .int (Int32.ofInt e1003)), (0, .ref (A 61)), (1, .int (Int32.ofInt xv))]) rfl (by decide) (List.Mem.tail _ (List.Mem.tail _ (List.Mem.tail _ (List.Mem.tail _ (List.Mem.head _))))) (fun _ h => h) (z_goto X (t := 31) rfl rfl (WS_pq [3, 4, 0] (lv' := [(0, .ref (A 61)), (1, .int (Int32.ofInt xv)), (2, .int (Int32.ofInt (qq + 1)))]) rfl ?_))
        exact ih _ xv (qq + 1) Is1023 Gs1023 (by first | exact ⟨And.intro (hi.1.1) (hi.1.2), oq_54f49eb5 hi.2.1, oq_cec7cb2e g1001⟩ | omega) (by first | exact qk_me hm (by decide) (oq_ffa8317e g1001) | omega) kx
  refine z_aload_n X (x := A 61) rfl (List.Mem.head _) (s_getR X 61 rfl (c518_ok rfl) rfl rfl (z_const X rfl (zcS_v0 X E (As := [.ref (A 63), .int (Int32.ofInt 0)]) (st := []) rfl rfl (j_fill_63 G I (by first | exact ⟨by decide, by decide⟩ | omega)) rfl (Nat.le_of_ble_eq_true rfl) (fun s1 Is1 Fs1 hps1 => ?_))))
  have Gs1 := fm_tq F Fs1 rfl rfl
  refine z_aload_n X (x := A 61) rfl (List.Mem.head _) (s_getR X 61 rfl (c518_ok rfl) rfl rfl (z_const X rfl (zcS_v0 X E (As := [.ref (A 64), .int (Int32.ofInt 0)]) (st := []) rfl rfl (j_fill_64 G Is1 (by first | exact ⟨by decide, by decide⟩ | omega)) rfl (Nat.le_of_ble_eq_true rfl) (fun s3 Is3 Fs3 hps3 => ?_))))
  have Gs3 := fm_tq Gs1 Fs3 rfl rfl
  refine z_aload_n X (x := A 61) rfl (List.Mem.head _) (s_getR X 61 rfl (c518_ok rfl) rfl rfl (z_const X rfl (zcS_v0 X E (As := [.ref (A 65), .int (Int32.ofInt 0)]) (st := []) rfl rfl (j_fill_65 G Is3 (by first | exact ⟨by decide, by decide⟩ | omega)) rfl (Nat.le_of_ble_eq_true rfl) (fun s5 Is5 Fs5 hps5 => ?_))))
  have Gs5 := fm_tq Gs3 Fs5 rfl rfl
  refine z_aload_n X (x := A 61) rfl (List.Mem.head _) (z_const X rfl (s_putI X 61 rfl (c518_ok rfl) rfl rfl (by decide) rfl rfl rfl (wd_gen (fun s7 hs7 => ?_))))
  have Is7 : Bd s7 := eqB hs7 (bd_I Is5 (show ((-2147483648) : Int) ≤ 0 ∧ 0 ≤ 2147483647 by first | exact ⟨by decide, by decide⟩ | omega) (by decide))
  have Fs7 := eqF hs7 (fm_I Gs5 (inl_ok (a := 38) rfl))
  have vs7 : iI s7 38 = 0 := eqI hs7 (iI_u (by decide))
  refine z_const X rfl (z_store_n X (lv' := [(2, .int (Int32.ofInt 0)), (0, .ref (A 61)), (1, .int (Int32.ofInt x))]) rfl (by decide) (fun _ h => h) (WS_pq [1, 2, 0] (lv' := [(0, .ref (A 61)), (1, .int (Int32.ofInt x)), (2, .int (Int32.ofInt 0))]) rfl (L31 ((24 - 0 : Int).toNat + 1) s7 x 0 Is7 Fs7 (by first | exact ⟨And.intro (p0.1) (p0.2), by decide, by decide⟩ | omega) (Nat.lt_succ_self _) ?_)))
  intro s8 x9 Is8 Fs8 hs8
  exact w_vret X.1 q hRt (ax_d X (show cdA 62 119 = some (.return_, 1, 0, 0, 0) from rfl)) (Nat.zero_le _) (Nat.zero_le _) ⟨_, rfl, Is8, Fs8, rfl, trivial⟩
end M75
