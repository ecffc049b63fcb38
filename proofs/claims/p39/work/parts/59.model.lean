theorem oq_29e5dbe2 {a0 : Int} (h0 : a0 ≤ 255) : a0 < 256 := by omega
theorem oq_c39a26fc {a0 : Int} (h0 : a0 ≤ 255) : (a0 : Int).toNat < 256 := by omega
theorem oq_58cbab50 {a0 : Int} (h0 : a0 ≤ 8) : a0 ≤ 11 := by omega
theorem oq_09cd9fc1 {a0 : Int} (h0 : a0 ≤ 256) : a0 ≤ 2147483647 := by omega
theorem oq_e0f19d36 {a0 : Int} (h0 : a0 ≤ 2048) : a0 ≤ 2147483647 := by omega
theorem oq_3fc2ba08 {a0 : Int} (h0 : a0 ≤ 255) : (a0 + 1) ≤ 256 := by omega
theorem oq_0e4c52fb {a0 : Int} (h0 : a0 ≤ 255) : 0 < (256 - a0) := by omega
theorem oq_861e1648 {a0 : Int} (h0 : a0 ≤ 2) : a0 ≤ 2147483647 := by omega
theorem oq_b4026d49 {a0 : Int} (h0 : a0 < 256) : a0 ≤ 255 := by omega
theorem oq_2a2abc22 {a0 a1 : Int} (h0 : a0 < a1) (h1 : a1 ≤ 3) : a0 ≤ 2 := by omega
theorem oq_0fae2c5f {a0 : Int} (h0 : a0 ≤ 2) : (a0 + 1) ≤ 3 := by omega
theorem oq_ff4111af {a0 : Int} (h0 : a0 ≤ 2) : 0 < (3 - a0) := by omega
theorem oq_7f42415e  : (0 : Int).toNat < 8 := by omega
theorem oq_57e4ae5d : 6 + 1 ≤ (12 + (12 + (0))) := by omega
theorem oq_67d961ff : 8 + (7 + 11) + 100 ≤ (500 + 45 * (12 + (0))) := by omega
theorem oq_79ac70b5 {a0 : Int} (h0 : a0 ≤ 3) : a0 ≤ 7 := by omega
theorem oq_d3a33ee2 {a0 a1 a2 a3 : Int} (h0 : a0 = a1) (h1 : a2 = a3) (h2 : a2 < a1) : a3 ≤ a0 := by omega
theorem oq_23161452 (r : Nat) : (12 + (12 + (r))) + 1 ≤ (12 + (12 + (r + 1))) := by omega
theorem oq_5db9f55c (r : Nat) : 8 + (5 + 11) + (500 + 45 * (12 + (r))) ≤ (500 + 45 * (12 + (r + 1))) := by omega
theorem oq_917370dc {a0 a1 : Int} (h0 : a0 < a1) (h1 : a1 ≤ 3) : (a0 + 1) ≤ 3 := by omega
theorem oq_83a89698 {a0 a1 : Int} (h0 : a0 < a1) (h1 : a1 ≤ 3) : 0 < (3 - a0) := by omega
theorem oq_06adfc3a {a0 a1 : Int} (h0 : a0 ≠ a1) (h1 : a0 ≤ a1) (h2 : 0 ≤ a0) : (0 ≤ a0 ∧ a0 < a1) := by omega
theorem oq_895d89e2 (r : Nat) : 6 + 1 ≤ (12 + (12 + (r + 1))) := by omega
theorem oq_41a8610d (r : Nat) : 8 + (7 + 11) + 100 ≤ (500 + 45 * (12 + (r + 1))) := by omega
theorem oq_0f93fca7 {a0 a1 a2 : Int} (h0 : a0 = a1) (h1 : a1 = a2) (h2 : 0 ≤ a2) : 0 ≤ a0 := by omega
theorem oq_869f4868 {a0 a1 a2 : Int} (h0 : a0 = a1) (h1 : a1 = a2) (h2 : a2 ≤ 8) : (a0 - 0) ≤ ((8 : Nat) : Int) := by omega
theorem oq_f7cc7c47 {a0 a1 : Int} (h0 : a0 = 0) (h1 : (1 = 1 → a0 = 1)) : a1 ≤ 3 := by omega
theorem oq_7efb0865 : 32 + 1 ≤ 38 := by omega
theorem oq_2d6821c8 : 8 + (5 + 11) + 1400 ≤ 1601 := by omega
theorem oq_ce6c459a {a0 a1 : Int} (h0 : a0 ≠ 0) (h1 : ((a0 = 1 ∧ (1 ≤ a1 ∧ a1 ≤ 3)) ∨ (a0 = 0 ∧ (a1 < 1 ∨ 3 < a1)))) : 1 ≤ a1 := by omega
theorem oq_3bba0cb6 {a0 a1 : Int} (h0 : a0 ≠ 0) (h1 : ((a0 = 1 ∧ (1 ≤ a1 ∧ a1 ≤ 3)) ∨ (a0 = 0 ∧ (a1 < 1 ∨ 3 < a1)))) : a1 ≤ 3 := by omega
theorem oq_2e6f89e7 {a0 a1 a2 a3 a4 a5 : Int} (h0 : ((a0 ≠ (-1) ∧ (a0 ≠ (-2) ∧ ((0 ≤ a1 ∧ a1 ≤ 8) ∧ (a1 ≤ a0 ∧ a2 = (-1))))) ∨ ((a0 ≠ (-1) ∧ (a0 ≠ (-2) ∧ ((0 ≤ a1 ∧ a1 ≤ 8) ∧ (a0 < a1 ∧ (((-1) ≤ a3 ∧ a3 ≤ 7) ∧ a2 = a3))))) ∨ ((a0 ≠ (-1) ∧ (a0 = (-2) ∧ (((-2147483648) ≤ a4 ∧ a4 ≤ 2147483647) ∧ a2 = a4))) ∨ (a0 = (-1) ∧ (((-2147483648) ≤ a5 ∧ a5 ≤ 2147483647) ∧ a2 = a5)))))) : (-2147483648) ≤ a2 := by omega
theorem oq_30d08da3 {a0 a1 a2 a3 a4 a5 : Int} (h0 : ((a0 ≠ (-1) ∧ (a0 ≠ (-2) ∧ ((0 ≤ a1 ∧ a1 ≤ 8) ∧ (a1 ≤ a0 ∧ a2 = (-1))))) ∨ ((a0 ≠ (-1) ∧ (a0 ≠ (-2) ∧ ((0 ≤ a1 ∧ a1 ≤ 8) ∧ (a0 < a1 ∧ (((-1) ≤ a3 ∧ a3 ≤ 7) ∧ a2 = a3))))) ∨ ((a0 ≠ (-1) ∧ (a0 = (-2) ∧ (((-2147483648) ≤ a4 ∧ a4 ≤ 2147483647) ∧ a2 = a4))) ∨ (a0 = (-1) ∧ (((-2147483648) ≤ a5 ∧ a5 ≤ 2147483647) ∧ a2 = a5)))))) : a2 ≤ 2147483647 := by omega
theorem oq_872438c8 {a0 a1 a2 a3 : Int} (h0 : a0 ≠ (-2)) (h1 : a0 ≠ (-1)) (h2 : a1 = 0) (h3 : (a2 = 1 → a1 = 1)) (h4 : a2 ≤ 1) (h5 : ((a3 ≠ 0 ∧ a2 = 0) ∨ (a3 = 0 ∧ a2 = 1))) (h6 : ((a3 = 1 ∧ ((-2) ≤ a0 ∧ a0 ≤ 7)) ∨ (a3 = 0 ∧ (a0 < (-2) ∨ 7 < a0)))) : 0 ≤ a0 := by omega
/-! The model: regions -/
theorem shl1 {y : Int} (h : 0 ≤ y ∧ y ≤ 11) : 1 ≤ (Int32.ofInt 1 <<< (Int32.ofInt y &&& 31)).toInt ∧ (Int32.ofInt 1 <<< (Int32.ofInt y &&& 31)).toInt ≤ 2048 ∧ (y ≤ 8 → (Int32.ofInt 1 <<< (Int32.ofInt y &&& 31)).toInt ≤ 256) ∧ (y ≤ 7 → (Int32.ofInt 1 <<< (Int32.ofInt y &&& 31)).toInt ≤ 128) := by
  have : y = 0 ∨ y = 1 ∨ y = 2 ∨ y = 3 ∨ y = 4 ∨ y = 5 ∨ y = 6 ∨ y = 7 ∨ y = 8 ∨ y = 9 ∨ y = 10 ∨ y = 11 := by omega
  rcases this with e | e | e | e | e | e | e | e | e | e | e | e <;> subst e <;> decide +kernel
theorem or_bd (n : Nat) (hn : n ≤ 30) {x y : Int} (hx : 0 ≤ x ∧ x < 2 ^ n) (hy : 0 ≤ y ∧ y < 2 ^ n) : 0 ≤ (Int32.ofInt x ||| Int32.ofInt y).toInt ∧ (Int32.ofInt x ||| Int32.ofInt y).toInt < 2 ^ n := by
  have hp : (2 : Int) ^ n ≤ 2 ^ 30 := by
    have := Nat.pow_le_pow_right (n := 2) (by decide) hn
    have e : ((2 ^ n : Nat) : Int) = 2 ^ n := by simp
    have e2 : ((2 ^ 30 : Nat) : Int) = 2 ^ 30 := by decide
    omega
  have h30 : (2 : Int) ^ 30 = 1073741824 := by decide
  have hb : x < 1073741824 ∧ y < 1073741824 := by omega
  rw [← z_or]
  have ex : zN x = x.toNat := by unfold zN; omega
  have ey : zN y = y.toNat := by unfold zN; omega
  have e : ((2 ^ n : Nat) : Int) = 2 ^ n := by simp
  have hl : Nat.lor (zN x) (zN y) < 2 ^ n := by
    rw [ex, ey]
    exact Nat.or_lt_two_pow (by omega) (by omega)
  have hl2 : ((Nat.lor (zN x) (zN y) : Nat) : Int) < 2 ^ n := by omega
  have e3 : zOf (Nat.lor (zN x) (zN y)) = (Nat.lor (zN x) (zN y) : Int) := by
    unfold zOf
    rw [if_pos (Nat.ble_eq.mpr (by omega))]
  rw [e3, zi ⟨by omega, by omega⟩]
  omega
section ZX
variable {k : kx_T} {mn pc : Nat} {dT : Nat → ClassId} {lv : List (Nat × Value)} {st : List Value} {ws : va_W} {ce sl a b : Nat} {z : Int}
theorem z_shl1 (X : AX k mn dT) {y : Int} (h : cdA mn pc = some (.ishl, 1, a, b, z)) (hy : 0 ≤ y ∧ y ≤ 11) (g : ∀ e : Int, 1 ≤ e → e ≤ 2048 → (y ≤ 8 → e ≤ 256) → (y ≤ 7 → e ≤ 128) → WS k (pc + 1) lv (.int (Int32.ofInt e) :: st) ws ce sl) : WS k pc lv (.int (Int32.ofInt y) :: .int (Int32.ofInt 1) :: st) ws ce sl := by
  obtain ⟨h1, h2, h3, h4⟩ := shl1 hy
  have := g _ h1 h2 h3 h4
  rw [ofi_to] at this
  exact z_bshl X h this
theorem z_orb (X : AX k mn dT) {x y : Int} (h : cdA mn pc = some (.ior, 1, a, b, z)) (n : Nat) (hn : n ≤ 30) (hx : 0 ≤ x ∧ x < 2 ^ n) (hy : 0 ≤ y ∧ y < 2 ^ n) (g : ∀ e : Int, 0 ≤ e → e < 2 ^ n → WS k (pc + 1) lv (.int (Int32.ofInt e) :: st) ws ce sl) : WS k pc lv (.int (Int32.ofInt y) :: .int (Int32.ofInt x) :: st) ws ce sl := by
  obtain ⟨h1, h2⟩ := or_bd n hn hx hy
  have := g _ h1 h2
  rw [ofi_to] at this
  exact z_bor X h this
end ZX
section M59
variable {l : Launch} {s0 : State} {D : va_G} {tys : List (ClassId × FieldType)} {a0 : Array Value} {A : Nat → Nat} {dT : Nat → ClassId} {s : PS}
set_option maxRecDepth 4000 in
theorem k_findSets (G : GX l s0 D tys a0 dT) (I : Bd s) (jRLx : RLx s)  : CT l s0 D A dT 260 (rmN 260) [.ref (A 179)] s (fun o t => Bd t ∧ Fm [77, 75, 78, 79, 80, 81] [202, 204, 205, 206, 207, 208, 209, 210, 211, 212, 213, 214, 215, 216, 217, 218, 219, 220, 221, 222, 223, 224, 225, 226, 227, 203, 161, 230, 231, 232, 240, 238, 239] s t ∧ RLx t ∧ o = .inl none ∧ (True)) := by
  refine ct_of G (by decide) (Nat.le_of_ble_eq_true rfl) (fun k X E hRt hXt q => ?_)
  show WS k 0 [(0, .ref (A 179))] [] _ 0 0
  have F : Fm [77, 75, 78, 79, 80, 81] [202, 204, 205, 206, 207, 208, 209, 210, 211, 212, 213, 214, 215, 216, 217, 218, 219, 220, 221, 222, 223, 224, 225, 226, 227, 203, 161, 230, 231, 232, 240, 238, 239] s s := fm_rf _ _ s
  have b1 := bi_97 I
  have L14 : ∀ (n : Nat) (t : PS) (bi c : Int), Bd t → Fm [77, 75, 78, 79, 80, 81] [202, 204, 205, 206, 207, 208, 209, 210, 211, 212, 213, 214, 215, 216, 217, 218, 219, 220, 221, 222, 223, 224, 225, 226, 227, 203, 161, 230, 231, 232, 240, 238, 239] s t → RLx t → ((1 ≤ bi ∧ bi ≤ 255) ∧ 0 ≤ c ∧ c ≤ 128) → (128 - c : Int).toNat < n → (∀ (t' : PS) (c' : Int), Bd t' → Fm [77, 75, 78, 79, 80, 81] [202, 204, 205, 206, 207, 208, 209, 210, 211, 212, 213, 214, 215, 216, 217, 218, 219, 220, 221, 222, 223, 224, 225, 226, 227, 203, 161, 230, 231, 232, 240, 238, 239] s t' → RLx t' → ((1 ≤ bi ∧ bi ≤ 255) ∧ 0 ≤ c' ∧ c' ≤ 128) → WS k 34 [(0, .ref (A 179)), (1, .int (Int32.ofInt bi)), (2, .int (Int32.ofInt c'))] [] (Wd A dT t') 0 0) → WS k 14 [(0, .ref (A 179)), (1, .int (Int32.ofInt bi)), (2, .int (Int32.ofInt c))] [] (Wd A dT t) 0 0 := by
    intro n
    induction n with
    | zero =>
      intro t bi c I F jjRLx hi hm kx
      exact absurd hm (Nat.not_lt_zero _)
    | succ n ih =>
      intro t bi c I F jjRLx hi hm kx
      have b1001 := bi_97 I
      refine z_load_n X (x := c) rfl (List.Mem.tail _ (List.Mem.tail _ (List.Mem.head _))) (z_sipush X rfl (z_icmp_ge X (t := 34) rfl rfl ⟨by first | exact oq_fa4e5087 hi.2.1 | omega, by first | exact oq_4ee82282 hi.2.2 | omega⟩ (by decide) (fun g1002 => ?_) (fun g1002 => ?_)))
      ·
        refine WS_pq [0, 1, 2] (lv' := [(0, .ref (A 179)), (1, .int (Int32.ofInt bi)), (2, .int (Int32.ofInt c))]) rfl ?_
        exact kx _ c I F jjRLx (by first | exact ⟨And.intro (hi.1.1) (hi.1.2), hi.2.1, hi.2.2⟩ | omega)
      ·
        refine z_aload_n X (x := A 179) rfl (List.Mem.head _) (s_getR X 179 rfl (c518_ok rfl) rfl rfl (z_load_n X (x := c) rfl (List.Mem.tail _ (List.Mem.tail _ (List.Mem.head _))) (z_const X rfl (z_zast X 258 rfl (c518_ok rfl) rfl (by first | exact hi.2.1 | omega) (show c < 128 by first | exact g1002 | omega) (by decide) (by first | exact Or.inl (cbig_ok rfl) | omega) (wd_gen (fun s1003 hs1003 => ?_))))))
        have Is1003 : Bd s1003 := eqB hs1003 (bd_C I (show (0 : Int) ≤ 0 ∧ 0 ≤ 1 by first | exact ⟨by decide, by decide⟩ | omega) (by decide))
        have Fs1003 := eqF hs1003 (fm_C F (inl_ok (a := 230) rfl))
        have ws1003_97 : iI s1003 97 = iI t 97 := eqI hs1003 rfl
        have fs1003 : Fm [] [230] t s1003 := by rw [hs1003]; exact fm_C (fm_rf _ _ _) (show 230 ∈ _ by decide)
        have JRLx_s1003 : RLx s1003 := RLx_fm fs1003 (by decide) jjRLx
        refine z_inc X (x := c) (lv' := [(2, .int (Int32.ofInt (c + 1))), (0, .ref (A 179)), (1, .int (Int32.ofInt bi))]) rfl (by decide) (List.Mem.tail _ (List.Mem.tail _ (List.Mem.head _))) (fun _ h => h) (z_goto X (t := 14) rfl rfl (WS_pq [1, 2, 0] (lv' := [(0, .ref (A 179)), (1, .int (Int32.ofInt bi)), (2, .int (Int32.ofInt (c + 1)))]) rfl ?_))
        exact ih _ bi (c + 1) Is1003 Fs1003 JRLx_s1003 (by first | exact ⟨And.intro (hi.1.1) (hi.1.2), oq_54f49eb5 hi.2.1, oq_d2afb425 g1002⟩ | omega) (by first | exact qk_me hm (by decide) (oq_c268b7bd g1002) | omega) kx
  have L36 : ∀ (n : Nat) (t : PS) (bi c : Int), Bd t → Fm [77, 75, 78, 79, 80, 81] [202, 204, 205, 206, 207, 208, 209, 210, 211, 212, 213, 214, 215, 216, 217, 218, 219, 220, 221, 222, 223, 224, 225, 226, 227, 203, 161, 230, 231, 232, 240, 238, 239] s t → RLx t → ((1 ≤ bi ∧ bi ≤ 255) ∧ 0 ≤ c ∧ c ≤ 8) → (8 - c : Int).toNat < n → (∀ (t' : PS) (c' : Int), Bd t' → Fm [77, 75, 78, 79, 80, 81] [202, 204, 205, 206, 207, 208, 209, 210, 211, 212, 213, 214, 215, 216, 217, 218, 219, 220, 221, 222, 223, 224, 225, 226, 227, 203, 161, 230, 231, 232, 240, 238, 239] s t' → RLx t' → ((1 ≤ bi ∧ bi ≤ 255) ∧ 0 ≤ c' ∧ c' ≤ 8) → WS k 71 [(0, .ref (A 179)), (1, .int (Int32.ofInt bi)), (2, .int (Int32.ofInt c'))] [] (Wd A dT t') 0 0) → WS k 36 [(0, .ref (A 179)), (1, .int (Int32.ofInt bi)), (2, .int (Int32.ofInt c))] [] (Wd A dT t) 0 0 := by
    intro n
    induction n with
    | zero =>
      intro t bi c I F jjRLx hi hm kx
      exact absurd hm (Nat.not_lt_zero _)
    | succ n ih =>
      intro t bi c I F jjRLx hi hm kx
      have b2001 := bi_97 I
      refine z_load_n X (x := c) rfl (List.Mem.tail _ (List.Mem.tail _ (List.Mem.head _))) (z_aload_n X (x := A 179) rfl (List.Mem.head _) (z_getI X 179 rfl (c518_ok rfl) rfl rfl ?_))
      have b2002 := bi_97 I
      refine z_icmp_ge X (t := 71) rfl rfl ⟨by first | exact oq_fa4e5087 hi.2.1 | omega, by first | exact oq_d3f5d874 hi.2.2 | omega⟩ (rng_to _) (fun g2003 => ?_) (fun g2003 => ?_)
      ·
        refine WS_pq [0, 1, 2] (lv' := [(0, .ref (A 179)), (1, .int (Int32.ofInt bi)), (2, .int (Int32.ofInt c))]) rfl ?_
        exact kx _ c I F jjRLx (by first | exact ⟨And.intro (hi.1.1) (hi.1.2), hi.2.1, hi.2.2⟩ | omega)
      ·
        refine z_load_n X (x := bi) rfl (List.Mem.tail _ (List.Mem.head _)) (z_load_n X (x := c) rfl (List.Mem.tail _ (List.Mem.tail _ (List.Mem.head _))) (z_bshr X rfl (z_any (fun y2004 hy2004 => ?_))))
        refine z_const X rfl (z_andm X rfl (by decide) (by decide) (fun y2005 hy2005 gy2005 => ?_))
        refine z_const X rfl (z_icmp_ne X (t := 65) rfl rfl ⟨by first | exact oq_fa4e5087 hy2005 | omega, by first | exact oq_22e1e6b0 gy2005 | omega⟩ (by decide) (fun g2006 => ?_) (fun g2006 => ?_))
        ·
          refine z_inc X (x := c) (lv' := [(2, .int (Int32.ofInt (c + 1))), (0, .ref (A 179)), (1, .int (Int32.ofInt bi))]) rfl (by decide) (List.Mem.tail _ (List.Mem.tail _ (List.Mem.head _))) (fun _ h => h) (z_goto X (t := 36) rfl rfl (WS_pq [1, 2, 0] (lv' := [(0, .ref (A 179)), (1, .int (Int32.ofInt bi)), (2, .int (Int32.ofInt (c + 1)))]) rfl ?_))
          exact ih _ bi (c + 1) I F jjRLx (by first | exact ⟨And.intro (hi.1.1) (hi.1.2), oq_54f49eb5 hi.2.1, oq_f6204d84 g2003 b2002.2⟩ | omega) (by first | exact qk_me hm (by decide) (oq_ccc5e5e0 g2003 b2002.2) | omega) kx
        ·
          refine z_aload_n X (x := A 179) rfl (List.Mem.head _) (s_getR X 179 rfl (c518_ok rfl) rfl rfl (z_aload_n X (x := A 179) rfl (List.Mem.head _) (s_getR X 179 rfl (c518_ok rfl) rfl rfl (z_load_n X (x := c) rfl (List.Mem.tail _ (List.Mem.tail _ (List.Mem.head _))) (z_ald X 262 rfl (c518_ok rfl) rfl (by first | exact hi.2.1 | omega) (show c < 8 by first | exact oq_7f5b2e79 g2003 b2002.2 | omega) (cbig_ok rfl) ?_)))))
          have b2007 := bc_234 I (show (c).toNat < 8 by first | exact oq_67be0351 g2003 b2002.2 | omega)
          refine z_const X rfl (z_zast X 258 rfl (c518_ok rfl) rfl (by first | exact b2007.1 | omega) (show (iC t 234 (c).toNat) < 128 by first | exact oq_31b2bf10 b2007.2 | omega) (by decide) (by first | exact Or.inr (cbig_ok rfl) | omega) (wd_gen (fun s2008 hs2008 => ?_)))
          have Is2008 : Bd s2008 := eqB hs2008 (bd_C I (show (0 : Int) ≤ 1 ∧ 1 ≤ 1 by first | exact ⟨by decide, by decide⟩ | omega) (by decide))
          have Fs2008 := eqF hs2008 (fm_C F (inl_ok (a := 230) rfl))
          have ws2008_97 : iI s2008 97 = iI t 97 := eqI hs2008 rfl
          have fs2008 : Fm [] [230] t s2008 := by rw [hs2008]; exact fm_C (fm_rf _ _ _) (show 230 ∈ _ by decide)
          have JRLx_s2008 : RLx s2008 := RLx_fm fs2008 (by decide) jjRLx
          refine z_inc X (x := c) (lv' := [(2, .int (Int32.ofInt (c + 1))), (0, .ref (A 179)), (1, .int (Int32.ofInt bi))]) rfl (by decide) (List.Mem.tail _ (List.Mem.tail _ (List.Mem.head _))) (fun _ h => h) (z_goto X (t := 36) rfl rfl (WS_pq [1, 2, 0] (lv' := [(0, .ref (A 179)), (1, .int (Int32.ofInt bi)), (2, .int (Int32.ofInt (c + 1)))]) rfl ?_))
          exact ih _ bi (c + 1) Is2008 Fs2008 JRLx_s2008 (by first | exact ⟨And.intro (hi.1.1) (hi.1.2), oq_54f49eb5 hi.2.1, oq_f6204d84 g2003 b2002.2⟩ | omega) (by first | exact qk_me hm (by decide) (oq_ccc5e5e0 g2003 b2002.2) | omega) kx
  have L101 : ∀ (n : Nat) (t : PS) (bi qq : Int), Bd t → Fm [77, 75, 78, 79, 80, 81] [202, 204, 205, 206, 207, 208, 209, 210, 211, 212, 213, 214, 215, 216, 217, 218, 219, 220, 221, 222, 223, 224, 225, 226, 227, 203, 161, 230, 231, 232, 240, 238, 239] s t → RLx t → (NQ t) → ((1 ≤ bi ∧ bi ≤ 255) ∧ 0 ≤ qq ∧ qq ≤ 24) → (24 - qq : Int).toNat < n → (∀ (t' : PS) (qq' : Int), Bd t' → Fm [77, 75, 78, 79, 80, 81] [202, 204, 205, 206, 207, 208, 209, 210, 211, 212, 213, 214, 215, 216, 217, 218, 219, 220, 221, 222, 223, 224, 225, 226, 227, 203, 161, 230, 231, 232, 240, 238, 239] s t' → RLx t' → (NQ t') → ((1 ≤ bi ∧ bi ≤ 255) ∧ 0 ≤ qq' ∧ qq' ≤ 24) → WS k 177 [(0, .ref (A 179)), (1, .int (Int32.ofInt bi)), (2, .int (Int32.ofInt qq'))] [] (Wd A dT t') 0 0) → WS k 101 [(0, .ref (A 179)), (1, .int (Int32.ofInt bi)), (2, .int (Int32.ofInt qq))] [] (Wd A dT t) 0 0 := by
    intro n
    induction n with
    | zero =>
      intro t bi qq I F jjRLx hq hi hm kx
      exact absurd hm (Nat.not_lt_zero _)
    | succ n ih =>
      intro t bi qq I F jjRLx hq hi hm kx
      have b3001 := bi_97 I
      refine z_load_n X (x := qq) rfl (List.Mem.tail _ (List.Mem.tail _ (List.Mem.head _))) (z_bipush X rfl (z_icmp_ge X (t := 177) rfl rfl ⟨by first | exact oq_fa4e5087 hi.2.1 | omega, by first | exact oq_5bcd337f hi.2.2 | omega⟩ (by decide) (fun g3002 => ?_) (fun g3002 => ?_)))
      ·
        refine WS_pq [0, 1, 2] (lv' := [(0, .ref (A 179)), (1, .int (Int32.ofInt bi)), (2, .int (Int32.ofInt qq))]) rfl ?_
        exact kx _ qq I F jjRLx hq (by first | exact ⟨And.intro (hi.1.1) (hi.1.2), hi.2.1, hi.2.2⟩ | omega)
      ·
        refine z_aload_n X (x := A 179) rfl (List.Mem.head _) (s_getR X 179 rfl (c518_ok rfl) rfl rfl (z_load_n X (x := bi) rfl (List.Mem.tail _ (List.Mem.head _)) (z_zald X 268 rfl (c518_ok rfl) rfl (by first | exact oq_2a6e3b50 hi.1.1 | omega) (show bi < 256 by first | exact oq_29e5dbe2 hi.1.2 | omega) (cbig_ok rfl) ?_)))
        have b3003 := bc_240 I (show (bi).toNat < 256 by first | exact oq_c39a26fc hi.1.2 | omega)
        refine z_if_eq X (t := 177) rfl rfl (rng_to _) (fun g3004 => ?_) (fun g3004 => ?_)
        ·
          refine WS_pq [0, 1, 2] (lv' := [(0, .ref (A 179)), (1, .int (Int32.ofInt bi)), (2, .int (Int32.ofInt qq))]) rfl ?_
          exact kx _ qq I F jjRLx hq (by first | exact ⟨And.intro (hi.1.1) (hi.1.2), hi.2.1, hi.2.2⟩ | omega)
        ·
          refine z_aload_n X (x := A 179) rfl (List.Mem.head _) (z_load_n X (x := qq) rfl (List.Mem.tail _ (List.Mem.tail _ (List.Mem.head _))) (zcV_v0 X E 179 (As := [.int (Int32.ofInt qq)]) (st := []) rfl rfl rfl rfl (k_numbersIn G I (by first | exact ⟨hi.2.1, oq_c69fe266 g3002⟩ | omega)) rfl (Nat.le_of_ble_eq_true rfl) (fun s3005 Is3005 Fs3005 hps3005 => ?_)))
          have Gs3005 := fm_tq F Fs3005 rfl rfl
          have JRLx_s3005 : RLx s3005 := RLx_fm Fs3005 (by decide) jjRLx
          have JNQ_s3005 : NQ s3005 := NQ_fm Fs3005 (by decide) hq
          have ws3005_97 : iI s3005 97 = iI t 97 := fm_iq Fs3005 rfl
          refine z_aload_n X (x := A 179) rfl (List.Mem.head _) ?_
          have JNW_s3005 : NW s3005 := NW_of JNQ_s3005 JRLx_s3005
          refine zcV_i1 X E 179 (As := []) (st := []) rfl rfl rfl rfl (k_load G Is3005 JNW_s3005 ) rfl (Nat.le_of_ble_eq_true rfl) (fun s3007 e3008 Is3007 Fs3007 JNW_s3007 hrs3007 hps3007 => ?_)
          have Gs3007 := fm_tq Gs3005 Fs3007 rfl rfl
          have JRLx_s3007 : RLx s3007 := RLx_fm Fs3007 (by decide) JRLx_s3005
          have JNQ_s3007 : NQ s3007 := NQ_fm Fs3007 (by decide) JNQ_s3005
          have JNW_s3007 : NW s3007 := NW_fm Fs3007 (by decide) JNW_s3005
          have ws3007_97 : iI s3007 97 = iI s3005 97 := fm_iq Fs3007 rfl
          refine z_store_n X (lv' := [(3, .int (Int32.ofInt e3008)), (0, .ref (A 179)), (1, .int (Int32.ofInt bi)), (2, .int (Int32.ofInt qq))]) rfl (by decide) (fun _ h => h) (z_aload_n X (x := A 179) rfl (List.Mem.tail _ (List.Mem.head _)) (s_getR X 179 rfl (c518_ok rfl) rfl rfl (z_load_n X (x := bi) rfl (List.Mem.tail _ (List.Mem.tail _ (List.Mem.head _))) (z_load_n X (x := qq) rfl (List.Mem.tail _ (List.Mem.tail _ (List.Mem.tail _ (List.Mem.head _)))) ?_))))
          have N3009 : ∀ e3010 : Int, (((qq = 0) ∧ e3010 = e3008) ∨ ((qq ≠ 0) ∧ (((-2147483648) : Int) ≤ iC s3007 238 (bi).toNat ∧ iC s3007 238 (bi).toNat ≤ 2147483647) ∧ (e3008 ≤ (iC s3007 238 (bi).toNat)) ∧ (((-2147483648) : Int) ≤ iC s3007 238 (bi).toNat ∧ iC s3007 238 (bi).toNat ≤ 2147483647) ∧ e3010 = (iC s3007 238 (bi).toNat)) ∨ ((qq ≠ 0) ∧ (((-2147483648) : Int) ≤ iC s3007 238 (bi).toNat ∧ iC s3007 238 (bi).toNat ≤ 2147483647) ∧ ((iC s3007 238 (bi).toNat) < e3008) ∧ e3010 = e3008)) → WS k 155 [(3, .int (Int32.ofInt e3008)), (0, .ref (A 179)), (1, .int (Int32.ofInt bi)), (2, .int (Int32.ofInt qq))] [.int (Int32.ofInt e3010), .int (Int32.ofInt bi), .ref (A 266)] (Wd A dT s3007) 0 0 := by
            intro e3010 he3010
            refine z_ast X 266 rfl (c518_ok rfl) rfl (by first | exact oq_2a6e3b50 hi.1.1 | omega) (show bi < 256 by first | exact oq_29e5dbe2 hi.1.2 | omega) (cbig_ok rfl) (wd_gen (fun s3011 hs3011 => ?_))
            have Is3011 : Bd s3011 := eqB hs3011 (bd_C Is3007 (show ((-2147483648) : Int) ≤ e3010 ∧ e3010 ≤ 2147483647 by first | (clear he3010 g3004; omega) | (clear g3004; omega) | omega) ⟨by first | (clear he3010 g3004; omega) | (clear g3004; omega) | omega, by first | (clear he3010 g3004; omega) | (clear g3004; omega) | omega⟩)
            have Fs3011 := eqF hs3011 (fm_C Gs3007 (inl_ok (a := 238) rfl))
            have ws3011_97 : iI s3011 97 = iI s3007 97 := eqI hs3011 rfl
            have fs3011 : Fm [] [238] s3007 s3011 := by rw [hs3011]; exact fm_C (fm_rf _ _ _) (show 238 ∈ _ by decide)
            have JRLx_s3011 : RLx s3011 := RLx_fm fs3011 (by decide) JRLx_s3007
            have JNQ_s3011 : NQ s3011 := NQ_fm fs3011 (by decide) JNQ_s3007
            refine z_aload_n X (x := A 179) rfl (List.Mem.tail _ (List.Mem.head _)) (s_getR X 179 rfl (c518_ok rfl) rfl rfl (z_load_n X (x := bi) rfl (List.Mem.tail _ (List.Mem.tail _ (List.Mem.head _))) (w_dup2_11 X.1 (ax_d X (show cdA 260 161 = some (.dup2, 1, 0, 0, 0) from rfl)) rfl rfl (z_ald X 267 rfl (c518_ok rfl) rfl (by first | exact oq_2a6e3b50 hi.1.1 | omega) (show bi < 256 by first | exact oq_29e5dbe2 hi.1.2 | omega) (cbig_ok rfl) ?_))))
            have b3012 := bc_239 Is3011 (show (bi).toNat < 256 by first | exact oq_c39a26fc hi.1.2 | omega)
            refine z_aload_n X (x := A 179) rfl (List.Mem.tail _ (List.Mem.head _)) (s_getR X 179 rfl (c518_ok rfl) rfl rfl (z_const X rfl (z_ald X 184 rfl (c518_ok rfl) rfl (by decide) (show 2 < 7 by decide) (cbig_ok rfl) ?_)))
            have b3013 := bc_161 Is3011 (show (2 : Int).toNat < 7 by first | exact oq_62527c24 | omega)
            refine z_add X rfl (z_any (fun y3014 hy3014 => ?_))
            refine z_ast X 267 rfl (c518_ok rfl) rfl (by first | exact oq_2a6e3b50 hi.1.1 | omega) (show bi < 256 by first | exact oq_29e5dbe2 hi.1.2 | omega) (cbig_ok rfl) (wd_gen (fun s3015 hs3015 => ?_))
            have Is3015 : Bd s3015 := eqB hs3015 (bd_C Is3011 (show ((-2147483648) : Int) ≤ y3014 ∧ y3014 ≤ 2147483647 by first | exact ⟨hy3014.1, hy3014.2⟩ | omega) hy3014)
            have Fs3015 := eqF hs3015 (fm_C Fs3011 (inl_ok (a := 239) rfl))
            have ws3015_97 : iI s3015 97 = iI s3011 97 := eqI hs3015 rfl
            have fs3015 : Fm [] [239] s3011 s3015 := by rw [hs3015]; exact fm_C (fm_rf _ _ _) (show 239 ∈ _ by decide)
            have JRLx_s3015 : RLx s3015 := RLx_fm fs3015 (by decide) JRLx_s3011
            have JNQ_s3015 : NQ s3015 := NQ_fm fs3015 (by decide) JNQ_s3011
            refine z_inc X (x := qq) (lv' := [(2, .int (Int32.ofInt (qq + 1))), (3, .int (Int32.ofInt e3008)), (0, .ref (A 179)), (1, .int (Int32.ofInt bi))]) rfl (by decide) (List.Mem.tail _ (List.Mem.tail _ (List.Mem.tail _ (List.Mem.head _)))) (fun _ h => h) (z_goto X (t := 101) rfl rfl (WS_pq [2, 3, 0] (lv' := [(0, .ref (A 179)), (1, .int (Int32.ofInt bi)), (2, .int (Int32.ofInt (qq + 1)))]) rfl ?_))
            exact ih _ bi (qq + 1) Is3015 Fs3015 JRLx_s3015 JNQ_s3015 (by first | exact ⟨And.intro (hi.1.1) (hi.1.2), oq_54f49eb5 hi.2.1, oq_cec7cb2e g3002⟩ | omega) (by first | exact qk_me hm (by decide) (oq_ffa8317e g3002) | omega) kx
          refine z_if_eq X (t := 145) rfl rfl ⟨by first | exact oq_fa4e5087 hi.2.1 | omega, by first | exact oq_1d70227b g3002 | omega⟩ (fun g3016 => ?_) (fun g3016 => ?_)
          ·
            exact z_load_n X (x := e3008) rfl (List.Mem.head _) (z_goto X (t := 155) rfl rfl (N3009 _ (Or.inl ⟨g3016, rfl⟩)))
          ·
            refine z_load_n X (x := e3008) rfl (List.Mem.head _) (z_aload_n X (x := A 179) rfl (List.Mem.tail _ (List.Mem.head _)) (s_getR X 179 rfl (c518_ok rfl) rfl rfl (z_load_n X (x := bi) rfl (List.Mem.tail _ (List.Mem.tail _ (List.Mem.head _))) (z_ald X 266 rfl (c518_ok rfl) rfl (by first | exact oq_2a6e3b50 hi.1.1 | omega) (show bi < 256 by first | exact oq_29e5dbe2 hi.1.2 | omega) (cbig_ok rfl) ?_))))
            have b3017 := bc_238 Is3007 (show (bi).toNat < 256 by first | exact oq_c39a26fc hi.1.2 | omega)
            refine z_icmp_le X (t := 149) rfl rfl hrs3007 (rng_to _) (fun g3018 => ?_) (fun g3018 => ?_)
            ·
              refine z_aload_n X (x := A 179) rfl (List.Mem.tail _ (List.Mem.head _)) (s_getR X 179 rfl (c518_ok rfl) rfl rfl (z_load_n X (x := bi) rfl (List.Mem.tail _ (List.Mem.tail _ (List.Mem.head _))) (z_ald X 266 rfl (c518_ok rfl) rfl (by first | exact oq_2a6e3b50 hi.1.1 | omega) (show bi < 256 by first | exact oq_29e5dbe2 hi.1.2 | omega) (cbig_ok rfl) ?_)))
              have b3019 := bc_238 Is3007 (show (bi).toNat < 256 by first | exact oq_c39a26fc hi.1.2 | omega)
              exact N3009 _ (Or.inr (Or.inl ⟨g3016, b3017, g3018, b3019, rfl⟩))
            ·
              exact z_load_n X (x := e3008) rfl (List.Mem.head _) (z_goto X (t := 155) rfl rfl (N3009 _ (Or.inr (Or.inr (⟨g3016, b3017, g3018, rfl⟩)))))
  have L2 : ∀ (n : Nat) (t : PS) (bi : Int), Bd t → Fm [77, 75, 78, 79, 80, 81] [202, 204, 205, 206, 207, 208, 209, 210, 211, 212, 213, 214, 215, 216, 217, 218, 219, 220, 221, 222, 223, 224, 225, 226, 227, 203, 161, 230, 231, 232, 240, 238, 239] s t → RLx t → (1 ≤ bi ∧ bi ≤ 256) → (256 - bi : Int).toNat < n → (∀ (t' : PS) (bi' : Int), Bd t' → Fm [77, 75, 78, 79, 80, 81] [202, 204, 205, 206, 207, 208, 209, 210, 211, 212, 213, 214, 215, 216, 217, 218, 219, 220, 221, 222, 223, 224, 225, 226, 227, 203, 161, 230, 231, 232, 240, 238, 239] s t' → RLx t' → (1 ≤ bi' ∧ bi' ≤ 256) → WS k 183 [(0, .ref (A 179)), (1, .int (Int32.ofInt bi'))] [] (Wd A dT t') 0 0) → WS k 2 [(0, .ref (A 179)), (1, .int (Int32.ofInt bi))] [] (Wd A dT t) 0 0 := by
    intro n
    induction n with
    | zero =>
      intro t bi I F jjRLx hi hm kx
      exact absurd hm (Nat.not_lt_zero _)
    | succ n ih =>
      intro t bi I F jjRLx hi hm kx
      have b4001 := bi_97 I
      refine z_load_n X (x := bi) rfl (List.Mem.tail _ (List.Mem.head _)) (z_const X rfl (z_aload_n X (x := A 179) rfl (List.Mem.head _) (z_getI X 179 rfl (c518_ok rfl) rfl rfl ?_)))
      have b4002 := bi_97 I
      refine z_shl1 X rfl (by first | exact ⟨b4002.1, oq_58cbab50 b4002.2⟩ | omega) (fun y4003 hy4003 iy4003 jy4003 ky4003 => ?_)
      refine z_icmp_ge X (t := 183) rfl rfl ⟨by first | exact oq_9462313e hi.1 | omega, by first | exact oq_09cd9fc1 hi.2 | omega⟩ ⟨by first | exact oq_9462313e hy4003 | omega, by first | exact oq_e0f19d36 iy4003 | omega⟩ (fun g4004 => ?_) (fun g4004 => ?_)
      ·
        refine WS_pq [0, 1] (lv' := [(0, .ref (A 179)), (1, .int (Int32.ofInt bi))]) rfl ?_
        exact kx _ bi I F jjRLx (by first | exact ⟨hi.1, hi.2⟩ | omega)
      ·
        refine z_const X rfl (z_store_n X (lv' := [(2, .int (Int32.ofInt 0)), (0, .ref (A 179)), (1, .int (Int32.ofInt bi))]) rfl (by decide) (fun _ h => h) (WS_pq [1, 2, 0] (lv' := [(0, .ref (A 179)), (1, .int (Int32.ofInt bi)), (2, .int (Int32.ofInt 0))]) rfl (L14 ((128 - 0 : Int).toNat + 1) t bi 0 I F jjRLx (by first | exact ⟨by omega, by decide, by decide⟩ | omega) (Nat.lt_succ_self _) ?_)))
        intro s4005 x4006 Is4005 Fs4005 JRLx_s4005 hs4005
        have b4007 := bi_97 Is4005
        refine z_const X rfl (z_store_n X (lv' := [(2, .int (Int32.ofInt 0)), (0, .ref (A 179)), (1, .int (Int32.ofInt bi))]) rfl (by decide) (fun _ h => h) (WS_pq [1, 2, 0] (lv' := [(0, .ref (A 179)), (1, .int (Int32.ofInt bi)), (2, .int (Int32.ofInt 0))]) rfl (L36 ((8 - 0 : Int).toNat + 1) s4005 bi 0 Is4005 Fs4005 JRLx_s4005 (by first | exact ⟨And.intro (hs4005.1.1) (hs4005.1.2), by decide, by decide⟩ | omega) (Nat.lt_succ_self _) ?_)))
        intro s4008 x4009 Is4008 Fs4008 JRLx_s4008 hs4008
        have b4010 := bi_97 Is4008
        refine z_aload_n X (x := A 179) rfl (List.Mem.head _) (s_getR X 179 rfl (c518_ok rfl) rfl rfl (z_load_n X (x := bi) rfl (List.Mem.tail _ (List.Mem.head _)) (z_aload_n X (x := A 179) rfl (List.Mem.head _) (zcV_i0 X E 179 (As := []) (st := [.int (Int32.ofInt bi), .ref (A 268)]) rfl rfl rfl rfl (k_hangs G Is4008 ) rfl (Nat.le_of_ble_eq_true rfl) (fun s4011 e4012 Is4011 Fs4011 hrs4011 hps4011 => ?_)))))
        have Gs4011 := fm_tq Fs4008 Fs4011 rfl rfl
        have JRLx_s4011 : RLx s4011 := RLx_fm Fs4011 (by decide) JRLx_s4008
        have ws4011_97 : iI s4011 97 = iI s4008 97 := fm_iq Fs4011 rfl
        refine z_zast X 268 rfl (c518_ok rfl) rfl (by first | exact oq_2a6e3b50 hs4008.1.1 | omega) (show bi < 256 by first | exact oq_29e5dbe2 hs4008.1.2 | omega) (cbig_ok rfl) (by first | exact hps4011 | omega) (wd_gen (fun s4013 hs4013 => ?_))
        have Is4013 : Bd s4013 := eqB hs4013 (bd_C Is4011 (show (0 : Int) ≤ e4012 ∧ e4012 ≤ 1 by first | exact ⟨oq_e4aca38c hps4011, oq_14617724 hps4011⟩ | omega) hrs4011)
        have Fs4013 := eqF hs4013 (fm_C Gs4011 (inl_ok (a := 240) rfl))
        have ws4013_97 : iI s4013 97 = iI s4011 97 := eqI hs4013 rfl
        have fs4013 : Fm [] [240] s4011 s4013 := by rw [hs4013]; exact fm_C (fm_rf _ _ _) (show 240 ∈ _ by decide)
        have JRLx_s4013 : RLx s4013 := RLx_fm fs4013 (by decide) JRLx_s4011
        refine z_aload_n X (x := A 179) rfl (List.Mem.head _) (s_getR X 179 rfl (c518_ok rfl) rfl rfl (z_load_n X (x := bi) rfl (List.Mem.tail _ (List.Mem.head _)) (z_const X rfl (z_ast X 266 rfl (c518_ok rfl) rfl (by first | exact oq_2a6e3b50 hs4008.1.1 | omega) (show bi < 256 by first | exact oq_29e5dbe2 hs4008.1.2 | omega) (cbig_ok rfl) (wd_gen (fun s4014 hs4014 => ?_))))))
        have Is4014 : Bd s4014 := eqB hs4014 (bd_C Is4013 (show ((-2147483648) : Int) ≤ 0 ∧ 0 ≤ 2147483647 by first | exact ⟨by decide, by decide⟩ | omega) (by decide))
        have Fs4014 := eqF hs4014 (fm_C Fs4013 (inl_ok (a := 238) rfl))
        have ws4014_97 : iI s4014 97 = iI s4013 97 := eqI hs4014 rfl
        have fs4014 : Fm [] [238] s4013 s4014 := by rw [hs4014]; exact fm_C (fm_rf _ _ _) (show 238 ∈ _ by decide)
        have JRLx_s4014 : RLx s4014 := RLx_fm fs4014 (by decide) JRLx_s4013
        refine z_aload_n X (x := A 179) rfl (List.Mem.head _) (s_getR X 179 rfl (c518_ok rfl) rfl rfl (z_load_n X (x := bi) rfl (List.Mem.tail _ (List.Mem.head _)) (z_const X rfl (z_ast X 267 rfl (c518_ok rfl) rfl (by first | exact oq_2a6e3b50 hs4008.1.1 | omega) (show bi < 256 by first | exact oq_29e5dbe2 hs4008.1.2 | omega) (cbig_ok rfl) (wd_gen (fun s4015 hs4015 => ?_))))))
        have Is4015 : Bd s4015 := eqB hs4015 (bd_C Is4014 (show ((-2147483648) : Int) ≤ 0 ∧ 0 ≤ 2147483647 by first | exact ⟨by decide, by decide⟩ | omega) (by decide))
        have Fs4015 := eqF hs4015 (fm_C Fs4014 (inl_ok (a := 239) rfl))
        have ws4015_97 : iI s4015 97 = iI s4014 97 := eqI hs4015 rfl
        have fs4015 : Fm [] [239] s4014 s4015 := by rw [hs4015]; exact fm_C (fm_rf _ _ _) (show 239 ∈ _ by decide)
        have JRLx_s4015 : RLx s4015 := RLx_fm fs4015 (by decide) JRLx_s4014
        refine z_aload_n X (x := A 179) rfl (List.Mem.head _) (zcV_v2 X E 179 (As := []) (st := []) rfl rfl rfl rfl (k_waysAsTold G Is4015 JRLx_s4015 ) rfl (Nat.le_of_ble_eq_true rfl) (fun s4016 Is4016 Fs4016 JRLx_s4016 JNQ_s4016 hps4016 => ?_))
        have Gs4016 := fm_tq Fs4015 Fs4016 rfl rfl
        have JRLx_s4016 : RLx s4016 := RLx_fm Fs4016 (by decide) JRLx_s4015
        have ws4016_97 : iI s4016 97 = iI s4015 97 := fm_iq Fs4016 rfl
        refine z_const X rfl (z_store_n X (lv' := [(2, .int (Int32.ofInt 0)), (0, .ref (A 179)), (1, .int (Int32.ofInt bi))]) rfl (by decide) (fun _ h => h) (WS_pq [1, 2, 0] (lv' := [(0, .ref (A 179)), (1, .int (Int32.ofInt bi)), (2, .int (Int32.ofInt 0))]) rfl (L101 ((24 - 0 : Int).toNat + 1) s4016 bi 0 Is4016 Gs4016 JRLx_s4016 JNQ_s4016 (by first | exact ⟨And.intro (hs4008.1.1) (hs4008.1.2), by decide, by decide⟩ | omega) (Nat.lt_succ_self _) ?_)))
        intro s4018 x4019 Is4018 Fs4018 JRLx_s4018 Qs4018 hs4018
        have b4020 := bi_97 Is4018
        refine z_inc X (x := bi) (lv' := [(1, .int (Int32.ofInt (bi + 1))), (0, .ref (A 179)), (2, .int (Int32.ofInt x4019))]) rfl (by decide) (List.Mem.tail _ (List.Mem.head _)) (fun _ h => h) (z_goto X (t := 2) rfl rfl (WS_pq [1, 0] (lv' := [(0, .ref (A 179)), (1, .int (Int32.ofInt (bi + 1)))]) rfl ?_))
        exact ih _ (bi + 1) Is4018 Fs4018 JRLx_s4018 (by first | exact ⟨oq_1e1a2df6 hs4018.1.1, oq_3fc2ba08 hs4018.1.2⟩ | omega) (by first | exact qk_me hm (by decide) (oq_0e4c52fb hs4018.1.2) | omega) kx
  refine z_const X rfl (z_store_n X (lv' := [(1, .int (Int32.ofInt 1)), (0, .ref (A 179))]) rfl (by decide) (fun _ h => h) (WS_pq [1, 0] (lv' := [(0, .ref (A 179)), (1, .int (Int32.ofInt 1))]) rfl (L2 ((256 - 1 : Int).toNat + 1) s 1 I F jRLx (by first | exact ⟨by decide, by decide⟩ | omega) (Nat.lt_succ_self _) ?_)))
  intro s2 x3 Is2 Fs2 JRLx_s2 hs2
  have b4 := bi_97 Is2
  exact w_vret X.1 q hRt (ax_d X (show cdA 260 183 = some (.return_, 1, 0, 0, 0) from rfl)) (Nat.zero_le _) (Nat.zero_le _) ⟨_, rfl, Is2, Fs2, JRLx_s2, rfl, trivial⟩
set_option maxRecDepth 4000 in
theorem k_judges (G : GX l s0 D tys a0 dT) (I : Bd s) {x : Int} (p0 : 0 ≤ x ∧ x ≤ 3) : CT l s0 D A dT 262 (rmN 262) [.ref (A 179), .int (Int32.ofInt x)] s (fun o t => Bd t ∧ Fm [100, 101] [236] s t ∧ o = .inl none ∧ (True)) := by
  refine ct_of G (by decide) (Nat.le_of_ble_eq_true rfl) (fun k X E hRt hXt q => ?_)
  show WS k 0 [(0, .ref (A 179)), (1, .int (Int32.ofInt x))] [] _ 0 0
  have F : Fm [100, 101] [236] s s := fm_rf _ _ s
  have b1 := bi_97 I
  have L19 : ∀ (n : Nat) (t : PS) (xv pk ov hh bi ka : Int), Bd t → Fm [100, 101] [236] s t → ((0 ≤ xv ∧ xv ≤ 3) ∧ rng pk ∧ rng ov ∧ (0 ≤ hh ∧ hh ≤ 2) ∧ (0 ≤ bi ∧ bi ≤ 255) ∧ 0 ≤ ka ∧ ka ≤ 8) → (8 - ka : Int).toNat < n → (∀ (t' : PS) (bi' ka' : Int), Bd t' → Fm [100, 101] [236] s t' → ((0 ≤ xv ∧ xv ≤ 3) ∧ rng pk ∧ rng ov ∧ (0 ≤ hh ∧ hh ≤ 2) ∧ (0 ≤ bi' ∧ bi' ≤ 255) ∧ 0 ≤ ka' ∧ ka' ≤ 8) → WS k 59 [(0, .ref (A 179)), (1, .int (Int32.ofInt xv)), (2, .int (Int32.ofInt pk)), (3, .int (Int32.ofInt ov)), (4, .int (Int32.ofInt hh)), (5, .int (Int32.ofInt bi')), (6, .int (Int32.ofInt ka'))] [] (Wd A dT t') 0 0) → WS k 19 [(0, .ref (A 179)), (1, .int (Int32.ofInt xv)), (2, .int (Int32.ofInt pk)), (3, .int (Int32.ofInt ov)), (4, .int (Int32.ofInt hh)), (5, .int (Int32.ofInt bi)), (6, .int (Int32.ofInt ka))] [] (Wd A dT t) 0 0 := by
    intro n
    induction n with
    | zero =>
      intro t xv pk ov hh bi ka I F hi hm kx
      exact absurd hm (Nat.not_lt_zero _)
    | succ n ih =>
      intro t xv pk ov hh bi ka I F hi hm kx
      have b1001 := bi_97 I
      refine z_load X (x := ka) rfl (List.Mem.tail _ (List.Mem.tail _ (List.Mem.tail _ (List.Mem.tail _ (List.Mem.tail _ (List.Mem.tail _ (List.Mem.head _))))))) (z_aload_n X (x := A 179) rfl (List.Mem.head _) (z_getI X 179 rfl (c518_ok rfl) rfl rfl ?_))
      have b1002 := bi_97 I
      refine z_icmp_ge X (t := 59) rfl rfl ⟨by first | exact oq_fa4e5087 hi.2.2.2.2.2.1 | omega, by first | exact oq_d3f5d874 hi.2.2.2.2.2.2 | omega⟩ (rng_to _) (fun g1003 => ?_) (fun g1003 => ?_)
      ·
        refine WS_pq [0, 1, 2, 3, 4, 5, 6] (lv' := [(0, .ref (A 179)), (1, .int (Int32.ofInt xv)), (2, .int (Int32.ofInt pk)), (3, .int (Int32.ofInt ov)), (4, .int (Int32.ofInt hh)), (5, .int (Int32.ofInt bi)), (6, .int (Int32.ofInt ka))]) rfl ?_
        exact kx _ bi ka I F (by first | exact ⟨And.intro (hi.1.1) (hi.1.2), And.intro (hi.2.1.1) (hi.2.1.2), And.intro (hi.2.2.1.1) (hi.2.2.1.2), And.intro (hi.2.2.2.1.1) (hi.2.2.2.1.2), And.intro (hi.2.2.2.2.1.1) (hi.2.2.2.2.1.2), hi.2.2.2.2.2.1, hi.2.2.2.2.2.2⟩ | omega)
      ·
        refine z_load X (x := bi) rfl (List.Mem.tail _ (List.Mem.tail _ (List.Mem.tail _ (List.Mem.tail _ (List.Mem.tail _ (List.Mem.head _)))))) (z_aload_n X (x := A 179) rfl (List.Mem.head _) (s_getR X 179 rfl (c518_ok rfl) rfl rfl (z_load X (x := ka) rfl (List.Mem.tail _ (List.Mem.tail _ (List.Mem.tail _ (List.Mem.tail _ (List.Mem.tail _ (List.Mem.tail _ (List.Mem.head _))))))) (z_ald X 263 rfl (c518_ok rfl) rfl (by first | exact hi.2.2.2.2.2.1 | omega) (show ka < 8 by first | exact oq_7f5b2e79 g1003 b1002.2 | omega) (cbig_ok rfl) ?_))))
        have b1004 := bc_235 I (show (ka).toNat < 8 by first | exact oq_67be0351 g1003 b1002.2 | omega)
        refine z_load X (x := hh) rfl (List.Mem.tail _ (List.Mem.tail _ (List.Mem.tail _ (List.Mem.tail _ (List.Mem.head _))))) (z_icmp_ne X (t := 49) rfl rfl (rng_to _) ⟨by first | exact oq_fa4e5087 hi.2.2.2.1.1 | omega, by first | exact oq_861e1648 hi.2.2.2.1.2 | omega⟩ (fun g1005 => ?_) (fun g1005 => ?_))
        ·
          refine z_const X rfl (z_orb X rfl 8 (by decide) (show 0 ≤ bi ∧ bi < 2 ^ 8 by first | (clear g1005; omega) | omega) (show 0 ≤ 0 ∧ 0 < 2 ^ 8 by first | (clear g1005; omega) | omega) (fun y1006 hy1006 iy1006 => ?_))
          have ib1007 : y1006 < 256 := iy1006
          refine z_store X (lv' := [(5, .int (Int32.ofInt y1006)), (0, .ref (A 179)), (1, .int (Int32.ofInt xv)), (2, .int (Int32.ofInt pk)), (3, .int (Int32.ofInt ov)), (4, .int (Int32.ofInt hh)), (6, .int (Int32.ofInt ka))]) rfl (by decide) (fun _ h => h) (z_inc X (x := ka) (lv' := [(6, .int (Int32.ofInt (ka + 1))), (5, .int (Int32.ofInt y1006)), (0, .ref (A 179)), (1, .int (Int32.ofInt xv)), (2, .int (Int32.ofInt pk)), (3, .int (Int32.ofInt ov)), (4, .int (Int32.ofInt hh))]) rfl (by decide) (List.Mem.tail _ (List.Mem.tail _ (List.Mem.tail _ (List.Mem.tail _ (List.Mem.tail _ (List.Mem.tail _ (List.Mem.head _))))))) (fun _ h => h) (z_goto X (t := 19) rfl rfl (WS_pq [2, 3, 4, 5, 6, 1, 0] (lv' := [(0, .ref (A 179)), (1, .int (Int32.ofInt xv)), (2, .int (Int32.ofInt pk)), (3, .int (Int32.ofInt ov)), (4, .int (Int32.ofInt hh)), (5, .int (Int32.ofInt y1006)), (6, .int (Int32.ofInt (ka + 1)))]) rfl ?_)))
          exact ih _ xv pk ov hh y1006 (ka + 1) I F (by first | exact ⟨And.intro (hi.1.1) (hi.1.2), And.intro (hi.2.1.1) (hi.2.1.2), And.intro (hi.2.2.1.1) (hi.2.2.1.2), And.intro (hi.2.2.2.1.1) (hi.2.2.2.1.2), And.intro (hy1006) (oq_b4026d49 ib1007), oq_54f49eb5 hi.2.2.2.2.2.1, oq_f6204d84 g1003 b1002.2⟩ | omega) (by first | exact qk_me hm (by decide) (oq_ccc5e5e0 g1003 b1002.2) | omega) kx
        ·
          refine z_const X rfl (z_load X (x := ka) rfl (List.Mem.tail _ (List.Mem.tail _ (List.Mem.tail _ (List.Mem.tail _ (List.Mem.tail _ (List.Mem.tail _ (List.Mem.head _))))))) (z_shl1 X rfl (by first | exact ⟨hi.2.2.2.2.2.1, oq_58cbab50 hi.2.2.2.2.2.2⟩ | omega) (fun y1008 hy1008 iy1008 jy1008 ky1008 => ?_)))
          refine z_goto X (t := 50) rfl rfl (z_orb X rfl 8 (by decide) (show 0 ≤ bi ∧ bi < 2 ^ 8 by omega) (show 0 ≤ y1008 ∧ y1008 < 2 ^ 8 by omega) (fun y1009 hy1009 iy1009 => ?_))
          have ib1010 : y1009 < 256 := iy1009
          refine z_store X (lv' := [(5, .int (Int32.ofInt y1009)), (0, .ref (A 179)), (1, .int (Int32.ofInt xv)), (2, .int (Int32.ofInt pk)), (3, .int (Int32.ofInt ov)), (4, .int (Int32.ofInt hh)), (6, .int (Int32.ofInt ka))]) rfl (by decide) (fun _ h => h) (z_inc X (x := ka) (lv' := [(6, .int (Int32.ofInt (ka + 1))), (5, .int (Int32.ofInt y1009)), (0, .ref (A 179)), (1, .int (Int32.ofInt xv)), (2, .int (Int32.ofInt pk)), (3, .int (Int32.ofInt ov)), (4, .int (Int32.ofInt hh))]) rfl (by decide) (List.Mem.tail _ (List.Mem.tail _ (List.Mem.tail _ (List.Mem.tail _ (List.Mem.tail _ (List.Mem.tail _ (List.Mem.head _))))))) (fun _ h => h) (z_goto X (t := 19) rfl rfl (WS_pq [2, 3, 4, 5, 6, 1, 0] (lv' := [(0, .ref (A 179)), (1, .int (Int32.ofInt xv)), (2, .int (Int32.ofInt pk)), (3, .int (Int32.ofInt ov)), (4, .int (Int32.ofInt hh)), (5, .int (Int32.ofInt y1009)), (6, .int (Int32.ofInt (ka + 1)))]) rfl ?_)))
          exact ih _ xv pk ov hh y1009 (ka + 1) I F (by first | exact ⟨And.intro (hi.1.1) (hi.1.2), And.intro (hi.2.1.1) (hi.2.1.2), And.intro (hi.2.2.1.1) (hi.2.2.1.2), And.intro (hi.2.2.2.1.1) (hi.2.2.2.1.2), And.intro (hy1009) (oq_b4026d49 ib1010), oq_54f49eb5 hi.2.2.2.2.2.1, oq_f6204d84 g1003 b1002.2⟩ | omega) (by first | exact qk_me hm (by decide) (oq_ccc5e5e0 g1003 b1002.2) | omega) kx
  have L7 : ∀ (n : Nat) (t : PS) (xv pk ov hh : Int), Bd t → Fm [100, 101] [236] s t → ((0 ≤ xv ∧ xv ≤ 3) ∧ rng pk ∧ rng ov ∧ 0 ≤ hh ∧ hh ≤ 3) → (3 - hh : Int).toNat < n → (∀ (t' : PS) (pk' ov' hh' : Int), Bd t' → Fm [100, 101] [236] s t' → ((0 ≤ xv ∧ xv ≤ 3) ∧ rng pk' ∧ rng ov' ∧ 0 ≤ hh' ∧ hh' ≤ 3) → WS k 114 [(0, .ref (A 179)), (1, .int (Int32.ofInt xv)), (2, .int (Int32.ofInt pk')), (3, .int (Int32.ofInt ov')), (4, .int (Int32.ofInt hh'))] [] (Wd A dT t') 0 0) → WS k 7 [(0, .ref (A 179)), (1, .int (Int32.ofInt xv)), (2, .int (Int32.ofInt pk)), (3, .int (Int32.ofInt ov)), (4, .int (Int32.ofInt hh))] [] (Wd A dT t) 0 0 := by
    intro n
    induction n with
    | zero =>
      intro t xv pk ov hh I F hi hm kx
      exact absurd hm (Nat.not_lt_zero _)
    | succ n ih =>
      intro t xv pk ov hh I F hi hm kx
      have b2001 := bi_97 I
      refine z_load X (x := hh) rfl (List.Mem.tail _ (List.Mem.tail _ (List.Mem.tail _ (List.Mem.tail _ (List.Mem.head _))))) (z_load_n X (x := xv) rfl (List.Mem.tail _ (List.Mem.head _)) (z_icmp_ge X (t := 114) rfl rfl ⟨by first | exact oq_fa4e5087 hi.2.2.2.1 | omega, by first | exact oq_c5520c83 hi.2.2.2.2 | omega⟩ ⟨by first | exact oq_fa4e5087 hi.1.1 | omega, by first | exact oq_c5520c83 hi.1.2 | omega⟩ (fun g2002 => ?_) (fun g2002 => ?_)))
      ·
        refine WS_pq [0, 1, 2, 3, 4] (lv' := [(0, .ref (A 179)), (1, .int (Int32.ofInt xv)), (2, .int (Int32.ofInt pk)), (3, .int (Int32.ofInt ov)), (4, .int (Int32.ofInt hh))]) rfl ?_
        exact kx _ pk ov hh I F (by first | exact ⟨And.intro (hi.1.1) (hi.1.2), And.intro (hi.2.1.1) (hi.2.1.2), And.intro (hi.2.2.1.1) (hi.2.2.1.2), hi.2.2.2.1, hi.2.2.2.2⟩ | omega)
      ·
        refine z_const X rfl (z_store X (lv' := [(5, .int (Int32.ofInt 0)), (0, .ref (A 179)), (1, .int (Int32.ofInt xv)), (2, .int (Int32.ofInt pk)), (3, .int (Int32.ofInt ov)), (4, .int (Int32.ofInt hh))]) rfl (by decide) (fun _ h => h) (z_const X rfl (z_store X (lv' := [(6, .int (Int32.ofInt 0)), (5, .int (Int32.ofInt 0)), (0, .ref (A 179)), (1, .int (Int32.ofInt xv)), (2, .int (Int32.ofInt pk)), (3, .int (Int32.ofInt ov)), (4, .int (Int32.ofInt hh))]) rfl (by decide) (fun _ h => h) (WS_pq [2, 3, 4, 5, 6, 1, 0] (lv' := [(0, .ref (A 179)), (1, .int (Int32.ofInt xv)), (2, .int (Int32.ofInt pk)), (3, .int (Int32.ofInt ov)), (4, .int (Int32.ofInt hh)), (5, .int (Int32.ofInt 0)), (6, .int (Int32.ofInt 0))]) rfl (L19 ((8 - 0 : Int).toNat + 1) t xv pk ov hh 0 0 I F (by first | exact ⟨And.intro (hi.1.1) (hi.1.2), And.intro (hi.2.1.1) (hi.2.1.2), And.intro (hi.2.2.1.1) (hi.2.2.1.2), And.intro (hi.2.2.2.1) (oq_2a2abc22 g2002 hi.1.2), And.intro (by decide) (by decide), by decide, by decide⟩ | omega) (Nat.lt_succ_self _) ?_)))))
        intro s2003 x2004 x2005 Is2003 Fs2003 hs2003
        have b2006 := bi_97 Is2003
        refine z_aload_n X (x := A 179) rfl (List.Mem.head _) (s_getR X 179 rfl (c518_ok rfl) rfl rfl (z_load X (x := x2004) rfl (List.Mem.tail _ (List.Mem.tail _ (List.Mem.tail _ (List.Mem.tail _ (List.Mem.tail _ (List.Mem.head _)))))) (z_zald X 268 rfl (c518_ok rfl) rfl (by first | exact hs2003.2.2.2.2.1.1 | omega) (show x2004 < 256 by first | exact oq_29e5dbe2 hs2003.2.2.2.2.1.2 | omega) (cbig_ok rfl) ?_)))
        have b2007 := bc_240 Is2003 (show (x2004).toNat < 256 by first | exact oq_c39a26fc hs2003.2.2.2.2.1.2 | omega)
        refine z_if_ne X (t := 70) rfl rfl (rng_to _) (fun g2008 => ?_) (fun g2008 => ?_)
        ·
          refine z_load X (x := hh) rfl (List.Mem.tail _ (List.Mem.tail _ (List.Mem.tail _ (List.Mem.tail _ (List.Mem.head _))))) ?_
          have N2009 : ∀ e2010 : Int, (((hh = 0) ∧ (((-2147483648) : Int) ≤ iC s2003 238 (x2004).toNat ∧ iC s2003 238 (x2004).toNat ≤ 2147483647) ∧ e2010 = (iC s2003 238 (x2004).toNat)) ∨ ((hh ≠ 0) ∧ (((-2147483648) : Int) ≤ iC s2003 238 (x2004).toNat ∧ iC s2003 238 (x2004).toNat ≤ 2147483647) ∧ ((iC s2003 238 (x2004).toNat) ≤ pk) ∧ e2010 = pk) ∨ ((hh ≠ 0) ∧ (((-2147483648) : Int) ≤ iC s2003 238 (x2004).toNat ∧ iC s2003 238 (x2004).toNat ≤ 2147483647) ∧ (pk < (iC s2003 238 (x2004).toNat)) ∧ (((-2147483648) : Int) ≤ iC s2003 238 (x2004).toNat ∧ iC s2003 238 (x2004).toNat ≤ 2147483647) ∧ e2010 = (iC s2003 238 (x2004).toNat))) → WS k 97 [(0, .ref (A 179)), (1, .int (Int32.ofInt xv)), (2, .int (Int32.ofInt pk)), (3, .int (Int32.ofInt ov)), (4, .int (Int32.ofInt hh)), (5, .int (Int32.ofInt x2004)), (6, .int (Int32.ofInt x2005))] [.int (Int32.ofInt e2010)] (Wd A dT s2003) 0 0 := by
            intro e2010 he2010
            refine z_store_n X (lv' := [(2, .int (Int32.ofInt e2010)), (0, .ref (A 179)), (1, .int (Int32.ofInt xv)), (3, .int (Int32.ofInt ov)), (4, .int (Int32.ofInt hh)), (5, .int (Int32.ofInt x2004)), (6, .int (Int32.ofInt x2005))]) rfl (by decide) (fun _ h => h) (z_load_n X (x := ov) rfl (List.Mem.tail _ (List.Mem.tail _ (List.Mem.tail _ (List.Mem.head _)))) (z_aload_n X (x := A 179) rfl (List.Mem.tail _ (List.Mem.head _)) (s_getR X 179 rfl (c518_ok rfl) rfl rfl (z_load X (x := x2004) rfl (List.Mem.tail _ (List.Mem.tail _ (List.Mem.tail _ (List.Mem.tail _ (List.Mem.tail _ (List.Mem.head _)))))) (z_ald X 267 rfl (c518_ok rfl) rfl (by first | exact hs2003.2.2.2.2.1.1 | omega) (show x2004 < 256 by first | exact oq_29e5dbe2 hs2003.2.2.2.2.1.2 | omega) (cbig_ok rfl) ?_)))))
            have b2011 := bc_239 Is2003 (show (x2004).toNat < 256 by first | exact oq_c39a26fc hs2003.2.2.2.2.1.2 | omega)
            refine z_add X rfl (z_any (fun y2012 hy2012 => ?_))
            refine z_store_n X (lv' := [(3, .int (Int32.ofInt y2012)), (2, .int (Int32.ofInt e2010)), (0, .ref (A 179)), (1, .int (Int32.ofInt xv)), (4, .int (Int32.ofInt hh)), (5, .int (Int32.ofInt x2004)), (6, .int (Int32.ofInt x2005))]) rfl (by decide) (fun _ h => h) (z_inc X (x := hh) (lv' := [(4, .int (Int32.ofInt (hh + 1))), (3, .int (Int32.ofInt y2012)), (2, .int (Int32.ofInt e2010)), (0, .ref (A 179)), (1, .int (Int32.ofInt xv)), (5, .int (Int32.ofInt x2004)), (6, .int (Int32.ofInt x2005))]) rfl (by decide) (List.Mem.tail _ (List.Mem.tail _ (List.Mem.tail _ (List.Mem.tail _ (List.Mem.head _))))) (fun _ h => h) (z_goto X (t := 7) rfl rfl (WS_pq [3, 4, 2, 1, 0] (lv' := [(0, .ref (A 179)), (1, .int (Int32.ofInt xv)), (2, .int (Int32.ofInt e2010)), (3, .int (Int32.ofInt y2012)), (4, .int (Int32.ofInt (hh + 1)))]) rfl ?_)))
            exact ih _ xv e2010 y2012 (hh + 1) Is2003 Fs2003 (by first | exact ⟨And.intro (hs2003.1.1) (hs2003.1.2), oq_df5c764a he2010 hs2003.2.1.2 hs2003.2.1.1, And.intro (hy2012.1) (hy2012.2), oq_54f49eb5 hs2003.2.2.2.1.1, oq_0fae2c5f hs2003.2.2.2.1.2⟩ | omega) (by first | exact qk_me hm (by decide) (oq_ff4111af hs2003.2.2.2.1.2) | omega) kx
          refine z_if_eq X (t := 86) rfl rfl ⟨by first | exact oq_fa4e5087 hs2003.2.2.2.1.1 | omega, by first | exact oq_861e1648 hs2003.2.2.2.1.2 | omega⟩ (fun g2013 => ?_) (fun g2013 => ?_)
          ·
            refine z_aload_n X (x := A 179) rfl (List.Mem.head _) (s_getR X 179 rfl (c518_ok rfl) rfl rfl (z_load X (x := x2004) rfl (List.Mem.tail _ (List.Mem.tail _ (List.Mem.tail _ (List.Mem.tail _ (List.Mem.tail _ (List.Mem.head _)))))) (z_ald X 266 rfl (c518_ok rfl) rfl (by first | exact hs2003.2.2.2.2.1.1 | omega) (show x2004 < 256 by first | exact oq_29e5dbe2 hs2003.2.2.2.2.1.2 | omega) (cbig_ok rfl) ?_)))
            have b2014 := bc_238 Is2003 (show (x2004).toNat < 256 by first | exact oq_c39a26fc hs2003.2.2.2.2.1.2 | omega)
            exact z_goto X (t := 97) rfl rfl (N2009 _ (Or.inl ⟨g2013, b2014, rfl⟩))
          ·
            refine z_aload_n X (x := A 179) rfl (List.Mem.head _) (s_getR X 179 rfl (c518_ok rfl) rfl rfl (z_load X (x := x2004) rfl (List.Mem.tail _ (List.Mem.tail _ (List.Mem.tail _ (List.Mem.tail _ (List.Mem.tail _ (List.Mem.head _)))))) (z_ald X 266 rfl (c518_ok rfl) rfl (by first | exact hs2003.2.2.2.2.1.1 | omega) (show x2004 < 256 by first | exact oq_29e5dbe2 hs2003.2.2.2.2.1.2 | omega) (cbig_ok rfl) ?_)))
            have b2015 := bc_238 Is2003 (show (x2004).toNat < 256 by first | exact oq_c39a26fc hs2003.2.2.2.2.1.2 | omega)
            refine z_load_n X (x := pk) rfl (List.Mem.tail _ (List.Mem.tail _ (List.Mem.head _))) (z_icmp_le X (t := 96) rfl rfl (rng_to _) ⟨by first | exact hs2003.2.1.1 | omega, by first | exact hs2003.2.1.2 | omega⟩ (fun g2016 => ?_) (fun g2016 => ?_))
            ·
              exact z_load_n X (x := pk) rfl (List.Mem.tail _ (List.Mem.tail _ (List.Mem.head _))) (N2009 _ (Or.inr (Or.inl ⟨g2013, b2015, g2016, rfl⟩)))
            ·
              refine z_aload_n X (x := A 179) rfl (List.Mem.head _) (s_getR X 179 rfl (c518_ok rfl) rfl rfl (z_load X (x := x2004) rfl (List.Mem.tail _ (List.Mem.tail _ (List.Mem.tail _ (List.Mem.tail _ (List.Mem.tail _ (List.Mem.head _)))))) (z_ald X 266 rfl (c518_ok rfl) rfl (by first | exact hs2003.2.2.2.2.1.1 | omega) (show x2004 < 256 by first | exact oq_29e5dbe2 hs2003.2.2.2.2.1.2 | omega) (cbig_ok rfl) ?_)))
              have b2017 := bc_238 Is2003 (show (x2004).toNat < 256 by first | exact oq_c39a26fc hs2003.2.2.2.2.1.2 | omega)
              exact z_goto X (t := 97) rfl rfl (N2009 _ (Or.inr (Or.inr (⟨g2013, b2015, g2016, b2017, rfl⟩))))
        ·
          exact w_vret X.1 q hRt (ax_d X (show cdA 262 69 = some (.return_, 1, 0, 0, 0) from rfl)) (Nat.zero_le _) (Nat.zero_le _) ⟨_, rfl, Is2003, Fs2003, rfl, trivial⟩
  have L162 : ∀ (n : Nat) (t : PS) (ka : Int), Bd t → Fm [100, 101] [236] s t → (0 ≤ ka ∧ ka ≤ 8) → (8 - ka : Int).toNat < n → (∀ (t' : PS) (ka' : Int), Bd t' → Fm [100, 101] [236] s t' → (0 ≤ ka' ∧ ka' ≤ 8) → WS k 191 [(0, .ref (A 179)), (4, .int (Int32.ofInt ka'))] [] (Wd A dT t') 0 0) → WS k 162 [(0, .ref (A 179)), (4, .int (Int32.ofInt ka))] [] (Wd A dT t) 0 0 := by
    intro n
    induction n with
    | zero =>
      intro t ka I F hi hm kx
      exact absurd hm (Nat.not_lt_zero _)
    | succ n ih =>
      intro t ka I F hi hm kx
      have b3001 := bi_97 I
      refine z_load X (x := ka) rfl (List.Mem.tail _ (List.Mem.head _)) (z_aload_n X (x := A 179) rfl (List.Mem.head _) (z_getI X 179 rfl (c518_ok rfl) rfl rfl ?_))
      have b3002 := bi_97 I
      refine z_icmp_ge X (t := 191) rfl rfl ⟨by first | exact oq_fa4e5087 hi.1 | omega, by first | exact oq_d3f5d874 hi.2 | omega⟩ (rng_to _) (fun g3003 => ?_) (fun g3003 => ?_)
      ·
        refine WS_pq [0, 1] (lv' := [(0, .ref (A 179)), (4, .int (Int32.ofInt ka))]) rfl ?_
        exact kx _ ka I F (by first | exact ⟨hi.1, hi.2⟩ | omega)
      ·
        refine z_aload_n X (x := A 179) rfl (List.Mem.head _) (s_getR X 179 rfl (c518_ok rfl) rfl rfl (z_load X (x := ka) rfl (List.Mem.tail _ (List.Mem.head _)) (z_aload_n X (x := A 179) rfl (List.Mem.head _) (s_getR X 179 rfl (c518_ok rfl) rfl rfl (z_load X (x := ka) rfl (List.Mem.tail _ (List.Mem.head _)) (z_ald X 263 rfl (c518_ok rfl) rfl (by first | exact hi.1 | omega) (show ka < 8 by first | exact oq_7f5b2e79 g3003 b3002.2 | omega) (cbig_ok rfl) ?_))))))
        have b3004 := bc_235 I (show (ka).toNat < 8 by first | exact oq_67be0351 g3003 b3002.2 | omega)
        refine z_ast X 264 rfl (c518_ok rfl) rfl (by first | exact hi.1 | omega) (show ka < 8 by first | exact oq_7f5b2e79 g3003 b3002.2 | omega) (cbig_ok rfl) (wd_gen (fun s3005 hs3005 => ?_))
        have Is3005 : Bd s3005 := eqB hs3005 (bd_C I (show ((-1) : Int) ≤ (iC t 235 (ka).toNat) ∧ (iC t 235 (ka).toNat) ≤ 7 by first | exact ⟨oq_ca54ea22 b3004.1, b3004.2⟩ | omega) (rng_to _))
        have Fs3005 := eqF hs3005 (fm_C F (inl_ok (a := 236) rfl))
        have ws3005_97 : iI s3005 97 = iI t 97 := eqI hs3005 rfl
        refine z_inc X (x := ka) (lv' := [(4, .int (Int32.ofInt (ka + 1))), (0, .ref (A 179))]) rfl (by decide) (List.Mem.tail _ (List.Mem.head _)) (fun _ h => h) (z_goto X (t := 162) rfl rfl (WS_pq [1, 0] (lv' := [(0, .ref (A 179)), (4, .int (Int32.ofInt (ka + 1)))]) rfl ?_))
        exact ih _ (ka + 1) Is3005 Fs3005 (by first | exact ⟨oq_54f49eb5 hi.1, oq_f6204d84 g3003 b3002.2⟩ | omega) (by first | exact qk_me hm (by decide) (oq_ccc5e5e0 g3003 b3002.2) | omega) kx
  refine z_const X rfl (z_store_n X (lv' := [(2, .int (Int32.ofInt 0)), (0, .ref (A 179)), (1, .int (Int32.ofInt x))]) rfl (by decide) (fun _ h => h) (z_const X rfl (z_store_n X (lv' := [(3, .int (Int32.ofInt 0)), (2, .int (Int32.ofInt 0)), (0, .ref (A 179)), (1, .int (Int32.ofInt x))]) rfl (by decide) (fun _ h => h) (z_const X rfl (z_store X (lv' := [(4, .int (Int32.ofInt 0)), (3, .int (Int32.ofInt 0)), (2, .int (Int32.ofInt 0)), (0, .ref (A 179)), (1, .int (Int32.ofInt x))]) rfl (by decide) (fun _ h => h) (WS_pq [3, 4, 2, 1, 0] (lv' := [(0, .ref (A 179)), (1, .int (Int32.ofInt x)), (2, .int (Int32.ofInt 0)), (3, .int (Int32.ofInt 0)), (4, .int (Int32.ofInt 0))]) rfl (L7 ((3 - 0 : Int).toNat + 1) s x 0 0 0 I F (by first | exact ⟨And.intro (p0.1) (p0.2), And.intro (by decide) (by decide), And.intro (by decide) (by decide), by decide, by decide⟩ | omega) (Nat.lt_succ_self _) ?_)))))))
  intro s2 x3 x4 x5 Is2 Fs2 hs2
  have b6 := bi_97 Is2
  refine z_aload_n X (x := A 179) rfl (List.Mem.head _) (s_getR X 179 rfl (c518_ok rfl) rfl rfl (z_const X rfl (z_ald X 264 rfl (c518_ok rfl) rfl (by decide) (show 0 < 8 by decide) (cbig_ok rfl) ?_)))
  have b7 := bc_236 Is2 (show (0 : Int).toNat < 8 by first | exact oq_7f42415e | omega)
  refine z_const X rfl (z_icmp_eq X (t := 149) rfl rfl (rng_to _) (by decide) (fun g8 => ?_) (fun g8 => ?_))
  ·
    refine z_aload_n X (x := A 179) rfl (List.Mem.head _) (z_load_n X (x := x3) rfl (List.Mem.tail _ (List.Mem.tail _ (List.Mem.head _))) (s_putI X 179 rfl (c518_ok rfl) rfl rfl (by decide) rfl rfl rfl (wd_gen (fun s9 hs9 => ?_))))
    have Is9 : Bd s9 := eqB hs9 (bd_I Is2 (show ((-2147483648) : Int) ≤ x3 ∧ x3 ≤ 2147483647 by first | exact ⟨hs2.2.1.1, hs2.2.1.2⟩ | omega) ⟨by first | exact hs2.2.1.1 | omega, by first | exact hs2.2.1.2 | omega⟩)
    have Fs9 := eqF hs9 (fm_I Fs2 (inl_ok (a := 100) rfl))
    have vs9 : iI s9 100 = x3 := eqI hs9 (iI_u ⟨by first | exact hs2.2.1.1 | omega, by first | exact hs2.2.1.2 | omega⟩)
    have ws9_97 : iI s9 97 = iI s2 97 := eqI hs9 rfl
    refine z_aload_n X (x := A 179) rfl (List.Mem.head _) (z_load_n X (x := x4) rfl (List.Mem.tail _ (List.Mem.tail _ (List.Mem.tail _ (List.Mem.head _)))) (s_putI X 179 rfl (c518_ok rfl) rfl rfl (by decide) rfl rfl rfl (wd_gen (fun s10 hs10 => ?_))))
    have Is10 : Bd s10 := eqB hs10 (bd_I Is9 (show ((-2147483648) : Int) ≤ x4 ∧ x4 ≤ 2147483647 by first | exact ⟨hs2.2.2.1.1, hs2.2.2.1.2⟩ | omega) ⟨by first | exact hs2.2.2.1.1 | omega, by first | exact hs2.2.2.1.2 | omega⟩)
    have Fs10 := eqF hs10 (fm_I Fs9 (inl_ok (a := 101) rfl))
    have vs10 : iI s10 101 = x4 := eqI hs10 (iI_u ⟨by first | exact hs2.2.2.1.1 | omega, by first | exact hs2.2.2.1.2 | omega⟩)
    have ws10_97 : iI s10 97 = iI s9 97 := eqI hs10 rfl
    refine z_const X rfl (z_store X (lv' := [(4, .int (Int32.ofInt 0)), (0, .ref (A 179)), (1, .int (Int32.ofInt x)), (2, .int (Int32.ofInt x3)), (3, .int (Int32.ofInt x4))]) rfl (by decide) (fun _ h => h) (WS_pq [1, 0] (lv' := [(0, .ref (A 179)), (4, .int (Int32.ofInt 0))]) rfl (L162 ((8 - 0 : Int).toNat + 1) s10 0 Is10 Fs10 (by first | exact ⟨by decide, by decide⟩ | omega) (Nat.lt_succ_self _) ?_)))
    intro s11 x12 Is11 Fs11 hs11
    have b13 := bi_97 Is11
    exact w_vret X.1 q hRt (ax_d X (show cdA 262 191 = some (.return_, 1, 0, 0, 0) from rfl)) (Nat.zero_le _) (Nat.zero_le _) ⟨_, rfl, Is11, Fs11, rfl, trivial⟩
  ·
    refine z_load_n X (x := x3) rfl (List.Mem.tail _ (List.Mem.tail _ (List.Mem.head _))) (z_aload_n X (x := A 179) rfl (List.Mem.head _) (z_getI X 179 rfl (c518_ok rfl) rfl rfl ?_))
    have b14 := bi_100 Is2
    refine z_icmp_gt X (t := 148) rfl rfl ⟨by first | exact hs2.2.1.1 | omega, by first | exact hs2.2.1.2 | omega⟩ (rng_to _) (fun g15 => ?_) (fun g15 => ?_)
    ·
      exact w_vret X.1 q hRt (ax_d X (show cdA 262 148 = some (.return_, 1, 0, 0, 0) from rfl)) (Nat.zero_le _) (Nat.zero_le _) ⟨_, rfl, Is2, Fs2, rfl, trivial⟩
    ·
      refine z_load_n X (x := x3) rfl (List.Mem.tail _ (List.Mem.tail _ (List.Mem.head _))) (z_aload_n X (x := A 179) rfl (List.Mem.head _) (z_getI X 179 rfl (c518_ok rfl) rfl rfl ?_))
      have b16 := bi_100 Is2
      refine z_icmp_ne X (t := 149) rfl rfl ⟨by first | exact hs2.2.1.1 | omega, by first | exact hs2.2.1.2 | omega⟩ (rng_to _) (fun g17 => ?_) (fun g17 => ?_)
      ·
        refine z_aload_n X (x := A 179) rfl (List.Mem.head _) (z_load_n X (x := x3) rfl (List.Mem.tail _ (List.Mem.tail _ (List.Mem.head _))) (s_putI X 179 rfl (c518_ok rfl) rfl rfl (by decide) rfl rfl rfl (wd_gen (fun s18 hs18 => ?_))))
        have Is18 : Bd s18 := eqB hs18 (bd_I Is2 (show ((-2147483648) : Int) ≤ x3 ∧ x3 ≤ 2147483647 by first | exact ⟨hs2.2.1.1, hs2.2.1.2⟩ | omega) ⟨by first | exact hs2.2.1.1 | omega, by first | exact hs2.2.1.2 | omega⟩)
        have Fs18 := eqF hs18 (fm_I Fs2 (inl_ok (a := 100) rfl))
        have vs18 : iI s18 100 = x3 := eqI hs18 (iI_u ⟨by first | exact hs2.2.1.1 | omega, by first | exact hs2.2.1.2 | omega⟩)
        have ws18_97 : iI s18 97 = iI s2 97 := eqI hs18 rfl
        refine z_aload_n X (x := A 179) rfl (List.Mem.head _) (z_load_n X (x := x4) rfl (List.Mem.tail _ (List.Mem.tail _ (List.Mem.tail _ (List.Mem.head _)))) (s_putI X 179 rfl (c518_ok rfl) rfl rfl (by decide) rfl rfl rfl (wd_gen (fun s19 hs19 => ?_))))
        have Is19 : Bd s19 := eqB hs19 (bd_I Is18 (show ((-2147483648) : Int) ≤ x4 ∧ x4 ≤ 2147483647 by first | exact ⟨hs2.2.2.1.1, hs2.2.2.1.2⟩ | omega) ⟨by first | exact hs2.2.2.1.1 | omega, by first | exact hs2.2.2.1.2 | omega⟩)
        have Fs19 := eqF hs19 (fm_I Fs18 (inl_ok (a := 101) rfl))
        have vs19 : iI s19 101 = x4 := eqI hs19 (iI_u ⟨by first | exact hs2.2.2.1.1 | omega, by first | exact hs2.2.2.1.2 | omega⟩)
        have ws19_97 : iI s19 97 = iI s18 97 := eqI hs19 rfl
        refine z_const X rfl (z_store X (lv' := [(4, .int (Int32.ofInt 0)), (0, .ref (A 179)), (1, .int (Int32.ofInt x)), (2, .int (Int32.ofInt x3)), (3, .int (Int32.ofInt x4))]) rfl (by decide) (fun _ h => h) (WS_pq [1, 0] (lv' := [(0, .ref (A 179)), (4, .int (Int32.ofInt 0))]) rfl (L162 ((8 - 0 : Int).toNat + 1) s19 0 Is19 Fs19 (by first | exact ⟨by decide, by decide⟩ | omega) (Nat.lt_succ_self _) ?_)))
        intro s20 x21 Is20 Fs20 hs20
        have b22 := bi_97 Is20
        exact w_vret X.1 q hRt (ax_d X (show cdA 262 191 = some (.return_, 1, 0, 0, 0) from rfl)) (Nat.zero_le _) (Nat.zero_le _) ⟨_, rfl, Is20, Fs20, rfl, trivial⟩
      ·
        refine z_load_n X (x := x4) rfl (List.Mem.tail _ (List.Mem.tail _ (List.Mem.tail _ (List.Mem.head _)))) (z_aload_n X (x := A 179) rfl (List.Mem.head _) (z_getI X 179 rfl (c518_ok rfl) rfl rfl ?_))
        have b23 := bi_101 Is2
        refine z_icmp_lt X (t := 149) rfl rfl ⟨by first | exact hs2.2.2.1.1 | omega, by first | exact hs2.2.2.1.2 | omega⟩ (rng_to _) (fun g24 => ?_) (fun g24 => ?_)
        ·
          refine z_aload_n X (x := A 179) rfl (List.Mem.head _) (z_load_n X (x := x3) rfl (List.Mem.tail _ (List.Mem.tail _ (List.Mem.head _))) (s_putI X 179 rfl (c518_ok rfl) rfl rfl (by decide) rfl rfl rfl (wd_gen (fun s25 hs25 => ?_))))
          have Is25 : Bd s25 := eqB hs25 (bd_I Is2 (show ((-2147483648) : Int) ≤ x3 ∧ x3 ≤ 2147483647 by first | exact ⟨hs2.2.1.1, hs2.2.1.2⟩ | omega) ⟨by first | exact hs2.2.1.1 | omega, by first | exact hs2.2.1.2 | omega⟩)
          have Fs25 := eqF hs25 (fm_I Fs2 (inl_ok (a := 100) rfl))
          have vs25 : iI s25 100 = x3 := eqI hs25 (iI_u ⟨by first | exact hs2.2.1.1 | omega, by first | exact hs2.2.1.2 | omega⟩)
          have ws25_97 : iI s25 97 = iI s2 97 := eqI hs25 rfl
          refine z_aload_n X (x := A 179) rfl (List.Mem.head _) (z_load_n X (x := x4) rfl (List.Mem.tail _ (List.Mem.tail _ (List.Mem.tail _ (List.Mem.head _)))) (s_putI X 179 rfl (c518_ok rfl) rfl rfl (by decide) rfl rfl rfl (wd_gen (fun s26 hs26 => ?_))))
          have Is26 : Bd s26 := eqB hs26 (bd_I Is25 (show ((-2147483648) : Int) ≤ x4 ∧ x4 ≤ 2147483647 by first | exact ⟨hs2.2.2.1.1, hs2.2.2.1.2⟩ | omega) ⟨by first | exact hs2.2.2.1.1 | omega, by first | exact hs2.2.2.1.2 | omega⟩)
          have Fs26 := eqF hs26 (fm_I Fs25 (inl_ok (a := 101) rfl))
          have vs26 : iI s26 101 = x4 := eqI hs26 (iI_u ⟨by first | exact hs2.2.2.1.1 | omega, by first | exact hs2.2.2.1.2 | omega⟩)
          have ws26_97 : iI s26 97 = iI s25 97 := eqI hs26 rfl
          refine z_const X rfl (z_store X (lv' := [(4, .int (Int32.ofInt 0)), (0, .ref (A 179)), (1, .int (Int32.ofInt x)), (2, .int (Int32.ofInt x3)), (3, .int (Int32.ofInt x4))]) rfl (by decide) (fun _ h => h) (WS_pq [1, 0] (lv' := [(0, .ref (A 179)), (4, .int (Int32.ofInt 0))]) rfl (L162 ((8 - 0 : Int).toNat + 1) s26 0 Is26 Fs26 (by first | exact ⟨by decide, by decide⟩ | omega) (Nat.lt_succ_self _) ?_)))
          intro s27 x28 Is27 Fs27 hs27
          have b29 := bi_97 Is27
          exact w_vret X.1 q hRt (ax_d X (show cdA 262 191 = some (.return_, 1, 0, 0, 0) from rfl)) (Nat.zero_le _) (Nat.zero_le _) ⟨_, rfl, Is27, Fs27, rfl, trivial⟩
        ·
          exact w_vret X.1 q hRt (ax_d X (show cdA 262 148 = some (.return_, 1, 0, 0, 0) from rfl)) (Nat.zero_le _) (Nat.zero_le _) ⟨_, rfl, Is2, Fs2, rfl, trivial⟩
set_option maxRecDepth 4000 in
theorem k_parts0 (G : GX l s0 D tys a0 dT) (I : Bd s) {x y z : Int} (p0 : 0 ≤ x ∧ x ≤ iI s 97) (p1 : iI s 97 - x ≤ ((0 : Nat) : Int)) (p2 : 0 ≤ y ∧ y ≤ 3) (p3 : 1 ≤ z ∧ z ≤ 3) : CT l s0 D A dT 261 (rkR (12 + (0))) [.ref (A 179), .int (Int32.ofInt x), .int (Int32.ofInt y), .int (Int32.ofInt z)] s (fun o t => Bd t ∧ Fm [100, 101] [236, 235] s t ∧ o = .inl none ∧ (True)) := by
  refine ct_of G (by decide) (Nat.le_of_ble_eq_true rfl) (fun k X E hRt hXt q => ?_)
  show WS k 0 [(0, .ref (A 179)), (1, .int (Int32.ofInt x)), (2, .int (Int32.ofInt y)), (3, .int (Int32.ofInt z))] [] _ 0 0
  have F : Fm [100, 101] [236, 235] s s := fm_rf _ _ s
  have b1 := bi_97 I
  refine z_load_n X (x := x) rfl (List.Mem.tail _ (List.Mem.head _)) (z_aload_n X (x := A 179) rfl (List.Mem.head _) (z_getI X 179 rfl (c518_ok rfl) rfl rfl ?_))
  have b2 := bi_97 I
  refine z_icmp_ne X (t := 14) rfl rfl ⟨by first | exact oq_fa4e5087 p0.1 | omega, by first | exact oq_b5dbaaed p0.2 b2.2 | omega⟩ (rng_to _) (fun g3 => ?_) (fun g3 => ?_)
  ·
    exfalso
    omega
  ·
    refine z_aload_n X (x := A 179) rfl (List.Mem.head _) (z_load_n X (x := y) rfl (List.Mem.tail _ (List.Mem.tail _ (List.Mem.head _))) (z_callV X 179 (rm := rmN 262) (As := [.int (Int32.ofInt y)]) (st := []) rfl rfl (by decide) rfl (by rw [E.1, E.2.1, E.2.2.1]; exact k_judges G I (by first | exact ⟨p2.1, p2.2⟩ | omega)) ⟨by rw [E.2.2.2]; exact (show 6 + 1 ≤ (12 + (12 + (0))) from oq_57e4ae5d), by rw [E.2.2.2]; exact (show 8 + (7 + 11) + 100 ≤ (500 + 45 * (12 + (0))) from oq_67d961ff), by rw [E.2.2.2]; exact Nat.le_refl 0, by rw [E.2.2.2]; exact Nat.le_refl 0⟩ (Nat.le_of_ble_eq_true rfl) (fun vv s4 hq => ?_) (fun ee s4 hq => ?_)))
    rotate_left
    · obtain ⟨Is4, Fs4, hv, hps4⟩ := hq; cases hv
    obtain ⟨Is4, Fs4, hv, hps4⟩ := hq
    cases hv
    have Gs4 := fm_tq F Fs4 rfl rfl
    have ws4_97 : iI s4 97 = iI s 97 := fm_iq Fs4 rfl
    show WS k 13 [(0, .ref (A 179)), (1, .int (Int32.ofInt x)), (2, .int (Int32.ofInt y)), (3, .int (Int32.ofInt z))] [] (Wd A dT s4) 0 0
    exact w_vret X.1 q hRt (ax_d X (show cdA 261 13 = some (.return_, 1, 0, 0, 0) from rfl)) (Nat.zero_le _) (Nat.zero_le _) ⟨_, rfl, Is4, Gs4, rfl, trivial⟩
set_option maxRecDepth 4000 in
theorem k_partsS (G : GX l s0 D tys a0 dT) {r : Nat} (hR : ∀ {s : PS} {x y z : Int}, Bd s → (0 ≤ x ∧ x ≤ iI s 97) → (iI s 97 - x ≤ ((r : Nat) : Int)) → (0 ≤ y ∧ y ≤ 3) → (1 ≤ z ∧ z ≤ 3) → CT l s0 D A dT 261 (rkR (12 + (r))) [.ref (A 179), .int (Int32.ofInt x), .int (Int32.ofInt y), .int (Int32.ofInt z)] s (fun o t => Bd t ∧ Fm [100, 101] [236, 235] s t ∧ o = .inl none ∧ (True))) (I : Bd s) {x y z : Int} (p0 : 0 ≤ x ∧ x ≤ iI s 97) (p1 : iI s 97 - x ≤ ((r + 1 : Nat) : Int)) (p2 : 0 ≤ y ∧ y ≤ 3) (p3 : 1 ≤ z ∧ z ≤ 3) : CT l s0 D A dT 261 (rkR (12 + (r + 1))) [.ref (A 179), .int (Int32.ofInt x), .int (Int32.ofInt y), .int (Int32.ofInt z)] s (fun o t => Bd t ∧ Fm [100, 101] [236, 235] s t ∧ o = .inl none ∧ (True)) := by
  refine ct_of G (by decide) (Nat.le_of_ble_eq_true rfl) (fun k X E hRt hXt q => ?_)
  show WS k 0 [(0, .ref (A 179)), (1, .int (Int32.ofInt x)), (2, .int (Int32.ofInt y)), (3, .int (Int32.ofInt z))] [] _ 0 0
  have F : Fm [100, 101] [236, 235] s s := fm_rf _ _ s
  have b1 := bi_97 I
  have L17 : ∀ (n : Nat) (t : PS) (xv yv zv hh : Int), Bd t → Fm [100, 101] [236, 235] s t → (xv = x ∧ (0 ≤ xv ∧ xv < iI t 97) ∧ (0 ≤ yv ∧ yv ≤ 3) ∧ (1 ≤ zv ∧ zv ≤ 3) ∧ 0 ≤ hh ∧ hh ≤ 3 ∧ iI t 97 = iI s 97) → (3 - hh : Int).toNat < n → (∀ (t' : PS) (hh' : Int), Bd t' → Fm [100, 101] [236, 235] s t' → (xv = x ∧ (0 ≤ xv ∧ xv < iI t' 97) ∧ (0 ≤ yv ∧ yv ≤ 3) ∧ (1 ≤ zv ∧ zv ≤ 3) ∧ 0 ≤ hh' ∧ hh' ≤ 3 ∧ iI t' 97 = iI s 97) → WS k 64 [(0, .ref (A 179)), (1, .int (Int32.ofInt xv)), (2, .int (Int32.ofInt yv)), (3, .int (Int32.ofInt zv)), (4, .int (Int32.ofInt hh'))] [] (Wd A dT t') 0 0) → WS k 17 [(0, .ref (A 179)), (1, .int (Int32.ofInt xv)), (2, .int (Int32.ofInt yv)), (3, .int (Int32.ofInt zv)), (4, .int (Int32.ofInt hh))] [] (Wd A dT t) 0 0 := by
    intro n
    induction n with
    | zero =>
      intro t xv yv zv hh I F hi hm kx
      exact absurd hm (Nat.not_lt_zero _)
    | succ n ih =>
      intro t xv yv zv hh I F hi hm kx
      have b1001 := bi_97 I
      refine z_load X (x := hh) rfl (List.Mem.tail _ (List.Mem.tail _ (List.Mem.tail _ (List.Mem.tail _ (List.Mem.head _))))) (z_load_n X (x := yv) rfl (List.Mem.tail _ (List.Mem.tail _ (List.Mem.head _))) (z_icmp_gt X (t := 64) rfl rfl ⟨by first | exact oq_fa4e5087 hi.2.2.2.2.1 | omega, by first | exact oq_c5520c83 hi.2.2.2.2.2.1 | omega⟩ ⟨by first | exact oq_fa4e5087 hi.2.2.1.1 | omega, by first | exact oq_c5520c83 hi.2.2.1.2 | omega⟩ (fun g1002 => ?_) (fun g1002 => ?_)))
      ·
        refine WS_pq [0, 1, 2, 3, 4] (lv' := [(0, .ref (A 179)), (1, .int (Int32.ofInt xv)), (2, .int (Int32.ofInt yv)), (3, .int (Int32.ofInt zv)), (4, .int (Int32.ofInt hh))]) rfl ?_
        exact kx _ hh I F (by first | exact ⟨hi.1, And.intro (hi.2.1.1) (hi.2.1.2), And.intro (hi.2.2.1.1) (hi.2.2.1.2), And.intro (hi.2.2.2.1.1) (hi.2.2.2.1.2), hi.2.2.2.2.1, hi.2.2.2.2.2.1, hi.2.2.2.2.2.2⟩ | omega)
      ·
        refine z_load X (x := hh) rfl (List.Mem.tail _ (List.Mem.tail _ (List.Mem.tail _ (List.Mem.tail _ (List.Mem.head _))))) (z_load_n X (x := zv) rfl (List.Mem.tail _ (List.Mem.tail _ (List.Mem.tail _ (List.Mem.head _)))) (z_icmp_ge X (t := 64) rfl rfl ⟨by first | exact oq_fa4e5087 hi.2.2.2.2.1 | omega, by first | exact oq_c5520c83 hi.2.2.2.2.2.1 | omega⟩ ⟨by first | exact oq_9462313e hi.2.2.2.1.1 | omega, by first | exact oq_c5520c83 hi.2.2.2.1.2 | omega⟩ (fun g1003 => ?_) (fun g1003 => ?_)))
        ·
          refine WS_pq [0, 1, 2, 3, 4] (lv' := [(0, .ref (A 179)), (1, .int (Int32.ofInt xv)), (2, .int (Int32.ofInt yv)), (3, .int (Int32.ofInt zv)), (4, .int (Int32.ofInt hh))]) rfl ?_
          exact kx _ hh I F (by first | exact ⟨hi.1, And.intro (hi.2.1.1) (hi.2.1.2), And.intro (hi.2.2.1.1) (hi.2.2.1.2), And.intro (hi.2.2.2.1.1) (hi.2.2.2.1.2), hi.2.2.2.2.1, hi.2.2.2.2.2.1, hi.2.2.2.2.2.2⟩ | omega)
        ·
          refine z_aload_n X (x := A 179) rfl (List.Mem.head _) (s_getR X 179 rfl (c518_ok rfl) rfl rfl (z_load_n X (x := xv) rfl (List.Mem.tail _ (List.Mem.head _)) (z_load X (x := hh) rfl (List.Mem.tail _ (List.Mem.tail _ (List.Mem.tail _ (List.Mem.tail _ (List.Mem.head _))))) (z_ast X 263 rfl (c518_ok rfl) rfl (by first | exact hi.2.1.1 | omega) (show xv < 8 by first | exact oq_7f5b2e79 hi.2.1.2 b1001.2 | omega) (cbig_ok rfl) (wd_gen (fun s1004 hs1004 => ?_))))))
          have Is1004 : Bd s1004 := eqB hs1004 (bd_C I (show (0 : Int) ≤ hh ∧ hh ≤ 7 by first | exact ⟨hi.2.2.2.2.1, oq_79ac70b5 hi.2.2.2.2.2.1⟩ | omega) ⟨by first | exact oq_fa4e5087 hi.2.2.2.2.1 | omega, by first | exact oq_c5520c83 hi.2.2.2.2.2.1 | omega⟩)
          have Fs1004 := eqF hs1004 (fm_C F (inl_ok (a := 235) rfl))
          have ws1004_97 : iI s1004 97 = iI t 97 := eqI hs1004 rfl
          refine z_aload_n X (x := A 179) rfl (List.Mem.head _) (z_load_n X (x := xv) rfl (List.Mem.tail _ (List.Mem.head _)) (z_const X rfl (z_add X rfl (z_load X (x := hh) rfl (List.Mem.tail _ (List.Mem.tail _ (List.Mem.tail _ (List.Mem.tail _ (List.Mem.head _))))) (z_load_n X (x := yv) rfl (List.Mem.tail _ (List.Mem.tail _ (List.Mem.head _))) ?_)))))
          have N1005 : ∀ e1006 : Int, (((hh ≠ yv) ∧ e1006 = yv) ∨ ((hh = yv) ∧ e1006 = (yv + 1))) → WS k 54 [(0, .ref (A 179)), (1, .int (Int32.ofInt xv)), (2, .int (Int32.ofInt yv)), (3, .int (Int32.ofInt zv)), (4, .int (Int32.ofInt hh))] [.int (Int32.ofInt e1006), .int (Int32.ofInt (xv + 1)), .ref (A 179)] (Wd A dT s1004) 0 0 := by
            intro e1006 he1006
            refine z_load_n X (x := zv) rfl (List.Mem.tail _ (List.Mem.tail _ (List.Mem.tail _ (List.Mem.head _)))) (z_callV X 179 (rm := (rkR (12 + (r)))) (As := [.int (Int32.ofInt (xv + 1)), .int (Int32.ofInt e1006), .int (Int32.ofInt zv)]) (st := []) rfl rfl (by decide) rfl (by rw [E.1, E.2.1, E.2.2.1]; exact hR Is1004 (by first | exact ⟨p0.1, oq_d3a33ee2 ws1004_97 hi.1 hi.2.1.2⟩ | omega) (by first | (clear he1006; omega) | omega) (by first | exact ⟨p2.1, p2.2⟩ | omega) (by first | exact ⟨p3.1, p3.2⟩ | omega)) ⟨by rw [E.2.2.2]; exact (show (12 + (12 + (r))) + 1 ≤ (12 + (12 + (r + 1))) from oq_23161452 r), by rw [E.2.2.2]; exact (show 8 + (5 + 11) + (500 + 45 * (12 + (r))) ≤ (500 + 45 * (12 + (r + 1))) from oq_5db9f55c r), by rw [E.2.2.2]; exact Nat.le_refl 0, by rw [E.2.2.2]; exact Nat.le_refl 0⟩ (Nat.le_of_ble_eq_true rfl) (fun vv s1007 hq => ?_) (fun ee s1007 hq => ?_))
            rotate_left
            · obtain ⟨Is1007, Fs1007, hv, hps1007⟩ := hq; cases hv
            obtain ⟨Is1007, Fs1007, hv, hps1007⟩ := hq
            cases hv
            have Gs1007 := fm_tq Fs1004 Fs1007 rfl rfl
            have ws1007_97 : iI s1007 97 = iI s1004 97 := fm_iq Fs1007 rfl
            show WS k 58 [(0, .ref (A 179)), (1, .int (Int32.ofInt xv)), (2, .int (Int32.ofInt yv)), (3, .int (Int32.ofInt zv)), (4, .int (Int32.ofInt hh))] [] (Wd A dT s1007) 0 0
            refine z_inc X (x := hh) (lv' := [(4, .int (Int32.ofInt (hh + 1))), (0, .ref (A 179)), (1, .int (Int32.ofInt xv)), (2, .int (Int32.ofInt yv)), (3, .int (Int32.ofInt zv))]) rfl (by decide) (List.Mem.tail _ (List.Mem.tail _ (List.Mem.tail _ (List.Mem.tail _ (List.Mem.head _))))) (fun _ h => h) (z_goto X (t := 17) rfl rfl (WS_pq [1, 2, 3, 4, 0] (lv' := [(0, .ref (A 179)), (1, .int (Int32.ofInt xv)), (2, .int (Int32.ofInt yv)), (3, .int (Int32.ofInt zv)), (4, .int (Int32.ofInt (hh + 1)))]) rfl ?_))
            exact ih _ xv yv zv (hh + 1) Is1007 Gs1007 (by first | exact ⟨hi.1, And.intro (hi.2.1.1) (oq_a618c864 ws1007_97 hi.2.1.2 ws1004_97), And.intro (hi.2.2.1.1) (hi.2.2.1.2), And.intro (hi.2.2.2.1.1) (hi.2.2.2.1.2), oq_54f49eb5 hi.2.2.2.2.1, oq_917370dc g1003 hi.2.2.2.1.2, oq_878618b1 ws1007_97 ws1004_97 hi.2.2.2.2.2.2⟩ | omega) (by first | exact qk_me hm (by decide) (oq_83a89698 g1003 hi.2.2.2.1.2) | omega) kx
          refine z_icmp_ne X (t := 53) rfl rfl ⟨by first | exact oq_fa4e5087 hi.2.2.2.2.1 | omega, by first | exact oq_c5520c83 hi.2.2.2.2.2.1 | omega⟩ ⟨by first | exact oq_fa4e5087 hi.2.2.1.1 | omega, by first | exact oq_c5520c83 hi.2.2.1.2 | omega⟩ (fun g1009 => ?_) (fun g1009 => ?_)
          ·
            exact z_load_n X (x := yv) rfl (List.Mem.tail _ (List.Mem.tail _ (List.Mem.head _))) (N1005 _ (Or.inl ⟨g1009, rfl⟩))
          ·
            exact z_load_n X (x := yv) rfl (List.Mem.tail _ (List.Mem.tail _ (List.Mem.head _))) (z_const X rfl (z_add X rfl (z_goto X (t := 54) rfl rfl (N1005 _ (Or.inr (⟨g1009, rfl⟩))))))
  refine z_load_n X (x := x) rfl (List.Mem.tail _ (List.Mem.head _)) (z_aload_n X (x := A 179) rfl (List.Mem.head _) (z_getI X 179 rfl (c518_ok rfl) rfl rfl ?_))
  have b2 := bi_97 I
  refine z_icmp_ne X (t := 14) rfl rfl ⟨by first | exact oq_fa4e5087 p0.1 | omega, by first | exact oq_b5dbaaed p0.2 b2.2 | omega⟩ (rng_to _) (fun g3 => ?_) (fun g3 => ?_)
  ·
    refine z_const X rfl (z_store X (lv' := [(4, .int (Int32.ofInt 0)), (0, .ref (A 179)), (1, .int (Int32.ofInt x)), (2, .int (Int32.ofInt y)), (3, .int (Int32.ofInt z))]) rfl (by decide) (fun _ h => h) (WS_pq [1, 2, 3, 4, 0] (lv' := [(0, .ref (A 179)), (1, .int (Int32.ofInt x)), (2, .int (Int32.ofInt y)), (3, .int (Int32.ofInt z)), (4, .int (Int32.ofInt 0))]) rfl (L17 ((3 - 0 : Int).toNat + 1) s x y z 0 I F (by first | exact ⟨by decide, oq_06adfc3a g3 p0.2 p0.1, And.intro (p2.1) (p2.2), And.intro (p3.1) (p3.2), by decide, by decide, by decide⟩ | omega) (Nat.lt_succ_self _) ?_)))
    intro s4 x5 Is4 Fs4 hs4
    have b6 := bi_97 Is4
    exact w_vret X.1 q hRt (ax_d X (show cdA 261 64 = some (.return_, 1, 0, 0, 0) from rfl)) (Nat.zero_le _) (Nat.zero_le _) ⟨_, rfl, Is4, Fs4, rfl, trivial⟩
  ·
    refine z_aload_n X (x := A 179) rfl (List.Mem.head _) (z_load_n X (x := y) rfl (List.Mem.tail _ (List.Mem.tail _ (List.Mem.head _))) (z_callV X 179 (rm := rmN 262) (As := [.int (Int32.ofInt y)]) (st := []) rfl rfl (by decide) rfl (by rw [E.1, E.2.1, E.2.2.1]; exact k_judges G I (by first | exact ⟨p2.1, p2.2⟩ | omega)) ⟨by rw [E.2.2.2]; exact (show 6 + 1 ≤ (12 + (12 + (r + 1))) from oq_895d89e2 r), by rw [E.2.2.2]; exact (show 8 + (7 + 11) + 100 ≤ (500 + 45 * (12 + (r + 1))) from oq_41a8610d r), by rw [E.2.2.2]; exact Nat.le_refl 0, by rw [E.2.2.2]; exact Nat.le_refl 0⟩ (Nat.le_of_ble_eq_true rfl) (fun vv s7 hq => ?_) (fun ee s7 hq => ?_)))
    rotate_left
    · obtain ⟨Is7, Fs7, hv, hps7⟩ := hq; cases hv
    obtain ⟨Is7, Fs7, hv, hps7⟩ := hq
    cases hv
    have Gs7 := fm_tq F Fs7 rfl rfl
    have ws7_97 : iI s7 97 = iI s 97 := fm_iq Fs7 rfl
    show WS k 13 [(0, .ref (A 179)), (1, .int (Int32.ofInt x)), (2, .int (Int32.ofInt y)), (3, .int (Int32.ofInt z))] [] (Wd A dT s7) 0 0
    exact w_vret X.1 q hRt (ax_d X (show cdA 261 13 = some (.return_, 1, 0, 0, 0) from rfl)) (Nat.zero_le _) (Nat.zero_le _) ⟨_, rfl, Is7, Gs7, rfl, trivial⟩
theorem k_partsr (G : GX l s0 D tys a0 dT) (r : Nat) : ∀ {s : PS} {x y z : Int}, Bd s → (0 ≤ x ∧ x ≤ iI s 97) → (iI s 97 - x ≤ ((r : Nat) : Int)) → (0 ≤ y ∧ y ≤ 3) → (1 ≤ z ∧ z ≤ 3) → CT l s0 D A dT 261 (rkR (12 + (r))) [.ref (A 179), .int (Int32.ofInt x), .int (Int32.ofInt y), .int (Int32.ofInt z)] s (fun o t => Bd t ∧ Fm [100, 101] [236, 235] s t ∧ o = .inl none ∧ (True)) := by
  induction r with
  | zero => exact fun {_ _ _ _} I p0 p1 p2 p3 => k_parts0 G I p0 p1 p2 p3
  | succ r ih => exact fun {_ _ _ _} I p0 p1 p2 p3 => k_partsS G ih I p0 p1 p2 p3
set_option maxRecDepth 4000 in
theorem k_parted (G : GX l s0 D tys a0 dT) (I : Bd s) (jRLx : RLx s) {x y : Int} (p0 : rng x) (p1 : rng y) : CT l s0 D A dT 263 (rmN 263) [.ref (A 179), .int (Int32.ofInt x), .int (Int32.ofInt y)] s (fun o t => Bd t ∧ Fm [73, 77, 75, 78, 79, 80, 81, 100, 101] [202, 204, 205, 206, 207, 208, 209, 210, 211, 212, 213, 214, 215, 216, 217, 218, 219, 220, 221, 222, 223, 224, 225, 226, 227, 203, 161, 230, 231, 232, 240, 238, 239, 236, 235] s t ∧ RLx t ∧ ∃ e, o = .inl (some (.int (Int32.ofInt e))) ∧ rng e ∧ (True)) := by
  refine ct_of G (by decide) (Nat.le_of_ble_eq_true rfl) (fun k X E hRt hXt q => ?_)
  show WS k 0 [(0, .ref (A 179)), (1, .int (Int32.ofInt x)), (2, .int (Int32.ofInt y))] [] _ 0 0
  have F : Fm [73, 77, 75, 78, 79, 80, 81, 100, 101] [202, 204, 205, 206, 207, 208, 209, 210, 211, 212, 213, 214, 215, 216, 217, 218, 219, 220, 221, 222, 223, 224, 225, 226, 227, 203, 161, 230, 231, 232, 240, 238, 239, 236, 235] s s := fm_rf _ _ s
  have b1 := bi_73 I
  have b2 := bi_97 I
  refine z_aload_n X (x := A 179) rfl (List.Mem.head _) (z_const X rfl (s_putI X 179 rfl (c518_ok rfl) rfl rfl (by decide) rfl rfl rfl (wd_gen (fun s3 hs3 => ?_))))
  have Is3 : Bd s3 := eqB hs3 (bd_I I (show (0 : Int) ≤ 0 ∧ 0 ≤ 3 by first | exact ⟨by decide, by decide⟩ | omega) (by decide))
  have Fs3 := eqF hs3 (fm_I F (inl_ok (a := 73) rfl))
  have vs3 : iI s3 73 = 0 := eqI hs3 (iI_u (by decide))
  have ws3_97 : iI s3 97 = iI s 97 := eqI hs3 rfl
  have fs3 : Fm [73] [] s s3 := by rw [hs3]; exact fm_I (fm_rf _ _ _) (show 73 ∈ _ by decide)
  have JRLx_s3 : RLx s3 := RLx_fm fs3 (by decide) jRLx
  refine z_aload_n X (x := A 179) rfl (List.Mem.head _) (z_load_n X (x := x) rfl (List.Mem.tail _ (List.Mem.head _)) (z_const X rfl (z_const X rfl (zcS_i0 X E (As := [.int (Int32.ofInt x), .int (Int32.ofInt 1), .int (Int32.ofInt 3)]) (st := [.ref (A 179)]) rfl rfl (k_in G Is3 (by first | exact ⟨p0.1, p0.2⟩ | omega) (by first | exact ⟨by decide, by decide⟩ | omega) (by first | exact ⟨by decide, by decide⟩ | omega)) rfl (Nat.le_of_ble_eq_true rfl) (fun s4 e5 Is4 Fs4 hrs4 hps4 => ?_)))))
  have Gs4 := fm_tq Fs3 Fs4 rfl rfl
  have JRLx_s4 : RLx s4 := RLx_fm Fs4 (by decide) JRLx_s3
  have ws4_73 : iI s4 73 = iI s3 73 := fm_iq Fs4 rfl
  have ws4_97 : iI s4 97 = iI s3 97 := fm_iq Fs4 rfl
  refine z_if_eq X (t := 26) rfl rfl hrs4 (fun g6 => ?_) (fun g6 => ?_)
  ·
    refine z_const X rfl (z_goto X (t := 31) rfl rfl (z_const X rfl (zcV_i0 X E 179 (As := [.int (Int32.ofInt 1), .int (Int32.ofInt 1)]) (st := []) rfl rfl rfl rfl (k_bad G Is4 (by first | exact Or.inr (by decide) | omega) (by first | exact ⟨by decide, by decide⟩ | omega)) rfl (Nat.le_of_ble_eq_true rfl) (fun s7 e8 Is7 Fs7 hrs7 hps7 => ?_))))
    have Gs7 := fm_tq Gs4 Fs7 rfl rfl
    have JRLx_s7 : RLx s7 := RLx_fm Fs7 (by decide) JRLx_s4
    have b9 := bi_73 Is7
    have ws7_97 : iI s7 97 = iI s4 97 := fm_iq Fs7 rfl
    refine z_if_eq X (t := 40) rfl rfl hrs7 (fun g10 => ?_) (fun g10 => ?_)
    ·
      refine z_aload_n X (x := A 179) rfl (List.Mem.head _) (z_getI X 179 rfl (c518_ok rfl) rfl rfl ?_)
      have b11 := bi_97 Is7
      refine z_if_ne X (t := 49) rfl rfl (rng_to _) (fun g12 => ?_) (fun g12 => ?_)
      ·
        refine z_aload_n X (x := A 179) rfl (List.Mem.head _) (zcV_v1 X E 179 (As := []) (st := []) rfl rfl rfl rfl (k_findSets G Is7 JRLx_s7 ) rfl (Nat.le_of_ble_eq_true rfl) (fun s13 Is13 Fs13 JRLx_s13 hps13 => ?_))
        have Gs13 := fm_tq Gs7 Fs13 rfl rfl
        have JRLx_s13 : RLx s13 := RLx_fm Fs13 (by decide) JRLx_s7
        have ws13_73 : iI s13 73 = iI s7 73 := fm_iq Fs13 rfl
        have ws13_97 : iI s13 97 = iI s7 97 := fm_iq Fs13 rfl
        refine z_aload_n X (x := A 179) rfl (List.Mem.head _) (s_getR X 179 rfl (c518_ok rfl) rfl rfl (z_const X rfl (z_const X rfl (z_ast X 264 rfl (c518_ok rfl) rfl (by decide) (show 0 < 8 by decide) (cbig_ok rfl) (wd_gen (fun s15 hs15 => ?_))))))
        have Is15 : Bd s15 := eqB hs15 (bd_C Is13 (show ((-1) : Int) ≤ (-1) ∧ (-1) ≤ 7 by first | exact ⟨by decide, by decide⟩ | omega) (by decide))
        have Fs15 := eqF hs15 (fm_C Gs13 (inl_ok (a := 236) rfl))
        have ws15_73 : iI s15 73 = iI s13 73 := eqI hs15 rfl
        have ws15_97 : iI s15 97 = iI s13 97 := eqI hs15 rfl
        have fs15 : Fm [] [236] s13 s15 := by rw [hs15]; exact fm_C (fm_rf _ _ _) (show 236 ∈ _ by decide)
        have JRLx_s15 : RLx s15 := RLx_fm fs15 (by decide) JRLx_s13
        refine z_aload_n X (x := A 179) rfl (List.Mem.head _) (z_const X rfl (z_const X rfl (z_load_n X (x := x) rfl (List.Mem.tail _ (List.Mem.head _)) (z_callV X 179 (rm := (rkR (12 + 8))) (As := [.int (Int32.ofInt 0), .int (Int32.ofInt 0), .int (Int32.ofInt x)]) (st := []) rfl rfl (by decide) rfl (by rw [E.1, E.2.1, E.2.2.1]; exact k_partsr G 8 Is15 (by first | exact ⟨by decide, oq_0f93fca7 ws15_97 ws13_97 b11.1⟩ | omega) (by first | exact oq_869f4868 ws15_97 ws13_97 b11.2 | omega) (by first | exact ⟨by decide, by decide⟩ | omega) (by first | exact ⟨oq_c74211cc g10 hps7.2.1, oq_f7cc7c47 g10 hps7.2.1⟩ | omega)) ⟨by rw [E.2.2.2]; exact (show 32 + 1 ≤ 38 from oq_7efb0865), by rw [E.2.2.2]; exact (show 8 + (5 + 11) + 1400 ≤ 1601 from oq_2d6821c8), by rw [E.2.2.2]; exact Nat.le_refl 0, by rw [E.2.2.2]; exact Nat.le_refl 0⟩ (Nat.le_of_ble_eq_true rfl) (fun vv s16 hq => ?_) (fun ee s16 hq => ?_)))))
        rotate_left
        · obtain ⟨Is16, Fs16, hv, hps16⟩ := hq; cases hv
        obtain ⟨Is16, Fs16, hv, hps16⟩ := hq
        cases hv
        have Gs16 := fm_tq Fs15 Fs16 rfl rfl
        have JRLx_s16 : RLx s16 := RLx_fm Fs16 (by decide) JRLx_s15
        have ws16_73 : iI s16 73 = iI s15 73 := fm_iq Fs16 rfl
        have ws16_97 : iI s16 97 = iI s15 97 := fm_iq Fs16 rfl
        show WS k 67 [(0, .ref (A 179)), (1, .int (Int32.ofInt x)), (2, .int (Int32.ofInt y))] [] (Wd A dT s16) 0 0
        refine z_aload_n X (x := A 179) rfl (List.Mem.head _) (s_getR X 179 rfl (c518_ok rfl) rfl rfl (z_const X rfl (z_ald X 264 rfl (c518_ok rfl) rfl (by decide) (show 0 < 8 by decide) (cbig_ok rfl) ?_)))
        have b18 := bc_236 Is16 (show (0 : Int).toNat < 8 by first | exact oq_7f42415e | omega)
        refine z_const X rfl (z_icmp_ne X (t := 79) rfl rfl (rng_to _) (by decide) (fun g19 => ?_) (fun g19 => ?_))
        ·
          refine z_load_n X (x := y) rfl (List.Mem.tail _ (List.Mem.tail _ (List.Mem.head _))) (z_const X rfl ?_)
          have N20 : ∀ e21 : Int, (((y ≠ (-1)) ∧ (y ≠ (-2)) ∧ ((0 : Int) ≤ iI s16 97 ∧ iI s16 97 ≤ 8) ∧ ((iI s16 97) ≤ y) ∧ e21 = (-1)) ∨ ((y ≠ (-1)) ∧ (y ≠ (-2)) ∧ ((0 : Int) ≤ iI s16 97 ∧ iI s16 97 ≤ 8) ∧ (y < (iI s16 97)) ∧ (((-1) : Int) ≤ iC s16 236 (y).toNat ∧ iC s16 236 (y).toNat ≤ 7) ∧ e21 = (iC s16 236 (y).toNat)) ∨ ((y ≠ (-1)) ∧ (y = (-2)) ∧ (((-2147483648) : Int) ≤ iI s16 101 ∧ iI s16 101 ≤ 2147483647) ∧ e21 = (iI s16 101)) ∨ ((y = (-1)) ∧ (((-2147483648) : Int) ≤ iI s16 100 ∧ iI s16 100 ≤ 2147483647) ∧ e21 = (iI s16 100))) → WS k 122 [(0, .ref (A 179)), (1, .int (Int32.ofInt x)), (2, .int (Int32.ofInt y))] [.int (Int32.ofInt e21)] (Wd A dT s16) 0 0 := by
            intro e21 he21
            exact w_iret X.1 q hRt rfl (ax_d X (show cdA 263 122 = some (.ireturn, 1, 0, 0, 0) from rfl)) (Nat.zero_le _) (Nat.zero_le _) ⟨_, rfl, Is16, Gs16, JRLx_s16, e21, rfl, ⟨by first | exact oq_4386d538 g10 hps7.2.1 | omega, by first | exact oq_403037f8 g10 hps7.2.1 | omega⟩, trivial⟩
          refine z_icmp_ne X (t := 91) rfl rfl ⟨by first | exact p1.1 | omega, by first | exact p1.2 | omega⟩ (by decide) (fun g22 => ?_) (fun g22 => ?_)
          ·
            refine z_load_n X (x := y) rfl (List.Mem.tail _ (List.Mem.tail _ (List.Mem.head _))) (z_bipush X rfl (z_icmp_ne X (t := 104) rfl rfl ⟨by first | exact p1.1 | omega, by first | exact p1.2 | omega⟩ (by decide) (fun g23 => ?_) (fun g23 => ?_)))
            ·
              refine z_load_n X (x := y) rfl (List.Mem.tail _ (List.Mem.tail _ (List.Mem.head _))) (z_aload_n X (x := A 179) rfl (List.Mem.head _) (z_getI X 179 rfl (c518_ok rfl) rfl rfl ?_))
              have b24 := bi_97 Is16
              refine z_icmp_ge X (t := 121) rfl rfl ⟨by first | exact p1.1 | omega, by first | exact p1.2 | omega⟩ (rng_to _) (fun g25 => ?_) (fun g25 => ?_)
              ·
                exact z_const X rfl (N20 _ (Or.inl ⟨g22, g23, b24, g25, rfl⟩))
              ·
                refine z_aload_n X (x := A 179) rfl (List.Mem.head _) (s_getR X 179 rfl (c518_ok rfl) rfl rfl (z_load_n X (x := y) rfl (List.Mem.tail _ (List.Mem.tail _ (List.Mem.head _))) (z_ald X 264 rfl (c518_ok rfl) rfl (by first | exact oq_65cab3da g10 hps7.2.1 | omega) (show y < 8 by first | exact oq_7f5b2e79 g25 b24.2 | omega) (cbig_ok rfl) ?_)))
                have b26 := bc_236 Is16 (show (y).toNat < 8 by first | exact oq_67be0351 g25 b24.2 | omega)
                exact z_goto X (t := 122) rfl rfl (N20 _ (Or.inr (Or.inl ⟨g22, g23, b24, g25, b26, rfl⟩)))
            ·
              refine z_aload_n X (x := A 179) rfl (List.Mem.head _) (z_getI X 179 rfl (c518_ok rfl) rfl rfl ?_)
              have b27 := bi_101 Is16
              exact z_goto X (t := 122) rfl rfl (N20 _ (Or.inr (Or.inr (Or.inl ⟨g22, g23, b27, rfl⟩))))
          ·
            refine z_aload_n X (x := A 179) rfl (List.Mem.head _) (z_getI X 179 rfl (c518_ok rfl) rfl rfl ?_)
            have b28 := bi_100 Is16
            exact z_goto X (t := 122) rfl rfl (N20 _ (Or.inr (Or.inr (Or.inr (⟨g22, b28, rfl⟩)))))
        ·
          refine z_const X rfl ?_
          exact w_iret X.1 q hRt rfl (ax_d X (show cdA 263 78 = some (.ireturn, 1, 0, 0, 0) from rfl)) (Nat.zero_le _) (Nat.zero_le _) ⟨_, rfl, Is16, Gs16, JRLx_s16, (-1), rfl, (by decide), trivial⟩
      ·
        refine z_const X rfl ?_
        exact w_iret X.1 q hRt rfl (ax_d X (show cdA 263 48 = some (.ireturn, 1, 0, 0, 0) from rfl)) (Nat.zero_le _) (Nat.zero_le _) ⟨_, rfl, Is7, Gs7, JRLx_s7, (-1), rfl, (by decide), trivial⟩
    ·
      refine z_const X rfl ?_
      exact w_iret X.1 q hRt rfl (ax_d X (show cdA 263 39 = some (.ireturn, 1, 0, 0, 0) from rfl)) (Nat.zero_le _) (Nat.zero_le _) ⟨_, rfl, Is7, Gs7, JRLx_s7, 0, rfl, (by decide), trivial⟩
  ·
    refine z_load_n X (x := y) rfl (List.Mem.tail _ (List.Mem.tail _ (List.Mem.head _))) (z_bipush X rfl (z_bipush X rfl (zcS_i0 X E (As := [.int (Int32.ofInt y), .int (Int32.ofInt (-2)), .int (Int32.ofInt 7)]) (st := [.ref (A 179)]) rfl rfl (k_in G Is4 (by first | exact ⟨p1.1, p1.2⟩ | omega) (by first | exact ⟨by decide, by decide⟩ | omega) (by first | exact ⟨by decide, by decide⟩ | omega)) rfl (Nat.le_of_ble_eq_true rfl) (fun s29 e30 Is29 Fs29 hrs29 hps29 => ?_))))
    have Gs29 := fm_tq Gs4 Fs29 rfl rfl
    have JRLx_s29 : RLx s29 := RLx_fm Fs29 (by decide) JRLx_s4
    have ws29_73 : iI s29 73 = iI s4 73 := fm_iq Fs29 rfl
    have ws29_97 : iI s29 97 = iI s4 97 := fm_iq Fs29 rfl
    have N31 : ∀ e32 : Int, (((e30 ≠ 0) ∧ e32 = 0) ∨ ((e30 = 0) ∧ e32 = 1)) → WS k 31 [(0, .ref (A 179)), (1, .int (Int32.ofInt x)), (2, .int (Int32.ofInt y))] [.int (Int32.ofInt e32), .ref (A 179)] (Wd A dT s29) 0 0 := by
      intro e32 he32
      have re32 : 0 ≤ e32 ∧ e32 ≤ 1 := by first | (clear he32 hps29 g6 hps4; omega) | (clear hps29 g6 hps4; omega) | omega
      refine z_const X rfl (zcV_i0 X E 179 (As := [.int (Int32.ofInt e32), .int (Int32.ofInt 1)]) (st := []) rfl rfl rfl rfl (k_bad G Is29 (by first | exact oq_31e518ae re32.2 re32.1 | omega) (by first | exact ⟨by decide, by decide⟩ | omega)) rfl (Nat.le_of_ble_eq_true rfl) (fun s33 e34 Is33 Fs33 hrs33 hps33 => ?_))
      have Gs33 := fm_tq Gs29 Fs33 rfl rfl
      have JRLx_s33 : RLx s33 := RLx_fm Fs33 (by decide) JRLx_s29
      have b35 := bi_73 Is33
      have ws33_97 : iI s33 97 = iI s29 97 := fm_iq Fs33 rfl
      refine z_if_eq X (t := 40) rfl rfl hrs33 (fun g36 => ?_) (fun g36 => ?_)
      ·
        refine z_aload_n X (x := A 179) rfl (List.Mem.head _) (z_getI X 179 rfl (c518_ok rfl) rfl rfl ?_)
        have b37 := bi_97 Is33
        refine z_if_ne X (t := 49) rfl rfl (rng_to _) (fun g38 => ?_) (fun g38 => ?_)
        ·
          refine z_aload_n X (x := A 179) rfl (List.Mem.head _) (zcV_v1 X E 179 (As := []) (st := []) rfl rfl rfl rfl (k_findSets G Is33 JRLx_s33 ) rfl (Nat.le_of_ble_eq_true rfl) (fun s39 Is39 Fs39 JRLx_s39 hps39 => ?_))
          have Gs39 := fm_tq Gs33 Fs39 rfl rfl
          have JRLx_s39 : RLx s39 := RLx_fm Fs39 (by decide) JRLx_s33
          have ws39_73 : iI s39 73 = iI s33 73 := fm_iq Fs39 rfl
          have ws39_97 : iI s39 97 = iI s33 97 := fm_iq Fs39 rfl
          refine z_aload_n X (x := A 179) rfl (List.Mem.head _) (s_getR X 179 rfl (c518_ok rfl) rfl rfl (z_const X rfl (z_const X rfl (z_ast X 264 rfl (c518_ok rfl) rfl (by decide) (show 0 < 8 by decide) (cbig_ok rfl) (wd_gen (fun s41 hs41 => ?_))))))
          have Is41 : Bd s41 := eqB hs41 (bd_C Is39 (show ((-1) : Int) ≤ (-1) ∧ (-1) ≤ 7 by first | exact ⟨by decide, by decide⟩ | omega) (by decide))
          have Fs41 := eqF hs41 (fm_C Gs39 (inl_ok (a := 236) rfl))
          have ws41_73 : iI s41 73 = iI s39 73 := eqI hs41 rfl
          have ws41_97 : iI s41 97 = iI s39 97 := eqI hs41 rfl
          have fs41 : Fm [] [236] s39 s41 := by rw [hs41]; exact fm_C (fm_rf _ _ _) (show 236 ∈ _ by decide)
          have JRLx_s41 : RLx s41 := RLx_fm fs41 (by decide) JRLx_s39
          refine z_aload_n X (x := A 179) rfl (List.Mem.head _) (z_const X rfl (z_const X rfl (z_load_n X (x := x) rfl (List.Mem.tail _ (List.Mem.head _)) (z_callV X 179 (rm := (rkR (12 + 8))) (As := [.int (Int32.ofInt 0), .int (Int32.ofInt 0), .int (Int32.ofInt x)]) (st := []) rfl rfl (by decide) rfl (by rw [E.1, E.2.1, E.2.2.1]; exact k_partsr G 8 Is41 (by first | exact ⟨by decide, oq_0f93fca7 ws41_97 ws39_97 b37.1⟩ | omega) (by first | exact oq_869f4868 ws41_97 ws39_97 b37.2 | omega) (by first | exact ⟨by decide, by decide⟩ | omega) (by first | exact ⟨oq_ce6c459a g6 hps4, oq_3bba0cb6 g6 hps4⟩ | omega)) ⟨by rw [E.2.2.2]; exact (show 32 + 1 ≤ 38 from oq_7efb0865), by rw [E.2.2.2]; exact (show 8 + (5 + 11) + 1400 ≤ 1601 from oq_2d6821c8), by rw [E.2.2.2]; exact Nat.le_refl 0, by rw [E.2.2.2]; exact Nat.le_refl 0⟩ (Nat.le_of_ble_eq_true rfl) (fun vv s42 hq => ?_) (fun ee s42 hq => ?_)))))
          rotate_left
          · obtain ⟨Is42, Fs42, hv, hps42⟩ := hq; cases hv
          obtain ⟨Is42, Fs42, hv, hps42⟩ := hq
          cases hv
          have Gs42 := fm_tq Fs41 Fs42 rfl rfl
          have JRLx_s42 : RLx s42 := RLx_fm Fs42 (by decide) JRLx_s41
          have ws42_73 : iI s42 73 = iI s41 73 := fm_iq Fs42 rfl
          have ws42_97 : iI s42 97 = iI s41 97 := fm_iq Fs42 rfl
          show WS k 67 [(0, .ref (A 179)), (1, .int (Int32.ofInt x)), (2, .int (Int32.ofInt y))] [] (Wd A dT s42) 0 0
          refine z_aload_n X (x := A 179) rfl (List.Mem.head _) (s_getR X 179 rfl (c518_ok rfl) rfl rfl (z_const X rfl (z_ald X 264 rfl (c518_ok rfl) rfl (by decide) (show 0 < 8 by decide) (cbig_ok rfl) ?_)))
          have b44 := bc_236 Is42 (show (0 : Int).toNat < 8 by first | exact oq_7f42415e | omega)
          refine z_const X rfl (z_icmp_ne X (t := 79) rfl rfl (rng_to _) (by decide) (fun g45 => ?_) (fun g45 => ?_))
          ·
            refine z_load_n X (x := y) rfl (List.Mem.tail _ (List.Mem.tail _ (List.Mem.head _))) (z_const X rfl ?_)
            have N46 : ∀ e47 : Int, (((y ≠ (-1)) ∧ (y ≠ (-2)) ∧ ((0 : Int) ≤ iI s42 97 ∧ iI s42 97 ≤ 8) ∧ ((iI s42 97) ≤ y) ∧ e47 = (-1)) ∨ ((y ≠ (-1)) ∧ (y ≠ (-2)) ∧ ((0 : Int) ≤ iI s42 97 ∧ iI s42 97 ≤ 8) ∧ (y < (iI s42 97)) ∧ (((-1) : Int) ≤ iC s42 236 (y).toNat ∧ iC s42 236 (y).toNat ≤ 7) ∧ e47 = (iC s42 236 (y).toNat)) ∨ ((y ≠ (-1)) ∧ (y = (-2)) ∧ (((-2147483648) : Int) ≤ iI s42 101 ∧ iI s42 101 ≤ 2147483647) ∧ e47 = (iI s42 101)) ∨ ((y = (-1)) ∧ (((-2147483648) : Int) ≤ iI s42 100 ∧ iI s42 100 ≤ 2147483647) ∧ e47 = (iI s42 100))) → WS k 122 [(0, .ref (A 179)), (1, .int (Int32.ofInt x)), (2, .int (Int32.ofInt y))] [.int (Int32.ofInt e47)] (Wd A dT s42) 0 0 := by
              intro e47 he47
              exact w_iret X.1 q hRt rfl (ax_d X (show cdA 263 122 = some (.ireturn, 1, 0, 0, 0) from rfl)) (Nat.zero_le _) (Nat.zero_le _) ⟨_, rfl, Is42, Gs42, JRLx_s42, e47, rfl, ⟨by first | exact oq_2e6f89e7 he47 | omega, by first | exact oq_30d08da3 he47 | omega⟩, trivial⟩
            refine z_icmp_ne X (t := 91) rfl rfl ⟨by first | exact p1.1 | omega, by first | exact p1.2 | omega⟩ (by decide) (fun g48 => ?_) (fun g48 => ?_)
            ·
              refine z_load_n X (x := y) rfl (List.Mem.tail _ (List.Mem.tail _ (List.Mem.head _))) (z_bipush X rfl (z_icmp_ne X (t := 104) rfl rfl ⟨by first | exact p1.1 | omega, by first | exact p1.2 | omega⟩ (by decide) (fun g49 => ?_) (fun g49 => ?_)))
              ·
                refine z_load_n X (x := y) rfl (List.Mem.tail _ (List.Mem.tail _ (List.Mem.head _))) (z_aload_n X (x := A 179) rfl (List.Mem.head _) (z_getI X 179 rfl (c518_ok rfl) rfl rfl ?_))
                have b50 := bi_97 Is42
                refine z_icmp_ge X (t := 121) rfl rfl ⟨by first | exact p1.1 | omega, by first | exact p1.2 | omega⟩ (rng_to _) (fun g51 => ?_) (fun g51 => ?_)
                ·
                  exact z_const X rfl (N46 _ (Or.inl ⟨g48, g49, b50, g51, rfl⟩))
                ·
                  refine z_aload_n X (x := A 179) rfl (List.Mem.head _) (s_getR X 179 rfl (c518_ok rfl) rfl rfl (z_load_n X (x := y) rfl (List.Mem.tail _ (List.Mem.tail _ (List.Mem.head _))) (z_ald X 264 rfl (c518_ok rfl) rfl (by first | exact oq_872438c8 g49 g48 g36 hps33.2.1 re32.2 he32 hps29 | omega) (show y < 8 by first | exact oq_7f5b2e79 g51 b50.2 | omega) (cbig_ok rfl) ?_)))
                  have b52 := bc_236 Is42 (show (y).toNat < 8 by first | exact oq_67be0351 g51 b50.2 | omega)
                  exact z_goto X (t := 122) rfl rfl (N46 _ (Or.inr (Or.inl ⟨g48, g49, b50, g51, b52, rfl⟩)))
              ·
                refine z_aload_n X (x := A 179) rfl (List.Mem.head _) (z_getI X 179 rfl (c518_ok rfl) rfl rfl ?_)
                have b53 := bi_101 Is42
                exact z_goto X (t := 122) rfl rfl (N46 _ (Or.inr (Or.inr (Or.inl ⟨g48, g49, b53, rfl⟩))))
            ·
              refine z_aload_n X (x := A 179) rfl (List.Mem.head _) (z_getI X 179 rfl (c518_ok rfl) rfl rfl ?_)
              have b54 := bi_100 Is42
              exact z_goto X (t := 122) rfl rfl (N46 _ (Or.inr (Or.inr (Or.inr (⟨g48, b54, rfl⟩)))))
          ·
            refine z_const X rfl ?_
            exact w_iret X.1 q hRt rfl (ax_d X (show cdA 263 78 = some (.ireturn, 1, 0, 0, 0) from rfl)) (Nat.zero_le _) (Nat.zero_le _) ⟨_, rfl, Is42, Gs42, JRLx_s42, (-1), rfl, (by decide), trivial⟩
        ·
          refine z_const X rfl ?_
          exact w_iret X.1 q hRt rfl (ax_d X (show cdA 263 48 = some (.ireturn, 1, 0, 0, 0) from rfl)) (Nat.zero_le _) (Nat.zero_le _) ⟨_, rfl, Is33, Gs33, JRLx_s33, (-1), rfl, (by decide), trivial⟩
      ·
        refine z_const X rfl ?_
        exact w_iret X.1 q hRt rfl (ax_d X (show cdA 263 39 = some (.ireturn, 1, 0, 0, 0) from rfl)) (Nat.zero_le _) (Nat.zero_le _) ⟨_, rfl, Is33, Gs33, JRLx_s33, 0, rfl, (by decide), trivial⟩
    refine z_if_ne X (t := 30) rfl rfl hrs29 (fun g55 => ?_) (fun g55 => ?_)
    ·
      exact z_const X rfl (N31 _ (Or.inl ⟨g55, rfl⟩))
    ·
      exact z_const X rfl (z_goto X (t := 31) rfl rfl (N31 _ (Or.inr (⟨g55, rfl⟩))))
end M59
