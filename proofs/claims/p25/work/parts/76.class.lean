theorem oq_e36c8877 {a0 a1 a2 : Int} (h0 : ((a0 = a1 ∧ a2 ≤ a1) ∨ (a0 = a2 ∧ a1 < a2))) (h1 : a2 ≤ 2147483647) (h2 : a1 ≤ 2147483647) (h3 : (-2147483648) ≤ a1) : ((-2147483648) ≤ a0 ∧ a0 ≤ 2147483647) := by omega
theorem oq_300cfc0a {a0 a1 : Int} (h0 : a0 ≤ a1) (h1 : a1 ≤ 3) : a0 ≤ 3 := by omega
theorem oq_8067230e : 7 + 1 ≤ (12 + (12 + (0))) := by omega
theorem oq_f178cd33 : 8 + (6 + 11) + 121 ≤ (500 + 45 * (12 + (0))) := by omega
theorem oq_f647a1c7 {a0 a1 : Int} (h0 : a0 ≤ a1) (h1 : a1 ≤ 3) : a0 ≤ 2147483647 := by omega
theorem oq_ae749fef (r : Nat) : 7 + 1 ≤ (12 + (12 + (r + 1))) := by omega
theorem oq_7e2d2a8e (r : Nat) : 8 + (6 + 11) + 121 ≤ (500 + 45 * (12 + (r + 1))) := by omega
theorem oq_475ba1bc : 32 + 1 ≤ 33 := by omega
theorem oq_a1d4c57c : 8 + (5 + 11) + 1400 ≤ 1424 := by omega
/-! The class: joins, region -/
section M76
variable {l : Launch} {s0 : State} {D : va_G} {tys : List (ClassId × FieldType)} {a0 : Array Value} {A : Nat → Nat} {dT : Nat → ClassId} {s : PS}
set_option maxRecDepth 4000 in
theorem c7_joinsHold_19 (G : GX l s0 D tys a0 dT) (I : Bd s) (p0 : iI s 12 ≤ 8) : CT l s0 D A dT 83 (rmN 83) [.ref (A 19), .ref (A 39)] s (fun o t => Bd t ∧ Fm [] [20] s t ∧ ∃ e, o = .inl (some (.int (Int32.ofInt e))) ∧ rng e ∧ (e = 0 ∨ e = 1)) := by
  refine ct_ofX G (by decide) (Nat.le_of_ble_eq_true rfl) (fun k X E ET hRt hXt q => ?_)
  show WS k 0 [(0, .ref (A 19)), (1, .ref (A 39))] [] _ 0 0
  have F : Fm [] [20] s s := fm_rf _ _ s
  have b1 := bi_12 I
  have L2 : ∀ (n : Nat) (t : PS) (c : Int), Bd t → Fm [] [20] s t → (0 ≤ c ∧ c ≤ 8 ∧ iI t 12 ≤ 8) → (8 - c : Int).toNat < n → (∀ (t' : PS) (c' : Int), Bd t' → Fm [] [20] s t' → (0 ≤ c' ∧ c' ≤ 8 ∧ iI t' 12 ≤ 8) → WS k 38 [(0, .ref (A 19)), (1, .ref (A 39)), (2, .int (Int32.ofInt c'))] [] (Wd A dT t') 0 0) → WS k 2 [(0, .ref (A 19)), (1, .ref (A 39)), (2, .int (Int32.ofInt c))] [] (Wd A dT t) 0 0 := by
    intro n
    induction n with
    | zero =>
      intro t c I F hi hm kx
      exact absurd hm (Nat.not_lt_zero _)
    | succ n ih =>
      intro t c I F hi hm kx
      have b1001 := bi_12 I
      refine z_load_n X (x := c) rfl (List.Mem.tail _ (List.Mem.tail _ (List.Mem.head _))) (z_aload_n X (x := A 19) rfl (List.Mem.head _) (z_getI X 19 rfl (c518_ok rfl) rfl rfl ?_))
      have b1002 := bi_12 I
      refine z_icmp_ge X (t := 38) rfl rfl ⟨by first | exact oq_fa4e5087 hi.1 | omega, by first | exact oq_d3f5d874 hi.2.1 | omega⟩ (rng_to _) (fun g1003 => ?_) (fun g1003 => ?_)
      ·
        refine WS_pq [0, 1, 2] (lv' := [(0, .ref (A 19)), (1, .ref (A 39)), (2, .int (Int32.ofInt c))]) rfl ?_
        exact kx _ c I F (by first | exact ⟨hi.1, hi.2.1, hi.2.2⟩ | omega)
      ·
        refine z_aload_n X (x := A 19) rfl (List.Mem.head _) (z_getI X 19 rfl (c518_ok rfl) rfl rfl ?_)
        have b1004 := bi_14 I
        refine z_load_n X (x := c) rfl (List.Mem.tail _ (List.Mem.tail _ (List.Mem.head _))) (z_bshr X rfl (z_any (fun y1005 hy1005 => ?_)))
        refine z_const X rfl (z_band X rfl (z_any (fun y1006 hy1006 => ?_)))
        refine z_if_eq X (t := 32) rfl rfl hy1006 (fun g1007 => ?_) (fun g1007 => ?_)
        ·
          refine z_inc X (x := c) (lv' := [(2, .int (Int32.ofInt (c + 1))), (0, .ref (A 19)), (1, .ref (A 39))]) rfl (by decide) (List.Mem.tail _ (List.Mem.tail _ (List.Mem.head _))) (fun _ h => h) (z_goto X (t := 2) rfl rfl (WS_pq [1, 2, 0] (lv' := [(0, .ref (A 19)), (1, .ref (A 39)), (2, .int (Int32.ofInt (c + 1)))]) rfl ?_))
          exact ih _ (c + 1) I F (by first | exact ⟨oq_54f49eb5 hi.1, oq_f6204d84 g1003 hi.2.2, hi.2.2⟩ | omega) (by first | exact qk_me hm (by decide) (oq_ccc5e5e0 g1003 hi.2.2) | omega) kx
        ·
          refine z_aload_n X (x := A 19) rfl (List.Mem.head _) (z_load_n X (x := c) rfl (List.Mem.tail _ (List.Mem.tail _ (List.Mem.head _))) (z_aload_n X (x := A 39) rfl (List.Mem.tail _ (List.Mem.head _)) (zcV_i0 X E 19 (As := [.int (Int32.ofInt c), .ref (A 39)]) (st := []) rfl rfl rfl rfl (c7_work_31 G I (by first | exact ⟨oq_ca54ea22 hi.1, oq_e297cd40 g1003 hi.2.2⟩ | omega)) rfl (Nat.le_of_ble_eq_true rfl) (fun s1008 e1009 Is1008 Fs1008 hrs1008 hps1008 => ?_))))
          have Gs1008 := fm_tq F Fs1008 rfl rfl
          have ws1008_12 : iI s1008 12 = iI t 12 := fm_iq Fs1008 rfl
          refine z_if_ne X (t := 32) rfl rfl hrs1008 (fun g1010 => ?_) (fun g1010 => ?_)
          ·
            refine z_inc X (x := c) (lv' := [(2, .int (Int32.ofInt (c + 1))), (0, .ref (A 19)), (1, .ref (A 39))]) rfl (by decide) (List.Mem.tail _ (List.Mem.tail _ (List.Mem.head _))) (fun _ h => h) (z_goto X (t := 2) rfl rfl (WS_pq [1, 2, 0] (lv' := [(0, .ref (A 19)), (1, .ref (A 39)), (2, .int (Int32.ofInt (c + 1)))]) rfl ?_))
            exact ih _ (c + 1) Is1008 Gs1008 (by first | exact ⟨oq_54f49eb5 hi.1, oq_f6204d84 g1003 hi.2.2, oq_86ef0b17 ws1008_12 hi.2.2⟩ | omega) (by first | exact qk_me hm (by decide) (oq_ccc5e5e0 g1003 hi.2.2) | omega) kx
          ·
            refine z_const X rfl ?_
            exact w_iret X.1 q hRt (nar_ret (by first | exact Or.inl (by decide) | omega)) (ax_d X (show cdA 83 31 = some (.ireturn, 1, 0, 0, 0) from rfl)) (Nat.zero_le _) (Nat.zero_le _) ⟨_, rfl, Is1008, Gs1008, 0, rfl, (by decide), by first | exact Or.inl (by decide) | omega⟩
  refine z_const X rfl (z_store_n X (lv' := [(2, .int (Int32.ofInt 0)), (0, .ref (A 19)), (1, .ref (A 39))]) rfl (by decide) (fun _ h => h) (WS_pq [1, 2, 0] (lv' := [(0, .ref (A 19)), (1, .ref (A 39)), (2, .int (Int32.ofInt 0))]) rfl (L2 ((8 - 0 : Int).toNat + 1) s 0 I F (by first | exact ⟨by decide, by decide, p0⟩ | omega) (Nat.lt_succ_self _) ?_)))
  intro s2 x3 Is2 Fs2 hs2
  have b4 := bi_12 Is2
  refine z_const X rfl ?_
  exact w_iret X.1 q hRt (nar_ret (by first | exact Or.inr (by decide) | omega)) (ax_d X (show cdA 83 39 = some (.ireturn, 1, 0, 0, 0) from rfl)) (Nat.zero_le _) (Nat.zero_le _) ⟨_, rfl, Is2, Fs2, 1, rfl, (by decide), by first | exact Or.inr (by decide) | omega⟩
end M76
