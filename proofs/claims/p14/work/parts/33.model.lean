theorem oq_d1028203 {a0 : Int} (h0 : a0 ≤ 20) : a0 ≤ 2147483647 := by omega
theorem oq_17475ac8 {a0 a1 a2 : Int} (h0 : a0 = (a1 + a2)) (h1 : a2 ≤ 20) (h2 : 20 ≤ a2) : a0 = (a1 + 20) := by omega
theorem oq_c3313697 {a0 : Int} (h0 : a0 < 20) : a0 ≤ 2147483647 := by omega
theorem oq_ae322fb4 {a0 a1 a2 : Int} (h0 : a0 = (a1 + a2)) (h1 : a1 ≤ 180) (h2 : a2 < 20) : a0 < 200 := by omega
theorem oq_4567a937 {a0 : Int} (h0 : a0 ≤ 255) : a0 ≤ 2147483647 := by omega
theorem oq_e59c0308 {a0 a1 a2 a3 : Int} (h0 : a0 = a1) (h1 : a1 = (a2 + a3)) (h2 : a2 ≤ 180) (h3 : a3 < 20) : (a0 + 1) ≤ 200 := by omega
theorem oq_bb8d498d {a0 : Int} (h0 : a0 ≤ 200) : (a0 + 1) ≤ 2147483647 := by omega
theorem oq_34835694 {a0 : Int} (h0 : a0 < 20) : (a0 + 1) ≤ 20 := by omega
theorem oq_cb7deedc {a0 a1 a2 a3 a4 : Int} (h0 : a0 = (a1 + 1)) (h1 : a2 = (a3 + a4)) (h2 : a1 = a2) : a0 = (a3 + (a4 + 1)) := by omega
theorem oq_53ce64b9 {a0 : Int} (h0 : a0 < 20) : 0 < (20 - a0) := by omega
theorem oq_866185f5 {a0 : Int} (h0 : 4 ≤ a0) : (-2147483648) ≤ a0 := by omega
theorem oq_f1d511b8 {a0 : Int} (h0 : 12 ≤ a0) : (-2147483648) ≤ a0 := by omega
theorem oq_0de1c162 {a0 : Int} (h0 : 0 ≤ a0) : (-2147483648) ≤ (a0 + 20) := by omega
theorem oq_ed776728 {a0 : Int} (h0 : a0 ≤ 200) : (a0 + 20) ≤ 2147483647 := by omega
theorem oq_ec17a77e {a0 a1 : Int} (h0 : a0 = a1) : a0 = (a1 + 0) := by omega
theorem oq_2ec15ebf {a0 a1 : Int} (h0 : a0 = a1) (h1 : (a0 + 20) ≤ 200) : a1 ≤ 180 := by omega
theorem oq_dae52d74 {a0 a1 : Int} (h0 : a0 = a1) (h1 : 200 < (a0 + 20)) : 180 < a1 := by omega
theorem oq_d526ebd3 {a0 : Int} (h0 : a0 ≤ 12) : (a0 - 1) ≤ 2147483647 := by omega
theorem oq_ed86839e {a0 a1 : Int} (h0 : a0 ≠ 0) (h1 : ((a0 = 1 ∧ (0 ≤ a1 ∧ a1 ≤ 2)) ∨ (a0 = 0 ∧ (a1 < 0 ∨ 2 < a1)))) : 0 ≤ a1 := by omega
theorem oq_1e4f7caf {a0 a1 : Int} (h0 : a0 ≠ 0) (h1 : ((a0 = 1 ∧ (0 ≤ a1 ∧ a1 ≤ 2)) ∨ (a0 = 0 ∧ (a1 < 0 ∨ 2 < a1)))) : a1 ≤ 2 := by omega
theorem oq_8280ce40 {a0 a1 a2 a3 a4 : Int} (h0 : a0 = 0) (h1 : (a1 = 1 → a0 = 1)) (h2 : a1 ≤ 1) (h3 : ((a2 ≠ 0 ∧ a1 = 0) ∨ (a2 = 0 ∧ a1 = 1))) (h4 : ((a2 = 1 ∧ (0 ≤ a3 ∧ a3 ≤ (a4 - 1))) ∨ (a2 = 0 ∧ (a3 < 0 ∨ (a4 - 1) < a3)))) : 0 ≤ a3 := by omega
theorem oq_0332e1ab {a0 : Int} (h0 : a0 ≤ 24) : (a0 - 1) ≤ 2147483647 := by omega
theorem oq_5dfe5e68 {a0 a1 a2 : Int} (h0 : a0 ≠ 0) (h1 : ((a0 = 1 ∧ (0 ≤ a1 ∧ a1 ≤ (a2 - 1))) ∨ (a0 = 0 ∧ (a1 < 0 ∨ (a2 - 1) < a1)))) : 0 ≤ a1 := by omega
theorem oq_6c39bb95 {a0 a1 a2 : Int} (h0 : a0 ≠ 0) (h1 : ((a0 = 1 ∧ (0 ≤ a1 ∧ a1 ≤ (a2 - 1))) ∨ (a0 = 0 ∧ (a1 < 0 ∨ (a2 - 1) < a1)))) (h2 : a2 ≤ 24) : a1 < 24 := by omega
theorem oq_76eef144 {a0 a1 a2 : Int} (h0 : a0 ≠ 0) (h1 : ((a0 = 1 ∧ (0 ≤ a1 ∧ a1 ≤ (a2 - 1))) ∨ (a0 = 0 ∧ (a1 < 0 ∨ (a2 - 1) < a1)))) (h2 : a2 ≤ 24) : (a1 : Int).toNat < 24 := by omega
theorem oq_1a42ef34 {a0 : Int} (h0 : a0 ≤ 23) : a0 ≤ 2147483647 := by omega
theorem oq_0ddfcfee {a0 : Int} (h0 : a0 ≤ 11) : a0 < 12 := by omega
theorem oq_9c5fa447 {a0 : Int} (h0 : a0 ≤ 11) : (a0 : Int).toNat < 12 := by omega
theorem oq_c5e79f47 {a0 a1 : Int} (h0 : a0 ≤ a1) (h1 : a1 ≤ 23) : a0 < 24 := by omega
theorem oq_cbe526b3 {a0 : Int} (h0 : a0 ≤ 50) : a0 ≤ 2147483647 := by omega
theorem oq_3f5436dc {a0 a1 : Int} (h0 : a0 ≤ a1) (h1 : a1 ≤ 23) : (a0 + 1) ≤ 24 := by omega
theorem oq_416f5e90 {a0 a1 : Int} (h0 : a0 ≤ a1) (h1 : a1 ≤ 23) : 0 < (24 - a0) := by omega
theorem oq_895647ec {a0 a1 : Int} (h0 : a0 = 0) (h1 : (1 = 1 → a0 = 1)) : (0 ≤ a1 ∧ a1 ≤ 23) := by omega
theorem oq_0159bb48 {a0 a1 : Int} (h0 : a0 ≠ 0) (h1 : ((a0 = 1 ∧ (0 ≤ a1 ∧ a1 ≤ 23)) ∨ (a0 = 0 ∧ (a1 < 0 ∨ 23 < a1)))) : 0 ≤ a1 := by omega
theorem oq_f518633a {a0 a1 : Int} (h0 : a0 ≠ 0) (h1 : ((a0 = 1 ∧ (0 ≤ a1 ∧ a1 ≤ 23)) ∨ (a0 = 0 ∧ (a1 < 0 ∨ 23 < a1)))) : a1 ≤ 24 := by omega
theorem oq_71c16c0e {a0 a1 a2 a3 : Int} (h0 : a0 < a1) (h1 : a2 ≠ 0) (h2 : ((a2 = 1 ∧ (0 ≤ a0 ∧ a0 ≤ 23)) ∨ (a2 = 0 ∧ (a0 < 0 ∨ 23 < a0)))) (h3 : a3 ≠ 0) (h4 : ((a3 = 1 ∧ (0 ≤ a1 ∧ a1 ≤ 23)) ∨ (a3 = 0 ∧ (a1 < 0 ∨ 23 < a1)))) : (0 ≤ a0 ∧ a0 ≤ 23) := by omega
theorem oq_043ce32e {a0 a1 a2 : Int} (h0 : a0 < a1) (h1 : a2 ≠ 0) (h2 : ((a2 = 1 ∧ (0 ≤ a0 ∧ a0 ≤ 23)) ∨ (a2 = 0 ∧ (a0 < 0 ∨ 23 < a0)))) : 0 ≤ a1 := by omega
theorem oq_e5a089c2 {a0 a1 : Int} (h0 : a0 ≠ 0) (h1 : ((a0 = 1 ∧ (0 ≤ a1 ∧ a1 ≤ 23)) ∨ (a0 = 0 ∧ (a1 < 0 ∨ 23 < a1)))) : (0 ≤ a1 ∧ a1 ≤ 23) := by omega
theorem oq_f81b6609 {a0 : Int} (h0 : (-2) ≤ a0) : (-2147483648) ≤ a0 := by omega
theorem oq_9e7d853b {a0 : Int} (h0 : a0 ≤ 26) : a0 ≤ 2147483647 := by omega
theorem oq_34aac425 {a0 a1 : Int} (h0 : 0 ≤ a0) (h1 : 0 ≤ a1) : (-2147483648) ≤ (a0 + a1) := by omega
theorem oq_b5a47671 {a0 a1 : Int} (h0 : a0 ≤ 23) (h1 : a1 ≤ 2) : (a0 + a1) ≤ 2147483647 := by omega
theorem oq_826c3458 {a0 : Int} (h0 : (-2) ≤ a0) : (-2) ≤ (a0 + 1) := by omega
theorem oq_78fc2d48 {a0 a1 a2 : Int} (h0 : a0 ≤ (a1 + a2)) (h1 : a1 ≤ 23) (h2 : a2 ≤ 2) : (a0 + 1) ≤ 26 := by omega
theorem oq_5c7f6a1c {a0 a1 a2 : Int} (h0 : a0 ≤ (a1 + a2)) (h1 : a1 ≤ 23) (h2 : a2 ≤ 2) : 0 < (26 - a0) := by omega
theorem oq_127752ee {a0 a1 : Int} (h0 : a0 ≠ 0) (h1 : ((a0 = 1 ∧ (0 ≤ a1 ∧ a1 ≤ 23)) ∨ (a0 = 0 ∧ (a1 < 0 ∨ 23 < a1)))) : a1 < 24 := by omega
theorem oq_200d9360 {a0 a1 : Int} (h0 : a0 ≠ 0) (h1 : ((a0 = 1 ∧ (0 ≤ a1 ∧ a1 ≤ 23)) ∨ (a0 = 0 ∧ (a1 < 0 ∨ 23 < a1)))) : (a1 : Int).toNat < 24 := by omega
theorem oq_15fc5886 {a0 a1 : Int} (h0 : 0 ≤ a0) (h1 : a1 ≤ 2) : (-2) ≤ (a0 - a1) := by omega
theorem oq_0fb31b58 {a0 a1 : Int} (h0 : a0 ≤ 23) (h1 : 0 ≤ a1) : (a0 - a1) ≤ 26 := by omega
theorem oq_4c4e29f5 {a0 a1 a2 a3 : Int} (h0 : a0 = 0) (h1 : (a1 = 1 → a0 = 1)) (h2 : a1 ≤ 1) (h3 : ((a2 ≠ 0 ∧ a1 = 0) ∨ (a2 = 0 ∧ a1 = 1))) (h4 : ((a2 = 1 ∧ (0 ≤ a3 ∧ a3 ≤ 23)) ∨ (a2 = 0 ∧ (a3 < 0 ∨ 23 < a3)))) : 0 ≤ a3 := by omega
theorem oq_3a13f1ce {a0 a1 a2 a3 : Int} (h0 : a0 = 0) (h1 : (a1 = 1 → a0 = 1)) (h2 : a1 ≤ 1) (h3 : ((a2 ≠ 0 ∧ a1 = 0) ∨ (a2 = 0 ∧ a1 = 1))) (h4 : ((a2 = 1 ∧ (0 ≤ a3 ∧ a3 ≤ 23)) ∨ (a2 = 0 ∧ (a3 < 0 ∨ 23 < a3)))) : a3 ≤ 23 := by omega
theorem oq_78843a64 {a0 : Int} (h0 : a0 ≤ 12) : a0 ≤ 2147483647 := by omega
theorem oq_e4d7f3c5 {a0 a1 : Int} (h0 : a0 < a1) (h1 : a1 ≤ 12) : a0 ≤ 11 := by omega
theorem oq_f36e82a8 {a0 a1 : Int} (h0 : a0 < a1) (h1 : a1 ≤ 12) : a0 < 12 := by omega
theorem oq_4dae995e {a0 a1 : Int} (h0 : a0 < a1) (h1 : a1 ≤ 12) : (a0 + 1) ≤ 12 := by omega
theorem oq_b575e8c1 {a0 a1 : Int} (h0 : a0 < a1) (h1 : a1 ≤ 12) : 0 < (12 - a0) := by omega
/-! The model: feed and its like -/
section M33
variable {l : Launch} {s0 : State} {D : va_G} {tys : List (ClassId × FieldType)} {a0 : Array Value} {A : Nat → Nat} {dT : Nat → ClassId} {s : PS}
theorem k_mostOf (G : GX l s0 D tys a0 dT) (I : Bd s) {x y : Int} (p0 : 0 ≤ x ∧ x ≤ 11) (p1 : 0 ≤ y ∧ y ≤ 23) : CT l s0 D A dT 220 (rmN 220) [.ref (A 179), .int (Int32.ofInt x), .int (Int32.ofInt y)] s (fun o t => Bd t ∧ Fm [] [] s t ∧ ∃ e, o = .inl (some (.int (Int32.ofInt e))) ∧ rng e ∧ (0 ≤ e ∧ e ≤ 50)) := by
  refine ct_of G (by decide) (Nat.le_of_ble_eq_true rfl) (fun k X E hRt hXt q => ?_)
  show WS k 0 [(0, .ref (A 179)), (1, .int (Int32.ofInt x)), (2, .int (Int32.ofInt y))] [] _ 0 0
  have F : Fm [] [] s s := fm_rf _ _ s
  have L12 : ∀ (n : Nat) (t : PS) (xv yv nv c : Int), Bd t → Fm [] [] s t → ((0 ≤ xv ∧ xv ≤ 11) ∧ (0 ≤ yv ∧ yv ≤ 23) ∧ (0 ≤ nv ∧ nv ≤ 50) ∧ -2 ≤ c ∧ c ≤ 26) → (26 - c : Int).toNat < n → (∀ (t' : PS) (xv' yv' nv' c' : Int), Bd t' → Fm [] [] s t' → ((0 ≤ xv' ∧ xv' ≤ 11) ∧ (0 ≤ yv' ∧ yv' ≤ 23) ∧ (0 ≤ nv' ∧ nv' ≤ 50) ∧ -2 ≤ c' ∧ c' ≤ 26) → WS k 65 [(0, .ref (A 179)), (1, .int (Int32.ofInt xv')), (2, .int (Int32.ofInt yv')), (3, .int (Int32.ofInt nv')), (4, .int (Int32.ofInt c'))] [] (Wd A dT t') 0 0) → WS k 12 [(0, .ref (A 179)), (1, .int (Int32.ofInt xv)), (2, .int (Int32.ofInt yv)), (3, .int (Int32.ofInt nv)), (4, .int (Int32.ofInt c))] [] (Wd A dT t) 0 0 := by
    intro n
    induction n with
    | zero =>
      intro t xv yv nv c I F hi hm kx
      exact absurd hm (Nat.not_lt_zero _)
    | succ n ih =>
      intro t xv yv nv c I F hi hm kx
      refine z_load X (x := c) rfl (List.Mem.tail _ (List.Mem.tail _ (List.Mem.tail _ (List.Mem.tail _ (List.Mem.head _))))) (z_load_n X (x := yv) rfl (List.Mem.tail _ (List.Mem.tail _ (List.Mem.head _))) (z_aload_n X (x := A 179) rfl (List.Mem.head _) (s_getR X 179 rfl (c518_ok rfl) rfl rfl (z_load_n X (x := xv) rfl (List.Mem.tail _ (List.Mem.head _)) (z_ald X 186 rfl (c518_ok rfl) rfl (by first | exact hi.1.1 | omega) (show xv < 12 by first | exact oq_0ddfcfee hi.1.2 | omega) (cbig_ok rfl) ?_)))))
      have b1001 := bc_163 I (show (xv).toNat < 12 by first | exact oq_9c5fa447 hi.1.2 | omega)
      refine z_add X rfl (z_icmp_gt X (t := 65) rfl rfl ⟨by first | exact oq_f81b6609 hi.2.2.2.1 | omega, by first | exact oq_9e7d853b hi.2.2.2.2 | omega⟩ ⟨by first | exact oq_34aac425 hi.2.1.1 b1001.1 | omega, by first | exact oq_b5a47671 hi.2.1.2 b1001.2 | omega⟩ (fun g1002 => ?_) (fun g1002 => ?_))
      ·
        refine WS_pq [0, 1, 2, 3, 4] (lv' := [(0, .ref (A 179)), (1, .int (Int32.ofInt xv)), (2, .int (Int32.ofInt yv)), (3, .int (Int32.ofInt nv)), (4, .int (Int32.ofInt c))]) rfl ?_
        exact kx _ xv yv nv c I F (by first | exact ⟨And.intro (hi.1.1) (hi.1.2), And.intro (hi.2.1.1) (hi.2.1.2), And.intro (hi.2.2.1.1) (hi.2.2.1.2), hi.2.2.2.1, hi.2.2.2.2⟩ | omega)
      ·
        refine z_load X (x := c) rfl (List.Mem.tail _ (List.Mem.tail _ (List.Mem.tail _ (List.Mem.tail _ (List.Mem.head _))))) (z_const X rfl (z_bipush X rfl (zcS_i0 X E (As := [.int (Int32.ofInt c), .int (Int32.ofInt 0), .int (Int32.ofInt 23)]) (st := []) rfl rfl (k_in G I (by first | exact ⟨oq_f81b6609 hi.2.2.2.1, oq_9e7d853b hi.2.2.2.2⟩ | omega) (by first | exact ⟨by decide, by decide⟩ | omega) (by first | exact ⟨by decide, by decide⟩ | omega)) rfl (Nat.le_of_ble_eq_true rfl) (fun s1003 e1004 Is1003 Fs1003 hrs1003 hps1003 => ?_))))
        have Gs1003 := fm_tq F Fs1003 rfl rfl
        refine z_if_eq X (t := 59) rfl rfl hrs1003 (fun g1005 => ?_) (fun g1005 => ?_)
        ·
          refine z_inc X (x := c) (lv' := [(4, .int (Int32.ofInt (c + 1))), (0, .ref (A 179)), (1, .int (Int32.ofInt xv)), (2, .int (Int32.ofInt yv)), (3, .int (Int32.ofInt nv))]) rfl (by decide) (List.Mem.tail _ (List.Mem.tail _ (List.Mem.tail _ (List.Mem.tail _ (List.Mem.head _))))) (fun _ h => h) (z_goto X (t := 12) rfl rfl (WS_pq [1, 2, 3, 4, 0] (lv' := [(0, .ref (A 179)), (1, .int (Int32.ofInt xv)), (2, .int (Int32.ofInt yv)), (3, .int (Int32.ofInt nv)), (4, .int (Int32.ofInt (c + 1)))]) rfl ?_))
          exact ih _ xv yv nv (c + 1) Is1003 Gs1003 (by first | exact ⟨And.intro (hi.1.1) (hi.1.2), And.intro (hi.2.1.1) (hi.2.1.2), And.intro (hi.2.2.1.1) (hi.2.2.1.2), oq_826c3458 hi.2.2.2.1, oq_78fc2d48 g1002 hi.2.1.2 b1001.2⟩ | omega) (by first | exact qk_me hm (by decide) (oq_5c7f6a1c g1002 hi.2.1.2 b1001.2) | omega) kx
        ·
          refine z_aload_n X (x := A 179) rfl (List.Mem.head _) (s_getR X 179 rfl (c518_ok rfl) rfl rfl (z_load_n X (x := xv) rfl (List.Mem.tail _ (List.Mem.head _)) (z_aald X rw_215 rfl (by first | exact hi.1.1 | omega) (show xv < 12 by first | exact oq_0ddfcfee hi.1.2 | omega) (by decide) (z_load X (x := c) rfl (List.Mem.tail _ (List.Mem.tail _ (List.Mem.tail _ (List.Mem.tail _ (List.Mem.head _))))) (z_ald2 X rw_215 rfl (show (xv : Int).toNat < 12 by first | exact oq_9c5fa447 hi.1.2 | omega) (by first | exact oq_0159bb48 g1005 hps1003 | omega) (show c < 24 by first | exact oq_127752ee g1005 hps1003 | omega) (by decide) ?_)))))
          have b1006 : (0 : Int) ≤ (iC s1003 (190 + (xv : Int).toNat) (c : Int).toNat) ∧ (iC s1003 (190 + (xv : Int).toNat) (c : Int).toNat) ≤ 50 := rw_bd rw_215 Is1003 (show (xv : Int).toNat < 12 by first | exact oq_9c5fa447 hi.1.2 | omega) (show (c : Int).toNat < 24 by first | exact oq_200d9360 g1005 hps1003 | omega)
          refine z_load_n X (x := nv) rfl (List.Mem.tail _ (List.Mem.tail _ (List.Mem.tail _ (List.Mem.head _)))) (z_icmp_le X (t := 59) rfl rfl (rng_to _) ⟨by first | exact oq_fa4e5087 hi.2.2.1.1 | omega, by first | exact oq_cbe526b3 hi.2.2.1.2 | omega⟩ (fun g1007 => ?_) (fun g1007 => ?_))
          ·
            refine z_inc X (x := c) (lv' := [(4, .int (Int32.ofInt (c + 1))), (0, .ref (A 179)), (1, .int (Int32.ofInt xv)), (2, .int (Int32.ofInt yv)), (3, .int (Int32.ofInt nv))]) rfl (by decide) (List.Mem.tail _ (List.Mem.tail _ (List.Mem.tail _ (List.Mem.tail _ (List.Mem.head _))))) (fun _ h => h) (z_goto X (t := 12) rfl rfl (WS_pq [1, 2, 3, 4, 0] (lv' := [(0, .ref (A 179)), (1, .int (Int32.ofInt xv)), (2, .int (Int32.ofInt yv)), (3, .int (Int32.ofInt nv)), (4, .int (Int32.ofInt (c + 1)))]) rfl ?_))
            exact ih _ xv yv nv (c + 1) Is1003 Gs1003 (by first | exact ⟨And.intro (hi.1.1) (hi.1.2), And.intro (hi.2.1.1) (hi.2.1.2), And.intro (hi.2.2.1.1) (hi.2.2.1.2), oq_826c3458 hi.2.2.2.1, oq_78fc2d48 g1002 hi.2.1.2 b1001.2⟩ | omega) (by first | exact qk_me hm (by decide) (oq_5c7f6a1c g1002 hi.2.1.2 b1001.2) | omega) kx
          ·
            refine z_aload_n X (x := A 179) rfl (List.Mem.head _) (s_getR X 179 rfl (c518_ok rfl) rfl rfl (z_load_n X (x := xv) rfl (List.Mem.tail _ (List.Mem.head _)) (z_aald X rw_215 rfl (by first | exact hi.1.1 | omega) (show xv < 12 by first | exact oq_0ddfcfee hi.1.2 | omega) (by decide) (z_load X (x := c) rfl (List.Mem.tail _ (List.Mem.tail _ (List.Mem.tail _ (List.Mem.tail _ (List.Mem.head _))))) (z_ald2 X rw_215 rfl (show (xv : Int).toNat < 12 by first | exact oq_9c5fa447 hi.1.2 | omega) (by first | exact oq_0159bb48 g1005 hps1003 | omega) (show c < 24 by first | exact oq_127752ee g1005 hps1003 | omega) (by decide) ?_)))))
            have b1008 : (0 : Int) ≤ (iC s1003 (190 + (xv : Int).toNat) (c : Int).toNat) ∧ (iC s1003 (190 + (xv : Int).toNat) (c : Int).toNat) ≤ 50 := rw_bd rw_215 Is1003 (show (xv : Int).toNat < 12 by first | exact oq_9c5fa447 hi.1.2 | omega) (show (c : Int).toNat < 24 by first | exact oq_200d9360 g1005 hps1003 | omega)
            refine z_store_n X (lv' := [(3, .int (Int32.ofInt (iC s1003 (190 + (xv : Int).toNat) (c : Int).toNat))), (0, .ref (A 179)), (1, .int (Int32.ofInt xv)), (2, .int (Int32.ofInt yv)), (4, .int (Int32.ofInt c))]) rfl (by decide) (fun _ h => h) (z_inc X (x := c) (lv' := [(4, .int (Int32.ofInt (c + 1))), (3, .int (Int32.ofInt (iC s1003 (190 + (xv : Int).toNat) (c : Int).toNat))), (0, .ref (A 179)), (1, .int (Int32.ofInt xv)), (2, .int (Int32.ofInt yv))]) rfl (by decide) (List.Mem.tail _ (List.Mem.tail _ (List.Mem.tail _ (List.Mem.tail _ (List.Mem.head _))))) (fun _ h => h) (z_goto X (t := 12) rfl rfl (WS_pq [2, 3, 4, 1, 0] (lv' := [(0, .ref (A 179)), (1, .int (Int32.ofInt xv)), (2, .int (Int32.ofInt yv)), (3, .int (Int32.ofInt (iC s1003 (190 + (xv : Int).toNat) (c : Int).toNat))), (4, .int (Int32.ofInt (c + 1)))]) rfl ?_)))
            exact ih _ xv yv (iC s1003 (190 + (xv : Int).toNat) (c : Int).toNat) (c + 1) Is1003 Gs1003 (by first | exact ⟨And.intro (hi.1.1) (hi.1.2), And.intro (hi.2.1.1) (hi.2.1.2), And.intro (b1008.1) (b1008.2), oq_826c3458 hi.2.2.2.1, oq_78fc2d48 g1002 hi.2.1.2 b1001.2⟩ | omega) (by first | exact qk_me hm (by decide) (oq_5c7f6a1c g1002 hi.2.1.2 b1001.2) | omega) kx
  refine z_const X rfl (z_store_n X (lv' := [(3, .int (Int32.ofInt 0)), (0, .ref (A 179)), (1, .int (Int32.ofInt x)), (2, .int (Int32.ofInt y))]) rfl (by decide) (fun _ h => h) (z_load_n X (x := y) rfl (List.Mem.tail _ (List.Mem.tail _ (List.Mem.tail _ (List.Mem.head _)))) (z_aload_n X (x := A 179) rfl (List.Mem.tail _ (List.Mem.head _)) (s_getR X 179 rfl (c518_ok rfl) rfl rfl (z_load_n X (x := x) rfl (List.Mem.tail _ (List.Mem.tail _ (List.Mem.head _))) (z_ald X 187 rfl (c518_ok rfl) rfl (by first | exact p0.1 | omega) (show x < 12 by first | exact oq_0ddfcfee p0.2 | omega) (cbig_ok rfl) ?_))))))
  have b1 := bc_164 I (show (x).toNat < 12 by first | exact oq_9c5fa447 p0.2 | omega)
  refine z_sub X rfl (z_store X (lv' := [(4, .int (Int32.ofInt (y - (iC s 164 (x).toNat)))), (3, .int (Int32.ofInt 0)), (0, .ref (A 179)), (1, .int (Int32.ofInt x)), (2, .int (Int32.ofInt y))]) rfl (by decide) (fun _ h => h) (WS_pq [2, 3, 4, 1, 0] (lv' := [(0, .ref (A 179)), (1, .int (Int32.ofInt x)), (2, .int (Int32.ofInt y)), (3, .int (Int32.ofInt 0)), (4, .int (Int32.ofInt (y - (iC s 164 (x).toNat))))]) rfl (L12 ((26 - (y - (iC s 164 (x).toNat)) : Int).toNat + 1) s x y 0 (y - (iC s 164 (x).toNat)) I F (by first | exact ⟨And.intro (p0.1) (p0.2), And.intro (p1.1) (p1.2), And.intro (by decide) (by decide), oq_15fc5886 p1.1 b1.2, oq_0fb31b58 p1.2 b1.1⟩ | omega) (Nat.lt_succ_self _) ?_)))
  intro s2 x3 x4 x5 x6 Is2 Fs2 hs2
  refine z_load_n X (x := x5) rfl (List.Mem.tail _ (List.Mem.tail _ (List.Mem.tail _ (List.Mem.head _)))) ?_
  exact w_iret X.1 q hRt rfl (ax_d X (show cdA 220 66 = some (.ireturn, 1, 0, 0, 0) from rfl)) (Nat.zero_le _) (Nat.zero_le _) ⟨_, rfl, Is2, Fs2, x5, rfl, ⟨by first | exact oq_fa4e5087 hs2.2.2.1.1 | omega, by first | exact oq_cbe526b3 hs2.2.2.1.2 | omega⟩, by first | exact ⟨hs2.2.2.1.1, hs2.2.2.1.2⟩ | omega⟩
theorem k_numbersIn (G : GX l s0 D tys a0 dT) (I : Bd s) {x : Int} (p0 : 0 ≤ x ∧ x ≤ 23) : CT l s0 D A dT 224 (rmN 224) [.ref (A 179), .int (Int32.ofInt x)] s (fun o t => Bd t ∧ Fm [] [203] s t ∧ o = .inl none ∧ (True)) := by
  refine ct_of G (by decide) (Nat.le_of_ble_eq_true rfl) (fun k X E hRt hXt q => ?_)
  show WS k 0 [(0, .ref (A 179)), (1, .int (Int32.ofInt x))] [] _ 0 0
  have F : Fm [] [203] s s := fm_rf _ _ s
  have b1 := bi_90 I
  have L2 : ∀ (n : Nat) (t : PS) (xv c : Int), Bd t → Fm [] [203] s t → ((0 ≤ xv ∧ xv ≤ 23) ∧ 0 ≤ c ∧ c ≤ 12) → (12 - c : Int).toNat < n → (∀ (t' : PS) (xv' c' : Int), Bd t' → Fm [] [203] s t' → ((0 ≤ xv' ∧ xv' ≤ 23) ∧ 0 ≤ c' ∧ c' ≤ 12) → WS k 28 [(0, .ref (A 179)), (1, .int (Int32.ofInt xv')), (2, .int (Int32.ofInt c'))] [] (Wd A dT t') 0 0) → WS k 2 [(0, .ref (A 179)), (1, .int (Int32.ofInt xv)), (2, .int (Int32.ofInt c))] [] (Wd A dT t) 0 0 := by
    intro n
    induction n with
    | zero =>
      intro t xv c I F hi hm kx
      exact absurd hm (Nat.not_lt_zero _)
    | succ n ih =>
      intro t xv c I F hi hm kx
      have b1001 := bi_90 I
      refine z_load_n X (x := c) rfl (List.Mem.tail _ (List.Mem.tail _ (List.Mem.head _))) (z_aload_n X (x := A 179) rfl (List.Mem.head _) (z_getI X 179 rfl (c518_ok rfl) rfl rfl ?_))
      have b1002 := bi_90 I
      refine z_icmp_ge X (t := 28) rfl rfl ⟨by first | exact oq_fa4e5087 hi.2.1 | omega, by first | exact oq_78843a64 hi.2.2 | omega⟩ (rng_to _) (fun g1003 => ?_) (fun g1003 => ?_)
      ·
        refine WS_pq [0, 1, 2] (lv' := [(0, .ref (A 179)), (1, .int (Int32.ofInt xv)), (2, .int (Int32.ofInt c))]) rfl ?_
        exact kx _ xv c I F (by first | exact ⟨And.intro (hi.1.1) (hi.1.2), hi.2.1, hi.2.2⟩ | omega)
      ·
        refine z_aload_n X (x := A 179) rfl (List.Mem.head _) (s_getR X 179 rfl (c518_ok rfl) rfl rfl (z_load_n X (x := c) rfl (List.Mem.tail _ (List.Mem.tail _ (List.Mem.head _))) (z_aload_n X (x := A 179) rfl (List.Mem.head _) (z_load_n X (x := c) rfl (List.Mem.tail _ (List.Mem.tail _ (List.Mem.head _))) (z_load_n X (x := xv) rfl (List.Mem.tail _ (List.Mem.head _)) (zcV_i0 X E 179 (As := [.int (Int32.ofInt c), .int (Int32.ofInt xv)]) (st := [.int (Int32.ofInt c), .ref (A 229)]) rfl rfl rfl rfl (k_mostOf G I (by first | exact ⟨hi.2.1, oq_e4d7f3c5 g1003 b1002.2⟩ | omega) (by first | exact ⟨hi.1.1, hi.1.2⟩ | omega)) rfl (Nat.le_of_ble_eq_true rfl) (fun s1004 e1005 Is1004 Fs1004 hrs1004 hps1004 => ?_)))))))
        have Gs1004 := fm_tq F Fs1004 rfl rfl
        have ws1004_90 : iI s1004 90 = iI t 90 := fm_iq Fs1004 rfl
        refine z_ast X 229 rfl (c518_ok rfl) rfl (by first | exact hi.2.1 | omega) (show c < 12 by first | exact oq_f36e82a8 g1003 b1002.2 | omega) (cbig_ok rfl) (wd_gen (fun s1006 hs1006 => ?_))
        have Is1006 : Bd s1006 := eqB hs1006 (bd_C Is1004 (show (0 : Int) ≤ e1005 ∧ e1005 ≤ 50 by first | exact ⟨hps1004.1, hps1004.2⟩ | omega) hrs1004)
        have Fs1006 := eqF hs1006 (fm_C Gs1004 (inl_ok (a := 203) rfl))
        have ws1006_90 : iI s1006 90 = iI s1004 90 := eqI hs1006 rfl
        refine z_inc X (x := c) (lv' := [(2, .int (Int32.ofInt (c + 1))), (0, .ref (A 179)), (1, .int (Int32.ofInt xv))]) rfl (by decide) (List.Mem.tail _ (List.Mem.tail _ (List.Mem.head _))) (fun _ h => h) (z_goto X (t := 2) rfl rfl (WS_pq [1, 2, 0] (lv' := [(0, .ref (A 179)), (1, .int (Int32.ofInt xv)), (2, .int (Int32.ofInt (c + 1)))]) rfl ?_))
        exact ih _ xv (c + 1) Is1006 Fs1006 (by first | exact ⟨And.intro (hi.1.1) (hi.1.2), oq_54f49eb5 hi.2.1, oq_4dae995e g1003 b1002.2⟩ | omega) (by first | exact qk_me hm (by decide) (oq_b575e8c1 g1003 b1002.2) | omega) kx
  refine z_const X rfl (z_store_n X (lv' := [(2, .int (Int32.ofInt 0)), (0, .ref (A 179)), (1, .int (Int32.ofInt x))]) rfl (by decide) (fun _ h => h) (WS_pq [1, 2, 0] (lv' := [(0, .ref (A 179)), (1, .int (Int32.ofInt x)), (2, .int (Int32.ofInt 0))]) rfl (L2 ((12 - 0 : Int).toNat + 1) s x 0 I F (by first | exact ⟨And.intro (p0.1) (p0.2), by decide, by decide⟩ | omega) (Nat.lt_succ_self _) ?_)))
  intro s2 x3 x4 Is2 Fs2 hs2
  have b5 := bi_90 Is2
  exact w_vret X.1 q hRt (ax_d X (show cdA 224 28 = some (.return_, 1, 0, 0, 0) from rfl)) (Nat.zero_le _) (Nat.zero_le _) ⟨_, rfl, Is2, Fs2, rfl, trivial⟩
end M33
