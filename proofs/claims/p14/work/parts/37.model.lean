theorem oq_9207f8f8 {a0 : Int} (h0 : a0 ≤ 5) : a0 < 6 := by omega
theorem oq_78f9cd89 {a0 : Int} (h0 : a0 ≤ 5) : (a0 : Int).toNat < 6 := by omega
theorem oq_0e78ca7d {a0 : Int} (h0 : a0 ≤ 7) : a0 ≤ 2147483647 := by omega
theorem oq_31b2bf10 {a0 : Int} (h0 : a0 ≤ 127) : a0 < 128 := by omega
theorem oq_c7f4e9c1 {a0 : Int} (h0 : a0 ≤ 127) : (a0 : Int).toNat < 128 := by omega
theorem oq_2dac6850 {a0 a1 : Int} (h0 : a0 < a1) (h1 : a1 ≤ 12) : (a0 : Int).toNat < 12 := by omega
theorem oq_caa626b0 {a0 a1 a2 : Int} (h0 : a0 ≤ (1200 * a1)) (h1 : a2 ≤ 1200) : (a0 + a2) ≤ (1200 * (a1 + 1)) := by omega
theorem oq_590e7a3f {a0 : Int} (h0 : 0 ≤ a0) : 0 ≤ (a0 + 0) := by omega
theorem oq_48488ccf {a0 a1 : Int} (h0 : a0 ≤ (1200 * a1)) : (a0 + 0) ≤ (1200 * (a1 + 1)) := by omega
theorem oq_df61579f {a0 a1 : Int} (h0 : a0 ≤ (1200 * a1)) (h1 : a1 ≤ 12) : a0 ≤ 2147483647 := by omega
theorem oq_5b45330b {a0 a1 : Int} (h0 : 0 ≤ a0) (h1 : a1 ≤ 24) : (-2147483648) ≤ (a0 - a1) := by omega
theorem oq_c3c0165d {a0 a1 : Int} (h0 : a0 ≤ 24) (h1 : 0 ≤ a1) : (a0 - a1) ≤ 2147483647 := by omega
/-! The model: more of the small ones -/
section M37
variable {l : Launch} {s0 : State} {D : va_G} {tys : List (ClassId × FieldType)} {a0 : Array Value} {A : Nat → Nat} {dT : Nat → ClassId} {s : PS}
theorem k_amount (G : GX l s0 D tys a0 dT) (I : Bd s) {x : Int} (p0 : rng x) : CT l s0 D A dT 189 (rmN 189) [.int (Int32.ofInt x)] s (fun o t => Bd t ∧ Fm [] [] s t ∧ ∃ e, o = .inl (some (.int (Int32.ofInt e))) ∧ rng e ∧ (True)) := by
  refine ct_of G (by decide) (Nat.le_of_ble_eq_true rfl) (fun k X E hRt hXt q => ?_)
  show WS k 0 [(0, .int (Int32.ofInt x))] [] _ 0 0
  have F : Fm [] [] s s := fm_rf _ _ s
  refine z_load_n X (x := x) rfl (List.Mem.head _) (z_if_ge X (t := 9) rfl rfl ⟨by first | exact p0.1 | omega, by first | exact p0.2 | omega⟩ (fun g1 => ?_) (fun g1 => ?_))
  ·
    refine z_load_n X (x := x) rfl (List.Mem.head _) ?_
    exact w_iret X.1 q hRt rfl (ax_d X (show cdA 189 10 = some (.ireturn, 1, 0, 0, 0) from rfl)) (Nat.zero_le _) (Nat.zero_le _) ⟨_, rfl, I, F, x, rfl, ⟨by first | exact p0.1 | omega, by first | exact p0.2 | omega⟩, trivial⟩
  ·
    refine z_load_n X (x := x) rfl (List.Mem.head _) (z_neg X rfl (z_any (fun y2 hy2 => ?_)))
    exact z_goto X (t := 10) rfl rfl (w_iret X.1 q hRt rfl (ax_d X (show cdA 189 10 = some (.ireturn, 1, 0, 0, 0) from rfl)) (Nat.zero_le _) (Nat.zero_le _) ⟨_, rfl, I, F, y2, rfl, hy2, trivial⟩)
theorem k_isHit (G : GX l s0 D tys a0 dT) (I : Bd s) {x y : Int} (p0 : 0 ≤ x ∧ x ≤ 11) (p1 : 0 ≤ y ∧ y ≤ 23) : CT l s0 D A dT 280 (rmN 280) [.ref (A 179), .int (Int32.ofInt x), .int (Int32.ofInt y)] s (fun o t => Bd t ∧ Fm [] [] s t ∧ ∃ e, o = .inl (some (.int (Int32.ofInt e))) ∧ rng e ∧ (e = 0 ∨ e = 1)) := by
  refine ct_of G (by decide) (Nat.le_of_ble_eq_true rfl) (fun k X E hRt hXt q => ?_)
  show WS k 0 [(0, .ref (A 179)), (1, .int (Int32.ofInt x)), (2, .int (Int32.ofInt y))] [] _ 0 0
  have F : Fm [] [] s s := fm_rf _ _ s
  have L5 : ∀ (n : Nat) (t : PS) (xv yv iv c : Int), Bd t → Fm [] [] s t → ((0 ≤ xv ∧ xv ≤ 11) ∧ (0 ≤ yv ∧ yv ≤ 23) ∧ (iv = 0 ∨ iv = 1) ∧ 0 ≤ c ∧ c ≤ 24) → (24 - c : Int).toNat < n → (∀ (t' : PS) (xv' yv' iv' c' : Int), Bd t' → Fm [] [] s t' → ((0 ≤ xv' ∧ xv' ≤ 11) ∧ (0 ≤ yv' ∧ yv' ≤ 23) ∧ (iv' = 0 ∨ iv' = 1) ∧ 0 ≤ c' ∧ c' ≤ 24) → WS k 49 [(0, .ref (A 179)), (1, .int (Int32.ofInt xv')), (2, .int (Int32.ofInt yv')), (3, .int (Int32.ofInt iv')), (4, .int (Int32.ofInt c'))] [] (Wd A dT t') 0 0) → WS k 5 [(0, .ref (A 179)), (1, .int (Int32.ofInt xv)), (2, .int (Int32.ofInt yv)), (3, .int (Int32.ofInt iv)), (4, .int (Int32.ofInt c))] [] (Wd A dT t) 0 0 := by
    intro n
    induction n with
    | zero =>
      intro t xv yv iv c I F hi hm kx
      exact absurd hm (Nat.not_lt_zero _)
    | succ n ih =>
      intro t xv yv iv c I F hi hm kx
      refine z_load X (x := c) rfl (List.Mem.tail _ (List.Mem.tail _ (List.Mem.tail _ (List.Mem.tail _ (List.Mem.head _))))) (z_aload_n X (x := A 179) rfl (List.Mem.head _) (s_getR X 179 rfl (c518_ok rfl) rfl rfl (z_load_n X (x := xv) rfl (List.Mem.tail _ (List.Mem.head _)) (z_ald X 185 rfl (c518_ok rfl) rfl (by first | exact hi.1.1 | omega) (show xv < 12 by first | exact oq_0ddfcfee hi.1.2 | omega) (cbig_ok rfl) ?_))))
      have b1001 := bc_162 I (show (xv).toNat < 12 by first | exact oq_9c5fa447 hi.1.2 | omega)
      refine z_icmp_ge X (t := 49) rfl rfl ⟨by first | exact oq_fa4e5087 hi.2.2.2.1 | omega, by first | exact oq_5bcd337f hi.2.2.2.2 | omega⟩ (rng_to _) (fun g1002 => ?_) (fun g1002 => ?_)
      ·
        refine WS_pq [0, 1, 2, 3, 4] (lv' := [(0, .ref (A 179)), (1, .int (Int32.ofInt xv)), (2, .int (Int32.ofInt yv)), (3, .int (Int32.ofInt iv)), (4, .int (Int32.ofInt c))]) rfl ?_
        exact kx _ xv yv iv c I F (by first | exact ⟨And.intro (hi.1.1) (hi.1.2), And.intro (hi.2.1.1) (hi.2.1.2), hi.2.2.1, hi.2.2.2.1, hi.2.2.2.2⟩ | omega)
      ·
        refine z_load_n X (x := iv) rfl (List.Mem.tail _ (List.Mem.tail _ (List.Mem.tail _ (List.Mem.head _)))) ?_
        have N1003 : ∀ e1004 : Int, (((iv ≠ 0) ∧ e1004 = 1) ∨ ((iv = 0) ∧ ((0 : Int) ≤ (iC t (166 + (xv : Int).toNat) (c : Int).toNat) ∧ (iC t (166 + (xv : Int).toNat) (c : Int).toNat) ≤ 127) ∧ ((0 : Int) ≤ iC t 399 ((iC t (166 + (xv : Int).toNat) (c : Int).toNat)).toNat ∧ iC t 399 ((iC t (166 + (xv : Int).toNat) (c : Int).toNat)).toNat ≤ 1) ∧ ((iC t 399 ((iC t (166 + (xv : Int).toNat) (c : Int).toNat)).toNat) = 0) ∧ e1004 = 0) ∨ ((iv = 0) ∧ ((0 : Int) ≤ (iC t (166 + (xv : Int).toNat) (c : Int).toNat) ∧ (iC t (166 + (xv : Int).toNat) (c : Int).toNat) ≤ 127) ∧ ((0 : Int) ≤ iC t 399 ((iC t (166 + (xv : Int).toNat) (c : Int).toNat)).toNat ∧ iC t 399 ((iC t (166 + (xv : Int).toNat) (c : Int).toNat)).toNat ≤ 1) ∧ ((iC t 399 ((iC t (166 + (xv : Int).toNat) (c : Int).toNat)).toNat) ≠ 0) ∧ e1004 = 1)) → WS k 42 [(0, .ref (A 179)), (1, .int (Int32.ofInt xv)), (2, .int (Int32.ofInt yv)), (3, .int (Int32.ofInt iv)), (4, .int (Int32.ofInt c))] [.int (Int32.ofInt e1004)] (Wd A dT t) 0 0 := by
          intro e1004 he1004
          have re1004 : 0 ≤ e1004 ∧ e1004 ≤ 1 := by first | (clear he1004; omega) | omega
          refine z_store_n X (lv' := [(3, .int (Int32.ofInt e1004)), (0, .ref (A 179)), (1, .int (Int32.ofInt xv)), (2, .int (Int32.ofInt yv)), (4, .int (Int32.ofInt c))]) rfl (by decide) (fun _ h => h) (z_inc X (x := c) (lv' := [(4, .int (Int32.ofInt (c + 1))), (3, .int (Int32.ofInt e1004)), (0, .ref (A 179)), (1, .int (Int32.ofInt xv)), (2, .int (Int32.ofInt yv))]) rfl (by decide) (List.Mem.tail _ (List.Mem.tail _ (List.Mem.tail _ (List.Mem.tail _ (List.Mem.head _))))) (fun _ h => h) (z_goto X (t := 5) rfl rfl (WS_pq [2, 3, 4, 1, 0] (lv' := [(0, .ref (A 179)), (1, .int (Int32.ofInt xv)), (2, .int (Int32.ofInt yv)), (3, .int (Int32.ofInt e1004)), (4, .int (Int32.ofInt (c + 1)))]) rfl ?_)))
          exact ih _ xv yv e1004 (c + 1) I F (by first | exact ⟨And.intro (hi.1.1) (hi.1.2), And.intro (hi.2.1.1) (hi.2.1.2), oq_31e518ae re1004.2 re1004.1, oq_54f49eb5 hi.2.2.2.1, oq_41473be0 g1002 b1001.2⟩ | omega) (by first | exact qk_me hm (by decide) (oq_9dea93e6 g1002 b1001.2) | omega) kx
        refine z_if_ne X (t := 37) rfl rfl ⟨by first | exact oq_bde653e9 hi.2.2.1 | omega, by first | exact oq_4ad2cb8b hi.2.2.1 | omega⟩ (fun g1005 => ?_) (fun g1005 => ?_)
        ·
          exact z_const X rfl (z_goto X (t := 42) rfl rfl (N1003 _ (Or.inl ⟨g1005, rfl⟩)))
        ·
          refine z_aload_n X (x := A 179) rfl (List.Mem.head _) (s_getR X 179 rfl (c518_ok rfl) rfl rfl (z_aload_n X (x := A 179) rfl (List.Mem.head _) (s_getR X 179 rfl (c518_ok rfl) rfl rfl (z_load_n X (x := xv) rfl (List.Mem.tail _ (List.Mem.head _)) (z_aald X rw_189 rfl (by first | exact hi.1.1 | omega) (show xv < 12 by first | exact oq_0ddfcfee hi.1.2 | omega) (by decide) (z_load X (x := c) rfl (List.Mem.tail _ (List.Mem.tail _ (List.Mem.tail _ (List.Mem.tail _ (List.Mem.head _))))) (z_ald2 X rw_189 rfl (show (xv : Int).toNat < 12 by first | exact oq_9c5fa447 hi.1.2 | omega) (by first | exact hi.2.2.2.1 | omega) (show c < 24 by first | exact oq_8ff7beb9 g1002 b1001.2 | omega) (by decide) ?_)))))))
          have b1006 : (0 : Int) ≤ (iC t (166 + (xv : Int).toNat) (c : Int).toNat) ∧ (iC t (166 + (xv : Int).toNat) (c : Int).toNat) ≤ 127 := rw_bd rw_189 I (show (xv : Int).toNat < 12 by first | exact oq_9c5fa447 hi.1.2 | omega) (show (c : Int).toNat < 24 by first | exact oq_9e668fc9 g1002 b1001.2 | omega)
          refine z_zald X 454 rfl (c518_ok rfl) rfl (by first | exact b1006.1 | omega) (show (iC t (166 + (xv : Int).toNat) (c : Int).toNat) < 128 by first | exact oq_31b2bf10 b1006.2 | omega) (cbig_ok rfl) ?_
          have b1007 := bc_399 I (show ((iC t (166 + (xv : Int).toNat) (c : Int).toNat)).toNat < 128 by first | exact oq_c7f4e9c1 b1006.2 | omega)
          refine z_if_eq X (t := 41) rfl rfl (rng_to _) (fun g1008 => ?_) (fun g1008 => ?_)
          ·
            exact z_const X rfl (N1003 _ (Or.inr (Or.inl ⟨g1005, b1006, b1007, g1008, rfl⟩)))
          ·
            exact z_const X rfl (z_goto X (t := 42) rfl rfl (N1003 _ (Or.inr (Or.inr (⟨g1005, b1006, b1007, g1008, rfl⟩)))))
  refine z_const X rfl (z_store_n X (lv' := [(3, .int (Int32.ofInt 0)), (0, .ref (A 179)), (1, .int (Int32.ofInt x)), (2, .int (Int32.ofInt y))]) rfl (by decide) (fun _ h => h) (z_const X rfl (z_store X (lv' := [(4, .int (Int32.ofInt 0)), (3, .int (Int32.ofInt 0)), (0, .ref (A 179)), (1, .int (Int32.ofInt x)), (2, .int (Int32.ofInt y))]) rfl (by decide) (fun _ h => h) (WS_pq [2, 3, 4, 1, 0] (lv' := [(0, .ref (A 179)), (1, .int (Int32.ofInt x)), (2, .int (Int32.ofInt y)), (3, .int (Int32.ofInt 0)), (4, .int (Int32.ofInt 0))]) rfl (L5 ((24 - 0 : Int).toNat + 1) s x y 0 0 I F (by first | exact ⟨And.intro (p0.1) (p0.2), And.intro (p1.1) (p1.2), Or.inl (by decide), by decide, by decide⟩ | omega) (Nat.lt_succ_self _) ?_)))))
  intro s1 x2 x3 x4 x5 Is1 Fs1 hs1
  refine z_load_n X (x := x4) rfl (List.Mem.tail _ (List.Mem.tail _ (List.Mem.tail _ (List.Mem.head _)))) (z_if_eq X (t := 66) rfl rfl ⟨by first | exact oq_bde653e9 hs1.2.2.1 | omega, by first | exact oq_4ad2cb8b hs1.2.2.1 | omega⟩ (fun g6 => ?_) (fun g6 => ?_))
  ·
    refine z_const X rfl ?_
    exact w_iret X.1 q hRt (nar_ret (by first | exact Or.inl (by decide) | omega)) (ax_d X (show cdA 280 67 = some (.ireturn, 1, 0, 0, 0) from rfl)) (Nat.zero_le _) (Nat.zero_le _) ⟨_, rfl, Is1, Fs1, 0, rfl, (by decide), by first | exact Or.inl (by decide) | omega⟩
  ·
    refine z_aload_n X (x := A 179) rfl (List.Mem.head _) (z_load_n X (x := x2) rfl (List.Mem.tail _ (List.Mem.head _)) (z_load_n X (x := x3) rfl (List.Mem.tail _ (List.Mem.tail _ (List.Mem.head _))) (zcV_i0 X E 179 (As := [.int (Int32.ofInt x2), .int (Int32.ofInt x3)]) (st := []) rfl rfl rfl rfl (k_mostOf G Is1 (by first | exact ⟨hs1.1.1, hs1.1.2⟩ | omega) (by first | exact ⟨hs1.2.1.1, hs1.2.1.2⟩ | omega)) rfl (Nat.le_of_ble_eq_true rfl) (fun s7 e8 Is7 Fs7 hrs7 hps7 => ?_))))
    have Gs7 := fm_tq Fs1 Fs7 rfl rfl
    have N9 : ∀ e10 : Int, (((e8 ≤ 0) ∧ e10 = 0) ∨ ((0 < e8) ∧ e10 = 1)) → WS k 67 [(0, .ref (A 179)), (1, .int (Int32.ofInt x2)), (2, .int (Int32.ofInt x3)), (3, .int (Int32.ofInt x4)), (4, .int (Int32.ofInt x5))] [.int (Int32.ofInt e10)] (Wd A dT s7) 0 0 := by
      intro e10 he10
      have re10 : 0 ≤ e10 ∧ e10 ≤ 1 := by first | (clear he10 g6; omega) | (clear g6; omega) | omega
      exact w_iret X.1 q hRt (nar_ret (by first | exact oq_31e518ae re10.2 re10.1 | omega)) (ax_d X (show cdA 280 67 = some (.ireturn, 1, 0, 0, 0) from rfl)) (Nat.zero_le _) (Nat.zero_le _) ⟨_, rfl, Is7, Gs7, e10, rfl, ⟨by first | exact oq_fa4e5087 re10.1 | omega, by first | exact oq_22e1e6b0 re10.2 | omega⟩, by first | exact oq_31e518ae re10.2 re10.1 | omega⟩
    refine z_if_le X (t := 66) rfl rfl hrs7 (fun g11 => ?_) (fun g11 => ?_)
    ·
      exact z_const X rfl (N9 _ (Or.inl ⟨g11, rfl⟩))
    ·
      exact z_const X rfl (z_goto X (t := 67) rfl rfl (N9 _ (Or.inr (⟨g11, rfl⟩))))
theorem k_quiet (G : GX l s0 D tys a0 dT) (I : Bd s) {x : Int} (p0 : rng x) : CT l s0 D A dT 292 (rmN 292) [.ref (A 179), .int (Int32.ofInt x)] s (fun o t => Bd t ∧ Fm [73] [] s t ∧ ∃ e, o = .inl (some (.int (Int32.ofInt e))) ∧ rng e ∧ (True)) := by
  refine ct_of G (by decide) (Nat.le_of_ble_eq_true rfl) (fun k X E hRt hXt q => ?_)
  show WS k 0 [(0, .ref (A 179)), (1, .int (Int32.ofInt x))] [] _ 0 0
  have F : Fm [73] [] s s := fm_rf _ _ s
  have b1 := bi_73 I
  have b2 := bi_90 I
  have L34 : ∀ (n : Nat) (t : PS) (xv nv c : Int), Bd t → Fm [73] [] s t → ((0 ≤ xv ∧ xv ≤ 127) ∧ 0 ≤ nv ∧ nv ≤ 1200 * c ∧ 0 ≤ c ∧ c ≤ 12) → (12 - c : Int).toNat < n → (∀ (t' : PS) (xv' nv' c' : Int), Bd t' → Fm [73] [] s t' → ((0 ≤ xv' ∧ xv' ≤ 127) ∧ 0 ≤ nv' ∧ nv' ≤ 1200 * c' ∧ 0 ≤ c' ∧ c' ≤ 12) → WS k 72 [(0, .ref (A 179)), (1, .int (Int32.ofInt xv')), (2, .int (Int32.ofInt nv')), (3, .int (Int32.ofInt c'))] [] (Wd A dT t') 0 0) → WS k 34 [(0, .ref (A 179)), (1, .int (Int32.ofInt xv)), (2, .int (Int32.ofInt nv)), (3, .int (Int32.ofInt c))] [] (Wd A dT t) 0 0 := by
    intro n
    induction n with
    | zero =>
      intro t xv nv c I F hi hm kx
      exact absurd hm (Nat.not_lt_zero _)
    | succ n ih =>
      intro t xv nv c I F hi hm kx
      have b1001 := bi_73 I
      have b1002 := bi_90 I
      refine z_load_n X (x := c) rfl (List.Mem.tail _ (List.Mem.tail _ (List.Mem.tail _ (List.Mem.head _)))) (z_aload_n X (x := A 179) rfl (List.Mem.head _) (z_getI X 179 rfl (c518_ok rfl) rfl rfl ?_))
      have b1003 := bi_90 I
      refine z_icmp_ge X (t := 72) rfl rfl ⟨by first | exact oq_fa4e5087 hi.2.2.2.1 | omega, by first | exact oq_78843a64 hi.2.2.2.2 | omega⟩ (rng_to _) (fun g1004 => ?_) (fun g1004 => ?_)
      ·
        refine WS_pq [0, 1, 2, 3] (lv' := [(0, .ref (A 179)), (1, .int (Int32.ofInt xv)), (2, .int (Int32.ofInt nv)), (3, .int (Int32.ofInt c))]) rfl ?_
        exact kx _ xv nv c I F (by first | exact ⟨And.intro (hi.1.1) (hi.1.2), hi.2.1, hi.2.2.1, hi.2.2.2.1, hi.2.2.2.2⟩ | omega)
      ·
        refine z_load_n X (x := nv) rfl (List.Mem.tail _ (List.Mem.tail _ (List.Mem.head _))) (z_aload_n X (x := A 179) rfl (List.Mem.head _) (s_getR X 179 rfl (c518_ok rfl) rfl rfl (z_load_n X (x := c) rfl (List.Mem.tail _ (List.Mem.tail _ (List.Mem.tail _ (List.Mem.head _)))) (z_aald X rw_202 rfl (by first | exact hi.2.2.2.1 | omega) (show c < 12 by first | exact oq_f36e82a8 g1004 b1003.2 | omega) (by decide) (z_load_n X (x := xv) rfl (List.Mem.tail _ (List.Mem.head _)) (z_ald2 X rw_202 rfl (show (c : Int).toNat < 12 by first | exact oq_2dac6850 g1004 b1003.2 | omega) (by first | exact hi.1.1 | omega) (show xv < 128 by first | exact oq_31b2bf10 hi.1.2 | omega) (by decide) ?_))))))
        have b1005 : ((-1) : Int) ≤ (iC t (178 + (c : Int).toNat) (xv : Int).toNat) ∧ (iC t (178 + (c : Int).toNat) (xv : Int).toNat) ≤ 23 := rw_bd rw_202 I (show (c : Int).toNat < 12 by first | exact oq_2dac6850 g1004 b1003.2 | omega) (show (xv : Int).toNat < 128 by first | exact oq_c7f4e9c1 hi.1.2 | omega)
        refine z_const X rfl (z_icmp_ne X (t := 59) rfl rfl (rng_to _) (by decide) (fun g1006 => ?_) (fun g1006 => ?_))
        ·
          refine z_aload_n X (x := A 179) rfl (List.Mem.head _) (z_load_n X (x := c) rfl (List.Mem.tail _ (List.Mem.tail _ (List.Mem.tail _ (List.Mem.head _)))) (zcV_i0 X E 179 (As := [.int (Int32.ofInt c)]) (st := [.int (Int32.ofInt nv)]) rfl rfl rfl rfl (k_total G I (by first | exact ⟨hi.2.2.2.1, oq_e4d7f3c5 g1004 b1003.2⟩ | omega)) rfl (Nat.le_of_ble_eq_true rfl) (fun s1007 e1008 Is1007 Fs1007 hrs1007 hps1007 => ?_)))
          have Gs1007 := fm_tq F Fs1007 rfl rfl
          have ws1007_73 : iI s1007 73 = iI t 73 := fm_iq Fs1007 rfl
          have ws1007_90 : iI s1007 90 = iI t 90 := fm_iq Fs1007 rfl
          refine z_add X rfl (z_store_n X (lv' := [(2, .int (Int32.ofInt (nv + e1008))), (0, .ref (A 179)), (1, .int (Int32.ofInt xv)), (3, .int (Int32.ofInt c))]) rfl (by decide) (fun _ h => h) (z_inc X (x := c) (lv' := [(3, .int (Int32.ofInt (c + 1))), (2, .int (Int32.ofInt (nv + e1008))), (0, .ref (A 179)), (1, .int (Int32.ofInt xv))]) rfl (by decide) (List.Mem.tail _ (List.Mem.tail _ (List.Mem.tail _ (List.Mem.head _)))) (fun _ h => h) (z_goto X (t := 34) rfl rfl (WS_pq [2, 3, 1, 0] (lv' := [(0, .ref (A 179)), (1, .int (Int32.ofInt xv)), (2, .int (Int32.ofInt (nv + e1008))), (3, .int (Int32.ofInt (c + 1)))]) rfl ?_))))
          exact ih _ xv (nv + e1008) (c + 1) Is1007 Gs1007 (by first | exact ⟨And.intro (hi.1.1) (hi.1.2), oq_dd29f52d hi.2.1 hps1007.1, oq_caa626b0 hi.2.2.1 hps1007.2, oq_54f49eb5 hi.2.2.2.1, oq_4dae995e g1004 b1003.2⟩ | omega) (by first | exact qk_me hm (by decide) (oq_b575e8c1 g1004 b1003.2) | omega) kx
        ·
          refine z_const X rfl (z_goto X (t := 64) rfl rfl (z_add X rfl (z_store_n X (lv' := [(2, .int (Int32.ofInt (nv + 0))), (0, .ref (A 179)), (1, .int (Int32.ofInt xv)), (3, .int (Int32.ofInt c))]) rfl (by decide) (fun _ h => h) (z_inc X (x := c) (lv' := [(3, .int (Int32.ofInt (c + 1))), (2, .int (Int32.ofInt (nv + 0))), (0, .ref (A 179)), (1, .int (Int32.ofInt xv))]) rfl (by decide) (List.Mem.tail _ (List.Mem.tail _ (List.Mem.tail _ (List.Mem.head _)))) (fun _ h => h) (z_goto X (t := 34) rfl rfl (WS_pq [2, 3, 1, 0] (lv' := [(0, .ref (A 179)), (1, .int (Int32.ofInt xv)), (2, .int (Int32.ofInt (nv + 0))), (3, .int (Int32.ofInt (c + 1)))]) rfl ?_))))))
          exact ih _ xv (nv + 0) (c + 1) I F (by first | exact ⟨And.intro (hi.1.1) (hi.1.2), oq_590e7a3f hi.2.1, oq_48488ccf hi.2.2.1, oq_54f49eb5 hi.2.2.2.1, oq_4dae995e g1004 b1003.2⟩ | omega) (by first | exact qk_me hm (by decide) (oq_b575e8c1 g1004 b1003.2) | omega) kx
  refine z_aload_n X (x := A 179) rfl (List.Mem.head _) (z_const X rfl (s_putI X 179 rfl (c518_ok rfl) rfl rfl (by decide) rfl rfl rfl (wd_gen (fun s3 hs3 => ?_))))
  have Is3 : Bd s3 := eqB hs3 (bd_I I (show (0 : Int) ≤ 0 ∧ 0 ≤ 3 by first | exact ⟨by decide, by decide⟩ | omega) (by decide))
  have Fs3 := eqF hs3 (fm_I F (inl_ok (a := 73) rfl))
  have vs3 : iI s3 73 = 0 := eqI hs3 (iI_u (by decide))
  have ws3_90 : iI s3 90 = iI s 90 := eqI hs3 rfl
  refine z_aload_n X (x := A 179) rfl (List.Mem.head _) (z_load_n X (x := x) rfl (List.Mem.tail _ (List.Mem.head _)) (z_const X rfl (z_bipush X rfl (zcS_i0 X E (As := [.int (Int32.ofInt x), .int (Int32.ofInt 0), .int (Int32.ofInt 127)]) (st := [.ref (A 179)]) rfl rfl (k_in G Is3 (by first | exact ⟨p0.1, p0.2⟩ | omega) (by first | exact ⟨by decide, by decide⟩ | omega) (by first | exact ⟨by decide, by decide⟩ | omega)) rfl (Nat.le_of_ble_eq_true rfl) (fun s4 e5 Is4 Fs4 hrs4 hps4 => ?_)))))
  have Gs4 := fm_tq Fs3 Fs4 rfl rfl
  have ws4_73 : iI s4 73 = iI s3 73 := fm_iq Fs4 rfl
  have ws4_90 : iI s4 90 = iI s3 90 := fm_iq Fs4 rfl
  have N6 : ∀ e7 : Int, (((e5 ≠ 0) ∧ e7 = 0) ∨ ((e5 = 0) ∧ e7 = 1)) → WS k 21 [(0, .ref (A 179)), (1, .int (Int32.ofInt x))] [.int (Int32.ofInt e7), .ref (A 179)] (Wd A dT s4) 0 0 := by
    intro e7 he7
    have re7 : 0 ≤ e7 ∧ e7 ≤ 1 := by first | (clear he7 hps4; omega) | (clear hps4; omega) | omega
    refine z_const X rfl (zcV_i0 X E 179 (As := [.int (Int32.ofInt e7), .int (Int32.ofInt 1)]) (st := []) rfl rfl rfl rfl (k_bad G Is4 (by first | exact oq_31e518ae re7.2 re7.1 | omega) (by first | exact ⟨by decide, by decide⟩ | omega)) rfl (Nat.le_of_ble_eq_true rfl) (fun s8 e9 Is8 Fs8 hrs8 hps8 => ?_))
    have Gs8 := fm_tq Gs4 Fs8 rfl rfl
    have b10 := bi_73 Is8
    have ws8_90 : iI s8 90 = iI s4 90 := fm_iq Fs8 rfl
    refine z_if_eq X (t := 30) rfl rfl hrs8 (fun g11 => ?_) (fun g11 => ?_)
    ·
      refine z_const X rfl (z_store_n X (lv' := [(2, .int (Int32.ofInt 0)), (0, .ref (A 179)), (1, .int (Int32.ofInt x))]) rfl (by decide) (fun _ h => h) (z_const X rfl (z_store_n X (lv' := [(3, .int (Int32.ofInt 0)), (2, .int (Int32.ofInt 0)), (0, .ref (A 179)), (1, .int (Int32.ofInt x))]) rfl (by decide) (fun _ h => h) (WS_pq [2, 3, 1, 0] (lv' := [(0, .ref (A 179)), (1, .int (Int32.ofInt x)), (2, .int (Int32.ofInt 0)), (3, .int (Int32.ofInt 0))]) rfl (L34 ((12 - 0 : Int).toNat + 1) s8 x 0 0 Is8 Gs8 (by first | exact ⟨oq_0661024d g11 hps8.2.1 re7.2 he7 hps4, by decide, by decide, by decide, by decide⟩ | omega) (Nat.lt_succ_self _) ?_)))))
      intro s12 x13 x14 x15 Is12 Fs12 hs12
      have b16 := bi_73 Is12
      have b17 := bi_90 Is12
      refine z_load_n X (x := x14) rfl (List.Mem.tail _ (List.Mem.tail _ (List.Mem.head _))) ?_
      exact w_iret X.1 q hRt rfl (ax_d X (show cdA 292 73 = some (.ireturn, 1, 0, 0, 0) from rfl)) (Nat.zero_le _) (Nat.zero_le _) ⟨_, rfl, Is12, Fs12, x14, rfl, ⟨by first | exact oq_fa4e5087 hs12.2.1 | omega, by first | exact oq_df61579f hs12.2.2.1 hs12.2.2.2.2 | omega⟩, trivial⟩
    ·
      refine z_const X rfl ?_
      exact w_iret X.1 q hRt rfl (ax_d X (show cdA 292 29 = some (.ireturn, 1, 0, 0, 0) from rfl)) (Nat.zero_le _) (Nat.zero_le _) ⟨_, rfl, Is8, Gs8, 0, rfl, (by decide), trivial⟩
  refine z_if_ne X (t := 20) rfl rfl hrs4 (fun g18 => ?_) (fun g18 => ?_)
  ·
    exact z_const X rfl (N6 _ (Or.inl ⟨g18, rfl⟩))
  ·
    exact z_const X rfl (z_goto X (t := 21) rfl rfl (N6 _ (Or.inr (⟨g18, rfl⟩))))
theorem k_minutesOf (G : GX l s0 D tys a0 dT) (I : Bd s) {x y z : Int} (p0 : 0 ≤ x ∧ x ≤ 11) (p1 : 1 ≤ y ∧ y ≤ 3) (p2 : 0 ≤ z ∧ z ≤ 23) : CT l s0 D A dT 282 (rmN 282) [.ref (A 179), .int (Int32.ofInt x), .int (Int32.ofInt y), .int (Int32.ofInt z)] s (fun o t => Bd t ∧ Fm [] [] s t ∧ ∃ e, o = .inl (some (.int (Int32.ofInt e))) ∧ rng e ∧ (True)) := by
  refine ct_of G (by decide) (Nat.le_of_ble_eq_true rfl) (fun k X E hRt hXt q => ?_)
  show WS k 0 [(0, .ref (A 179)), (1, .int (Int32.ofInt x)), (2, .int (Int32.ofInt y)), (3, .int (Int32.ofInt z))] [] _ 0 0
  have F : Fm [] [] s s := fm_rf _ _ s
  refine z_aload_n X (x := A 179) rfl (List.Mem.head _) (s_getR X 179 rfl (c518_ok rfl) rfl rfl (z_load_n X (x := x) rfl (List.Mem.tail _ (List.Mem.head _)) (z_ald X 458 rfl (c518_ok rfl) rfl (by first | exact p0.1 | omega) (show x < 12 by first | exact oq_0ddfcfee p0.2 | omega) (cbig_ok rfl) ?_)))
  have b1 := bc_403 I (show (x).toNat < 12 by first | exact oq_9c5fa447 p0.2 | omega)
  refine z_aload_n X (x := A 179) rfl (List.Mem.head _) (s_getR X 179 rfl (c518_ok rfl) rfl rfl (z_load_n X (x := x) rfl (List.Mem.tail _ (List.Mem.head _)) (z_ald X 185 rfl (c518_ok rfl) rfl (by first | exact p0.1 | omega) (show x < 12 by first | exact oq_0ddfcfee p0.2 | omega) (cbig_ok rfl) ?_)))
  have b2 := bc_162 I (show (x).toNat < 12 by first | exact oq_9c5fa447 p0.2 | omega)
  refine z_sub X rfl (z_store X (lv' := [(4, .int (Int32.ofInt ((iC s 403 (x).toNat) - (iC s 162 (x).toNat)))), (0, .ref (A 179)), (1, .int (Int32.ofInt x)), (2, .int (Int32.ofInt y)), (3, .int (Int32.ofInt z))]) rfl (by decide) (fun _ h => h) (z_aload_n X (x := A 179) rfl (List.Mem.tail _ (List.Mem.head _)) (z_load_n X (x := x) rfl (List.Mem.tail _ (List.Mem.tail _ (List.Mem.head _))) (z_load_n X (x := z) rfl (List.Mem.tail _ (List.Mem.tail _ (List.Mem.tail _ (List.Mem.tail _ (List.Mem.head _))))) (zcV_i0 X E 179 (As := [.int (Int32.ofInt x), .int (Int32.ofInt z)]) (st := []) rfl rfl rfl rfl (k_mostOf G I (by first | exact ⟨p0.1, p0.2⟩ | omega) (by first | exact ⟨p2.1, p2.2⟩ | omega)) rfl (Nat.le_of_ble_eq_true rfl) (fun s3 e4 Is3 Fs3 hrs3 hps3 => ?_))))))
  have Gs3 := fm_tq F Fs3 rfl rfl
  refine z_load_n X (x := y) rfl (List.Mem.tail _ (List.Mem.tail _ (List.Mem.tail _ (List.Mem.head _)))) (z_const X rfl (z_icmp_ne X (t := 42) rfl rfl ⟨by first | exact oq_9462313e p1.1 | omega, by first | exact oq_c5520c83 p1.2 | omega⟩ (by decide) (fun g5 => ?_) (fun g5 => ?_)))
  ·
    refine z_load_n X (x := y) rfl (List.Mem.tail _ (List.Mem.tail _ (List.Mem.tail _ (List.Mem.head _)))) (z_const X rfl ?_)
    have N6 : ∀ e7 : Int, (((y ≠ 2) ∧ e7 = 60) ∨ ((y = 2) ∧ e7 = 15)) → WS k 54 [(4, .int (Int32.ofInt ((iC s 403 (x).toNat) - (iC s 162 (x).toNat)))), (0, .ref (A 179)), (1, .int (Int32.ofInt x)), (2, .int (Int32.ofInt y)), (3, .int (Int32.ofInt z))] [.int (Int32.ofInt e7), .int (Int32.ofInt e4)] (Wd A dT s3) 0 0 := by
      intro e7 he7
      have re7 : 15 ≤ e7 ∧ e7 ≤ 60 := by first | (clear he7 g5; omega) | (clear g5; omega) | omega
      refine z_mul X rfl (z_any (fun y8 hy8 => ?_))
      exact w_iret X.1 q hRt rfl (ax_d X (show cdA 282 55 = some (.ireturn, 1, 0, 0, 0) from rfl)) (Nat.zero_le _) (Nat.zero_le _) ⟨_, rfl, Is3, Gs3, y8, rfl, hy8, trivial⟩
    refine z_icmp_ne X (t := 52) rfl rfl ⟨by first | exact oq_9462313e p1.1 | omega, by first | exact oq_c5520c83 p1.2 | omega⟩ (by decide) (fun g9 => ?_) (fun g9 => ?_)
    ·
      exact z_bipush X rfl (N6 _ (Or.inl ⟨g9, rfl⟩))
    ·
      exact z_bipush X rfl (z_goto X (t := 54) rfl rfl (N6 _ (Or.inr (⟨g9, rfl⟩))))
  ·
    refine z_const X rfl (z_load X (x := ((iC s 403 (x).toNat) - (iC s 162 (x).toNat))) rfl (List.Mem.head _) ?_)
    have N10 : ∀ e11 : Int, (((((iC s 403 (x).toNat) - (iC s 162 (x).toNat)) ≤ 0) ∧ e11 = 0) ∨ ((0 < ((iC s 403 (x).toNat) - (iC s 162 (x).toNat))) ∧ e11 = ((iC s 403 (x).toNat) - (iC s 162 (x).toNat)))) → WS k 38 [(4, .int (Int32.ofInt ((iC s 403 (x).toNat) - (iC s 162 (x).toNat)))), (0, .ref (A 179)), (1, .int (Int32.ofInt x)), (2, .int (Int32.ofInt y)), (3, .int (Int32.ofInt z))] [.int (Int32.ofInt e11), .int (Int32.ofInt 2), .int (Int32.ofInt e4)] (Wd A dT s3) 0 0 := by
      intro e11 he11
      refine z_mul X rfl (z_any (fun y12 hy12 => ?_))
      refine z_goto X (t := 54) rfl rfl (z_mul X rfl (z_any (fun y13 hy13 => ?_)))
      exact w_iret X.1 q hRt rfl (ax_d X (show cdA 282 55 = some (.ireturn, 1, 0, 0, 0) from rfl)) (Nat.zero_le _) (Nat.zero_le _) ⟨_, rfl, Is3, Gs3, y13, rfl, hy13, trivial⟩
    refine z_if_le X (t := 37) rfl rfl ⟨by first | exact oq_5b45330b b1.1 b2.2 | omega, by first | exact oq_c3c0165d b1.2 b2.1 | omega⟩ (fun g14 => ?_) (fun g14 => ?_)
    ·
      exact z_const X rfl (N10 _ (Or.inl ⟨g14, rfl⟩))
    ·
      exact z_load X (x := ((iC s 403 (x).toNat) - (iC s 162 (x).toNat))) rfl (List.Mem.head _) (z_goto X (t := 38) rfl rfl (N10 _ (Or.inr (⟨g14, rfl⟩))))
end M37
