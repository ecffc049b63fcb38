/-! The model: more of the small ones -/
section M37
variable {l : Launch} {s0 : State} {D : va_G} {tys : List (ClassId × FieldType)} {a0 : Array Value} {A : Nat → Nat} {dT : Nat → ClassId} {s : PS}
theorem k_amount (G : GX l s0 D tys a0 dT) (I : Bd s) {x : Int} (p0 : rng x) : CT l s0 D A dT 189 (rmN 189) [.int (Int32.ofInt x)] s (fun o t => Bd t ∧ Fm [] [] s t ∧ ∃ e, o = .inl (some (.int (Int32.ofInt e))) ∧ rng e ∧ (True)) := by
  refine ct_of G (by decide) (Nat.le_of_ble_eq_true rfl) (fun k X E hRt hXt q => ?_)
  show WS k 0 [(0, .int (Int32.ofInt x))] [] _ 0 0
  have F : Fm [] [] s s := fm_rf _ _ s
  refine z_load_n X (x := x) (show cdA 189 0 = some (.iload_n 0, 1, 0, 0, 0) from rfl) (List.Mem.head _) ?_
  refine z_if_ge X (t := 9) (show cdA 189 1 = some (.ifCond .ge 8, 3, 3, 0, 0) from rfl) (by decide) ⟨by first | exact p0.1 | omega, by first | exact p0.2 | omega⟩ (fun g1 => ?_) (fun g1 => ?_)
  ·
    refine z_load_n X (x := x) (show cdA 189 9 = some (.iload_n 0, 1, 0, 0, 0) from rfl) (List.Mem.head _) ?_
    exact w_iret X.1 q hRt rfl (ax_d X (show cdA 189 10 = some (.ireturn, 1, 0, 0, 0) from rfl)) (Nat.zero_le _) (Nat.zero_le _) ⟨_, rfl, I, F, x, rfl, ⟨by first | exact p0.1 | omega, by first | exact p0.2 | omega⟩, trivial⟩
  ·
    refine z_load_n X (x := x) (show cdA 189 4 = some (.iload_n 0, 1, 0, 0, 0) from rfl) (List.Mem.head _) ?_
    refine z_neg X (show cdA 189 5 = some (.ineg, 1, 0, 0, 0) from rfl) ?_
    refine z_any (fun y2 hy2 => ?_)
    refine z_goto X (t := 10) (show cdA 189 6 = some (.goto 4, 3, 0, 0, 0) from rfl) (by decide) ?_
    exact w_iret X.1 q hRt rfl (ax_d X (show cdA 189 10 = some (.ireturn, 1, 0, 0, 0) from rfl)) (Nat.zero_le _) (Nat.zero_le _) ⟨_, rfl, I, F, y2, rfl, hy2, trivial⟩
theorem k_groupOf (G : GX l s0 D tys a0 dT) (I : Bd s) {x y : Int} (p0 : 0 ≤ x ∧ x ≤ 5) (p1 : 0 ≤ y ∧ y ≤ 7) : CT l s0 D A dT 265 (rmN 265) [.ref (A 179), .int (Int32.ofInt x), .int (Int32.ofInt y)] s (fun o t => Bd t ∧ Fm [] [] s t ∧ ∃ e, o = .inl (some (.int (Int32.ofInt e))) ∧ rng e ∧ (0 ≤ e ∧ e ≤ 7)) := by
  refine ct_of G (by decide) (Nat.le_of_ble_eq_true rfl) (fun k X E hRt hXt q => ?_)
  show WS k 0 [(0, .ref (A 179)), (1, .int (Int32.ofInt x)), (2, .int (Int32.ofInt y))] [] _ 0 0
  have F : Fm [] [] s s := fm_rf _ _ s
  refine z_aload_n X (x := A 179) (show cdA 265 0 = some (.aload_n 0, 1, 0, 0, 0) from rfl) (List.Mem.head _) ?_
  refine s_getR X 179 (show cdA 265 1 = some (.getfield 101, 3, 12, 52, 0) from rfl) (by decide) rfl rfl ?_
  refine z_load_n X (x := x) (show cdA 265 4 = some (.iload_n 1, 1, 0, 0, 0) from rfl) (List.Mem.tail _ (List.Mem.head _)) ?_
  refine z_ald X 265 (show cdA 265 5 = some (.iaload, 1, 0, 0, 0) from rfl) (by decide) rfl (by first | exact p0.1 | omega) (show x < 6 by first | exact oq_9207f8f8 p0.2 | omega) (by decide) ?_
  have b1 : (0 : Int) ≤ iC s 237 (x).toNat ∧ iC s 237 (x).toNat ≤ 16777215 := I.2 237 _ (show (x).toNat < 6 by first | exact oq_78f9cd89 p0.2 | omega)
  refine z_const X (show cdA 265 6 = some (.iconst 3, 1, 0, 0, 0) from rfl) ?_
  refine z_load_n X (x := y) (show cdA 265 7 = some (.iload_n 2, 1, 0, 0, 0) from rfl) (List.Mem.tail _ (List.Mem.tail _ (List.Mem.head _))) ?_
  refine z_mul X (show cdA 265 8 = some (.imul, 1, 0, 0, 0) from rfl) ?_
  refine z_bshr X (show cdA 265 9 = some (.ishr, 1, 0, 0, 0) from rfl) ?_
  refine z_any (fun y2 hy2 => ?_)
  refine z_bipush X (show cdA 265 10 = some (.bipush 7, 2, 0, 0, 7) from rfl) ?_
  refine z_andm X (show cdA 265 12 = some (.iand, 1, 0, 0, 0) from rfl) (by decide) (by decide) (fun y3 hy3 gy3 => ?_)
  exact w_iret X.1 q hRt rfl (ax_d X (show cdA 265 13 = some (.ireturn, 1, 0, 0, 0) from rfl)) (Nat.zero_le _) (Nat.zero_le _) ⟨_, rfl, I, F, y3, rfl, ⟨by first | exact oq_fa4e5087 hy3 | omega, by first | exact oq_0e78ca7d gy3 | omega⟩, by first | exact ⟨hy3, gy3⟩ | omega⟩
theorem k_isHit (G : GX l s0 D tys a0 dT) (I : Bd s) {x y : Int} (p0 : 0 ≤ x ∧ x ≤ 11) (p1 : 0 ≤ y ∧ y ≤ 23) : CT l s0 D A dT 280 (rmN 280) [.ref (A 179), .int (Int32.ofInt x), .int (Int32.ofInt y)] s (fun o t => Bd t ∧ Fm [] [] s t ∧ ∃ e, o = .inl (some (.int (Int32.ofInt e))) ∧ rng e ∧ (e = 0 ∨ e = 1)) := by
  refine ct_of G (by decide) (Nat.le_of_ble_eq_true rfl) (fun k X E hRt hXt q => ?_)
  show WS k 0 [(0, .ref (A 179)), (1, .int (Int32.ofInt x)), (2, .int (Int32.ofInt y))] [] _ 0 0
  have F : Fm [] [] s s := fm_rf _ _ s
  have L5 : ∀ (n : Nat) (t : PS) (xv yv iv c : Int), Bd t → Fm [] [] s t → ((0 ≤ xv ∧ xv ≤ 11) ∧ (0 ≤ yv ∧ yv ≤ 23) ∧ (iv = 0 ∨ iv = 1) ∧ 0 ≤ c ∧ c ≤ 24) → (24 - c : Int).toNat < n → (∀ (t' : PS) (xv' yv' iv' c' : Int), Bd t' → Fm [] [] s t' → ((0 ≤ xv' ∧ xv' ≤ 11) ∧ (0 ≤ yv' ∧ yv' ≤ 23) ∧ (iv' = 0 ∨ iv' = 1) ∧ 0 ≤ c' ∧ c' ≤ 24) → WS k 49 [(0, .ref (A 179)), (1, .int (Int32.ofInt xv')), (2, .int (Int32.ofInt yv')), (3, .int (Int32.ofInt iv')), (4, .int (Int32.ofInt c'))] [] (Wd A dT t') 0 0) → WS k 5 [(0, .ref (A 179)), (1, .int (Int32.ofInt xv)), (2, .int (Int32.ofInt yv)), (3, .int (Int32.ofInt iv)), (4, .int (Int32.ofInt c))] [] (Wd A dT t) 0 0 := by
    intro n
    induction n with
    | zero =>
      intro t xv yv iv c I F hi hm kx
      exact absurd hm (Nat.not_lt_zero _)
    | succ n ih =>
      intro t xv yv iv c I F hi hm kx
      refine z_load X (x := c) (show cdA 280 5 = some (.iload 4, 2, 0, 0, 0) from rfl) (List.Mem.tail _ (List.Mem.tail _ (List.Mem.tail _ (List.Mem.tail _ (List.Mem.head _))))) ?_
      refine z_aload_n X (x := A 179) (show cdA 280 7 = some (.aload_n 0, 1, 0, 0, 0) from rfl) (List.Mem.head _) ?_
      refine s_getR X 179 (show cdA 280 8 = some (.getfield 35, 3, 12, 23, 0) from rfl) (by decide) rfl rfl ?_
      refine z_load_n X (x := xv) (show cdA 280 11 = some (.iload_n 1, 1, 0, 0, 0) from rfl) (List.Mem.tail _ (List.Mem.head _)) ?_
      refine z_ald X 185 (show cdA 280 12 = some (.iaload, 1, 0, 0, 0) from rfl) (by decide) rfl (by first | exact hi.1.1 | omega) (show xv < 12 by first | exact oq_0ddfcfee hi.1.2 | omega) (by decide) ?_
      have b1001 : (0 : Int) ≤ iC t 162 (xv).toNat ∧ iC t 162 (xv).toNat ≤ 24 := I.2 162 _ (show (xv).toNat < 12 by first | exact oq_9c5fa447 hi.1.2 | omega)
      refine z_icmp_ge X (t := 49) (show cdA 280 13 = some (.if_icmp .ge 36, 3, 3, 0, 0) from rfl) (by decide) ⟨by first | exact oq_fa4e5087 hi.2.2.2.1 | omega, by first | exact oq_5bcd337f hi.2.2.2.2 | omega⟩ (rng_to _) (fun g1002 => ?_) (fun g1002 => ?_)
      ·
        refine WS_lv (lv := [(0, .ref (A 179)), (1, .int (Int32.ofInt xv)), (2, .int (Int32.ofInt yv)), (3, .int (Int32.ofInt iv)), (4, .int (Int32.ofInt c))]) (List.forall_mem_cons.mpr ⟨(List.Mem.head _), (List.forall_mem_cons.mpr ⟨(List.Mem.tail _ (List.Mem.head _)), (List.forall_mem_cons.mpr ⟨(List.Mem.tail _ (List.Mem.tail _ (List.Mem.head _))), (List.forall_mem_cons.mpr ⟨(List.Mem.tail _ (List.Mem.tail _ (List.Mem.tail _ (List.Mem.head _)))), (List.forall_mem_cons.mpr ⟨(List.Mem.tail _ (List.Mem.tail _ (List.Mem.tail _ (List.Mem.tail _ (List.Mem.head _))))), (fun q h => absurd h List.not_mem_nil)⟩)⟩)⟩)⟩)⟩) ?_
        exact kx _ xv yv iv c I F (by first | exact ⟨And.intro (hi.1.1) (hi.1.2), And.intro (hi.2.1.1) (hi.2.1.2), hi.2.2.1, hi.2.2.2.1, hi.2.2.2.2⟩ | omega)
      ·
        refine z_load_n X (x := iv) (show cdA 280 16 = some (.iload_n 3, 1, 0, 0, 0) from rfl) (List.Mem.tail _ (List.Mem.tail _ (List.Mem.tail _ (List.Mem.head _)))) ?_
        have N1003 : ∀ e1004 : Int, (((iv ≠ 0) ∧ e1004 = 1) ∨ ((iv = 0) ∧ ((0 : Int) ≤ (iC t (166 + (xv : Int).toNat) (c : Int).toNat) ∧ (iC t (166 + (xv : Int).toNat) (c : Int).toNat) ≤ 127) ∧ ((0 : Int) ≤ iC t 399 ((iC t (166 + (xv : Int).toNat) (c : Int).toNat)).toNat ∧ iC t 399 ((iC t (166 + (xv : Int).toNat) (c : Int).toNat)).toNat ≤ 1) ∧ ((iC t 399 ((iC t (166 + (xv : Int).toNat) (c : Int).toNat)).toNat) = 0) ∧ e1004 = 0) ∨ ((iv = 0) ∧ ((0 : Int) ≤ (iC t (166 + (xv : Int).toNat) (c : Int).toNat) ∧ (iC t (166 + (xv : Int).toNat) (c : Int).toNat) ≤ 127) ∧ ((0 : Int) ≤ iC t 399 ((iC t (166 + (xv : Int).toNat) (c : Int).toNat)).toNat ∧ iC t 399 ((iC t (166 + (xv : Int).toNat) (c : Int).toNat)).toNat ≤ 1) ∧ ((iC t 399 ((iC t (166 + (xv : Int).toNat) (c : Int).toNat)).toNat) ≠ 0) ∧ e1004 = 1)) → WS k 42 [(0, .ref (A 179)), (1, .int (Int32.ofInt xv)), (2, .int (Int32.ofInt yv)), (3, .int (Int32.ofInt iv)), (4, .int (Int32.ofInt c))] [.int (Int32.ofInt e1004)] (Wd A dT t) 0 0 := by
          intro e1004 he1004
          have re1004 : 0 ≤ e1004 ∧ e1004 ≤ 1 := by omega
          refine z_store_n X (lv' := [(3, .int (Int32.ofInt e1004)), (0, .ref (A 179)), (1, .int (Int32.ofInt xv)), (2, .int (Int32.ofInt yv)), (4, .int (Int32.ofInt c))]) (show cdA 280 42 = some (.istore_n 3, 1, 0, 0, 0) from rfl) (by decide) (fun _ h => h) ?_
          refine z_inc X (x := c) (lv' := [(4, .int (Int32.ofInt (c + 1))), (3, .int (Int32.ofInt e1004)), (0, .ref (A 179)), (1, .int (Int32.ofInt xv)), (2, .int (Int32.ofInt yv))]) (show cdA 280 43 = some (.iinc 4 1, 3, 0, 0, 0) from rfl) (by decide) (List.Mem.tail _ (List.Mem.tail _ (List.Mem.tail _ (List.Mem.tail _ (List.Mem.head _))))) (fun _ h => h) ?_
          refine z_goto X (t := 5) (show cdA 280 46 = some (.goto (-41), 3, 0, 0, 0) from rfl) (by decide) ?_
          refine WS_lv (lv := [(0, .ref (A 179)), (1, .int (Int32.ofInt xv)), (2, .int (Int32.ofInt yv)), (3, .int (Int32.ofInt e1004)), (4, .int (Int32.ofInt (c + 1)))]) (List.forall_mem_cons.mpr ⟨(List.Mem.tail _ (List.Mem.tail _ (List.Mem.head _))), (List.forall_mem_cons.mpr ⟨(List.Mem.tail _ (List.Mem.tail _ (List.Mem.tail _ (List.Mem.head _)))), (List.forall_mem_cons.mpr ⟨(List.Mem.tail _ (List.Mem.tail _ (List.Mem.tail _ (List.Mem.tail _ (List.Mem.head _))))), (List.forall_mem_cons.mpr ⟨(List.Mem.tail _ (List.Mem.head _)), (List.forall_mem_cons.mpr ⟨(List.Mem.head _), (fun q h => absurd h List.not_mem_nil)⟩)⟩)⟩)⟩)⟩) ?_
          exact ih _ xv yv e1004 (c + 1) I F (by first | exact ⟨And.intro (hi.1.1) (hi.1.2), And.intro (hi.2.1.1) (hi.2.1.2), oq_31e518ae re1004.2 re1004.1, oq_54f49eb5 hi.2.2.2.1, oq_41473be0 g1002 b1001.2⟩ | omega) (by first | exact qk_me hm (by decide) (oq_9dea93e6 g1002 b1001.2) | omega) kx
        refine z_if_ne X (t := 37) (show cdA 280 17 = some (.ifCond .ne 20, 3, 1, 0, 0) from rfl) (by decide) ⟨by first | exact oq_bde653e9 hi.2.2.1 | omega, by first | exact oq_4ad2cb8b hi.2.2.1 | omega⟩ (fun g1005 => ?_) (fun g1005 => ?_)
        ·
          refine z_const X (show cdA 280 37 = some (.iconst 1, 1, 0, 0, 0) from rfl) ?_
          refine z_goto X (t := 42) (show cdA 280 38 = some (.goto 4, 3, 0, 0, 0) from rfl) (by decide) ?_
          exact N1003 _ (Or.inl ⟨g1005, rfl⟩)
        ·
          refine z_aload_n X (x := A 179) (show cdA 280 20 = some (.aload_n 0, 1, 0, 0, 0) from rfl) (List.Mem.head _) ?_
          refine s_getR X 179 (show cdA 280 21 = some (.getfield 139, 3, 12, 67, 0) from rfl) (by decide) rfl rfl ?_
          refine z_aload_n X (x := A 179) (show cdA 280 24 = some (.aload_n 0, 1, 0, 0, 0) from rfl) (List.Mem.head _) ?_
          refine s_getR X 179 (show cdA 280 25 = some (.getfield 49, 3, 12, 28, 0) from rfl) (by decide) rfl rfl ?_
          refine z_load_n X (x := xv) (show cdA 280 28 = some (.iload_n 1, 1, 0, 0, 0) from rfl) (List.Mem.tail _ (List.Mem.head _)) ?_
          refine z_aald X rw_189 (show cdA 280 29 = some (.aaload, 1, 0, 0, 0) from rfl) (by first | exact hi.1.1 | omega) (show xv < 12 by first | exact oq_0ddfcfee hi.1.2 | omega) (by decide) ?_
          refine z_load X (x := c) (show cdA 280 30 = some (.iload 4, 2, 0, 0, 0) from rfl) (List.Mem.tail _ (List.Mem.tail _ (List.Mem.tail _ (List.Mem.tail _ (List.Mem.head _))))) ?_
          refine z_ald2 X rw_189 (show cdA 280 32 = some (.iaload, 1, 0, 0, 0) from rfl) (show (xv : Int).toNat < 12 by first | exact oq_9c5fa447 hi.1.2 | omega) (by first | exact hi.2.2.2.1 | omega) (show c < 24 by first | exact oq_8ff7beb9 g1002 b1001.2 | omega) (by decide) ?_
          have b1006 : (0 : Int) ≤ (iC t (166 + (xv : Int).toNat) (c : Int).toNat) ∧ (iC t (166 + (xv : Int).toNat) (c : Int).toNat) ≤ 127 := rw_bd rw_189 I (show (xv : Int).toNat < 12 by first | exact oq_9c5fa447 hi.1.2 | omega) (show (c : Int).toNat < 24 by first | exact oq_9e668fc9 g1002 b1001.2 | omega)
          refine z_zald X 454 (show cdA 280 33 = some (.baload, 1, 0, 0, 0) from rfl) (by decide) rfl (by first | exact b1006.1 | omega) (show (iC t (166 + (xv : Int).toNat) (c : Int).toNat) < 128 by first | exact oq_31b2bf10 b1006.2 | omega) (by decide) ?_
          have b1007 : (0 : Int) ≤ iC t 399 ((iC t (166 + (xv : Int).toNat) (c : Int).toNat)).toNat ∧ iC t 399 ((iC t (166 + (xv : Int).toNat) (c : Int).toNat)).toNat ≤ 1 := I.2 399 _ (show ((iC t (166 + (xv : Int).toNat) (c : Int).toNat)).toNat < 128 by first | exact oq_c7f4e9c1 b1006.2 | omega)
          refine z_if_eq X (t := 41) (show cdA 280 34 = some (.ifCond .eq 7, 3, 0, 0, 0) from rfl) (by decide) (rng_to _) (fun g1008 => ?_) (fun g1008 => ?_)
          ·
            refine z_const X (show cdA 280 41 = some (.iconst 0, 1, 0, 0, 0) from rfl) ?_
            exact N1003 _ (Or.inr (Or.inl ⟨g1005, b1006, b1007, g1008, rfl⟩))
          ·
            refine z_const X (show cdA 280 37 = some (.iconst 1, 1, 0, 0, 0) from rfl) ?_
            refine z_goto X (t := 42) (show cdA 280 38 = some (.goto 4, 3, 0, 0, 0) from rfl) (by decide) ?_
            exact N1003 _ (Or.inr (Or.inr (⟨g1005, b1006, b1007, g1008, rfl⟩)))
  refine z_const X (show cdA 280 0 = some (.iconst 0, 1, 0, 0, 0) from rfl) ?_
  refine z_store_n X (lv' := [(3, .int (Int32.ofInt 0)), (0, .ref (A 179)), (1, .int (Int32.ofInt x)), (2, .int (Int32.ofInt y))]) (show cdA 280 1 = some (.istore_n 3, 1, 0, 0, 0) from rfl) (by decide) (fun _ h => h) ?_
  refine z_const X (show cdA 280 2 = some (.iconst 0, 1, 0, 0, 0) from rfl) ?_
  refine z_store X (lv' := [(4, .int (Int32.ofInt 0)), (3, .int (Int32.ofInt 0)), (0, .ref (A 179)), (1, .int (Int32.ofInt x)), (2, .int (Int32.ofInt y))]) (show cdA 280 3 = some (.istore 4, 2, 0, 0, 0) from rfl) (by decide) (fun _ h => h) ?_
  refine WS_lv (lv := [(0, .ref (A 179)), (1, .int (Int32.ofInt x)), (2, .int (Int32.ofInt y)), (3, .int (Int32.ofInt 0)), (4, .int (Int32.ofInt 0))]) (List.forall_mem_cons.mpr ⟨(List.Mem.tail _ (List.Mem.tail _ (List.Mem.head _))), (List.forall_mem_cons.mpr ⟨(List.Mem.tail _ (List.Mem.tail _ (List.Mem.tail _ (List.Mem.head _)))), (List.forall_mem_cons.mpr ⟨(List.Mem.tail _ (List.Mem.tail _ (List.Mem.tail _ (List.Mem.tail _ (List.Mem.head _))))), (List.forall_mem_cons.mpr ⟨(List.Mem.tail _ (List.Mem.head _)), (List.forall_mem_cons.mpr ⟨(List.Mem.head _), (fun q h => absurd h List.not_mem_nil)⟩)⟩)⟩)⟩)⟩) ?_
  refine L5 ((24 - 0 : Int).toNat + 1) s x y 0 0 I F (by first | exact ⟨And.intro (p0.1) (p0.2), And.intro (p1.1) (p1.2), Or.inl (by decide), by decide, by decide⟩ | omega) (Nat.lt_succ_self _) ?_
  intro s1 x2 x3 x4 x5 Is1 Fs1 hs1
  refine z_load_n X (x := x4) (show cdA 280 49 = some (.iload_n 3, 1, 0, 0, 0) from rfl) (List.Mem.tail _ (List.Mem.tail _ (List.Mem.tail _ (List.Mem.head _)))) ?_
  refine z_if_eq X (t := 66) (show cdA 280 50 = some (.ifCond .eq 16, 3, 0, 0, 0) from rfl) (by decide) ⟨by first | exact oq_bde653e9 hs1.2.2.1 | omega, by first | exact oq_4ad2cb8b hs1.2.2.1 | omega⟩ (fun g6 => ?_) (fun g6 => ?_)
  ·
    refine z_const X (show cdA 280 66 = some (.iconst 0, 1, 0, 0, 0) from rfl) ?_
    exact w_iret X.1 q hRt (nar_ret (by first | exact Or.inl (by decide) | omega)) (ax_d X (show cdA 280 67 = some (.ireturn, 1, 0, 0, 0) from rfl)) (Nat.zero_le _) (Nat.zero_le _) ⟨_, rfl, Is1, Fs1, 0, rfl, (by decide), by first | exact Or.inl (by decide) | omega⟩
  ·
    refine z_aload_n X (x := A 179) (show cdA 280 53 = some (.aload_n 0, 1, 0, 0, 0) from rfl) (List.Mem.head _) ?_
    refine z_load_n X (x := x2) (show cdA 280 54 = some (.iload_n 1, 1, 0, 0, 0) from rfl) (List.Mem.tail _ (List.Mem.head _)) ?_
    refine z_load_n X (x := x3) (show cdA 280 55 = some (.iload_n 2, 1, 0, 0, 0) from rfl) (List.Mem.tail _ (List.Mem.tail _ (List.Mem.head _))) ?_
    refine z_callV X 179 (rm := rmN 220) (As := [.int (Int32.ofInt x2), .int (Int32.ofInt x3)]) (st := []) (show cdA 280 56 = some (.invokevirtual 303, 3, 220, 0, 0) from rfl) rfl (by decide) rfl (by rw [E.1, E.2.1, E.2.2.1]; exact k_mostOf G Is1 (by first | exact ⟨hs1.1.1, hs1.1.2⟩ | omega) (by first | exact ⟨hs1.2.1.1, hs1.2.1.2⟩ | omega)) ⟨by rw [E.2.2.2]; exact (show (rmN 220).frames + 1 ≤ (rmN 280).frames by decide), by rw [E.2.2.2]; exact (show 8 + (mNL (miB 220) + 11) + (rmN 220).locals ≤ (rmN 280).locals by decide), by rw [E.2.2.2]; exact (show 0 + (rmN 220).cells ≤ (rmN 280).cells by decide), by rw [E.2.2.2]; exact (show 0 + (rmN 220).slots ≤ (rmN 280).slots by decide)⟩ (Nat.le_of_ble_eq_true rfl) (fun vv s7 hq => ?_) (fun ee s7 hq => ?_)
    rotate_left
    · obtain ⟨Is7, Fs7, e8, hv, hrs7, hps7⟩ := hq; cases hv
    obtain ⟨Is7, Fs7, e8, hv, hrs7, hps7⟩ := hq
    cases hv
    have Gs7 := fm_ts Fs1 Fs7 (by decide) (by decide)
    show WS k 59 [(0, .ref (A 179)), (1, .int (Int32.ofInt x2)), (2, .int (Int32.ofInt x3)), (3, .int (Int32.ofInt x4)), (4, .int (Int32.ofInt x5))] [.int (Int32.ofInt e8)] (Wd A dT s7) 0 0
    have N9 : ∀ e10 : Int, (((e8 ≤ 0) ∧ e10 = 0) ∨ ((0 < e8) ∧ e10 = 1)) → WS k 67 [(0, .ref (A 179)), (1, .int (Int32.ofInt x2)), (2, .int (Int32.ofInt x3)), (3, .int (Int32.ofInt x4)), (4, .int (Int32.ofInt x5))] [.int (Int32.ofInt e10)] (Wd A dT s7) 0 0 := by
      intro e10 he10
      have re10 : 0 ≤ e10 ∧ e10 ≤ 1 := by omega
      exact w_iret X.1 q hRt (nar_ret (by first | exact oq_31e518ae re10.2 re10.1 | omega)) (ax_d X (show cdA 280 67 = some (.ireturn, 1, 0, 0, 0) from rfl)) (Nat.zero_le _) (Nat.zero_le _) ⟨_, rfl, Is7, Gs7, e10, rfl, ⟨by first | exact oq_fa4e5087 re10.1 | omega, by first | exact oq_22e1e6b0 re10.2 | omega⟩, by first | exact oq_31e518ae re10.2 re10.1 | omega⟩
    refine z_if_le X (t := 66) (show cdA 280 59 = some (.ifCond .le 7, 3, 5, 0, 0) from rfl) (by decide) hrs7 (fun g11 => ?_) (fun g11 => ?_)
    ·
      refine z_const X (show cdA 280 66 = some (.iconst 0, 1, 0, 0, 0) from rfl) ?_
      exact N9 _ (Or.inl ⟨g11, rfl⟩)
    ·
      refine z_const X (show cdA 280 62 = some (.iconst 1, 1, 0, 0, 0) from rfl) ?_
      refine z_goto X (t := 67) (show cdA 280 63 = some (.goto 4, 3, 0, 0, 0) from rfl) (by decide) ?_
      exact N9 _ (Or.inr (⟨g11, rfl⟩))
theorem k_quiet (G : GX l s0 D tys a0 dT) (I : Bd s) {x : Int} (p0 : rng x) : CT l s0 D A dT 292 (rmN 292) [.ref (A 179), .int (Int32.ofInt x)] s (fun o t => Bd t ∧ Fm [73] [] s t ∧ ∃ e, o = .inl (some (.int (Int32.ofInt e))) ∧ rng e ∧ (True)) := by
  refine ct_of G (by decide) (Nat.le_of_ble_eq_true rfl) (fun k X E hRt hXt q => ?_)
  show WS k 0 [(0, .ref (A 179)), (1, .int (Int32.ofInt x))] [] _ 0 0
  have F : Fm [73] [] s s := fm_rf _ _ s
  have b1 : (0 : Int) ≤ iI s 73 ∧ iI s 73 ≤ 3 := I.1 73
  have b2 : (0 : Int) ≤ iI s 90 ∧ iI s 90 ≤ 12 := I.1 90
  have L34 : ∀ (n : Nat) (t : PS) (xv nv c : Int), Bd t → Fm [73] [] s t → ((0 ≤ xv ∧ xv ≤ 127) ∧ 0 ≤ nv ∧ nv ≤ 1200 * c ∧ 0 ≤ c ∧ c ≤ 12) → (12 - c : Int).toNat < n → (∀ (t' : PS) (xv' nv' c' : Int), Bd t' → Fm [73] [] s t' → ((0 ≤ xv' ∧ xv' ≤ 127) ∧ 0 ≤ nv' ∧ nv' ≤ 1200 * c' ∧ 0 ≤ c' ∧ c' ≤ 12) → WS k 72 [(0, .ref (A 179)), (1, .int (Int32.ofInt xv')), (2, .int (Int32.ofInt nv')), (3, .int (Int32.ofInt c'))] [] (Wd A dT t') 0 0) → WS k 34 [(0, .ref (A 179)), (1, .int (Int32.ofInt xv)), (2, .int (Int32.ofInt nv)), (3, .int (Int32.ofInt c))] [] (Wd A dT t) 0 0 := by
    intro n
    induction n with
    | zero =>
      intro t xv nv c I F hi hm kx
      exact absurd hm (Nat.not_lt_zero _)
    | succ n ih =>
      intro t xv nv c I F hi hm kx
      have b1001 : (0 : Int) ≤ iI t 73 ∧ iI t 73 ≤ 3 := I.1 73
      have b1002 : (0 : Int) ≤ iI t 90 ∧ iI t 90 ≤ 12 := I.1 90
      refine z_load_n X (x := c) (show cdA 292 34 = some (.iload_n 3, 1, 0, 0, 0) from rfl) (List.Mem.tail _ (List.Mem.tail _ (List.Mem.tail _ (List.Mem.head _)))) ?_
      refine z_aload_n X (x := A 179) (show cdA 292 35 = some (.aload_n 0, 1, 0, 0, 0) from rfl) (List.Mem.head _) ?_
      refine z_getI X 179 (show cdA 292 36 = some (.getfield 233, 3, 12, 22, 0) from rfl) (by decide) rfl rfl ?_
      have b1003 : (0 : Int) ≤ iI t 90 ∧ iI t 90 ≤ 12 := I.1 90
      refine z_icmp_ge X (t := 72) (show cdA 292 39 = some (.if_icmp .ge 33, 3, 3, 0, 0) from rfl) (by decide) ⟨by first | exact oq_fa4e5087 hi.2.2.2.1 | omega, by first | exact oq_78843a64 hi.2.2.2.2 | omega⟩ (rng_to _) (fun g1004 => ?_) (fun g1004 => ?_)
      ·
        refine WS_lv (lv := [(0, .ref (A 179)), (1, .int (Int32.ofInt xv)), (2, .int (Int32.ofInt nv)), (3, .int (Int32.ofInt c))]) (List.forall_mem_cons.mpr ⟨(List.Mem.head _), (List.forall_mem_cons.mpr ⟨(List.Mem.tail _ (List.Mem.head _)), (List.forall_mem_cons.mpr ⟨(List.Mem.tail _ (List.Mem.tail _ (List.Mem.head _))), (List.forall_mem_cons.mpr ⟨(List.Mem.tail _ (List.Mem.tail _ (List.Mem.tail _ (List.Mem.head _)))), (fun q h => absurd h List.not_mem_nil)⟩)⟩)⟩)⟩) ?_
        exact kx _ xv nv c I F (by first | exact ⟨And.intro (hi.1.1) (hi.1.2), hi.2.1, hi.2.2.1, hi.2.2.2.1, hi.2.2.2.2⟩ | omega)
      ·
        refine z_load_n X (x := nv) (show cdA 292 42 = some (.iload_n 2, 1, 0, 0, 0) from rfl) (List.Mem.tail _ (List.Mem.tail _ (List.Mem.head _))) ?_
        refine z_aload_n X (x := A 179) (show cdA 292 43 = some (.aload_n 0, 1, 0, 0, 0) from rfl) (List.Mem.head _) ?_
        refine s_getR X 179 (show cdA 292 44 = some (.getfield 52, 3, 12, 29, 0) from rfl) (by decide) rfl rfl ?_
        refine z_load_n X (x := c) (show cdA 292 47 = some (.iload_n 3, 1, 0, 0, 0) from rfl) (List.Mem.tail _ (List.Mem.tail _ (List.Mem.tail _ (List.Mem.head _)))) ?_
        refine z_aald X rw_202 (show cdA 292 48 = some (.aaload, 1, 0, 0, 0) from rfl) (by first | exact hi.2.2.2.1 | omega) (show c < 12 by first | exact oq_f36e82a8 g1004 b1003.2 | omega) (by decide) ?_
        refine z_load_n X (x := xv) (show cdA 292 49 = some (.iload_n 1, 1, 0, 0, 0) from rfl) (List.Mem.tail _ (List.Mem.head _)) ?_
        refine z_ald2 X rw_202 (show cdA 292 50 = some (.iaload, 1, 0, 0, 0) from rfl) (show (c : Int).toNat < 12 by first | exact oq_2dac6850 g1004 b1003.2 | omega) (by first | exact hi.1.1 | omega) (show xv < 128 by first | exact oq_31b2bf10 hi.1.2 | omega) (by decide) ?_
        have b1005 : ((-1) : Int) ≤ (iC t (178 + (c : Int).toNat) (xv : Int).toNat) ∧ (iC t (178 + (c : Int).toNat) (xv : Int).toNat) ≤ 23 := rw_bd rw_202 I (show (c : Int).toNat < 12 by first | exact oq_2dac6850 g1004 b1003.2 | omega) (show (xv : Int).toNat < 128 by first | exact oq_c7f4e9c1 hi.1.2 | omega)
        refine z_const X (show cdA 292 51 = some (.iconst (-1), 1, 0, 0, 0) from rfl) ?_
        refine z_icmp_ne X (t := 59) (show cdA 292 52 = some (.if_icmp .ne 7, 3, 1, 0, 0) from rfl) (by decide) (rng_to _) (by decide) (fun g1006 => ?_) (fun g1006 => ?_)
        ·
          refine z_aload_n X (x := A 179) (show cdA 292 59 = some (.aload_n 0, 1, 0, 0, 0) from rfl) (List.Mem.head _) ?_
          refine z_load_n X (x := c) (show cdA 292 60 = some (.iload_n 3, 1, 0, 0, 0) from rfl) (List.Mem.tail _ (List.Mem.tail _ (List.Mem.tail _ (List.Mem.head _)))) ?_
          refine z_callV X 179 (rm := rmN 248) (As := [.int (Int32.ofInt c)]) (st := [.int (Int32.ofInt nv)]) (show cdA 292 61 = some (.invokevirtual 354, 3, 248, 0, 0) from rfl) rfl (by decide) rfl (by rw [E.1, E.2.1, E.2.2.1]; exact k_total G I (by first | exact ⟨hi.2.2.2.1, oq_e4d7f3c5 g1004 b1003.2⟩ | omega)) ⟨by rw [E.2.2.2]; exact (show (rmN 248).frames + 1 ≤ (rmN 292).frames by decide), by rw [E.2.2.2]; exact (show 8 + (mNL (miB 248) + 11) + (rmN 248).locals ≤ (rmN 292).locals by decide), by rw [E.2.2.2]; exact (show 0 + (rmN 248).cells ≤ (rmN 292).cells by decide), by rw [E.2.2.2]; exact (show 0 + (rmN 248).slots ≤ (rmN 292).slots by decide)⟩ (Nat.le_of_ble_eq_true rfl) (fun vv s1007 hq => ?_) (fun ee s1007 hq => ?_)
          rotate_left
          · obtain ⟨Is1007, Fs1007, e1008, hv, hrs1007, hps1007⟩ := hq; cases hv
          obtain ⟨Is1007, Fs1007, e1008, hv, hrs1007, hps1007⟩ := hq
          cases hv
          have Gs1007 := fm_ts F Fs1007 (by decide) (by decide)
          have ws1007_73 : iI s1007 73 = iI t 73 := fm_i Fs1007 (by decide)
          have ws1007_90 : iI s1007 90 = iI t 90 := fm_i Fs1007 (by decide)
          show WS k 64 [(0, .ref (A 179)), (1, .int (Int32.ofInt xv)), (2, .int (Int32.ofInt nv)), (3, .int (Int32.ofInt c))] [.int (Int32.ofInt e1008), .int (Int32.ofInt nv)] (Wd A dT s1007) 0 0
          refine z_add X (show cdA 292 64 = some (.iadd, 1, 0, 0, 0) from rfl) ?_
          refine z_store_n X (lv' := [(2, .int (Int32.ofInt (nv + e1008))), (0, .ref (A 179)), (1, .int (Int32.ofInt xv)), (3, .int (Int32.ofInt c))]) (show cdA 292 65 = some (.istore_n 2, 1, 0, 0, 0) from rfl) (by decide) (fun _ h => h) ?_
          refine z_inc X (x := c) (lv' := [(3, .int (Int32.ofInt (c + 1))), (2, .int (Int32.ofInt (nv + e1008))), (0, .ref (A 179)), (1, .int (Int32.ofInt xv))]) (show cdA 292 66 = some (.iinc 3 1, 3, 0, 0, 0) from rfl) (by decide) (List.Mem.tail _ (List.Mem.tail _ (List.Mem.tail _ (List.Mem.head _)))) (fun _ h => h) ?_
          refine z_goto X (t := 34) (show cdA 292 69 = some (.goto (-35), 3, 0, 0, 0) from rfl) (by decide) ?_
          refine WS_lv (lv := [(0, .ref (A 179)), (1, .int (Int32.ofInt xv)), (2, .int (Int32.ofInt (nv + e1008))), (3, .int (Int32.ofInt (c + 1)))]) (List.forall_mem_cons.mpr ⟨(List.Mem.tail _ (List.Mem.tail _ (List.Mem.head _))), (List.forall_mem_cons.mpr ⟨(List.Mem.tail _ (List.Mem.tail _ (List.Mem.tail _ (List.Mem.head _)))), (List.forall_mem_cons.mpr ⟨(List.Mem.tail _ (List.Mem.head _)), (List.forall_mem_cons.mpr ⟨(List.Mem.head _), (fun q h => absurd h List.not_mem_nil)⟩)⟩)⟩)⟩) ?_
          exact ih _ xv (nv + e1008) (c + 1) Is1007 Gs1007 (by first | exact ⟨And.intro (hi.1.1) (hi.1.2), oq_dd29f52d hi.2.1 hps1007.1, oq_caa626b0 hi.2.2.1 hps1007.2, oq_54f49eb5 hi.2.2.2.1, oq_4dae995e g1004 b1003.2⟩ | omega) (by first | exact qk_me hm (by decide) (oq_b575e8c1 g1004 b1003.2) | omega) kx
        ·
          refine z_const X (show cdA 292 55 = some (.iconst 0, 1, 0, 0, 0) from rfl) ?_
          refine z_goto X (t := 64) (show cdA 292 56 = some (.goto 8, 3, 0, 0, 0) from rfl) (by decide) ?_
          refine z_add X (show cdA 292 64 = some (.iadd, 1, 0, 0, 0) from rfl) ?_
          refine z_store_n X (lv' := [(2, .int (Int32.ofInt (nv + 0))), (0, .ref (A 179)), (1, .int (Int32.ofInt xv)), (3, .int (Int32.ofInt c))]) (show cdA 292 65 = some (.istore_n 2, 1, 0, 0, 0) from rfl) (by decide) (fun _ h => h) ?_
          refine z_inc X (x := c) (lv' := [(3, .int (Int32.ofInt (c + 1))), (2, .int (Int32.ofInt (nv + 0))), (0, .ref (A 179)), (1, .int (Int32.ofInt xv))]) (show cdA 292 66 = some (.iinc 3 1, 3, 0, 0, 0) from rfl) (by decide) (List.Mem.tail _ (List.Mem.tail _ (List.Mem.tail _ (List.Mem.head _)))) (fun _ h => h) ?_
          refine z_goto X (t := 34) (show cdA 292 69 = some (.goto (-35), 3, 0, 0, 0) from rfl) (by decide) ?_
          refine WS_lv (lv := [(0, .ref (A 179)), (1, .int (Int32.ofInt xv)), (2, .int (Int32.ofInt (nv + 0))), (3, .int (Int32.ofInt (c + 1)))]) (List.forall_mem_cons.mpr ⟨(List.Mem.tail _ (List.Mem.tail _ (List.Mem.head _))), (List.forall_mem_cons.mpr ⟨(List.Mem.tail _ (List.Mem.tail _ (List.Mem.tail _ (List.Mem.head _)))), (List.forall_mem_cons.mpr ⟨(List.Mem.tail _ (List.Mem.head _)), (List.forall_mem_cons.mpr ⟨(List.Mem.head _), (fun q h => absurd h List.not_mem_nil)⟩)⟩)⟩)⟩) ?_
          exact ih _ xv (nv + 0) (c + 1) I F (by first | exact ⟨And.intro (hi.1.1) (hi.1.2), oq_590e7a3f hi.2.1, oq_48488ccf hi.2.2.1, oq_54f49eb5 hi.2.2.2.1, oq_4dae995e g1004 b1003.2⟩ | omega) (by first | exact qk_me hm (by decide) (oq_b575e8c1 g1004 b1003.2) | omega) kx
  refine z_aload_n X (x := A 179) (show cdA 292 0 = some (.aload_n 0, 1, 0, 0, 0) from rfl) (List.Mem.head _) ?_
  refine z_const X (show cdA 292 1 = some (.iconst 0, 1, 0, 0, 0) from rfl) ?_
  refine s_putI X 179 (show cdA 292 2 = some (.putfield 172, 3, 12, 0, 0) from rfl) (by decide) rfl rfl (by decide) rfl rfl rfl ?_
  obtain ⟨s3, hs3⟩ : ∃ x0, x0 = uI s 73 (Int32.ofInt 0) := ⟨_, rfl⟩
  rw [← hs3]
  have Is3 : Bd s3 := by rw [hs3]; exact bd_I I (show (0 : Int) ≤ 0 ∧ 0 ≤ 3 by first | exact ⟨by decide, by decide⟩ | omega) (by decide)
  have Fs3 := fm_I (x := Int32.ofInt 0) F (show 73 ∈ _ by decide)
  rw [← hs3] at Fs3
  have vs3 : iI s3 73 = 0 := by rw [hs3]; exact iI_u (by decide)
  have ws3_90 : iI s3 90 = iI s 90 := by rw [hs3]; rfl
  refine z_aload_n X (x := A 179) (show cdA 292 5 = some (.aload_n 0, 1, 0, 0, 0) from rfl) (List.Mem.head _) ?_
  refine z_load_n X (x := x) (show cdA 292 6 = some (.iload_n 1, 1, 0, 0, 0) from rfl) (List.Mem.tail _ (List.Mem.head _)) ?_
  refine z_const X (show cdA 292 7 = some (.iconst 0, 1, 0, 0, 0) from rfl) ?_
  refine z_bipush X (show cdA 292 8 = some (.bipush 127, 2, 0, 0, 127) from rfl) ?_
  refine z_callS X (rm := rmN 188) (As := [.int (Int32.ofInt x), .int (Int32.ofInt 0), .int (Int32.ofInt 127)]) (st := [.ref (A 179)]) (show cdA 292 10 = some (.invokestatic 209, 3, 188, 1, 0) from rfl) rfl (by rw [E.1, E.2.1, E.2.2.1]; exact k_in G Is3 (by first | exact ⟨p0.1, p0.2⟩ | omega) (by first | exact ⟨by decide, by decide⟩ | omega) (by first | exact ⟨by decide, by decide⟩ | omega)) ⟨by rw [E.2.2.2]; exact (show (rmN 188).frames + 1 ≤ (rmN 292).frames by decide), by rw [E.2.2.2]; exact (show 8 + (mNL (miB 188) + 11) + (rmN 188).locals ≤ (rmN 292).locals by decide), by rw [E.2.2.2]; exact (show 0 + (rmN 188).cells ≤ (rmN 292).cells by decide), by rw [E.2.2.2]; exact (show 0 + (rmN 188).slots ≤ (rmN 292).slots by decide)⟩ (Nat.le_of_ble_eq_true rfl) (fun vv s4 hq => ?_) (fun ee s4 hq => ?_)
  rotate_left
  · obtain ⟨Is4, Fs4, e5, hv, hrs4, hps4⟩ := hq; cases hv
  obtain ⟨Is4, Fs4, e5, hv, hrs4, hps4⟩ := hq
  cases hv
  have Gs4 := fm_ts Fs3 Fs4 (by decide) (by decide)
  have ws4_73 : iI s4 73 = iI s3 73 := fm_i Fs4 (by decide)
  have ws4_90 : iI s4 90 = iI s3 90 := fm_i Fs4 (by decide)
  show WS k 13 [(0, .ref (A 179)), (1, .int (Int32.ofInt x))] [.int (Int32.ofInt e5), .ref (A 179)] (Wd A dT s4) 0 0
  have N6 : ∀ e7 : Int, (((e5 ≠ 0) ∧ e7 = 0) ∨ ((e5 = 0) ∧ e7 = 1)) → WS k 21 [(0, .ref (A 179)), (1, .int (Int32.ofInt x))] [.int (Int32.ofInt e7), .ref (A 179)] (Wd A dT s4) 0 0 := by
    intro e7 he7
    have re7 : 0 ≤ e7 ∧ e7 ≤ 1 := by omega
    refine z_const X (show cdA 292 21 = some (.iconst 1, 1, 0, 0, 0) from rfl) ?_
    refine z_callV X 179 (rm := rmN 187) (As := [.int (Int32.ofInt e7), .int (Int32.ofInt 1)]) (st := []) (show cdA 292 22 = some (.invokevirtual 229, 3, 187, 0, 0) from rfl) rfl (by decide) rfl (by rw [E.1, E.2.1, E.2.2.1]; exact k_bad G Is4 (by first | exact oq_31e518ae re7.2 re7.1 | omega) (by first | exact ⟨by decide, by decide⟩ | omega)) ⟨by rw [E.2.2.2]; exact (show (rmN 187).frames + 1 ≤ (rmN 292).frames by decide), by rw [E.2.2.2]; exact (show 8 + (mNL (miB 187) + 11) + (rmN 187).locals ≤ (rmN 292).locals by decide), by rw [E.2.2.2]; exact (show 0 + (rmN 187).cells ≤ (rmN 292).cells by decide), by rw [E.2.2.2]; exact (show 0 + (rmN 187).slots ≤ (rmN 292).slots by decide)⟩ (Nat.le_of_ble_eq_true rfl) (fun vv s8 hq => ?_) (fun ee s8 hq => ?_)
    rotate_left
    · obtain ⟨Is8, Fs8, e9, hv, hrs8, hps8⟩ := hq; cases hv
    obtain ⟨Is8, Fs8, e9, hv, hrs8, hps8⟩ := hq
    cases hv
    have Gs8 := fm_ts Gs4 Fs8 (by decide) (by decide)
    have b10 : (0 : Int) ≤ iI s8 73 ∧ iI s8 73 ≤ 3 := Is8.1 73
    have ws8_90 : iI s8 90 = iI s4 90 := fm_i Fs8 (by decide)
    show WS k 25 [(0, .ref (A 179)), (1, .int (Int32.ofInt x))] [.int (Int32.ofInt e9)] (Wd A dT s8) 0 0
    refine z_if_eq X (t := 30) (show cdA 292 25 = some (.ifCond .eq 5, 3, 0, 0, 0) from rfl) (by decide) hrs8 (fun g11 => ?_) (fun g11 => ?_)
    ·
      refine z_const X (show cdA 292 30 = some (.iconst 0, 1, 0, 0, 0) from rfl) ?_
      refine z_store_n X (lv' := [(2, .int (Int32.ofInt 0)), (0, .ref (A 179)), (1, .int (Int32.ofInt x))]) (show cdA 292 31 = some (.istore_n 2, 1, 0, 0, 0) from rfl) (by decide) (fun _ h => h) ?_
      refine z_const X (show cdA 292 32 = some (.iconst 0, 1, 0, 0, 0) from rfl) ?_
      refine z_store_n X (lv' := [(3, .int (Int32.ofInt 0)), (2, .int (Int32.ofInt 0)), (0, .ref (A 179)), (1, .int (Int32.ofInt x))]) (show cdA 292 33 = some (.istore_n 3, 1, 0, 0, 0) from rfl) (by decide) (fun _ h => h) ?_
      refine WS_lv (lv := [(0, .ref (A 179)), (1, .int (Int32.ofInt x)), (2, .int (Int32.ofInt 0)), (3, .int (Int32.ofInt 0))]) (List.forall_mem_cons.mpr ⟨(List.Mem.tail _ (List.Mem.tail _ (List.Mem.head _))), (List.forall_mem_cons.mpr ⟨(List.Mem.tail _ (List.Mem.tail _ (List.Mem.tail _ (List.Mem.head _)))), (List.forall_mem_cons.mpr ⟨(List.Mem.tail _ (List.Mem.head _)), (List.forall_mem_cons.mpr ⟨(List.Mem.head _), (fun q h => absurd h List.not_mem_nil)⟩)⟩)⟩)⟩) ?_
      refine L34 ((12 - 0 : Int).toNat + 1) s8 x 0 0 Is8 Gs8 (by first | exact ⟨oq_0661024d g11 hps8.2.1 re7.2 he7 hps4, by decide, by decide, by decide, by decide⟩ | omega) (Nat.lt_succ_self _) ?_
      intro s12 x13 x14 x15 Is12 Fs12 hs12
      have b16 : (0 : Int) ≤ iI s12 73 ∧ iI s12 73 ≤ 3 := Is12.1 73
      have b17 : (0 : Int) ≤ iI s12 90 ∧ iI s12 90 ≤ 12 := Is12.1 90
      refine z_load_n X (x := x14) (show cdA 292 72 = some (.iload_n 2, 1, 0, 0, 0) from rfl) (List.Mem.tail _ (List.Mem.tail _ (List.Mem.head _))) ?_
      exact w_iret X.1 q hRt rfl (ax_d X (show cdA 292 73 = some (.ireturn, 1, 0, 0, 0) from rfl)) (Nat.zero_le _) (Nat.zero_le _) ⟨_, rfl, Is12, Fs12, x14, rfl, ⟨by first | exact oq_fa4e5087 hs12.2.1 | omega, by first | exact oq_df61579f hs12.2.2.1 hs12.2.2.2.2 | omega⟩, trivial⟩
    ·
      refine z_const X (show cdA 292 28 = some (.iconst 0, 1, 0, 0, 0) from rfl) ?_
      exact w_iret X.1 q hRt rfl (ax_d X (show cdA 292 29 = some (.ireturn, 1, 0, 0, 0) from rfl)) (Nat.zero_le _) (Nat.zero_le _) ⟨_, rfl, Is8, Gs8, 0, rfl, (by decide), trivial⟩
  refine z_if_ne X (t := 20) (show cdA 292 13 = some (.ifCond .ne 7, 3, 1, 0, 0) from rfl) (by decide) hrs4 (fun g18 => ?_) (fun g18 => ?_)
  ·
    refine z_const X (show cdA 292 20 = some (.iconst 0, 1, 0, 0, 0) from rfl) ?_
    exact N6 _ (Or.inl ⟨g18, rfl⟩)
  ·
    refine z_const X (show cdA 292 16 = some (.iconst 1, 1, 0, 0, 0) from rfl) ?_
    refine z_goto X (t := 21) (show cdA 292 17 = some (.goto 4, 3, 0, 0, 0) from rfl) (by decide) ?_
    exact N6 _ (Or.inr (⟨g18, rfl⟩))
theorem k_minutesOf (G : GX l s0 D tys a0 dT) (I : Bd s) {x y z : Int} (p0 : 0 ≤ x ∧ x ≤ 11) (p1 : 1 ≤ y ∧ y ≤ 3) (p2 : 0 ≤ z ∧ z ≤ 23) : CT l s0 D A dT 282 (rmN 282) [.ref (A 179), .int (Int32.ofInt x), .int (Int32.ofInt y), .int (Int32.ofInt z)] s (fun o t => Bd t ∧ Fm [] [] s t ∧ ∃ e, o = .inl (some (.int (Int32.ofInt e))) ∧ rng e ∧ (True)) := by
  refine ct_of G (by decide) (Nat.le_of_ble_eq_true rfl) (fun k X E hRt hXt q => ?_)
  show WS k 0 [(0, .ref (A 179)), (1, .int (Int32.ofInt x)), (2, .int (Int32.ofInt y)), (3, .int (Int32.ofInt z))] [] _ 0 0
  have F : Fm [] [] s s := fm_rf _ _ s
  refine z_aload_n X (x := A 179) (show cdA 282 0 = some (.aload_n 0, 1, 0, 0, 0) from rfl) (List.Mem.head _) ?_
  refine s_getR X 179 (show cdA 282 1 = some (.getfield 151, 3, 12, 71, 0) from rfl) (by decide) rfl rfl ?_
  refine z_load_n X (x := x) (show cdA 282 4 = some (.iload_n 1, 1, 0, 0, 0) from rfl) (List.Mem.tail _ (List.Mem.head _)) ?_
  refine z_ald X 458 (show cdA 282 5 = some (.iaload, 1, 0, 0, 0) from rfl) (by decide) rfl (by first | exact p0.1 | omega) (show x < 12 by first | exact oq_0ddfcfee p0.2 | omega) (by decide) ?_
  have b1 : (0 : Int) ≤ iC s 403 (x).toNat ∧ iC s 403 (x).toNat ≤ 24 := I.2 403 _ (show (x).toNat < 12 by first | exact oq_9c5fa447 p0.2 | omega)
  refine z_aload_n X (x := A 179) (show cdA 282 6 = some (.aload_n 0, 1, 0, 0, 0) from rfl) (List.Mem.head _) ?_
  refine s_getR X 179 (show cdA 282 7 = some (.getfield 35, 3, 12, 23, 0) from rfl) (by decide) rfl rfl ?_
  refine z_load_n X (x := x) (show cdA 282 10 = some (.iload_n 1, 1, 0, 0, 0) from rfl) (List.Mem.tail _ (List.Mem.head _)) ?_
  refine z_ald X 185 (show cdA 282 11 = some (.iaload, 1, 0, 0, 0) from rfl) (by decide) rfl (by first | exact p0.1 | omega) (show x < 12 by first | exact oq_0ddfcfee p0.2 | omega) (by decide) ?_
  have b2 : (0 : Int) ≤ iC s 162 (x).toNat ∧ iC s 162 (x).toNat ≤ 24 := I.2 162 _ (show (x).toNat < 12 by first | exact oq_9c5fa447 p0.2 | omega)
  refine z_sub X (show cdA 282 12 = some (.isub, 1, 0, 0, 0) from rfl) ?_
  refine z_store X (lv' := [(4, .int (Int32.ofInt ((iC s 403 (x).toNat) - (iC s 162 (x).toNat)))), (0, .ref (A 179)), (1, .int (Int32.ofInt x)), (2, .int (Int32.ofInt y)), (3, .int (Int32.ofInt z))]) (show cdA 282 13 = some (.istore 4, 2, 0, 0, 0) from rfl) (by decide) (fun _ h => h) ?_
  refine z_aload_n X (x := A 179) (show cdA 282 15 = some (.aload_n 0, 1, 0, 0, 0) from rfl) (List.Mem.tail _ (List.Mem.head _)) ?_
  refine z_load_n X (x := x) (show cdA 282 16 = some (.iload_n 1, 1, 0, 0, 0) from rfl) (List.Mem.tail _ (List.Mem.tail _ (List.Mem.head _))) ?_
  refine z_load_n X (x := z) (show cdA 282 17 = some (.iload_n 3, 1, 0, 0, 0) from rfl) (List.Mem.tail _ (List.Mem.tail _ (List.Mem.tail _ (List.Mem.tail _ (List.Mem.head _))))) ?_
  refine z_callV X 179 (rm := rmN 220) (As := [.int (Int32.ofInt x), .int (Int32.ofInt z)]) (st := []) (show cdA 282 18 = some (.invokevirtual 303, 3, 220, 0, 0) from rfl) rfl (by decide) rfl (by rw [E.1, E.2.1, E.2.2.1]; exact k_mostOf G I (by first | exact ⟨p0.1, p0.2⟩ | omega) (by first | exact ⟨p2.1, p2.2⟩ | omega)) ⟨by rw [E.2.2.2]; exact (show (rmN 220).frames + 1 ≤ (rmN 282).frames by decide), by rw [E.2.2.2]; exact (show 8 + (mNL (miB 220) + 11) + (rmN 220).locals ≤ (rmN 282).locals by decide), by rw [E.2.2.2]; exact (show 0 + (rmN 220).cells ≤ (rmN 282).cells by decide), by rw [E.2.2.2]; exact (show 0 + (rmN 220).slots ≤ (rmN 282).slots by decide)⟩ (Nat.le_of_ble_eq_true rfl) (fun vv s3 hq => ?_) (fun ee s3 hq => ?_)
  rotate_left
  · obtain ⟨Is3, Fs3, e4, hv, hrs3, hps3⟩ := hq; cases hv
  obtain ⟨Is3, Fs3, e4, hv, hrs3, hps3⟩ := hq
  cases hv
  have Gs3 := fm_ts F Fs3 (by decide) (by decide)
  show WS k 21 [(4, .int (Int32.ofInt ((iC s 403 (x).toNat) - (iC s 162 (x).toNat)))), (0, .ref (A 179)), (1, .int (Int32.ofInt x)), (2, .int (Int32.ofInt y)), (3, .int (Int32.ofInt z))] [.int (Int32.ofInt e4)] (Wd A dT s3) 0 0
  refine z_load_n X (x := y) (show cdA 282 21 = some (.iload_n 2, 1, 0, 0, 0) from rfl) (List.Mem.tail _ (List.Mem.tail _ (List.Mem.tail _ (List.Mem.head _)))) ?_
  refine z_const X (show cdA 282 22 = some (.iconst 1, 1, 0, 0, 0) from rfl) ?_
  refine z_icmp_ne X (t := 42) (show cdA 282 23 = some (.if_icmp .ne 19, 3, 1, 0, 0) from rfl) (by decide) ⟨by first | exact oq_9462313e p1.1 | omega, by first | exact oq_c5520c83 p1.2 | omega⟩ (by decide) (fun g5 => ?_) (fun g5 => ?_)
  ·
    refine z_load_n X (x := y) (show cdA 282 42 = some (.iload_n 2, 1, 0, 0, 0) from rfl) (List.Mem.tail _ (List.Mem.tail _ (List.Mem.tail _ (List.Mem.head _)))) ?_
    refine z_const X (show cdA 282 43 = some (.iconst 2, 1, 0, 0, 0) from rfl) ?_
    have N6 : ∀ e7 : Int, (((y ≠ 2) ∧ e7 = 60) ∨ ((y = 2) ∧ e7 = 15)) → WS k 54 [(4, .int (Int32.ofInt ((iC s 403 (x).toNat) - (iC s 162 (x).toNat)))), (0, .ref (A 179)), (1, .int (Int32.ofInt x)), (2, .int (Int32.ofInt y)), (3, .int (Int32.ofInt z))] [.int (Int32.ofInt e7), .int (Int32.ofInt e4)] (Wd A dT s3) 0 0 := by
      intro e7 he7
      have re7 : 15 ≤ e7 ∧ e7 ≤ 60 := by omega
      refine z_mul X (show cdA 282 54 = some (.imul, 1, 0, 0, 0) from rfl) ?_
      refine z_any (fun y8 hy8 => ?_)
      exact w_iret X.1 q hRt rfl (ax_d X (show cdA 282 55 = some (.ireturn, 1, 0, 0, 0) from rfl)) (Nat.zero_le _) (Nat.zero_le _) ⟨_, rfl, Is3, Gs3, y8, rfl, hy8, trivial⟩
    refine z_icmp_ne X (t := 52) (show cdA 282 44 = some (.if_icmp .ne 8, 3, 1, 0, 0) from rfl) (by decide) ⟨by first | exact oq_9462313e p1.1 | omega, by first | exact oq_c5520c83 p1.2 | omega⟩ (by decide) (fun g9 => ?_) (fun g9 => ?_)
    ·
      refine z_bipush X (show cdA 282 52 = some (.bipush 60, 2, 0, 0, 60) from rfl) ?_
      exact N6 _ (Or.inl ⟨g9, rfl⟩)
    ·
      refine z_bipush X (show cdA 282 47 = some (.bipush 15, 2, 0, 0, 15) from rfl) ?_
      refine z_goto X (t := 54) (show cdA 282 49 = some (.goto 5, 3, 0, 0, 0) from rfl) (by decide) ?_
      exact N6 _ (Or.inr (⟨g9, rfl⟩))
  ·
    refine z_const X (show cdA 282 26 = some (.iconst 2, 1, 0, 0, 0) from rfl) ?_
    refine z_load X (x := ((iC s 403 (x).toNat) - (iC s 162 (x).toNat))) (show cdA 282 27 = some (.iload 4, 2, 0, 0, 0) from rfl) (List.Mem.head _) ?_
    have N10 : ∀ e11 : Int, (((((iC s 403 (x).toNat) - (iC s 162 (x).toNat)) ≤ 0) ∧ e11 = 0) ∨ ((0 < ((iC s 403 (x).toNat) - (iC s 162 (x).toNat))) ∧ e11 = ((iC s 403 (x).toNat) - (iC s 162 (x).toNat)))) → WS k 38 [(4, .int (Int32.ofInt ((iC s 403 (x).toNat) - (iC s 162 (x).toNat)))), (0, .ref (A 179)), (1, .int (Int32.ofInt x)), (2, .int (Int32.ofInt y)), (3, .int (Int32.ofInt z))] [.int (Int32.ofInt e11), .int (Int32.ofInt 2), .int (Int32.ofInt e4)] (Wd A dT s3) 0 0 := by
      intro e11 he11
      refine z_mul X (show cdA 282 38 = some (.imul, 1, 0, 0, 0) from rfl) ?_
      refine z_any (fun y12 hy12 => ?_)
      refine z_goto X (t := 54) (show cdA 282 39 = some (.goto 15, 3, 0, 0, 0) from rfl) (by decide) ?_
      refine z_mul X (show cdA 282 54 = some (.imul, 1, 0, 0, 0) from rfl) ?_
      refine z_any (fun y13 hy13 => ?_)
      exact w_iret X.1 q hRt rfl (ax_d X (show cdA 282 55 = some (.ireturn, 1, 0, 0, 0) from rfl)) (Nat.zero_le _) (Nat.zero_le _) ⟨_, rfl, Is3, Gs3, y13, rfl, hy13, trivial⟩
    refine z_if_le X (t := 37) (show cdA 282 29 = some (.ifCond .le 8, 3, 5, 0, 0) from rfl) (by decide) ⟨by first | exact oq_5b45330b b1.1 b2.2 | omega, by first | exact oq_c3c0165d b1.2 b2.1 | omega⟩ (fun g14 => ?_) (fun g14 => ?_)
    ·
      refine z_const X (show cdA 282 37 = some (.iconst 0, 1, 0, 0, 0) from rfl) ?_
      exact N10 _ (Or.inl ⟨g14, rfl⟩)
    ·
      refine z_load X (x := ((iC s 403 (x).toNat) - (iC s 162 (x).toNat))) (show cdA 282 32 = some (.iload 4, 2, 0, 0, 0) from rfl) (List.Mem.head _) ?_
      refine z_goto X (t := 38) (show cdA 282 34 = some (.goto 4, 3, 0, 0, 0) from rfl) (by decide) ?_
      exact N10 _ (Or.inr (⟨g14, rfl⟩))
end M37
