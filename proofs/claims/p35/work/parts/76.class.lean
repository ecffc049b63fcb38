/-! The class: joins, region -/
section M76
variable {l : Launch} {s0 : State} {D : va_G} {tys : List (ClassId × FieldType)} {a0 : Array Value} {A : Nat → Nat} {dT : Nat → ClassId} {s : PS}
set_option maxRecDepth 4000 in
theorem c7_joinsHold_19 (G : GX l s0 D tys a0 dT) (I : Bd s) (p0 : iI s 12 ≤ 8) : CT l s0 D A dT 83 (rmN 83) [.ref (A 19), .ref (A 39)] s (fun o t => Bd t ∧ Fm [] [20] s t ∧ ∃ e, o = .inl (some (.int (Int32.ofInt e))) ∧ rng e ∧ (e = 0 ∨ e = 1)) := by
  refine ct_ofX G (by decide) (Nat.le_of_ble_eq_true rfl) (fun k X E ET hRt hXt q => ?_)
  show WS k 0 [(0, .ref (A 19)), (1, .ref (A 39))] [] _ 0 0
  have F : Fm [] [20] s s := fm_rf _ _ s
  have b1 : (0 : Int) ≤ iI s 12 ∧ iI s 12 ≤ 9 := I.1 12
  have L2 : ∀ (n : Nat) (t : PS) (c : Int), Bd t → Fm [] [20] s t → (0 ≤ c ∧ c ≤ 8 ∧ iI t 12 ≤ 8) → (8 - c : Int).toNat < n → (∀ (t' : PS) (c' : Int), Bd t' → Fm [] [20] s t' → (0 ≤ c' ∧ c' ≤ 8 ∧ iI t' 12 ≤ 8) → WS k 38 [(0, .ref (A 19)), (1, .ref (A 39)), (2, .int (Int32.ofInt c'))] [] (Wd A dT t') 0 0) → WS k 2 [(0, .ref (A 19)), (1, .ref (A 39)), (2, .int (Int32.ofInt c))] [] (Wd A dT t) 0 0 := by
    intro n
    induction n with
    | zero =>
      intro t c I F hi hm kx
      exact absurd hm (Nat.not_lt_zero _)
    | succ n ih =>
      intro t c I F hi hm kx
      have b1001 : (0 : Int) ≤ iI t 12 ∧ iI t 12 ≤ 9 := I.1 12
      refine z_load_n X (x := c) (show cdA 83 2 = some (.iload_n 2, 1, 0, 0, 0) from rfl) (List.Mem.tail _ (List.Mem.tail _ (List.Mem.head _))) ?_
      refine z_aload_n X (x := A 19) (show cdA 83 3 = some (.aload_n 0, 1, 0, 0, 0) from rfl) (List.Mem.head _) ?_
      refine z_getI X 19 (show cdA 83 4 = some (.getfield 60, 3, 7, 3, 0) from rfl) (by decide) rfl rfl ?_
      have b1002 : (0 : Int) ≤ iI t 12 ∧ iI t 12 ≤ 9 := I.1 12
      refine z_icmp_ge X (t := 38) (show cdA 83 7 = some (.if_icmp .ge 31, 3, 3, 0, 0) from rfl) (by decide) ⟨by first | exact oq_fa4e5087 hi.1 | omega, by first | exact oq_d3f5d874 hi.2.1 | omega⟩ (rng_to _) (fun g1003 => ?_) (fun g1003 => ?_)
      ·
        refine WS_lv (lv := [(0, .ref (A 19)), (1, .ref (A 39)), (2, .int (Int32.ofInt c))]) (List.forall_mem_cons.mpr ⟨(List.Mem.head _), (List.forall_mem_cons.mpr ⟨(List.Mem.tail _ (List.Mem.head _)), (List.forall_mem_cons.mpr ⟨(List.Mem.tail _ (List.Mem.tail _ (List.Mem.head _))), (fun q h => absurd h List.not_mem_nil)⟩)⟩)⟩) ?_
        exact kx _ c I F (by first | exact ⟨hi.1, hi.2.1, hi.2.2⟩ | omega)
      ·
        refine z_aload_n X (x := A 19) (show cdA 83 10 = some (.aload_n 0, 1, 0, 0, 0) from rfl) (List.Mem.head _) ?_
        refine z_getI X 19 (show cdA 83 11 = some (.getfield 63, 3, 7, 5, 0) from rfl) (by decide) rfl rfl ?_
        have b1004 : ((-2147483648) : Int) ≤ iI t 14 ∧ iI t 14 ≤ 2147483647 := I.1 14
        refine z_load_n X (x := c) (show cdA 83 14 = some (.iload_n 2, 1, 0, 0, 0) from rfl) (List.Mem.tail _ (List.Mem.tail _ (List.Mem.head _))) ?_
        refine z_bshr X (show cdA 83 15 = some (.ishr, 1, 0, 0, 0) from rfl) ?_
        refine z_any (fun y1005 hy1005 => ?_)
        refine z_const X (show cdA 83 16 = some (.iconst 1, 1, 0, 0, 0) from rfl) ?_
        refine z_band X (show cdA 83 17 = some (.iand, 1, 0, 0, 0) from rfl) ?_
        refine z_any (fun y1006 hy1006 => ?_)
        refine z_if_eq X (t := 32) (show cdA 83 18 = some (.ifCond .eq 14, 3, 0, 0, 0) from rfl) (by decide) hy1006 (fun g1007 => ?_) (fun g1007 => ?_)
        ·
          refine z_inc X (x := c) (lv' := [(2, .int (Int32.ofInt (c + 1))), (0, .ref (A 19)), (1, .ref (A 39))]) (show cdA 83 32 = some (.iinc 2 1, 3, 0, 0, 0) from rfl) (by decide) (List.Mem.tail _ (List.Mem.tail _ (List.Mem.head _))) (fun _ h => h) ?_
          refine z_goto X (t := 2) (show cdA 83 35 = some (.goto (-33), 3, 0, 0, 0) from rfl) (by decide) ?_
          refine WS_lv (lv := [(0, .ref (A 19)), (1, .ref (A 39)), (2, .int (Int32.ofInt (c + 1)))]) (List.forall_mem_cons.mpr ⟨(List.Mem.tail _ (List.Mem.head _)), (List.forall_mem_cons.mpr ⟨(List.Mem.tail _ (List.Mem.tail _ (List.Mem.head _))), (List.forall_mem_cons.mpr ⟨(List.Mem.head _), (fun q h => absurd h List.not_mem_nil)⟩)⟩)⟩) ?_
          exact ih _ (c + 1) I F (by first | exact ⟨oq_54f49eb5 hi.1, oq_f6204d84 g1003 hi.2.2, hi.2.2⟩ | omega) (by first | exact qk_me hm (by decide) (oq_ccc5e5e0 g1003 hi.2.2) | omega) kx
        ·
          refine z_aload_n X (x := A 19) (show cdA 83 21 = some (.aload_n 0, 1, 0, 0, 0) from rfl) (List.Mem.head _) ?_
          refine z_load_n X (x := c) (show cdA 83 22 = some (.iload_n 2, 1, 0, 0, 0) from rfl) (List.Mem.tail _ (List.Mem.tail _ (List.Mem.head _))) ?_
          refine z_aload_n X (x := A 39) (show cdA 83 23 = some (.aload_n 1, 1, 0, 0, 0) from rfl) (List.Mem.tail _ (List.Mem.head _)) ?_
          refine z_callV X 19 (rm := rmN 84) (As := [.int (Int32.ofInt c), .ref (A 39)]) (st := []) (show cdA 83 24 = some (.invokevirtual 150, 3, 84, 0, 0) from rfl) rfl (by decide) rfl (by rw [E.1, E.2.1, E.2.2.1]; exact c7_work_31 G I (by first | exact ⟨oq_ca54ea22 hi.1, oq_e297cd40 g1003 hi.2.2⟩ | omega)) ⟨by rw [E.2.2.2]; exact (show (rmN 84).frames + 1 ≤ (rmN 83).frames by decide), by rw [E.2.2.2]; exact (show 8 + (mNL (miB 84) + 11) + (rmN 84).locals ≤ (rmN 83).locals by decide), by rw [E.2.2.2]; exact (show 0 + (rmN 84).cells ≤ (rmN 83).cells by decide), by rw [E.2.2.2]; exact (show 0 + (rmN 84).slots ≤ (rmN 83).slots by decide)⟩ (Nat.le_of_ble_eq_true rfl) (fun vv s1008 hq => ?_) (fun ee s1008 hq => ?_)
          rotate_left
          · obtain ⟨Is1008, Fs1008, e1009, hv, hrs1008, hps1008⟩ := hq; cases hv
          obtain ⟨Is1008, Fs1008, e1009, hv, hrs1008, hps1008⟩ := hq
          cases hv
          have Gs1008 := fm_ts F Fs1008 (by decide) (by decide)
          have ws1008_12 : iI s1008 12 = iI t 12 := fm_i Fs1008 (by decide)
          show WS k 27 [(0, .ref (A 19)), (1, .ref (A 39)), (2, .int (Int32.ofInt c))] [.int (Int32.ofInt e1009)] (Wd A dT s1008) 0 0
          refine z_if_ne X (t := 32) (show cdA 83 27 = some (.ifCond .ne 5, 3, 1, 0, 0) from rfl) (by decide) hrs1008 (fun g1010 => ?_) (fun g1010 => ?_)
          ·
            refine z_inc X (x := c) (lv' := [(2, .int (Int32.ofInt (c + 1))), (0, .ref (A 19)), (1, .ref (A 39))]) (show cdA 83 32 = some (.iinc 2 1, 3, 0, 0, 0) from rfl) (by decide) (List.Mem.tail _ (List.Mem.tail _ (List.Mem.head _))) (fun _ h => h) ?_
            refine z_goto X (t := 2) (show cdA 83 35 = some (.goto (-33), 3, 0, 0, 0) from rfl) (by decide) ?_
            refine WS_lv (lv := [(0, .ref (A 19)), (1, .ref (A 39)), (2, .int (Int32.ofInt (c + 1)))]) (List.forall_mem_cons.mpr ⟨(List.Mem.tail _ (List.Mem.head _)), (List.forall_mem_cons.mpr ⟨(List.Mem.tail _ (List.Mem.tail _ (List.Mem.head _))), (List.forall_mem_cons.mpr ⟨(List.Mem.head _), (fun q h => absurd h List.not_mem_nil)⟩)⟩)⟩) ?_
            exact ih _ (c + 1) Is1008 Gs1008 (by first | exact ⟨oq_54f49eb5 hi.1, oq_f6204d84 g1003 hi.2.2, oq_86ef0b17 ws1008_12 hi.2.2⟩ | omega) (by first | exact qk_me hm (by decide) (oq_ccc5e5e0 g1003 hi.2.2) | omega) kx
          ·
            refine z_const X (show cdA 83 30 = some (.iconst 0, 1, 0, 0, 0) from rfl) ?_
            exact w_iret X.1 q hRt (nar_ret (by first | exact Or.inl (by decide) | omega)) (ax_d X (show cdA 83 31 = some (.ireturn, 1, 0, 0, 0) from rfl)) (Nat.zero_le _) (Nat.zero_le _) ⟨_, rfl, Is1008, Gs1008, 0, rfl, (by decide), by first | exact Or.inl (by decide) | omega⟩
  refine z_const X (show cdA 83 0 = some (.iconst 0, 1, 0, 0, 0) from rfl) ?_
  refine z_store_n X (lv' := [(2, .int (Int32.ofInt 0)), (0, .ref (A 19)), (1, .ref (A 39))]) (show cdA 83 1 = some (.istore_n 2, 1, 0, 0, 0) from rfl) (by decide) (fun _ h => h) ?_
  refine WS_lv (lv := [(0, .ref (A 19)), (1, .ref (A 39)), (2, .int (Int32.ofInt 0))]) (List.forall_mem_cons.mpr ⟨(List.Mem.tail _ (List.Mem.head _)), (List.forall_mem_cons.mpr ⟨(List.Mem.tail _ (List.Mem.tail _ (List.Mem.head _))), (List.forall_mem_cons.mpr ⟨(List.Mem.head _), (fun q h => absurd h List.not_mem_nil)⟩)⟩)⟩) ?_
  refine L2 ((8 - 0 : Int).toNat + 1) s 0 I F (by first | exact ⟨by decide, by decide, p0⟩ | omega) (Nat.lt_succ_self _) ?_
  intro s2 x3 Is2 Fs2 hs2
  have b4 : (0 : Int) ≤ iI s2 12 ∧ iI s2 12 ≤ 9 := Is2.1 12
  refine z_const X (show cdA 83 38 = some (.iconst 1, 1, 0, 0, 0) from rfl) ?_
  exact w_iret X.1 q hRt (nar_ret (by first | exact Or.inr (by decide) | omega)) (ax_d X (show cdA 83 39 = some (.ireturn, 1, 0, 0, 0) from rfl)) (Nat.zero_le _) (Nat.zero_le _) ⟨_, rfl, Is2, Fs2, 1, rfl, (by decide), by first | exact Or.inr (by decide) | omega⟩
set_option maxRecDepth 4000 in
theorem c5_add_46 (G : GX l s0 D tys a0 dT) (I : Bd s) {x : Int} (p0 : 0 ≤ x ∧ x ≤ 127) : CT l s0 D A dT 54 (rmN 54) [.ref (A 46), .int (Int32.ofInt x)] s (fun o t => Bd t ∧ Fm [28] [39] s t ∧ ∃ e, o = .inl (some (.int (Int32.ofInt e))) ∧ rng e ∧ (True)) := by
  refine ct_ofX G (by decide) (Nat.le_of_ble_eq_true rfl) (fun k X E ET hRt hXt q => ?_)
  show WS k 0 [(0, .ref (A 46)), (1, .int (Int32.ofInt x))] [] _ 0 0
  have F : Fm [28] [39] s s := fm_rf _ _ s
  have b1 : (0 : Int) ≤ iI s 28 ∧ iI s 28 ≤ 8 := I.1 28
  have L13 : ∀ (n : Nat) (t : PS) (xv c : Int), Bd t → Fm [28] [39] s t → ((0 ≤ xv ∧ xv ≤ 127) ∧ 0 ≤ c ∧ c ≤ 8 ∧ iI t 28 ≤ 7) → (8 - c : Int).toNat < n → (∀ (t' : PS) (c' : Int), Bd t' → Fm [28] [39] s t' → ((0 ≤ xv ∧ xv ≤ 127) ∧ 0 ≤ c' ∧ c' ≤ 8 ∧ iI t' 28 ≤ 7) → WS k 40 [(0, .ref (A 46)), (1, .int (Int32.ofInt xv)), (2, .int (Int32.ofInt c'))] [] (Wd A dT t') 0 0) → WS k 13 [(0, .ref (A 46)), (1, .int (Int32.ofInt xv)), (2, .int (Int32.ofInt c))] [] (Wd A dT t) 0 0 := by
    intro n
    induction n with
    | zero =>
      intro t xv c I F hi hm kx
      exact absurd hm (Nat.not_lt_zero _)
    | succ n ih =>
      intro t xv c I F hi hm kx
      have b1001 : (0 : Int) ≤ iI t 28 ∧ iI t 28 ≤ 8 := I.1 28
      refine z_load_n X (x := c) (show cdA 54 13 = some (.iload_n 2, 1, 0, 0, 0) from rfl) (List.Mem.tail _ (List.Mem.tail _ (List.Mem.head _))) ?_
      refine z_aload_n X (x := A 46) (show cdA 54 14 = some (.aload_n 0, 1, 0, 0, 0) from rfl) (List.Mem.head _) ?_
      refine z_getI X 46 (show cdA 54 15 = some (.getfield 42, 3, 5, 3, 0) from rfl) (by decide) rfl rfl ?_
      have b1002 : (0 : Int) ≤ iI t 28 ∧ iI t 28 ≤ 8 := I.1 28
      refine z_icmp_ge X (t := 40) (show cdA 54 18 = some (.if_icmp .ge 22, 3, 3, 0, 0) from rfl) (by decide) ⟨by first | exact oq_fa4e5087 hi.2.1 | omega, by first | exact oq_d3f5d874 hi.2.2.1 | omega⟩ (rng_to _) (fun g1003 => ?_) (fun g1003 => ?_)
      ·
        refine WS_lv (lv := [(0, .ref (A 46)), (1, .int (Int32.ofInt xv)), (2, .int (Int32.ofInt c))]) (List.forall_mem_cons.mpr ⟨(List.Mem.head _), (List.forall_mem_cons.mpr ⟨(List.Mem.tail _ (List.Mem.head _)), (List.forall_mem_cons.mpr ⟨(List.Mem.tail _ (List.Mem.tail _ (List.Mem.head _))), (fun q h => absurd h List.not_mem_nil)⟩)⟩)⟩) ?_
        exact kx _ c I F (by first | exact ⟨And.intro (hi.1.1) (hi.1.2), hi.2.1, hi.2.2.1, hi.2.2.2⟩ | omega)
      ·
        refine z_aload_n X (x := A 46) (show cdA 54 21 = some (.aload_n 0, 1, 0, 0, 0) from rfl) (List.Mem.head _) ?_
        refine s_getR X 46 (show cdA 54 22 = some (.getfield 11, 3, 5, 2, 0) from rfl) (by decide) rfl rfl ?_
        refine z_load_n X (x := c) (show cdA 54 25 = some (.iload_n 2, 1, 0, 0, 0) from rfl) (List.Mem.tail _ (List.Mem.tail _ (List.Mem.head _))) ?_
        refine z_ald X 47 (show cdA 54 26 = some (.iaload, 1, 0, 0, 0) from rfl) (by decide) rfl (by first | exact hi.2.1 | omega) (show c < 8 by first | exact oq_7f5b2e79 g1003 b1002.2 | omega) (by decide) ?_
        have b1004 : (0 : Int) ≤ iC t 39 (c).toNat ∧ iC t 39 (c).toNat ≤ 127 := I.2 39 _ (show (c).toNat < 8 by first | exact oq_67be0351 g1003 b1002.2 | omega)
        refine z_load_n X (x := xv) (show cdA 54 27 = some (.iload_n 1, 1, 0, 0, 0) from rfl) (List.Mem.tail _ (List.Mem.head _)) ?_
        refine z_icmp_ne X (t := 34) (show cdA 54 28 = some (.if_icmp .ne 6, 3, 1, 0, 0) from rfl) (by decide) (rng_to _) ⟨by first | exact oq_fa4e5087 hi.1.1 | omega, by first | exact oq_07d346ce hi.1.2 | omega⟩ (fun g1005 => ?_) (fun g1005 => ?_)
        ·
          refine z_inc X (x := c) (lv' := [(2, .int (Int32.ofInt (c + 1))), (0, .ref (A 46)), (1, .int (Int32.ofInt xv))]) (show cdA 54 34 = some (.iinc 2 1, 3, 0, 0, 0) from rfl) (by decide) (List.Mem.tail _ (List.Mem.tail _ (List.Mem.head _))) (fun _ h => h) ?_
          refine z_goto X (t := 13) (show cdA 54 37 = some (.goto (-24), 3, 0, 0, 0) from rfl) (by decide) ?_
          refine WS_lv (lv := [(0, .ref (A 46)), (1, .int (Int32.ofInt xv)), (2, .int (Int32.ofInt (c + 1)))]) (List.forall_mem_cons.mpr ⟨(List.Mem.tail _ (List.Mem.head _)), (List.forall_mem_cons.mpr ⟨(List.Mem.tail _ (List.Mem.tail _ (List.Mem.head _))), (List.forall_mem_cons.mpr ⟨(List.Mem.head _), (fun q h => absurd h List.not_mem_nil)⟩)⟩)⟩) ?_
          exact ih _ xv (c + 1) I F (by first | exact ⟨And.intro (hi.1.1) (hi.1.2), oq_54f49eb5 hi.2.1, oq_f6204d84 g1003 b1002.2, hi.2.2.2⟩ | omega) (by first | exact qk_me hm (by decide) (oq_ccc5e5e0 g1003 b1002.2) | omega) kx
        ·
          refine z_bipush X (show cdA 54 31 = some (.bipush (-2), 2, 0, 0, (-2)) from rfl) ?_
          exact w_iret X.1 q hRt rfl (ax_d X (show cdA 54 33 = some (.ireturn, 1, 0, 0, 0) from rfl)) (Nat.zero_le _) (Nat.zero_le _) ⟨_, rfl, I, F, (-2), rfl, (by decide), trivial⟩
  refine z_aload_n X (x := A 46) (show cdA 54 0 = some (.aload_n 0, 1, 0, 0, 0) from rfl) (List.Mem.head _) ?_
  refine z_getI X 46 (show cdA 54 1 = some (.getfield 42, 3, 5, 3, 0) from rfl) (by decide) rfl rfl ?_
  have b2 : (0 : Int) ≤ iI s 28 ∧ iI s 28 ≤ 8 := I.1 28
  refine z_bipush X (show cdA 54 4 = some (.bipush 8, 2, 0, 0, 8) from rfl) ?_
  refine z_icmp_lt X (t := 11) (show cdA 54 6 = some (.if_icmp .lt 5, 3, 2, 0, 0) from rfl) (by decide) (rng_to _) (by decide) (fun g3 => ?_) (fun g3 => ?_)
  ·
    refine z_const X (show cdA 54 11 = some (.iconst 0, 1, 0, 0, 0) from rfl) ?_
    refine z_store_n X (lv' := [(2, .int (Int32.ofInt 0)), (0, .ref (A 46)), (1, .int (Int32.ofInt x))]) (show cdA 54 12 = some (.istore_n 2, 1, 0, 0, 0) from rfl) (by decide) (fun _ h => h) ?_
    refine WS_lv (lv := [(0, .ref (A 46)), (1, .int (Int32.ofInt x)), (2, .int (Int32.ofInt 0))]) (List.forall_mem_cons.mpr ⟨(List.Mem.tail _ (List.Mem.head _)), (List.forall_mem_cons.mpr ⟨(List.Mem.tail _ (List.Mem.tail _ (List.Mem.head _))), (List.forall_mem_cons.mpr ⟨(List.Mem.head _), (fun q h => absurd h List.not_mem_nil)⟩)⟩)⟩) ?_
    refine L13 ((8 - 0 : Int).toNat + 1) s x 0 I F (by first | exact ⟨And.intro (p0.1) (p0.2), by decide, by decide, oq_78c639ed g3⟩ | omega) (Nat.lt_succ_self _) ?_
    intro s4 x5 Is4 Fs4 hs4
    have b6 : (0 : Int) ≤ iI s4 28 ∧ iI s4 28 ≤ 8 := Is4.1 28
    refine z_aload_n X (x := A 46) (show cdA 54 40 = some (.aload_n 0, 1, 0, 0, 0) from rfl) (List.Mem.head _) ?_
    refine s_getR X 46 (show cdA 54 41 = some (.getfield 11, 3, 5, 2, 0) from rfl) (by decide) rfl rfl ?_
    refine z_aload_n X (x := A 46) (show cdA 54 44 = some (.aload_n 0, 1, 0, 0, 0) from rfl) (List.Mem.head _) ?_
    refine z_getI X 46 (show cdA 54 45 = some (.getfield 42, 3, 5, 3, 0) from rfl) (by decide) rfl rfl ?_
    have b7 : (0 : Int) ≤ iI s4 28 ∧ iI s4 28 ≤ 8 := Is4.1 28
    refine z_load_n X (x := x) (show cdA 54 48 = some (.iload_n 1, 1, 0, 0, 0) from rfl) (List.Mem.tail _ (List.Mem.head _)) ?_
    refine z_ast X 47 (show cdA 54 49 = some (.iastore, 1, 0, 0, 0) from rfl) (by decide) rfl (by first | exact b7.1 | omega) (show (iI s4 28) < 8 by first | exact oq_aaea290e hs4.2.2.2 | omega) (by decide) ?_
    obtain ⟨s8, hs8⟩ : ∃ x0, x0 = uC s4 39 ((iI s4 28)).toNat (Int32.ofInt x) := ⟨_, rfl⟩
    rw [← hs8]
    have Is8 : Bd s8 := by rw [hs8]; exact bd_C Is4 (show (0 : Int) ≤ x ∧ x ≤ 127 by first | exact ⟨hs4.1.1, hs4.1.2⟩ | omega) ⟨by first | exact oq_fa4e5087 hs4.1.1 | omega, by first | exact oq_07d346ce hs4.1.2 | omega⟩
    have Fs8 := fm_C (i := ((iI s4 28)).toNat) (x := Int32.ofInt x) Fs4 (show 39 ∈ _ by decide)
    rw [← hs8] at Fs8
    have ws8_28 : iI s8 28 = iI s4 28 := by rw [hs8]; rfl
    refine z_aload_n X (x := A 46) (show cdA 54 50 = some (.aload_n 0, 1, 0, 0, 0) from rfl) (List.Mem.head _) ?_
    refine w_dup X.1 (ax_d X (show cdA 54 51 = some (.dup, 1, 0, 0, 0) from rfl)) rfl ?_
    refine z_getI X 46 (show cdA 54 52 = some (.getfield 42, 3, 5, 3, 0) from rfl) (by decide) rfl rfl ?_
    have b9 : (0 : Int) ≤ iI s8 28 ∧ iI s8 28 ≤ 8 := Is8.1 28
    refine z_const X (show cdA 54 55 = some (.iconst 1, 1, 0, 0, 0) from rfl) ?_
    refine z_add X (show cdA 54 56 = some (.iadd, 1, 0, 0, 0) from rfl) ?_
    refine s_putI X 46 (show cdA 54 57 = some (.putfield 42, 3, 5, 3, 0) from rfl) (by decide) rfl rfl (by decide) rfl rfl rfl ?_
    obtain ⟨s10, hs10⟩ : ∃ x0, x0 = uI s8 28 (Int32.ofInt ((iI s8 28) + 1)) := ⟨_, rfl⟩
    rw [← hs10]
    have Is10 : Bd s10 := by rw [hs10]; exact bd_I Is8 (show (0 : Int) ≤ ((iI s8 28) + 1) ∧ ((iI s8 28) + 1) ≤ 8 by first | exact ⟨oq_54f49eb5 b9.1, oq_216077ba ws8_28 hs4.2.2.2⟩ | omega) ⟨by first | exact oq_74de1e16 b9.1 | omega, by first | exact oq_3762dfb5 b9.2 | omega⟩
    have Fs10 := fm_I (x := Int32.ofInt ((iI s8 28) + 1)) Fs8 (show 28 ∈ _ by decide)
    rw [← hs10] at Fs10
    have vs10 : iI s10 28 = ((iI s8 28) + 1) := by rw [hs10]; exact iI_u ⟨by first | exact oq_74de1e16 b9.1 | omega, by first | exact oq_3762dfb5 b9.2 | omega⟩
    refine z_aload_n X (x := A 46) (show cdA 54 60 = some (.aload_n 0, 1, 0, 0, 0) from rfl) (List.Mem.head _) ?_
    refine z_getI X 46 (show cdA 54 61 = some (.getfield 42, 3, 5, 3, 0) from rfl) (by decide) rfl rfl ?_
    have b11 : (0 : Int) ≤ iI s10 28 ∧ iI s10 28 ≤ 8 := Is10.1 28
    exact w_iret X.1 q hRt rfl (ax_d X (show cdA 54 64 = some (.ireturn, 1, 0, 0, 0) from rfl)) (Nat.zero_le _) (Nat.zero_le _) ⟨_, rfl, Is10, Fs10, (iI s10 28), rfl, (rng_to _), trivial⟩
  ·
    refine z_const X (show cdA 54 9 = some (.iconst (-1), 1, 0, 0, 0) from rfl) ?_
    exact w_iret X.1 q hRt rfl (ax_d X (show cdA 54 10 = some (.ireturn, 1, 0, 0, 0) from rfl)) (Nat.zero_le _) (Nat.zero_le _) ⟨_, rfl, I, F, (-1), rfl, (by decide), trivial⟩
set_option maxRecDepth 4000 in
theorem c5_hearSubset_46 (G : GX l s0 D tys a0 dT) (I : Bd s) {x : Int} (p0 : 1 ≤ x ∧ x ≤ 255) : CT l s0 D A dT 56 (rmN 56) [.ref (A 46), .int (Int32.ofInt x)] s (fun o t => Bd t ∧ Fm [22, 23, 24] [33, 26, 27, 28, 29, 30, 31, 32, 20, 40, 41, 42] s t ∧ o = .inl none ∧ (True)) := by
  refine ct_ofX G (by decide) (Nat.le_of_ble_eq_true rfl) (fun k X E ET hRt hXt q => ?_)
  show WS k 0 [(0, .ref (A 46)), (1, .int (Int32.ofInt x))] [] _ 0 0
  have F : Fm [22, 23, 24] [33, 26, 27, 28, 29, 30, 31, 32, 20, 40, 41, 42] s s := fm_rf _ _ s
  have b1 : (0 : Int) ≤ iI s 28 ∧ iI s 28 ≤ 8 := I.1 28
  have L8 : ∀ (n : Nat) (t : PS) (xv : Int) (lw : Int64) (hw : Int64) (c : Int), Bd t → Fm [22, 23, 24] [33, 26, 27, 28, 29, 30, 31, 32, 20, 40, 41, 42] s t → ((1 ≤ xv ∧ xv ≤ 255) ∧ 0 ≤ c ∧ c ≤ 8) → (8 - c : Int).toNat < n → (∀ (t' : PS) (lw' : Int64) (hw' : Int64) (c' : Int), Bd t' → Fm [22, 23, 24] [33, 26, 27, 28, 29, 30, 31, 32, 20, 40, 41, 42] s t' → ((1 ≤ xv ∧ xv ≤ 255) ∧ 0 ≤ c' ∧ c' ≤ 8) → WS k 73 [(0, .ref (A 46)), (1, .int (Int32.ofInt xv)), (2, .long lw'), (4, .long hw'), (6, .int (Int32.ofInt c'))] [] (Wd A dT t') 0 0) → WS k 8 [(0, .ref (A 46)), (1, .int (Int32.ofInt xv)), (2, .long lw), (4, .long hw), (6, .int (Int32.ofInt c))] [] (Wd A dT t) 0 0 := by
    intro n
    induction n with
    | zero =>
      intro t xv lw hw c I F hi hm kx
      exact absurd hm (Nat.not_lt_zero _)
    | succ n ih =>
      intro t xv lw hw c I F hi hm kx
      have b1001 : (0 : Int) ≤ iI t 28 ∧ iI t 28 ≤ 8 := I.1 28
      refine z_load X (x := c) (show cdA 56 8 = some (.iload 6, 2, 0, 0, 0) from rfl) (List.Mem.tail _ (List.Mem.tail _ (List.Mem.tail _ (List.Mem.tail _ (List.Mem.head _))))) ?_
      refine z_aload_n X (x := A 46) (show cdA 56 10 = some (.aload_n 0, 1, 0, 0, 0) from rfl) (List.Mem.head _) ?_
      refine z_getI X 46 (show cdA 56 11 = some (.getfield 42, 3, 5, 3, 0) from rfl) (by decide) rfl rfl ?_
      have b1002 : (0 : Int) ≤ iI t 28 ∧ iI t 28 ≤ 8 := I.1 28
      refine z_icmp_ge X (t := 73) (show cdA 56 14 = some (.if_icmp .ge 59, 3, 3, 0, 0) from rfl) (by decide) ⟨by first | exact oq_fa4e5087 hi.2.1 | omega, by first | exact oq_d3f5d874 hi.2.2 | omega⟩ (rng_to _) (fun g1003 => ?_) (fun g1003 => ?_)
      ·
        refine WS_lv (lv := [(0, .ref (A 46)), (1, .int (Int32.ofInt xv)), (2, .long lw), (4, .long hw), (6, .int (Int32.ofInt c))]) (List.forall_mem_cons.mpr ⟨(List.Mem.head _), (List.forall_mem_cons.mpr ⟨(List.Mem.tail _ (List.Mem.head _)), (List.forall_mem_cons.mpr ⟨(List.Mem.tail _ (List.Mem.tail _ (List.Mem.head _))), (List.forall_mem_cons.mpr ⟨(List.Mem.tail _ (List.Mem.tail _ (List.Mem.tail _ (List.Mem.head _)))), (List.forall_mem_cons.mpr ⟨(List.Mem.tail _ (List.Mem.tail _ (List.Mem.tail _ (List.Mem.tail _ (List.Mem.head _))))), (fun q h => absurd h List.not_mem_nil)⟩)⟩)⟩)⟩)⟩) ?_
        exact kx _ lw hw c I F (by first | exact ⟨And.intro (hi.1.1) (hi.1.2), hi.2.1, hi.2.2⟩ | omega)
      ·
        refine z_load_n X (x := xv) (show cdA 56 17 = some (.iload_n 1, 1, 0, 0, 0) from rfl) (List.Mem.tail _ (List.Mem.head _)) ?_
        refine z_load X (x := c) (show cdA 56 18 = some (.iload 6, 2, 0, 0, 0) from rfl) (List.Mem.tail _ (List.Mem.tail _ (List.Mem.tail _ (List.Mem.tail _ (List.Mem.head _))))) ?_
        refine z_bshr X (show cdA 56 20 = some (.ishr, 1, 0, 0, 0) from rfl) ?_
        refine z_any (fun y1004 hy1004 => ?_)
        refine z_const X (show cdA 56 21 = some (.iconst 1, 1, 0, 0, 0) from rfl) ?_
        refine z_band X (show cdA 56 22 = some (.iand, 1, 0, 0, 0) from rfl) ?_
        refine z_any (fun y1005 hy1005 => ?_)
        refine z_if_eq X (t := 67) (show cdA 56 23 = some (.ifCond .eq 44, 3, 0, 0, 0) from rfl) (by decide) hy1005 (fun g1006 => ?_) (fun g1006 => ?_)
        ·
          refine z_inc X (x := c) (lv' := [(6, .int (Int32.ofInt (c + 1))), (0, .ref (A 46)), (1, .int (Int32.ofInt xv)), (2, .long lw), (4, .long hw)]) (show cdA 56 67 = some (.iinc 6 1, 3, 0, 0, 0) from rfl) (by decide) (List.Mem.tail _ (List.Mem.tail _ (List.Mem.tail _ (List.Mem.tail _ (List.Mem.head _))))) (fun _ h => h) ?_
          refine z_goto X (t := 8) (show cdA 56 70 = some (.goto (-62), 3, 0, 0, 0) from rfl) (by decide) ?_
          refine WS_lv (lv := [(0, .ref (A 46)), (1, .int (Int32.ofInt xv)), (2, .long lw), (4, .long hw), (6, .int (Int32.ofInt (c + 1)))]) (List.forall_mem_cons.mpr ⟨(List.Mem.tail _ (List.Mem.head _)), (List.forall_mem_cons.mpr ⟨(List.Mem.tail _ (List.Mem.tail _ (List.Mem.head _))), (List.forall_mem_cons.mpr ⟨(List.Mem.tail _ (List.Mem.tail _ (List.Mem.tail _ (List.Mem.head _)))), (List.forall_mem_cons.mpr ⟨(List.Mem.tail _ (List.Mem.tail _ (List.Mem.tail _ (List.Mem.tail _ (List.Mem.head _))))), (List.forall_mem_cons.mpr ⟨(List.Mem.head _), (fun q h => absurd h List.not_mem_nil)⟩)⟩)⟩)⟩)⟩) ?_
          exact ih _ xv lw hw (c + 1) I F (by first | exact ⟨And.intro (hi.1.1) (hi.1.2), oq_54f49eb5 hi.2.1, oq_f6204d84 g1003 b1002.2⟩ | omega) (by first | exact qk_me hm (by decide) (oq_ccc5e5e0 g1003 b1002.2) | omega) kx
        ·
          refine w_lconst X.1 (ax_d X (show cdA 56 26 = some (.lconst 1, 1, 0, 0, 0) from rfl)) rfl ?_
          refine z_anyJ (fun j1007 => ?_)
          refine z_aload_n X (x := A 46) (show cdA 56 27 = some (.aload_n 0, 1, 0, 0, 0) from rfl) (List.Mem.head _) ?_
          refine s_getR X 46 (show cdA 56 28 = some (.getfield 11, 3, 5, 2, 0) from rfl) (by decide) rfl rfl ?_
          refine z_load X (x := c) (show cdA 56 31 = some (.iload 6, 2, 0, 0, 0) from rfl) (List.Mem.tail _ (List.Mem.tail _ (List.Mem.tail _ (List.Mem.tail _ (List.Mem.head _))))) ?_
          refine z_ald X 47 (show cdA 56 33 = some (.iaload, 1, 0, 0, 0) from rfl) (by decide) rfl (by first | exact hi.2.1 | omega) (show c < 8 by first | exact oq_7f5b2e79 g1003 b1002.2 | omega) (by decide) ?_
          have b1008 : (0 : Int) ≤ iC t 39 (c).toNat ∧ iC t 39 (c).toNat ≤ 127 := I.2 39 _ (show (c).toNat < 8 by first | exact oq_67be0351 g1003 b1002.2 | omega)
          refine z_bipush X (show cdA 56 34 = some (.bipush 63, 2, 0, 0, 63) from rfl) ?_
          refine z_band X (show cdA 56 36 = some (.iand, 1, 0, 0, 0) from rfl) ?_
          refine z_any (fun y1009 hy1009 => ?_)
          refine w_lshl X.1 (ax_d X (show cdA 56 37 = some (.lshl, 1, 0, 0, 0) from rfl)) ?_
          refine z_anyJ (fun j1010 => ?_)
          refine w_lstore X.1 (lv' := [(7, .long j1010), (0, .ref (A 46)), (1, .int (Int32.ofInt xv)), (2, .long lw), (4, .long hw), (6, .int (Int32.ofInt c))]) (ax_d X (show cdA 56 38 = some (.lstore 7, 2, 0, 0, 0) from rfl)) (by rw [X.2.1.2.2]; decide) (fun _ h => h) ?_
          refine z_aload_n X (x := A 46) (show cdA 56 40 = some (.aload_n 0, 1, 0, 0, 0) from rfl) (List.Mem.tail _ (List.Mem.head _)) ?_
          refine s_getR X 46 (show cdA 56 41 = some (.getfield 11, 3, 5, 2, 0) from rfl) (by decide) rfl rfl ?_
          refine z_load X (x := c) (show cdA 56 44 = some (.iload 6, 2, 0, 0, 0) from rfl) (List.Mem.tail _ (List.Mem.tail _ (List.Mem.tail _ (List.Mem.tail _ (List.Mem.tail _ (List.Mem.head _)))))) ?_
          refine z_ald X 47 (show cdA 56 46 = some (.iaload, 1, 0, 0, 0) from rfl) (by decide) rfl (by first | exact hi.2.1 | omega) (show c < 8 by first | exact oq_7f5b2e79 g1003 b1002.2 | omega) (by decide) ?_
          have b1011 : (0 : Int) ≤ iC t 39 (c).toNat ∧ iC t 39 (c).toNat ≤ 127 := I.2 39 _ (show (c).toNat < 8 by first | exact oq_67be0351 g1003 b1002.2 | omega)
          refine z_bipush X (show cdA 56 47 = some (.bipush 64, 2, 0, 0, 64) from rfl) ?_
          refine z_icmp_ge X (t := 60) (show cdA 56 49 = some (.if_icmp .ge 11, 3, 3, 0, 0) from rfl) (by decide) (rng_to _) (by decide) (fun g1012 => ?_) (fun g1012 => ?_)
          ·
            refine w_lload X.1 (ax_d X (show cdA 56 60 = some (.lload 4, 2, 0, 0, 0) from rfl)) (x := hw) (List.Mem.tail _ (List.Mem.tail _ (List.Mem.tail _ (List.Mem.tail _ (List.Mem.head _))))) ?_
            refine w_lload X.1 (ax_d X (show cdA 56 62 = some (.lload 7, 2, 0, 0, 0) from rfl)) (x := j1010) (List.Mem.head _) ?_
            refine w_lor X.1 (ax_d X (show cdA 56 64 = some (.lor, 1, 0, 0, 0) from rfl)) ?_
            refine z_anyJ (fun j1013 => ?_)
            refine w_lstore X.1 (lv' := [(4, .long j1013), (7, .long j1010), (0, .ref (A 46)), (1, .int (Int32.ofInt xv)), (2, .long lw), (6, .int (Int32.ofInt c))]) (ax_d X (show cdA 56 65 = some (.lstore 4, 2, 0, 0, 0) from rfl)) (by rw [X.2.1.2.2]; decide) (fun _ h => h) ?_
            refine z_inc X (x := c) (lv' := [(6, .int (Int32.ofInt (c + 1))), (4, .long j1013), (7, .long j1010), (0, .ref (A 46)), (1, .int (Int32.ofInt xv)), (2, .long lw)]) (show cdA 56 67 = some (.iinc 6 1, 3, 0, 0, 0) from rfl) (by decide) (List.Mem.tail _ (List.Mem.tail _ (List.Mem.tail _ (List.Mem.tail _ (List.Mem.tail _ (List.Mem.head _)))))) (fun _ h => h) ?_
            refine z_goto X (t := 8) (show cdA 56 70 = some (.goto (-62), 3, 0, 0, 0) from rfl) (by decide) ?_
            refine WS_lv (lv := [(0, .ref (A 46)), (1, .int (Int32.ofInt xv)), (2, .long lw), (4, .long j1013), (6, .int (Int32.ofInt (c + 1)))]) (List.forall_mem_cons.mpr ⟨(List.Mem.tail _ (List.Mem.tail _ (List.Mem.tail _ (List.Mem.head _)))), (List.forall_mem_cons.mpr ⟨(List.Mem.tail _ (List.Mem.tail _ (List.Mem.tail _ (List.Mem.tail _ (List.Mem.head _))))), (List.forall_mem_cons.mpr ⟨(List.Mem.tail _ (List.Mem.tail _ (List.Mem.tail _ (List.Mem.tail _ (List.Mem.tail _ (List.Mem.head _)))))), (List.forall_mem_cons.mpr ⟨(List.Mem.tail _ (List.Mem.head _)), (List.forall_mem_cons.mpr ⟨(List.Mem.head _), (fun q h => absurd h List.not_mem_nil)⟩)⟩)⟩)⟩)⟩) ?_
            exact ih _ xv lw j1013 (c + 1) I F (by first | exact ⟨And.intro (hi.1.1) (hi.1.2), oq_54f49eb5 hi.2.1, oq_f6204d84 g1003 b1002.2⟩ | omega) (by first | exact qk_me hm (by decide) (oq_ccc5e5e0 g1003 b1002.2) | omega) kx
          ·
            refine w_lload_n X.1 (ax_d X (show cdA 56 52 = some (.lload_n 2, 1, 0, 0, 0) from rfl)) (x := lw) (List.Mem.tail _ (List.Mem.tail _ (List.Mem.tail _ (List.Mem.head _)))) ?_
            refine w_lload X.1 (ax_d X (show cdA 56 53 = some (.lload 7, 2, 0, 0, 0) from rfl)) (x := j1010) (List.Mem.head _) ?_
            refine w_lor X.1 (ax_d X (show cdA 56 55 = some (.lor, 1, 0, 0, 0) from rfl)) ?_
            refine z_anyJ (fun j1014 => ?_)
            refine w_lstore_n X.1 (lv' := [(2, .long j1014), (7, .long j1010), (0, .ref (A 46)), (1, .int (Int32.ofInt xv)), (4, .long hw), (6, .int (Int32.ofInt c))]) (ax_d X (show cdA 56 56 = some (.lstore_n 2, 1, 0, 0, 0) from rfl)) (by rw [X.2.1.2.2]; decide) (fun _ h => h) ?_
            refine z_goto X (t := 67) (show cdA 56 57 = some (.goto 10, 3, 0, 0, 0) from rfl) (by decide) ?_
            refine z_inc X (x := c) (lv' := [(6, .int (Int32.ofInt (c + 1))), (2, .long j1014), (7, .long j1010), (0, .ref (A 46)), (1, .int (Int32.ofInt xv)), (4, .long hw)]) (show cdA 56 67 = some (.iinc 6 1, 3, 0, 0, 0) from rfl) (by decide) (List.Mem.tail _ (List.Mem.tail _ (List.Mem.tail _ (List.Mem.tail _ (List.Mem.tail _ (List.Mem.head _)))))) (fun _ h => h) ?_
            refine z_goto X (t := 8) (show cdA 56 70 = some (.goto (-62), 3, 0, 0, 0) from rfl) (by decide) ?_
            refine WS_lv (lv := [(0, .ref (A 46)), (1, .int (Int32.ofInt xv)), (2, .long j1014), (4, .long hw), (6, .int (Int32.ofInt (c + 1)))]) (List.forall_mem_cons.mpr ⟨(List.Mem.tail _ (List.Mem.tail _ (List.Mem.tail _ (List.Mem.head _)))), (List.forall_mem_cons.mpr ⟨(List.Mem.tail _ (List.Mem.tail _ (List.Mem.tail _ (List.Mem.tail _ (List.Mem.head _))))), (List.forall_mem_cons.mpr ⟨(List.Mem.tail _ (List.Mem.head _)), (List.forall_mem_cons.mpr ⟨(List.Mem.tail _ (List.Mem.tail _ (List.Mem.tail _ (List.Mem.tail _ (List.Mem.tail _ (List.Mem.head _)))))), (List.forall_mem_cons.mpr ⟨(List.Mem.head _), (fun q h => absurd h List.not_mem_nil)⟩)⟩)⟩)⟩)⟩) ?_
            exact ih _ xv j1014 hw (c + 1) I F (by first | exact ⟨And.intro (hi.1.1) (hi.1.2), oq_54f49eb5 hi.2.1, oq_f6204d84 g1003 b1002.2⟩ | omega) (by first | exact qk_me hm (by decide) (oq_ccc5e5e0 g1003 b1002.2) | omega) kx
  refine w_lconst X.1 (ax_d X (show cdA 56 0 = some (.lconst 0, 1, 0, 0, 0) from rfl)) rfl ?_
  refine z_anyJ (fun j2 => ?_)
  refine w_lstore_n X.1 (lv' := [(2, .long j2), (0, .ref (A 46)), (1, .int (Int32.ofInt x))]) (ax_d X (show cdA 56 1 = some (.lstore_n 2, 1, 0, 0, 0) from rfl)) (by rw [X.2.1.2.2]; decide) (fun _ h => h) ?_
  refine w_lconst X.1 (ax_d X (show cdA 56 2 = some (.lconst 0, 1, 0, 0, 0) from rfl)) rfl ?_
  refine z_anyJ (fun j3 => ?_)
  refine w_lstore X.1 (lv' := [(4, .long j3), (2, .long j2), (0, .ref (A 46)), (1, .int (Int32.ofInt x))]) (ax_d X (show cdA 56 3 = some (.lstore 4, 2, 0, 0, 0) from rfl)) (by rw [X.2.1.2.2]; decide) (fun _ h => h) ?_
  refine z_const X (show cdA 56 5 = some (.iconst 0, 1, 0, 0, 0) from rfl) ?_
  refine z_store X (lv' := [(6, .int (Int32.ofInt 0)), (4, .long j3), (2, .long j2), (0, .ref (A 46)), (1, .int (Int32.ofInt x))]) (show cdA 56 6 = some (.istore 6, 2, 0, 0, 0) from rfl) (by decide) (fun _ h => h) ?_
  refine WS_lv (lv := [(0, .ref (A 46)), (1, .int (Int32.ofInt x)), (2, .long j2), (4, .long j3), (6, .int (Int32.ofInt 0))]) (List.forall_mem_cons.mpr ⟨(List.Mem.tail _ (List.Mem.tail _ (List.Mem.tail _ (List.Mem.head _)))), (List.forall_mem_cons.mpr ⟨(List.Mem.tail _ (List.Mem.tail _ (List.Mem.tail _ (List.Mem.tail _ (List.Mem.head _))))), (List.forall_mem_cons.mpr ⟨(List.Mem.tail _ (List.Mem.tail _ (List.Mem.head _))), (List.forall_mem_cons.mpr ⟨(List.Mem.tail _ (List.Mem.head _)), (List.forall_mem_cons.mpr ⟨(List.Mem.head _), (fun q h => absurd h List.not_mem_nil)⟩)⟩)⟩)⟩)⟩) ?_
  refine L8 ((8 - 0 : Int).toNat + 1) s x j2 j3 0 I F (by first | exact ⟨And.intro (p0.1) (p0.2), by decide, by decide⟩ | omega) (Nat.lt_succ_self _) ?_
  intro s4 x5 x6 x7 Is4 Fs4 hs4
  have b8 : (0 : Int) ≤ iI s4 28 ∧ iI s4 28 ≤ 8 := Is4.1 28
  refine z_aload_n X (x := A 46) (show cdA 56 73 = some (.aload_n 0, 1, 0, 0, 0) from rfl) (List.Mem.head _) ?_
  refine s_getR X 46 (show cdA 56 74 = some (.getfield 15, 3, 5, 4, 0) from rfl) (by decide) rfl rfl ?_
  refine z_load_n X (x := x) (show cdA 56 77 = some (.iload_n 1, 1, 0, 0, 0) from rfl) (List.Mem.tail _ (List.Mem.head _)) ?_
  refine w_lload_n X.1 (ax_d X (show cdA 56 78 = some (.lload_n 2, 1, 0, 0, 0) from rfl)) (x := x5) (List.Mem.tail _ (List.Mem.tail _ (List.Mem.head _))) ?_
  refine w_lload X.1 (ax_d X (show cdA 56 79 = some (.lload 4, 2, 0, 0, 0) from rfl)) (x := x6) (List.Mem.tail _ (List.Mem.tail _ (List.Mem.tail _ (List.Mem.head _)))) ?_
  refine z_callS X (rm := rmN 34) (As := [.long x5, .long x6]) (st := [.int (Int32.ofInt x), .ref (A 48)]) (show cdA 56 81 = some (.invokestatic 64, 3, 34, 1, 0) from rfl) rfl (by rw [E.1, E.2.1, E.2.2.1]; exact c3_hangs G Is4 ) ⟨by rw [E.2.2.2]; exact (show (rmN 34).frames + 1 ≤ (rmN 56).frames by decide), by rw [E.2.2.2]; exact (show 8 + (mNL (miB 34) + 11) + (rmN 34).locals ≤ (rmN 56).locals by decide), by rw [E.2.2.2]; exact (show 0 + (rmN 34).cells ≤ (rmN 56).cells by decide), by rw [E.2.2.2]; exact (show 0 + (rmN 34).slots ≤ (rmN 56).slots by decide)⟩ (Nat.le_of_ble_eq_true rfl) (fun vv s9 hq => ?_) (fun ee s9 hq => ?_)
  rotate_left
  · obtain ⟨Is9, Fs9, e10, hv, hrs9, hps9⟩ := hq; cases hv
  obtain ⟨Is9, Fs9, e10, hv, hrs9, hps9⟩ := hq
  cases hv
  have Gs9 := fm_ts Fs4 Fs9 (by decide) (by decide)
  have ws9_28 : iI s9 28 = iI s4 28 := fm_i Fs9 (by decide)
  show WS k 84 [(0, .ref (A 46)), (1, .int (Int32.ofInt x)), (2, .long x5), (4, .long x6), (6, .int (Int32.ofInt x7))] [.int (Int32.ofInt e10), .int (Int32.ofInt x), .ref (A 48)] (Wd A dT s9) 0 0
  refine z_zast X 48 (show cdA 56 84 = some (.bastore, 1, 0, 0, 0) from rfl) (by decide) rfl (by first | exact oq_2a6e3b50 hs4.1.1 | omega) (show x < 256 by first | exact oq_29e5dbe2 hs4.1.2 | omega) (by decide) (by first | exact hps9 | omega) ?_
  obtain ⟨s11, hs11⟩ : ∃ x0, x0 = uC s9 40 (x).toNat (Int32.ofInt e10) := ⟨_, rfl⟩
  rw [← hs11]
  have Is11 : Bd s11 := by rw [hs11]; exact bd_C Is9 (show (0 : Int) ≤ e10 ∧ e10 ≤ 1 by first | exact ⟨oq_e4aca38c hps9, oq_14617724 hps9⟩ | omega) hrs9
  have Fs11 := fm_C (i := (x).toNat) (x := Int32.ofInt e10) Gs9 (show 40 ∈ _ by decide)
  rw [← hs11] at Fs11
  have ws11_28 : iI s11 28 = iI s9 28 := by rw [hs11]; rfl
  refine z_aload_n X (x := A 46) (show cdA 56 85 = some (.aload_n 0, 1, 0, 0, 0) from rfl) (List.Mem.head _) ?_
  refine s_getR X 46 (show cdA 56 86 = some (.getfield 15, 3, 5, 4, 0) from rfl) (by decide) rfl rfl ?_
  refine z_load_n X (x := x) (show cdA 56 89 = some (.iload_n 1, 1, 0, 0, 0) from rfl) (List.Mem.tail _ (List.Mem.head _)) ?_
  refine z_zald X 48 (show cdA 56 90 = some (.baload, 1, 0, 0, 0) from rfl) (by decide) rfl (by first | exact oq_2a6e3b50 hs4.1.1 | omega) (show x < 256 by first | exact oq_29e5dbe2 hs4.1.2 | omega) (by decide) ?_
  have b12 : (0 : Int) ≤ iC s11 40 (x).toNat ∧ iC s11 40 (x).toNat ≤ 1 := Is11.2 40 _ (show (x).toNat < 256 by first | exact oq_c39a26fc hs4.1.2 | omega)
  refine z_if_eq X (t := 131) (show cdA 56 91 = some (.ifCond .eq 40, 3, 0, 0, 0) from rfl) (by decide) (rng_to _) (fun g13 => ?_) (fun g13 => ?_)
  ·
    exact w_vret X.1 q hRt (ax_d X (show cdA 56 131 = some (.return_, 1, 0, 0, 0) from rfl)) (Nat.zero_le _) (Nat.zero_le _) ⟨_, rfl, Is11, Fs11, rfl, trivial⟩
  ·
    refine z_aload_n X (x := A 46) (show cdA 56 94 = some (.aload_n 0, 1, 0, 0, 0) from rfl) (List.Mem.head _) ?_
    refine s_getR X 46 (show cdA 56 95 = some (.getfield 38, 3, 5, 1, 0) from rfl) (by decide) rfl rfl ?_
    refine w_lload_n X.1 (ax_d X (show cdA 56 98 = some (.lload_n 2, 1, 0, 0, 0) from rfl)) (x := x5) (List.Mem.tail _ (List.Mem.tail _ (List.Mem.head _))) ?_
    refine w_lload X.1 (ax_d X (show cdA 56 99 = some (.lload 4, 2, 0, 0, 0) from rfl)) (x := x6) (List.Mem.tail _ (List.Mem.tail _ (List.Mem.tail _ (List.Mem.head _)))) ?_
    refine z_const X (show cdA 56 101 = some (.iconst 1, 1, 0, 0, 0) from rfl) ?_
    refine z_callV X 31 (rm := rmN 1) (As := [.long x5, .long x6, .int (Int32.ofInt 1)]) (st := []) (show cdA 56 102 = some (.invokevirtual 70, 3, 1, 0, 0) from rfl) rfl (by decide) rfl (by rw [E.1, E.2.1, E.2.2.1]; exact c0_listen_31 G Is11 (by first | exact ⟨by decide, by decide⟩ | omega)) ⟨by rw [E.2.2.2]; exact (show (rmN 1).frames + 1 ≤ (rmN 56).frames by decide), by rw [E.2.2.2]; exact (show 8 + (mNL (miB 1) + 11) + (rmN 1).locals ≤ (rmN 56).locals by decide), by rw [E.2.2.2]; exact (show 0 + (rmN 1).cells ≤ (rmN 56).cells by decide), by rw [E.2.2.2]; exact (show 0 + (rmN 1).slots ≤ (rmN 56).slots by decide)⟩ (Nat.le_of_ble_eq_true rfl) (fun vv s14 hq => ?_) (fun ee s14 hq => ?_)
    rotate_left
    · obtain ⟨Is14, Fs14, hv, hps14⟩ := hq; cases hv
    obtain ⟨Is14, Fs14, hv, hps14⟩ := hq
    cases hv
    have Gs14 := fm_ts Fs11 Fs14 (by decide) (by decide)
    have ws14_28 : iI s14 28 = iI s11 28 := fm_i Fs14 (by decide)
    show WS k 105 [(0, .ref (A 46)), (1, .int (Int32.ofInt x)), (2, .long x5), (4, .long x6), (6, .int (Int32.ofInt x7))] [] (Wd A dT s14) 0 0
    refine z_aload_n X (x := A 46) (show cdA 56 105 = some (.aload_n 0, 1, 0, 0, 0) from rfl) (List.Mem.head _) ?_
    refine s_getR X 46 (show cdA 56 106 = some (.getfield 19, 3, 5, 5, 0) from rfl) (by decide) rfl rfl ?_
    refine z_load_n X (x := x) (show cdA 56 109 = some (.iload_n 1, 1, 0, 0, 0) from rfl) (List.Mem.tail _ (List.Mem.head _)) ?_
    refine z_aload_n X (x := A 46) (show cdA 56 110 = some (.aload_n 0, 1, 0, 0, 0) from rfl) (List.Mem.head _) ?_
    refine s_getR X 46 (show cdA 56 111 = some (.getfield 38, 3, 5, 1, 0) from rfl) (by decide) rfl rfl ?_
    refine z_callV X 31 (rm := rmN 5) (As := []) (st := [.int (Int32.ofInt x), .ref (A 49)]) (show cdA 56 114 = some (.invokevirtual 76, 3, 5, 0, 0) from rfl) rfl (by decide) rfl (by rw [E.1, E.2.1, E.2.2.1]; exact c0_findPeak_31 G Is14 ) ⟨by rw [E.2.2.2]; exact (show (rmN 5).frames + 1 ≤ (rmN 56).frames by decide), by rw [E.2.2.2]; exact (show 8 + (mNL (miB 5) + 11) + (rmN 5).locals ≤ (rmN 56).locals by decide), by rw [E.2.2.2]; exact (show 0 + (rmN 5).cells ≤ (rmN 56).cells by decide), by rw [E.2.2.2]; exact (show 0 + (rmN 5).slots ≤ (rmN 56).slots by decide)⟩ (Nat.le_of_ble_eq_true rfl) (fun vv s16 hq => ?_) (fun ee s16 hq => ?_)
    rotate_left
    · obtain ⟨Is16, Fs16, e17, hv, hrs16, hps16⟩ := hq; cases hv
    obtain ⟨Is16, Fs16, e17, hv, hrs16, hps16⟩ := hq
    cases hv
    have Gs16 := fm_ts Gs14 Fs16 (by decide) (by decide)
    have ws16_28 : iI s16 28 = iI s14 28 := fm_i Fs16 (by decide)
    show WS k 117 [(0, .ref (A 46)), (1, .int (Int32.ofInt x)), (2, .long x5), (4, .long x6), (6, .int (Int32.ofInt x7))] [.int (Int32.ofInt e17), .int (Int32.ofInt x), .ref (A 49)] (Wd A dT s16) 0 0
    refine z_ast X 49 (show cdA 56 117 = some (.iastore, 1, 0, 0, 0) from rfl) (by decide) rfl (by first | exact oq_2a6e3b50 hs4.1.1 | omega) (show x < 256 by first | exact oq_29e5dbe2 hs4.1.2 | omega) (by decide) ?_
    obtain ⟨s18, hs18⟩ : ∃ x0, x0 = uC s16 41 (x).toNat (Int32.ofInt e17) := ⟨_, rfl⟩
    rw [← hs18]
    have Is18 : Bd s18 := by rw [hs18]; exact bd_C Is16 (show ((-2147483648) : Int) ≤ e17 ∧ e17 ≤ 2147483647 by omega) hrs16
    have Fs18 := fm_C (i := (x).toNat) (x := Int32.ofInt e17) Gs16 (show 41 ∈ _ by decide)
    rw [← hs18] at Fs18
    have ws18_28 : iI s18 28 = iI s16 28 := by rw [hs18]; rfl
    refine z_aload_n X (x := A 46) (show cdA 56 118 = some (.aload_n 0, 1, 0, 0, 0) from rfl) (List.Mem.head _) ?_
    refine s_getR X 46 (show cdA 56 119 = some (.getfield 22, 3, 5, 6, 0) from rfl) (by decide) rfl rfl ?_
    refine z_load_n X (x := x) (show cdA 56 122 = some (.iload_n 1, 1, 0, 0, 0) from rfl) (List.Mem.tail _ (List.Mem.head _)) ?_
    refine z_aload_n X (x := A 46) (show cdA 56 123 = some (.aload_n 0, 1, 0, 0, 0) from rfl) (List.Mem.head _) ?_
    refine s_getR X 46 (show cdA 56 124 = some (.getfield 38, 3, 5, 1, 0) from rfl) (by decide) rfl rfl ?_
    refine z_callV X 31 (rm := rmN 7) (As := []) (st := [.int (Int32.ofInt x), .ref (A 50)]) (show cdA 56 127 = some (.invokevirtual 80, 3, 7, 0, 0) from rfl) rfl (by decide) rfl (by rw [E.1, E.2.1, E.2.2.1]; exact c0_overInAll_31 G Is18 ) ⟨by rw [E.2.2.2]; exact (show (rmN 7).frames + 1 ≤ (rmN 56).frames by decide), by rw [E.2.2.2]; exact (show 8 + (mNL (miB 7) + 11) + (rmN 7).locals ≤ (rmN 56).locals by decide), by rw [E.2.2.2]; exact (show 0 + (rmN 7).cells ≤ (rmN 56).cells by decide), by rw [E.2.2.2]; exact (show 0 + (rmN 7).slots ≤ (rmN 56).slots by decide)⟩ (Nat.le_of_ble_eq_true rfl) (fun vv s19 hq => ?_) (fun ee s19 hq => ?_)
    rotate_left
    · obtain ⟨Is19, Fs19, e20, hv, hrs19, hps19⟩ := hq; cases hv
    obtain ⟨Is19, Fs19, e20, hv, hrs19, hps19⟩ := hq
    cases hv
    have Gs19 := fm_ts Fs18 Fs19 (by decide) (by decide)
    have ws19_28 : iI s19 28 = iI s18 28 := fm_i Fs19 (by decide)
    show WS k 130 [(0, .ref (A 46)), (1, .int (Int32.ofInt x)), (2, .long x5), (4, .long x6), (6, .int (Int32.ofInt x7))] [.int (Int32.ofInt e20), .int (Int32.ofInt x), .ref (A 50)] (Wd A dT s19) 0 0
    refine z_ast X 50 (show cdA 56 130 = some (.iastore, 1, 0, 0, 0) from rfl) (by decide) rfl (by first | exact oq_2a6e3b50 hs4.1.1 | omega) (show x < 256 by first | exact oq_29e5dbe2 hs4.1.2 | omega) (by decide) ?_
    obtain ⟨s21, hs21⟩ : ∃ x0, x0 = uC s19 42 (x).toNat (Int32.ofInt e20) := ⟨_, rfl⟩
    rw [← hs21]
    have Is21 : Bd s21 := by rw [hs21]; exact bd_C Is19 (show ((-2147483648) : Int) ≤ e20 ∧ e20 ≤ 2147483647 by omega) hrs19
    have Fs21 := fm_C (i := (x).toNat) (x := Int32.ofInt e20) Gs19 (show 42 ∈ _ by decide)
    rw [← hs21] at Fs21
    have ws21_28 : iI s21 28 = iI s19 28 := by rw [hs21]; rfl
    exact w_vret X.1 q hRt (ax_d X (show cdA 56 131 = some (.return_, 1, 0, 0, 0) from rfl)) (Nat.zero_le _) (Nat.zero_le _) ⟨_, rfl, Is21, Fs21, rfl, trivial⟩
set_option maxRecDepth 4000 in
theorem c5_compare_46 (G : GX l s0 D tys a0 dT) (I : Bd s) {x : Int} (p0 : 0 ≤ x ∧ x ≤ 3) : CT l s0 D A dT 58 (rmN 58) [.ref (A 46), .int (Int32.ofInt x)] s (fun o t => Bd t ∧ Fm [31, 29, 30] [45] s t ∧ o = .inl none ∧ (True)) := by
  refine ct_ofX G (by decide) (Nat.le_of_ble_eq_true rfl) (fun k X E ET hRt hXt q => ?_)
  show WS k 0 [(0, .ref (A 46)), (1, .int (Int32.ofInt x))] [] _ 0 0
  have F : Fm [31, 29, 30] [45] s s := fm_rf _ _ s
  have b1 : (0 : Int) ≤ iI s 28 ∧ iI s 28 ≤ 8 := I.1 28
  have L8 : ∀ (n : Nat) (t : PS) (xv pk ov hp : Int), Bd t → Fm [31, 29, 30] [45] s t → ((0 ≤ xv ∧ xv ≤ 3) ∧ rng pk ∧ rng ov ∧ 0 ≤ hp ∧ hp ≤ 3) → (3 - hp : Int).toNat < n → (∀ (t' : PS) (pk' ov' hp' : Int), Bd t' → Fm [31, 29, 30] [45] s t' → ((0 ≤ xv ∧ xv ≤ 3) ∧ rng pk' ∧ rng ov' ∧ 0 ≤ hp' ∧ hp' ≤ 3) → WS k 62 [(0, .ref (A 46)), (1, .int (Int32.ofInt xv)), (2, .int (Int32.ofInt pk')), (3, .int (Int32.ofInt ov')), (4, .int (Int32.ofInt hp'))] [] (Wd A dT t') 0 0) → WS k 8 [(0, .ref (A 46)), (1, .int (Int32.ofInt xv)), (2, .int (Int32.ofInt pk)), (3, .int (Int32.ofInt ov)), (4, .int (Int32.ofInt hp))] [] (Wd A dT t) 0 0 := by
    intro n
    induction n with
    | zero =>
      intro t xv pk ov hp I F hi hm kx
      exact absurd hm (Nat.not_lt_zero _)
    | succ n ih =>
      intro t xv pk ov hp I F hi hm kx
      have b1001 : (0 : Int) ≤ iI t 28 ∧ iI t 28 ≤ 8 := I.1 28
      refine z_load X (x := hp) (show cdA 58 8 = some (.iload 4, 2, 0, 0, 0) from rfl) (List.Mem.tail _ (List.Mem.tail _ (List.Mem.tail _ (List.Mem.tail _ (List.Mem.head _))))) ?_
      refine z_load_n X (x := xv) (show cdA 58 10 = some (.iload_n 1, 1, 0, 0, 0) from rfl) (List.Mem.tail _ (List.Mem.head _)) ?_
      refine z_icmp_ge X (t := 62) (show cdA 58 11 = some (.if_icmp .ge 51, 3, 3, 0, 0) from rfl) (by decide) ⟨by first | exact oq_fa4e5087 hi.2.2.2.1 | omega, by first | exact oq_c5520c83 hi.2.2.2.2 | omega⟩ ⟨by first | exact oq_fa4e5087 hi.1.1 | omega, by first | exact oq_c5520c83 hi.1.2 | omega⟩ (fun g1002 => ?_) (fun g1002 => ?_)
      ·
        refine WS_lv (lv := [(0, .ref (A 46)), (1, .int (Int32.ofInt xv)), (2, .int (Int32.ofInt pk)), (3, .int (Int32.ofInt ov)), (4, .int (Int32.ofInt hp))]) (List.forall_mem_cons.mpr ⟨(List.Mem.head _), (List.forall_mem_cons.mpr ⟨(List.Mem.tail _ (List.Mem.head _)), (List.forall_mem_cons.mpr ⟨(List.Mem.tail _ (List.Mem.tail _ (List.Mem.head _))), (List.forall_mem_cons.mpr ⟨(List.Mem.tail _ (List.Mem.tail _ (List.Mem.tail _ (List.Mem.head _)))), (List.forall_mem_cons.mpr ⟨(List.Mem.tail _ (List.Mem.tail _ (List.Mem.tail _ (List.Mem.tail _ (List.Mem.head _))))), (fun q h => absurd h List.not_mem_nil)⟩)⟩)⟩)⟩)⟩) ?_
        exact kx _ pk ov hp I F (by first | exact ⟨And.intro (hi.1.1) (hi.1.2), And.intro (hi.2.1.1) (hi.2.1.2), And.intro (hi.2.2.1.1) (hi.2.2.1.2), hi.2.2.2.1, hi.2.2.2.2⟩ | omega)
      ·
        refine z_aload_n X (x := A 46) (show cdA 58 14 = some (.aload_n 0, 1, 0, 0, 0) from rfl) (List.Mem.head _) ?_
        refine s_getR X 46 (show cdA 58 15 = some (.getfield 28, 3, 5, 8, 0) from rfl) (by decide) rfl rfl ?_
        refine z_load X (x := hp) (show cdA 58 18 = some (.iload 4, 2, 0, 0, 0) from rfl) (List.Mem.tail _ (List.Mem.tail _ (List.Mem.tail _ (List.Mem.tail _ (List.Mem.head _))))) ?_
        refine z_ald X 52 (show cdA 58 20 = some (.iaload, 1, 0, 0, 0) from rfl) (by decide) rfl (by first | exact hi.2.2.2.1 | omega) (show hp < 3 by first | exact oq_1a1eeab1 g1002 hi.1.2 | omega) (by decide) ?_
        have b1003 : (0 : Int) ≤ iC t 44 (hp).toNat ∧ iC t 44 (hp).toNat ≤ 255 := I.2 44 _ (show (hp).toNat < 3 by first | exact oq_2a01c7dc g1002 hi.1.2 | omega)
        refine z_store X (lv' := [(5, .int (Int32.ofInt (iC t 44 (hp).toNat))), (0, .ref (A 46)), (1, .int (Int32.ofInt xv)), (2, .int (Int32.ofInt pk)), (3, .int (Int32.ofInt ov)), (4, .int (Int32.ofInt hp))]) (show cdA 58 21 = some (.istore 5, 2, 0, 0, 0) from rfl) (by decide) (fun _ h => h) ?_
        refine z_aload_n X (x := A 46) (show cdA 58 23 = some (.aload_n 0, 1, 0, 0, 0) from rfl) (List.Mem.tail _ (List.Mem.head _)) ?_
        refine s_getR X 46 (show cdA 58 24 = some (.getfield 15, 3, 5, 4, 0) from rfl) (by decide) rfl rfl ?_
        refine z_load X (x := (iC t 44 (hp).toNat)) (show cdA 58 27 = some (.iload 5, 2, 0, 0, 0) from rfl) (List.Mem.head _) ?_
        refine z_zald X 48 (show cdA 58 29 = some (.baload, 1, 0, 0, 0) from rfl) (by decide) rfl (by first | exact b1003.1 | omega) (show (iC t 44 (hp).toNat) < 256 by first | exact oq_29e5dbe2 b1003.2 | omega) (by decide) ?_
        have b1004 : (0 : Int) ≤ iC t 40 ((iC t 44 (hp).toNat)).toNat ∧ iC t 40 ((iC t 44 (hp).toNat)).toNat ≤ 1 := I.2 40 _ (show ((iC t 44 (hp).toNat)).toNat < 256 by first | exact oq_c39a26fc b1003.2 | omega)
        refine z_if_ne X (t := 34) (show cdA 58 30 = some (.ifCond .ne 4, 3, 1, 0, 0) from rfl) (by decide) (rng_to _) (fun g1005 => ?_) (fun g1005 => ?_)
        ·
          refine z_load_n X (x := pk) (show cdA 58 34 = some (.iload_n 2, 1, 0, 0, 0) from rfl) (List.Mem.tail _ (List.Mem.tail _ (List.Mem.tail _ (List.Mem.head _)))) ?_
          refine z_aload_n X (x := A 46) (show cdA 58 35 = some (.aload_n 0, 1, 0, 0, 0) from rfl) (List.Mem.tail _ (List.Mem.head _)) ?_
          refine s_getR X 46 (show cdA 58 36 = some (.getfield 19, 3, 5, 5, 0) from rfl) (by decide) rfl rfl ?_
          refine z_load X (x := (iC t 44 (hp).toNat)) (show cdA 58 39 = some (.iload 5, 2, 0, 0, 0) from rfl) (List.Mem.head _) ?_
          refine z_ald X 49 (show cdA 58 41 = some (.iaload, 1, 0, 0, 0) from rfl) (by decide) rfl (by first | exact b1003.1 | omega) (show (iC t 44 (hp).toNat) < 256 by first | exact oq_29e5dbe2 b1003.2 | omega) (by decide) ?_
          have b1006 : ((-2147483648) : Int) ≤ iC t 41 ((iC t 44 (hp).toNat)).toNat ∧ iC t 41 ((iC t 44 (hp).toNat)).toNat ≤ 2147483647 := I.2 41 _ (show ((iC t 44 (hp).toNat)).toNat < 256 by first | exact oq_c39a26fc b1003.2 | omega)
          refine z_max X (show cdA 58 42 = some (.invokestatic 89, 3, 0, 7, 0) from rfl) ⟨by first | exact hi.2.1.1 | omega, by first | exact hi.2.1.2 | omega⟩ (rng_to _) (by rw [E.2.2.2]; decide) (by rw [E.2.2.2]; exact Nat.le_of_ble_eq_true rfl) (Nat.zero_le _) (Nat.zero_le _) (fun e1007 he1007 => ?_)
          refine z_store_n X (lv' := [(2, .int (Int32.ofInt e1007)), (5, .int (Int32.ofInt (iC t 44 (hp).toNat))), (0, .ref (A 46)), (1, .int (Int32.ofInt xv)), (3, .int (Int32.ofInt ov)), (4, .int (Int32.ofInt hp))]) (show cdA 58 45 = some (.istore_n 2, 1, 0, 0, 0) from rfl) (by decide) (fun _ h => h) ?_
          refine z_load_n X (x := ov) (show cdA 58 46 = some (.iload_n 3, 1, 0, 0, 0) from rfl) (List.Mem.tail _ (List.Mem.tail _ (List.Mem.tail _ (List.Mem.tail _ (List.Mem.head _))))) ?_
          refine z_aload_n X (x := A 46) (show cdA 58 47 = some (.aload_n 0, 1, 0, 0, 0) from rfl) (List.Mem.tail _ (List.Mem.tail _ (List.Mem.head _))) ?_
          refine s_getR X 46 (show cdA 58 48 = some (.getfield 22, 3, 5, 6, 0) from rfl) (by decide) rfl rfl ?_
          refine z_load X (x := (iC t 44 (hp).toNat)) (show cdA 58 51 = some (.iload 5, 2, 0, 0, 0) from rfl) (List.Mem.tail _ (List.Mem.head _)) ?_
          refine z_ald X 50 (show cdA 58 53 = some (.iaload, 1, 0, 0, 0) from rfl) (by decide) rfl (by first | exact b1003.1 | omega) (show (iC t 44 (hp).toNat) < 256 by first | exact oq_29e5dbe2 b1003.2 | omega) (by decide) ?_
          have b1008 : ((-2147483648) : Int) ≤ iC t 42 ((iC t 44 (hp).toNat)).toNat ∧ iC t 42 ((iC t 44 (hp).toNat)).toNat ≤ 2147483647 := I.2 42 _ (show ((iC t 44 (hp).toNat)).toNat < 256 by first | exact oq_c39a26fc b1003.2 | omega)
          refine z_add X (show cdA 58 54 = some (.iadd, 1, 0, 0, 0) from rfl) ?_
          refine z_any (fun y1009 hy1009 => ?_)
          refine z_store_n X (lv' := [(3, .int (Int32.ofInt y1009)), (2, .int (Int32.ofInt e1007)), (5, .int (Int32.ofInt (iC t 44 (hp).toNat))), (0, .ref (A 46)), (1, .int (Int32.ofInt xv)), (4, .int (Int32.ofInt hp))]) (show cdA 58 55 = some (.istore_n 3, 1, 0, 0, 0) from rfl) (by decide) (fun _ h => h) ?_
          refine z_inc X (x := hp) (lv' := [(4, .int (Int32.ofInt (hp + 1))), (3, .int (Int32.ofInt y1009)), (2, .int (Int32.ofInt e1007)), (5, .int (Int32.ofInt (iC t 44 (hp).toNat))), (0, .ref (A 46)), (1, .int (Int32.ofInt xv))]) (show cdA 58 56 = some (.iinc 4 1, 3, 0, 0, 0) from rfl) (by decide) (List.Mem.tail _ (List.Mem.tail _ (List.Mem.tail _ (List.Mem.tail _ (List.Mem.tail _ (List.Mem.head _)))))) (fun _ h => h) ?_
          refine z_goto X (t := 8) (show cdA 58 59 = some (.goto (-51), 3, 0, 0, 0) from rfl) (by decide) ?_
          refine WS_lv (lv := [(0, .ref (A 46)), (1, .int (Int32.ofInt xv)), (2, .int (Int32.ofInt e1007)), (3, .int (Int32.ofInt y1009)), (4, .int (Int32.ofInt (hp + 1)))]) (List.forall_mem_cons.mpr ⟨(List.Mem.tail _ (List.Mem.tail _ (List.Mem.tail _ (List.Mem.tail _ (List.Mem.head _))))), (List.forall_mem_cons.mpr ⟨(List.Mem.tail _ (List.Mem.tail _ (List.Mem.tail _ (List.Mem.tail _ (List.Mem.tail _ (List.Mem.head _)))))), (List.forall_mem_cons.mpr ⟨(List.Mem.tail _ (List.Mem.tail _ (List.Mem.head _))), (List.forall_mem_cons.mpr ⟨(List.Mem.tail _ (List.Mem.head _)), (List.forall_mem_cons.mpr ⟨(List.Mem.head _), (fun q h => absurd h List.not_mem_nil)⟩)⟩)⟩)⟩)⟩) ?_
          exact ih _ xv e1007 y1009 (hp + 1) I F (by first | exact ⟨And.intro (hi.1.1) (hi.1.2), oq_e36c8877 he1007 b1006.2 hi.2.1.2 hi.2.1.1, And.intro (hy1009.1) (hy1009.2), oq_54f49eb5 hi.2.2.2.1, oq_917370dc g1002 hi.1.2⟩ | omega) (by first | exact qk_me hm (by decide) (oq_83a89698 g1002 hi.1.2) | omega) kx
        ·
          exact w_vret X.1 q hRt (ax_d X (show cdA 58 33 = some (.return_, 1, 0, 0, 0) from rfl)) (Nat.zero_le _) (Nat.zero_le _) ⟨_, rfl, I, F, rfl, trivial⟩
  refine z_ldc X (show cdA 58 0 = some (.ldc 88, 2, 0, 0, (-2147483648)) from rfl) ?_
  refine z_store_n X (lv' := [(2, .int (Int32.ofInt (-2147483648))), (0, .ref (A 46)), (1, .int (Int32.ofInt x))]) (show cdA 58 2 = some (.istore_n 2, 1, 0, 0, 0) from rfl) (by decide) (fun _ h => h) ?_
  refine z_const X (show cdA 58 3 = some (.iconst 0, 1, 0, 0, 0) from rfl) ?_
  refine z_store_n X (lv' := [(3, .int (Int32.ofInt 0)), (2, .int (Int32.ofInt (-2147483648))), (0, .ref (A 46)), (1, .int (Int32.ofInt x))]) (show cdA 58 4 = some (.istore_n 3, 1, 0, 0, 0) from rfl) (by decide) (fun _ h => h) ?_
  refine z_const X (show cdA 58 5 = some (.iconst 0, 1, 0, 0, 0) from rfl) ?_
  refine z_store X (lv' := [(4, .int (Int32.ofInt 0)), (3, .int (Int32.ofInt 0)), (2, .int (Int32.ofInt (-2147483648))), (0, .ref (A 46)), (1, .int (Int32.ofInt x))]) (show cdA 58 6 = some (.istore 4, 2, 0, 0, 0) from rfl) (by decide) (fun _ h => h) ?_
  refine WS_lv (lv := [(0, .ref (A 46)), (1, .int (Int32.ofInt x)), (2, .int (Int32.ofInt (-2147483648))), (3, .int (Int32.ofInt 0)), (4, .int (Int32.ofInt 0))]) (List.forall_mem_cons.mpr ⟨(List.Mem.tail _ (List.Mem.tail _ (List.Mem.tail _ (List.Mem.head _)))), (List.forall_mem_cons.mpr ⟨(List.Mem.tail _ (List.Mem.tail _ (List.Mem.tail _ (List.Mem.tail _ (List.Mem.head _))))), (List.forall_mem_cons.mpr ⟨(List.Mem.tail _ (List.Mem.tail _ (List.Mem.head _))), (List.forall_mem_cons.mpr ⟨(List.Mem.tail _ (List.Mem.head _)), (List.forall_mem_cons.mpr ⟨(List.Mem.head _), (fun q h => absurd h List.not_mem_nil)⟩)⟩)⟩)⟩)⟩) ?_
  refine L8 ((3 - 0 : Int).toNat + 1) s x (-2147483648) 0 0 I F (by first | exact ⟨And.intro (p0.1) (p0.2), And.intro (by decide) (by decide), And.intro (by decide) (by decide), by decide, by decide⟩ | omega) (Nat.lt_succ_self _) ?_
  intro s2 x3 x4 x5 Is2 Fs2 hs2
  have b6 : (0 : Int) ≤ iI s2 28 ∧ iI s2 28 ≤ 8 := Is2.1 28
  refine z_aload_n X (x := A 46) (show cdA 58 62 = some (.aload_n 0, 1, 0, 0, 0) from rfl) (List.Mem.head _) ?_
  refine z_getI X 46 (show cdA 58 63 = some (.getfield 46, 3, 5, 12, 0) from rfl) (by decide) rfl rfl ?_
  have b7 : (0 : Int) ≤ iI s2 31 ∧ iI s2 31 ≤ 1 := Is2.1 31
  refine z_if_eq X (t := 93) (show cdA 58 66 = some (.ifCond .eq 27, 3, 0, 0, 0) from rfl) (by decide) (rng_to _) (fun g8 => ?_) (fun g8 => ?_)
  ·
    refine z_aload_n X (x := A 46) (show cdA 58 93 = some (.aload_n 0, 1, 0, 0, 0) from rfl) (List.Mem.head _) ?_
    refine z_const X (show cdA 58 94 = some (.iconst 1, 1, 0, 0, 0) from rfl) ?_
    refine s_putI X 46 (show cdA 58 95 = some (.putfield 46, 3, 5, 12, 0) from rfl) (by decide) rfl rfl (by decide) (nar_ret (by omega)) (fit_z (by omega)) rfl ?_
    obtain ⟨s9, hs9⟩ : ∃ x0, x0 = uI s2 31 (Int32.ofInt 1) := ⟨_, rfl⟩
    rw [← hs9]
    have Is9 : Bd s9 := by rw [hs9]; exact bd_I Is2 (show (0 : Int) ≤ 1 ∧ 1 ≤ 1 by first | exact ⟨by decide, by decide⟩ | omega) (by decide)
    have Fs9 := fm_I (x := Int32.ofInt 1) Fs2 (show 31 ∈ _ by decide)
    rw [← hs9] at Fs9
    have vs9 : iI s9 31 = 1 := by rw [hs9]; exact iI_u (by decide)
    have ws9_28 : iI s9 28 = iI s2 28 := by rw [hs9]; rfl
    refine z_aload_n X (x := A 46) (show cdA 58 98 = some (.aload_n 0, 1, 0, 0, 0) from rfl) (List.Mem.head _) ?_
    refine z_load_n X (x := x3) (show cdA 58 99 = some (.iload_n 2, 1, 0, 0, 0) from rfl) (List.Mem.tail _ (List.Mem.tail _ (List.Mem.head _))) ?_
    refine s_putI X 46 (show cdA 58 100 = some (.putfield 95, 3, 5, 10, 0) from rfl) (by decide) rfl rfl (by decide) rfl rfl rfl ?_
    obtain ⟨s10, hs10⟩ : ∃ x0, x0 = uI s9 29 (Int32.ofInt x3) := ⟨_, rfl⟩
    rw [← hs10]
    have Is10 : Bd s10 := by rw [hs10]; exact bd_I Is9 (show ((-2147483648) : Int) ≤ x3 ∧ x3 ≤ 2147483647 by first | exact ⟨hs2.2.1.1, hs2.2.1.2⟩ | omega) ⟨by first | exact hs2.2.1.1 | omega, by first | exact hs2.2.1.2 | omega⟩
    have Fs10 := fm_I (x := Int32.ofInt x3) Fs9 (show 29 ∈ _ by decide)
    rw [← hs10] at Fs10
    have vs10 : iI s10 29 = x3 := by rw [hs10]; exact iI_u ⟨by first | exact hs2.2.1.1 | omega, by first | exact hs2.2.1.2 | omega⟩
    have ws10_28 : iI s10 28 = iI s9 28 := by rw [hs10]; rfl
    refine z_aload_n X (x := A 46) (show cdA 58 103 = some (.aload_n 0, 1, 0, 0, 0) from rfl) (List.Mem.head _) ?_
    refine z_load_n X (x := x4) (show cdA 58 104 = some (.iload_n 3, 1, 0, 0, 0) from rfl) (List.Mem.tail _ (List.Mem.tail _ (List.Mem.tail _ (List.Mem.head _)))) ?_
    refine s_putI X 46 (show cdA 58 105 = some (.putfield 98, 3, 5, 11, 0) from rfl) (by decide) rfl rfl (by decide) rfl rfl rfl ?_
    obtain ⟨s11, hs11⟩ : ∃ x0, x0 = uI s10 30 (Int32.ofInt x4) := ⟨_, rfl⟩
    rw [← hs11]
    have Is11 : Bd s11 := by rw [hs11]; exact bd_I Is10 (show ((-2147483648) : Int) ≤ x4 ∧ x4 ≤ 2147483647 by first | exact ⟨hs2.2.2.1.1, hs2.2.2.1.2⟩ | omega) ⟨by first | exact hs2.2.2.1.1 | omega, by first | exact hs2.2.2.1.2 | omega⟩
    have Fs11 := fm_I (x := Int32.ofInt x4) Fs10 (show 30 ∈ _ by decide)
    rw [← hs11] at Fs11
    have vs11 : iI s11 30 = x4 := by rw [hs11]; exact iI_u ⟨by first | exact hs2.2.2.1.1 | omega, by first | exact hs2.2.2.1.2 | omega⟩
    have ws11_28 : iI s11 28 = iI s10 28 := by rw [hs11]; rfl
    refine z_aload_n X (x := A 46) (show cdA 58 108 = some (.aload_n 0, 1, 0, 0, 0) from rfl) (List.Mem.head _) ?_
    refine s_getR X 46 (show cdA 58 109 = some (.getfield 25, 3, 5, 7, 0) from rfl) (by decide) rfl rfl ?_
    refine z_const X (show cdA 58 112 = some (.iconst 0, 1, 0, 0, 0) from rfl) ?_
    refine z_aload_n X (x := A 46) (show cdA 58 113 = some (.aload_n 0, 1, 0, 0, 0) from rfl) (List.Mem.head _) ?_
    refine s_getR X 46 (show cdA 58 114 = some (.getfield 31, 3, 5, 9, 0) from rfl) (by decide) rfl rfl ?_
    refine z_const X (show cdA 58 117 = some (.iconst 0, 1, 0, 0, 0) from rfl) ?_
    refine z_aload_n X (x := A 46) (show cdA 58 118 = some (.aload_n 0, 1, 0, 0, 0) from rfl) (List.Mem.head _) ?_
    refine z_getI X 46 (show cdA 58 119 = some (.getfield 42, 3, 5, 3, 0) from rfl) (by decide) rfl rfl ?_
    have b12 : (0 : Int) ≤ iI s11 28 ∧ iI s11 28 ≤ 8 := Is11.1 28
    refine z_copy X Is11 51 53 (st := []) (show cdA 58 122 = some (.invokestatic 101, 3, 0, 5, 0) from rfl) (by decide) (by decide) rfl rfl (by omega) (by omega) (by omega) (show 0 + (iI s11 28) ≤ ((8 : Nat) : Int) by omega) (show 0 + (iI s11 28) ≤ ((8 : Nat) : Int) by omega) (by decide) (by rw [E.2.2.2]; decide) (by rw [E.2.2.2]; exact Nat.le_of_ble_eq_true rfl) (fun s13 Is13 Fs13 => ?_)
    have Gs13 := fm_ts Fs11 Fs13 (by decide) (by decide)
    have ws13_28 : iI s13 28 = iI s11 28 := fm_i Fs13 (by decide)
    exact w_vret X.1 q hRt (ax_d X (show cdA 58 125 = some (.return_, 1, 0, 0, 0) from rfl)) (Nat.zero_le _) (Nat.zero_le _) ⟨_, rfl, Is13, Gs13, rfl, trivial⟩
  ·
    refine z_load_n X (x := x3) (show cdA 58 69 = some (.iload_n 2, 1, 0, 0, 0) from rfl) (List.Mem.tail _ (List.Mem.tail _ (List.Mem.head _))) ?_
    refine z_aload_n X (x := A 46) (show cdA 58 70 = some (.aload_n 0, 1, 0, 0, 0) from rfl) (List.Mem.head _) ?_
    refine z_getI X 46 (show cdA 58 71 = some (.getfield 95, 3, 5, 10, 0) from rfl) (by decide) rfl rfl ?_
    have b14 : ((-2147483648) : Int) ≤ iI s2 29 ∧ iI s2 29 ≤ 2147483647 := Is2.1 29
    refine z_icmp_lt X (t := 93) (show cdA 58 74 = some (.if_icmp .lt 19, 3, 2, 0, 0) from rfl) (by decide) ⟨by first | exact hs2.2.1.1 | omega, by first | exact hs2.2.1.2 | omega⟩ (rng_to _) (fun g15 => ?_) (fun g15 => ?_)
    ·
      refine z_aload_n X (x := A 46) (show cdA 58 93 = some (.aload_n 0, 1, 0, 0, 0) from rfl) (List.Mem.head _) ?_
      refine z_const X (show cdA 58 94 = some (.iconst 1, 1, 0, 0, 0) from rfl) ?_
      refine s_putI X 46 (show cdA 58 95 = some (.putfield 46, 3, 5, 12, 0) from rfl) (by decide) rfl rfl (by decide) (nar_ret (by omega)) (fit_z (by omega)) rfl ?_
      obtain ⟨s16, hs16⟩ : ∃ x0, x0 = uI s2 31 (Int32.ofInt 1) := ⟨_, rfl⟩
      rw [← hs16]
      have Is16 : Bd s16 := by rw [hs16]; exact bd_I Is2 (show (0 : Int) ≤ 1 ∧ 1 ≤ 1 by first | exact ⟨by decide, by decide⟩ | omega) (by decide)
      have Fs16 := fm_I (x := Int32.ofInt 1) Fs2 (show 31 ∈ _ by decide)
      rw [← hs16] at Fs16
      have vs16 : iI s16 31 = 1 := by rw [hs16]; exact iI_u (by decide)
      have ws16_28 : iI s16 28 = iI s2 28 := by rw [hs16]; rfl
      refine z_aload_n X (x := A 46) (show cdA 58 98 = some (.aload_n 0, 1, 0, 0, 0) from rfl) (List.Mem.head _) ?_
      refine z_load_n X (x := x3) (show cdA 58 99 = some (.iload_n 2, 1, 0, 0, 0) from rfl) (List.Mem.tail _ (List.Mem.tail _ (List.Mem.head _))) ?_
      refine s_putI X 46 (show cdA 58 100 = some (.putfield 95, 3, 5, 10, 0) from rfl) (by decide) rfl rfl (by decide) rfl rfl rfl ?_
      obtain ⟨s17, hs17⟩ : ∃ x0, x0 = uI s16 29 (Int32.ofInt x3) := ⟨_, rfl⟩
      rw [← hs17]
      have Is17 : Bd s17 := by rw [hs17]; exact bd_I Is16 (show ((-2147483648) : Int) ≤ x3 ∧ x3 ≤ 2147483647 by first | exact ⟨hs2.2.1.1, hs2.2.1.2⟩ | omega) ⟨by first | exact hs2.2.1.1 | omega, by first | exact hs2.2.1.2 | omega⟩
      have Fs17 := fm_I (x := Int32.ofInt x3) Fs16 (show 29 ∈ _ by decide)
      rw [← hs17] at Fs17
      have vs17 : iI s17 29 = x3 := by rw [hs17]; exact iI_u ⟨by first | exact hs2.2.1.1 | omega, by first | exact hs2.2.1.2 | omega⟩
      have ws17_28 : iI s17 28 = iI s16 28 := by rw [hs17]; rfl
      refine z_aload_n X (x := A 46) (show cdA 58 103 = some (.aload_n 0, 1, 0, 0, 0) from rfl) (List.Mem.head _) ?_
      refine z_load_n X (x := x4) (show cdA 58 104 = some (.iload_n 3, 1, 0, 0, 0) from rfl) (List.Mem.tail _ (List.Mem.tail _ (List.Mem.tail _ (List.Mem.head _)))) ?_
      refine s_putI X 46 (show cdA 58 105 = some (.putfield 98, 3, 5, 11, 0) from rfl) (by decide) rfl rfl (by decide) rfl rfl rfl ?_
      obtain ⟨s18, hs18⟩ : ∃ x0, x0 = uI s17 30 (Int32.ofInt x4) := ⟨_, rfl⟩
      rw [← hs18]
      have Is18 : Bd s18 := by rw [hs18]; exact bd_I Is17 (show ((-2147483648) : Int) ≤ x4 ∧ x4 ≤ 2147483647 by first | exact ⟨hs2.2.2.1.1, hs2.2.2.1.2⟩ | omega) ⟨by first | exact hs2.2.2.1.1 | omega, by first | exact hs2.2.2.1.2 | omega⟩
      have Fs18 := fm_I (x := Int32.ofInt x4) Fs17 (show 30 ∈ _ by decide)
      rw [← hs18] at Fs18
      have vs18 : iI s18 30 = x4 := by rw [hs18]; exact iI_u ⟨by first | exact hs2.2.2.1.1 | omega, by first | exact hs2.2.2.1.2 | omega⟩
      have ws18_28 : iI s18 28 = iI s17 28 := by rw [hs18]; rfl
      refine z_aload_n X (x := A 46) (show cdA 58 108 = some (.aload_n 0, 1, 0, 0, 0) from rfl) (List.Mem.head _) ?_
      refine s_getR X 46 (show cdA 58 109 = some (.getfield 25, 3, 5, 7, 0) from rfl) (by decide) rfl rfl ?_
      refine z_const X (show cdA 58 112 = some (.iconst 0, 1, 0, 0, 0) from rfl) ?_
      refine z_aload_n X (x := A 46) (show cdA 58 113 = some (.aload_n 0, 1, 0, 0, 0) from rfl) (List.Mem.head _) ?_
      refine s_getR X 46 (show cdA 58 114 = some (.getfield 31, 3, 5, 9, 0) from rfl) (by decide) rfl rfl ?_
      refine z_const X (show cdA 58 117 = some (.iconst 0, 1, 0, 0, 0) from rfl) ?_
      refine z_aload_n X (x := A 46) (show cdA 58 118 = some (.aload_n 0, 1, 0, 0, 0) from rfl) (List.Mem.head _) ?_
      refine z_getI X 46 (show cdA 58 119 = some (.getfield 42, 3, 5, 3, 0) from rfl) (by decide) rfl rfl ?_
      have b19 : (0 : Int) ≤ iI s18 28 ∧ iI s18 28 ≤ 8 := Is18.1 28
      refine z_copy X Is18 51 53 (st := []) (show cdA 58 122 = some (.invokestatic 101, 3, 0, 5, 0) from rfl) (by decide) (by decide) rfl rfl (by omega) (by omega) (by omega) (show 0 + (iI s18 28) ≤ ((8 : Nat) : Int) by omega) (show 0 + (iI s18 28) ≤ ((8 : Nat) : Int) by omega) (by decide) (by rw [E.2.2.2]; decide) (by rw [E.2.2.2]; exact Nat.le_of_ble_eq_true rfl) (fun s20 Is20 Fs20 => ?_)
      have Gs20 := fm_ts Fs18 Fs20 (by decide) (by decide)
      have ws20_28 : iI s20 28 = iI s18 28 := fm_i Fs20 (by decide)
      exact w_vret X.1 q hRt (ax_d X (show cdA 58 125 = some (.return_, 1, 0, 0, 0) from rfl)) (Nat.zero_le _) (Nat.zero_le _) ⟨_, rfl, Is20, Gs20, rfl, trivial⟩
    ·
      refine z_load_n X (x := x3) (show cdA 58 77 = some (.iload_n 2, 1, 0, 0, 0) from rfl) (List.Mem.tail _ (List.Mem.tail _ (List.Mem.head _))) ?_
      refine z_aload_n X (x := A 46) (show cdA 58 78 = some (.aload_n 0, 1, 0, 0, 0) from rfl) (List.Mem.head _) ?_
      refine z_getI X 46 (show cdA 58 79 = some (.getfield 95, 3, 5, 10, 0) from rfl) (by decide) rfl rfl ?_
      have b21 : ((-2147483648) : Int) ≤ iI s2 29 ∧ iI s2 29 ≤ 2147483647 := Is2.1 29
      refine z_icmp_ne X (t := 125) (show cdA 58 82 = some (.if_icmp .ne 43, 3, 1, 0, 0) from rfl) (by decide) ⟨by first | exact hs2.2.1.1 | omega, by first | exact hs2.2.1.2 | omega⟩ (rng_to _) (fun g22 => ?_) (fun g22 => ?_)
      ·
        exact w_vret X.1 q hRt (ax_d X (show cdA 58 125 = some (.return_, 1, 0, 0, 0) from rfl)) (Nat.zero_le _) (Nat.zero_le _) ⟨_, rfl, Is2, Fs2, rfl, trivial⟩
      ·
        refine z_load_n X (x := x4) (show cdA 58 85 = some (.iload_n 3, 1, 0, 0, 0) from rfl) (List.Mem.tail _ (List.Mem.tail _ (List.Mem.tail _ (List.Mem.head _)))) ?_
        refine z_aload_n X (x := A 46) (show cdA 58 86 = some (.aload_n 0, 1, 0, 0, 0) from rfl) (List.Mem.head _) ?_
        refine z_getI X 46 (show cdA 58 87 = some (.getfield 98, 3, 5, 11, 0) from rfl) (by decide) rfl rfl ?_
        have b23 : ((-2147483648) : Int) ≤ iI s2 30 ∧ iI s2 30 ≤ 2147483647 := Is2.1 30
        refine z_icmp_ge X (t := 125) (show cdA 58 90 = some (.if_icmp .ge 35, 3, 3, 0, 0) from rfl) (by decide) ⟨by first | exact hs2.2.2.1.1 | omega, by first | exact hs2.2.2.1.2 | omega⟩ (rng_to _) (fun g24 => ?_) (fun g24 => ?_)
        ·
          exact w_vret X.1 q hRt (ax_d X (show cdA 58 125 = some (.return_, 1, 0, 0, 0) from rfl)) (Nat.zero_le _) (Nat.zero_le _) ⟨_, rfl, Is2, Fs2, rfl, trivial⟩
        ·
          refine z_aload_n X (x := A 46) (show cdA 58 93 = some (.aload_n 0, 1, 0, 0, 0) from rfl) (List.Mem.head _) ?_
          refine z_const X (show cdA 58 94 = some (.iconst 1, 1, 0, 0, 0) from rfl) ?_
          refine s_putI X 46 (show cdA 58 95 = some (.putfield 46, 3, 5, 12, 0) from rfl) (by decide) rfl rfl (by decide) (nar_ret (by omega)) (fit_z (by omega)) rfl ?_
          obtain ⟨s25, hs25⟩ : ∃ x0, x0 = uI s2 31 (Int32.ofInt 1) := ⟨_, rfl⟩
          rw [← hs25]
          have Is25 : Bd s25 := by rw [hs25]; exact bd_I Is2 (show (0 : Int) ≤ 1 ∧ 1 ≤ 1 by first | exact ⟨by decide, by decide⟩ | omega) (by decide)
          have Fs25 := fm_I (x := Int32.ofInt 1) Fs2 (show 31 ∈ _ by decide)
          rw [← hs25] at Fs25
          have vs25 : iI s25 31 = 1 := by rw [hs25]; exact iI_u (by decide)
          have ws25_28 : iI s25 28 = iI s2 28 := by rw [hs25]; rfl
          refine z_aload_n X (x := A 46) (show cdA 58 98 = some (.aload_n 0, 1, 0, 0, 0) from rfl) (List.Mem.head _) ?_
          refine z_load_n X (x := x3) (show cdA 58 99 = some (.iload_n 2, 1, 0, 0, 0) from rfl) (List.Mem.tail _ (List.Mem.tail _ (List.Mem.head _))) ?_
          refine s_putI X 46 (show cdA 58 100 = some (.putfield 95, 3, 5, 10, 0) from rfl) (by decide) rfl rfl (by decide) rfl rfl rfl ?_
          obtain ⟨s26, hs26⟩ : ∃ x0, x0 = uI s25 29 (Int32.ofInt x3) := ⟨_, rfl⟩
          rw [← hs26]
          have Is26 : Bd s26 := by rw [hs26]; exact bd_I Is25 (show ((-2147483648) : Int) ≤ x3 ∧ x3 ≤ 2147483647 by first | exact ⟨hs2.2.1.1, hs2.2.1.2⟩ | omega) ⟨by first | exact hs2.2.1.1 | omega, by first | exact hs2.2.1.2 | omega⟩
          have Fs26 := fm_I (x := Int32.ofInt x3) Fs25 (show 29 ∈ _ by decide)
          rw [← hs26] at Fs26
          have vs26 : iI s26 29 = x3 := by rw [hs26]; exact iI_u ⟨by first | exact hs2.2.1.1 | omega, by first | exact hs2.2.1.2 | omega⟩
          have ws26_28 : iI s26 28 = iI s25 28 := by rw [hs26]; rfl
          refine z_aload_n X (x := A 46) (show cdA 58 103 = some (.aload_n 0, 1, 0, 0, 0) from rfl) (List.Mem.head _) ?_
          refine z_load_n X (x := x4) (show cdA 58 104 = some (.iload_n 3, 1, 0, 0, 0) from rfl) (List.Mem.tail _ (List.Mem.tail _ (List.Mem.tail _ (List.Mem.head _)))) ?_
          refine s_putI X 46 (show cdA 58 105 = some (.putfield 98, 3, 5, 11, 0) from rfl) (by decide) rfl rfl (by decide) rfl rfl rfl ?_
          obtain ⟨s27, hs27⟩ : ∃ x0, x0 = uI s26 30 (Int32.ofInt x4) := ⟨_, rfl⟩
          rw [← hs27]
          have Is27 : Bd s27 := by rw [hs27]; exact bd_I Is26 (show ((-2147483648) : Int) ≤ x4 ∧ x4 ≤ 2147483647 by first | exact ⟨hs2.2.2.1.1, hs2.2.2.1.2⟩ | omega) ⟨by first | exact hs2.2.2.1.1 | omega, by first | exact hs2.2.2.1.2 | omega⟩
          have Fs27 := fm_I (x := Int32.ofInt x4) Fs26 (show 30 ∈ _ by decide)
          rw [← hs27] at Fs27
          have vs27 : iI s27 30 = x4 := by rw [hs27]; exact iI_u ⟨by first | exact hs2.2.2.1.1 | omega, by first | exact hs2.2.2.1.2 | omega⟩
          have ws27_28 : iI s27 28 = iI s26 28 := by rw [hs27]; rfl
          refine z_aload_n X (x := A 46) (show cdA 58 108 = some (.aload_n 0, 1, 0, 0, 0) from rfl) (List.Mem.head _) ?_
          refine s_getR X 46 (show cdA 58 109 = some (.getfield 25, 3, 5, 7, 0) from rfl) (by decide) rfl rfl ?_
          refine z_const X (show cdA 58 112 = some (.iconst 0, 1, 0, 0, 0) from rfl) ?_
          refine z_aload_n X (x := A 46) (show cdA 58 113 = some (.aload_n 0, 1, 0, 0, 0) from rfl) (List.Mem.head _) ?_
          refine s_getR X 46 (show cdA 58 114 = some (.getfield 31, 3, 5, 9, 0) from rfl) (by decide) rfl rfl ?_
          refine z_const X (show cdA 58 117 = some (.iconst 0, 1, 0, 0, 0) from rfl) ?_
          refine z_aload_n X (x := A 46) (show cdA 58 118 = some (.aload_n 0, 1, 0, 0, 0) from rfl) (List.Mem.head _) ?_
          refine z_getI X 46 (show cdA 58 119 = some (.getfield 42, 3, 5, 3, 0) from rfl) (by decide) rfl rfl ?_
          have b28 : (0 : Int) ≤ iI s27 28 ∧ iI s27 28 ≤ 8 := Is27.1 28
          refine z_copy X Is27 51 53 (st := []) (show cdA 58 122 = some (.invokestatic 101, 3, 0, 5, 0) from rfl) (by decide) (by decide) rfl rfl (by omega) (by omega) (by omega) (show 0 + (iI s27 28) ≤ ((8 : Nat) : Int) by omega) (show 0 + (iI s27 28) ≤ ((8 : Nat) : Int) by omega) (by decide) (by rw [E.2.2.2]; decide) (by rw [E.2.2.2]; exact Nat.le_of_ble_eq_true rfl) (fun s29 Is29 Fs29 => ?_)
          have Gs29 := fm_ts Fs27 Fs29 (by decide) (by decide)
          have ws29_28 : iI s29 28 = iI s27 28 := fm_i Fs29 (by decide)
          exact w_vret X.1 q hRt (ax_d X (show cdA 58 125 = some (.return_, 1, 0, 0, 0) from rfl)) (Nat.zero_le _) (Nat.zero_le _) ⟨_, rfl, Is29, Gs29, rfl, trivial⟩
set_option maxRecDepth 4000 in
theorem c5_place0 (G : GX l s0 D tys a0 dT) (I : Bd s) {x y z : Int} (p0 : 0 ≤ x ∧ x ≤ iI s 28) (p1 : iI s 28 - x ≤ ((0 : Nat) : Int)) (p2 : 0 ≤ y ∧ y ≤ z) (p3 : 1 ≤ z ∧ z ≤ 3) : CT l s0 D A dT 57 (rkR (12 + (0))) [.ref (A 46), .int (Int32.ofInt x), .int (Int32.ofInt y), .int (Int32.ofInt z)] s (fun o t => Bd t ∧ Fm [31, 29, 30] [45, 43, 44] s t ∧ o = .inl none ∧ (True)) := by
  refine ct_ofX G (by decide) (Nat.le_of_ble_eq_true rfl) (fun k X E ET hRt hXt q => ?_)
  show WS k 0 [(0, .ref (A 46)), (1, .int (Int32.ofInt x)), (2, .int (Int32.ofInt y)), (3, .int (Int32.ofInt z))] [] _ 0 0
  have F : Fm [31, 29, 30] [45, 43, 44] s s := fm_rf _ _ s
  have b1 : (0 : Int) ≤ iI s 28 ∧ iI s 28 ≤ 8 := I.1 28
  refine z_load_n X (x := x) (show cdA 57 0 = some (.iload_n 1, 1, 0, 0, 0) from rfl) (List.Mem.tail _ (List.Mem.head _)) ?_
  refine z_aload_n X (x := A 46) (show cdA 57 1 = some (.aload_n 0, 1, 0, 0, 0) from rfl) (List.Mem.head _) ?_
  refine z_getI X 46 (show cdA 57 2 = some (.getfield 42, 3, 5, 3, 0) from rfl) (by decide) rfl rfl ?_
  have b2 : (0 : Int) ≤ iI s 28 ∧ iI s 28 ≤ 8 := I.1 28
  refine z_icmp_lt X (t := 14) (show cdA 57 5 = some (.if_icmp .lt 9, 3, 2, 0, 0) from rfl) (by decide) ⟨by first | exact oq_fa4e5087 p0.1 | omega, by first | exact oq_b5dbaaed p0.2 b2.2 | omega⟩ (rng_to _) (fun g3 => ?_) (fun g3 => ?_)
  ·
    exfalso
    omega
  ·
    refine z_aload_n X (x := A 46) (show cdA 57 8 = some (.aload_n 0, 1, 0, 0, 0) from rfl) (List.Mem.head _) ?_
    refine z_load_n X (x := y) (show cdA 57 9 = some (.iload_n 2, 1, 0, 0, 0) from rfl) (List.Mem.tail _ (List.Mem.tail _ (List.Mem.head _))) ?_
    refine z_callV X 46 (rm := rmN 58) (As := [.int (Int32.ofInt y)]) (st := []) (show cdA 57 10 = some (.invokevirtual 83, 3, 58, 0, 0) from rfl) rfl (by decide) rfl (by rw [E.1, E.2.1, E.2.2.1]; exact c5_compare_46 G I (by first | exact ⟨p2.1, oq_300cfc0a p2.2 p3.2⟩ | omega)) ⟨by rw [E.2.2.2]; exact (show 7 + 1 ≤ (12 + (12 + (0))) from oq_8067230e), by rw [E.2.2.2]; exact (show 8 + (6 + 11) + 121 ≤ (500 + 45 * (12 + (0))) from oq_f178cd33), by rw [E.2.2.2]; exact Nat.le_refl 0, by rw [E.2.2.2]; exact Nat.le_refl 0⟩ (Nat.le_of_ble_eq_true rfl) (fun vv s4 hq => ?_) (fun ee s4 hq => ?_)
    rotate_left
    · obtain ⟨Is4, Fs4, hv, hps4⟩ := hq; cases hv
    obtain ⟨Is4, Fs4, hv, hps4⟩ := hq
    cases hv
    have Gs4 := fm_ts F Fs4 (by decide) (by decide)
    have ws4_28 : iI s4 28 = iI s 28 := fm_i Fs4 (by decide)
    show WS k 13 [(0, .ref (A 46)), (1, .int (Int32.ofInt x)), (2, .int (Int32.ofInt y)), (3, .int (Int32.ofInt z))] [] (Wd A dT s4) 0 0
    exact w_vret X.1 q hRt (ax_d X (show cdA 57 13 = some (.return_, 1, 0, 0, 0) from rfl)) (Nat.zero_le _) (Nat.zero_le _) ⟨_, rfl, Is4, Gs4, rfl, trivial⟩
set_option maxRecDepth 4000 in
theorem c5_placeS (G : GX l s0 D tys a0 dT) {r : Nat} (hR : ∀ {s : PS} {x y z : Int}, Bd s → (0 ≤ x ∧ x ≤ iI s 28) → (iI s 28 - x ≤ ((r : Nat) : Int)) → (0 ≤ y ∧ y ≤ z) → (1 ≤ z ∧ z ≤ 3) → CT l s0 D A dT 57 (rkR (12 + (r))) [.ref (A 46), .int (Int32.ofInt x), .int (Int32.ofInt y), .int (Int32.ofInt z)] s (fun o t => Bd t ∧ Fm [31, 29, 30] [45, 43, 44] s t ∧ o = .inl none ∧ (True))) (I : Bd s) {x y z : Int} (p0 : 0 ≤ x ∧ x ≤ iI s 28) (p1 : iI s 28 - x ≤ ((r + 1 : Nat) : Int)) (p2 : 0 ≤ y ∧ y ≤ z) (p3 : 1 ≤ z ∧ z ≤ 3) : CT l s0 D A dT 57 (rkR (12 + (r + 1))) [.ref (A 46), .int (Int32.ofInt x), .int (Int32.ofInt y), .int (Int32.ofInt z)] s (fun o t => Bd t ∧ Fm [31, 29, 30] [45, 43, 44] s t ∧ o = .inl none ∧ (True)) := by
  refine ct_ofX G (by decide) (Nat.le_of_ble_eq_true rfl) (fun k X E ET hRt hXt q => ?_)
  show WS k 0 [(0, .ref (A 46)), (1, .int (Int32.ofInt x)), (2, .int (Int32.ofInt y)), (3, .int (Int32.ofInt z))] [] _ 0 0
  have F : Fm [31, 29, 30] [45, 43, 44] s s := fm_rf _ _ s
  have b1 : (0 : Int) ≤ iI s 28 ∧ iI s 28 ≤ 8 := I.1 28
  have L17 : ∀ (n : Nat) (t : PS) (xv yv zv hh : Int), Bd t → Fm [31, 29, 30] [45, 43, 44] s t → (xv = x ∧ (0 ≤ xv ∧ xv < iI t 28) ∧ (0 ≤ yv ∧ yv ≤ zv) ∧ (1 ≤ zv ∧ zv ≤ 3) ∧ 0 ≤ hh ∧ hh ≤ 3 ∧ iI t 28 = iI s 28) → (3 - hh : Int).toNat < n → (∀ (t' : PS) (hh' : Int), Bd t' → Fm [31, 29, 30] [45, 43, 44] s t' → (xv = x ∧ (0 ≤ xv ∧ xv < iI t' 28) ∧ (0 ≤ yv ∧ yv ≤ zv) ∧ (1 ≤ zv ∧ zv ≤ 3) ∧ 0 ≤ hh' ∧ hh' ≤ 3 ∧ iI t' 28 = iI s 28) → WS k 92 [(0, .ref (A 46)), (1, .int (Int32.ofInt xv)), (2, .int (Int32.ofInt yv)), (3, .int (Int32.ofInt zv)), (4, .int (Int32.ofInt hh'))] [] (Wd A dT t') 0 0) → WS k 17 [(0, .ref (A 46)), (1, .int (Int32.ofInt xv)), (2, .int (Int32.ofInt yv)), (3, .int (Int32.ofInt zv)), (4, .int (Int32.ofInt hh))] [] (Wd A dT t) 0 0 := by
    intro n
    induction n with
    | zero =>
      intro t xv yv zv hh I F hi hm kx
      exact absurd hm (Nat.not_lt_zero _)
    | succ n ih =>
      intro t xv yv zv hh I F hi hm kx
      have b1001 : (0 : Int) ≤ iI t 28 ∧ iI t 28 ≤ 8 := I.1 28
      refine z_load X (x := hh) (show cdA 57 17 = some (.iload 4, 2, 0, 0, 0) from rfl) (List.Mem.tail _ (List.Mem.tail _ (List.Mem.tail _ (List.Mem.tail _ (List.Mem.head _))))) ?_
      refine z_load_n X (x := yv) (show cdA 57 19 = some (.iload_n 2, 1, 0, 0, 0) from rfl) (List.Mem.tail _ (List.Mem.tail _ (List.Mem.head _))) ?_
      refine z_icmp_gt X (t := 92) (show cdA 57 20 = some (.if_icmp .gt 72, 3, 4, 0, 0) from rfl) (by decide) ⟨by first | exact oq_fa4e5087 hi.2.2.2.2.1 | omega, by first | exact oq_c5520c83 hi.2.2.2.2.2.1 | omega⟩ ⟨by first | exact oq_fa4e5087 hi.2.2.1.1 | omega, by first | exact oq_f647a1c7 hi.2.2.1.2 hi.2.2.2.1.2 | omega⟩ (fun g1002 => ?_) (fun g1002 => ?_)
      ·
        refine WS_lv (lv := [(0, .ref (A 46)), (1, .int (Int32.ofInt xv)), (2, .int (Int32.ofInt yv)), (3, .int (Int32.ofInt zv)), (4, .int (Int32.ofInt hh))]) (List.forall_mem_cons.mpr ⟨(List.Mem.head _), (List.forall_mem_cons.mpr ⟨(List.Mem.tail _ (List.Mem.head _)), (List.forall_mem_cons.mpr ⟨(List.Mem.tail _ (List.Mem.tail _ (List.Mem.head _))), (List.forall_mem_cons.mpr ⟨(List.Mem.tail _ (List.Mem.tail _ (List.Mem.tail _ (List.Mem.head _)))), (List.forall_mem_cons.mpr ⟨(List.Mem.tail _ (List.Mem.tail _ (List.Mem.tail _ (List.Mem.tail _ (List.Mem.head _))))), (fun q h => absurd h List.not_mem_nil)⟩)⟩)⟩)⟩)⟩) ?_
        exact kx _ hh I F (by first | exact ⟨hi.1, And.intro (hi.2.1.1) (hi.2.1.2), And.intro (hi.2.2.1.1) (hi.2.2.1.2), And.intro (hi.2.2.2.1.1) (hi.2.2.2.1.2), hi.2.2.2.2.1, hi.2.2.2.2.2.1, hi.2.2.2.2.2.2⟩ | omega)
      ·
        refine z_load X (x := hh) (show cdA 57 23 = some (.iload 4, 2, 0, 0, 0) from rfl) (List.Mem.tail _ (List.Mem.tail _ (List.Mem.tail _ (List.Mem.tail _ (List.Mem.head _))))) ?_
        refine z_load_n X (x := zv) (show cdA 57 25 = some (.iload_n 3, 1, 0, 0, 0) from rfl) (List.Mem.tail _ (List.Mem.tail _ (List.Mem.tail _ (List.Mem.head _)))) ?_
        refine z_icmp_ge X (t := 92) (show cdA 57 26 = some (.if_icmp .ge 66, 3, 3, 0, 0) from rfl) (by decide) ⟨by first | exact oq_fa4e5087 hi.2.2.2.2.1 | omega, by first | exact oq_c5520c83 hi.2.2.2.2.2.1 | omega⟩ ⟨by first | exact oq_9462313e hi.2.2.2.1.1 | omega, by first | exact oq_c5520c83 hi.2.2.2.1.2 | omega⟩ (fun g1003 => ?_) (fun g1003 => ?_)
        ·
          refine WS_lv (lv := [(0, .ref (A 46)), (1, .int (Int32.ofInt xv)), (2, .int (Int32.ofInt yv)), (3, .int (Int32.ofInt zv)), (4, .int (Int32.ofInt hh))]) (List.forall_mem_cons.mpr ⟨(List.Mem.head _), (List.forall_mem_cons.mpr ⟨(List.Mem.tail _ (List.Mem.head _)), (List.forall_mem_cons.mpr ⟨(List.Mem.tail _ (List.Mem.tail _ (List.Mem.head _))), (List.forall_mem_cons.mpr ⟨(List.Mem.tail _ (List.Mem.tail _ (List.Mem.tail _ (List.Mem.head _)))), (List.forall_mem_cons.mpr ⟨(List.Mem.tail _ (List.Mem.tail _ (List.Mem.tail _ (List.Mem.tail _ (List.Mem.head _))))), (fun q h => absurd h List.not_mem_nil)⟩)⟩)⟩)⟩)⟩) ?_
          exact kx _ hh I F (by first | exact ⟨hi.1, And.intro (hi.2.1.1) (hi.2.1.2), And.intro (hi.2.2.1.1) (hi.2.2.1.2), And.intro (hi.2.2.2.1.1) (hi.2.2.2.1.2), hi.2.2.2.2.1, hi.2.2.2.2.2.1, hi.2.2.2.2.2.2⟩ | omega)
        ·
          refine z_aload_n X (x := A 46) (show cdA 57 29 = some (.aload_n 0, 1, 0, 0, 0) from rfl) (List.Mem.head _) ?_
          refine s_getR X 46 (show cdA 57 30 = some (.getfield 25, 3, 5, 7, 0) from rfl) (by decide) rfl rfl ?_
          refine z_load_n X (x := xv) (show cdA 57 33 = some (.iload_n 1, 1, 0, 0, 0) from rfl) (List.Mem.tail _ (List.Mem.head _)) ?_
          refine z_load X (x := hh) (show cdA 57 34 = some (.iload 4, 2, 0, 0, 0) from rfl) (List.Mem.tail _ (List.Mem.tail _ (List.Mem.tail _ (List.Mem.tail _ (List.Mem.head _))))) ?_
          refine z_ast X 51 (show cdA 57 36 = some (.iastore, 1, 0, 0, 0) from rfl) (by decide) rfl (by first | exact hi.2.1.1 | omega) (show xv < 8 by first | exact oq_7f5b2e79 hi.2.1.2 b1001.2 | omega) (by decide) ?_
          obtain ⟨s1004, hs1004⟩ : ∃ x0, x0 = uC t 43 (xv).toNat (Int32.ofInt hh) := ⟨_, rfl⟩
          rw [← hs1004]
          have Is1004 : Bd s1004 := by rw [hs1004]; exact bd_C I (show ((-2147483648) : Int) ≤ hh ∧ hh ≤ 2147483647 by first | exact ⟨oq_fa4e5087 hi.2.2.2.2.1, oq_c5520c83 hi.2.2.2.2.2.1⟩ | omega) ⟨by first | exact oq_fa4e5087 hi.2.2.2.2.1 | omega, by first | exact oq_c5520c83 hi.2.2.2.2.2.1 | omega⟩
          have Fs1004 := fm_C (i := (xv).toNat) (x := Int32.ofInt hh) F (show 43 ∈ _ by decide)
          rw [← hs1004] at Fs1004
          have ws1004_28 : iI s1004 28 = iI t 28 := by rw [hs1004]; rfl
          refine z_aload_n X (x := A 46) (show cdA 57 37 = some (.aload_n 0, 1, 0, 0, 0) from rfl) (List.Mem.head _) ?_
          refine s_getR X 46 (show cdA 57 38 = some (.getfield 28, 3, 5, 8, 0) from rfl) (by decide) rfl rfl ?_
          refine z_load X (x := hh) (show cdA 57 41 = some (.iload 4, 2, 0, 0, 0) from rfl) (List.Mem.tail _ (List.Mem.tail _ (List.Mem.tail _ (List.Mem.tail _ (List.Mem.head _))))) ?_
          refine w_dup2_11 X.1 (ax_d X (show cdA 57 43 = some (.dup2, 1, 0, 0, 0) from rfl)) rfl rfl ?_
          refine z_ald X 52 (show cdA 57 44 = some (.iaload, 1, 0, 0, 0) from rfl) (by decide) rfl (by first | exact hi.2.2.2.2.1 | omega) (show hh < 3 by first | exact oq_1a1eeab1 g1003 hi.2.2.2.1.2 | omega) (by decide) ?_
          have b1005 : (0 : Int) ≤ iC s1004 44 (hh).toNat ∧ iC s1004 44 (hh).toNat ≤ 255 := Is1004.2 44 _ (show (hh).toNat < 3 by first | exact oq_2a01c7dc g1003 hi.2.2.2.1.2 | omega)
          refine z_const X (show cdA 57 45 = some (.iconst 1, 1, 0, 0, 0) from rfl) ?_
          refine z_load_n X (x := xv) (show cdA 57 46 = some (.iload_n 1, 1, 0, 0, 0) from rfl) (List.Mem.tail _ (List.Mem.head _)) ?_
          refine z_shl1 X (show cdA 57 47 = some (.ishl, 1, 0, 0, 0) from rfl) (by first | exact ⟨hi.2.1.1, oq_2da74134 hi.2.1.2 b1001.2⟩ | omega) (fun y1006 hy1006 iy1006 jy1006 ky1006 => ?_)
          refine z_orb X (show cdA 57 48 = some (.ior, 1, 0, 0, 0) from rfl) 8 (by decide) (show 0 ≤ (iC s1004 44 (hh).toNat) ∧ (iC s1004 44 (hh).toNat) < 2 ^ 8 by omega) (show 0 ≤ y1006 ∧ y1006 < 2 ^ 8 by omega) (fun y1007 hy1007 iy1007 => ?_)
          have ib1008 : y1007 < 256 := iy1007
          refine z_ast X 52 (show cdA 57 49 = some (.iastore, 1, 0, 0, 0) from rfl) (by decide) rfl (by first | exact hi.2.2.2.2.1 | omega) (show hh < 3 by first | exact oq_1a1eeab1 g1003 hi.2.2.2.1.2 | omega) (by decide) ?_
          obtain ⟨s1009, hs1009⟩ : ∃ x0, x0 = uC s1004 44 (hh).toNat (Int32.ofInt y1007) := ⟨_, rfl⟩
          rw [← hs1009]
          have Is1009 : Bd s1009 := by rw [hs1009]; exact bd_C Is1004 (show (0 : Int) ≤ y1007 ∧ y1007 ≤ 255 by first | exact ⟨hy1007, oq_b4026d49 ib1008⟩ | omega) ⟨by first | exact oq_fa4e5087 hy1007 | omega, by first | exact oq_17ce71fa ib1008 | omega⟩
          have Fs1009 := fm_C (i := (hh).toNat) (x := Int32.ofInt y1007) Fs1004 (show 44 ∈ _ by decide)
          rw [← hs1009] at Fs1009
          have ws1009_28 : iI s1009 28 = iI s1004 28 := by rw [hs1009]; rfl
          refine z_aload_n X (x := A 46) (show cdA 57 50 = some (.aload_n 0, 1, 0, 0, 0) from rfl) (List.Mem.head _) ?_
          refine z_load_n X (x := xv) (show cdA 57 51 = some (.iload_n 1, 1, 0, 0, 0) from rfl) (List.Mem.tail _ (List.Mem.head _)) ?_
          refine z_const X (show cdA 57 52 = some (.iconst 1, 1, 0, 0, 0) from rfl) ?_
          refine z_add X (show cdA 57 53 = some (.iadd, 1, 0, 0, 0) from rfl) ?_
          refine z_load X (x := hh) (show cdA 57 54 = some (.iload 4, 2, 0, 0, 0) from rfl) (List.Mem.tail _ (List.Mem.tail _ (List.Mem.tail _ (List.Mem.tail _ (List.Mem.head _))))) ?_
          refine z_load_n X (x := yv) (show cdA 57 56 = some (.iload_n 2, 1, 0, 0, 0) from rfl) (List.Mem.tail _ (List.Mem.tail _ (List.Mem.head _))) ?_
          have N1010 : ∀ e1011 : Int, (((hh ≠ yv) ∧ e1011 = yv) ∨ ((hh = yv) ∧ e1011 = (yv + 1))) → WS k 67 [(0, .ref (A 46)), (1, .int (Int32.ofInt xv)), (2, .int (Int32.ofInt yv)), (3, .int (Int32.ofInt zv)), (4, .int (Int32.ofInt hh))] [.int (Int32.ofInt e1011), .int (Int32.ofInt (xv + 1)), .ref (A 46)] (Wd A dT s1009) 0 0 := by
            intro e1011 he1011
            refine z_load_n X (x := zv) (show cdA 57 67 = some (.iload_n 3, 1, 0, 0, 0) from rfl) (List.Mem.tail _ (List.Mem.tail _ (List.Mem.tail _ (List.Mem.head _)))) ?_
            refine z_callV X 46 (rm := (rkR (12 + (r)))) (As := [.int (Int32.ofInt (xv + 1)), .int (Int32.ofInt e1011), .int (Int32.ofInt zv)]) (st := []) (show cdA 57 68 = some (.invokevirtual 60, 3, 57, 0, 0) from rfl) rfl (by decide) rfl (by rw [E.1, E.2.1, E.2.2.1]; exact hR Is1009 (by first | exact ⟨p0.1, oq_c0bca489 ws1009_28 hi.1 ws1004_28 hi.2.1.2⟩ | omega) (by omega) (by first | exact ⟨p2.1, p2.2⟩ | omega) (by first | exact ⟨p3.1, p3.2⟩ | omega)) ⟨by rw [E.2.2.2]; exact (show (12 + (12 + (r))) + 1 ≤ (12 + (12 + (r + 1))) from oq_23161452 r), by rw [E.2.2.2]; exact (show 8 + (5 + 11) + (500 + 45 * (12 + (r))) ≤ (500 + 45 * (12 + (r + 1))) from oq_5db9f55c r), by rw [E.2.2.2]; exact Nat.le_refl 0, by rw [E.2.2.2]; exact Nat.le_refl 0⟩ (Nat.le_of_ble_eq_true rfl) (fun vv s1012 hq => ?_) (fun ee s1012 hq => ?_)
            rotate_left
            · obtain ⟨Is1012, Fs1012, hv, hps1012⟩ := hq; cases hv
            obtain ⟨Is1012, Fs1012, hv, hps1012⟩ := hq
            cases hv
            have Gs1012 := fm_ts Fs1009 Fs1012 (by decide) (by decide)
            have ws1012_28 : iI s1012 28 = iI s1009 28 := fm_i Fs1012 (by decide)
            show WS k 71 [(0, .ref (A 46)), (1, .int (Int32.ofInt xv)), (2, .int (Int32.ofInt yv)), (3, .int (Int32.ofInt zv)), (4, .int (Int32.ofInt hh))] [] (Wd A dT s1012) 0 0
            refine z_aload_n X (x := A 46) (show cdA 57 71 = some (.aload_n 0, 1, 0, 0, 0) from rfl) (List.Mem.head _) ?_
            refine s_getR X 46 (show cdA 57 72 = some (.getfield 28, 3, 5, 8, 0) from rfl) (by decide) rfl rfl ?_
            refine z_load X (x := hh) (show cdA 57 75 = some (.iload 4, 2, 0, 0, 0) from rfl) (List.Mem.tail _ (List.Mem.tail _ (List.Mem.tail _ (List.Mem.tail _ (List.Mem.head _))))) ?_
            refine w_dup2_11 X.1 (ax_d X (show cdA 57 77 = some (.dup2, 1, 0, 0, 0) from rfl)) rfl rfl ?_
            refine z_ald X 52 (show cdA 57 78 = some (.iaload, 1, 0, 0, 0) from rfl) (by decide) rfl (by first | exact hi.2.2.2.2.1 | omega) (show hh < 3 by first | exact oq_1a1eeab1 g1003 hi.2.2.2.1.2 | omega) (by decide) ?_
            have b1014 : (0 : Int) ≤ iC s1012 44 (hh).toNat ∧ iC s1012 44 (hh).toNat ≤ 255 := Is1012.2 44 _ (show (hh).toNat < 3 by first | exact oq_2a01c7dc g1003 hi.2.2.2.1.2 | omega)
            refine z_const X (show cdA 57 79 = some (.iconst 1, 1, 0, 0, 0) from rfl) ?_
            refine z_load_n X (x := xv) (show cdA 57 80 = some (.iload_n 1, 1, 0, 0, 0) from rfl) (List.Mem.tail _ (List.Mem.head _)) ?_
            refine z_shl1 X (show cdA 57 81 = some (.ishl, 1, 0, 0, 0) from rfl) (by first | exact ⟨hi.2.1.1, oq_2da74134 hi.2.1.2 b1001.2⟩ | omega) (fun y1015 hy1015 iy1015 jy1015 ky1015 => ?_)
            refine z_const X (show cdA 57 82 = some (.iconst (-1), 1, 0, 0, 0) from rfl) ?_
            refine z_bxor X (show cdA 57 83 = some (.ixor, 1, 0, 0, 0) from rfl) ?_
            refine z_any (fun y1016 hy1016 => ?_)
            refine z_andl X (show cdA 57 84 = some (.iand, 1, 0, 0, 0) from rfl) (show 0 ≤ (iC s1012 44 (hh).toNat) by first | exact b1014.1 | omega) (show (iC s1012 44 (hh).toNat) ≤ 2147483647 by first | exact oq_4567a937 b1014.2 | omega) (fun y1017 hy1017 gy1017 => ?_)
            refine z_ast X 52 (show cdA 57 85 = some (.iastore, 1, 0, 0, 0) from rfl) (by decide) rfl (by first | exact hi.2.2.2.2.1 | omega) (show hh < 3 by first | exact oq_1a1eeab1 g1003 hi.2.2.2.1.2 | omega) (by decide) ?_
            obtain ⟨s1018, hs1018⟩ : ∃ x0, x0 = uC s1012 44 (hh).toNat (Int32.ofInt y1017) := ⟨_, rfl⟩
            rw [← hs1018]
            have Is1018 : Bd s1018 := by rw [hs1018]; exact bd_C Is1012 (show (0 : Int) ≤ y1017 ∧ y1017 ≤ 255 by first | exact ⟨hy1017, oq_07b7da50 gy1017 b1014.2⟩ | omega) ⟨by first | exact oq_fa4e5087 hy1017 | omega, by first | exact oq_fdc39e03 gy1017 b1014.2 | omega⟩
            have Fs1018 := fm_C (i := (hh).toNat) (x := Int32.ofInt y1017) Gs1012 (show 44 ∈ _ by decide)
            rw [← hs1018] at Fs1018
            have ws1018_28 : iI s1018 28 = iI s1012 28 := by rw [hs1018]; rfl
            refine z_inc X (x := hh) (lv' := [(4, .int (Int32.ofInt (hh + 1))), (0, .ref (A 46)), (1, .int (Int32.ofInt xv)), (2, .int (Int32.ofInt yv)), (3, .int (Int32.ofInt zv))]) (show cdA 57 86 = some (.iinc 4 1, 3, 0, 0, 0) from rfl) (by decide) (List.Mem.tail _ (List.Mem.tail _ (List.Mem.tail _ (List.Mem.tail _ (List.Mem.head _))))) (fun _ h => h) ?_
            refine z_goto X (t := 17) (show cdA 57 89 = some (.goto (-72), 3, 0, 0, 0) from rfl) (by decide) ?_
            refine WS_lv (lv := [(0, .ref (A 46)), (1, .int (Int32.ofInt xv)), (2, .int (Int32.ofInt yv)), (3, .int (Int32.ofInt zv)), (4, .int (Int32.ofInt (hh + 1)))]) (List.forall_mem_cons.mpr ⟨(List.Mem.tail _ (List.Mem.head _)), (List.forall_mem_cons.mpr ⟨(List.Mem.tail _ (List.Mem.tail _ (List.Mem.head _))), (List.forall_mem_cons.mpr ⟨(List.Mem.tail _ (List.Mem.tail _ (List.Mem.tail _ (List.Mem.head _)))), (List.forall_mem_cons.mpr ⟨(List.Mem.tail _ (List.Mem.tail _ (List.Mem.tail _ (List.Mem.tail _ (List.Mem.head _))))), (List.forall_mem_cons.mpr ⟨(List.Mem.head _), (fun q h => absurd h List.not_mem_nil)⟩)⟩)⟩)⟩)⟩) ?_
            exact ih _ xv yv zv (hh + 1) Is1018 Fs1018 (by first | exact ⟨hi.1, And.intro (hi.2.1.1) (oq_bc9971d6 ws1018_28 hi.2.1.2 ws1012_28 ws1009_28 ws1004_28), And.intro (hi.2.2.1.1) (hi.2.2.1.2), And.intro (hi.2.2.2.1.1) (hi.2.2.2.1.2), oq_54f49eb5 hi.2.2.2.2.1, oq_917370dc g1003 hi.2.2.2.1.2, oq_469c7eaf ws1018_28 ws1012_28 ws1009_28 ws1004_28 hi.2.2.2.2.2.2⟩ | omega) (by first | exact qk_me hm (by decide) (oq_83a89698 g1003 hi.2.2.2.1.2) | omega) kx
          refine z_icmp_ne X (t := 66) (show cdA 57 57 = some (.if_icmp .ne 9, 3, 1, 0, 0) from rfl) (by decide) ⟨by first | exact oq_fa4e5087 hi.2.2.2.2.1 | omega, by first | exact oq_c5520c83 hi.2.2.2.2.2.1 | omega⟩ ⟨by first | exact oq_fa4e5087 hi.2.2.1.1 | omega, by first | exact oq_f647a1c7 hi.2.2.1.2 hi.2.2.2.1.2 | omega⟩ (fun g1019 => ?_) (fun g1019 => ?_)
          ·
            refine z_load_n X (x := yv) (show cdA 57 66 = some (.iload_n 2, 1, 0, 0, 0) from rfl) (List.Mem.tail _ (List.Mem.tail _ (List.Mem.head _))) ?_
            exact N1010 _ (Or.inl ⟨g1019, rfl⟩)
          ·
            refine z_load_n X (x := yv) (show cdA 57 60 = some (.iload_n 2, 1, 0, 0, 0) from rfl) (List.Mem.tail _ (List.Mem.tail _ (List.Mem.head _))) ?_
            refine z_const X (show cdA 57 61 = some (.iconst 1, 1, 0, 0, 0) from rfl) ?_
            refine z_add X (show cdA 57 62 = some (.iadd, 1, 0, 0, 0) from rfl) ?_
            refine z_goto X (t := 67) (show cdA 57 63 = some (.goto 4, 3, 0, 0, 0) from rfl) (by decide) ?_
            exact N1010 _ (Or.inr (⟨g1019, rfl⟩))
  refine z_load_n X (x := x) (show cdA 57 0 = some (.iload_n 1, 1, 0, 0, 0) from rfl) (List.Mem.tail _ (List.Mem.head _)) ?_
  refine z_aload_n X (x := A 46) (show cdA 57 1 = some (.aload_n 0, 1, 0, 0, 0) from rfl) (List.Mem.head _) ?_
  refine z_getI X 46 (show cdA 57 2 = some (.getfield 42, 3, 5, 3, 0) from rfl) (by decide) rfl rfl ?_
  have b2 : (0 : Int) ≤ iI s 28 ∧ iI s 28 ≤ 8 := I.1 28
  refine z_icmp_lt X (t := 14) (show cdA 57 5 = some (.if_icmp .lt 9, 3, 2, 0, 0) from rfl) (by decide) ⟨by first | exact oq_fa4e5087 p0.1 | omega, by first | exact oq_b5dbaaed p0.2 b2.2 | omega⟩ (rng_to _) (fun g3 => ?_) (fun g3 => ?_)
  ·
    refine z_const X (show cdA 57 14 = some (.iconst 0, 1, 0, 0, 0) from rfl) ?_
    refine z_store X (lv' := [(4, .int (Int32.ofInt 0)), (0, .ref (A 46)), (1, .int (Int32.ofInt x)), (2, .int (Int32.ofInt y)), (3, .int (Int32.ofInt z))]) (show cdA 57 15 = some (.istore 4, 2, 0, 0, 0) from rfl) (by decide) (fun _ h => h) ?_
    refine WS_lv (lv := [(0, .ref (A 46)), (1, .int (Int32.ofInt x)), (2, .int (Int32.ofInt y)), (3, .int (Int32.ofInt z)), (4, .int (Int32.ofInt 0))]) (List.forall_mem_cons.mpr ⟨(List.Mem.tail _ (List.Mem.head _)), (List.forall_mem_cons.mpr ⟨(List.Mem.tail _ (List.Mem.tail _ (List.Mem.head _))), (List.forall_mem_cons.mpr ⟨(List.Mem.tail _ (List.Mem.tail _ (List.Mem.tail _ (List.Mem.head _)))), (List.forall_mem_cons.mpr ⟨(List.Mem.tail _ (List.Mem.tail _ (List.Mem.tail _ (List.Mem.tail _ (List.Mem.head _))))), (List.forall_mem_cons.mpr ⟨(List.Mem.head _), (fun q h => absurd h List.not_mem_nil)⟩)⟩)⟩)⟩)⟩) ?_
    refine L17 ((3 - 0 : Int).toNat + 1) s x y z 0 I F (by first | exact ⟨by decide, And.intro (p0.1) (g3), And.intro (p2.1) (p2.2), And.intro (p3.1) (p3.2), by decide, by decide, by decide⟩ | omega) (Nat.lt_succ_self _) ?_
    intro s4 x5 Is4 Fs4 hs4
    have b6 : (0 : Int) ≤ iI s4 28 ∧ iI s4 28 ≤ 8 := Is4.1 28
    exact w_vret X.1 q hRt (ax_d X (show cdA 57 92 = some (.return_, 1, 0, 0, 0) from rfl)) (Nat.zero_le _) (Nat.zero_le _) ⟨_, rfl, Is4, Fs4, rfl, trivial⟩
  ·
    refine z_aload_n X (x := A 46) (show cdA 57 8 = some (.aload_n 0, 1, 0, 0, 0) from rfl) (List.Mem.head _) ?_
    refine z_load_n X (x := y) (show cdA 57 9 = some (.iload_n 2, 1, 0, 0, 0) from rfl) (List.Mem.tail _ (List.Mem.tail _ (List.Mem.head _))) ?_
    refine z_callV X 46 (rm := rmN 58) (As := [.int (Int32.ofInt y)]) (st := []) (show cdA 57 10 = some (.invokevirtual 83, 3, 58, 0, 0) from rfl) rfl (by decide) rfl (by rw [E.1, E.2.1, E.2.2.1]; exact c5_compare_46 G I (by first | exact ⟨p2.1, oq_300cfc0a p2.2 p3.2⟩ | omega)) ⟨by rw [E.2.2.2]; exact (show 7 + 1 ≤ (12 + (12 + (r + 1))) from oq_ae749fef r), by rw [E.2.2.2]; exact (show 8 + (6 + 11) + 121 ≤ (500 + 45 * (12 + (r + 1))) from oq_7e2d2a8e r), by rw [E.2.2.2]; exact Nat.le_refl 0, by rw [E.2.2.2]; exact Nat.le_refl 0⟩ (Nat.le_of_ble_eq_true rfl) (fun vv s7 hq => ?_) (fun ee s7 hq => ?_)
    rotate_left
    · obtain ⟨Is7, Fs7, hv, hps7⟩ := hq; cases hv
    obtain ⟨Is7, Fs7, hv, hps7⟩ := hq
    cases hv
    have Gs7 := fm_ts F Fs7 (by decide) (by decide)
    have ws7_28 : iI s7 28 = iI s 28 := fm_i Fs7 (by decide)
    show WS k 13 [(0, .ref (A 46)), (1, .int (Int32.ofInt x)), (2, .int (Int32.ofInt y)), (3, .int (Int32.ofInt z))] [] (Wd A dT s7) 0 0
    exact w_vret X.1 q hRt (ax_d X (show cdA 57 13 = some (.return_, 1, 0, 0, 0) from rfl)) (Nat.zero_le _) (Nat.zero_le _) ⟨_, rfl, Is7, Gs7, rfl, trivial⟩
theorem c5_placer (G : GX l s0 D tys a0 dT) (r : Nat) : ∀ {s : PS} {x y z : Int}, Bd s → (0 ≤ x ∧ x ≤ iI s 28) → (iI s 28 - x ≤ ((r : Nat) : Int)) → (0 ≤ y ∧ y ≤ z) → (1 ≤ z ∧ z ≤ 3) → CT l s0 D A dT 57 (rkR (12 + (r))) [.ref (A 46), .int (Int32.ofInt x), .int (Int32.ofInt y), .int (Int32.ofInt z)] s (fun o t => Bd t ∧ Fm [31, 29, 30] [45, 43, 44] s t ∧ o = .inl none ∧ (True)) := by
  induction r with
  | zero => exact fun {_ _ _ _} I p0 p1 p2 p3 => c5_place0 G I p0 p1 p2 p3
  | succ r ih => exact fun {_ _ _ _} I p0 p1 p2 p3 => c5_placeS G ih I p0 p1 p2 p3
set_option maxRecDepth 4000 in
theorem c5_solve_46 (G : GX l s0 D tys a0 dT) (I : Bd s) {x : Int} (p0 : 1 ≤ x ∧ x ≤ 3) : CT l s0 D A dT 55 (rmN 55) [.ref (A 46), .int (Int32.ofInt x)] s (fun o t => Bd t ∧ Fm [22, 23, 24, 31, 29, 30] [33, 26, 27, 28, 29, 30, 31, 32, 20, 40, 41, 42, 45, 43, 44] s t ∧ ∃ e, o = .inl (some (.int (Int32.ofInt e))) ∧ rng e ∧ (e = 0 ∨ e = 1)) := by
  refine ct_ofX G (by decide) (Nat.le_of_ble_eq_true rfl) (fun k X E ET hRt hXt q => ?_)
  show WS k 0 [(0, .ref (A 46)), (1, .int (Int32.ofInt x))] [] _ 0 0
  have F : Fm [22, 23, 24, 31, 29, 30] [33, 26, 27, 28, 29, 30, 31, 32, 20, 40, 41, 42, 45, 43, 44] s s := fm_rf _ _ s
  have b1 : (0 : Int) ≤ iI s 28 ∧ iI s 28 ≤ 8 := I.1 28
  have L16 : ∀ (n : Nat) (t : PS) (xv c : Int), Bd t → Fm [22, 23, 24, 31, 29, 30] [33, 26, 27, 28, 29, 30, 31, 32, 20, 40, 41, 42, 45, 43, 44] s t → ((1 ≤ xv ∧ xv ≤ 3) ∧ 1 ≤ c ∧ c ≤ 256) → (256 - c : Int).toNat < n → (∀ (t' : PS) (c' : Int), Bd t' → Fm [22, 23, 24, 31, 29, 30] [33, 26, 27, 28, 29, 30, 31, 32, 20, 40, 41, 42, 45, 43, 44] s t' → ((1 ≤ xv ∧ xv ≤ 3) ∧ 1 ≤ c' ∧ c' ≤ 256) → WS k 37 [(0, .ref (A 46)), (1, .int (Int32.ofInt xv)), (2, .int (Int32.ofInt c'))] [] (Wd A dT t') 0 0) → WS k 16 [(0, .ref (A 46)), (1, .int (Int32.ofInt xv)), (2, .int (Int32.ofInt c))] [] (Wd A dT t) 0 0 := by
    intro n
    induction n with
    | zero =>
      intro t xv c I F hi hm kx
      exact absurd hm (Nat.not_lt_zero _)
    | succ n ih =>
      intro t xv c I F hi hm kx
      have b1001 : (0 : Int) ≤ iI t 28 ∧ iI t 28 ≤ 8 := I.1 28
      refine z_load_n X (x := c) (show cdA 55 16 = some (.iload_n 2, 1, 0, 0, 0) from rfl) (List.Mem.tail _ (List.Mem.tail _ (List.Mem.head _))) ?_
      refine z_const X (show cdA 55 17 = some (.iconst 1, 1, 0, 0, 0) from rfl) ?_
      refine z_aload_n X (x := A 46) (show cdA 55 18 = some (.aload_n 0, 1, 0, 0, 0) from rfl) (List.Mem.head _) ?_
      refine z_getI X 46 (show cdA 55 19 = some (.getfield 42, 3, 5, 3, 0) from rfl) (by decide) rfl rfl ?_
      have b1002 : (0 : Int) ≤ iI t 28 ∧ iI t 28 ≤ 8 := I.1 28
      refine z_shl1 X (show cdA 55 22 = some (.ishl, 1, 0, 0, 0) from rfl) (by first | exact ⟨b1002.1, oq_58cbab50 b1002.2⟩ | omega) (fun y1003 hy1003 iy1003 jy1003 ky1003 => ?_)
      refine z_icmp_ge X (t := 37) (show cdA 55 23 = some (.if_icmp .ge 14, 3, 3, 0, 0) from rfl) (by decide) ⟨by first | exact oq_9462313e hi.2.1 | omega, by first | exact oq_09cd9fc1 hi.2.2 | omega⟩ ⟨by first | exact oq_9462313e hy1003 | omega, by first | exact oq_e0f19d36 iy1003 | omega⟩ (fun g1004 => ?_) (fun g1004 => ?_)
      ·
        refine WS_lv (lv := [(0, .ref (A 46)), (1, .int (Int32.ofInt xv)), (2, .int (Int32.ofInt c))]) (List.forall_mem_cons.mpr ⟨(List.Mem.head _), (List.forall_mem_cons.mpr ⟨(List.Mem.tail _ (List.Mem.head _)), (List.forall_mem_cons.mpr ⟨(List.Mem.tail _ (List.Mem.tail _ (List.Mem.head _))), (fun q h => absurd h List.not_mem_nil)⟩)⟩)⟩) ?_
        exact kx _ c I F (by first | exact ⟨And.intro (hi.1.1) (hi.1.2), hi.2.1, hi.2.2⟩ | omega)
      ·
        refine z_aload_n X (x := A 46) (show cdA 55 26 = some (.aload_n 0, 1, 0, 0, 0) from rfl) (List.Mem.head _) ?_
        refine z_load_n X (x := c) (show cdA 55 27 = some (.iload_n 2, 1, 0, 0, 0) from rfl) (List.Mem.tail _ (List.Mem.tail _ (List.Mem.head _))) ?_
        refine z_callV X 46 (rm := rmN 56) (As := [.int (Int32.ofInt c)]) (st := []) (show cdA 55 28 = some (.invokevirtual 50, 3, 56, 0, 0) from rfl) rfl (by decide) rfl (by rw [E.1, E.2.1, E.2.2.1]; exact c5_hearSubset_46 G I (by first | exact ⟨hi.2.1, by omega⟩ | omega)) ⟨by rw [E.2.2.2]; exact (show (rmN 56).frames + 1 ≤ (rmN 55).frames by decide), by rw [E.2.2.2]; exact (show 8 + (mNL (miB 56) + 11) + (rmN 56).locals ≤ (rmN 55).locals by decide), by rw [E.2.2.2]; exact (show 0 + (rmN 56).cells ≤ (rmN 55).cells by decide), by rw [E.2.2.2]; exact (show 0 + (rmN 56).slots ≤ (rmN 55).slots by decide)⟩ (Nat.le_of_ble_eq_true rfl) (fun vv s1005 hq => ?_) (fun ee s1005 hq => ?_)
        rotate_left
        · obtain ⟨Is1005, Fs1005, hv, hps1005⟩ := hq; cases hv
        obtain ⟨Is1005, Fs1005, hv, hps1005⟩ := hq
        cases hv
        have Gs1005 := fm_ts F Fs1005 (by decide) (by decide)
        have ws1005_28 : iI s1005 28 = iI t 28 := fm_i Fs1005 (by decide)
        show WS k 31 [(0, .ref (A 46)), (1, .int (Int32.ofInt xv)), (2, .int (Int32.ofInt c))] [] (Wd A dT s1005) 0 0
        refine z_inc X (x := c) (lv' := [(2, .int (Int32.ofInt (c + 1))), (0, .ref (A 46)), (1, .int (Int32.ofInt xv))]) (show cdA 55 31 = some (.iinc 2 1, 3, 0, 0, 0) from rfl) (by decide) (List.Mem.tail _ (List.Mem.tail _ (List.Mem.head _))) (fun _ h => h) ?_
        refine z_goto X (t := 16) (show cdA 55 34 = some (.goto (-18), 3, 0, 0, 0) from rfl) (by decide) ?_
        refine WS_lv (lv := [(0, .ref (A 46)), (1, .int (Int32.ofInt xv)), (2, .int (Int32.ofInt (c + 1)))]) (List.forall_mem_cons.mpr ⟨(List.Mem.tail _ (List.Mem.head _)), (List.forall_mem_cons.mpr ⟨(List.Mem.tail _ (List.Mem.tail _ (List.Mem.head _))), (List.forall_mem_cons.mpr ⟨(List.Mem.head _), (fun q h => absurd h List.not_mem_nil)⟩)⟩)⟩) ?_
        exact ih _ xv (c + 1) Is1005 Gs1005 (by first | exact ⟨And.intro (hi.1.1) (hi.1.2), oq_1e1a2df6 hi.2.1, by omega⟩ | omega) (by omega) kx
  refine z_aload_n X (x := A 46) (show cdA 55 0 = some (.aload_n 0, 1, 0, 0, 0) from rfl) (List.Mem.head _) ?_
  refine z_const X (show cdA 55 1 = some (.iconst 0, 1, 0, 0, 0) from rfl) ?_
  refine s_putI X 46 (show cdA 55 2 = some (.putfield 46, 3, 5, 12, 0) from rfl) (by decide) rfl rfl (by decide) (nar_ret (by omega)) (fit_z (by omega)) rfl ?_
  obtain ⟨s2, hs2⟩ : ∃ x0, x0 = uI s 31 (Int32.ofInt 0) := ⟨_, rfl⟩
  rw [← hs2]
  have Is2 : Bd s2 := by rw [hs2]; exact bd_I I (show (0 : Int) ≤ 0 ∧ 0 ≤ 1 by first | exact ⟨by decide, by decide⟩ | omega) (by decide)
  have Fs2 := fm_I (x := Int32.ofInt 0) F (show 31 ∈ _ by decide)
  rw [← hs2] at Fs2
  have vs2 : iI s2 31 = 0 := by rw [hs2]; exact iI_u (by decide)
  have ws2_28 : iI s2 28 = iI s 28 := by rw [hs2]; rfl
  refine z_aload_n X (x := A 46) (show cdA 55 5 = some (.aload_n 0, 1, 0, 0, 0) from rfl) (List.Mem.head _) ?_
  refine z_getI X 46 (show cdA 55 6 = some (.getfield 42, 3, 5, 3, 0) from rfl) (by decide) rfl rfl ?_
  have b3 : (0 : Int) ≤ iI s2 28 ∧ iI s2 28 ≤ 8 := Is2.1 28
  refine z_if_ne X (t := 14) (show cdA 55 9 = some (.ifCond .ne 5, 3, 1, 0, 0) from rfl) (by decide) (rng_to _) (fun g4 => ?_) (fun g4 => ?_)
  ·
    refine z_const X (show cdA 55 14 = some (.iconst 1, 1, 0, 0, 0) from rfl) ?_
    refine z_store_n X (lv' := [(2, .int (Int32.ofInt 1)), (0, .ref (A 46)), (1, .int (Int32.ofInt x))]) (show cdA 55 15 = some (.istore_n 2, 1, 0, 0, 0) from rfl) (by decide) (fun _ h => h) ?_
    refine WS_lv (lv := [(0, .ref (A 46)), (1, .int (Int32.ofInt x)), (2, .int (Int32.ofInt 1))]) (List.forall_mem_cons.mpr ⟨(List.Mem.tail _ (List.Mem.head _)), (List.forall_mem_cons.mpr ⟨(List.Mem.tail _ (List.Mem.tail _ (List.Mem.head _))), (List.forall_mem_cons.mpr ⟨(List.Mem.head _), (fun q h => absurd h List.not_mem_nil)⟩)⟩)⟩) ?_
    refine L16 ((256 - 1 : Int).toNat + 1) s2 x 1 Is2 Fs2 (by first | exact ⟨And.intro (p0.1) (p0.2), by decide, by decide⟩ | omega) (Nat.lt_succ_self _) ?_
    intro s5 x6 Is5 Fs5 hs5
    have b7 : (0 : Int) ≤ iI s5 28 ∧ iI s5 28 ≤ 8 := Is5.1 28
    refine z_aload_n X (x := A 46) (show cdA 55 37 = some (.aload_n 0, 1, 0, 0, 0) from rfl) (List.Mem.head _) ?_
    refine s_getR X 46 (show cdA 55 38 = some (.getfield 28, 3, 5, 8, 0) from rfl) (by decide) rfl rfl ?_
    refine z_const X (show cdA 55 41 = some (.iconst 0, 1, 0, 0, 0) from rfl) ?_
    refine z_callS X (rm := rmN 312) (As := [.ref (A 52), .int (Int32.ofInt 0)]) (st := []) (show cdA 55 42 = some (.invokestatic 54, 3, 312, 1, 0) from rfl) rfl (by rw [E.1, E.2.1, E.2.2.1]; exact j_fill_52 G Is5 (by first | exact ⟨by decide, by decide⟩ | omega)) ⟨by rw [E.2.2.2]; exact (show (rmN 312).frames + 1 ≤ (rmN 55).frames by decide), by rw [E.2.2.2]; exact (show 8 + (mNL (miB 312) + 11) + (rmN 312).locals ≤ (rmN 55).locals by decide), by rw [E.2.2.2]; exact (show 0 + (rmN 312).cells ≤ (rmN 55).cells by decide), by rw [E.2.2.2]; exact (show 0 + (rmN 312).slots ≤ (rmN 55).slots by decide)⟩ (Nat.le_of_ble_eq_true rfl) (fun vv s8 hq => ?_) (fun ee s8 hq => ?_)
    rotate_left
    · obtain ⟨Is8, Fs8, hv, hps8⟩ := hq; cases hv
    obtain ⟨Is8, Fs8, hv, hps8⟩ := hq
    cases hv
    have Gs8 := fm_ts Fs5 Fs8 (by decide) (by decide)
    have ws8_28 : iI s8 28 = iI s5 28 := fm_i Fs8 (by decide)
    show WS k 45 [(0, .ref (A 46)), (1, .int (Int32.ofInt x)), (2, .int (Int32.ofInt x6))] [] (Wd A dT s8) 0 0
    refine z_aload_n X (x := A 46) (show cdA 55 45 = some (.aload_n 0, 1, 0, 0, 0) from rfl) (List.Mem.head _) ?_
    refine z_const X (show cdA 55 46 = some (.iconst 0, 1, 0, 0, 0) from rfl) ?_
    refine z_const X (show cdA 55 47 = some (.iconst 0, 1, 0, 0, 0) from rfl) ?_
    refine z_load_n X (x := x) (show cdA 55 48 = some (.iload_n 1, 1, 0, 0, 0) from rfl) (List.Mem.tail _ (List.Mem.head _)) ?_
    refine z_callV X 46 (rm := (rkR (12 + 8))) (As := [.int (Int32.ofInt 0), .int (Int32.ofInt 0), .int (Int32.ofInt x)]) (st := []) (show cdA 55 49 = some (.invokevirtual 60, 3, 57, 0, 0) from rfl) rfl (by decide) rfl (by rw [E.1, E.2.1, E.2.2.1]; exact c5_placer G 8 Is8 (by first | exact ⟨oq_2a6e3b50 hs5.1.1, by omega⟩ | omega) (by first | exact oq_24bb5479 ws8_28 hs5.1.1 b7.2 | omega) (by omega) (by omega)) ⟨by rw [E.2.2.2]; exact (show 32 + 1 ≤ 33 from oq_475ba1bc), by rw [E.2.2.2]; exact (show 8 + (5 + 11) + 1400 ≤ 1424 from oq_a1d4c57c), by rw [E.2.2.2]; exact Nat.le_refl 0, by rw [E.2.2.2]; exact Nat.le_refl 0⟩ (Nat.le_of_ble_eq_true rfl) (fun vv s10 hq => ?_) (fun ee s10 hq => ?_)
    rotate_left
    · obtain ⟨Is10, Fs10, hv, hps10⟩ := hq; cases hv
    obtain ⟨Is10, Fs10, hv, hps10⟩ := hq
    cases hv
    have Gs10 := fm_ts Gs8 Fs10 (by decide) (by decide)
    have ws10_28 : iI s10 28 = iI s8 28 := fm_i Fs10 (by decide)
    show WS k 52 [(0, .ref (A 46)), (1, .int (Int32.ofInt x)), (2, .int (Int32.ofInt x6))] [] (Wd A dT s10) 0 0
    refine z_aload_n X (x := A 46) (show cdA 55 52 = some (.aload_n 0, 1, 0, 0, 0) from rfl) (List.Mem.head _) ?_
    refine z_getI X 46 (show cdA 55 53 = some (.getfield 46, 3, 5, 12, 0) from rfl) (by decide) rfl rfl ?_
    have b12 : (0 : Int) ≤ iI s10 31 ∧ iI s10 31 ≤ 1 := Is10.1 31
    exact w_iret X.1 q hRt (nar_ret (by first | exact oq_31e518ae b12.2 b12.1 | omega)) (ax_d X (show cdA 55 56 = some (.ireturn, 1, 0, 0, 0) from rfl)) (Nat.zero_le _) (Nat.zero_le _) ⟨_, rfl, Is10, Gs10, (iI s10 31), rfl, (rng_to _), by first | exact oq_31e518ae b12.2 b12.1 | omega⟩
  ·
    refine z_const X (show cdA 55 12 = some (.iconst 0, 1, 0, 0, 0) from rfl) ?_
    exact w_iret X.1 q hRt (nar_ret (by first | exact Or.inl (by decide) | omega)) (ax_d X (show cdA 55 13 = some (.ireturn, 1, 0, 0, 0) from rfl)) (Nat.zero_le _) (Nat.zero_le _) ⟨_, rfl, Is2, Fs2, 0, rfl, (by decide), by first | exact Or.inl (by decide) | omega⟩
end M76
