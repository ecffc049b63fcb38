/-! The class: streams -/
section M72
variable {l : Launch} {s0 : State} {D : va_G} {tys : List (ClassId × FieldType)} {a0 : Array Value} {A : Nat → Nat} {dT : Nat → ClassId} {s : PS}
set_option maxRecDepth 4000 in
theorem c9_lengthen_3 (G : GX l s0 D tys a0 dT) (I : Bd s) {x : Int} (p0 : 0 ≤ x ∧ x ≤ 5) : CT l s0 D A dT 105 (rmN 105) [.ref (A 3), .int (Int32.ofInt x)] s (fun o t => Bd t ∧ Fm [11] [15] s t ∧ ∃ e, o = .inl (some (.int (Int32.ofInt e))) ∧ rng e ∧ (0 ≤ e ∧ e ≤ 4)) := by
  refine ct_ofX G (by decide) (Nat.le_of_ble_eq_true rfl) (fun k X E ET hRt hXt q => ?_)
  show WS k 0 [(0, .ref (A 3)), (1, .int (Int32.ofInt x))] [] _ 0 0
  have F : Fm [11] [15] s s := fm_rf _ _ s
  have b1 : (0 : Int) ≤ iI s 11 ∧ iI s 11 ≤ 24 := I.1 11
  have L47 : ∀ (n : Nat) (t : PS) (xv nx c : Int), Bd t → Fm [11] [15] s t → ((0 ≤ nx ∧ nx ≤ 127) ∧ 0 ≤ c ∧ c ≤ 24 ∧ iI t 11 ≤ 23) → (24 - c : Int).toNat < n → (∀ (t' : PS) (c' : Int), Bd t' → Fm [11] [15] s t' → ((0 ≤ nx ∧ nx ≤ 127) ∧ 0 ≤ c' ∧ c' ≤ 24 ∧ iI t' 11 ≤ 23) → WS k 73 [(0, .ref (A 3)), (1, .int (Int32.ofInt xv)), (2, .int (Int32.ofInt nx)), (3, .int (Int32.ofInt c'))] [] (Wd A dT t') 0 0) → WS k 47 [(0, .ref (A 3)), (1, .int (Int32.ofInt xv)), (2, .int (Int32.ofInt nx)), (3, .int (Int32.ofInt c))] [] (Wd A dT t) 0 0 := by
    intro n
    induction n with
    | zero =>
      intro t xv nx c I F hi hm kx
      exact absurd hm (Nat.not_lt_zero _)
    | succ n ih =>
      intro t xv nx c I F hi hm kx
      have b1001 : (0 : Int) ≤ iI t 11 ∧ iI t 11 ≤ 24 := I.1 11
      refine z_load_n X (x := c) (show cdA 105 47 = some (.iload_n 3, 1, 0, 0, 0) from rfl) (List.Mem.tail _ (List.Mem.tail _ (List.Mem.tail _ (List.Mem.head _)))) ?_
      refine z_aload_n X (x := A 3) (show cdA 105 48 = some (.aload_n 0, 1, 0, 0, 0) from rfl) (List.Mem.head _) ?_
      refine z_getI X 3 (show cdA 105 49 = some (.getfield 58, 3, 9, 17, 0) from rfl) (by decide) rfl rfl ?_
      have b1002 : (0 : Int) ≤ iI t 11 ∧ iI t 11 ≤ 24 := I.1 11
      refine z_icmp_ge X (t := 73) (show cdA 105 52 = some (.if_icmp .ge 21, 3, 3, 0, 0) from rfl) (by decide) ⟨by first | exact oq_fa4e5087 hi.2.1 | omega, by first | exact oq_5bcd337f hi.2.2.1 | omega⟩ (rng_to _) (fun g1003 => ?_) (fun g1003 => ?_)
      ·
        refine WS_lv (lv := [(0, .ref (A 3)), (1, .int (Int32.ofInt xv)), (2, .int (Int32.ofInt nx)), (3, .int (Int32.ofInt c))]) (List.forall_mem_cons.mpr ⟨(List.Mem.head _), (List.forall_mem_cons.mpr ⟨(List.Mem.tail _ (List.Mem.head _)), (List.forall_mem_cons.mpr ⟨(List.Mem.tail _ (List.Mem.tail _ (List.Mem.head _))), (List.forall_mem_cons.mpr ⟨(List.Mem.tail _ (List.Mem.tail _ (List.Mem.tail _ (List.Mem.head _)))), (fun q h => absurd h List.not_mem_nil)⟩)⟩)⟩)⟩) ?_
        exact kx _ c I F (by first | exact ⟨And.intro (hi.1.1) (hi.1.2), hi.2.1, hi.2.2.1, hi.2.2.2⟩ | omega)
      ·
        refine z_aload_n X (x := A 3) (show cdA 105 55 = some (.aload_n 0, 1, 0, 0, 0) from rfl) (List.Mem.head _) ?_
        refine s_getR X 3 (show cdA 105 56 = some (.getfield 55, 3, 9, 16, 0) from rfl) (by decide) rfl rfl ?_
        refine z_load_n X (x := c) (show cdA 105 59 = some (.iload_n 3, 1, 0, 0, 0) from rfl) (List.Mem.tail _ (List.Mem.tail _ (List.Mem.tail _ (List.Mem.head _)))) ?_
        refine z_ald X 18 (show cdA 105 60 = some (.iaload, 1, 0, 0, 0) from rfl) (by decide) rfl (by first | exact hi.2.1 | omega) (show c < 24 by first | exact oq_8ff7beb9 g1003 b1002.2 | omega) (by decide) ?_
        have b1004 : (0 : Int) ≤ iC t 15 (c).toNat ∧ iC t 15 (c).toNat ≤ 127 := I.2 15 _ (show (c).toNat < 24 by first | exact oq_9e668fc9 g1003 b1002.2 | omega)
        refine z_load_n X (x := nx) (show cdA 105 61 = some (.iload_n 2, 1, 0, 0, 0) from rfl) (List.Mem.tail _ (List.Mem.tail _ (List.Mem.head _))) ?_
        refine z_icmp_ne X (t := 67) (show cdA 105 62 = some (.if_icmp .ne 5, 3, 1, 0, 0) from rfl) (by decide) (rng_to _) ⟨by first | exact oq_fa4e5087 hi.1.1 | omega, by first | exact oq_07d346ce hi.1.2 | omega⟩ (fun g1005 => ?_) (fun g1005 => ?_)
        ·
          refine z_inc X (x := c) (lv' := [(3, .int (Int32.ofInt (c + 1))), (0, .ref (A 3)), (1, .int (Int32.ofInt xv)), (2, .int (Int32.ofInt nx))]) (show cdA 105 67 = some (.iinc 3 1, 3, 0, 0, 0) from rfl) (by decide) (List.Mem.tail _ (List.Mem.tail _ (List.Mem.tail _ (List.Mem.head _)))) (fun _ h => h) ?_
          refine z_goto X (t := 47) (show cdA 105 70 = some (.goto (-23), 3, 0, 0, 0) from rfl) (by decide) ?_
          refine WS_lv (lv := [(0, .ref (A 3)), (1, .int (Int32.ofInt xv)), (2, .int (Int32.ofInt nx)), (3, .int (Int32.ofInt (c + 1)))]) (List.forall_mem_cons.mpr ⟨(List.Mem.tail _ (List.Mem.head _)), (List.forall_mem_cons.mpr ⟨(List.Mem.tail _ (List.Mem.tail _ (List.Mem.head _))), (List.forall_mem_cons.mpr ⟨(List.Mem.tail _ (List.Mem.tail _ (List.Mem.tail _ (List.Mem.head _)))), (List.forall_mem_cons.mpr ⟨(List.Mem.head _), (fun q h => absurd h List.not_mem_nil)⟩)⟩)⟩)⟩) ?_
          exact ih _ xv nx (c + 1) I F (by first | exact ⟨And.intro (hi.1.1) (hi.1.2), oq_54f49eb5 hi.2.1, oq_41473be0 g1003 b1002.2, hi.2.2.2⟩ | omega) (by first | exact qk_me hm (by decide) (oq_9dea93e6 g1003 b1002.2) | omega) kx
        ·
          refine z_const X (show cdA 105 65 = some (.iconst 4, 1, 0, 0, 0) from rfl) ?_
          exact w_iret X.1 q hRt rfl (ax_d X (show cdA 105 66 = some (.ireturn, 1, 0, 0, 0) from rfl)) (Nat.zero_le _) (Nat.zero_le _) ⟨_, rfl, I, F, 4, rfl, (by decide), by first | exact ⟨by decide, by decide⟩ | omega⟩
  refine z_aload_n X (x := A 3) (show cdA 105 0 = some (.aload_n 0, 1, 0, 0, 0) from rfl) (List.Mem.head _) ?_
  refine z_getI X 3 (show cdA 105 1 = some (.getfield 58, 3, 9, 17, 0) from rfl) (by decide) rfl rfl ?_
  have b2 : (0 : Int) ≤ iI s 11 ∧ iI s 11 ≤ 24 := I.1 11
  refine z_if_le X (t := 25) (show cdA 105 4 = some (.ifCond .le 21, 3, 5, 0, 0) from rfl) (by decide) (rng_to _) (fun g3 => ?_) (fun g3 => ?_)
  ·
    refine z_const X (show cdA 105 25 = some (.iconst (-1), 1, 0, 0, 0) from rfl) ?_
    refine z_store_n X (lv' := [(2, .int (Int32.ofInt (-1))), (0, .ref (A 3)), (1, .int (Int32.ofInt x))]) (show cdA 105 26 = some (.istore_n 2, 1, 0, 0, 0) from rfl) (by decide) (fun _ h => h) ?_
    refine z_load_n X (x := (-1)) (show cdA 105 27 = some (.iload_n 2, 1, 0, 0, 0) from rfl) (List.Mem.head _) ?_
    refine z_const X (show cdA 105 28 = some (.iconst (-1), 1, 0, 0, 0) from rfl) ?_
    refine z_icmp_ne X (t := 34) (show cdA 105 29 = some (.if_icmp .ne 5, 3, 1, 0, 0) from rfl) (by decide) (by decide) (by decide) (fun g4 => ?_) (fun g4 => ?_)
    ·
      refine z_aload_n X (x := A 3) (show cdA 105 34 = some (.aload_n 0, 1, 0, 0, 0) from rfl) (List.Mem.tail _ (List.Mem.head _)) ?_
      refine z_getI X 3 (show cdA 105 35 = some (.getfield 58, 3, 9, 17, 0) from rfl) (by decide) rfl rfl ?_
      have b5 : (0 : Int) ≤ iI s 11 ∧ iI s 11 ≤ 24 := I.1 11
      refine z_bipush X (show cdA 105 38 = some (.bipush 24, 2, 0, 0, 24) from rfl) ?_
      refine z_icmp_lt X (t := 45) (show cdA 105 40 = some (.if_icmp .lt 5, 3, 2, 0, 0) from rfl) (by decide) (rng_to _) (by decide) (fun g6 => ?_) (fun g6 => ?_)
      ·
        refine z_const X (show cdA 105 45 = some (.iconst 0, 1, 0, 0, 0) from rfl) ?_
        refine z_store_n X (lv' := [(3, .int (Int32.ofInt 0)), (2, .int (Int32.ofInt (-1))), (0, .ref (A 3)), (1, .int (Int32.ofInt x))]) (show cdA 105 46 = some (.istore_n 3, 1, 0, 0, 0) from rfl) (by decide) (fun _ h => h) ?_
        refine WS_lv (lv := [(0, .ref (A 3)), (1, .int (Int32.ofInt x)), (2, .int (Int32.ofInt (-1))), (3, .int (Int32.ofInt 0))]) (List.forall_mem_cons.mpr ⟨(List.Mem.tail _ (List.Mem.tail _ (List.Mem.head _))), (List.forall_mem_cons.mpr ⟨(List.Mem.tail _ (List.Mem.tail _ (List.Mem.tail _ (List.Mem.head _)))), (List.forall_mem_cons.mpr ⟨(List.Mem.tail _ (List.Mem.head _)), (List.forall_mem_cons.mpr ⟨(List.Mem.head _), (fun q h => absurd h List.not_mem_nil)⟩)⟩)⟩)⟩) ?_
        refine L47 ((24 - 0 : Int).toNat + 1) s x (-1) 0 I F (by first | exact ⟨oq_0fcc530a g4, by decide, by decide, oq_c69fe266 g6⟩ | omega) (Nat.lt_succ_self _) ?_
        intro s7 x8 Is7 Fs7 hs7
        have b9 : (0 : Int) ≤ iI s7 11 ∧ iI s7 11 ≤ 24 := Is7.1 11
        refine z_aload_n X (x := A 3) (show cdA 105 73 = some (.aload_n 0, 1, 0, 0, 0) from rfl) (List.Mem.head _) ?_
        refine s_getR X 3 (show cdA 105 74 = some (.getfield 55, 3, 9, 16, 0) from rfl) (by decide) rfl rfl ?_
        refine z_aload_n X (x := A 3) (show cdA 105 77 = some (.aload_n 0, 1, 0, 0, 0) from rfl) (List.Mem.head _) ?_
        refine z_getI X 3 (show cdA 105 78 = some (.getfield 58, 3, 9, 17, 0) from rfl) (by decide) rfl rfl ?_
        have b10 : (0 : Int) ≤ iI s7 11 ∧ iI s7 11 ≤ 24 := Is7.1 11
        refine z_load_n X (x := (-1)) (show cdA 105 81 = some (.iload_n 2, 1, 0, 0, 0) from rfl) (List.Mem.tail _ (List.Mem.tail _ (List.Mem.head _))) ?_
        refine z_ast X 18 (show cdA 105 82 = some (.iastore, 1, 0, 0, 0) from rfl) (by decide) rfl (by first | exact b10.1 | omega) (show (iI s7 11) < 24 by first | exact oq_7fdb8aa6 hs7.2.2.2 | omega) (by decide) ?_
        obtain ⟨s11, hs11⟩ : ∃ x0, x0 = uC s7 15 ((iI s7 11)).toNat (Int32.ofInt (-1)) := ⟨_, rfl⟩
        rw [← hs11]
        have Is11 : Bd s11 := by rw [hs11]; exact bd_C Is7 (show (0 : Int) ≤ (-1) ∧ (-1) ≤ 127 by first | exact ⟨oq_6350a420 g4, by decide⟩ | omega) (by decide)
        have Fs11 := fm_C (i := ((iI s7 11)).toNat) (x := Int32.ofInt (-1)) Fs7 (show 15 ∈ _ by decide)
        rw [← hs11] at Fs11
        have ws11_11 : iI s11 11 = iI s7 11 := by rw [hs11]; rfl
        refine z_aload_n X (x := A 3) (show cdA 105 83 = some (.aload_n 0, 1, 0, 0, 0) from rfl) (List.Mem.head _) ?_
        refine w_dup X.1 (ax_d X (show cdA 105 84 = some (.dup, 1, 0, 0, 0) from rfl)) rfl ?_
        refine z_getI X 3 (show cdA 105 85 = some (.getfield 58, 3, 9, 17, 0) from rfl) (by decide) rfl rfl ?_
        have b12 : (0 : Int) ≤ iI s11 11 ∧ iI s11 11 ≤ 24 := Is11.1 11
        refine z_const X (show cdA 105 88 = some (.iconst 1, 1, 0, 0, 0) from rfl) ?_
        refine z_add X (show cdA 105 89 = some (.iadd, 1, 0, 0, 0) from rfl) ?_
        refine s_putI X 3 (show cdA 105 90 = some (.putfield 58, 3, 9, 17, 0) from rfl) (by decide) rfl rfl (by decide) rfl rfl rfl ?_
        obtain ⟨s13, hs13⟩ : ∃ x0, x0 = uI s11 11 (Int32.ofInt ((iI s11 11) + 1)) := ⟨_, rfl⟩
        rw [← hs13]
        have Is13 : Bd s13 := by rw [hs13]; exact bd_I Is11 (show (0 : Int) ≤ ((iI s11 11) + 1) ∧ ((iI s11 11) + 1) ≤ 24 by first | exact ⟨oq_54f49eb5 b12.1, oq_c4e726c7 ws11_11 hs7.2.2.2⟩ | omega) ⟨by first | exact oq_74de1e16 b12.1 | omega, by first | exact oq_3a454424 b12.2 | omega⟩
        have Fs13 := fm_I (x := Int32.ofInt ((iI s11 11) + 1)) Fs11 (show 11 ∈ _ by decide)
        rw [← hs13] at Fs13
        have vs13 : iI s13 11 = ((iI s11 11) + 1) := by rw [hs13]; exact iI_u ⟨by first | exact oq_74de1e16 b12.1 | omega, by first | exact oq_3a454424 b12.2 | omega⟩
        refine z_const X (show cdA 105 93 = some (.iconst 0, 1, 0, 0, 0) from rfl) ?_
        exact w_iret X.1 q hRt rfl (ax_d X (show cdA 105 94 = some (.ireturn, 1, 0, 0, 0) from rfl)) (Nat.zero_le _) (Nat.zero_le _) ⟨_, rfl, Is13, Fs13, 0, rfl, (by decide), by first | exact ⟨by decide, by decide⟩ | omega⟩
      ·
        refine z_const X (show cdA 105 43 = some (.iconst 4, 1, 0, 0, 0) from rfl) ?_
        exact w_iret X.1 q hRt rfl (ax_d X (show cdA 105 44 = some (.ireturn, 1, 0, 0, 0) from rfl)) (Nat.zero_le _) (Nat.zero_le _) ⟨_, rfl, I, F, 4, rfl, (by decide), by first | exact ⟨by decide, by decide⟩ | omega⟩
    ·
      refine z_const X (show cdA 105 32 = some (.iconst 3, 1, 0, 0, 0) from rfl) ?_
      exact w_iret X.1 q hRt rfl (ax_d X (show cdA 105 33 = some (.ireturn, 1, 0, 0, 0) from rfl)) (Nat.zero_le _) (Nat.zero_le _) ⟨_, rfl, I, F, 3, rfl, (by decide), by first | exact ⟨by decide, by decide⟩ | omega⟩
  ·
    refine z_aload_n X (x := A 3) (show cdA 105 7 = some (.aload_n 0, 1, 0, 0, 0) from rfl) (List.Mem.head _) ?_
    refine s_getR X 3 (show cdA 105 8 = some (.getfield 55, 3, 9, 16, 0) from rfl) (by decide) rfl rfl ?_
    refine z_aload_n X (x := A 3) (show cdA 105 11 = some (.aload_n 0, 1, 0, 0, 0) from rfl) (List.Mem.head _) ?_
    refine z_getI X 3 (show cdA 105 12 = some (.getfield 58, 3, 9, 17, 0) from rfl) (by decide) rfl rfl ?_
    have b14 : (0 : Int) ≤ iI s 11 ∧ iI s 11 ≤ 24 := I.1 11
    refine z_const X (show cdA 105 15 = some (.iconst 1, 1, 0, 0, 0) from rfl) ?_
    refine z_sub X (show cdA 105 16 = some (.isub, 1, 0, 0, 0) from rfl) ?_
    refine z_ald X 18 (show cdA 105 17 = some (.iaload, 1, 0, 0, 0) from rfl) (by decide) rfl (by first | exact oq_a4f22177 g3 | omega) (show ((iI s 11) - 1) < 24 by first | exact oq_19cb6f5b b14.2 | omega) (by decide) ?_
    have b15 : (0 : Int) ≤ iC s 15 (((iI s 11) - 1)).toNat ∧ iC s 15 (((iI s 11) - 1)).toNat ≤ 127 := I.2 15 _ (show (((iI s 11) - 1)).toNat < 24 by first | exact oq_f976b25c b14.2 | omega)
    refine z_load_n X (x := x) (show cdA 105 18 = some (.iload_n 1, 1, 0, 0, 0) from rfl) (List.Mem.tail _ (List.Mem.head _)) ?_
    refine z_callS X (rm := rmN 100) (As := [.int (Int32.ofInt (iC s 15 (((iI s 11) - 1)).toNat)), .int (Int32.ofInt x)]) (st := []) (show cdA 105 19 = some (.invokestatic 95, 3, 100, 1, 0) from rfl) rfl (by rw [E.1, E.2.1, E.2.2.1]; exact c9_stepFrom G I (by first | exact ⟨b15.1, b15.2⟩ | omega) (by first | exact ⟨p0.1, p0.2⟩ | omega)) ⟨by rw [E.2.2.2]; exact (show (rmN 100).frames + 1 ≤ (rmN 105).frames by decide), by rw [E.2.2.2]; exact (show 8 + (mNL (miB 100) + 11) + (rmN 100).locals ≤ (rmN 105).locals by decide), by rw [E.2.2.2]; exact (show 0 + (rmN 100).cells ≤ (rmN 105).cells by decide), by rw [E.2.2.2]; exact (show 0 + (rmN 100).slots ≤ (rmN 105).slots by decide)⟩ (Nat.le_of_ble_eq_true rfl) (fun vv s16 hq => ?_) (fun ee s16 hq => ?_)
    rotate_left
    · obtain ⟨rfl, e17, hv, hrs16, hps16⟩ := hq; cases hv
    obtain ⟨rfl, e17, hv, hrs16, hps16⟩ := hq
    cases hv
    show WS k 22 [(0, .ref (A 3)), (1, .int (Int32.ofInt x))] [.int (Int32.ofInt e17)] (Wd A dT s) 0 0
    refine z_goto X (t := 26) (show cdA 105 22 = some (.goto 4, 3, 0, 0, 0) from rfl) (by decide) ?_
    refine z_store_n X (lv' := [(2, .int (Int32.ofInt e17)), (0, .ref (A 3)), (1, .int (Int32.ofInt x))]) (show cdA 105 26 = some (.istore_n 2, 1, 0, 0, 0) from rfl) (by decide) (fun _ h => h) ?_
    refine z_load_n X (x := e17) (show cdA 105 27 = some (.iload_n 2, 1, 0, 0, 0) from rfl) (List.Mem.head _) ?_
    refine z_const X (show cdA 105 28 = some (.iconst (-1), 1, 0, 0, 0) from rfl) ?_
    refine z_icmp_ne X (t := 34) (show cdA 105 29 = some (.if_icmp .ne 5, 3, 1, 0, 0) from rfl) (by decide) hrs16 (by decide) (fun g18 => ?_) (fun g18 => ?_)
    ·
      refine z_aload_n X (x := A 3) (show cdA 105 34 = some (.aload_n 0, 1, 0, 0, 0) from rfl) (List.Mem.tail _ (List.Mem.head _)) ?_
      refine z_getI X 3 (show cdA 105 35 = some (.getfield 58, 3, 9, 17, 0) from rfl) (by decide) rfl rfl ?_
      have b19 : (0 : Int) ≤ iI s 11 ∧ iI s 11 ≤ 24 := I.1 11
      refine z_bipush X (show cdA 105 38 = some (.bipush 24, 2, 0, 0, 24) from rfl) ?_
      refine z_icmp_lt X (t := 45) (show cdA 105 40 = some (.if_icmp .lt 5, 3, 2, 0, 0) from rfl) (by decide) (rng_to _) (by decide) (fun g20 => ?_) (fun g20 => ?_)
      ·
        refine z_const X (show cdA 105 45 = some (.iconst 0, 1, 0, 0, 0) from rfl) ?_
        refine z_store_n X (lv' := [(3, .int (Int32.ofInt 0)), (2, .int (Int32.ofInt e17)), (0, .ref (A 3)), (1, .int (Int32.ofInt x))]) (show cdA 105 46 = some (.istore_n 3, 1, 0, 0, 0) from rfl) (by decide) (fun _ h => h) ?_
        refine WS_lv (lv := [(0, .ref (A 3)), (1, .int (Int32.ofInt x)), (2, .int (Int32.ofInt e17)), (3, .int (Int32.ofInt 0))]) (List.forall_mem_cons.mpr ⟨(List.Mem.tail _ (List.Mem.tail _ (List.Mem.head _))), (List.forall_mem_cons.mpr ⟨(List.Mem.tail _ (List.Mem.tail _ (List.Mem.tail _ (List.Mem.head _)))), (List.forall_mem_cons.mpr ⟨(List.Mem.tail _ (List.Mem.head _)), (List.forall_mem_cons.mpr ⟨(List.Mem.head _), (fun q h => absurd h List.not_mem_nil)⟩)⟩)⟩)⟩) ?_
        refine L47 ((24 - 0 : Int).toNat + 1) s x e17 0 I F (by first | exact ⟨oq_63f8c182 g18 hps16.2 hps16.1, by decide, by decide, oq_c69fe266 g20⟩ | omega) (Nat.lt_succ_self _) ?_
        intro s21 x22 Is21 Fs21 hs21
        have b23 : (0 : Int) ≤ iI s21 11 ∧ iI s21 11 ≤ 24 := Is21.1 11
        refine z_aload_n X (x := A 3) (show cdA 105 73 = some (.aload_n 0, 1, 0, 0, 0) from rfl) (List.Mem.head _) ?_
        refine s_getR X 3 (show cdA 105 74 = some (.getfield 55, 3, 9, 16, 0) from rfl) (by decide) rfl rfl ?_
        refine z_aload_n X (x := A 3) (show cdA 105 77 = some (.aload_n 0, 1, 0, 0, 0) from rfl) (List.Mem.head _) ?_
        refine z_getI X 3 (show cdA 105 78 = some (.getfield 58, 3, 9, 17, 0) from rfl) (by decide) rfl rfl ?_
        have b24 : (0 : Int) ≤ iI s21 11 ∧ iI s21 11 ≤ 24 := Is21.1 11
        refine z_load_n X (x := e17) (show cdA 105 81 = some (.iload_n 2, 1, 0, 0, 0) from rfl) (List.Mem.tail _ (List.Mem.tail _ (List.Mem.head _))) ?_
        refine z_ast X 18 (show cdA 105 82 = some (.iastore, 1, 0, 0, 0) from rfl) (by decide) rfl (by first | exact b24.1 | omega) (show (iI s21 11) < 24 by first | exact oq_7fdb8aa6 hs21.2.2.2 | omega) (by decide) ?_
        obtain ⟨s25, hs25⟩ : ∃ x0, x0 = uC s21 15 ((iI s21 11)).toNat (Int32.ofInt e17) := ⟨_, rfl⟩
        rw [← hs25]
        have Is25 : Bd s25 := by rw [hs25]; exact bd_C Is21 (show (0 : Int) ≤ e17 ∧ e17 ≤ 127 by first | exact ⟨hs21.1.1, hs21.1.2⟩ | omega) hrs16
        have Fs25 := fm_C (i := ((iI s21 11)).toNat) (x := Int32.ofInt e17) Fs21 (show 15 ∈ _ by decide)
        rw [← hs25] at Fs25
        have ws25_11 : iI s25 11 = iI s21 11 := by rw [hs25]; rfl
        refine z_aload_n X (x := A 3) (show cdA 105 83 = some (.aload_n 0, 1, 0, 0, 0) from rfl) (List.Mem.head _) ?_
        refine w_dup X.1 (ax_d X (show cdA 105 84 = some (.dup, 1, 0, 0, 0) from rfl)) rfl ?_
        refine z_getI X 3 (show cdA 105 85 = some (.getfield 58, 3, 9, 17, 0) from rfl) (by decide) rfl rfl ?_
        have b26 : (0 : Int) ≤ iI s25 11 ∧ iI s25 11 ≤ 24 := Is25.1 11
        refine z_const X (show cdA 105 88 = some (.iconst 1, 1, 0, 0, 0) from rfl) ?_
        refine z_add X (show cdA 105 89 = some (.iadd, 1, 0, 0, 0) from rfl) ?_
        refine s_putI X 3 (show cdA 105 90 = some (.putfield 58, 3, 9, 17, 0) from rfl) (by decide) rfl rfl (by decide) rfl rfl rfl ?_
        obtain ⟨s27, hs27⟩ : ∃ x0, x0 = uI s25 11 (Int32.ofInt ((iI s25 11) + 1)) := ⟨_, rfl⟩
        rw [← hs27]
        have Is27 : Bd s27 := by rw [hs27]; exact bd_I Is25 (show (0 : Int) ≤ ((iI s25 11) + 1) ∧ ((iI s25 11) + 1) ≤ 24 by first | exact ⟨oq_54f49eb5 b26.1, oq_c4e726c7 ws25_11 hs21.2.2.2⟩ | omega) ⟨by first | exact oq_74de1e16 b26.1 | omega, by first | exact oq_3a454424 b26.2 | omega⟩
        have Fs27 := fm_I (x := Int32.ofInt ((iI s25 11) + 1)) Fs25 (show 11 ∈ _ by decide)
        rw [← hs27] at Fs27
        have vs27 : iI s27 11 = ((iI s25 11) + 1) := by rw [hs27]; exact iI_u ⟨by first | exact oq_74de1e16 b26.1 | omega, by first | exact oq_3a454424 b26.2 | omega⟩
        refine z_const X (show cdA 105 93 = some (.iconst 0, 1, 0, 0, 0) from rfl) ?_
        exact w_iret X.1 q hRt rfl (ax_d X (show cdA 105 94 = some (.ireturn, 1, 0, 0, 0) from rfl)) (Nat.zero_le _) (Nat.zero_le _) ⟨_, rfl, Is27, Fs27, 0, rfl, (by decide), by first | exact ⟨by decide, by decide⟩ | omega⟩
      ·
        refine z_const X (show cdA 105 43 = some (.iconst 4, 1, 0, 0, 0) from rfl) ?_
        exact w_iret X.1 q hRt rfl (ax_d X (show cdA 105 44 = some (.ireturn, 1, 0, 0, 0) from rfl)) (Nat.zero_le _) (Nat.zero_le _) ⟨_, rfl, I, F, 4, rfl, (by decide), by first | exact ⟨by decide, by decide⟩ | omega⟩
    ·
      refine z_const X (show cdA 105 32 = some (.iconst 3, 1, 0, 0, 0) from rfl) ?_
      exact w_iret X.1 q hRt rfl (ax_d X (show cdA 105 33 = some (.ireturn, 1, 0, 0, 0) from rfl)) (Nat.zero_le _) (Nat.zero_le _) ⟨_, rfl, I, F, 3, rfl, (by decide), by first | exact ⟨by decide, by decide⟩ | omega⟩
set_option maxRecDepth 4000 in
theorem c9_readMove_3 (G : GX l s0 D tys a0 dT) (I : Bd s) (p0 : iI s 2 ≤ iI s 1) (p1 : iI s 4 ≤ iI s 2) : CT l s0 D A dT 104 (rmN 104) [.ref (A 3), .ref (A 1)] s (fun o t => Bd t ∧ Fm [11, 2, 4, 6, 5, 7, 8] [15] s t ∧ ∃ e, o = .inl (some (.int (Int32.ofInt e))) ∧ rng e ∧ ((e = 0 ∨ e = 1) ∧ iI t 2 ≤ iI t 1 ∧ iI t 4 ≤ iI t 2)) := by
  refine ct_ofX G (by decide) (Nat.le_of_ble_eq_true rfl) (fun k X E ET hRt hXt q => ?_)
  show WS k 0 [(0, .ref (A 3)), (1, .ref (A 1))] [] _ 0 0
  have F : Fm [11, 2, 4, 6, 5, 7, 8] [15] s s := fm_rf _ _ s
  have b1 : (0 : Int) ≤ iI s 11 ∧ iI s 11 ≤ 24 := I.1 11
  have b2 : (0 : Int) ≤ iI s 2 ∧ iI s 2 ≤ 200 := I.1 2
  have b3 : (0 : Int) ≤ iI s 1 ∧ iI s 1 ≤ 200 := I.1 1
  have b4 : (0 : Int) ≤ iI s 4 ∧ iI s 4 ≤ 200 := I.1 4
  have b5 : ((-3) : Int) ≤ iI s 5 ∧ iI s 5 ≤ 255 := I.1 5
  have b6 : (0 : Int) ≤ iI s 6 ∧ iI s 6 ≤ 100000 := I.1 6
  have L77 : ∀ (n : Nat) (t : PS) (go plc tms c : Int), Bd t → Fm [11, 2, 4, 6, 5, 7, 8] [15] s t → ((0 ≤ go ∧ go ≤ 5) ∧ (0 ≤ plc ∧ plc ≤ 200) ∧ (1 ≤ tms ∧ tms ≤ 7) ∧ 0 ≤ c ∧ c ≤ 7 ∧ iI t 2 ≤ iI t 1 ∧ iI t 4 ≤ iI t 2) → (7 - c : Int).toNat < n → (∀ (t' : PS) (c' : Int), Bd t' → Fm [11, 2, 4, 6, 5, 7, 8] [15] s t' → ((0 ≤ go ∧ go ≤ 5) ∧ (0 ≤ plc ∧ plc ≤ 200) ∧ (1 ≤ tms ∧ tms ≤ 7) ∧ 0 ≤ c' ∧ c' ≤ 7 ∧ iI t' 2 ≤ iI t' 1 ∧ iI t' 4 ≤ iI t' 2) → WS k 110 [(0, .ref (A 3)), (1, .ref (A 1)), (2, .int (Int32.ofInt go)), (3, .int (Int32.ofInt plc)), (4, .int (Int32.ofInt tms)), (5, .int (Int32.ofInt c'))] [] (Wd A dT t') 0 0) → WS k 77 [(0, .ref (A 3)), (1, .ref (A 1)), (2, .int (Int32.ofInt go)), (3, .int (Int32.ofInt plc)), (4, .int (Int32.ofInt tms)), (5, .int (Int32.ofInt c))] [] (Wd A dT t) 0 0 := by
    intro n
    induction n with
    | zero =>
      intro t go plc tms c I F hi hm kx
      exact absurd hm (Nat.not_lt_zero _)
    | succ n ih =>
      intro t go plc tms c I F hi hm kx
      have b1001 : (0 : Int) ≤ iI t 11 ∧ iI t 11 ≤ 24 := I.1 11
      have b1002 : (0 : Int) ≤ iI t 2 ∧ iI t 2 ≤ 200 := I.1 2
      have b1003 : (0 : Int) ≤ iI t 1 ∧ iI t 1 ≤ 200 := I.1 1
      have b1004 : (0 : Int) ≤ iI t 4 ∧ iI t 4 ≤ 200 := I.1 4
      have b1005 : ((-3) : Int) ≤ iI t 5 ∧ iI t 5 ≤ 255 := I.1 5
      have b1006 : (0 : Int) ≤ iI t 6 ∧ iI t 6 ≤ 100000 := I.1 6
      refine z_load X (x := c) (show cdA 104 77 = some (.iload 5, 2, 0, 0, 0) from rfl) (List.Mem.tail _ (List.Mem.tail _ (List.Mem.tail _ (List.Mem.tail _ (List.Mem.tail _ (List.Mem.head _)))))) ?_
      refine z_load X (x := tms) (show cdA 104 79 = some (.iload 4, 2, 0, 0, 0) from rfl) (List.Mem.tail _ (List.Mem.tail _ (List.Mem.tail _ (List.Mem.tail _ (List.Mem.head _))))) ?_
      refine z_icmp_ge X (t := 110) (show cdA 104 81 = some (.if_icmp .ge 29, 3, 3, 0, 0) from rfl) (by decide) ⟨by first | exact oq_fa4e5087 hi.2.2.2.1 | omega, by first | exact oq_0e78ca7d hi.2.2.2.2.1 | omega⟩ ⟨by first | exact oq_9462313e hi.2.2.1.1 | omega, by first | exact oq_0e78ca7d hi.2.2.1.2 | omega⟩ (fun g1007 => ?_) (fun g1007 => ?_)
      ·
        refine WS_lv (lv := [(0, .ref (A 3)), (1, .ref (A 1)), (2, .int (Int32.ofInt go)), (3, .int (Int32.ofInt plc)), (4, .int (Int32.ofInt tms)), (5, .int (Int32.ofInt c))]) (List.forall_mem_cons.mpr ⟨(List.Mem.head _), (List.forall_mem_cons.mpr ⟨(List.Mem.tail _ (List.Mem.head _)), (List.forall_mem_cons.mpr ⟨(List.Mem.tail _ (List.Mem.tail _ (List.Mem.head _))), (List.forall_mem_cons.mpr ⟨(List.Mem.tail _ (List.Mem.tail _ (List.Mem.tail _ (List.Mem.head _)))), (List.forall_mem_cons.mpr ⟨(List.Mem.tail _ (List.Mem.tail _ (List.Mem.tail _ (List.Mem.tail _ (List.Mem.head _))))), (List.forall_mem_cons.mpr ⟨(List.Mem.tail _ (List.Mem.tail _ (List.Mem.tail _ (List.Mem.tail _ (List.Mem.tail _ (List.Mem.head _)))))), (fun q h => absurd h List.not_mem_nil)⟩)⟩)⟩)⟩)⟩)⟩) ?_
        exact kx _ c I F (by first | exact ⟨And.intro (hi.1.1) (hi.1.2), And.intro (hi.2.1.1) (hi.2.1.2), And.intro (hi.2.2.1.1) (hi.2.2.1.2), hi.2.2.2.1, hi.2.2.2.2.1, hi.2.2.2.2.2.1, hi.2.2.2.2.2.2⟩ | omega)
      ·
        refine z_aload_n X (x := A 3) (show cdA 104 84 = some (.aload_n 0, 1, 0, 0, 0) from rfl) (List.Mem.head _) ?_
        refine z_load_n X (x := go) (show cdA 104 85 = some (.iload_n 2, 1, 0, 0, 0) from rfl) (List.Mem.tail _ (List.Mem.tail _ (List.Mem.head _))) ?_
        refine z_callV X 3 (rm := rmN 105) (As := [.int (Int32.ofInt go)]) (st := []) (show cdA 104 86 = some (.invokevirtual 88, 3, 105, 0, 0) from rfl) rfl (by decide) rfl (by rw [E.1, E.2.1, E.2.2.1]; exact c9_lengthen_3 G I (by first | exact ⟨hi.1.1, hi.1.2⟩ | omega)) ⟨by rw [E.2.2.2]; exact (show (rmN 105).frames + 1 ≤ (rmN 104).frames by decide), by rw [E.2.2.2]; exact (show 8 + (mNL (miB 105) + 11) + (rmN 105).locals ≤ (rmN 104).locals by decide), by rw [E.2.2.2]; exact (show 0 + (rmN 105).cells ≤ (rmN 104).cells by decide), by rw [E.2.2.2]; exact (show 0 + (rmN 105).slots ≤ (rmN 104).slots by decide)⟩ (Nat.le_of_ble_eq_true rfl) (fun vv s1008 hq => ?_) (fun ee s1008 hq => ?_)
        rotate_left
        · obtain ⟨Is1008, Fs1008, e1009, hv, hrs1008, hps1008⟩ := hq; cases hv
        obtain ⟨Is1008, Fs1008, e1009, hv, hrs1008, hps1008⟩ := hq
        cases hv
        have Gs1008 := fm_ts F Fs1008 (by decide) (by decide)
        have b1010 : (0 : Int) ≤ iI s1008 11 ∧ iI s1008 11 ≤ 24 := Is1008.1 11
        have ws1008_2 : iI s1008 2 = iI t 2 := fm_i Fs1008 (by decide)
        have ws1008_1 : iI s1008 1 = iI t 1 := fm_i Fs1008 (by decide)
        have ws1008_4 : iI s1008 4 = iI t 4 := fm_i Fs1008 (by decide)
        have ws1008_5 : iI s1008 5 = iI t 5 := fm_i Fs1008 (by decide)
        have ws1008_6 : iI s1008 6 = iI t 6 := fm_i Fs1008 (by decide)
        show WS k 89 [(0, .ref (A 3)), (1, .ref (A 1)), (2, .int (Int32.ofInt go)), (3, .int (Int32.ofInt plc)), (4, .int (Int32.ofInt tms)), (5, .int (Int32.ofInt c))] [.int (Int32.ofInt e1009)] (Wd A dT s1008) 0 0
        refine z_store X (lv' := [(6, .int (Int32.ofInt e1009)), (0, .ref (A 3)), (1, .ref (A 1)), (2, .int (Int32.ofInt go)), (3, .int (Int32.ofInt plc)), (4, .int (Int32.ofInt tms)), (5, .int (Int32.ofInt c))]) (show cdA 104 89 = some (.istore 6, 2, 0, 0, 0) from rfl) (by decide) (fun _ h => h) ?_
        refine z_load X (x := e1009) (show cdA 104 91 = some (.iload 6, 2, 0, 0, 0) from rfl) (List.Mem.head _) ?_
        refine z_if_eq X (t := 104) (show cdA 104 93 = some (.ifCond .eq 11, 3, 0, 0, 0) from rfl) (by decide) hrs1008 (fun g1011 => ?_) (fun g1011 => ?_)
        ·
          refine z_inc X (x := c) (lv' := [(5, .int (Int32.ofInt (c + 1))), (6, .int (Int32.ofInt e1009)), (0, .ref (A 3)), (1, .ref (A 1)), (2, .int (Int32.ofInt go)), (3, .int (Int32.ofInt plc)), (4, .int (Int32.ofInt tms))]) (show cdA 104 104 = some (.iinc 5 1, 3, 0, 0, 0) from rfl) (by decide) (List.Mem.tail _ (List.Mem.tail _ (List.Mem.tail _ (List.Mem.tail _ (List.Mem.tail _ (List.Mem.tail _ (List.Mem.head _))))))) (fun _ h => h) ?_
          refine z_goto X (t := 77) (show cdA 104 107 = some (.goto (-30), 3, 0, 0, 0) from rfl) (by decide) ?_
          refine WS_lv (lv := [(0, .ref (A 3)), (1, .ref (A 1)), (2, .int (Int32.ofInt go)), (3, .int (Int32.ofInt plc)), (4, .int (Int32.ofInt tms)), (5, .int (Int32.ofInt (c + 1)))]) (List.forall_mem_cons.mpr ⟨(List.Mem.tail _ (List.Mem.tail _ (List.Mem.head _))), (List.forall_mem_cons.mpr ⟨(List.Mem.tail _ (List.Mem.tail _ (List.Mem.tail _ (List.Mem.head _)))), (List.forall_mem_cons.mpr ⟨(List.Mem.tail _ (List.Mem.tail _ (List.Mem.tail _ (List.Mem.tail _ (List.Mem.head _))))), (List.forall_mem_cons.mpr ⟨(List.Mem.tail _ (List.Mem.tail _ (List.Mem.tail _ (List.Mem.tail _ (List.Mem.tail _ (List.Mem.head _)))))), (List.forall_mem_cons.mpr ⟨(List.Mem.tail _ (List.Mem.tail _ (List.Mem.tail _ (List.Mem.tail _ (List.Mem.tail _ (List.Mem.tail _ (List.Mem.head _))))))), (List.forall_mem_cons.mpr ⟨(List.Mem.head _), (fun q h => absurd h List.not_mem_nil)⟩)⟩)⟩)⟩)⟩)⟩) ?_
          exact ih _ go plc tms (c + 1) Is1008 Gs1008 (by first | exact ⟨And.intro (hi.1.1) (hi.1.2), And.intro (hi.2.1.1) (hi.2.1.2), And.intro (hi.2.2.1.1) (hi.2.2.1.2), oq_54f49eb5 hi.2.2.2.1, oq_cff692f0 g1007 hi.2.2.1.2, oq_e7b9ecab ws1008_1 ws1008_2 hi.2.2.2.2.2.1, oq_e7b9ecab ws1008_2 ws1008_4 hi.2.2.2.2.2.2⟩ | omega) (by first | exact qk_me hm (by decide) (oq_20b7067c g1007 hi.2.2.1.2) | omega) kx
        ·
          refine z_aload_n X (x := A 1) (show cdA 104 96 = some (.aload_n 1, 1, 0, 0, 0) from rfl) (List.Mem.tail _ (List.Mem.tail _ (List.Mem.head _))) ?_
          refine z_load X (x := e1009) (show cdA 104 97 = some (.iload 6, 2, 0, 0, 0) from rfl) (List.Mem.head _) ?_
          refine z_load_n X (x := plc) (show cdA 104 99 = some (.iload_n 3, 1, 0, 0, 0) from rfl) (List.Mem.tail _ (List.Mem.tail _ (List.Mem.tail _ (List.Mem.tail _ (List.Mem.head _))))) ?_
          refine z_callV X 1 (rm := rmN 133) (As := [.int (Int32.ofInt e1009), .int (Int32.ofInt plc)]) (st := []) (show cdA 104 100 = some (.invokevirtual 91, 3, 133, 0, 0) from rfl) rfl (by decide) rfl (by rw [E.1, E.2.1, E.2.2.1]; exact c10_refuseAt_1 G Is1008 (by first | exact ⟨oq_e4db2d1b g1011 hps1008.1, hps1008.2⟩ | omega) (by first | exact ⟨hi.2.1.1, hi.2.1.2⟩ | omega)) ⟨by rw [E.2.2.2]; exact (show (rmN 133).frames + 1 ≤ (rmN 104).frames by decide), by rw [E.2.2.2]; exact (show 8 + (mNL (miB 133) + 11) + (rmN 133).locals ≤ (rmN 104).locals by decide), by rw [E.2.2.2]; exact (show 0 + (rmN 133).cells ≤ (rmN 104).cells by decide), by rw [E.2.2.2]; exact (show 0 + (rmN 133).slots ≤ (rmN 104).slots by decide)⟩ (Nat.le_of_ble_eq_true rfl) (fun vv s1012 hq => ?_) (fun ee s1012 hq => ?_)
          rotate_left
          · obtain ⟨Is1012, Fs1012, e1013, hv, hrs1012, hps1012⟩ := hq; cases hv
          obtain ⟨Is1012, Fs1012, e1013, hv, hrs1012, hps1012⟩ := hq
          cases hv
          have Gs1012 := fm_ts Gs1008 Fs1012 (by decide) (by decide)
          have ws1012_11 : iI s1012 11 = iI s1008 11 := fm_i Fs1012 (by decide)
          have ws1012_2 : iI s1012 2 = iI s1008 2 := fm_i Fs1012 (by decide)
          have ws1012_1 : iI s1012 1 = iI s1008 1 := fm_i Fs1012 (by decide)
          have ws1012_4 : iI s1012 4 = iI s1008 4 := fm_i Fs1012 (by decide)
          have ws1012_5 : iI s1012 5 = iI s1008 5 := fm_i Fs1012 (by decide)
          have ws1012_6 : iI s1012 6 = iI s1008 6 := fm_i Fs1012 (by decide)
          show WS k 103 [(6, .int (Int32.ofInt e1009)), (0, .ref (A 3)), (1, .ref (A 1)), (2, .int (Int32.ofInt go)), (3, .int (Int32.ofInt plc)), (4, .int (Int32.ofInt tms)), (5, .int (Int32.ofInt c))] [.int (Int32.ofInt e1013)] (Wd A dT s1012) 0 0
          exact w_iret X.1 q hRt (nar_ret (by first | exact Or.inl (hps1012) | omega)) (ax_d X (show cdA 104 103 = some (.ireturn, 1, 0, 0, 0) from rfl)) (Nat.zero_le _) (Nat.zero_le _) ⟨_, rfl, Is1012, Gs1012, e1013, rfl, hrs1012, by first | exact ⟨Or.inl (hps1012), oq_4407eb3c ws1012_1 ws1012_2 ws1008_1 ws1008_2 hi.2.2.2.2.2.1, oq_4407eb3c ws1012_2 ws1012_4 ws1008_2 ws1008_4 hi.2.2.2.2.2.2⟩ | omega⟩
  refine z_aload_n X (x := A 1) (show cdA 104 0 = some (.aload_n 1, 1, 0, 0, 0) from rfl) (List.Mem.tail _ (List.Mem.head _)) ?_
  refine z_getI X 1 (show cdA 104 1 = some (.getfield 62, 3, 10, 6, 0) from rfl) (by decide) rfl rfl ?_
  have b7 : ((-3) : Int) ≤ iI s 5 ∧ iI s 5 ≤ 255 := I.1 5
  refine z_callS X (rm := rmN 101) (As := [.int (Int32.ofInt (iI s 5))]) (st := []) (show cdA 104 4 = some (.invokestatic 81, 3, 101, 1, 0) from rfl) rfl (by rw [E.1, E.2.1, E.2.2.1]; exact c9_goOf G I (by first | exact ⟨b7.1, b7.2⟩ | omega)) ⟨by rw [E.2.2.2]; exact (show (rmN 101).frames + 1 ≤ (rmN 104).frames by decide), by rw [E.2.2.2]; exact (show 8 + (mNL (miB 101) + 11) + (rmN 101).locals ≤ (rmN 104).locals by decide), by rw [E.2.2.2]; exact (show 0 + (rmN 101).cells ≤ (rmN 104).cells by decide), by rw [E.2.2.2]; exact (show 0 + (rmN 101).slots ≤ (rmN 104).slots by decide)⟩ (Nat.le_of_ble_eq_true rfl) (fun vv s8 hq => ?_) (fun ee s8 hq => ?_)
  rotate_left
  · obtain ⟨rfl, e9, hv, hrs8, hps8⟩ := hq; cases hv
  obtain ⟨rfl, e9, hv, hrs8, hps8⟩ := hq
  cases hv
  show WS k 7 [(0, .ref (A 3)), (1, .ref (A 1))] [.int (Int32.ofInt e9)] (Wd A dT s) 0 0
  refine z_store_n X (lv' := [(2, .int (Int32.ofInt e9)), (0, .ref (A 3)), (1, .ref (A 1))]) (show cdA 104 7 = some (.istore_n 2, 1, 0, 0, 0) from rfl) (by decide) (fun _ h => h) ?_
  refine z_aload_n X (x := A 1) (show cdA 104 8 = some (.aload_n 1, 1, 0, 0, 0) from rfl) (List.Mem.tail _ (List.Mem.tail _ (List.Mem.head _))) ?_
  refine z_getI X 1 (show cdA 104 9 = some (.getfield 85, 3, 10, 5, 0) from rfl) (by decide) rfl rfl ?_
  have b10 : (0 : Int) ≤ iI s 4 ∧ iI s 4 ≤ 200 := I.1 4
  refine z_store_n X (lv' := [(3, .int (Int32.ofInt (iI s 4))), (2, .int (Int32.ofInt e9)), (0, .ref (A 3)), (1, .ref (A 1))]) (show cdA 104 12 = some (.istore_n 3, 1, 0, 0, 0) from rfl) (by decide) (fun _ h => h) ?_
  refine z_load_n X (x := e9) (show cdA 104 13 = some (.iload_n 2, 1, 0, 0, 0) from rfl) (List.Mem.tail _ (List.Mem.head _)) ?_
  refine z_const X (show cdA 104 14 = some (.iconst (-1), 1, 0, 0, 0) from rfl) ?_
  refine z_icmp_ne X (t := 24) (show cdA 104 15 = some (.if_icmp .ne 9, 3, 1, 0, 0) from rfl) (by decide) hrs8 (by decide) (fun g11 => ?_) (fun g11 => ?_)
  ·
    refine z_aload_n X (x := A 1) (show cdA 104 24 = some (.aload_n 1, 1, 0, 0, 0) from rfl) (List.Mem.tail _ (List.Mem.tail _ (List.Mem.tail _ (List.Mem.head _)))) ?_
    refine z_callV X 1 (rm := rmN 129) (As := []) (st := []) (show cdA 104 25 = some (.invokevirtual 74, 3, 129, 0, 0) from rfl) rfl (by decide) rfl (by rw [E.1, E.2.1, E.2.2.1]; exact c10_step_1 G I (by first | exact p0 | omega)) ⟨by rw [E.2.2.2]; exact (show (rmN 129).frames + 1 ≤ (rmN 104).frames by decide), by rw [E.2.2.2]; exact (show 8 + (mNL (miB 129) + 11) + (rmN 129).locals ≤ (rmN 104).locals by decide), by rw [E.2.2.2]; exact (show 0 + (rmN 129).cells ≤ (rmN 104).cells by decide), by rw [E.2.2.2]; exact (show 0 + (rmN 129).slots ≤ (rmN 104).slots by decide)⟩ (Nat.le_of_ble_eq_true rfl) (fun vv s12 hq => ?_) (fun ee s12 hq => ?_)
    rotate_left
    · obtain ⟨Is12, Fs12, hv, hps12⟩ := hq; cases hv
    obtain ⟨Is12, Fs12, hv, hps12⟩ := hq
    cases hv
    have Gs12 := fm_ts F Fs12 (by decide) (by decide)
    have ws12_11 : iI s12 11 = iI s 11 := fm_i Fs12 (by decide)
    have b14 : (0 : Int) ≤ iI s12 2 ∧ iI s12 2 ≤ 200 := Is12.1 2
    have ws12_1 : iI s12 1 = iI s 1 := fm_i Fs12 (by decide)
    have b15 : (0 : Int) ≤ iI s12 4 ∧ iI s12 4 ≤ 200 := Is12.1 4
    have b16 : ((-3) : Int) ≤ iI s12 5 ∧ iI s12 5 ≤ 255 := Is12.1 5
    have b17 : (0 : Int) ≤ iI s12 6 ∧ iI s12 6 ≤ 100000 := Is12.1 6
    show WS k 28 [(3, .int (Int32.ofInt (iI s 4))), (2, .int (Int32.ofInt e9)), (0, .ref (A 3)), (1, .ref (A 1))] [] (Wd A dT s12) 0 0
    refine z_const X (show cdA 104 28 = some (.iconst 1, 1, 0, 0, 0) from rfl) ?_
    refine z_store X (lv' := [(4, .int (Int32.ofInt 1)), (3, .int (Int32.ofInt (iI s 4))), (2, .int (Int32.ofInt e9)), (0, .ref (A 3)), (1, .ref (A 1))]) (show cdA 104 29 = some (.istore 4, 2, 0, 0, 0) from rfl) (by decide) (fun _ h => h) ?_
    refine z_load_n X (x := e9) (show cdA 104 31 = some (.iload_n 2, 1, 0, 0, 0) from rfl) (List.Mem.tail _ (List.Mem.tail _ (List.Mem.head _))) ?_
    refine z_const X (show cdA 104 32 = some (.iconst 4, 1, 0, 0, 0) from rfl) ?_
    refine z_icmp_ge X (t := 74) (show cdA 104 33 = some (.if_icmp .ge 41, 3, 3, 0, 0) from rfl) (by decide) hrs8 (by decide) (fun g18 => ?_) (fun g18 => ?_)
    ·
      refine z_const X (show cdA 104 74 = some (.iconst 0, 1, 0, 0, 0) from rfl) ?_
      refine z_store X (lv' := [(5, .int (Int32.ofInt 0)), (4, .int (Int32.ofInt 1)), (3, .int (Int32.ofInt (iI s 4))), (2, .int (Int32.ofInt e9)), (0, .ref (A 3)), (1, .ref (A 1))]) (show cdA 104 75 = some (.istore 5, 2, 0, 0, 0) from rfl) (by decide) (fun _ h => h) ?_
      refine WS_lv (lv := [(0, .ref (A 3)), (1, .ref (A 1)), (2, .int (Int32.ofInt e9)), (3, .int (Int32.ofInt (iI s 4))), (4, .int (Int32.ofInt 1)), (5, .int (Int32.ofInt 0))]) (List.forall_mem_cons.mpr ⟨(List.Mem.tail _ (List.Mem.tail _ (List.Mem.tail _ (List.Mem.tail _ (List.Mem.head _))))), (List.forall_mem_cons.mpr ⟨(List.Mem.tail _ (List.Mem.tail _ (List.Mem.tail _ (List.Mem.tail _ (List.Mem.tail _ (List.Mem.head _)))))), (List.forall_mem_cons.mpr ⟨(List.Mem.tail _ (List.Mem.tail _ (List.Mem.tail _ (List.Mem.head _)))), (List.forall_mem_cons.mpr ⟨(List.Mem.tail _ (List.Mem.tail _ (List.Mem.head _))), (List.forall_mem_cons.mpr ⟨(List.Mem.tail _ (List.Mem.head _)), (List.forall_mem_cons.mpr ⟨(List.Mem.head _), (fun q h => absurd h List.not_mem_nil)⟩)⟩)⟩)⟩)⟩)⟩) ?_
      refine L77 ((7 - 0 : Int).toNat + 1) s12 e9 (iI s 4) 1 0 Is12 Gs12 (by first | exact ⟨And.intro (oq_26933c77 g18) (hps8.2), And.intro (b10.1) (b10.2), And.intro (by decide) (by decide), by decide, by decide, hps12.1, hps12.2⟩ | omega) (Nat.lt_succ_self _) ?_
      intro s19 x20 Is19 Fs19 hs19
      have b21 : (0 : Int) ≤ iI s19 11 ∧ iI s19 11 ≤ 24 := Is19.1 11
      have b22 : (0 : Int) ≤ iI s19 2 ∧ iI s19 2 ≤ 200 := Is19.1 2
      have b23 : (0 : Int) ≤ iI s19 1 ∧ iI s19 1 ≤ 200 := Is19.1 1
      have b24 : (0 : Int) ≤ iI s19 4 ∧ iI s19 4 ≤ 200 := Is19.1 4
      have b25 : ((-3) : Int) ≤ iI s19 5 ∧ iI s19 5 ≤ 255 := Is19.1 5
      have b26 : (0 : Int) ≤ iI s19 6 ∧ iI s19 6 ≤ 100000 := Is19.1 6
      refine z_const X (show cdA 104 110 = some (.iconst 1, 1, 0, 0, 0) from rfl) ?_
      exact w_iret X.1 q hRt (nar_ret (by first | exact Or.inr (by decide) | omega)) (ax_d X (show cdA 104 111 = some (.ireturn, 1, 0, 0, 0) from rfl)) (Nat.zero_le _) (Nat.zero_le _) ⟨_, rfl, Is19, Fs19, 1, rfl, (by decide), by first | exact ⟨Or.inr (by decide), hs19.2.2.2.2.2.1, hs19.2.2.2.2.2.2⟩ | omega⟩
    ·
      refine z_aload_n X (x := A 1) (show cdA 104 36 = some (.aload_n 1, 1, 0, 0, 0) from rfl) (List.Mem.tail _ (List.Mem.tail _ (List.Mem.tail _ (List.Mem.tail _ (List.Mem.head _))))) ?_
      refine z_getI X 1 (show cdA 104 37 = some (.getfield 62, 3, 10, 6, 0) from rfl) (by decide) rfl rfl ?_
      have b27 : ((-3) : Int) ≤ iI s12 5 ∧ iI s12 5 ≤ 255 := Is12.1 5
      refine z_bipush X (show cdA 104 40 = some (.bipush (-2), 2, 0, 0, (-2)) from rfl) ?_
      refine z_icmp_ne X (t := 74) (show cdA 104 42 = some (.if_icmp .ne 32, 3, 1, 0, 0) from rfl) (by decide) (rng_to _) (by decide) (fun g28 => ?_) (fun g28 => ?_)
      ·
        refine z_const X (show cdA 104 74 = some (.iconst 0, 1, 0, 0, 0) from rfl) ?_
        refine z_store X (lv' := [(5, .int (Int32.ofInt 0)), (4, .int (Int32.ofInt 1)), (3, .int (Int32.ofInt (iI s 4))), (2, .int (Int32.ofInt e9)), (0, .ref (A 3)), (1, .ref (A 1))]) (show cdA 104 75 = some (.istore 5, 2, 0, 0, 0) from rfl) (by decide) (fun _ h => h) ?_
        refine WS_lv (lv := [(0, .ref (A 3)), (1, .ref (A 1)), (2, .int (Int32.ofInt e9)), (3, .int (Int32.ofInt (iI s 4))), (4, .int (Int32.ofInt 1)), (5, .int (Int32.ofInt 0))]) (List.forall_mem_cons.mpr ⟨(List.Mem.tail _ (List.Mem.tail _ (List.Mem.tail _ (List.Mem.tail _ (List.Mem.head _))))), (List.forall_mem_cons.mpr ⟨(List.Mem.tail _ (List.Mem.tail _ (List.Mem.tail _ (List.Mem.tail _ (List.Mem.tail _ (List.Mem.head _)))))), (List.forall_mem_cons.mpr ⟨(List.Mem.tail _ (List.Mem.tail _ (List.Mem.tail _ (List.Mem.head _)))), (List.forall_mem_cons.mpr ⟨(List.Mem.tail _ (List.Mem.tail _ (List.Mem.head _))), (List.forall_mem_cons.mpr ⟨(List.Mem.tail _ (List.Mem.head _)), (List.forall_mem_cons.mpr ⟨(List.Mem.head _), (fun q h => absurd h List.not_mem_nil)⟩)⟩)⟩)⟩)⟩)⟩) ?_
        refine L77 ((7 - 0 : Int).toNat + 1) s12 e9 (iI s 4) 1 0 Is12 Gs12 (by first | exact ⟨oq_752b3116 g18 g11 hps8.1, And.intro (b10.1) (b10.2), And.intro (by decide) (by decide), by decide, by decide, hps12.1, hps12.2⟩ | omega) (Nat.lt_succ_self _) ?_
        intro s29 x30 Is29 Fs29 hs29
        have b31 : (0 : Int) ≤ iI s29 11 ∧ iI s29 11 ≤ 24 := Is29.1 11
        have b32 : (0 : Int) ≤ iI s29 2 ∧ iI s29 2 ≤ 200 := Is29.1 2
        have b33 : (0 : Int) ≤ iI s29 1 ∧ iI s29 1 ≤ 200 := Is29.1 1
        have b34 : (0 : Int) ≤ iI s29 4 ∧ iI s29 4 ≤ 200 := Is29.1 4
        have b35 : ((-3) : Int) ≤ iI s29 5 ∧ iI s29 5 ≤ 255 := Is29.1 5
        have b36 : (0 : Int) ≤ iI s29 6 ∧ iI s29 6 ≤ 100000 := Is29.1 6
        refine z_const X (show cdA 104 110 = some (.iconst 1, 1, 0, 0, 0) from rfl) ?_
        exact w_iret X.1 q hRt (nar_ret (by first | exact Or.inr (by decide) | omega)) (ax_d X (show cdA 104 111 = some (.ireturn, 1, 0, 0, 0) from rfl)) (Nat.zero_le _) (Nat.zero_le _) ⟨_, rfl, Is29, Fs29, 1, rfl, (by decide), by first | exact ⟨Or.inr (by decide), hs29.2.2.2.2.2.1, hs29.2.2.2.2.2.2⟩ | omega⟩
      ·
        refine z_aload_n X (x := A 1) (show cdA 104 45 = some (.aload_n 1, 1, 0, 0, 0) from rfl) (List.Mem.tail _ (List.Mem.tail _ (List.Mem.tail _ (List.Mem.tail _ (List.Mem.head _))))) ?_
        refine z_getI X 1 (show cdA 104 46 = some (.getfield 71, 3, 10, 7, 0) from rfl) (by decide) rfl rfl ?_
        have b37 : (0 : Int) ≤ iI s12 6 ∧ iI s12 6 ≤ 100000 := Is12.1 6
        refine z_store X (lv' := [(4, .int (Int32.ofInt (iI s12 6))), (3, .int (Int32.ofInt (iI s 4))), (2, .int (Int32.ofInt e9)), (0, .ref (A 3)), (1, .ref (A 1))]) (show cdA 104 49 = some (.istore 4, 2, 0, 0, 0) from rfl) (by decide) (fun _ h => h) ?_
        refine z_load X (x := (iI s12 6)) (show cdA 104 51 = some (.iload 4, 2, 0, 0, 0) from rfl) (List.Mem.head _) ?_
        refine z_const X (show cdA 104 53 = some (.iconst 1, 1, 0, 0, 0) from rfl) ?_
        refine z_icmp_lt X (t := 64) (show cdA 104 54 = some (.if_icmp .lt 10, 3, 2, 0, 0) from rfl) (by decide) (rng_to _) (by decide) (fun g38 => ?_) (fun g38 => ?_)
        ·
          refine z_aload_n X (x := A 1) (show cdA 104 64 = some (.aload_n 1, 1, 0, 0, 0) from rfl) (List.Mem.tail _ (List.Mem.tail _ (List.Mem.tail _ (List.Mem.tail _ (List.Mem.head _))))) ?_
          refine z_const X (show cdA 104 65 = some (.iconst 2, 1, 0, 0, 0) from rfl) ?_
          refine z_callV X 1 (rm := rmN 132) (As := [.int (Int32.ofInt 2)]) (st := []) (show cdA 104 66 = some (.invokevirtual 67, 3, 132, 0, 0) from rfl) rfl (by decide) rfl (by rw [E.1, E.2.1, E.2.2.1]; exact c10_refuse_1 G Is12 (by first | exact ⟨by decide, by decide⟩ | omega)) ⟨by rw [E.2.2.2]; exact (show (rmN 132).frames + 1 ≤ (rmN 104).frames by decide), by rw [E.2.2.2]; exact (show 8 + (mNL (miB 132) + 11) + (rmN 132).locals ≤ (rmN 104).locals by decide), by rw [E.2.2.2]; exact (show 0 + (rmN 132).cells ≤ (rmN 104).cells by decide), by rw [E.2.2.2]; exact (show 0 + (rmN 132).slots ≤ (rmN 104).slots by decide)⟩ (Nat.le_of_ble_eq_true rfl) (fun vv s39 hq => ?_) (fun ee s39 hq => ?_)
          rotate_left
          · obtain ⟨Is39, Fs39, e40, hv, hrs39, hps39⟩ := hq; cases hv
          obtain ⟨Is39, Fs39, e40, hv, hrs39, hps39⟩ := hq
          cases hv
          have Gs39 := fm_ts Gs12 Fs39 (by decide) (by decide)
          have ws39_11 : iI s39 11 = iI s12 11 := fm_i Fs39 (by decide)
          have ws39_2 : iI s39 2 = iI s12 2 := fm_i Fs39 (by decide)
          have ws39_1 : iI s39 1 = iI s12 1 := fm_i Fs39 (by decide)
          have ws39_4 : iI s39 4 = iI s12 4 := fm_i Fs39 (by decide)
          have ws39_5 : iI s39 5 = iI s12 5 := fm_i Fs39 (by decide)
          have ws39_6 : iI s39 6 = iI s12 6 := fm_i Fs39 (by decide)
          show WS k 69 [(4, .int (Int32.ofInt (iI s12 6))), (3, .int (Int32.ofInt (iI s 4))), (2, .int (Int32.ofInt e9)), (0, .ref (A 3)), (1, .ref (A 1))] [.int (Int32.ofInt e40)] (Wd A dT s39) 0 0
          exact w_iret X.1 q hRt (nar_ret (by first | exact Or.inl (hps39) | omega)) (ax_d X (show cdA 104 69 = some (.ireturn, 1, 0, 0, 0) from rfl)) (Nat.zero_le _) (Nat.zero_le _) ⟨_, rfl, Is39, Gs39, e40, rfl, hrs39, by first | exact ⟨Or.inl (hps39), oq_e7b9ecab ws39_1 ws39_2 hps12.1, oq_e7b9ecab ws39_2 ws39_4 hps12.2⟩ | omega⟩
        ·
          refine z_load X (x := (iI s12 6)) (show cdA 104 57 = some (.iload 4, 2, 0, 0, 0) from rfl) (List.Mem.head _) ?_
          refine z_bipush X (show cdA 104 59 = some (.bipush 7, 2, 0, 0, 7) from rfl) ?_
          refine z_icmp_le X (t := 70) (show cdA 104 61 = some (.if_icmp .le 9, 3, 5, 0, 0) from rfl) (by decide) (rng_to _) (by decide) (fun g41 => ?_) (fun g41 => ?_)
          ·
            refine z_aload_n X (x := A 1) (show cdA 104 70 = some (.aload_n 1, 1, 0, 0, 0) from rfl) (List.Mem.tail _ (List.Mem.tail _ (List.Mem.tail _ (List.Mem.tail _ (List.Mem.head _))))) ?_
            refine z_callV X 1 (rm := rmN 129) (As := []) (st := []) (show cdA 104 71 = some (.invokevirtual 74, 3, 129, 0, 0) from rfl) rfl (by decide) rfl (by rw [E.1, E.2.1, E.2.2.1]; exact c10_step_1 G Is12 (by first | exact hps12.1 | omega)) ⟨by rw [E.2.2.2]; exact (show (rmN 129).frames + 1 ≤ (rmN 104).frames by decide), by rw [E.2.2.2]; exact (show 8 + (mNL (miB 129) + 11) + (rmN 129).locals ≤ (rmN 104).locals by decide), by rw [E.2.2.2]; exact (show 0 + (rmN 129).cells ≤ (rmN 104).cells by decide), by rw [E.2.2.2]; exact (show 0 + (rmN 129).slots ≤ (rmN 104).slots by decide)⟩ (Nat.le_of_ble_eq_true rfl) (fun vv s42 hq => ?_) (fun ee s42 hq => ?_)
            rotate_left
            · obtain ⟨Is42, Fs42, hv, hps42⟩ := hq; cases hv
            obtain ⟨Is42, Fs42, hv, hps42⟩ := hq
            cases hv
            have Gs42 := fm_ts Gs12 Fs42 (by decide) (by decide)
            have ws42_11 : iI s42 11 = iI s12 11 := fm_i Fs42 (by decide)
            have b44 : (0 : Int) ≤ iI s42 2 ∧ iI s42 2 ≤ 200 := Is42.1 2
            have ws42_1 : iI s42 1 = iI s12 1 := fm_i Fs42 (by decide)
            have b45 : (0 : Int) ≤ iI s42 4 ∧ iI s42 4 ≤ 200 := Is42.1 4
            have b46 : ((-3) : Int) ≤ iI s42 5 ∧ iI s42 5 ≤ 255 := Is42.1 5
            have b47 : (0 : Int) ≤ iI s42 6 ∧ iI s42 6 ≤ 100000 := Is42.1 6
            show WS k 74 [(4, .int (Int32.ofInt (iI s12 6))), (3, .int (Int32.ofInt (iI s 4))), (2, .int (Int32.ofInt e9)), (0, .ref (A 3)), (1, .ref (A 1))] [] (Wd A dT s42) 0 0
            refine z_const X (show cdA 104 74 = some (.iconst 0, 1, 0, 0, 0) from rfl) ?_
            refine z_store X (lv' := [(5, .int (Int32.ofInt 0)), (4, .int (Int32.ofInt (iI s12 6))), (3, .int (Int32.ofInt (iI s 4))), (2, .int (Int32.ofInt e9)), (0, .ref (A 3)), (1, .ref (A 1))]) (show cdA 104 75 = some (.istore 5, 2, 0, 0, 0) from rfl) (by decide) (fun _ h => h) ?_
            refine WS_lv (lv := [(0, .ref (A 3)), (1, .ref (A 1)), (2, .int (Int32.ofInt e9)), (3, .int (Int32.ofInt (iI s 4))), (4, .int (Int32.ofInt (iI s12 6))), (5, .int (Int32.ofInt 0))]) (List.forall_mem_cons.mpr ⟨(List.Mem.tail _ (List.Mem.tail _ (List.Mem.tail _ (List.Mem.tail _ (List.Mem.head _))))), (List.forall_mem_cons.mpr ⟨(List.Mem.tail _ (List.Mem.tail _ (List.Mem.tail _ (List.Mem.tail _ (List.Mem.tail _ (List.Mem.head _)))))), (List.forall_mem_cons.mpr ⟨(List.Mem.tail _ (List.Mem.tail _ (List.Mem.tail _ (List.Mem.head _)))), (List.forall_mem_cons.mpr ⟨(List.Mem.tail _ (List.Mem.tail _ (List.Mem.head _))), (List.forall_mem_cons.mpr ⟨(List.Mem.tail _ (List.Mem.head _)), (List.forall_mem_cons.mpr ⟨(List.Mem.head _), (fun q h => absurd h List.not_mem_nil)⟩)⟩)⟩)⟩)⟩)⟩) ?_
            refine L77 ((7 - 0 : Int).toNat + 1) s42 e9 (iI s 4) (iI s12 6) 0 Is42 Gs42 (by first | exact ⟨oq_752b3116 g18 g11 hps8.1, And.intro (b10.1) (b10.2), And.intro (g38) (g41), by decide, by decide, hps42.1, hps42.2⟩ | omega) (Nat.lt_succ_self _) ?_
            intro s48 x49 Is48 Fs48 hs48
            have b50 : (0 : Int) ≤ iI s48 11 ∧ iI s48 11 ≤ 24 := Is48.1 11
            have b51 : (0 : Int) ≤ iI s48 2 ∧ iI s48 2 ≤ 200 := Is48.1 2
            have b52 : (0 : Int) ≤ iI s48 1 ∧ iI s48 1 ≤ 200 := Is48.1 1
            have b53 : (0 : Int) ≤ iI s48 4 ∧ iI s48 4 ≤ 200 := Is48.1 4
            have b54 : ((-3) : Int) ≤ iI s48 5 ∧ iI s48 5 ≤ 255 := Is48.1 5
            have b55 : (0 : Int) ≤ iI s48 6 ∧ iI s48 6 ≤ 100000 := Is48.1 6
            refine z_const X (show cdA 104 110 = some (.iconst 1, 1, 0, 0, 0) from rfl) ?_
            exact w_iret X.1 q hRt (nar_ret (by first | exact Or.inr (by decide) | omega)) (ax_d X (show cdA 104 111 = some (.ireturn, 1, 0, 0, 0) from rfl)) (Nat.zero_le _) (Nat.zero_le _) ⟨_, rfl, Is48, Fs48, 1, rfl, (by decide), by first | exact ⟨Or.inr (by decide), hs48.2.2.2.2.2.1, hs48.2.2.2.2.2.2⟩ | omega⟩
          ·
            refine z_aload_n X (x := A 1) (show cdA 104 64 = some (.aload_n 1, 1, 0, 0, 0) from rfl) (List.Mem.tail _ (List.Mem.tail _ (List.Mem.tail _ (List.Mem.tail _ (List.Mem.head _))))) ?_
            refine z_const X (show cdA 104 65 = some (.iconst 2, 1, 0, 0, 0) from rfl) ?_
            refine z_callV X 1 (rm := rmN 132) (As := [.int (Int32.ofInt 2)]) (st := []) (show cdA 104 66 = some (.invokevirtual 67, 3, 132, 0, 0) from rfl) rfl (by decide) rfl (by rw [E.1, E.2.1, E.2.2.1]; exact c10_refuse_1 G Is12 (by first | exact ⟨by decide, by decide⟩ | omega)) ⟨by rw [E.2.2.2]; exact (show (rmN 132).frames + 1 ≤ (rmN 104).frames by decide), by rw [E.2.2.2]; exact (show 8 + (mNL (miB 132) + 11) + (rmN 132).locals ≤ (rmN 104).locals by decide), by rw [E.2.2.2]; exact (show 0 + (rmN 132).cells ≤ (rmN 104).cells by decide), by rw [E.2.2.2]; exact (show 0 + (rmN 132).slots ≤ (rmN 104).slots by decide)⟩ (Nat.le_of_ble_eq_true rfl) (fun vv s56 hq => ?_) (fun ee s56 hq => ?_)
            rotate_left
            · obtain ⟨Is56, Fs56, e57, hv, hrs56, hps56⟩ := hq; cases hv
            obtain ⟨Is56, Fs56, e57, hv, hrs56, hps56⟩ := hq
            cases hv
            have Gs56 := fm_ts Gs12 Fs56 (by decide) (by decide)
            have ws56_11 : iI s56 11 = iI s12 11 := fm_i Fs56 (by decide)
            have ws56_2 : iI s56 2 = iI s12 2 := fm_i Fs56 (by decide)
            have ws56_1 : iI s56 1 = iI s12 1 := fm_i Fs56 (by decide)
            have ws56_4 : iI s56 4 = iI s12 4 := fm_i Fs56 (by decide)
            have ws56_5 : iI s56 5 = iI s12 5 := fm_i Fs56 (by decide)
            have ws56_6 : iI s56 6 = iI s12 6 := fm_i Fs56 (by decide)
            show WS k 69 [(4, .int (Int32.ofInt (iI s12 6))), (3, .int (Int32.ofInt (iI s 4))), (2, .int (Int32.ofInt e9)), (0, .ref (A 3)), (1, .ref (A 1))] [.int (Int32.ofInt e57)] (Wd A dT s56) 0 0
            exact w_iret X.1 q hRt (nar_ret (by first | exact Or.inl (hps56) | omega)) (ax_d X (show cdA 104 69 = some (.ireturn, 1, 0, 0, 0) from rfl)) (Nat.zero_le _) (Nat.zero_le _) ⟨_, rfl, Is56, Gs56, e57, rfl, hrs56, by first | exact ⟨Or.inl (hps56), oq_e7b9ecab ws56_1 ws56_2 hps12.1, oq_e7b9ecab ws56_2 ws56_4 hps12.2⟩ | omega⟩
  ·
    refine z_aload_n X (x := A 1) (show cdA 104 18 = some (.aload_n 1, 1, 0, 0, 0) from rfl) (List.Mem.tail _ (List.Mem.tail _ (List.Mem.tail _ (List.Mem.head _)))) ?_
    refine z_const X (show cdA 104 19 = some (.iconst 1, 1, 0, 0, 0) from rfl) ?_
    refine z_callV X 1 (rm := rmN 132) (As := [.int (Int32.ofInt 1)]) (st := []) (show cdA 104 20 = some (.invokevirtual 67, 3, 132, 0, 0) from rfl) rfl (by decide) rfl (by rw [E.1, E.2.1, E.2.2.1]; exact c10_refuse_1 G I (by first | exact ⟨by decide, by decide⟩ | omega)) ⟨by rw [E.2.2.2]; exact (show (rmN 132).frames + 1 ≤ (rmN 104).frames by decide), by rw [E.2.2.2]; exact (show 8 + (mNL (miB 132) + 11) + (rmN 132).locals ≤ (rmN 104).locals by decide), by rw [E.2.2.2]; exact (show 0 + (rmN 132).cells ≤ (rmN 104).cells by decide), by rw [E.2.2.2]; exact (show 0 + (rmN 132).slots ≤ (rmN 104).slots by decide)⟩ (Nat.le_of_ble_eq_true rfl) (fun vv s58 hq => ?_) (fun ee s58 hq => ?_)
    rotate_left
    · obtain ⟨Is58, Fs58, e59, hv, hrs58, hps58⟩ := hq; cases hv
    obtain ⟨Is58, Fs58, e59, hv, hrs58, hps58⟩ := hq
    cases hv
    have Gs58 := fm_ts F Fs58 (by decide) (by decide)
    have ws58_11 : iI s58 11 = iI s 11 := fm_i Fs58 (by decide)
    have ws58_2 : iI s58 2 = iI s 2 := fm_i Fs58 (by decide)
    have ws58_1 : iI s58 1 = iI s 1 := fm_i Fs58 (by decide)
    have ws58_4 : iI s58 4 = iI s 4 := fm_i Fs58 (by decide)
    have ws58_5 : iI s58 5 = iI s 5 := fm_i Fs58 (by decide)
    have ws58_6 : iI s58 6 = iI s 6 := fm_i Fs58 (by decide)
    show WS k 23 [(3, .int (Int32.ofInt (iI s 4))), (2, .int (Int32.ofInt e9)), (0, .ref (A 3)), (1, .ref (A 1))] [.int (Int32.ofInt e59)] (Wd A dT s58) 0 0
    exact w_iret X.1 q hRt (nar_ret (by first | exact Or.inl (hps58) | omega)) (ax_d X (show cdA 104 23 = some (.ireturn, 1, 0, 0, 0) from rfl)) (Nat.zero_le _) (Nat.zero_le _) ⟨_, rfl, Is58, Gs58, e59, rfl, hrs58, by first | exact ⟨Or.inl (hps58), oq_e7b9ecab ws58_1 ws58_2 p0, oq_e7b9ecab ws58_2 ws58_4 p1⟩ | omega⟩
set_option maxRecDepth 4000 in
theorem c9_readWay_3 (G : GX l s0 D tys a0 dT) (I : Bd s) (p0 : iI s 2 ≤ iI s 1) (p1 : iI s 4 ≤ iI s 2) : CT l s0 D A dT 103 (rmN 103) [.ref (A 3), .ref (A 1)] s (fun o t => Bd t ∧ Fm [11, 2, 4, 6, 5, 7, 8] [15] s t ∧ ∃ e, o = .inl (some (.int (Int32.ofInt e))) ∧ rng e ∧ ((e = 0 ∨ e = 1) ∧ iI t 2 ≤ iI t 1 ∧ iI t 4 ≤ iI t 2)) := by
  refine ct_ofX G (by decide) (Nat.le_of_ble_eq_true rfl) (fun k X E ET hRt hXt q => ?_)
  show WS k 0 [(0, .ref (A 3)), (1, .ref (A 1))] [] _ 0 0
  have F : Fm [11, 2, 4, 6, 5, 7, 8] [15] s s := fm_rf _ _ s
  have b1 : (0 : Int) ≤ iI s 11 ∧ iI s 11 ≤ 24 := I.1 11
  have b2 : (0 : Int) ≤ iI s 2 ∧ iI s 2 ≤ 200 := I.1 2
  have b3 : (0 : Int) ≤ iI s 1 ∧ iI s 1 ≤ 200 := I.1 1
  have b4 : (0 : Int) ≤ iI s 4 ∧ iI s 4 ≤ 200 := I.1 4
  have b5 : ((-3) : Int) ≤ iI s 5 ∧ iI s 5 ≤ 255 := I.1 5
  have b6 : (0 : Int) ≤ iI s 6 ∧ iI s 6 ≤ 100000 := I.1 6
  have L57 : ∀ (n : Nat) (t : PS) (c : Int), Bd t → Fm [11, 2, 4, 6, 5, 7, 8] [15] s t → (0 ≤ c ∧ c ≤ 100 ∧ iI t 2 ≤ iI t 1 ∧ iI t 4 ≤ iI t 2) → (100 - c : Int).toNat < n → (∀ (t' : PS) (c' : Int), Bd t' → Fm [11, 2, 4, 6, 5, 7, 8] [15] s t' → (0 ≤ c' ∧ c' ≤ 100 ∧ iI t' 2 ≤ iI t' 1 ∧ iI t' 4 ≤ iI t' 2) → WS k 87 [(0, .ref (A 3)), (1, .ref (A 1)), (2, .int (Int32.ofInt c'))] [] (Wd A dT t') 0 0) → WS k 57 [(0, .ref (A 3)), (1, .ref (A 1)), (2, .int (Int32.ofInt c))] [] (Wd A dT t) 0 0 := by
    intro n
    induction n with
    | zero =>
      intro t c I F hi hm kx
      exact absurd hm (Nat.not_lt_zero _)
    | succ n ih =>
      intro t c I F hi hm kx
      have b1001 : (0 : Int) ≤ iI t 11 ∧ iI t 11 ≤ 24 := I.1 11
      have b1002 : (0 : Int) ≤ iI t 2 ∧ iI t 2 ≤ 200 := I.1 2
      have b1003 : (0 : Int) ≤ iI t 1 ∧ iI t 1 ≤ 200 := I.1 1
      have b1004 : (0 : Int) ≤ iI t 4 ∧ iI t 4 ≤ 200 := I.1 4
      have b1005 : ((-3) : Int) ≤ iI t 5 ∧ iI t 5 ≤ 255 := I.1 5
      have b1006 : (0 : Int) ≤ iI t 6 ∧ iI t 6 ≤ 100000 := I.1 6
      refine z_load_n X (x := c) (show cdA 103 57 = some (.iload_n 2, 1, 0, 0, 0) from rfl) (List.Mem.tail _ (List.Mem.tail _ (List.Mem.head _))) ?_
      refine z_bipush X (show cdA 103 58 = some (.bipush 100, 2, 0, 0, 100) from rfl) ?_
      refine z_icmp_ge X (t := 87) (show cdA 103 60 = some (.if_icmp .ge 27, 3, 3, 0, 0) from rfl) (by decide) ⟨by first | exact oq_fa4e5087 hi.1 | omega, by first | exact oq_f0661bc9 hi.2.1 | omega⟩ (by decide) (fun g1007 => ?_) (fun g1007 => ?_)
      ·
        refine WS_lv (lv := [(0, .ref (A 3)), (1, .ref (A 1)), (2, .int (Int32.ofInt c))]) (List.forall_mem_cons.mpr ⟨(List.Mem.head _), (List.forall_mem_cons.mpr ⟨(List.Mem.tail _ (List.Mem.head _)), (List.forall_mem_cons.mpr ⟨(List.Mem.tail _ (List.Mem.tail _ (List.Mem.head _))), (fun q h => absurd h List.not_mem_nil)⟩)⟩)⟩) ?_
        exact kx _ c I F (by first | exact ⟨hi.1, hi.2.1, hi.2.2.1, hi.2.2.2⟩ | omega)
      ·
        refine z_aload_n X (x := A 1) (show cdA 103 63 = some (.aload_n 1, 1, 0, 0, 0) from rfl) (List.Mem.tail _ (List.Mem.head _)) ?_
        refine z_getI X 1 (show cdA 103 64 = some (.getfield 62, 3, 10, 6, 0) from rfl) (by decide) rfl rfl ?_
        have b1008 : ((-3) : Int) ≤ iI t 5 ∧ iI t 5 ≤ 255 := I.1 5
        refine z_const X (show cdA 103 67 = some (.iconst (-1), 1, 0, 0, 0) from rfl) ?_
        refine z_icmp_eq X (t := 87) (show cdA 103 68 = some (.if_icmp .eq 19, 3, 0, 0, 0) from rfl) (by decide) (rng_to _) (by decide) (fun g1009 => ?_) (fun g1009 => ?_)
        ·
          refine WS_lv (lv := [(0, .ref (A 3)), (1, .ref (A 1)), (2, .int (Int32.ofInt c))]) (List.forall_mem_cons.mpr ⟨(List.Mem.head _), (List.forall_mem_cons.mpr ⟨(List.Mem.tail _ (List.Mem.head _)), (List.forall_mem_cons.mpr ⟨(List.Mem.tail _ (List.Mem.tail _ (List.Mem.head _))), (fun q h => absurd h List.not_mem_nil)⟩)⟩)⟩) ?_
          exact kx _ c I F (by first | exact ⟨hi.1, hi.2.1, hi.2.2.1, hi.2.2.2⟩ | omega)
        ·
          refine z_aload_n X (x := A 3) (show cdA 103 71 = some (.aload_n 0, 1, 0, 0, 0) from rfl) (List.Mem.head _) ?_
          refine z_aload_n X (x := A 1) (show cdA 103 72 = some (.aload_n 1, 1, 0, 0, 0) from rfl) (List.Mem.tail _ (List.Mem.head _)) ?_
          refine z_callV X 3 (rm := rmN 104) (As := [.ref (A 1)]) (st := []) (show cdA 103 73 = some (.invokevirtual 77, 3, 104, 0, 0) from rfl) rfl (by decide) rfl (by rw [E.1, E.2.1, E.2.2.1]; exact c9_readMove_3 G I (by first | exact hi.2.2.1 | omega) (by first | exact hi.2.2.2 | omega)) ⟨by rw [E.2.2.2]; exact (show (rmN 104).frames + 1 ≤ (rmN 103).frames by decide), by rw [E.2.2.2]; exact (show 8 + (mNL (miB 104) + 11) + (rmN 104).locals ≤ (rmN 103).locals by decide), by rw [E.2.2.2]; exact (show 0 + (rmN 104).cells ≤ (rmN 103).cells by decide), by rw [E.2.2.2]; exact (show 0 + (rmN 104).slots ≤ (rmN 103).slots by decide)⟩ (Nat.le_of_ble_eq_true rfl) (fun vv s1010 hq => ?_) (fun ee s1010 hq => ?_)
          rotate_left
          · obtain ⟨Is1010, Fs1010, e1011, hv, hrs1010, hps1010⟩ := hq; cases hv
          obtain ⟨Is1010, Fs1010, e1011, hv, hrs1010, hps1010⟩ := hq
          cases hv
          have Gs1010 := fm_ts F Fs1010 (by decide) (by decide)
          have b1012 : (0 : Int) ≤ iI s1010 11 ∧ iI s1010 11 ≤ 24 := Is1010.1 11
          have b1013 : (0 : Int) ≤ iI s1010 2 ∧ iI s1010 2 ≤ 200 := Is1010.1 2
          have ws1010_1 : iI s1010 1 = iI t 1 := fm_i Fs1010 (by decide)
          have b1014 : (0 : Int) ≤ iI s1010 4 ∧ iI s1010 4 ≤ 200 := Is1010.1 4
          have b1015 : ((-3) : Int) ≤ iI s1010 5 ∧ iI s1010 5 ≤ 255 := Is1010.1 5
          have b1016 : (0 : Int) ≤ iI s1010 6 ∧ iI s1010 6 ≤ 100000 := Is1010.1 6
          show WS k 76 [(0, .ref (A 3)), (1, .ref (A 1)), (2, .int (Int32.ofInt c))] [.int (Int32.ofInt e1011)] (Wd A dT s1010) 0 0
          refine z_if_ne X (t := 81) (show cdA 103 76 = some (.ifCond .ne 5, 3, 1, 0, 0) from rfl) (by decide) hrs1010 (fun g1017 => ?_) (fun g1017 => ?_)
          ·
            refine z_inc X (x := c) (lv' := [(2, .int (Int32.ofInt (c + 1))), (0, .ref (A 3)), (1, .ref (A 1))]) (show cdA 103 81 = some (.iinc 2 1, 3, 0, 0, 0) from rfl) (by decide) (List.Mem.tail _ (List.Mem.tail _ (List.Mem.head _))) (fun _ h => h) ?_
            refine z_goto X (t := 57) (show cdA 103 84 = some (.goto (-27), 3, 0, 0, 0) from rfl) (by decide) ?_
            refine WS_lv (lv := [(0, .ref (A 3)), (1, .ref (A 1)), (2, .int (Int32.ofInt (c + 1)))]) (List.forall_mem_cons.mpr ⟨(List.Mem.tail _ (List.Mem.head _)), (List.forall_mem_cons.mpr ⟨(List.Mem.tail _ (List.Mem.tail _ (List.Mem.head _))), (List.forall_mem_cons.mpr ⟨(List.Mem.head _), (fun q h => absurd h List.not_mem_nil)⟩)⟩)⟩) ?_
            exact ih _ (c + 1) Is1010 Gs1010 (by first | exact ⟨oq_54f49eb5 hi.1, oq_16ea9949 g1007, hps1010.2.1, hps1010.2.2⟩ | omega) (by first | exact qk_me hm (by decide) (oq_ed5c4e18 g1007) | omega) kx
          ·
            refine z_const X (show cdA 103 79 = some (.iconst 0, 1, 0, 0, 0) from rfl) ?_
            exact w_iret X.1 q hRt (nar_ret (by first | exact Or.inl (by decide) | omega)) (ax_d X (show cdA 103 80 = some (.ireturn, 1, 0, 0, 0) from rfl)) (Nat.zero_le _) (Nat.zero_le _) ⟨_, rfl, Is1010, Gs1010, 0, rfl, (by decide), by first | exact ⟨Or.inl (by decide), hps1010.2.1, hps1010.2.2⟩ | omega⟩
  refine z_aload_n X (x := A 3) (show cdA 103 0 = some (.aload_n 0, 1, 0, 0, 0) from rfl) (List.Mem.head _) ?_
  refine z_const X (show cdA 103 1 = some (.iconst 0, 1, 0, 0, 0) from rfl) ?_
  refine s_putI X 3 (show cdA 103 2 = some (.putfield 58, 3, 9, 17, 0) from rfl) (by decide) rfl rfl (by decide) rfl rfl rfl ?_
  obtain ⟨s7, hs7⟩ : ∃ x0, x0 = uI s 11 (Int32.ofInt 0) := ⟨_, rfl⟩
  rw [← hs7]
  have Is7 : Bd s7 := by rw [hs7]; exact bd_I I (show (0 : Int) ≤ 0 ∧ 0 ≤ 24 by first | exact ⟨by decide, by decide⟩ | omega) (by decide)
  have Fs7 := fm_I (x := Int32.ofInt 0) F (show 11 ∈ _ by decide)
  rw [← hs7] at Fs7
  have vs7 : iI s7 11 = 0 := by rw [hs7]; exact iI_u (by decide)
  have ws7_2 : iI s7 2 = iI s 2 := by rw [hs7]; rfl
  have ws7_1 : iI s7 1 = iI s 1 := by rw [hs7]; rfl
  have ws7_4 : iI s7 4 = iI s 4 := by rw [hs7]; rfl
  have ws7_5 : iI s7 5 = iI s 5 := by rw [hs7]; rfl
  have ws7_6 : iI s7 6 = iI s 6 := by rw [hs7]; rfl
  refine z_aload_n X (x := A 1) (show cdA 103 5 = some (.aload_n 1, 1, 0, 0, 0) from rfl) (List.Mem.tail _ (List.Mem.head _)) ?_
  refine z_getI X 1 (show cdA 103 6 = some (.getfield 62, 3, 10, 6, 0) from rfl) (by decide) rfl rfl ?_
  have b8 : ((-3) : Int) ≤ iI s7 5 ∧ iI s7 5 ≤ 255 := Is7.1 5
  refine z_bipush X (show cdA 103 9 = some (.bipush (-2), 2, 0, 0, (-2)) from rfl) ?_
  refine z_icmp_eq X (t := 20) (show cdA 103 11 = some (.if_icmp .eq 9, 3, 0, 0, 0) from rfl) (by decide) (rng_to _) (by decide) (fun g9 => ?_) (fun g9 => ?_)
  ·
    refine z_aload_n X (x := A 1) (show cdA 103 20 = some (.aload_n 1, 1, 0, 0, 0) from rfl) (List.Mem.tail _ (List.Mem.head _)) ?_
    refine z_getI X 1 (show cdA 103 21 = some (.getfield 71, 3, 10, 7, 0) from rfl) (by decide) rfl rfl ?_
    have b10 : (0 : Int) ≤ iI s7 6 ∧ iI s7 6 ≤ 100000 := Is7.1 6
    refine z_sipush X (show cdA 103 24 = some (.sipush 128, 3, 0, 0, 128) from rfl) ?_
    refine z_icmp_lt X (t := 36) (show cdA 103 27 = some (.if_icmp .lt 9, 3, 2, 0, 0) from rfl) (by decide) (rng_to _) (by decide) (fun g11 => ?_) (fun g11 => ?_)
    ·
      refine z_aload_n X (x := A 3) (show cdA 103 36 = some (.aload_n 0, 1, 0, 0, 0) from rfl) (List.Mem.head _) ?_
      refine s_getR X 3 (show cdA 103 37 = some (.getfield 55, 3, 9, 16, 0) from rfl) (by decide) rfl rfl ?_
      refine z_const X (show cdA 103 40 = some (.iconst 0, 1, 0, 0, 0) from rfl) ?_
      refine z_aload_n X (x := A 1) (show cdA 103 41 = some (.aload_n 1, 1, 0, 0, 0) from rfl) (List.Mem.tail _ (List.Mem.head _)) ?_
      refine z_getI X 1 (show cdA 103 42 = some (.getfield 71, 3, 10, 7, 0) from rfl) (by decide) rfl rfl ?_
      have b12 : (0 : Int) ≤ iI s7 6 ∧ iI s7 6 ≤ 100000 := Is7.1 6
      refine z_ast X 18 (show cdA 103 45 = some (.iastore, 1, 0, 0, 0) from rfl) (by decide) rfl (by decide) (show 0 < 24 by decide) (by decide) ?_
      obtain ⟨s13, hs13⟩ : ∃ x0, x0 = uC s7 15 (0 : Int).toNat (Int32.ofInt (iI s7 6)) := ⟨_, rfl⟩
      rw [← hs13]
      have Is13 : Bd s13 := by rw [hs13]; exact bd_C Is7 (show (0 : Int) ≤ (iI s7 6) ∧ (iI s7 6) ≤ 127 by first | exact ⟨b12.1, oq_04367f15 g11⟩ | omega) (rng_to _)
      have Fs13 := fm_C (i := (0 : Int).toNat) (x := Int32.ofInt (iI s7 6)) Fs7 (show 15 ∈ _ by decide)
      rw [← hs13] at Fs13
      have ws13_11 : iI s13 11 = iI s7 11 := by rw [hs13]; rfl
      have ws13_2 : iI s13 2 = iI s7 2 := by rw [hs13]; rfl
      have ws13_1 : iI s13 1 = iI s7 1 := by rw [hs13]; rfl
      have ws13_4 : iI s13 4 = iI s7 4 := by rw [hs13]; rfl
      have ws13_5 : iI s13 5 = iI s7 5 := by rw [hs13]; rfl
      have ws13_6 : iI s13 6 = iI s7 6 := by rw [hs13]; rfl
      refine z_aload_n X (x := A 3) (show cdA 103 46 = some (.aload_n 0, 1, 0, 0, 0) from rfl) (List.Mem.head _) ?_
      refine z_const X (show cdA 103 47 = some (.iconst 1, 1, 0, 0, 0) from rfl) ?_
      refine s_putI X 3 (show cdA 103 48 = some (.putfield 58, 3, 9, 17, 0) from rfl) (by decide) rfl rfl (by decide) rfl rfl rfl ?_
      obtain ⟨s14, hs14⟩ : ∃ x0, x0 = uI s13 11 (Int32.ofInt 1) := ⟨_, rfl⟩
      rw [← hs14]
      have Is14 : Bd s14 := by rw [hs14]; exact bd_I Is13 (show (0 : Int) ≤ 1 ∧ 1 ≤ 24 by first | exact ⟨by decide, by decide⟩ | omega) (by decide)
      have Fs14 := fm_I (x := Int32.ofInt 1) Fs13 (show 11 ∈ _ by decide)
      rw [← hs14] at Fs14
      have vs14 : iI s14 11 = 1 := by rw [hs14]; exact iI_u (by decide)
      have ws14_2 : iI s14 2 = iI s13 2 := by rw [hs14]; rfl
      have ws14_1 : iI s14 1 = iI s13 1 := by rw [hs14]; rfl
      have ws14_4 : iI s14 4 = iI s13 4 := by rw [hs14]; rfl
      have ws14_5 : iI s14 5 = iI s13 5 := by rw [hs14]; rfl
      have ws14_6 : iI s14 6 = iI s13 6 := by rw [hs14]; rfl
      refine z_aload_n X (x := A 1) (show cdA 103 51 = some (.aload_n 1, 1, 0, 0, 0) from rfl) (List.Mem.tail _ (List.Mem.head _)) ?_
      refine z_callV X 1 (rm := rmN 129) (As := []) (st := []) (show cdA 103 52 = some (.invokevirtual 74, 3, 129, 0, 0) from rfl) rfl (by decide) rfl (by rw [E.1, E.2.1, E.2.2.1]; exact c10_step_1 G Is14 (by first | exact oq_72ebe5a4 ws14_1 ws14_2 ws13_1 ws13_2 ws7_1 ws7_2 p0 | omega)) ⟨by rw [E.2.2.2]; exact (show (rmN 129).frames + 1 ≤ (rmN 103).frames by decide), by rw [E.2.2.2]; exact (show 8 + (mNL (miB 129) + 11) + (rmN 129).locals ≤ (rmN 103).locals by decide), by rw [E.2.2.2]; exact (show 0 + (rmN 129).cells ≤ (rmN 103).cells by decide), by rw [E.2.2.2]; exact (show 0 + (rmN 129).slots ≤ (rmN 103).slots by decide)⟩ (Nat.le_of_ble_eq_true rfl) (fun vv s15 hq => ?_) (fun ee s15 hq => ?_)
      rotate_left
      · obtain ⟨Is15, Fs15, hv, hps15⟩ := hq; cases hv
      obtain ⟨Is15, Fs15, hv, hps15⟩ := hq
      cases hv
      have Gs15 := fm_ts Fs14 Fs15 (by decide) (by decide)
      have ws15_11 : iI s15 11 = iI s14 11 := fm_i Fs15 (by decide)
      have b17 : (0 : Int) ≤ iI s15 2 ∧ iI s15 2 ≤ 200 := Is15.1 2
      have ws15_1 : iI s15 1 = iI s14 1 := fm_i Fs15 (by decide)
      have b18 : (0 : Int) ≤ iI s15 4 ∧ iI s15 4 ≤ 200 := Is15.1 4
      have b19 : ((-3) : Int) ≤ iI s15 5 ∧ iI s15 5 ≤ 255 := Is15.1 5
      have b20 : (0 : Int) ≤ iI s15 6 ∧ iI s15 6 ≤ 100000 := Is15.1 6
      show WS k 55 [(0, .ref (A 3)), (1, .ref (A 1))] [] (Wd A dT s15) 0 0
      refine z_const X (show cdA 103 55 = some (.iconst 0, 1, 0, 0, 0) from rfl) ?_
      refine z_store_n X (lv' := [(2, .int (Int32.ofInt 0)), (0, .ref (A 3)), (1, .ref (A 1))]) (show cdA 103 56 = some (.istore_n 2, 1, 0, 0, 0) from rfl) (by decide) (fun _ h => h) ?_
      refine WS_lv (lv := [(0, .ref (A 3)), (1, .ref (A 1)), (2, .int (Int32.ofInt 0))]) (List.forall_mem_cons.mpr ⟨(List.Mem.tail _ (List.Mem.head _)), (List.forall_mem_cons.mpr ⟨(List.Mem.tail _ (List.Mem.tail _ (List.Mem.head _))), (List.forall_mem_cons.mpr ⟨(List.Mem.head _), (fun q h => absurd h List.not_mem_nil)⟩)⟩)⟩) ?_
      refine L57 ((100 - 0 : Int).toNat + 1) s15 0 Is15 Gs15 (by first | exact ⟨by decide, by decide, hps15.1, hps15.2⟩ | omega) (Nat.lt_succ_self _) ?_
      intro s21 x22 Is21 Fs21 hs21
      have b23 : (0 : Int) ≤ iI s21 11 ∧ iI s21 11 ≤ 24 := Is21.1 11
      have b24 : (0 : Int) ≤ iI s21 2 ∧ iI s21 2 ≤ 200 := Is21.1 2
      have b25 : (0 : Int) ≤ iI s21 1 ∧ iI s21 1 ≤ 200 := Is21.1 1
      have b26 : (0 : Int) ≤ iI s21 4 ∧ iI s21 4 ≤ 200 := Is21.1 4
      have b27 : ((-3) : Int) ≤ iI s21 5 ∧ iI s21 5 ≤ 255 := Is21.1 5
      have b28 : (0 : Int) ≤ iI s21 6 ∧ iI s21 6 ≤ 100000 := Is21.1 6
      refine z_const X (show cdA 103 87 = some (.iconst 1, 1, 0, 0, 0) from rfl) ?_
      exact w_iret X.1 q hRt (nar_ret (by first | exact Or.inr (by decide) | omega)) (ax_d X (show cdA 103 88 = some (.ireturn, 1, 0, 0, 0) from rfl)) (Nat.zero_le _) (Nat.zero_le _) ⟨_, rfl, Is21, Fs21, 1, rfl, (by decide), by first | exact ⟨Or.inr (by decide), hs21.2.2.1, hs21.2.2.2⟩ | omega⟩
    ·
      refine z_aload_n X (x := A 1) (show cdA 103 30 = some (.aload_n 1, 1, 0, 0, 0) from rfl) (List.Mem.tail _ (List.Mem.head _)) ?_
      refine z_const X (show cdA 103 31 = some (.iconst 2, 1, 0, 0, 0) from rfl) ?_
      refine z_callV X 1 (rm := rmN 132) (As := [.int (Int32.ofInt 2)]) (st := []) (show cdA 103 32 = some (.invokevirtual 67, 3, 132, 0, 0) from rfl) rfl (by decide) rfl (by rw [E.1, E.2.1, E.2.2.1]; exact c10_refuse_1 G Is7 (by first | exact ⟨by decide, by decide⟩ | omega)) ⟨by rw [E.2.2.2]; exact (show (rmN 132).frames + 1 ≤ (rmN 103).frames by decide), by rw [E.2.2.2]; exact (show 8 + (mNL (miB 132) + 11) + (rmN 132).locals ≤ (rmN 103).locals by decide), by rw [E.2.2.2]; exact (show 0 + (rmN 132).cells ≤ (rmN 103).cells by decide), by rw [E.2.2.2]; exact (show 0 + (rmN 132).slots ≤ (rmN 103).slots by decide)⟩ (Nat.le_of_ble_eq_true rfl) (fun vv s29 hq => ?_) (fun ee s29 hq => ?_)
      rotate_left
      · obtain ⟨Is29, Fs29, e30, hv, hrs29, hps29⟩ := hq; cases hv
      obtain ⟨Is29, Fs29, e30, hv, hrs29, hps29⟩ := hq
      cases hv
      have Gs29 := fm_ts Fs7 Fs29 (by decide) (by decide)
      have ws29_11 : iI s29 11 = iI s7 11 := fm_i Fs29 (by decide)
      have ws29_2 : iI s29 2 = iI s7 2 := fm_i Fs29 (by decide)
      have ws29_1 : iI s29 1 = iI s7 1 := fm_i Fs29 (by decide)
      have ws29_4 : iI s29 4 = iI s7 4 := fm_i Fs29 (by decide)
      have ws29_5 : iI s29 5 = iI s7 5 := fm_i Fs29 (by decide)
      have ws29_6 : iI s29 6 = iI s7 6 := fm_i Fs29 (by decide)
      show WS k 35 [(0, .ref (A 3)), (1, .ref (A 1))] [.int (Int32.ofInt e30)] (Wd A dT s29) 0 0
      exact w_iret X.1 q hRt (nar_ret (by first | exact Or.inl (hps29) | omega)) (ax_d X (show cdA 103 35 = some (.ireturn, 1, 0, 0, 0) from rfl)) (Nat.zero_le _) (Nat.zero_le _) ⟨_, rfl, Is29, Gs29, e30, rfl, hrs29, by first | exact ⟨Or.inl (hps29), oq_4407eb3c ws29_1 ws29_2 ws7_1 ws7_2 p0, oq_4407eb3c ws29_2 ws29_4 ws7_2 ws7_4 p1⟩ | omega⟩
  ·
    refine z_aload_n X (x := A 1) (show cdA 103 14 = some (.aload_n 1, 1, 0, 0, 0) from rfl) (List.Mem.tail _ (List.Mem.head _)) ?_
    refine z_const X (show cdA 103 15 = some (.iconst 1, 1, 0, 0, 0) from rfl) ?_
    refine z_callV X 1 (rm := rmN 132) (As := [.int (Int32.ofInt 1)]) (st := []) (show cdA 103 16 = some (.invokevirtual 67, 3, 132, 0, 0) from rfl) rfl (by decide) rfl (by rw [E.1, E.2.1, E.2.2.1]; exact c10_refuse_1 G Is7 (by first | exact ⟨by decide, by decide⟩ | omega)) ⟨by rw [E.2.2.2]; exact (show (rmN 132).frames + 1 ≤ (rmN 103).frames by decide), by rw [E.2.2.2]; exact (show 8 + (mNL (miB 132) + 11) + (rmN 132).locals ≤ (rmN 103).locals by decide), by rw [E.2.2.2]; exact (show 0 + (rmN 132).cells ≤ (rmN 103).cells by decide), by rw [E.2.2.2]; exact (show 0 + (rmN 132).slots ≤ (rmN 103).slots by decide)⟩ (Nat.le_of_ble_eq_true rfl) (fun vv s31 hq => ?_) (fun ee s31 hq => ?_)
    rotate_left
    · obtain ⟨Is31, Fs31, e32, hv, hrs31, hps31⟩ := hq; cases hv
    obtain ⟨Is31, Fs31, e32, hv, hrs31, hps31⟩ := hq
    cases hv
    have Gs31 := fm_ts Fs7 Fs31 (by decide) (by decide)
    have ws31_11 : iI s31 11 = iI s7 11 := fm_i Fs31 (by decide)
    have ws31_2 : iI s31 2 = iI s7 2 := fm_i Fs31 (by decide)
    have ws31_1 : iI s31 1 = iI s7 1 := fm_i Fs31 (by decide)
    have ws31_4 : iI s31 4 = iI s7 4 := fm_i Fs31 (by decide)
    have ws31_5 : iI s31 5 = iI s7 5 := fm_i Fs31 (by decide)
    have ws31_6 : iI s31 6 = iI s7 6 := fm_i Fs31 (by decide)
    show WS k 19 [(0, .ref (A 3)), (1, .ref (A 1))] [.int (Int32.ofInt e32)] (Wd A dT s31) 0 0
    exact w_iret X.1 q hRt (nar_ret (by first | exact Or.inl (hps31) | omega)) (ax_d X (show cdA 103 19 = some (.ireturn, 1, 0, 0, 0) from rfl)) (Nat.zero_le _) (Nat.zero_le _) ⟨_, rfl, Is31, Gs31, e32, rfl, hrs31, by first | exact ⟨Or.inl (hps31), oq_4407eb3c ws31_1 ws31_2 ws7_1 ws7_2 p0, oq_4407eb3c ws31_2 ws31_4 ws7_2 ws7_4 p1⟩ | omega⟩
set_option maxRecDepth 4000 in
theorem c9_wipe_3 (G : GX l s0 D tys a0 dT) (I : Bd s) {x : Int} (p0 : 0 ≤ x ∧ x ≤ 11) : CT l s0 D A dT 108 (rmN 108) [.ref (A 3), .int (Int32.ofInt x)] s (fun o t => Bd t ∧ Fm [] [1003, 1004, 1005] s t ∧ o = .inl none ∧ (True)) := by
  refine ct_ofX G (by decide) (Nat.le_of_ble_eq_true rfl) (fun k X E ET hRt hXt q => ?_)
  show WS k 0 [(0, .ref (A 3)), (1, .int (Int32.ofInt x))] [] _ 0 0
  have F : Fm [] [1003, 1004, 1005] s s := fm_rf _ _ s
  have L22 : ∀ (n : Nat) (t : PS) (xv c : Int), Bd t → Fm [] [1003, 1004, 1005] s t → ((0 ≤ xv ∧ xv ≤ 11) ∧ 0 ≤ c ∧ c ≤ 14) → (14 - c : Int).toNat < n → (∀ (t' : PS) (c' : Int), Bd t' → Fm [] [1003, 1004, 1005] s t' → ((0 ≤ xv ∧ xv ≤ 11) ∧ 0 ≤ c' ∧ c' ≤ 14) → WS k 48 [(0, .ref (A 3)), (1, .int (Int32.ofInt xv)), (2, .int (Int32.ofInt c'))] [] (Wd A dT t') 0 0) → WS k 22 [(0, .ref (A 3)), (1, .int (Int32.ofInt xv)), (2, .int (Int32.ofInt c))] [] (Wd A dT t) 0 0 := by
    intro n
    induction n with
    | zero =>
      intro t xv c I F hi hm kx
      exact absurd hm (Nat.not_lt_zero _)
    | succ n ih =>
      intro t xv c I F hi hm kx
      refine z_load_n X (x := c) (show cdA 108 22 = some (.iload_n 2, 1, 0, 0, 0) from rfl) (List.Mem.tail _ (List.Mem.tail _ (List.Mem.head _))) ?_
      refine z_bipush X (show cdA 108 23 = some (.bipush 14, 2, 0, 0, 14) from rfl) ?_
      refine z_icmp_ge X (t := 48) (show cdA 108 25 = some (.if_icmp .ge 23, 3, 3, 0, 0) from rfl) (by decide) ⟨by first | exact oq_fa4e5087 hi.2.1 | omega, by first | exact oq_b2d5d781 hi.2.2 | omega⟩ (by decide) (fun g1001 => ?_) (fun g1001 => ?_)
      ·
        refine WS_lv (lv := [(0, .ref (A 3)), (1, .int (Int32.ofInt xv)), (2, .int (Int32.ofInt c))]) (List.forall_mem_cons.mpr ⟨(List.Mem.head _), (List.forall_mem_cons.mpr ⟨(List.Mem.tail _ (List.Mem.head _)), (List.forall_mem_cons.mpr ⟨(List.Mem.tail _ (List.Mem.tail _ (List.Mem.head _))), (fun q h => absurd h List.not_mem_nil)⟩)⟩)⟩) ?_
        exact kx _ c I F (by first | exact ⟨And.intro (hi.1.1) (hi.1.2), hi.2.1, hi.2.2⟩ | omega)
      ·
        refine z_aload_n X (x := A 3) (show cdA 108 28 = some (.aload_n 0, 1, 0, 0, 0) from rfl) (List.Mem.head _) ?_
        refine s_getR X 3 (show cdA 108 29 = some (.getfield 22, 3, 9, 4, 0) from rfl) (by decide) rfl rfl ?_
        refine z_load_n X (x := xv) (show cdA 108 32 = some (.iload_n 1, 1, 0, 0, 0) from rfl) (List.Mem.tail _ (List.Mem.head _)) ?_
        refine z_bipush X (show cdA 108 33 = some (.bipush 7, 2, 0, 0, 7) from rfl) ?_
        refine z_mul X (show cdA 108 35 = some (.imul, 1, 0, 0, 0) from rfl) ?_
        refine z_const X (show cdA 108 36 = some (.iconst 2, 1, 0, 0, 0) from rfl) ?_
        refine z_mul X (show cdA 108 37 = some (.imul, 1, 0, 0, 0) from rfl) ?_
        refine z_load_n X (x := c) (show cdA 108 38 = some (.iload_n 2, 1, 0, 0, 0) from rfl) (List.Mem.tail _ (List.Mem.tail _ (List.Mem.head _))) ?_
        refine z_add X (show cdA 108 39 = some (.iadd, 1, 0, 0, 0) from rfl) ?_
        refine w_lconst X.1 (ax_d X (show cdA 108 40 = some (.lconst 0, 1, 0, 0, 0) from rfl)) rfl ?_
        refine z_anyJ (fun j1002 => ?_)
        refine z_last X 7 (show cdA 108 41 = some (.lastore, 1, 0, 0, 0) from rfl) (by decide) rfl (by first | exact oq_5903f419 hi.1.1 hi.2.1 | omega) (show (((xv * 7) * 2) + c) < 168 by first | exact oq_7e6b1f23 hi.1.2 g1001 | omega) (by decide) ?_
        obtain ⟨s1003, hs1003⟩ : ∃ x0, x0 = uD t 4 ((((xv * 7) * 2) + c)).toNat j1002 := ⟨_, rfl⟩
        rw [← hs1003]
        have Is1003 : Bd s1003 := by rw [hs1003]; exact bd_D I
        have Fs1003 : Fm [] [1003, 1004, 1005] s s1003 := by rw [hs1003]; exact fm_D F (show 4 + 1000 ∈ _ by decide)
        refine z_inc X (x := c) (lv' := [(2, .int (Int32.ofInt (c + 1))), (0, .ref (A 3)), (1, .int (Int32.ofInt xv))]) (show cdA 108 42 = some (.iinc 2 1, 3, 0, 0, 0) from rfl) (by decide) (List.Mem.tail _ (List.Mem.tail _ (List.Mem.head _))) (fun _ h => h) ?_
        refine z_goto X (t := 22) (show cdA 108 45 = some (.goto (-23), 3, 0, 0, 0) from rfl) (by decide) ?_
        refine WS_lv (lv := [(0, .ref (A 3)), (1, .int (Int32.ofInt xv)), (2, .int (Int32.ofInt (c + 1)))]) (List.forall_mem_cons.mpr ⟨(List.Mem.tail _ (List.Mem.head _)), (List.forall_mem_cons.mpr ⟨(List.Mem.tail _ (List.Mem.tail _ (List.Mem.head _))), (List.forall_mem_cons.mpr ⟨(List.Mem.head _), (fun q h => absurd h List.not_mem_nil)⟩)⟩)⟩) ?_
        exact ih _ xv (c + 1) Is1003 Fs1003 (by first | exact ⟨And.intro (hi.1.1) (hi.1.2), oq_54f49eb5 hi.2.1, oq_99721bc4 g1001⟩ | omega) (by first | exact qk_me hm (by decide) (oq_bddbca7a g1001) | omega) kx
  have L50 : ∀ (n : Nat) (t : PS) (xv c : Int), Bd t → Fm [] [1003, 1004, 1005] s t → ((0 ≤ xv ∧ xv ≤ 11) ∧ 0 ≤ c ∧ c ≤ 5) → (5 - c : Int).toNat < n → (∀ (t' : PS) (c' : Int), Bd t' → Fm [] [1003, 1004, 1005] s t' → ((0 ≤ xv ∧ xv ≤ 11) ∧ 0 ≤ c' ∧ c' ≤ 5) → WS k 72 [(0, .ref (A 3)), (1, .int (Int32.ofInt xv)), (2, .int (Int32.ofInt c'))] [] (Wd A dT t') 0 0) → WS k 50 [(0, .ref (A 3)), (1, .int (Int32.ofInt xv)), (2, .int (Int32.ofInt c))] [] (Wd A dT t) 0 0 := by
    intro n
    induction n with
    | zero =>
      intro t xv c I F hi hm kx
      exact absurd hm (Nat.not_lt_zero _)
    | succ n ih =>
      intro t xv c I F hi hm kx
      refine z_load_n X (x := c) (show cdA 108 50 = some (.iload_n 2, 1, 0, 0, 0) from rfl) (List.Mem.tail _ (List.Mem.tail _ (List.Mem.head _))) ?_
      refine z_const X (show cdA 108 51 = some (.iconst 5, 1, 0, 0, 0) from rfl) ?_
      refine z_icmp_ge X (t := 72) (show cdA 108 52 = some (.if_icmp .ge 20, 3, 3, 0, 0) from rfl) (by decide) ⟨by first | exact oq_fa4e5087 hi.2.1 | omega, by first | exact oq_a3dd55e5 hi.2.2 | omega⟩ (by decide) (fun g2001 => ?_) (fun g2001 => ?_)
      ·
        refine WS_lv (lv := [(0, .ref (A 3)), (1, .int (Int32.ofInt xv)), (2, .int (Int32.ofInt c))]) (List.forall_mem_cons.mpr ⟨(List.Mem.head _), (List.forall_mem_cons.mpr ⟨(List.Mem.tail _ (List.Mem.head _)), (List.forall_mem_cons.mpr ⟨(List.Mem.tail _ (List.Mem.tail _ (List.Mem.head _))), (fun q h => absurd h List.not_mem_nil)⟩)⟩)⟩) ?_
        exact kx _ c I F (by first | exact ⟨And.intro (hi.1.1) (hi.1.2), hi.2.1, hi.2.2⟩ | omega)
      ·
        refine z_aload_n X (x := A 3) (show cdA 108 55 = some (.aload_n 0, 1, 0, 0, 0) from rfl) (List.Mem.head _) ?_
        refine s_getR X 3 (show cdA 108 56 = some (.getfield 25, 3, 9, 5, 0) from rfl) (by decide) rfl rfl ?_
        refine z_load_n X (x := xv) (show cdA 108 59 = some (.iload_n 1, 1, 0, 0, 0) from rfl) (List.Mem.tail _ (List.Mem.head _)) ?_
        refine z_const X (show cdA 108 60 = some (.iconst 5, 1, 0, 0, 0) from rfl) ?_
        refine z_mul X (show cdA 108 61 = some (.imul, 1, 0, 0, 0) from rfl) ?_
        refine z_load_n X (x := c) (show cdA 108 62 = some (.iload_n 2, 1, 0, 0, 0) from rfl) (List.Mem.tail _ (List.Mem.tail _ (List.Mem.head _))) ?_
        refine z_add X (show cdA 108 63 = some (.iadd, 1, 0, 0, 0) from rfl) ?_
        refine w_lconst X.1 (ax_d X (show cdA 108 64 = some (.lconst 0, 1, 0, 0, 0) from rfl)) rfl ?_
        refine z_anyJ (fun j2002 => ?_)
        refine z_last X 8 (show cdA 108 65 = some (.lastore, 1, 0, 0, 0) from rfl) (by decide) rfl (by first | exact oq_59a253bd hi.1.1 hi.2.1 | omega) (show ((xv * 5) + c) < 60 by first | exact oq_7279bf48 hi.1.2 g2001 | omega) (by decide) ?_
        obtain ⟨s2003, hs2003⟩ : ∃ x0, x0 = uD t 5 (((xv * 5) + c)).toNat j2002 := ⟨_, rfl⟩
        rw [← hs2003]
        have Is2003 : Bd s2003 := by rw [hs2003]; exact bd_D I
        have Fs2003 : Fm [] [1003, 1004, 1005] s s2003 := by rw [hs2003]; exact fm_D F (show 5 + 1000 ∈ _ by decide)
        refine z_inc X (x := c) (lv' := [(2, .int (Int32.ofInt (c + 1))), (0, .ref (A 3)), (1, .int (Int32.ofInt xv))]) (show cdA 108 66 = some (.iinc 2 1, 3, 0, 0, 0) from rfl) (by decide) (List.Mem.tail _ (List.Mem.tail _ (List.Mem.head _))) (fun _ h => h) ?_
        refine z_goto X (t := 50) (show cdA 108 69 = some (.goto (-19), 3, 0, 0, 0) from rfl) (by decide) ?_
        refine WS_lv (lv := [(0, .ref (A 3)), (1, .int (Int32.ofInt xv)), (2, .int (Int32.ofInt (c + 1)))]) (List.forall_mem_cons.mpr ⟨(List.Mem.tail _ (List.Mem.head _)), (List.forall_mem_cons.mpr ⟨(List.Mem.tail _ (List.Mem.tail _ (List.Mem.head _))), (List.forall_mem_cons.mpr ⟨(List.Mem.head _), (fun q h => absurd h List.not_mem_nil)⟩)⟩)⟩) ?_
        exact ih _ xv (c + 1) Is2003 Fs2003 (by first | exact ⟨And.intro (hi.1.1) (hi.1.2), oq_54f49eb5 hi.2.1, oq_c2445583 g2001⟩ | omega) (by first | exact qk_me hm (by decide) (oq_33241a94 g2001) | omega) kx
  refine z_aload_n X (x := A 3) (show cdA 108 0 = some (.aload_n 0, 1, 0, 0, 0) from rfl) (List.Mem.head _) ?_
  refine s_getR X 3 (show cdA 108 1 = some (.getfield 18, 3, 9, 3, 0) from rfl) (by decide) rfl rfl ?_
  refine z_load_n X (x := x) (show cdA 108 4 = some (.iload_n 1, 1, 0, 0, 0) from rfl) (List.Mem.tail _ (List.Mem.head _)) ?_
  refine z_const X (show cdA 108 5 = some (.iconst 2, 1, 0, 0, 0) from rfl) ?_
  refine z_mul X (show cdA 108 6 = some (.imul, 1, 0, 0, 0) from rfl) ?_
  refine w_lconst X.1 (ax_d X (show cdA 108 7 = some (.lconst 0, 1, 0, 0, 0) from rfl)) rfl ?_
  refine z_anyJ (fun j1 => ?_)
  refine z_last X 6 (show cdA 108 8 = some (.lastore, 1, 0, 0, 0) from rfl) (by decide) rfl (by first | exact oq_cfc6ac54 p0.1 | omega) (show (x * 2) < 24 by first | exact oq_36c3846a p0.2 | omega) (by decide) ?_
  obtain ⟨s2, hs2⟩ : ∃ x0, x0 = uD s 3 ((x * 2)).toNat j1 := ⟨_, rfl⟩
  rw [← hs2]
  have Is2 : Bd s2 := by rw [hs2]; exact bd_D I
  have Fs2 : Fm [] [1003, 1004, 1005] s s2 := by rw [hs2]; exact fm_D F (show 3 + 1000 ∈ _ by decide)
  refine z_aload_n X (x := A 3) (show cdA 108 9 = some (.aload_n 0, 1, 0, 0, 0) from rfl) (List.Mem.head _) ?_
  refine s_getR X 3 (show cdA 108 10 = some (.getfield 18, 3, 9, 3, 0) from rfl) (by decide) rfl rfl ?_
  refine z_load_n X (x := x) (show cdA 108 13 = some (.iload_n 1, 1, 0, 0, 0) from rfl) (List.Mem.tail _ (List.Mem.head _)) ?_
  refine z_const X (show cdA 108 14 = some (.iconst 2, 1, 0, 0, 0) from rfl) ?_
  refine z_mul X (show cdA 108 15 = some (.imul, 1, 0, 0, 0) from rfl) ?_
  refine z_const X (show cdA 108 16 = some (.iconst 1, 1, 0, 0, 0) from rfl) ?_
  refine z_add X (show cdA 108 17 = some (.iadd, 1, 0, 0, 0) from rfl) ?_
  refine w_lconst X.1 (ax_d X (show cdA 108 18 = some (.lconst 0, 1, 0, 0, 0) from rfl)) rfl ?_
  refine z_anyJ (fun j3 => ?_)
  refine z_last X 6 (show cdA 108 19 = some (.lastore, 1, 0, 0, 0) from rfl) (by decide) rfl (by first | exact oq_8a3e0277 p0.1 | omega) (show ((x * 2) + 1) < 24 by first | exact oq_ad30b59c p0.2 | omega) (by decide) ?_
  obtain ⟨s4, hs4⟩ : ∃ x0, x0 = uD s2 3 (((x * 2) + 1)).toNat j3 := ⟨_, rfl⟩
  rw [← hs4]
  have Is4 : Bd s4 := by rw [hs4]; exact bd_D Is2
  have Fs4 : Fm [] [1003, 1004, 1005] s s4 := by rw [hs4]; exact fm_D Fs2 (show 3 + 1000 ∈ _ by decide)
  refine z_const X (show cdA 108 20 = some (.iconst 0, 1, 0, 0, 0) from rfl) ?_
  refine z_store_n X (lv' := [(2, .int (Int32.ofInt 0)), (0, .ref (A 3)), (1, .int (Int32.ofInt x))]) (show cdA 108 21 = some (.istore_n 2, 1, 0, 0, 0) from rfl) (by decide) (fun _ h => h) ?_
  refine WS_lv (lv := [(0, .ref (A 3)), (1, .int (Int32.ofInt x)), (2, .int (Int32.ofInt 0))]) (List.forall_mem_cons.mpr ⟨(List.Mem.tail _ (List.Mem.head _)), (List.forall_mem_cons.mpr ⟨(List.Mem.tail _ (List.Mem.tail _ (List.Mem.head _))), (List.forall_mem_cons.mpr ⟨(List.Mem.head _), (fun q h => absurd h List.not_mem_nil)⟩)⟩)⟩) ?_
  refine L22 ((14 - 0 : Int).toNat + 1) s4 x 0 Is4 Fs4 (by first | exact ⟨And.intro (p0.1) (p0.2), by decide, by decide⟩ | omega) (Nat.lt_succ_self _) ?_
  intro s5 x6 Is5 Fs5 hs5
  refine z_const X (show cdA 108 48 = some (.iconst 0, 1, 0, 0, 0) from rfl) ?_
  refine z_store_n X (lv' := [(2, .int (Int32.ofInt 0)), (0, .ref (A 3)), (1, .int (Int32.ofInt x))]) (show cdA 108 49 = some (.istore_n 2, 1, 0, 0, 0) from rfl) (by decide) (fun _ h => h) ?_
  refine WS_lv (lv := [(0, .ref (A 3)), (1, .int (Int32.ofInt x)), (2, .int (Int32.ofInt 0))]) (List.forall_mem_cons.mpr ⟨(List.Mem.tail _ (List.Mem.head _)), (List.forall_mem_cons.mpr ⟨(List.Mem.tail _ (List.Mem.tail _ (List.Mem.head _))), (List.forall_mem_cons.mpr ⟨(List.Mem.head _), (fun q h => absurd h List.not_mem_nil)⟩)⟩)⟩) ?_
  refine L50 ((5 - 0 : Int).toNat + 1) s5 x 0 Is5 Fs5 (by first | exact ⟨And.intro (hs5.1.1) (hs5.1.2), by decide, by decide⟩ | omega) (Nat.lt_succ_self _) ?_
  intro s7 x8 Is7 Fs7 hs7
  exact w_vret X.1 q hRt (ax_d X (show cdA 108 72 = some (.return_, 1, 0, 0, 0) from rfl)) (Nat.zero_le _) (Nat.zero_le _) ⟨_, rfl, Is7, Fs7, rfl, trivial⟩
set_option maxRecDepth 4000 in
theorem c9_setStep_3 (G : GX l s0 D tys a0 dT) (I : Bd s) {x y z : Int} (p0 : 0 ≤ x ∧ x ≤ 11) (p1 : 0 ≤ y ∧ y ≤ 127) (p2 : 0 ≤ z ∧ z ≤ 5) : CT l s0 D A dT 109 (rmN 109) [.ref (A 3), .int (Int32.ofInt x), .int (Int32.ofInt y), .int (Int32.ofInt z)] s (fun o t => Bd t ∧ Fm [] [1005] s t ∧ o = .inl none ∧ (True)) := by
  refine ct_ofX G (by decide) (Nat.le_of_ble_eq_true rfl) (fun k X E ET hRt hXt q => ?_)
  show WS k 0 [(0, .ref (A 3)), (1, .int (Int32.ofInt x)), (2, .int (Int32.ofInt y)), (3, .int (Int32.ofInt z))] [] _ 0 0
  have F : Fm [] [1005] s s := fm_rf _ _ s
  refine z_load_n X (x := z) (show cdA 109 0 = some (.iload_n 3, 1, 0, 0, 0) from rfl) (List.Mem.tail _ (List.Mem.tail _ (List.Mem.tail _ (List.Mem.head _)))) ?_
  refine z_const X (show cdA 109 1 = some (.iconst 4, 1, 0, 0, 0) from rfl) ?_
  refine z_icmp_lt X (t := 9) (show cdA 109 2 = some (.if_icmp .lt 7, 3, 2, 0, 0) from rfl) (by decide) ⟨by first | exact oq_fa4e5087 p2.1 | omega, by first | exact oq_a3dd55e5 p2.2 | omega⟩ (by decide) (fun g1 => ?_) (fun g1 => ?_)
  ·
    refine z_load_n X (x := z) (show cdA 109 9 = some (.iload_n 3, 1, 0, 0, 0) from rfl) (List.Mem.tail _ (List.Mem.tail _ (List.Mem.tail _ (List.Mem.head _)))) ?_
    refine z_const X (show cdA 109 10 = some (.iconst 2, 1, 0, 0, 0) from rfl) ?_
    refine z_quot X (show cdA 109 11 = some (.idiv, 1, 0, 0, 0) from rfl) (by first | exact p2.1 | omega) ⟨by first | exact oq_fa4e5087 p2.1 | omega, by first | exact oq_f46e1d28 g1 | omega⟩ (by decide) (by decide) ?_
    refine z_const X (show cdA 109 12 = some (.iconst 2, 1, 0, 0, 0) from rfl) ?_
    refine z_mul X (show cdA 109 13 = some (.imul, 1, 0, 0, 0) from rfl) ?_
    refine z_load_n X (x := y) (show cdA 109 14 = some (.iload_n 2, 1, 0, 0, 0) from rfl) (List.Mem.tail _ (List.Mem.tail _ (List.Mem.head _))) ?_
    refine z_bipush X (show cdA 109 15 = some (.bipush 64, 2, 0, 0, 64) from rfl) ?_
    refine z_quot X (show cdA 109 17 = some (.idiv, 1, 0, 0, 0) from rfl) (by first | exact p1.1 | omega) ⟨by first | exact oq_fa4e5087 p1.1 | omega, by first | exact oq_07d346ce p1.2 | omega⟩ (by decide) (by decide) ?_
    refine z_add X (show cdA 109 18 = some (.iadd, 1, 0, 0, 0) from rfl) ?_
    refine z_store X (lv' := [(4, .int (Int32.ofInt (((z / 2) * 2) + (y / 64)))), (0, .ref (A 3)), (1, .int (Int32.ofInt x)), (2, .int (Int32.ofInt y)), (3, .int (Int32.ofInt z))]) (show cdA 109 19 = some (.istore 4, 2, 0, 0, 0) from rfl) (by decide) (fun _ h => h) ?_
    refine z_aload_n X (x := A 3) (show cdA 109 21 = some (.aload_n 0, 1, 0, 0, 0) from rfl) (List.Mem.tail _ (List.Mem.head _)) ?_
    refine s_getR X 3 (show cdA 109 22 = some (.getfield 25, 3, 9, 5, 0) from rfl) (by decide) rfl rfl ?_
    refine z_load_n X (x := x) (show cdA 109 25 = some (.iload_n 1, 1, 0, 0, 0) from rfl) (List.Mem.tail _ (List.Mem.tail _ (List.Mem.head _))) ?_
    refine z_const X (show cdA 109 26 = some (.iconst 5, 1, 0, 0, 0) from rfl) ?_
    refine z_mul X (show cdA 109 27 = some (.imul, 1, 0, 0, 0) from rfl) ?_
    refine z_load X (x := (((z / 2) * 2) + (y / 64))) (show cdA 109 28 = some (.iload 4, 2, 0, 0, 0) from rfl) (List.Mem.head _) ?_
    refine z_add X (show cdA 109 30 = some (.iadd, 1, 0, 0, 0) from rfl) ?_
    refine w_dup2_11 X.1 (ax_d X (show cdA 109 31 = some (.dup2, 1, 0, 0, 0) from rfl)) rfl rfl ?_
    refine z_lald X 8 (show cdA 109 32 = some (.laload, 1, 0, 0, 0) from rfl) (by decide) rfl (by omega) (show ((x * 5) + (((z / 2) * 2) + (y / 64))) < 60 by first | exact oq_87ebc822 g1 p1.2 p0.2 | omega) (by decide) (fun j2 => ?_)
    refine w_lconst X.1 (ax_d X (show cdA 109 33 = some (.lconst 1, 1, 0, 0, 0) from rfl)) rfl ?_
    refine z_anyJ (fun j3 => ?_)
    refine z_load_n X (x := y) (show cdA 109 34 = some (.iload_n 2, 1, 0, 0, 0) from rfl) (List.Mem.tail _ (List.Mem.tail _ (List.Mem.tail _ (List.Mem.head _)))) ?_
    refine z_bipush X (show cdA 109 35 = some (.bipush 63, 2, 0, 0, 63) from rfl) ?_
    refine z_andm X (show cdA 109 37 = some (.iand, 1, 0, 0, 0) from rfl) (by decide) (by decide) (fun y4 hy4 gy4 => ?_)
    refine w_lshl X.1 (ax_d X (show cdA 109 38 = some (.lshl, 1, 0, 0, 0) from rfl)) ?_
    refine z_anyJ (fun j5 => ?_)
    refine w_lor X.1 (ax_d X (show cdA 109 39 = some (.lor, 1, 0, 0, 0) from rfl)) ?_
    refine z_anyJ (fun j6 => ?_)
    refine z_last X 8 (show cdA 109 40 = some (.lastore, 1, 0, 0, 0) from rfl) (by decide) rfl (by omega) (show ((x * 5) + (((z / 2) * 2) + (y / 64))) < 60 by first | exact oq_87ebc822 g1 p1.2 p0.2 | omega) (by decide) ?_
    obtain ⟨s7, hs7⟩ : ∃ x0, x0 = uD s 5 (((x * 5) + (((z / 2) * 2) + (y / 64)))).toNat j6 := ⟨_, rfl⟩
    rw [← hs7]
    have Is7 : Bd s7 := by rw [hs7]; exact bd_D I
    have Fs7 : Fm [] [1005] s s7 := by rw [hs7]; exact fm_D F (show 5 + 1000 ∈ _ by decide)
    exact w_vret X.1 q hRt (ax_d X (show cdA 109 41 = some (.return_, 1, 0, 0, 0) from rfl)) (Nat.zero_le _) (Nat.zero_le _) ⟨_, rfl, Is7, Fs7, rfl, trivial⟩
  ·
    refine z_const X (show cdA 109 5 = some (.iconst 4, 1, 0, 0, 0) from rfl) ?_
    refine z_goto X (t := 19) (show cdA 109 6 = some (.goto 13, 3, 0, 0, 0) from rfl) (by decide) ?_
    refine z_store X (lv' := [(4, .int (Int32.ofInt 4)), (0, .ref (A 3)), (1, .int (Int32.ofInt x)), (2, .int (Int32.ofInt y)), (3, .int (Int32.ofInt z))]) (show cdA 109 19 = some (.istore 4, 2, 0, 0, 0) from rfl) (by decide) (fun _ h => h) ?_
    refine z_aload_n X (x := A 3) (show cdA 109 21 = some (.aload_n 0, 1, 0, 0, 0) from rfl) (List.Mem.tail _ (List.Mem.head _)) ?_
    refine s_getR X 3 (show cdA 109 22 = some (.getfield 25, 3, 9, 5, 0) from rfl) (by decide) rfl rfl ?_
    refine z_load_n X (x := x) (show cdA 109 25 = some (.iload_n 1, 1, 0, 0, 0) from rfl) (List.Mem.tail _ (List.Mem.tail _ (List.Mem.head _))) ?_
    refine z_const X (show cdA 109 26 = some (.iconst 5, 1, 0, 0, 0) from rfl) ?_
    refine z_mul X (show cdA 109 27 = some (.imul, 1, 0, 0, 0) from rfl) ?_
    refine z_load X (x := 4) (show cdA 109 28 = some (.iload 4, 2, 0, 0, 0) from rfl) (List.Mem.head _) ?_
    refine z_add X (show cdA 109 30 = some (.iadd, 1, 0, 0, 0) from rfl) ?_
    refine w_dup2_11 X.1 (ax_d X (show cdA 109 31 = some (.dup2, 1, 0, 0, 0) from rfl)) rfl rfl ?_
    refine z_lald X 8 (show cdA 109 32 = some (.laload, 1, 0, 0, 0) from rfl) (by decide) rfl (by first | exact oq_733cd31a p0.1 | omega) (show ((x * 5) + 4) < 60 by first | exact oq_23e13238 p0.2 | omega) (by decide) (fun j8 => ?_)
    refine w_lconst X.1 (ax_d X (show cdA 109 33 = some (.lconst 1, 1, 0, 0, 0) from rfl)) rfl ?_
    refine z_anyJ (fun j9 => ?_)
    refine z_load_n X (x := y) (show cdA 109 34 = some (.iload_n 2, 1, 0, 0, 0) from rfl) (List.Mem.tail _ (List.Mem.tail _ (List.Mem.tail _ (List.Mem.head _)))) ?_
    refine z_bipush X (show cdA 109 35 = some (.bipush 63, 2, 0, 0, 63) from rfl) ?_
    refine z_andm X (show cdA 109 37 = some (.iand, 1, 0, 0, 0) from rfl) (by decide) (by decide) (fun y10 hy10 gy10 => ?_)
    refine w_lshl X.1 (ax_d X (show cdA 109 38 = some (.lshl, 1, 0, 0, 0) from rfl)) ?_
    refine z_anyJ (fun j11 => ?_)
    refine w_lor X.1 (ax_d X (show cdA 109 39 = some (.lor, 1, 0, 0, 0) from rfl)) ?_
    refine z_anyJ (fun j12 => ?_)
    refine z_last X 8 (show cdA 109 40 = some (.lastore, 1, 0, 0, 0) from rfl) (by decide) rfl (by first | exact oq_733cd31a p0.1 | omega) (show ((x * 5) + 4) < 60 by first | exact oq_23e13238 p0.2 | omega) (by decide) ?_
    obtain ⟨s13, hs13⟩ : ∃ x0, x0 = uD s 5 (((x * 5) + 4)).toNat j12 := ⟨_, rfl⟩
    rw [← hs13]
    have Is13 : Bd s13 := by rw [hs13]; exact bd_D I
    have Fs13 : Fm [] [1005] s s13 := by rw [hs13]; exact fm_D F (show 5 + 1000 ∈ _ by decide)
    exact w_vret X.1 q hRt (ax_d X (show cdA 109 41 = some (.return_, 1, 0, 0, 0) from rfl)) (Nat.zero_le _) (Nat.zero_le _) ⟨_, rfl, Is13, Fs13, rfl, trivial⟩
set_option maxRecDepth 4000 in
theorem c9_setWay_3_18 (G : GX l s0 D tys a0 dT) (I : Bd s) {x z w : Int} (p0 : 0 ≤ x ∧ x ≤ 11) (p1 : 0 ≤ w ∧ w ≤ 24) (p2 : 0 ≤ z ∧ z + w ≤ 24) : CT l s0 D A dT 107 (rmN 107) [.ref (A 3), .int (Int32.ofInt x), .ref (A 18), .int (Int32.ofInt z), .int (Int32.ofInt w)] s (fun o t => Bd t ∧ Fm [] [1, 2, 1003, 1004, 1005] s t ∧ o = .inl none ∧ (True)) := by
  refine ct_ofX G (by decide) (Nat.le_of_ble_eq_true rfl) (fun k X E ET hRt hXt q => ?_)
  show WS k 0 [(0, .ref (A 3)), (1, .int (Int32.ofInt x)), (2, .ref (A 18)), (3, .int (Int32.ofInt z)), (4, .int (Int32.ofInt w))] [] _ 0 0
  have F : Fm [] [1, 2, 1003, 1004, 1005] s s := fm_rf _ _ s
  have L35 : ∀ (n : Nat) (t : PS) (xv zv wv go c : Int), Bd t → Fm [] [1, 2, 1003, 1004, 1005] s t → ((0 ≤ xv ∧ xv ≤ 11) ∧ (0 ≤ wv ∧ wv ≤ 24) ∧ (0 ≤ zv ∧ zv + wv ≤ 24) ∧ (0 ≤ go ∧ go ≤ 6) ∧ 0 ≤ c ∧ c ≤ 24) → (24 - c : Int).toNat < n → (∀ (t' : PS) (go' c' : Int), Bd t' → Fm [] [1, 2, 1003, 1004, 1005] s t' → ((0 ≤ xv ∧ xv ≤ 11) ∧ (0 ≤ wv ∧ wv ≤ 24) ∧ (0 ≤ zv ∧ zv + wv ≤ 24) ∧ (0 ≤ go' ∧ go' ≤ 6) ∧ 0 ≤ c' ∧ c' ≤ 24) → WS k 153 [(0, .ref (A 3)), (2, .ref (A 18)), (1, .int (Int32.ofInt xv)), (3, .int (Int32.ofInt zv)), (4, .int (Int32.ofInt wv)), (5, .int (Int32.ofInt go')), (6, .int (Int32.ofInt c'))] [] (Wd A dT t') 0 0) → WS k 35 [(0, .ref (A 3)), (2, .ref (A 18)), (1, .int (Int32.ofInt xv)), (3, .int (Int32.ofInt zv)), (4, .int (Int32.ofInt wv)), (5, .int (Int32.ofInt go)), (6, .int (Int32.ofInt c))] [] (Wd A dT t) 0 0 := by
    intro n
    induction n with
    | zero =>
      intro t xv zv wv go c I F hi hm kx
      exact absurd hm (Nat.not_lt_zero _)
    | succ n ih =>
      intro t xv zv wv go c I F hi hm kx
      refine z_load X (x := c) (show cdA 107 35 = some (.iload 6, 2, 0, 0, 0) from rfl) (List.Mem.tail _ (List.Mem.tail _ (List.Mem.tail _ (List.Mem.tail _ (List.Mem.tail _ (List.Mem.tail _ (List.Mem.head _))))))) ?_
      refine z_load X (x := wv) (show cdA 107 37 = some (.iload 4, 2, 0, 0, 0) from rfl) (List.Mem.tail _ (List.Mem.tail _ (List.Mem.tail _ (List.Mem.tail _ (List.Mem.head _))))) ?_
      refine z_icmp_ge X (t := 153) (show cdA 107 39 = some (.if_icmp .ge 114, 3, 3, 0, 0) from rfl) (by decide) ⟨by first | exact oq_fa4e5087 hi.2.2.2.2.1 | omega, by first | exact oq_5bcd337f hi.2.2.2.2.2 | omega⟩ ⟨by first | exact oq_fa4e5087 hi.2.1.1 | omega, by first | exact oq_5bcd337f hi.2.1.2 | omega⟩ (fun g1001 => ?_) (fun g1001 => ?_)
      ·
        refine WS_lv (lv := [(0, .ref (A 3)), (2, .ref (A 18)), (1, .int (Int32.ofInt xv)), (3, .int (Int32.ofInt zv)), (4, .int (Int32.ofInt wv)), (5, .int (Int32.ofInt go)), (6, .int (Int32.ofInt c))]) (List.forall_mem_cons.mpr ⟨(List.Mem.head _), (List.forall_mem_cons.mpr ⟨(List.Mem.tail _ (List.Mem.head _)), (List.forall_mem_cons.mpr ⟨(List.Mem.tail _ (List.Mem.tail _ (List.Mem.head _))), (List.forall_mem_cons.mpr ⟨(List.Mem.tail _ (List.Mem.tail _ (List.Mem.tail _ (List.Mem.head _)))), (List.forall_mem_cons.mpr ⟨(List.Mem.tail _ (List.Mem.tail _ (List.Mem.tail _ (List.Mem.tail _ (List.Mem.head _))))), (List.forall_mem_cons.mpr ⟨(List.Mem.tail _ (List.Mem.tail _ (List.Mem.tail _ (List.Mem.tail _ (List.Mem.tail _ (List.Mem.head _)))))), (List.forall_mem_cons.mpr ⟨(List.Mem.tail _ (List.Mem.tail _ (List.Mem.tail _ (List.Mem.tail _ (List.Mem.tail _ (List.Mem.tail _ (List.Mem.head _))))))), (fun q h => absurd h List.not_mem_nil)⟩)⟩)⟩)⟩)⟩)⟩)⟩) ?_
        exact kx _ go c I F (by first | exact ⟨And.intro (hi.1.1) (hi.1.2), And.intro (hi.2.1.1) (hi.2.1.2), And.intro (hi.2.2.1.1) (hi.2.2.1.2), And.intro (hi.2.2.2.1.1) (hi.2.2.2.1.2), hi.2.2.2.2.1, hi.2.2.2.2.2⟩ | omega)
      ·
        refine z_aload_n X (x := A 18) (show cdA 107 42 = some (.aload_n 2, 1, 0, 0, 0) from rfl) (List.Mem.tail _ (List.Mem.head _)) ?_
        refine z_load_n X (x := zv) (show cdA 107 43 = some (.iload_n 3, 1, 0, 0, 0) from rfl) (List.Mem.tail _ (List.Mem.tail _ (List.Mem.tail _ (List.Mem.head _)))) ?_
        refine z_load X (x := c) (show cdA 107 44 = some (.iload 6, 2, 0, 0, 0) from rfl) (List.Mem.tail _ (List.Mem.tail _ (List.Mem.tail _ (List.Mem.tail _ (List.Mem.tail _ (List.Mem.tail _ (List.Mem.head _))))))) ?_
        refine z_add X (show cdA 107 46 = some (.iadd, 1, 0, 0, 0) from rfl) ?_
        refine z_ald X 18 (show cdA 107 47 = some (.iaload, 1, 0, 0, 0) from rfl) (by decide) rfl (by first | exact oq_dd29f52d hi.2.2.1.1 hi.2.2.2.2.1 | omega) (show (zv + c) < 24 by first | exact oq_de70c7d8 hi.2.2.1.2 g1001 | omega) (by decide) ?_
        have b1002 : (0 : Int) ≤ iC t 15 ((zv + c)).toNat ∧ iC t 15 ((zv + c)).toNat ≤ 127 := I.2 15 _ (show ((zv + c)).toNat < 24 by first | exact oq_ff24e3f1 hi.2.2.1.2 g1001 | omega)
        refine z_store X (lv' := [(7, .int (Int32.ofInt (iC t 15 ((zv + c)).toNat))), (0, .ref (A 3)), (2, .ref (A 18)), (1, .int (Int32.ofInt xv)), (3, .int (Int32.ofInt zv)), (4, .int (Int32.ofInt wv)), (5, .int (Int32.ofInt go)), (6, .int (Int32.ofInt c))]) (show cdA 107 48 = some (.istore 7, 2, 0, 0, 0) from rfl) (by decide) (fun _ h => h) ?_
        refine z_load X (x := c) (show cdA 107 50 = some (.iload 6, 2, 0, 0, 0) from rfl) (List.Mem.tail _ (List.Mem.tail _ (List.Mem.tail _ (List.Mem.tail _ (List.Mem.tail _ (List.Mem.tail _ (List.Mem.tail _ (List.Mem.head _)))))))) ?_
        refine z_const X (show cdA 107 52 = some (.iconst 1, 1, 0, 0, 0) from rfl) ?_
        refine z_add X (show cdA 107 53 = some (.iadd, 1, 0, 0, 0) from rfl) ?_
        refine z_load X (x := wv) (show cdA 107 54 = some (.iload 4, 2, 0, 0, 0) from rfl) (List.Mem.tail _ (List.Mem.tail _ (List.Mem.tail _ (List.Mem.tail _ (List.Mem.tail _ (List.Mem.head _)))))) ?_
        refine z_icmp_ge X (t := 94) (show cdA 107 56 = some (.if_icmp .ge 38, 3, 3, 0, 0) from rfl) (by decide) ⟨by first | exact oq_74de1e16 hi.2.2.2.2.1 | omega, by first | exact oq_3a454424 hi.2.2.2.2.2 | omega⟩ ⟨by first | exact oq_fa4e5087 hi.2.1.1 | omega, by first | exact oq_5bcd337f hi.2.1.2 | omega⟩ (fun g1003 => ?_) (fun g1003 => ?_)
        ·
          refine w_lconst X.1 (ax_d X (show cdA 107 94 = some (.lconst 1, 1, 0, 0, 0) from rfl)) rfl ?_
          refine z_anyJ (fun j1004 => ?_)
          refine z_load X (x := (iC t 15 ((zv + c)).toNat)) (show cdA 107 95 = some (.iload 7, 2, 0, 0, 0) from rfl) (List.Mem.head _) ?_
          refine z_bipush X (show cdA 107 97 = some (.bipush 63, 2, 0, 0, 63) from rfl) ?_
          refine z_andm X (show cdA 107 99 = some (.iand, 1, 0, 0, 0) from rfl) (by decide) (by decide) (fun y1005 hy1005 gy1005 => ?_)
          refine w_lshl X.1 (ax_d X (show cdA 107 100 = some (.lshl, 1, 0, 0, 0) from rfl)) ?_
          refine z_anyJ (fun j1006 => ?_)
          refine w_lstore X.1 (lv' := [(8, .long j1006), (7, .int (Int32.ofInt (iC t 15 ((zv + c)).toNat))), (0, .ref (A 3)), (2, .ref (A 18)), (1, .int (Int32.ofInt xv)), (3, .int (Int32.ofInt zv)), (4, .int (Int32.ofInt wv)), (5, .int (Int32.ofInt go)), (6, .int (Int32.ofInt c))]) (ax_d X (show cdA 107 101 = some (.lstore 8, 2, 0, 0, 0) from rfl)) (by rw [X.2.1.2.2]; decide) (fun _ h => h) ?_
          refine z_aload_n X (x := A 3) (show cdA 107 103 = some (.aload_n 0, 1, 0, 0, 0) from rfl) (List.Mem.tail _ (List.Mem.tail _ (List.Mem.head _))) ?_
          refine s_getR X 3 (show cdA 107 104 = some (.getfield 18, 3, 9, 3, 0) from rfl) (by decide) rfl rfl ?_
          refine z_load_n X (x := xv) (show cdA 107 107 = some (.iload_n 1, 1, 0, 0, 0) from rfl) (List.Mem.tail _ (List.Mem.tail _ (List.Mem.tail _ (List.Mem.tail _ (List.Mem.head _))))) ?_
          refine z_const X (show cdA 107 108 = some (.iconst 2, 1, 0, 0, 0) from rfl) ?_
          refine z_mul X (show cdA 107 109 = some (.imul, 1, 0, 0, 0) from rfl) ?_
          refine z_load X (x := (iC t 15 ((zv + c)).toNat)) (show cdA 107 110 = some (.iload 7, 2, 0, 0, 0) from rfl) (List.Mem.tail _ (List.Mem.head _)) ?_
          refine z_bipush X (show cdA 107 112 = some (.bipush 64, 2, 0, 0, 64) from rfl) ?_
          refine z_quot X (show cdA 107 114 = some (.idiv, 1, 0, 0, 0) from rfl) (by first | exact b1002.1 | omega) (rng_to _) (by decide) (by decide) ?_
          refine z_add X (show cdA 107 115 = some (.iadd, 1, 0, 0, 0) from rfl) ?_
          refine w_dup2_11 X.1 (ax_d X (show cdA 107 116 = some (.dup2, 1, 0, 0, 0) from rfl)) rfl rfl ?_
          refine z_lald X 6 (show cdA 107 117 = some (.laload, 1, 0, 0, 0) from rfl) (by decide) rfl (by first | exact oq_c0bd8137 b1002.1 hi.1.1 | omega) (show ((xv * 2) + ((iC t 15 ((zv + c)).toNat) / 64)) < 24 by first | exact oq_c80b6473 b1002.2 hi.1.2 | omega) (by decide) (fun j1007 => ?_)
          refine w_lload X.1 (ax_d X (show cdA 107 118 = some (.lload 8, 2, 0, 0, 0) from rfl)) (x := j1006) (List.Mem.head _) ?_
          refine w_lor X.1 (ax_d X (show cdA 107 120 = some (.lor, 1, 0, 0, 0) from rfl)) ?_
          refine z_anyJ (fun j1008 => ?_)
          refine z_last X 6 (show cdA 107 121 = some (.lastore, 1, 0, 0, 0) from rfl) (by decide) rfl (by first | exact oq_c0bd8137 b1002.1 hi.1.1 | omega) (show ((xv * 2) + ((iC t 15 ((zv + c)).toNat) / 64)) < 24 by first | exact oq_c80b6473 b1002.2 hi.1.2 | omega) (by decide) ?_
          obtain ⟨s1009, hs1009⟩ : ∃ x0, x0 = uD t 3 (((xv * 2) + ((iC t 15 ((zv + c)).toNat) / 64))).toNat j1008 := ⟨_, rfl⟩
          rw [← hs1009]
          have Is1009 : Bd s1009 := by rw [hs1009]; exact bd_D I
          have Fs1009 : Fm [] [1, 2, 1003, 1004, 1005] s s1009 := by rw [hs1009]; exact fm_D F (show 3 + 1000 ∈ _ by decide)
          refine z_aload_n X (x := A 3) (show cdA 107 122 = some (.aload_n 0, 1, 0, 0, 0) from rfl) (List.Mem.tail _ (List.Mem.tail _ (List.Mem.head _))) ?_
          refine s_getR X 3 (show cdA 107 123 = some (.getfield 22, 3, 9, 4, 0) from rfl) (by decide) rfl rfl ?_
          refine z_load_n X (x := xv) (show cdA 107 126 = some (.iload_n 1, 1, 0, 0, 0) from rfl) (List.Mem.tail _ (List.Mem.tail _ (List.Mem.tail _ (List.Mem.tail _ (List.Mem.head _))))) ?_
          refine z_bipush X (show cdA 107 127 = some (.bipush 7, 2, 0, 0, 7) from rfl) ?_
          refine z_mul X (show cdA 107 129 = some (.imul, 1, 0, 0, 0) from rfl) ?_
          refine z_load X (x := go) (show cdA 107 130 = some (.iload 5, 2, 0, 0, 0) from rfl) (List.Mem.tail _ (List.Mem.tail _ (List.Mem.tail _ (List.Mem.tail _ (List.Mem.tail _ (List.Mem.tail _ (List.Mem.tail _ (List.Mem.head _)))))))) ?_
          refine z_add X (show cdA 107 132 = some (.iadd, 1, 0, 0, 0) from rfl) ?_
          refine z_const X (show cdA 107 133 = some (.iconst 2, 1, 0, 0, 0) from rfl) ?_
          refine z_mul X (show cdA 107 134 = some (.imul, 1, 0, 0, 0) from rfl) ?_
          refine z_load X (x := (iC t 15 ((zv + c)).toNat)) (show cdA 107 135 = some (.iload 7, 2, 0, 0, 0) from rfl) (List.Mem.tail _ (List.Mem.head _)) ?_
          refine z_bipush X (show cdA 107 137 = some (.bipush 64, 2, 0, 0, 64) from rfl) ?_
          refine z_quot X (show cdA 107 139 = some (.idiv, 1, 0, 0, 0) from rfl) (by first | exact b1002.1 | omega) (rng_to _) (by decide) (by decide) ?_
          refine z_add X (show cdA 107 140 = some (.iadd, 1, 0, 0, 0) from rfl) ?_
          refine w_dup2_11 X.1 (ax_d X (show cdA 107 141 = some (.dup2, 1, 0, 0, 0) from rfl)) rfl rfl ?_
          refine z_lald X 7 (show cdA 107 142 = some (.laload, 1, 0, 0, 0) from rfl) (by decide) rfl (by first | exact oq_ea32c91a b1002.1 hi.2.2.2.1.1 hi.1.1 | omega) (show ((((xv * 7) + go) * 2) + ((iC t 15 ((zv + c)).toNat) / 64)) < 168 by first | exact oq_5da8d824 b1002.2 hi.2.2.2.1.2 hi.1.2 | omega) (by decide) (fun j1010 => ?_)
          refine w_lload X.1 (ax_d X (show cdA 107 143 = some (.lload 8, 2, 0, 0, 0) from rfl)) (x := j1006) (List.Mem.head _) ?_
          refine w_lor X.1 (ax_d X (show cdA 107 145 = some (.lor, 1, 0, 0, 0) from rfl)) ?_
          refine z_anyJ (fun j1011 => ?_)
          refine z_last X 7 (show cdA 107 146 = some (.lastore, 1, 0, 0, 0) from rfl) (by decide) rfl (by first | exact oq_ea32c91a b1002.1 hi.2.2.2.1.1 hi.1.1 | omega) (show ((((xv * 7) + go) * 2) + ((iC t 15 ((zv + c)).toNat) / 64)) < 168 by first | exact oq_5da8d824 b1002.2 hi.2.2.2.1.2 hi.1.2 | omega) (by decide) ?_
          obtain ⟨s1012, hs1012⟩ : ∃ x0, x0 = uD s1009 4 (((((xv * 7) + go) * 2) + ((iC t 15 ((zv + c)).toNat) / 64))).toNat j1011 := ⟨_, rfl⟩
          rw [← hs1012]
          have Is1012 : Bd s1012 := by rw [hs1012]; exact bd_D Is1009
          have Fs1012 : Fm [] [1, 2, 1003, 1004, 1005] s s1012 := by rw [hs1012]; exact fm_D Fs1009 (show 4 + 1000 ∈ _ by decide)
          refine z_inc X (x := c) (lv' := [(6, .int (Int32.ofInt (c + 1))), (8, .long j1006), (7, .int (Int32.ofInt (iC t 15 ((zv + c)).toNat))), (0, .ref (A 3)), (2, .ref (A 18)), (1, .int (Int32.ofInt xv)), (3, .int (Int32.ofInt zv)), (4, .int (Int32.ofInt wv)), (5, .int (Int32.ofInt go))]) (show cdA 107 147 = some (.iinc 6 1, 3, 0, 0, 0) from rfl) (by decide) (List.Mem.tail _ (List.Mem.tail _ (List.Mem.tail _ (List.Mem.tail _ (List.Mem.tail _ (List.Mem.tail _ (List.Mem.tail _ (List.Mem.tail _ (List.Mem.head _))))))))) (fun _ h => h) ?_
          refine z_goto X (t := 35) (show cdA 107 150 = some (.goto (-115), 3, 0, 0, 0) from rfl) (by decide) ?_
          refine WS_lv (lv := [(0, .ref (A 3)), (2, .ref (A 18)), (1, .int (Int32.ofInt xv)), (3, .int (Int32.ofInt zv)), (4, .int (Int32.ofInt wv)), (5, .int (Int32.ofInt go)), (6, .int (Int32.ofInt (c + 1)))]) (List.forall_mem_cons.mpr ⟨(List.Mem.tail _ (List.Mem.tail _ (List.Mem.tail _ (List.Mem.head _)))), (List.forall_mem_cons.mpr ⟨(List.Mem.tail _ (List.Mem.tail _ (List.Mem.tail _ (List.Mem.tail _ (List.Mem.head _))))), (List.forall_mem_cons.mpr ⟨(List.Mem.tail _ (List.Mem.tail _ (List.Mem.tail _ (List.Mem.tail _ (List.Mem.tail _ (List.Mem.head _)))))), (List.forall_mem_cons.mpr ⟨(List.Mem.tail _ (List.Mem.tail _ (List.Mem.tail _ (List.Mem.tail _ (List.Mem.tail _ (List.Mem.tail _ (List.Mem.head _))))))), (List.forall_mem_cons.mpr ⟨(List.Mem.tail _ (List.Mem.tail _ (List.Mem.tail _ (List.Mem.tail _ (List.Mem.tail _ (List.Mem.tail _ (List.Mem.tail _ (List.Mem.head _)))))))), (List.forall_mem_cons.mpr ⟨(List.Mem.tail _ (List.Mem.tail _ (List.Mem.tail _ (List.Mem.tail _ (List.Mem.tail _ (List.Mem.tail _ (List.Mem.tail _ (List.Mem.tail _ (List.Mem.head _))))))))), (List.forall_mem_cons.mpr ⟨(List.Mem.head _), (fun q h => absurd h List.not_mem_nil)⟩)⟩)⟩)⟩)⟩)⟩)⟩) ?_
          exact ih _ xv zv wv go (c + 1) Is1012 Fs1012 (by first | exact ⟨And.intro (hi.1.1) (hi.1.2), And.intro (hi.2.1.1) (hi.2.1.2), And.intro (hi.2.2.1.1) (hi.2.2.1.2), And.intro (hi.2.2.2.1.1) (hi.2.2.2.1.2), oq_54f49eb5 hi.2.2.2.2.1, oq_41473be0 g1001 hi.2.1.2⟩ | omega) (by first | exact qk_me hm (by decide) (oq_9dea93e6 g1001 hi.2.1.2) | omega) kx
        ·
          refine z_load X (x := (iC t 15 ((zv + c)).toNat)) (show cdA 107 59 = some (.iload 7, 2, 0, 0, 0) from rfl) (List.Mem.head _) ?_
          refine z_aload_n X (x := A 18) (show cdA 107 61 = some (.aload_n 2, 1, 0, 0, 0) from rfl) (List.Mem.tail _ (List.Mem.tail _ (List.Mem.head _))) ?_
          refine z_load_n X (x := zv) (show cdA 107 62 = some (.iload_n 3, 1, 0, 0, 0) from rfl) (List.Mem.tail _ (List.Mem.tail _ (List.Mem.tail _ (List.Mem.tail _ (List.Mem.head _))))) ?_
          refine z_load X (x := c) (show cdA 107 63 = some (.iload 6, 2, 0, 0, 0) from rfl) (List.Mem.tail _ (List.Mem.tail _ (List.Mem.tail _ (List.Mem.tail _ (List.Mem.tail _ (List.Mem.tail _ (List.Mem.tail _ (List.Mem.head _)))))))) ?_
          refine z_add X (show cdA 107 65 = some (.iadd, 1, 0, 0, 0) from rfl) ?_
          refine z_const X (show cdA 107 66 = some (.iconst 1, 1, 0, 0, 0) from rfl) ?_
          refine z_add X (show cdA 107 67 = some (.iadd, 1, 0, 0, 0) from rfl) ?_
          refine z_ald X 18 (show cdA 107 68 = some (.iaload, 1, 0, 0, 0) from rfl) (by decide) rfl (by first | exact oq_21f9cd09 hi.2.2.1.1 hi.2.2.2.2.1 | omega) (show ((zv + c) + 1) < 24 by first | exact oq_c07d830a hi.2.2.1.2 g1003 | omega) (by decide) ?_
          have b1013 : (0 : Int) ≤ iC t 15 (((zv + c) + 1)).toNat ∧ iC t 15 (((zv + c) + 1)).toNat ≤ 127 := I.2 15 _ (show (((zv + c) + 1)).toNat < 24 by first | exact oq_136cae15 hi.2.2.1.2 g1003 | omega)
          refine z_callS X (rm := rmN 102) (As := [.int (Int32.ofInt (iC t 15 ((zv + c)).toNat)), .int (Int32.ofInt (iC t 15 (((zv + c) + 1)).toNat))]) (st := []) (show cdA 107 69 = some (.invokestatic 119, 3, 102, 1, 0) from rfl) rfl (by rw [E.1, E.2.1, E.2.2.1]; exact c9_goBetween G I (by first | exact ⟨b1002.1, b1002.2⟩ | omega) (by first | exact ⟨b1013.1, b1013.2⟩ | omega)) ⟨by rw [E.2.2.2]; exact (show (rmN 102).frames + 1 ≤ (rmN 107).frames by decide), by rw [E.2.2.2]; exact (show 8 + (mNL (miB 102) + 11) + (rmN 102).locals ≤ (rmN 107).locals by decide), by rw [E.2.2.2]; exact (show 0 + (rmN 102).cells ≤ (rmN 107).cells by decide), by rw [E.2.2.2]; exact (show 0 + (rmN 102).slots ≤ (rmN 107).slots by decide)⟩ (Nat.le_of_ble_eq_true rfl) (fun vv s1014 hq => ?_) (fun ee s1014 hq => ?_)
          rotate_left
          · obtain ⟨rfl, e1015, hv, hrs1014, hps1014⟩ := hq; cases hv
          obtain ⟨rfl, e1015, hv, hrs1014, hps1014⟩ := hq
          cases hv
          show WS k 72 [(7, .int (Int32.ofInt (iC t 15 ((zv + c)).toNat))), (0, .ref (A 3)), (2, .ref (A 18)), (1, .int (Int32.ofInt xv)), (3, .int (Int32.ofInt zv)), (4, .int (Int32.ofInt wv)), (5, .int (Int32.ofInt go)), (6, .int (Int32.ofInt c))] [.int (Int32.ofInt e1015)] (Wd A dT t) 0 0
          refine z_store X (lv' := [(5, .int (Int32.ofInt e1015)), (7, .int (Int32.ofInt (iC t 15 ((zv + c)).toNat))), (0, .ref (A 3)), (2, .ref (A 18)), (1, .int (Int32.ofInt xv)), (3, .int (Int32.ofInt zv)), (4, .int (Int32.ofInt wv)), (6, .int (Int32.ofInt c))]) (show cdA 107 72 = some (.istore 5, 2, 0, 0, 0) from rfl) (by decide) (fun _ h => h) ?_
          refine z_aload_n X (x := A 3) (show cdA 107 74 = some (.aload_n 0, 1, 0, 0, 0) from rfl) (List.Mem.tail _ (List.Mem.tail _ (List.Mem.head _))) ?_
          refine z_load_n X (x := xv) (show cdA 107 75 = some (.iload_n 1, 1, 0, 0, 0) from rfl) (List.Mem.tail _ (List.Mem.tail _ (List.Mem.tail _ (List.Mem.tail _ (List.Mem.head _))))) ?_
          refine z_load X (x := (iC t 15 ((zv + c)).toNat)) (show cdA 107 76 = some (.iload 7, 2, 0, 0, 0) from rfl) (List.Mem.tail _ (List.Mem.head _)) ?_
          refine z_aload_n X (x := A 18) (show cdA 107 78 = some (.aload_n 2, 1, 0, 0, 0) from rfl) (List.Mem.tail _ (List.Mem.tail _ (List.Mem.tail _ (List.Mem.head _)))) ?_
          refine z_load_n X (x := zv) (show cdA 107 79 = some (.iload_n 3, 1, 0, 0, 0) from rfl) (List.Mem.tail _ (List.Mem.tail _ (List.Mem.tail _ (List.Mem.tail _ (List.Mem.tail _ (List.Mem.head _)))))) ?_
          refine z_load X (x := c) (show cdA 107 80 = some (.iload 6, 2, 0, 0, 0) from rfl) (List.Mem.tail _ (List.Mem.tail _ (List.Mem.tail _ (List.Mem.tail _ (List.Mem.tail _ (List.Mem.tail _ (List.Mem.tail _ (List.Mem.head _)))))))) ?_
          refine z_add X (show cdA 107 82 = some (.iadd, 1, 0, 0, 0) from rfl) ?_
          refine z_const X (show cdA 107 83 = some (.iconst 1, 1, 0, 0, 0) from rfl) ?_
          refine z_add X (show cdA 107 84 = some (.iadd, 1, 0, 0, 0) from rfl) ?_
          refine z_ald X 18 (show cdA 107 85 = some (.iaload, 1, 0, 0, 0) from rfl) (by decide) rfl (by first | exact oq_21f9cd09 hi.2.2.1.1 hi.2.2.2.2.1 | omega) (show ((zv + c) + 1) < 24 by first | exact oq_c07d830a hi.2.2.1.2 g1003 | omega) (by decide) ?_
          have b1016 : (0 : Int) ≤ iC t 15 (((zv + c) + 1)).toNat ∧ iC t 15 (((zv + c) + 1)).toNat ≤ 127 := I.2 15 _ (show (((zv + c) + 1)).toNat < 24 by first | exact oq_136cae15 hi.2.2.1.2 g1003 | omega)
          refine z_min X (show cdA 107 86 = some (.invokestatic 122, 3, 0, 8, 0) from rfl) (rng_to _) (rng_to _) (by rw [E.2.2.2]; decide) (by rw [E.2.2.2]; exact Nat.le_of_ble_eq_true rfl) (Nat.zero_le _) (Nat.zero_le _) (fun e1017 he1017 => ?_)
          refine z_load X (x := e1015) (show cdA 107 89 = some (.iload 5, 2, 0, 0, 0) from rfl) (List.Mem.head _) ?_
          refine z_callV X 3 (rm := rmN 109) (As := [.int (Int32.ofInt xv), .int (Int32.ofInt e1017), .int (Int32.ofInt e1015)]) (st := []) (show cdA 107 91 = some (.invokevirtual 127, 3, 109, 0, 0) from rfl) rfl (by decide) rfl (by rw [E.1, E.2.1, E.2.2.1]; exact c9_setStep_3 G I (by first | exact ⟨hi.1.1, hi.1.2⟩ | omega) (by first | exact ⟨oq_03ccc143 he1017 b1016.1 b1002.1, oq_9c77db17 he1017 b1002.2⟩ | omega) (by first | exact ⟨hps1014.1, hps1014.2⟩ | omega)) ⟨by rw [E.2.2.2]; exact (show (rmN 109).frames + 1 ≤ (rmN 107).frames by decide), by rw [E.2.2.2]; exact (show 8 + (mNL (miB 109) + 11) + (rmN 109).locals ≤ (rmN 107).locals by decide), by rw [E.2.2.2]; exact (show 0 + (rmN 109).cells ≤ (rmN 107).cells by decide), by rw [E.2.2.2]; exact (show 0 + (rmN 109).slots ≤ (rmN 107).slots by decide)⟩ (Nat.le_of_ble_eq_true rfl) (fun vv s1018 hq => ?_) (fun ee s1018 hq => ?_)
          rotate_left
          · obtain ⟨Is1018, Fs1018, hv, hps1018⟩ := hq; cases hv
          obtain ⟨Is1018, Fs1018, hv, hps1018⟩ := hq
          cases hv
          have Gs1018 := fm_ts F Fs1018 (by decide) (by decide)
          show WS k 94 [(5, .int (Int32.ofInt e1015)), (7, .int (Int32.ofInt (iC t 15 ((zv + c)).toNat))), (0, .ref (A 3)), (2, .ref (A 18)), (1, .int (Int32.ofInt xv)), (3, .int (Int32.ofInt zv)), (4, .int (Int32.ofInt wv)), (6, .int (Int32.ofInt c))] [] (Wd A dT s1018) 0 0
          refine w_lconst X.1 (ax_d X (show cdA 107 94 = some (.lconst 1, 1, 0, 0, 0) from rfl)) rfl ?_
          refine z_anyJ (fun j1020 => ?_)
          refine z_load X (x := (iC t 15 ((zv + c)).toNat)) (show cdA 107 95 = some (.iload 7, 2, 0, 0, 0) from rfl) (List.Mem.tail _ (List.Mem.head _)) ?_
          refine z_bipush X (show cdA 107 97 = some (.bipush 63, 2, 0, 0, 63) from rfl) ?_
          refine z_andm X (show cdA 107 99 = some (.iand, 1, 0, 0, 0) from rfl) (by decide) (by decide) (fun y1021 hy1021 gy1021 => ?_)
          refine w_lshl X.1 (ax_d X (show cdA 107 100 = some (.lshl, 1, 0, 0, 0) from rfl)) ?_
          refine z_anyJ (fun j1022 => ?_)
          refine w_lstore X.1 (lv' := [(8, .long j1022), (5, .int (Int32.ofInt e1015)), (7, .int (Int32.ofInt (iC t 15 ((zv + c)).toNat))), (0, .ref (A 3)), (2, .ref (A 18)), (1, .int (Int32.ofInt xv)), (3, .int (Int32.ofInt zv)), (4, .int (Int32.ofInt wv)), (6, .int (Int32.ofInt c))]) (ax_d X (show cdA 107 101 = some (.lstore 8, 2, 0, 0, 0) from rfl)) (by rw [X.2.1.2.2]; decide) (fun _ h => h) ?_
          refine z_aload_n X (x := A 3) (show cdA 107 103 = some (.aload_n 0, 1, 0, 0, 0) from rfl) (List.Mem.tail _ (List.Mem.tail _ (List.Mem.tail _ (List.Mem.head _)))) ?_
          refine s_getR X 3 (show cdA 107 104 = some (.getfield 18, 3, 9, 3, 0) from rfl) (by decide) rfl rfl ?_
          refine z_load_n X (x := xv) (show cdA 107 107 = some (.iload_n 1, 1, 0, 0, 0) from rfl) (List.Mem.tail _ (List.Mem.tail _ (List.Mem.tail _ (List.Mem.tail _ (List.Mem.tail _ (List.Mem.head _)))))) ?_
          refine z_const X (show cdA 107 108 = some (.iconst 2, 1, 0, 0, 0) from rfl) ?_
          refine z_mul X (show cdA 107 109 = some (.imul, 1, 0, 0, 0) from rfl) ?_
          refine z_load X (x := (iC t 15 ((zv + c)).toNat)) (show cdA 107 110 = some (.iload 7, 2, 0, 0, 0) from rfl) (List.Mem.tail _ (List.Mem.tail _ (List.Mem.head _))) ?_
          refine z_bipush X (show cdA 107 112 = some (.bipush 64, 2, 0, 0, 64) from rfl) ?_
          refine z_quot X (show cdA 107 114 = some (.idiv, 1, 0, 0, 0) from rfl) (by first | exact b1002.1 | omega) (rng_to _) (by decide) (by decide) ?_
          refine z_add X (show cdA 107 115 = some (.iadd, 1, 0, 0, 0) from rfl) ?_
          refine w_dup2_11 X.1 (ax_d X (show cdA 107 116 = some (.dup2, 1, 0, 0, 0) from rfl)) rfl rfl ?_
          refine z_lald X 6 (show cdA 107 117 = some (.laload, 1, 0, 0, 0) from rfl) (by decide) rfl (by first | exact oq_c0bd8137 b1002.1 hi.1.1 | omega) (show ((xv * 2) + ((iC t 15 ((zv + c)).toNat) / 64)) < 24 by first | exact oq_c80b6473 b1002.2 hi.1.2 | omega) (by decide) (fun j1023 => ?_)
          refine w_lload X.1 (ax_d X (show cdA 107 118 = some (.lload 8, 2, 0, 0, 0) from rfl)) (x := j1022) (List.Mem.head _) ?_
          refine w_lor X.1 (ax_d X (show cdA 107 120 = some (.lor, 1, 0, 0, 0) from rfl)) ?_
          refine z_anyJ (fun j1024 => ?_)
          refine z_last X 6 (show cdA 107 121 = some (.lastore, 1, 0, 0, 0) from rfl) (by decide) rfl (by first | exact oq_c0bd8137 b1002.1 hi.1.1 | omega) (show ((xv * 2) + ((iC t 15 ((zv + c)).toNat) / 64)) < 24 by first | exact oq_c80b6473 b1002.2 hi.1.2 | omega) (by decide) ?_
          obtain ⟨s1025, hs1025⟩ : ∃ x0, x0 = uD s1018 3 (((xv * 2) + ((iC t 15 ((zv + c)).toNat) / 64))).toNat j1024 := ⟨_, rfl⟩
          rw [← hs1025]
          have Is1025 : Bd s1025 := by rw [hs1025]; exact bd_D Is1018
          have Fs1025 : Fm [] [1, 2, 1003, 1004, 1005] s s1025 := by rw [hs1025]; exact fm_D Gs1018 (show 3 + 1000 ∈ _ by decide)
          refine z_aload_n X (x := A 3) (show cdA 107 122 = some (.aload_n 0, 1, 0, 0, 0) from rfl) (List.Mem.tail _ (List.Mem.tail _ (List.Mem.tail _ (List.Mem.head _)))) ?_
          refine s_getR X 3 (show cdA 107 123 = some (.getfield 22, 3, 9, 4, 0) from rfl) (by decide) rfl rfl ?_
          refine z_load_n X (x := xv) (show cdA 107 126 = some (.iload_n 1, 1, 0, 0, 0) from rfl) (List.Mem.tail _ (List.Mem.tail _ (List.Mem.tail _ (List.Mem.tail _ (List.Mem.tail _ (List.Mem.head _)))))) ?_
          refine z_bipush X (show cdA 107 127 = some (.bipush 7, 2, 0, 0, 7) from rfl) ?_
          refine z_mul X (show cdA 107 129 = some (.imul, 1, 0, 0, 0) from rfl) ?_
          refine z_load X (x := e1015) (show cdA 107 130 = some (.iload 5, 2, 0, 0, 0) from rfl) (List.Mem.tail _ (List.Mem.head _)) ?_
          refine z_add X (show cdA 107 132 = some (.iadd, 1, 0, 0, 0) from rfl) ?_
          refine z_const X (show cdA 107 133 = some (.iconst 2, 1, 0, 0, 0) from rfl) ?_
          refine z_mul X (show cdA 107 134 = some (.imul, 1, 0, 0, 0) from rfl) ?_
          refine z_load X (x := (iC t 15 ((zv + c)).toNat)) (show cdA 107 135 = some (.iload 7, 2, 0, 0, 0) from rfl) (List.Mem.tail _ (List.Mem.tail _ (List.Mem.head _))) ?_
          refine z_bipush X (show cdA 107 137 = some (.bipush 64, 2, 0, 0, 64) from rfl) ?_
          refine z_quot X (show cdA 107 139 = some (.idiv, 1, 0, 0, 0) from rfl) (by first | exact b1002.1 | omega) (rng_to _) (by decide) (by decide) ?_
          refine z_add X (show cdA 107 140 = some (.iadd, 1, 0, 0, 0) from rfl) ?_
          refine w_dup2_11 X.1 (ax_d X (show cdA 107 141 = some (.dup2, 1, 0, 0, 0) from rfl)) rfl rfl ?_
          refine z_lald X 7 (show cdA 107 142 = some (.laload, 1, 0, 0, 0) from rfl) (by decide) rfl (by first | exact oq_f0013a75 hps1014.1 b1002.1 hi.1.1 | omega) (show ((((xv * 7) + e1015) * 2) + ((iC t 15 ((zv + c)).toNat) / 64)) < 168 by first | exact oq_2f745b71 hps1014.2 b1002.2 hi.1.2 | omega) (by decide) (fun j1026 => ?_)
          refine w_lload X.1 (ax_d X (show cdA 107 143 = some (.lload 8, 2, 0, 0, 0) from rfl)) (x := j1022) (List.Mem.head _) ?_
          refine w_lor X.1 (ax_d X (show cdA 107 145 = some (.lor, 1, 0, 0, 0) from rfl)) ?_
          refine z_anyJ (fun j1027 => ?_)
          refine z_last X 7 (show cdA 107 146 = some (.lastore, 1, 0, 0, 0) from rfl) (by decide) rfl (by first | exact oq_f0013a75 hps1014.1 b1002.1 hi.1.1 | omega) (show ((((xv * 7) + e1015) * 2) + ((iC t 15 ((zv + c)).toNat) / 64)) < 168 by first | exact oq_2f745b71 hps1014.2 b1002.2 hi.1.2 | omega) (by decide) ?_
          obtain ⟨s1028, hs1028⟩ : ∃ x0, x0 = uD s1025 4 (((((xv * 7) + e1015) * 2) + ((iC t 15 ((zv + c)).toNat) / 64))).toNat j1027 := ⟨_, rfl⟩
          rw [← hs1028]
          have Is1028 : Bd s1028 := by rw [hs1028]; exact bd_D Is1025
          have Fs1028 : Fm [] [1, 2, 1003, 1004, 1005] s s1028 := by rw [hs1028]; exact fm_D Fs1025 (show 4 + 1000 ∈ _ by decide)
          refine z_inc X (x := c) (lv' := [(6, .int (Int32.ofInt (c + 1))), (8, .long j1022), (5, .int (Int32.ofInt e1015)), (7, .int (Int32.ofInt (iC t 15 ((zv + c)).toNat))), (0, .ref (A 3)), (2, .ref (A 18)), (1, .int (Int32.ofInt xv)), (3, .int (Int32.ofInt zv)), (4, .int (Int32.ofInt wv))]) (show cdA 107 147 = some (.iinc 6 1, 3, 0, 0, 0) from rfl) (by decide) (List.Mem.tail _ (List.Mem.tail _ (List.Mem.tail _ (List.Mem.tail _ (List.Mem.tail _ (List.Mem.tail _ (List.Mem.tail _ (List.Mem.tail _ (List.Mem.head _))))))))) (fun _ h => h) ?_
          refine z_goto X (t := 35) (show cdA 107 150 = some (.goto (-115), 3, 0, 0, 0) from rfl) (by decide) ?_
          refine WS_lv (lv := [(0, .ref (A 3)), (2, .ref (A 18)), (1, .int (Int32.ofInt xv)), (3, .int (Int32.ofInt zv)), (4, .int (Int32.ofInt wv)), (5, .int (Int32.ofInt e1015)), (6, .int (Int32.ofInt (c + 1)))]) (List.forall_mem_cons.mpr ⟨(List.Mem.tail _ (List.Mem.tail _ (List.Mem.tail _ (List.Mem.tail _ (List.Mem.head _))))), (List.forall_mem_cons.mpr ⟨(List.Mem.tail _ (List.Mem.tail _ (List.Mem.tail _ (List.Mem.tail _ (List.Mem.tail _ (List.Mem.head _)))))), (List.forall_mem_cons.mpr ⟨(List.Mem.tail _ (List.Mem.tail _ (List.Mem.tail _ (List.Mem.tail _ (List.Mem.tail _ (List.Mem.tail _ (List.Mem.head _))))))), (List.forall_mem_cons.mpr ⟨(List.Mem.tail _ (List.Mem.tail _ (List.Mem.tail _ (List.Mem.tail _ (List.Mem.tail _ (List.Mem.tail _ (List.Mem.tail _ (List.Mem.head _)))))))), (List.forall_mem_cons.mpr ⟨(List.Mem.tail _ (List.Mem.tail _ (List.Mem.tail _ (List.Mem.tail _ (List.Mem.tail _ (List.Mem.tail _ (List.Mem.tail _ (List.Mem.tail _ (List.Mem.head _))))))))), (List.forall_mem_cons.mpr ⟨(List.Mem.tail _ (List.Mem.tail _ (List.Mem.head _))), (List.forall_mem_cons.mpr ⟨(List.Mem.head _), (fun q h => absurd h List.not_mem_nil)⟩)⟩)⟩)⟩)⟩)⟩)⟩) ?_
          exact ih _ xv zv wv e1015 (c + 1) Is1028 Fs1028 (by first | exact ⟨And.intro (hi.1.1) (hi.1.2), And.intro (hi.2.1.1) (hi.2.1.2), And.intro (hi.2.2.1.1) (hi.2.2.1.2), And.intro (hps1014.1) (oq_b982df86 hps1014.2), oq_54f49eb5 hi.2.2.2.2.1, oq_bbeecdc2 g1003 hi.2.1.2⟩ | omega) (by first | exact qk_me hm (by decide) (oq_261750be g1003 hi.2.1.2) | omega) kx
  refine z_aload_n X (x := A 18) (show cdA 107 0 = some (.aload_n 2, 1, 0, 0, 0) from rfl) (List.Mem.tail _ (List.Mem.tail _ (List.Mem.head _))) ?_
  refine z_load_n X (x := z) (show cdA 107 1 = some (.iload_n 3, 1, 0, 0, 0) from rfl) (List.Mem.tail _ (List.Mem.tail _ (List.Mem.tail _ (List.Mem.head _)))) ?_
  refine z_aload_n X (x := A 3) (show cdA 107 2 = some (.aload_n 0, 1, 0, 0, 0) from rfl) (List.Mem.head _) ?_
  refine s_getR X 3 (show cdA 107 3 = some (.getfield 9, 3, 9, 1, 0) from rfl) (by decide) rfl rfl ?_
  refine z_load_n X (x := x) (show cdA 107 6 = some (.iload_n 1, 1, 0, 0, 0) from rfl) (List.Mem.tail _ (List.Mem.head _)) ?_
  refine z_bipush X (show cdA 107 7 = some (.bipush 24, 2, 0, 0, 24) from rfl) ?_
  refine z_mul X (show cdA 107 9 = some (.imul, 1, 0, 0, 0) from rfl) ?_
  refine z_load X (x := w) (show cdA 107 10 = some (.iload 4, 2, 0, 0, 0) from rfl) (List.Mem.tail _ (List.Mem.tail _ (List.Mem.tail _ (List.Mem.tail _ (List.Mem.head _))))) ?_
  refine z_copy X I 18 4 (st := []) (show cdA 107 12 = some (.invokestatic 109, 3, 0, 5, 0) from rfl) (by decide) (by decide) rfl rfl (by omega) (by omega) (by omega) (show z + w ≤ ((24 : Nat) : Int) by omega) (show (x * 24) + w ≤ ((288 : Nat) : Int) by omega) (by decide) (by rw [E.2.2.2]; decide) (by rw [E.2.2.2]; exact Nat.le_of_ble_eq_true rfl) (fun s1 Is1 Fs1 => ?_)
  have Gs1 := fm_ts F Fs1 (by decide) (by decide)
  refine z_aload_n X (x := A 3) (show cdA 107 15 = some (.aload_n 0, 1, 0, 0, 0) from rfl) (List.Mem.head _) ?_
  refine s_getR X 3 (show cdA 107 16 = some (.getfield 15, 3, 9, 2, 0) from rfl) (by decide) rfl rfl ?_
  refine z_load_n X (x := x) (show cdA 107 19 = some (.iload_n 1, 1, 0, 0, 0) from rfl) (List.Mem.tail _ (List.Mem.head _)) ?_
  refine z_load X (x := w) (show cdA 107 20 = some (.iload 4, 2, 0, 0, 0) from rfl) (List.Mem.tail _ (List.Mem.tail _ (List.Mem.tail _ (List.Mem.tail _ (List.Mem.head _))))) ?_
  refine z_ast X 5 (show cdA 107 22 = some (.iastore, 1, 0, 0, 0) from rfl) (by decide) rfl (by first | exact p0.1 | omega) (show x < 12 by first | exact oq_0ddfcfee p0.2 | omega) (by decide) ?_
  obtain ⟨s2, hs2⟩ : ∃ x0, x0 = uC s1 2 (x).toNat (Int32.ofInt w) := ⟨_, rfl⟩
  rw [← hs2]
  have Is2 : Bd s2 := by rw [hs2]; exact bd_C Is1 (show (0 : Int) ≤ w ∧ w ≤ 24 by first | exact ⟨p1.1, p1.2⟩ | omega) ⟨by first | exact oq_fa4e5087 p1.1 | omega, by first | exact oq_5bcd337f p1.2 | omega⟩
  have Fs2 := fm_C (i := (x).toNat) (x := Int32.ofInt w) Gs1 (show 2 ∈ _ by decide)
  rw [← hs2] at Fs2
  refine z_aload_n X (x := A 3) (show cdA 107 23 = some (.aload_n 0, 1, 0, 0, 0) from rfl) (List.Mem.head _) ?_
  refine z_load_n X (x := x) (show cdA 107 24 = some (.iload_n 1, 1, 0, 0, 0) from rfl) (List.Mem.tail _ (List.Mem.head _)) ?_
  refine z_callV X 3 (rm := rmN 108) (As := [.int (Int32.ofInt x)]) (st := []) (show cdA 107 25 = some (.invokevirtual 115, 3, 108, 0, 0) from rfl) rfl (by decide) rfl (by rw [E.1, E.2.1, E.2.2.1]; exact c9_wipe_3 G Is2 (by first | exact ⟨p0.1, p0.2⟩ | omega)) ⟨by rw [E.2.2.2]; exact (show (rmN 108).frames + 1 ≤ (rmN 107).frames by decide), by rw [E.2.2.2]; exact (show 8 + (mNL (miB 108) + 11) + (rmN 108).locals ≤ (rmN 107).locals by decide), by rw [E.2.2.2]; exact (show 0 + (rmN 108).cells ≤ (rmN 107).cells by decide), by rw [E.2.2.2]; exact (show 0 + (rmN 108).slots ≤ (rmN 107).slots by decide)⟩ (Nat.le_of_ble_eq_true rfl) (fun vv s3 hq => ?_) (fun ee s3 hq => ?_)
  rotate_left
  · obtain ⟨Is3, Fs3, hv, hps3⟩ := hq; cases hv
  obtain ⟨Is3, Fs3, hv, hps3⟩ := hq
  cases hv
  have Gs3 := fm_ts Fs2 Fs3 (by decide) (by decide)
  show WS k 28 [(0, .ref (A 3)), (1, .int (Int32.ofInt x)), (2, .ref (A 18)), (3, .int (Int32.ofInt z)), (4, .int (Int32.ofInt w))] [] (Wd A dT s3) 0 0
  refine z_bipush X (show cdA 107 28 = some (.bipush 6, 2, 0, 0, 6) from rfl) ?_
  refine z_store X (lv' := [(5, .int (Int32.ofInt 6)), (0, .ref (A 3)), (1, .int (Int32.ofInt x)), (2, .ref (A 18)), (3, .int (Int32.ofInt z)), (4, .int (Int32.ofInt w))]) (show cdA 107 30 = some (.istore 5, 2, 0, 0, 0) from rfl) (by decide) (fun _ h => h) ?_
  refine z_const X (show cdA 107 32 = some (.iconst 0, 1, 0, 0, 0) from rfl) ?_
  refine z_store X (lv' := [(6, .int (Int32.ofInt 0)), (5, .int (Int32.ofInt 6)), (0, .ref (A 3)), (1, .int (Int32.ofInt x)), (2, .ref (A 18)), (3, .int (Int32.ofInt z)), (4, .int (Int32.ofInt w))]) (show cdA 107 33 = some (.istore 6, 2, 0, 0, 0) from rfl) (by decide) (fun _ h => h) ?_
  refine WS_lv (lv := [(0, .ref (A 3)), (2, .ref (A 18)), (1, .int (Int32.ofInt x)), (3, .int (Int32.ofInt z)), (4, .int (Int32.ofInt w)), (5, .int (Int32.ofInt 6)), (6, .int (Int32.ofInt 0))]) (List.forall_mem_cons.mpr ⟨(List.Mem.tail _ (List.Mem.tail _ (List.Mem.head _))), (List.forall_mem_cons.mpr ⟨(List.Mem.tail _ (List.Mem.tail _ (List.Mem.tail _ (List.Mem.tail _ (List.Mem.head _))))), (List.forall_mem_cons.mpr ⟨(List.Mem.tail _ (List.Mem.tail _ (List.Mem.tail _ (List.Mem.head _)))), (List.forall_mem_cons.mpr ⟨(List.Mem.tail _ (List.Mem.tail _ (List.Mem.tail _ (List.Mem.tail _ (List.Mem.tail _ (List.Mem.head _)))))), (List.forall_mem_cons.mpr ⟨(List.Mem.tail _ (List.Mem.tail _ (List.Mem.tail _ (List.Mem.tail _ (List.Mem.tail _ (List.Mem.tail _ (List.Mem.head _))))))), (List.forall_mem_cons.mpr ⟨(List.Mem.tail _ (List.Mem.head _)), (List.forall_mem_cons.mpr ⟨(List.Mem.head _), (fun q h => absurd h List.not_mem_nil)⟩)⟩)⟩)⟩)⟩)⟩)⟩) ?_
  refine L35 ((24 - 0 : Int).toNat + 1) s3 x z w 6 0 Is3 Gs3 (by first | exact ⟨And.intro (p0.1) (p0.2), And.intro (p1.1) (p1.2), And.intro (p2.1) (p2.2), And.intro (by decide) (by decide), by decide, by decide⟩ | omega) (Nat.lt_succ_self _) ?_
  intro s5 x6 x7 Is5 Fs5 hs5
  exact w_vret X.1 q hRt (ax_d X (show cdA 107 153 = some (.return_, 1, 0, 0, 0) from rfl)) (Nat.zero_le _) (Nat.zero_le _) ⟨_, rfl, Is5, Fs5, rfl, trivial⟩
set_option maxRecDepth 4000 in
theorem c9_meetsOf_3 (G : GX l s0 D tys a0 dT) (I : Bd s) {x y z : Int} (p0 : 0 ≤ x ∧ x ≤ 11) (p1 : 0 ≤ y ∧ y ≤ 11) (p2 : 0 ≤ z ∧ z ≤ 1) : CT l s0 D A dT 111 (rmN 111) [.ref (A 3), .int (Int32.ofInt x), .int (Int32.ofInt y), .int (Int32.ofInt z)] s (fun o t => Bd t ∧ Fm [] [] s t ∧ ∃ e : Int64, o = .inl (some (.long e)) ∧ (True)) := by
  refine ct_ofX G (by decide) (Nat.le_of_ble_eq_true rfl) (fun k X E ET hRt hXt q => ?_)
  show WS k 0 [(0, .ref (A 3)), (1, .int (Int32.ofInt x)), (2, .int (Int32.ofInt y)), (3, .int (Int32.ofInt z))] [] _ 0 0
  have F : Fm [] [] s s := fm_rf _ _ s
  have L26 : ∀ (n : Nat) (t : PS) (xv : Int) (yv : Int) (zv : Int) (un : Int64) (g : Int), Bd t → Fm [] [] s t → ((0 ≤ xv ∧ xv ≤ 11) ∧ (0 ≤ yv ∧ yv ≤ 11) ∧ (0 ≤ zv ∧ zv ≤ 1) ∧ 0 ≤ g ∧ g ≤ 7) → (7 - g : Int).toNat < n → (∀ (t' : PS) (un' : Int64) (g' : Int), Bd t' → Fm [] [] s t' → ((0 ≤ xv ∧ xv ≤ 11) ∧ (0 ≤ yv ∧ yv ≤ 11) ∧ (0 ≤ zv ∧ zv ≤ 1) ∧ 0 ≤ g' ∧ g' ≤ 7) → WS k 88 [(0, .ref (A 3)), (1, .int (Int32.ofInt xv)), (2, .int (Int32.ofInt yv)), (3, .int (Int32.ofInt zv)), (4, .long un'), (6, .int (Int32.ofInt g'))] [] (Wd A dT t') 0 0) → WS k 26 [(0, .ref (A 3)), (1, .int (Int32.ofInt xv)), (2, .int (Int32.ofInt yv)), (3, .int (Int32.ofInt zv)), (4, .long un), (6, .int (Int32.ofInt g))] [] (Wd A dT t) 0 0 := by
    intro n
    induction n with
    | zero =>
      intro t xv yv zv un g I F hi hm kx
      exact absurd hm (Nat.not_lt_zero _)
    | succ n ih =>
      intro t xv yv zv un g I F hi hm kx
      refine z_load X (x := g) (show cdA 111 26 = some (.iload 6, 2, 0, 0, 0) from rfl) (List.Mem.tail _ (List.Mem.tail _ (List.Mem.tail _ (List.Mem.tail _ (List.Mem.tail _ (List.Mem.head _)))))) ?_
      refine z_bipush X (show cdA 111 28 = some (.bipush 7, 2, 0, 0, 7) from rfl) ?_
      refine z_icmp_ge X (t := 88) (show cdA 111 30 = some (.if_icmp .ge 58, 3, 3, 0, 0) from rfl) (by decide) ⟨by first | exact oq_fa4e5087 hi.2.2.2.1 | omega, by first | exact oq_0e78ca7d hi.2.2.2.2 | omega⟩ (by decide) (fun g1001 => ?_) (fun g1001 => ?_)
      ·
        refine WS_lv (lv := [(0, .ref (A 3)), (1, .int (Int32.ofInt xv)), (2, .int (Int32.ofInt yv)), (3, .int (Int32.ofInt zv)), (4, .long un), (6, .int (Int32.ofInt g))]) (List.forall_mem_cons.mpr ⟨(List.Mem.head _), (List.forall_mem_cons.mpr ⟨(List.Mem.tail _ (List.Mem.head _)), (List.forall_mem_cons.mpr ⟨(List.Mem.tail _ (List.Mem.tail _ (List.Mem.head _))), (List.forall_mem_cons.mpr ⟨(List.Mem.tail _ (List.Mem.tail _ (List.Mem.tail _ (List.Mem.head _)))), (List.forall_mem_cons.mpr ⟨(List.Mem.tail _ (List.Mem.tail _ (List.Mem.tail _ (List.Mem.tail _ (List.Mem.head _))))), (List.forall_mem_cons.mpr ⟨(List.Mem.tail _ (List.Mem.tail _ (List.Mem.tail _ (List.Mem.tail _ (List.Mem.tail _ (List.Mem.head _)))))), (fun q h => absurd h List.not_mem_nil)⟩)⟩)⟩)⟩)⟩)⟩) ?_
        exact kx _ un g I F (by first | exact ⟨And.intro (hi.1.1) (hi.1.2), And.intro (hi.2.1.1) (hi.2.1.2), And.intro (hi.2.2.1.1) (hi.2.2.1.2), hi.2.2.2.1, hi.2.2.2.2⟩ | omega)
      ·
        refine w_lload X.1 (ax_d X (show cdA 111 33 = some (.lload 4, 2, 0, 0, 0) from rfl)) (x := un) (List.Mem.tail _ (List.Mem.tail _ (List.Mem.tail _ (List.Mem.tail _ (List.Mem.head _))))) ?_
        refine w_lconst X.1 (ax_d X (show cdA 111 35 = some (.lconst 0, 1, 0, 0, 0) from rfl)) rfl ?_
        refine z_anyJ (fun j1002 => ?_)
        refine w_lcmp X.1 (ax_d X (show cdA 111 36 = some (.lcmp, 1, 0, 0, 0) from rfl)) ?_
        refine z_any (fun y1003 hy1003 => ?_)
        refine z_if_eq X (t := 88) (show cdA 111 37 = some (.ifCond .eq 51, 3, 0, 0, 0) from rfl) (by decide) hy1003 (fun g1004 => ?_) (fun g1004 => ?_)
        ·
          refine WS_lv (lv := [(0, .ref (A 3)), (1, .int (Int32.ofInt xv)), (2, .int (Int32.ofInt yv)), (3, .int (Int32.ofInt zv)), (4, .long un), (6, .int (Int32.ofInt g))]) (List.forall_mem_cons.mpr ⟨(List.Mem.head _), (List.forall_mem_cons.mpr ⟨(List.Mem.tail _ (List.Mem.head _)), (List.forall_mem_cons.mpr ⟨(List.Mem.tail _ (List.Mem.tail _ (List.Mem.head _))), (List.forall_mem_cons.mpr ⟨(List.Mem.tail _ (List.Mem.tail _ (List.Mem.tail _ (List.Mem.head _)))), (List.forall_mem_cons.mpr ⟨(List.Mem.tail _ (List.Mem.tail _ (List.Mem.tail _ (List.Mem.tail _ (List.Mem.head _))))), (List.forall_mem_cons.mpr ⟨(List.Mem.tail _ (List.Mem.tail _ (List.Mem.tail _ (List.Mem.tail _ (List.Mem.tail _ (List.Mem.head _)))))), (fun q h => absurd h List.not_mem_nil)⟩)⟩)⟩)⟩)⟩)⟩) ?_
          exact kx _ un g I F (by first | exact ⟨And.intro (hi.1.1) (hi.1.2), And.intro (hi.2.1.1) (hi.2.1.2), And.intro (hi.2.2.1.1) (hi.2.2.1.2), hi.2.2.2.1, hi.2.2.2.2⟩ | omega)
        ·
          refine w_lload X.1 (ax_d X (show cdA 111 40 = some (.lload 4, 2, 0, 0, 0) from rfl)) (x := un) (List.Mem.tail _ (List.Mem.tail _ (List.Mem.tail _ (List.Mem.tail _ (List.Mem.head _))))) ?_
          refine z_aload_n X (x := A 3) (show cdA 111 42 = some (.aload_n 0, 1, 0, 0, 0) from rfl) (List.Mem.head _) ?_
          refine s_getR X 3 (show cdA 111 43 = some (.getfield 22, 3, 9, 4, 0) from rfl) (by decide) rfl rfl ?_
          refine z_load_n X (x := xv) (show cdA 111 46 = some (.iload_n 1, 1, 0, 0, 0) from rfl) (List.Mem.tail _ (List.Mem.head _)) ?_
          refine z_bipush X (show cdA 111 47 = some (.bipush 7, 2, 0, 0, 7) from rfl) ?_
          refine z_mul X (show cdA 111 49 = some (.imul, 1, 0, 0, 0) from rfl) ?_
          refine z_load X (x := g) (show cdA 111 50 = some (.iload 6, 2, 0, 0, 0) from rfl) (List.Mem.tail _ (List.Mem.tail _ (List.Mem.tail _ (List.Mem.tail _ (List.Mem.tail _ (List.Mem.head _)))))) ?_
          refine z_add X (show cdA 111 52 = some (.iadd, 1, 0, 0, 0) from rfl) ?_
          refine z_const X (show cdA 111 53 = some (.iconst 2, 1, 0, 0, 0) from rfl) ?_
          refine z_mul X (show cdA 111 54 = some (.imul, 1, 0, 0, 0) from rfl) ?_
          refine z_load_n X (x := zv) (show cdA 111 55 = some (.iload_n 3, 1, 0, 0, 0) from rfl) (List.Mem.tail _ (List.Mem.tail _ (List.Mem.tail _ (List.Mem.head _)))) ?_
          refine z_add X (show cdA 111 56 = some (.iadd, 1, 0, 0, 0) from rfl) ?_
          refine z_lald X 7 (show cdA 111 57 = some (.laload, 1, 0, 0, 0) from rfl) (by decide) rfl (by first | exact oq_952f4f1b hi.1.1 hi.2.2.2.1 hi.2.2.1.1 | omega) (show ((((xv * 7) + g) * 2) + zv) < 168 by first | exact oq_46bcb755 hi.1.2 hi.2.2.1.2 g1001 | omega) (by decide) (fun j1005 => ?_)
          refine z_aload_n X (x := A 3) (show cdA 111 58 = some (.aload_n 0, 1, 0, 0, 0) from rfl) (List.Mem.head _) ?_
          refine s_getR X 3 (show cdA 111 59 = some (.getfield 22, 3, 9, 4, 0) from rfl) (by decide) rfl rfl ?_
          refine z_load_n X (x := yv) (show cdA 111 62 = some (.iload_n 2, 1, 0, 0, 0) from rfl) (List.Mem.tail _ (List.Mem.tail _ (List.Mem.head _))) ?_
          refine z_bipush X (show cdA 111 63 = some (.bipush 7, 2, 0, 0, 7) from rfl) ?_
          refine z_mul X (show cdA 111 65 = some (.imul, 1, 0, 0, 0) from rfl) ?_
          refine z_load X (x := g) (show cdA 111 66 = some (.iload 6, 2, 0, 0, 0) from rfl) (List.Mem.tail _ (List.Mem.tail _ (List.Mem.tail _ (List.Mem.tail _ (List.Mem.tail _ (List.Mem.head _)))))) ?_
          refine z_add X (show cdA 111 68 = some (.iadd, 1, 0, 0, 0) from rfl) ?_
          refine z_const X (show cdA 111 69 = some (.iconst 2, 1, 0, 0, 0) from rfl) ?_
          refine z_mul X (show cdA 111 70 = some (.imul, 1, 0, 0, 0) from rfl) ?_
          refine z_load_n X (x := zv) (show cdA 111 71 = some (.iload_n 3, 1, 0, 0, 0) from rfl) (List.Mem.tail _ (List.Mem.tail _ (List.Mem.tail _ (List.Mem.head _)))) ?_
          refine z_add X (show cdA 111 72 = some (.iadd, 1, 0, 0, 0) from rfl) ?_
          refine z_lald X 7 (show cdA 111 73 = some (.laload, 1, 0, 0, 0) from rfl) (by decide) rfl (by first | exact oq_952f4f1b hi.2.1.1 hi.2.2.2.1 hi.2.2.1.1 | omega) (show ((((yv * 7) + g) * 2) + zv) < 168 by first | exact oq_46bcb755 hi.2.1.2 hi.2.2.1.2 g1001 | omega) (by decide) (fun j1006 => ?_)
          refine w_land X.1 (ax_d X (show cdA 111 74 = some (.land, 1, 0, 0, 0) from rfl)) ?_
          refine z_anyJ (fun j1007 => ?_)
          refine z_ldc2 X (show cdA 111 75 = some (.ldc2_w 138, 3, 18446744073709551615, 0, 0) from rfl) (fun j1008 => ?_)
          refine w_lxor X.1 (ax_d X (show cdA 111 78 = some (.lxor, 1, 0, 0, 0) from rfl)) ?_
          refine z_anyJ (fun j1009 => ?_)
          refine w_land X.1 (ax_d X (show cdA 111 79 = some (.land, 1, 0, 0, 0) from rfl)) ?_
          refine z_anyJ (fun j1010 => ?_)
          refine w_lstore X.1 (lv' := [(4, .long j1010), (0, .ref (A 3)), (1, .int (Int32.ofInt xv)), (2, .int (Int32.ofInt yv)), (3, .int (Int32.ofInt zv)), (6, .int (Int32.ofInt g))]) (ax_d X (show cdA 111 80 = some (.lstore 4, 2, 0, 0, 0) from rfl)) (by rw [X.2.1.2.2]; decide) (fun _ h => h) ?_
          refine z_inc X (x := g) (lv' := [(6, .int (Int32.ofInt (g + 1))), (4, .long j1010), (0, .ref (A 3)), (1, .int (Int32.ofInt xv)), (2, .int (Int32.ofInt yv)), (3, .int (Int32.ofInt zv))]) (show cdA 111 82 = some (.iinc 6 1, 3, 0, 0, 0) from rfl) (by decide) (List.Mem.tail _ (List.Mem.tail _ (List.Mem.tail _ (List.Mem.tail _ (List.Mem.tail _ (List.Mem.head _)))))) (fun _ h => h) ?_
          refine z_goto X (t := 26) (show cdA 111 85 = some (.goto (-59), 3, 0, 0, 0) from rfl) (by decide) ?_
          refine WS_lv (lv := [(0, .ref (A 3)), (1, .int (Int32.ofInt xv)), (2, .int (Int32.ofInt yv)), (3, .int (Int32.ofInt zv)), (4, .long j1010), (6, .int (Int32.ofInt (g + 1)))]) (List.forall_mem_cons.mpr ⟨(List.Mem.tail _ (List.Mem.tail _ (List.Mem.head _))), (List.forall_mem_cons.mpr ⟨(List.Mem.tail _ (List.Mem.tail _ (List.Mem.tail _ (List.Mem.head _)))), (List.forall_mem_cons.mpr ⟨(List.Mem.tail _ (List.Mem.tail _ (List.Mem.tail _ (List.Mem.tail _ (List.Mem.head _))))), (List.forall_mem_cons.mpr ⟨(List.Mem.tail _ (List.Mem.tail _ (List.Mem.tail _ (List.Mem.tail _ (List.Mem.tail _ (List.Mem.head _)))))), (List.forall_mem_cons.mpr ⟨(List.Mem.tail _ (List.Mem.head _)), (List.forall_mem_cons.mpr ⟨(List.Mem.head _), (fun q h => absurd h List.not_mem_nil)⟩)⟩)⟩)⟩)⟩)⟩) ?_
          exact ih _ xv yv zv j1010 (g + 1) I F (by first | exact ⟨And.intro (hi.1.1) (hi.1.2), And.intro (hi.2.1.1) (hi.2.1.2), And.intro (hi.2.2.1.1) (hi.2.2.1.2), oq_54f49eb5 hi.2.2.2.1, oq_c22ff062 g1001⟩ | omega) (by first | exact qk_me hm (by decide) (oq_4b3bf825 g1001) | omega) kx
  refine z_aload_n X (x := A 3) (show cdA 111 0 = some (.aload_n 0, 1, 0, 0, 0) from rfl) (List.Mem.head _) ?_
  refine s_getR X 3 (show cdA 111 1 = some (.getfield 18, 3, 9, 3, 0) from rfl) (by decide) rfl rfl ?_
  refine z_load_n X (x := x) (show cdA 111 4 = some (.iload_n 1, 1, 0, 0, 0) from rfl) (List.Mem.tail _ (List.Mem.head _)) ?_
  refine z_const X (show cdA 111 5 = some (.iconst 2, 1, 0, 0, 0) from rfl) ?_
  refine z_mul X (show cdA 111 6 = some (.imul, 1, 0, 0, 0) from rfl) ?_
  refine z_load_n X (x := z) (show cdA 111 7 = some (.iload_n 3, 1, 0, 0, 0) from rfl) (List.Mem.tail _ (List.Mem.tail _ (List.Mem.tail _ (List.Mem.head _)))) ?_
  refine z_add X (show cdA 111 8 = some (.iadd, 1, 0, 0, 0) from rfl) ?_
  refine z_lald X 6 (show cdA 111 9 = some (.laload, 1, 0, 0, 0) from rfl) (by decide) rfl (by first | exact oq_ff754f74 p0.1 p2.1 | omega) (show ((x * 2) + z) < 24 by first | exact oq_7b14761e p0.2 p2.2 | omega) (by decide) (fun j1 => ?_)
  refine z_aload_n X (x := A 3) (show cdA 111 10 = some (.aload_n 0, 1, 0, 0, 0) from rfl) (List.Mem.head _) ?_
  refine s_getR X 3 (show cdA 111 11 = some (.getfield 18, 3, 9, 3, 0) from rfl) (by decide) rfl rfl ?_
  refine z_load_n X (x := y) (show cdA 111 14 = some (.iload_n 2, 1, 0, 0, 0) from rfl) (List.Mem.tail _ (List.Mem.tail _ (List.Mem.head _))) ?_
  refine z_const X (show cdA 111 15 = some (.iconst 2, 1, 0, 0, 0) from rfl) ?_
  refine z_mul X (show cdA 111 16 = some (.imul, 1, 0, 0, 0) from rfl) ?_
  refine z_load_n X (x := z) (show cdA 111 17 = some (.iload_n 3, 1, 0, 0, 0) from rfl) (List.Mem.tail _ (List.Mem.tail _ (List.Mem.tail _ (List.Mem.head _)))) ?_
  refine z_add X (show cdA 111 18 = some (.iadd, 1, 0, 0, 0) from rfl) ?_
  refine z_lald X 6 (show cdA 111 19 = some (.laload, 1, 0, 0, 0) from rfl) (by decide) rfl (by first | exact oq_ff754f74 p1.1 p2.1 | omega) (show ((y * 2) + z) < 24 by first | exact oq_7b14761e p1.2 p2.2 | omega) (by decide) (fun j2 => ?_)
  refine w_land X.1 (ax_d X (show cdA 111 20 = some (.land, 1, 0, 0, 0) from rfl)) ?_
  refine z_anyJ (fun j3 => ?_)
  refine w_lstore X.1 (lv' := [(4, .long j3), (0, .ref (A 3)), (1, .int (Int32.ofInt x)), (2, .int (Int32.ofInt y)), (3, .int (Int32.ofInt z))]) (ax_d X (show cdA 111 21 = some (.lstore 4, 2, 0, 0, 0) from rfl)) (by rw [X.2.1.2.2]; decide) (fun _ h => h) ?_
  refine z_const X (show cdA 111 23 = some (.iconst 0, 1, 0, 0, 0) from rfl) ?_
  refine z_store X (lv' := [(6, .int (Int32.ofInt 0)), (4, .long j3), (0, .ref (A 3)), (1, .int (Int32.ofInt x)), (2, .int (Int32.ofInt y)), (3, .int (Int32.ofInt z))]) (show cdA 111 24 = some (.istore 6, 2, 0, 0, 0) from rfl) (by decide) (fun _ h => h) ?_
  refine WS_lv (lv := [(0, .ref (A 3)), (1, .int (Int32.ofInt x)), (2, .int (Int32.ofInt y)), (3, .int (Int32.ofInt z)), (4, .long j3), (6, .int (Int32.ofInt 0))]) (List.forall_mem_cons.mpr ⟨(List.Mem.tail _ (List.Mem.tail _ (List.Mem.head _))), (List.forall_mem_cons.mpr ⟨(List.Mem.tail _ (List.Mem.tail _ (List.Mem.tail _ (List.Mem.head _)))), (List.forall_mem_cons.mpr ⟨(List.Mem.tail _ (List.Mem.tail _ (List.Mem.tail _ (List.Mem.tail _ (List.Mem.head _))))), (List.forall_mem_cons.mpr ⟨(List.Mem.tail _ (List.Mem.tail _ (List.Mem.tail _ (List.Mem.tail _ (List.Mem.tail _ (List.Mem.head _)))))), (List.forall_mem_cons.mpr ⟨(List.Mem.tail _ (List.Mem.head _)), (List.forall_mem_cons.mpr ⟨(List.Mem.head _), (fun q h => absurd h List.not_mem_nil)⟩)⟩)⟩)⟩)⟩)⟩) ?_
  refine L26 ((7 - 0 : Int).toNat + 1) s x y z j3 0 I F (by first | exact ⟨And.intro (p0.1) (p0.2), And.intro (p1.1) (p1.2), And.intro (p2.1) (p2.2), by decide, by decide⟩ | omega) (Nat.lt_succ_self _) ?_
  intro s4 x5 x6 Is4 Fs4 hs4
  refine w_lload X.1 (ax_d X (show cdA 111 88 = some (.lload 4, 2, 0, 0, 0) from rfl)) (x := x5) (List.Mem.tail _ (List.Mem.tail _ (List.Mem.tail _ (List.Mem.tail _ (List.Mem.head _))))) ?_
  exact w_lret X.1 q hRt (ax_d X (show cdA 111 90 = some (.lreturn, 1, 0, 0, 0) from rfl)) (Nat.zero_le _) (Nat.zero_le _) ⟨_, rfl, Is4, Fs4, x5, rfl, trivial⟩
set_option maxRecDepth 4000 in
theorem c9_pairUp_3 (G : GX l s0 D tys a0 dT) (I : Bd s)  : CT l s0 D A dT 110 (rmN 110) [.ref (A 3)] s (fun o t => Bd t ∧ Fm [10] [6, 1007] s t ∧ o = .inl none ∧ (True)) := by
  refine ct_ofX G (by decide) (Nat.le_of_ble_eq_true rfl) (fun k X E ET hRt hXt q => ?_)
  show WS k 0 [(0, .ref (A 3))] [] _ 0 0
  have F : Fm [10] [6, 1007] s s := fm_rf _ _ s
  have b1 : (0 : Int) ≤ iI s 9 ∧ iI s 9 ≤ 12 := I.1 9
  have b2 : (0 : Int) ≤ iI s 10 ∧ iI s 10 ≤ 66 := I.1 10
  have L19 : ∀ (n : Nat) (t : PS) (a b : Int), Bd t → Fm [10] [6, 1007] s t → ((0 ≤ a ∧ a ≤ 11) ∧ 0 ≤ b ∧ b ≤ 12) → (12 - b : Int).toNat < n → (∀ (t' : PS) (b' : Int), Bd t' → Fm [10] [6, 1007] s t' → ((0 ≤ a ∧ a ≤ 11) ∧ 0 ≤ b' ∧ b' ≤ 12) → WS k 120 [(0, .ref (A 3)), (1, .int (Int32.ofInt a)), (2, .int (Int32.ofInt b'))] [] (Wd A dT t') 0 0) → WS k 19 [(0, .ref (A 3)), (1, .int (Int32.ofInt a)), (2, .int (Int32.ofInt b))] [] (Wd A dT t) 0 0 := by
    intro n
    induction n with
    | zero =>
      intro t a b I F hi hm kx
      exact absurd hm (Nat.not_lt_zero _)
    | succ n ih =>
      intro t a b I F hi hm kx
      have b1001 : (0 : Int) ≤ iI t 9 ∧ iI t 9 ≤ 12 := I.1 9
      have b1002 : (0 : Int) ≤ iI t 10 ∧ iI t 10 ≤ 66 := I.1 10
      refine z_load_n X (x := b) (show cdA 110 19 = some (.iload_n 2, 1, 0, 0, 0) from rfl) (List.Mem.tail _ (List.Mem.tail _ (List.Mem.head _))) ?_
      refine z_aload_n X (x := A 3) (show cdA 110 20 = some (.aload_n 0, 1, 0, 0, 0) from rfl) (List.Mem.head _) ?_
      refine z_getI X 3 (show cdA 110 21 = some (.getfield 99, 3, 9, 0, 0) from rfl) (by decide) rfl rfl ?_
      have b1003 : (0 : Int) ≤ iI t 9 ∧ iI t 9 ≤ 12 := I.1 9
      refine z_icmp_ge X (t := 120) (show cdA 110 24 = some (.if_icmp .ge 96, 3, 3, 0, 0) from rfl) (by decide) ⟨by first | exact oq_fa4e5087 hi.2.1 | omega, by first | exact oq_78843a64 hi.2.2 | omega⟩ (rng_to _) (fun g1004 => ?_) (fun g1004 => ?_)
      ·
        refine WS_lv (lv := [(0, .ref (A 3)), (1, .int (Int32.ofInt a)), (2, .int (Int32.ofInt b))]) (List.forall_mem_cons.mpr ⟨(List.Mem.head _), (List.forall_mem_cons.mpr ⟨(List.Mem.tail _ (List.Mem.head _)), (List.forall_mem_cons.mpr ⟨(List.Mem.tail _ (List.Mem.tail _ (List.Mem.head _))), (fun q h => absurd h List.not_mem_nil)⟩)⟩)⟩) ?_
        exact kx _ b I F (by first | exact ⟨And.intro (hi.1.1) (hi.1.2), hi.2.1, hi.2.2⟩ | omega)
      ·
        refine z_aload_n X (x := A 3) (show cdA 110 27 = some (.aload_n 0, 1, 0, 0, 0) from rfl) (List.Mem.head _) ?_
        refine z_load_n X (x := a) (show cdA 110 28 = some (.iload_n 1, 1, 0, 0, 0) from rfl) (List.Mem.tail _ (List.Mem.head _)) ?_
        refine z_load_n X (x := b) (show cdA 110 29 = some (.iload_n 2, 1, 0, 0, 0) from rfl) (List.Mem.tail _ (List.Mem.tail _ (List.Mem.head _))) ?_
        refine z_const X (show cdA 110 30 = some (.iconst 0, 1, 0, 0, 0) from rfl) ?_
        refine z_callV X 3 (rm := rmN 111) (As := [.int (Int32.ofInt a), .int (Int32.ofInt b), .int (Int32.ofInt 0)]) (st := []) (show cdA 110 31 = some (.invokevirtual 134, 3, 111, 0, 0) from rfl) rfl (by decide) rfl (by rw [E.1, E.2.1, E.2.2.1]; exact c9_meetsOf_3 G I (by first | exact ⟨hi.1.1, hi.1.2⟩ | omega) (by first | exact ⟨hi.2.1, oq_e4d7f3c5 g1004 b1003.2⟩ | omega) (by first | exact ⟨by decide, by decide⟩ | omega)) ⟨by rw [E.2.2.2]; exact (show (rmN 111).frames + 1 ≤ (rmN 110).frames by decide), by rw [E.2.2.2]; exact (show 8 + (mNL (miB 111) + 11) + (rmN 111).locals ≤ (rmN 110).locals by decide), by rw [E.2.2.2]; exact (show 0 + (rmN 111).cells ≤ (rmN 110).cells by decide), by rw [E.2.2.2]; exact (show 0 + (rmN 111).slots ≤ (rmN 110).slots by decide)⟩ (Nat.le_of_ble_eq_true rfl) (fun vv s1005 hq => ?_) (fun ee s1005 hq => ?_)
        rotate_left
        · obtain ⟨Is1005, Fs1005, e1006, hv, hrs1005, hps1005⟩ := hq; cases hv
        obtain ⟨Is1005, Fs1005, e1006, hv, hrs1005, hps1005⟩ := hq
        cases hv
        have Gs1005 := fm_ts F Fs1005 (by decide) (by decide)
        have ws1005_9 : iI s1005 9 = iI t 9 := fm_i Fs1005 (by decide)
        have ws1005_10 : iI s1005 10 = iI t 10 := fm_i Fs1005 (by decide)
        show WS k 34 [(0, .ref (A 3)), (1, .int (Int32.ofInt a)), (2, .int (Int32.ofInt b))] [.long e1006] (Wd A dT s1005) 0 0
        refine w_lstore_n X.1 (lv' := [(3, .long e1006), (0, .ref (A 3)), (1, .int (Int32.ofInt a)), (2, .int (Int32.ofInt b))]) (ax_d X (show cdA 110 34 = some (.lstore_n 3, 1, 0, 0, 0) from rfl)) (by rw [X.2.1.2.2]; decide) (fun _ h => h) ?_
        refine z_aload_n X (x := A 3) (show cdA 110 35 = some (.aload_n 0, 1, 0, 0, 0) from rfl) (List.Mem.tail _ (List.Mem.head _)) ?_
        refine z_load_n X (x := a) (show cdA 110 36 = some (.iload_n 1, 1, 0, 0, 0) from rfl) (List.Mem.tail _ (List.Mem.tail _ (List.Mem.head _))) ?_
        refine z_load_n X (x := b) (show cdA 110 37 = some (.iload_n 2, 1, 0, 0, 0) from rfl) (List.Mem.tail _ (List.Mem.tail _ (List.Mem.tail _ (List.Mem.head _)))) ?_
        refine z_const X (show cdA 110 38 = some (.iconst 1, 1, 0, 0, 0) from rfl) ?_
        refine z_callV X 3 (rm := rmN 111) (As := [.int (Int32.ofInt a), .int (Int32.ofInt b), .int (Int32.ofInt 1)]) (st := []) (show cdA 110 39 = some (.invokevirtual 134, 3, 111, 0, 0) from rfl) rfl (by decide) rfl (by rw [E.1, E.2.1, E.2.2.1]; exact c9_meetsOf_3 G Is1005 (by first | exact ⟨hi.1.1, hi.1.2⟩ | omega) (by first | exact ⟨hi.2.1, oq_e4d7f3c5 g1004 b1003.2⟩ | omega) (by first | exact ⟨by decide, by decide⟩ | omega)) ⟨by rw [E.2.2.2]; exact (show (rmN 111).frames + 1 ≤ (rmN 110).frames by decide), by rw [E.2.2.2]; exact (show 8 + (mNL (miB 111) + 11) + (rmN 111).locals ≤ (rmN 110).locals by decide), by rw [E.2.2.2]; exact (show 0 + (rmN 111).cells ≤ (rmN 110).cells by decide), by rw [E.2.2.2]; exact (show 0 + (rmN 111).slots ≤ (rmN 110).slots by decide)⟩ (Nat.le_of_ble_eq_true rfl) (fun vv s1007 hq => ?_) (fun ee s1007 hq => ?_)
        rotate_left
        · obtain ⟨Is1007, Fs1007, e1008, hv, hrs1007, hps1007⟩ := hq; cases hv
        obtain ⟨Is1007, Fs1007, e1008, hv, hrs1007, hps1007⟩ := hq
        cases hv
        have Gs1007 := fm_ts Gs1005 Fs1007 (by decide) (by decide)
        have ws1007_9 : iI s1007 9 = iI s1005 9 := fm_i Fs1007 (by decide)
        have ws1007_10 : iI s1007 10 = iI s1005 10 := fm_i Fs1007 (by decide)
        show WS k 42 [(3, .long e1006), (0, .ref (A 3)), (1, .int (Int32.ofInt a)), (2, .int (Int32.ofInt b))] [.long e1008] (Wd A dT s1007) 0 0
        refine w_lstore X.1 (lv' := [(5, .long e1008), (3, .long e1006), (0, .ref (A 3)), (1, .int (Int32.ofInt a)), (2, .int (Int32.ofInt b))]) (ax_d X (show cdA 110 42 = some (.lstore 5, 2, 0, 0, 0) from rfl)) (by rw [X.2.1.2.2]; decide) (fun _ h => h) ?_
        refine w_lload_n X.1 (ax_d X (show cdA 110 44 = some (.lload_n 3, 1, 0, 0, 0) from rfl)) (x := e1006) (List.Mem.tail _ (List.Mem.head _)) ?_
        refine w_lload X.1 (ax_d X (show cdA 110 45 = some (.lload 5, 2, 0, 0, 0) from rfl)) (x := e1008) (List.Mem.head _) ?_
        refine w_lor X.1 (ax_d X (show cdA 110 47 = some (.lor, 1, 0, 0, 0) from rfl)) ?_
        refine z_anyJ (fun j1009 => ?_)
        refine w_lconst X.1 (ax_d X (show cdA 110 48 = some (.lconst 0, 1, 0, 0, 0) from rfl)) rfl ?_
        refine z_anyJ (fun j1010 => ?_)
        refine w_lcmp X.1 (ax_d X (show cdA 110 49 = some (.lcmp, 1, 0, 0, 0) from rfl)) ?_
        refine z_any (fun y1011 hy1011 => ?_)
        refine z_if_eq X (t := 114) (show cdA 110 50 = some (.ifCond .eq 64, 3, 0, 0, 0) from rfl) (by decide) hy1011 (fun g1012 => ?_) (fun g1012 => ?_)
        ·
          refine z_inc X (x := b) (lv' := [(2, .int (Int32.ofInt (b + 1))), (5, .long e1008), (3, .long e1006), (0, .ref (A 3)), (1, .int (Int32.ofInt a))]) (show cdA 110 114 = some (.iinc 2 1, 3, 0, 0, 0) from rfl) (by decide) (List.Mem.tail _ (List.Mem.tail _ (List.Mem.tail _ (List.Mem.tail _ (List.Mem.head _))))) (fun _ h => h) ?_
          refine z_goto X (t := 19) (show cdA 110 117 = some (.goto (-98), 3, 0, 0, 0) from rfl) (by decide) ?_
          refine WS_lv (lv := [(0, .ref (A 3)), (1, .int (Int32.ofInt a)), (2, .int (Int32.ofInt (b + 1)))]) (List.forall_mem_cons.mpr ⟨(List.Mem.tail _ (List.Mem.tail _ (List.Mem.tail _ (List.Mem.head _)))), (List.forall_mem_cons.mpr ⟨(List.Mem.tail _ (List.Mem.tail _ (List.Mem.tail _ (List.Mem.tail _ (List.Mem.head _))))), (List.forall_mem_cons.mpr ⟨(List.Mem.head _), (fun q h => absurd h List.not_mem_nil)⟩)⟩)⟩) ?_
          exact ih _ a (b + 1) Is1007 Gs1007 (by first | exact ⟨And.intro (hi.1.1) (hi.1.2), oq_54f49eb5 hi.2.1, oq_4dae995e g1004 b1003.2⟩ | omega) (by first | exact qk_me hm (by decide) (oq_b575e8c1 g1004 b1003.2) | omega) kx
        ·
          refine z_aload_n X (x := A 3) (show cdA 110 53 = some (.aload_n 0, 1, 0, 0, 0) from rfl) (List.Mem.tail _ (List.Mem.tail _ (List.Mem.head _))) ?_
          refine z_getI X 3 (show cdA 110 54 = some (.getfield 131, 3, 9, 8, 0) from rfl) (by decide) rfl rfl ?_
          have b1013 : (0 : Int) ≤ iI s1007 10 ∧ iI s1007 10 ≤ 66 := Is1007.1 10
          refine z_bipush X (show cdA 110 57 = some (.bipush 66, 2, 0, 0, 66) from rfl) ?_
          refine z_icmp_ge X (t := 114) (show cdA 110 59 = some (.if_icmp .ge 55, 3, 3, 0, 0) from rfl) (by decide) (rng_to _) (by decide) (fun g1014 => ?_) (fun g1014 => ?_)
          ·
            refine z_inc X (x := b) (lv' := [(2, .int (Int32.ofInt (b + 1))), (5, .long e1008), (3, .long e1006), (0, .ref (A 3)), (1, .int (Int32.ofInt a))]) (show cdA 110 114 = some (.iinc 2 1, 3, 0, 0, 0) from rfl) (by decide) (List.Mem.tail _ (List.Mem.tail _ (List.Mem.tail _ (List.Mem.tail _ (List.Mem.head _))))) (fun _ h => h) ?_
            refine z_goto X (t := 19) (show cdA 110 117 = some (.goto (-98), 3, 0, 0, 0) from rfl) (by decide) ?_
            refine WS_lv (lv := [(0, .ref (A 3)), (1, .int (Int32.ofInt a)), (2, .int (Int32.ofInt (b + 1)))]) (List.forall_mem_cons.mpr ⟨(List.Mem.tail _ (List.Mem.tail _ (List.Mem.tail _ (List.Mem.head _)))), (List.forall_mem_cons.mpr ⟨(List.Mem.tail _ (List.Mem.tail _ (List.Mem.tail _ (List.Mem.tail _ (List.Mem.head _))))), (List.forall_mem_cons.mpr ⟨(List.Mem.head _), (fun q h => absurd h List.not_mem_nil)⟩)⟩)⟩) ?_
            exact ih _ a (b + 1) Is1007 Gs1007 (by first | exact ⟨And.intro (hi.1.1) (hi.1.2), oq_54f49eb5 hi.2.1, oq_4dae995e g1004 b1003.2⟩ | omega) (by first | exact qk_me hm (by decide) (oq_b575e8c1 g1004 b1003.2) | omega) kx
          ·
            refine z_aload_n X (x := A 3) (show cdA 110 62 = some (.aload_n 0, 1, 0, 0, 0) from rfl) (List.Mem.tail _ (List.Mem.tail _ (List.Mem.head _))) ?_
            refine s_getR X 3 (show cdA 110 63 = some (.getfield 28, 3, 9, 6, 0) from rfl) (by decide) rfl rfl ?_
            refine z_aload_n X (x := A 3) (show cdA 110 66 = some (.aload_n 0, 1, 0, 0, 0) from rfl) (List.Mem.tail _ (List.Mem.tail _ (List.Mem.head _))) ?_
            refine z_getI X 3 (show cdA 110 67 = some (.getfield 131, 3, 9, 8, 0) from rfl) (by decide) rfl rfl ?_
            have b1015 : (0 : Int) ≤ iI s1007 10 ∧ iI s1007 10 ≤ 66 := Is1007.1 10
            refine z_load_n X (x := a) (show cdA 110 70 = some (.iload_n 1, 1, 0, 0, 0) from rfl) (List.Mem.tail _ (List.Mem.tail _ (List.Mem.tail _ (List.Mem.head _)))) ?_
            refine z_bipush X (show cdA 110 71 = some (.bipush 12, 2, 0, 0, 12) from rfl) ?_
            refine z_mul X (show cdA 110 73 = some (.imul, 1, 0, 0, 0) from rfl) ?_
            refine z_load_n X (x := b) (show cdA 110 74 = some (.iload_n 2, 1, 0, 0, 0) from rfl) (List.Mem.tail _ (List.Mem.tail _ (List.Mem.tail _ (List.Mem.tail _ (List.Mem.head _))))) ?_
            refine z_add X (show cdA 110 75 = some (.iadd, 1, 0, 0, 0) from rfl) ?_
            refine z_ast X 9 (show cdA 110 76 = some (.iastore, 1, 0, 0, 0) from rfl) (by decide) rfl (by first | exact b1015.1 | omega) (show (iI s1007 10) < 66 by first | exact g1014 | omega) (by decide) ?_
            obtain ⟨s1016, hs1016⟩ : ∃ x0, x0 = uC s1007 6 ((iI s1007 10)).toNat (Int32.ofInt ((a * 12) + b)) := ⟨_, rfl⟩
            rw [← hs1016]
            have Is1016 : Bd s1016 := by rw [hs1016]; exact bd_C Is1007 (show (0 : Int) ≤ ((a * 12) + b) ∧ ((a * 12) + b) ≤ 143 by first | exact ⟨oq_0f03f1de hi.1.1 hi.2.1, oq_46995298 hi.1.2 g1004 b1003.2⟩ | omega) ⟨by first | exact oq_19cf0865 hi.1.1 hi.2.1 | omega, by first | exact oq_b7b88ba9 hi.1.2 hi.2.2 | omega⟩
            have Fs1016 := fm_C (i := ((iI s1007 10)).toNat) (x := Int32.ofInt ((a * 12) + b)) Gs1007 (show 6 ∈ _ by decide)
            rw [← hs1016] at Fs1016
            have ws1016_9 : iI s1016 9 = iI s1007 9 := by rw [hs1016]; rfl
            have ws1016_10 : iI s1016 10 = iI s1007 10 := by rw [hs1016]; rfl
            refine z_aload_n X (x := A 3) (show cdA 110 77 = some (.aload_n 0, 1, 0, 0, 0) from rfl) (List.Mem.tail _ (List.Mem.tail _ (List.Mem.head _))) ?_
            refine s_getR X 3 (show cdA 110 78 = some (.getfield 31, 3, 9, 7, 0) from rfl) (by decide) rfl rfl ?_
            refine z_aload_n X (x := A 3) (show cdA 110 81 = some (.aload_n 0, 1, 0, 0, 0) from rfl) (List.Mem.tail _ (List.Mem.tail _ (List.Mem.head _))) ?_
            refine z_getI X 3 (show cdA 110 82 = some (.getfield 131, 3, 9, 8, 0) from rfl) (by decide) rfl rfl ?_
            have b1017 : (0 : Int) ≤ iI s1016 10 ∧ iI s1016 10 ≤ 66 := Is1016.1 10
            refine z_const X (show cdA 110 85 = some (.iconst 2, 1, 0, 0, 0) from rfl) ?_
            refine z_mul X (show cdA 110 86 = some (.imul, 1, 0, 0, 0) from rfl) ?_
            refine w_lload_n X.1 (ax_d X (show cdA 110 87 = some (.lload_n 3, 1, 0, 0, 0) from rfl)) (x := e1006) (List.Mem.tail _ (List.Mem.head _)) ?_
            refine z_last X 10 (show cdA 110 88 = some (.lastore, 1, 0, 0, 0) from rfl) (by decide) rfl (by first | exact oq_cfc6ac54 b1017.1 | omega) (show ((iI s1016 10) * 2) < 132 by first | exact oq_0ba3fcc8 ws1016_10 g1014 | omega) (by decide) ?_
            obtain ⟨s1018, hs1018⟩ : ∃ x0, x0 = uD s1016 7 (((iI s1016 10) * 2)).toNat e1006 := ⟨_, rfl⟩
            rw [← hs1018]
            have Is1018 : Bd s1018 := by rw [hs1018]; exact bd_D Is1016
            have Fs1018 : Fm [10] [6, 1007] s s1018 := by rw [hs1018]; exact fm_D Fs1016 (show 7 + 1000 ∈ _ by decide)
            have ws1018_9 : iI s1018 9 = iI s1016 9 := by rw [hs1018]; rfl
            have ws1018_10 : iI s1018 10 = iI s1016 10 := by rw [hs1018]; rfl
            refine z_aload_n X (x := A 3) (show cdA 110 89 = some (.aload_n 0, 1, 0, 0, 0) from rfl) (List.Mem.tail _ (List.Mem.tail _ (List.Mem.head _))) ?_
            refine s_getR X 3 (show cdA 110 90 = some (.getfield 31, 3, 9, 7, 0) from rfl) (by decide) rfl rfl ?_
            refine z_aload_n X (x := A 3) (show cdA 110 93 = some (.aload_n 0, 1, 0, 0, 0) from rfl) (List.Mem.tail _ (List.Mem.tail _ (List.Mem.head _))) ?_
            refine z_getI X 3 (show cdA 110 94 = some (.getfield 131, 3, 9, 8, 0) from rfl) (by decide) rfl rfl ?_
            have b1019 : (0 : Int) ≤ iI s1018 10 ∧ iI s1018 10 ≤ 66 := Is1018.1 10
            refine z_const X (show cdA 110 97 = some (.iconst 2, 1, 0, 0, 0) from rfl) ?_
            refine z_mul X (show cdA 110 98 = some (.imul, 1, 0, 0, 0) from rfl) ?_
            refine z_const X (show cdA 110 99 = some (.iconst 1, 1, 0, 0, 0) from rfl) ?_
            refine z_add X (show cdA 110 100 = some (.iadd, 1, 0, 0, 0) from rfl) ?_
            refine w_lload X.1 (ax_d X (show cdA 110 101 = some (.lload 5, 2, 0, 0, 0) from rfl)) (x := e1008) (List.Mem.head _) ?_
            refine z_last X 10 (show cdA 110 103 = some (.lastore, 1, 0, 0, 0) from rfl) (by decide) rfl (by first | exact oq_8a3e0277 b1019.1 | omega) (show (((iI s1018 10) * 2) + 1) < 132 by first | exact oq_1191648c ws1018_10 ws1016_10 g1014 | omega) (by decide) ?_
            obtain ⟨s1020, hs1020⟩ : ∃ x0, x0 = uD s1018 7 ((((iI s1018 10) * 2) + 1)).toNat e1008 := ⟨_, rfl⟩
            rw [← hs1020]
            have Is1020 : Bd s1020 := by rw [hs1020]; exact bd_D Is1018
            have Fs1020 : Fm [10] [6, 1007] s s1020 := by rw [hs1020]; exact fm_D Fs1018 (show 7 + 1000 ∈ _ by decide)
            have ws1020_9 : iI s1020 9 = iI s1018 9 := by rw [hs1020]; rfl
            have ws1020_10 : iI s1020 10 = iI s1018 10 := by rw [hs1020]; rfl
            refine z_aload_n X (x := A 3) (show cdA 110 104 = some (.aload_n 0, 1, 0, 0, 0) from rfl) (List.Mem.tail _ (List.Mem.tail _ (List.Mem.head _))) ?_
            refine w_dup X.1 (ax_d X (show cdA 110 105 = some (.dup, 1, 0, 0, 0) from rfl)) rfl ?_
            refine z_getI X 3 (show cdA 110 106 = some (.getfield 131, 3, 9, 8, 0) from rfl) (by decide) rfl rfl ?_
            have b1021 : (0 : Int) ≤ iI s1020 10 ∧ iI s1020 10 ≤ 66 := Is1020.1 10
            refine z_const X (show cdA 110 109 = some (.iconst 1, 1, 0, 0, 0) from rfl) ?_
            refine z_add X (show cdA 110 110 = some (.iadd, 1, 0, 0, 0) from rfl) ?_
            refine s_putI X 3 (show cdA 110 111 = some (.putfield 131, 3, 9, 8, 0) from rfl) (by decide) rfl rfl (by decide) rfl rfl rfl ?_
            obtain ⟨s1022, hs1022⟩ : ∃ x0, x0 = uI s1020 10 (Int32.ofInt ((iI s1020 10) + 1)) := ⟨_, rfl⟩
            rw [← hs1022]
            have Is1022 : Bd s1022 := by rw [hs1022]; exact bd_I Is1020 (show (0 : Int) ≤ ((iI s1020 10) + 1) ∧ ((iI s1020 10) + 1) ≤ 66 by first | exact ⟨oq_54f49eb5 b1021.1, oq_98f08201 ws1020_10 ws1018_10 ws1016_10 g1014⟩ | omega) ⟨by first | exact oq_74de1e16 b1021.1 | omega, by first | exact oq_d99c2177 b1021.2 | omega⟩
            have Fs1022 := fm_I (x := Int32.ofInt ((iI s1020 10) + 1)) Fs1020 (show 10 ∈ _ by decide)
            rw [← hs1022] at Fs1022
            have vs1022 : iI s1022 10 = ((iI s1020 10) + 1) := by rw [hs1022]; exact iI_u ⟨by first | exact oq_74de1e16 b1021.1 | omega, by first | exact oq_d99c2177 b1021.2 | omega⟩
            have ws1022_9 : iI s1022 9 = iI s1020 9 := by rw [hs1022]; rfl
            refine z_inc X (x := b) (lv' := [(2, .int (Int32.ofInt (b + 1))), (5, .long e1008), (3, .long e1006), (0, .ref (A 3)), (1, .int (Int32.ofInt a))]) (show cdA 110 114 = some (.iinc 2 1, 3, 0, 0, 0) from rfl) (by decide) (List.Mem.tail _ (List.Mem.tail _ (List.Mem.tail _ (List.Mem.tail _ (List.Mem.head _))))) (fun _ h => h) ?_
            refine z_goto X (t := 19) (show cdA 110 117 = some (.goto (-98), 3, 0, 0, 0) from rfl) (by decide) ?_
            refine WS_lv (lv := [(0, .ref (A 3)), (1, .int (Int32.ofInt a)), (2, .int (Int32.ofInt (b + 1)))]) (List.forall_mem_cons.mpr ⟨(List.Mem.tail _ (List.Mem.tail _ (List.Mem.tail _ (List.Mem.head _)))), (List.forall_mem_cons.mpr ⟨(List.Mem.tail _ (List.Mem.tail _ (List.Mem.tail _ (List.Mem.tail _ (List.Mem.head _))))), (List.forall_mem_cons.mpr ⟨(List.Mem.head _), (fun q h => absurd h List.not_mem_nil)⟩)⟩)⟩) ?_
            exact ih _ a (b + 1) Is1022 Fs1022 (by first | exact ⟨And.intro (hi.1.1) (hi.1.2), oq_54f49eb5 hi.2.1, oq_4dae995e g1004 b1003.2⟩ | omega) (by first | exact qk_me hm (by decide) (oq_b575e8c1 g1004 b1003.2) | omega) kx
  have L7 : ∀ (n : Nat) (t : PS) (a : Int), Bd t → Fm [10] [6, 1007] s t → (0 ≤ a ∧ a ≤ 12) → (12 - a : Int).toNat < n → (∀ (t' : PS) (a' : Int), Bd t' → Fm [10] [6, 1007] s t' → (0 ≤ a' ∧ a' ≤ 12) → WS k 126 [(0, .ref (A 3)), (1, .int (Int32.ofInt a'))] [] (Wd A dT t') 0 0) → WS k 7 [(0, .ref (A 3)), (1, .int (Int32.ofInt a))] [] (Wd A dT t) 0 0 := by
    intro n
    induction n with
    | zero =>
      intro t a I F hi hm kx
      exact absurd hm (Nat.not_lt_zero _)
    | succ n ih =>
      intro t a I F hi hm kx
      have b2001 : (0 : Int) ≤ iI t 9 ∧ iI t 9 ≤ 12 := I.1 9
      have b2002 : (0 : Int) ≤ iI t 10 ∧ iI t 10 ≤ 66 := I.1 10
      refine z_load_n X (x := a) (show cdA 110 7 = some (.iload_n 1, 1, 0, 0, 0) from rfl) (List.Mem.tail _ (List.Mem.head _)) ?_
      refine z_aload_n X (x := A 3) (show cdA 110 8 = some (.aload_n 0, 1, 0, 0, 0) from rfl) (List.Mem.head _) ?_
      refine z_getI X 3 (show cdA 110 9 = some (.getfield 99, 3, 9, 0, 0) from rfl) (by decide) rfl rfl ?_
      have b2003 : (0 : Int) ≤ iI t 9 ∧ iI t 9 ≤ 12 := I.1 9
      refine z_icmp_ge X (t := 126) (show cdA 110 12 = some (.if_icmp .ge 114, 3, 3, 0, 0) from rfl) (by decide) ⟨by first | exact oq_fa4e5087 hi.1 | omega, by first | exact oq_78843a64 hi.2 | omega⟩ (rng_to _) (fun g2004 => ?_) (fun g2004 => ?_)
      ·
        refine WS_lv (lv := [(0, .ref (A 3)), (1, .int (Int32.ofInt a))]) (List.forall_mem_cons.mpr ⟨(List.Mem.head _), (List.forall_mem_cons.mpr ⟨(List.Mem.tail _ (List.Mem.head _)), (fun q h => absurd h List.not_mem_nil)⟩)⟩) ?_
        exact kx _ a I F (by first | exact ⟨hi.1, hi.2⟩ | omega)
      ·
        refine z_load_n X (x := a) (show cdA 110 15 = some (.iload_n 1, 1, 0, 0, 0) from rfl) (List.Mem.tail _ (List.Mem.head _)) ?_
        refine z_const X (show cdA 110 16 = some (.iconst 1, 1, 0, 0, 0) from rfl) ?_
        refine z_add X (show cdA 110 17 = some (.iadd, 1, 0, 0, 0) from rfl) ?_
        refine z_store_n X (lv' := [(2, .int (Int32.ofInt (a + 1))), (0, .ref (A 3)), (1, .int (Int32.ofInt a))]) (show cdA 110 18 = some (.istore_n 2, 1, 0, 0, 0) from rfl) (by decide) (fun _ h => h) ?_
        refine WS_lv (lv := [(0, .ref (A 3)), (1, .int (Int32.ofInt a)), (2, .int (Int32.ofInt (a + 1)))]) (List.forall_mem_cons.mpr ⟨(List.Mem.tail _ (List.Mem.head _)), (List.forall_mem_cons.mpr ⟨(List.Mem.tail _ (List.Mem.tail _ (List.Mem.head _))), (List.forall_mem_cons.mpr ⟨(List.Mem.head _), (fun q h => absurd h List.not_mem_nil)⟩)⟩)⟩) ?_
        refine L19 ((12 - (a + 1) : Int).toNat + 1) t a (a + 1) I F (by first | exact ⟨And.intro (hi.1) (oq_e4d7f3c5 g2004 b2003.2), oq_54f49eb5 hi.1, oq_4dae995e g2004 b2003.2⟩ | omega) (Nat.lt_succ_self _) ?_
        intro s2005 x2006 Is2005 Fs2005 hs2005
        have b2007 : (0 : Int) ≤ iI s2005 9 ∧ iI s2005 9 ≤ 12 := Is2005.1 9
        have b2008 : (0 : Int) ≤ iI s2005 10 ∧ iI s2005 10 ≤ 66 := Is2005.1 10
        refine z_inc X (x := a) (lv' := [(1, .int (Int32.ofInt (a + 1))), (0, .ref (A 3)), (2, .int (Int32.ofInt x2006))]) (show cdA 110 120 = some (.iinc 1 1, 3, 0, 0, 0) from rfl) (by decide) (List.Mem.tail _ (List.Mem.head _)) (fun _ h => h) ?_
        refine z_goto X (t := 7) (show cdA 110 123 = some (.goto (-116), 3, 0, 0, 0) from rfl) (by decide) ?_
        refine WS_lv (lv := [(0, .ref (A 3)), (1, .int (Int32.ofInt (a + 1)))]) (List.forall_mem_cons.mpr ⟨(List.Mem.tail _ (List.Mem.head _)), (List.forall_mem_cons.mpr ⟨(List.Mem.head _), (fun q h => absurd h List.not_mem_nil)⟩)⟩) ?_
        exact ih _ (a + 1) Is2005 Fs2005 (by first | exact ⟨oq_54f49eb5 hs2005.1.1, oq_51d1204d hs2005.1.2⟩ | omega) (by first | exact qk_me hm (by decide) (oq_8b937940 hs2005.1.2) | omega) kx
  refine z_aload_n X (x := A 3) (show cdA 110 0 = some (.aload_n 0, 1, 0, 0, 0) from rfl) (List.Mem.head _) ?_
  refine z_const X (show cdA 110 1 = some (.iconst 0, 1, 0, 0, 0) from rfl) ?_
  refine s_putI X 3 (show cdA 110 2 = some (.putfield 131, 3, 9, 8, 0) from rfl) (by decide) rfl rfl (by decide) rfl rfl rfl ?_
  obtain ⟨s3, hs3⟩ : ∃ x0, x0 = uI s 10 (Int32.ofInt 0) := ⟨_, rfl⟩
  rw [← hs3]
  have Is3 : Bd s3 := by rw [hs3]; exact bd_I I (show (0 : Int) ≤ 0 ∧ 0 ≤ 66 by first | exact ⟨by decide, by decide⟩ | omega) (by decide)
  have Fs3 := fm_I (x := Int32.ofInt 0) F (show 10 ∈ _ by decide)
  rw [← hs3] at Fs3
  have vs3 : iI s3 10 = 0 := by rw [hs3]; exact iI_u (by decide)
  have ws3_9 : iI s3 9 = iI s 9 := by rw [hs3]; rfl
  refine z_const X (show cdA 110 5 = some (.iconst 0, 1, 0, 0, 0) from rfl) ?_
  refine z_store_n X (lv' := [(1, .int (Int32.ofInt 0)), (0, .ref (A 3))]) (show cdA 110 6 = some (.istore_n 1, 1, 0, 0, 0) from rfl) (by decide) (fun _ h => h) ?_
  refine WS_lv (lv := [(0, .ref (A 3)), (1, .int (Int32.ofInt 0))]) (List.forall_mem_cons.mpr ⟨(List.Mem.tail _ (List.Mem.head _)), (List.forall_mem_cons.mpr ⟨(List.Mem.head _), (fun q h => absurd h List.not_mem_nil)⟩)⟩) ?_
  refine L7 ((12 - 0 : Int).toNat + 1) s3 0 Is3 Fs3 (by first | exact ⟨by decide, by decide⟩ | omega) (Nat.lt_succ_self _) ?_
  intro s4 x5 Is4 Fs4 hs4
  have b6 : (0 : Int) ≤ iI s4 9 ∧ iI s4 9 ≤ 12 := Is4.1 9
  have b7 : (0 : Int) ≤ iI s4 10 ∧ iI s4 10 ≤ 66 := Is4.1 10
  exact w_vret X.1 q hRt (ax_d X (show cdA 110 126 = some (.return_, 1, 0, 0, 0) from rfl)) (Nat.zero_le _) (Nat.zero_le _) ⟨_, rfl, Is4, Fs4, rfl, trivial⟩
set_option maxRecDepth 4000 in
theorem c9_wipe_68 (G : GX l s0 D tys a0 dT) (I : Bd s) {x : Int} (p0 : 0 ≤ x ∧ x ≤ 11) : CT l s0 D A dT 108 (rmN 108) [.ref (A 68), .int (Int32.ofInt x)] s (fun o t => Bd t ∧ Fm [] [1059, 1060, 1061] s t ∧ o = .inl none ∧ (True)) := by
  refine ct_ofX G (by decide) (Nat.le_of_ble_eq_true rfl) (fun k X E ET hRt hXt q => ?_)
  show WS k 0 [(0, .ref (A 68)), (1, .int (Int32.ofInt x))] [] _ 0 0
  have F : Fm [] [1059, 1060, 1061] s s := fm_rf _ _ s
  have L22 : ∀ (n : Nat) (t : PS) (xv c : Int), Bd t → Fm [] [1059, 1060, 1061] s t → ((0 ≤ xv ∧ xv ≤ 11) ∧ 0 ≤ c ∧ c ≤ 14) → (14 - c : Int).toNat < n → (∀ (t' : PS) (c' : Int), Bd t' → Fm [] [1059, 1060, 1061] s t' → ((0 ≤ xv ∧ xv ≤ 11) ∧ 0 ≤ c' ∧ c' ≤ 14) → WS k 48 [(0, .ref (A 68)), (1, .int (Int32.ofInt xv)), (2, .int (Int32.ofInt c'))] [] (Wd A dT t') 0 0) → WS k 22 [(0, .ref (A 68)), (1, .int (Int32.ofInt xv)), (2, .int (Int32.ofInt c))] [] (Wd A dT t) 0 0 := by
    intro n
    induction n with
    | zero =>
      intro t xv c I F hi hm kx
      exact absurd hm (Nat.not_lt_zero _)
    | succ n ih =>
      intro t xv c I F hi hm kx
      refine z_load_n X (x := c) (show cdA 108 22 = some (.iload_n 2, 1, 0, 0, 0) from rfl) (List.Mem.tail _ (List.Mem.tail _ (List.Mem.head _))) ?_
      refine z_bipush X (show cdA 108 23 = some (.bipush 14, 2, 0, 0, 14) from rfl) ?_
      refine z_icmp_ge X (t := 48) (show cdA 108 25 = some (.if_icmp .ge 23, 3, 3, 0, 0) from rfl) (by decide) ⟨by first | exact oq_fa4e5087 hi.2.1 | omega, by first | exact oq_b2d5d781 hi.2.2 | omega⟩ (by decide) (fun g1001 => ?_) (fun g1001 => ?_)
      ·
        refine WS_lv (lv := [(0, .ref (A 68)), (1, .int (Int32.ofInt xv)), (2, .int (Int32.ofInt c))]) (List.forall_mem_cons.mpr ⟨(List.Mem.head _), (List.forall_mem_cons.mpr ⟨(List.Mem.tail _ (List.Mem.head _)), (List.forall_mem_cons.mpr ⟨(List.Mem.tail _ (List.Mem.tail _ (List.Mem.head _))), (fun q h => absurd h List.not_mem_nil)⟩)⟩)⟩) ?_
        exact kx _ c I F (by first | exact ⟨And.intro (hi.1.1) (hi.1.2), hi.2.1, hi.2.2⟩ | omega)
      ·
        refine z_aload_n X (x := A 68) (show cdA 108 28 = some (.aload_n 0, 1, 0, 0, 0) from rfl) (List.Mem.head _) ?_
        refine s_getR X 68 (show cdA 108 29 = some (.getfield 22, 3, 9, 4, 0) from rfl) (by decide) rfl rfl ?_
        refine z_load_n X (x := xv) (show cdA 108 32 = some (.iload_n 1, 1, 0, 0, 0) from rfl) (List.Mem.tail _ (List.Mem.head _)) ?_
        refine z_bipush X (show cdA 108 33 = some (.bipush 7, 2, 0, 0, 7) from rfl) ?_
        refine z_mul X (show cdA 108 35 = some (.imul, 1, 0, 0, 0) from rfl) ?_
        refine z_const X (show cdA 108 36 = some (.iconst 2, 1, 0, 0, 0) from rfl) ?_
        refine z_mul X (show cdA 108 37 = some (.imul, 1, 0, 0, 0) from rfl) ?_
        refine z_load_n X (x := c) (show cdA 108 38 = some (.iload_n 2, 1, 0, 0, 0) from rfl) (List.Mem.tail _ (List.Mem.tail _ (List.Mem.head _))) ?_
        refine z_add X (show cdA 108 39 = some (.iadd, 1, 0, 0, 0) from rfl) ?_
        refine w_lconst X.1 (ax_d X (show cdA 108 40 = some (.lconst 0, 1, 0, 0, 0) from rfl)) rfl ?_
        refine z_anyJ (fun j1002 => ?_)
        refine z_last X 72 (show cdA 108 41 = some (.lastore, 1, 0, 0, 0) from rfl) (by decide) rfl (by first | exact oq_5903f419 hi.1.1 hi.2.1 | omega) (show (((xv * 7) * 2) + c) < 168 by first | exact oq_7e6b1f23 hi.1.2 g1001 | omega) (by decide) ?_
        obtain ⟨s1003, hs1003⟩ : ∃ x0, x0 = uD t 60 ((((xv * 7) * 2) + c)).toNat j1002 := ⟨_, rfl⟩
        rw [← hs1003]
        have Is1003 : Bd s1003 := by rw [hs1003]; exact bd_D I
        have Fs1003 : Fm [] [1059, 1060, 1061] s s1003 := by rw [hs1003]; exact fm_D F (show 60 + 1000 ∈ _ by decide)
        refine z_inc X (x := c) (lv' := [(2, .int (Int32.ofInt (c + 1))), (0, .ref (A 68)), (1, .int (Int32.ofInt xv))]) (show cdA 108 42 = some (.iinc 2 1, 3, 0, 0, 0) from rfl) (by decide) (List.Mem.tail _ (List.Mem.tail _ (List.Mem.head _))) (fun _ h => h) ?_
        refine z_goto X (t := 22) (show cdA 108 45 = some (.goto (-23), 3, 0, 0, 0) from rfl) (by decide) ?_
        refine WS_lv (lv := [(0, .ref (A 68)), (1, .int (Int32.ofInt xv)), (2, .int (Int32.ofInt (c + 1)))]) (List.forall_mem_cons.mpr ⟨(List.Mem.tail _ (List.Mem.head _)), (List.forall_mem_cons.mpr ⟨(List.Mem.tail _ (List.Mem.tail _ (List.Mem.head _))), (List.forall_mem_cons.mpr ⟨(List.Mem.head _), (fun q h => absurd h List.not_mem_nil)⟩)⟩)⟩) ?_
        exact ih _ xv (c + 1) Is1003 Fs1003 (by first | exact ⟨And.intro (hi.1.1) (hi.1.2), oq_54f49eb5 hi.2.1, oq_99721bc4 g1001⟩ | omega) (by first | exact qk_me hm (by decide) (oq_bddbca7a g1001) | omega) kx
  have L50 : ∀ (n : Nat) (t : PS) (xv c : Int), Bd t → Fm [] [1059, 1060, 1061] s t → ((0 ≤ xv ∧ xv ≤ 11) ∧ 0 ≤ c ∧ c ≤ 5) → (5 - c : Int).toNat < n → (∀ (t' : PS) (c' : Int), Bd t' → Fm [] [1059, 1060, 1061] s t' → ((0 ≤ xv ∧ xv ≤ 11) ∧ 0 ≤ c' ∧ c' ≤ 5) → WS k 72 [(0, .ref (A 68)), (1, .int (Int32.ofInt xv)), (2, .int (Int32.ofInt c'))] [] (Wd A dT t') 0 0) → WS k 50 [(0, .ref (A 68)), (1, .int (Int32.ofInt xv)), (2, .int (Int32.ofInt c))] [] (Wd A dT t) 0 0 := by
    intro n
    induction n with
    | zero =>
      intro t xv c I F hi hm kx
      exact absurd hm (Nat.not_lt_zero _)
    | succ n ih =>
      intro t xv c I F hi hm kx
      refine z_load_n X (x := c) (show cdA 108 50 = some (.iload_n 2, 1, 0, 0, 0) from rfl) (List.Mem.tail _ (List.Mem.tail _ (List.Mem.head _))) ?_
      refine z_const X (show cdA 108 51 = some (.iconst 5, 1, 0, 0, 0) from rfl) ?_
      refine z_icmp_ge X (t := 72) (show cdA 108 52 = some (.if_icmp .ge 20, 3, 3, 0, 0) from rfl) (by decide) ⟨by first | exact oq_fa4e5087 hi.2.1 | omega, by first | exact oq_a3dd55e5 hi.2.2 | omega⟩ (by decide) (fun g2001 => ?_) (fun g2001 => ?_)
      ·
        refine WS_lv (lv := [(0, .ref (A 68)), (1, .int (Int32.ofInt xv)), (2, .int (Int32.ofInt c))]) (List.forall_mem_cons.mpr ⟨(List.Mem.head _), (List.forall_mem_cons.mpr ⟨(List.Mem.tail _ (List.Mem.head _)), (List.forall_mem_cons.mpr ⟨(List.Mem.tail _ (List.Mem.tail _ (List.Mem.head _))), (fun q h => absurd h List.not_mem_nil)⟩)⟩)⟩) ?_
        exact kx _ c I F (by first | exact ⟨And.intro (hi.1.1) (hi.1.2), hi.2.1, hi.2.2⟩ | omega)
      ·
        refine z_aload_n X (x := A 68) (show cdA 108 55 = some (.aload_n 0, 1, 0, 0, 0) from rfl) (List.Mem.head _) ?_
        refine s_getR X 68 (show cdA 108 56 = some (.getfield 25, 3, 9, 5, 0) from rfl) (by decide) rfl rfl ?_
        refine z_load_n X (x := xv) (show cdA 108 59 = some (.iload_n 1, 1, 0, 0, 0) from rfl) (List.Mem.tail _ (List.Mem.head _)) ?_
        refine z_const X (show cdA 108 60 = some (.iconst 5, 1, 0, 0, 0) from rfl) ?_
        refine z_mul X (show cdA 108 61 = some (.imul, 1, 0, 0, 0) from rfl) ?_
        refine z_load_n X (x := c) (show cdA 108 62 = some (.iload_n 2, 1, 0, 0, 0) from rfl) (List.Mem.tail _ (List.Mem.tail _ (List.Mem.head _))) ?_
        refine z_add X (show cdA 108 63 = some (.iadd, 1, 0, 0, 0) from rfl) ?_
        refine w_lconst X.1 (ax_d X (show cdA 108 64 = some (.lconst 0, 1, 0, 0, 0) from rfl)) rfl ?_
        refine z_anyJ (fun j2002 => ?_)
        refine z_last X 73 (show cdA 108 65 = some (.lastore, 1, 0, 0, 0) from rfl) (by decide) rfl (by first | exact oq_59a253bd hi.1.1 hi.2.1 | omega) (show ((xv * 5) + c) < 60 by first | exact oq_7279bf48 hi.1.2 g2001 | omega) (by decide) ?_
        obtain ⟨s2003, hs2003⟩ : ∃ x0, x0 = uD t 61 (((xv * 5) + c)).toNat j2002 := ⟨_, rfl⟩
        rw [← hs2003]
        have Is2003 : Bd s2003 := by rw [hs2003]; exact bd_D I
        have Fs2003 : Fm [] [1059, 1060, 1061] s s2003 := by rw [hs2003]; exact fm_D F (show 61 + 1000 ∈ _ by decide)
        refine z_inc X (x := c) (lv' := [(2, .int (Int32.ofInt (c + 1))), (0, .ref (A 68)), (1, .int (Int32.ofInt xv))]) (show cdA 108 66 = some (.iinc 2 1, 3, 0, 0, 0) from rfl) (by decide) (List.Mem.tail _ (List.Mem.tail _ (List.Mem.head _))) (fun _ h => h) ?_
        refine z_goto X (t := 50) (show cdA 108 69 = some (.goto (-19), 3, 0, 0, 0) from rfl) (by decide) ?_
        refine WS_lv (lv := [(0, .ref (A 68)), (1, .int (Int32.ofInt xv)), (2, .int (Int32.ofInt (c + 1)))]) (List.forall_mem_cons.mpr ⟨(List.Mem.tail _ (List.Mem.head _)), (List.forall_mem_cons.mpr ⟨(List.Mem.tail _ (List.Mem.tail _ (List.Mem.head _))), (List.forall_mem_cons.mpr ⟨(List.Mem.head _), (fun q h => absurd h List.not_mem_nil)⟩)⟩)⟩) ?_
        exact ih _ xv (c + 1) Is2003 Fs2003 (by first | exact ⟨And.intro (hi.1.1) (hi.1.2), oq_54f49eb5 hi.2.1, oq_c2445583 g2001⟩ | omega) (by first | exact qk_me hm (by decide) (oq_33241a94 g2001) | omega) kx
  refine z_aload_n X (x := A 68) (show cdA 108 0 = some (.aload_n 0, 1, 0, 0, 0) from rfl) (List.Mem.head _) ?_
  refine s_getR X 68 (show cdA 108 1 = some (.getfield 18, 3, 9, 3, 0) from rfl) (by decide) rfl rfl ?_
  refine z_load_n X (x := x) (show cdA 108 4 = some (.iload_n 1, 1, 0, 0, 0) from rfl) (List.Mem.tail _ (List.Mem.head _)) ?_
  refine z_const X (show cdA 108 5 = some (.iconst 2, 1, 0, 0, 0) from rfl) ?_
  refine z_mul X (show cdA 108 6 = some (.imul, 1, 0, 0, 0) from rfl) ?_
  refine w_lconst X.1 (ax_d X (show cdA 108 7 = some (.lconst 0, 1, 0, 0, 0) from rfl)) rfl ?_
  refine z_anyJ (fun j1 => ?_)
  refine z_last X 71 (show cdA 108 8 = some (.lastore, 1, 0, 0, 0) from rfl) (by decide) rfl (by first | exact oq_cfc6ac54 p0.1 | omega) (show (x * 2) < 24 by first | exact oq_36c3846a p0.2 | omega) (by decide) ?_
  obtain ⟨s2, hs2⟩ : ∃ x0, x0 = uD s 59 ((x * 2)).toNat j1 := ⟨_, rfl⟩
  rw [← hs2]
  have Is2 : Bd s2 := by rw [hs2]; exact bd_D I
  have Fs2 : Fm [] [1059, 1060, 1061] s s2 := by rw [hs2]; exact fm_D F (show 59 + 1000 ∈ _ by decide)
  refine z_aload_n X (x := A 68) (show cdA 108 9 = some (.aload_n 0, 1, 0, 0, 0) from rfl) (List.Mem.head _) ?_
  refine s_getR X 68 (show cdA 108 10 = some (.getfield 18, 3, 9, 3, 0) from rfl) (by decide) rfl rfl ?_
  refine z_load_n X (x := x) (show cdA 108 13 = some (.iload_n 1, 1, 0, 0, 0) from rfl) (List.Mem.tail _ (List.Mem.head _)) ?_
  refine z_const X (show cdA 108 14 = some (.iconst 2, 1, 0, 0, 0) from rfl) ?_
  refine z_mul X (show cdA 108 15 = some (.imul, 1, 0, 0, 0) from rfl) ?_
  refine z_const X (show cdA 108 16 = some (.iconst 1, 1, 0, 0, 0) from rfl) ?_
  refine z_add X (show cdA 108 17 = some (.iadd, 1, 0, 0, 0) from rfl) ?_
  refine w_lconst X.1 (ax_d X (show cdA 108 18 = some (.lconst 0, 1, 0, 0, 0) from rfl)) rfl ?_
  refine z_anyJ (fun j3 => ?_)
  refine z_last X 71 (show cdA 108 19 = some (.lastore, 1, 0, 0, 0) from rfl) (by decide) rfl (by first | exact oq_8a3e0277 p0.1 | omega) (show ((x * 2) + 1) < 24 by first | exact oq_ad30b59c p0.2 | omega) (by decide) ?_
  obtain ⟨s4, hs4⟩ : ∃ x0, x0 = uD s2 59 (((x * 2) + 1)).toNat j3 := ⟨_, rfl⟩
  rw [← hs4]
  have Is4 : Bd s4 := by rw [hs4]; exact bd_D Is2
  have Fs4 : Fm [] [1059, 1060, 1061] s s4 := by rw [hs4]; exact fm_D Fs2 (show 59 + 1000 ∈ _ by decide)
  refine z_const X (show cdA 108 20 = some (.iconst 0, 1, 0, 0, 0) from rfl) ?_
  refine z_store_n X (lv' := [(2, .int (Int32.ofInt 0)), (0, .ref (A 68)), (1, .int (Int32.ofInt x))]) (show cdA 108 21 = some (.istore_n 2, 1, 0, 0, 0) from rfl) (by decide) (fun _ h => h) ?_
  refine WS_lv (lv := [(0, .ref (A 68)), (1, .int (Int32.ofInt x)), (2, .int (Int32.ofInt 0))]) (List.forall_mem_cons.mpr ⟨(List.Mem.tail _ (List.Mem.head _)), (List.forall_mem_cons.mpr ⟨(List.Mem.tail _ (List.Mem.tail _ (List.Mem.head _))), (List.forall_mem_cons.mpr ⟨(List.Mem.head _), (fun q h => absurd h List.not_mem_nil)⟩)⟩)⟩) ?_
  refine L22 ((14 - 0 : Int).toNat + 1) s4 x 0 Is4 Fs4 (by first | exact ⟨And.intro (p0.1) (p0.2), by decide, by decide⟩ | omega) (Nat.lt_succ_self _) ?_
  intro s5 x6 Is5 Fs5 hs5
  refine z_const X (show cdA 108 48 = some (.iconst 0, 1, 0, 0, 0) from rfl) ?_
  refine z_store_n X (lv' := [(2, .int (Int32.ofInt 0)), (0, .ref (A 68)), (1, .int (Int32.ofInt x))]) (show cdA 108 49 = some (.istore_n 2, 1, 0, 0, 0) from rfl) (by decide) (fun _ h => h) ?_
  refine WS_lv (lv := [(0, .ref (A 68)), (1, .int (Int32.ofInt x)), (2, .int (Int32.ofInt 0))]) (List.forall_mem_cons.mpr ⟨(List.Mem.tail _ (List.Mem.head _)), (List.forall_mem_cons.mpr ⟨(List.Mem.tail _ (List.Mem.tail _ (List.Mem.head _))), (List.forall_mem_cons.mpr ⟨(List.Mem.head _), (fun q h => absurd h List.not_mem_nil)⟩)⟩)⟩) ?_
  refine L50 ((5 - 0 : Int).toNat + 1) s5 x 0 Is5 Fs5 (by first | exact ⟨And.intro (hs5.1.1) (hs5.1.2), by decide, by decide⟩ | omega) (Nat.lt_succ_self _) ?_
  intro s7 x8 Is7 Fs7 hs7
  exact w_vret X.1 q hRt (ax_d X (show cdA 108 72 = some (.return_, 1, 0, 0, 0) from rfl)) (Nat.zero_le _) (Nat.zero_le _) ⟨_, rfl, Is7, Fs7, rfl, trivial⟩
set_option maxRecDepth 4000 in
theorem c9_setStep_68 (G : GX l s0 D tys a0 dT) (I : Bd s) {x y z : Int} (p0 : 0 ≤ x ∧ x ≤ 11) (p1 : 0 ≤ y ∧ y ≤ 127) (p2 : 0 ≤ z ∧ z ≤ 5) : CT l s0 D A dT 109 (rmN 109) [.ref (A 68), .int (Int32.ofInt x), .int (Int32.ofInt y), .int (Int32.ofInt z)] s (fun o t => Bd t ∧ Fm [] [1061] s t ∧ o = .inl none ∧ (True)) := by
  refine ct_ofX G (by decide) (Nat.le_of_ble_eq_true rfl) (fun k X E ET hRt hXt q => ?_)
  show WS k 0 [(0, .ref (A 68)), (1, .int (Int32.ofInt x)), (2, .int (Int32.ofInt y)), (3, .int (Int32.ofInt z))] [] _ 0 0
  have F : Fm [] [1061] s s := fm_rf _ _ s
  refine z_load_n X (x := z) (show cdA 109 0 = some (.iload_n 3, 1, 0, 0, 0) from rfl) (List.Mem.tail _ (List.Mem.tail _ (List.Mem.tail _ (List.Mem.head _)))) ?_
  refine z_const X (show cdA 109 1 = some (.iconst 4, 1, 0, 0, 0) from rfl) ?_
  refine z_icmp_lt X (t := 9) (show cdA 109 2 = some (.if_icmp .lt 7, 3, 2, 0, 0) from rfl) (by decide) ⟨by first | exact oq_fa4e5087 p2.1 | omega, by first | exact oq_a3dd55e5 p2.2 | omega⟩ (by decide) (fun g1 => ?_) (fun g1 => ?_)
  ·
    refine z_load_n X (x := z) (show cdA 109 9 = some (.iload_n 3, 1, 0, 0, 0) from rfl) (List.Mem.tail _ (List.Mem.tail _ (List.Mem.tail _ (List.Mem.head _)))) ?_
    refine z_const X (show cdA 109 10 = some (.iconst 2, 1, 0, 0, 0) from rfl) ?_
    refine z_quot X (show cdA 109 11 = some (.idiv, 1, 0, 0, 0) from rfl) (by first | exact p2.1 | omega) ⟨by first | exact oq_fa4e5087 p2.1 | omega, by first | exact oq_f46e1d28 g1 | omega⟩ (by decide) (by decide) ?_
    refine z_const X (show cdA 109 12 = some (.iconst 2, 1, 0, 0, 0) from rfl) ?_
    refine z_mul X (show cdA 109 13 = some (.imul, 1, 0, 0, 0) from rfl) ?_
    refine z_load_n X (x := y) (show cdA 109 14 = some (.iload_n 2, 1, 0, 0, 0) from rfl) (List.Mem.tail _ (List.Mem.tail _ (List.Mem.head _))) ?_
    refine z_bipush X (show cdA 109 15 = some (.bipush 64, 2, 0, 0, 64) from rfl) ?_
    refine z_quot X (show cdA 109 17 = some (.idiv, 1, 0, 0, 0) from rfl) (by first | exact p1.1 | omega) ⟨by first | exact oq_fa4e5087 p1.1 | omega, by first | exact oq_07d346ce p1.2 | omega⟩ (by decide) (by decide) ?_
    refine z_add X (show cdA 109 18 = some (.iadd, 1, 0, 0, 0) from rfl) ?_
    refine z_store X (lv' := [(4, .int (Int32.ofInt (((z / 2) * 2) + (y / 64)))), (0, .ref (A 68)), (1, .int (Int32.ofInt x)), (2, .int (Int32.ofInt y)), (3, .int (Int32.ofInt z))]) (show cdA 109 19 = some (.istore 4, 2, 0, 0, 0) from rfl) (by decide) (fun _ h => h) ?_
    refine z_aload_n X (x := A 68) (show cdA 109 21 = some (.aload_n 0, 1, 0, 0, 0) from rfl) (List.Mem.tail _ (List.Mem.head _)) ?_
    refine s_getR X 68 (show cdA 109 22 = some (.getfield 25, 3, 9, 5, 0) from rfl) (by decide) rfl rfl ?_
    refine z_load_n X (x := x) (show cdA 109 25 = some (.iload_n 1, 1, 0, 0, 0) from rfl) (List.Mem.tail _ (List.Mem.tail _ (List.Mem.head _))) ?_
    refine z_const X (show cdA 109 26 = some (.iconst 5, 1, 0, 0, 0) from rfl) ?_
    refine z_mul X (show cdA 109 27 = some (.imul, 1, 0, 0, 0) from rfl) ?_
    refine z_load X (x := (((z / 2) * 2) + (y / 64))) (show cdA 109 28 = some (.iload 4, 2, 0, 0, 0) from rfl) (List.Mem.head _) ?_
    refine z_add X (show cdA 109 30 = some (.iadd, 1, 0, 0, 0) from rfl) ?_
    refine w_dup2_11 X.1 (ax_d X (show cdA 109 31 = some (.dup2, 1, 0, 0, 0) from rfl)) rfl rfl ?_
    refine z_lald X 73 (show cdA 109 32 = some (.laload, 1, 0, 0, 0) from rfl) (by decide) rfl (by omega) (show ((x * 5) + (((z / 2) * 2) + (y / 64))) < 60 by first | exact oq_87ebc822 g1 p1.2 p0.2 | omega) (by decide) (fun j2 => ?_)
    refine w_lconst X.1 (ax_d X (show cdA 109 33 = some (.lconst 1, 1, 0, 0, 0) from rfl)) rfl ?_
    refine z_anyJ (fun j3 => ?_)
    refine z_load_n X (x := y) (show cdA 109 34 = some (.iload_n 2, 1, 0, 0, 0) from rfl) (List.Mem.tail _ (List.Mem.tail _ (List.Mem.tail _ (List.Mem.head _)))) ?_
    refine z_bipush X (show cdA 109 35 = some (.bipush 63, 2, 0, 0, 63) from rfl) ?_
    refine z_andm X (show cdA 109 37 = some (.iand, 1, 0, 0, 0) from rfl) (by decide) (by decide) (fun y4 hy4 gy4 => ?_)
    refine w_lshl X.1 (ax_d X (show cdA 109 38 = some (.lshl, 1, 0, 0, 0) from rfl)) ?_
    refine z_anyJ (fun j5 => ?_)
    refine w_lor X.1 (ax_d X (show cdA 109 39 = some (.lor, 1, 0, 0, 0) from rfl)) ?_
    refine z_anyJ (fun j6 => ?_)
    refine z_last X 73 (show cdA 109 40 = some (.lastore, 1, 0, 0, 0) from rfl) (by decide) rfl (by omega) (show ((x * 5) + (((z / 2) * 2) + (y / 64))) < 60 by first | exact oq_87ebc822 g1 p1.2 p0.2 | omega) (by decide) ?_
    obtain ⟨s7, hs7⟩ : ∃ x0, x0 = uD s 61 (((x * 5) + (((z / 2) * 2) + (y / 64)))).toNat j6 := ⟨_, rfl⟩
    rw [← hs7]
    have Is7 : Bd s7 := by rw [hs7]; exact bd_D I
    have Fs7 : Fm [] [1061] s s7 := by rw [hs7]; exact fm_D F (show 61 + 1000 ∈ _ by decide)
    exact w_vret X.1 q hRt (ax_d X (show cdA 109 41 = some (.return_, 1, 0, 0, 0) from rfl)) (Nat.zero_le _) (Nat.zero_le _) ⟨_, rfl, Is7, Fs7, rfl, trivial⟩
  ·
    refine z_const X (show cdA 109 5 = some (.iconst 4, 1, 0, 0, 0) from rfl) ?_
    refine z_goto X (t := 19) (show cdA 109 6 = some (.goto 13, 3, 0, 0, 0) from rfl) (by decide) ?_
    refine z_store X (lv' := [(4, .int (Int32.ofInt 4)), (0, .ref (A 68)), (1, .int (Int32.ofInt x)), (2, .int (Int32.ofInt y)), (3, .int (Int32.ofInt z))]) (show cdA 109 19 = some (.istore 4, 2, 0, 0, 0) from rfl) (by decide) (fun _ h => h) ?_
    refine z_aload_n X (x := A 68) (show cdA 109 21 = some (.aload_n 0, 1, 0, 0, 0) from rfl) (List.Mem.tail _ (List.Mem.head _)) ?_
    refine s_getR X 68 (show cdA 109 22 = some (.getfield 25, 3, 9, 5, 0) from rfl) (by decide) rfl rfl ?_
    refine z_load_n X (x := x) (show cdA 109 25 = some (.iload_n 1, 1, 0, 0, 0) from rfl) (List.Mem.tail _ (List.Mem.tail _ (List.Mem.head _))) ?_
    refine z_const X (show cdA 109 26 = some (.iconst 5, 1, 0, 0, 0) from rfl) ?_
    refine z_mul X (show cdA 109 27 = some (.imul, 1, 0, 0, 0) from rfl) ?_
    refine z_load X (x := 4) (show cdA 109 28 = some (.iload 4, 2, 0, 0, 0) from rfl) (List.Mem.head _) ?_
    refine z_add X (show cdA 109 30 = some (.iadd, 1, 0, 0, 0) from rfl) ?_
    refine w_dup2_11 X.1 (ax_d X (show cdA 109 31 = some (.dup2, 1, 0, 0, 0) from rfl)) rfl rfl ?_
    refine z_lald X 73 (show cdA 109 32 = some (.laload, 1, 0, 0, 0) from rfl) (by decide) rfl (by first | exact oq_733cd31a p0.1 | omega) (show ((x * 5) + 4) < 60 by first | exact oq_23e13238 p0.2 | omega) (by decide) (fun j8 => ?_)
    refine w_lconst X.1 (ax_d X (show cdA 109 33 = some (.lconst 1, 1, 0, 0, 0) from rfl)) rfl ?_
    refine z_anyJ (fun j9 => ?_)
    refine z_load_n X (x := y) (show cdA 109 34 = some (.iload_n 2, 1, 0, 0, 0) from rfl) (List.Mem.tail _ (List.Mem.tail _ (List.Mem.tail _ (List.Mem.head _)))) ?_
    refine z_bipush X (show cdA 109 35 = some (.bipush 63, 2, 0, 0, 63) from rfl) ?_
    refine z_andm X (show cdA 109 37 = some (.iand, 1, 0, 0, 0) from rfl) (by decide) (by decide) (fun y10 hy10 gy10 => ?_)
    refine w_lshl X.1 (ax_d X (show cdA 109 38 = some (.lshl, 1, 0, 0, 0) from rfl)) ?_
    refine z_anyJ (fun j11 => ?_)
    refine w_lor X.1 (ax_d X (show cdA 109 39 = some (.lor, 1, 0, 0, 0) from rfl)) ?_
    refine z_anyJ (fun j12 => ?_)
    refine z_last X 73 (show cdA 109 40 = some (.lastore, 1, 0, 0, 0) from rfl) (by decide) rfl (by first | exact oq_733cd31a p0.1 | omega) (show ((x * 5) + 4) < 60 by first | exact oq_23e13238 p0.2 | omega) (by decide) ?_
    obtain ⟨s13, hs13⟩ : ∃ x0, x0 = uD s 61 (((x * 5) + 4)).toNat j12 := ⟨_, rfl⟩
    rw [← hs13]
    have Is13 : Bd s13 := by rw [hs13]; exact bd_D I
    have Fs13 : Fm [] [1061] s s13 := by rw [hs13]; exact fm_D F (show 61 + 1000 ∈ _ by decide)
    exact w_vret X.1 q hRt (ax_d X (show cdA 109 41 = some (.return_, 1, 0, 0, 0) from rfl)) (Nat.zero_le _) (Nat.zero_le _) ⟨_, rfl, Is13, Fs13, rfl, trivial⟩
set_option maxRecDepth 4000 in
theorem c9_setWay_68_4 (G : GX l s0 D tys a0 dT) (I : Bd s) {x z w : Int} (p0 : 0 ≤ x ∧ x ≤ 11) (p1 : 0 ≤ w ∧ w ≤ 24) (p2 : 0 ≤ z ∧ z + w ≤ 288) : CT l s0 D A dT 107 (rmN 107) [.ref (A 68), .int (Int32.ofInt x), .ref (A 4), .int (Int32.ofInt z), .int (Int32.ofInt w)] s (fun o t => Bd t ∧ Fm [] [57, 58, 1059, 1060, 1061] s t ∧ o = .inl none ∧ (True)) := by
  refine ct_ofX G (by decide) (Nat.le_of_ble_eq_true rfl) (fun k X E ET hRt hXt q => ?_)
  show WS k 0 [(0, .ref (A 68)), (1, .int (Int32.ofInt x)), (2, .ref (A 4)), (3, .int (Int32.ofInt z)), (4, .int (Int32.ofInt w))] [] _ 0 0
  have F : Fm [] [57, 58, 1059, 1060, 1061] s s := fm_rf _ _ s
  have L35 : ∀ (n : Nat) (t : PS) (xv zv wv go c : Int), Bd t → Fm [] [57, 58, 1059, 1060, 1061] s t → ((0 ≤ xv ∧ xv ≤ 11) ∧ (0 ≤ wv ∧ wv ≤ 24) ∧ (0 ≤ zv ∧ zv + wv ≤ 288) ∧ (0 ≤ go ∧ go ≤ 6) ∧ 0 ≤ c ∧ c ≤ 24) → (24 - c : Int).toNat < n → (∀ (t' : PS) (go' c' : Int), Bd t' → Fm [] [57, 58, 1059, 1060, 1061] s t' → ((0 ≤ xv ∧ xv ≤ 11) ∧ (0 ≤ wv ∧ wv ≤ 24) ∧ (0 ≤ zv ∧ zv + wv ≤ 288) ∧ (0 ≤ go' ∧ go' ≤ 6) ∧ 0 ≤ c' ∧ c' ≤ 24) → WS k 153 [(0, .ref (A 68)), (2, .ref (A 4)), (1, .int (Int32.ofInt xv)), (3, .int (Int32.ofInt zv)), (4, .int (Int32.ofInt wv)), (5, .int (Int32.ofInt go')), (6, .int (Int32.ofInt c'))] [] (Wd A dT t') 0 0) → WS k 35 [(0, .ref (A 68)), (2, .ref (A 4)), (1, .int (Int32.ofInt xv)), (3, .int (Int32.ofInt zv)), (4, .int (Int32.ofInt wv)), (5, .int (Int32.ofInt go)), (6, .int (Int32.ofInt c))] [] (Wd A dT t) 0 0 := by
    intro n
    induction n with
    | zero =>
      intro t xv zv wv go c I F hi hm kx
      exact absurd hm (Nat.not_lt_zero _)
    | succ n ih =>
      intro t xv zv wv go c I F hi hm kx
      refine z_load X (x := c) (show cdA 107 35 = some (.iload 6, 2, 0, 0, 0) from rfl) (List.Mem.tail _ (List.Mem.tail _ (List.Mem.tail _ (List.Mem.tail _ (List.Mem.tail _ (List.Mem.tail _ (List.Mem.head _))))))) ?_
      refine z_load X (x := wv) (show cdA 107 37 = some (.iload 4, 2, 0, 0, 0) from rfl) (List.Mem.tail _ (List.Mem.tail _ (List.Mem.tail _ (List.Mem.tail _ (List.Mem.head _))))) ?_
      refine z_icmp_ge X (t := 153) (show cdA 107 39 = some (.if_icmp .ge 114, 3, 3, 0, 0) from rfl) (by decide) ⟨by first | exact oq_fa4e5087 hi.2.2.2.2.1 | omega, by first | exact oq_5bcd337f hi.2.2.2.2.2 | omega⟩ ⟨by first | exact oq_fa4e5087 hi.2.1.1 | omega, by first | exact oq_5bcd337f hi.2.1.2 | omega⟩ (fun g1001 => ?_) (fun g1001 => ?_)
      ·
        refine WS_lv (lv := [(0, .ref (A 68)), (2, .ref (A 4)), (1, .int (Int32.ofInt xv)), (3, .int (Int32.ofInt zv)), (4, .int (Int32.ofInt wv)), (5, .int (Int32.ofInt go)), (6, .int (Int32.ofInt c))]) (List.forall_mem_cons.mpr ⟨(List.Mem.head _), (List.forall_mem_cons.mpr ⟨(List.Mem.tail _ (List.Mem.head _)), (List.forall_mem_cons.mpr ⟨(List.Mem.tail _ (List.Mem.tail _ (List.Mem.head _))), (List.forall_mem_cons.mpr ⟨(List.Mem.tail _ (List.Mem.tail _ (List.Mem.tail _ (List.Mem.head _)))), (List.forall_mem_cons.mpr ⟨(List.Mem.tail _ (List.Mem.tail _ (List.Mem.tail _ (List.Mem.tail _ (List.Mem.head _))))), (List.forall_mem_cons.mpr ⟨(List.Mem.tail _ (List.Mem.tail _ (List.Mem.tail _ (List.Mem.tail _ (List.Mem.tail _ (List.Mem.head _)))))), (List.forall_mem_cons.mpr ⟨(List.Mem.tail _ (List.Mem.tail _ (List.Mem.tail _ (List.Mem.tail _ (List.Mem.tail _ (List.Mem.tail _ (List.Mem.head _))))))), (fun q h => absurd h List.not_mem_nil)⟩)⟩)⟩)⟩)⟩)⟩)⟩) ?_
        exact kx _ go c I F (by first | exact ⟨And.intro (hi.1.1) (hi.1.2), And.intro (hi.2.1.1) (hi.2.1.2), And.intro (hi.2.2.1.1) (hi.2.2.1.2), And.intro (hi.2.2.2.1.1) (hi.2.2.2.1.2), hi.2.2.2.2.1, hi.2.2.2.2.2⟩ | omega)
      ·
        refine z_aload_n X (x := A 4) (show cdA 107 42 = some (.aload_n 2, 1, 0, 0, 0) from rfl) (List.Mem.tail _ (List.Mem.head _)) ?_
        refine z_load_n X (x := zv) (show cdA 107 43 = some (.iload_n 3, 1, 0, 0, 0) from rfl) (List.Mem.tail _ (List.Mem.tail _ (List.Mem.tail _ (List.Mem.head _)))) ?_
        refine z_load X (x := c) (show cdA 107 44 = some (.iload 6, 2, 0, 0, 0) from rfl) (List.Mem.tail _ (List.Mem.tail _ (List.Mem.tail _ (List.Mem.tail _ (List.Mem.tail _ (List.Mem.tail _ (List.Mem.head _))))))) ?_
        refine z_add X (show cdA 107 46 = some (.iadd, 1, 0, 0, 0) from rfl) ?_
        refine z_ald X 4 (show cdA 107 47 = some (.iaload, 1, 0, 0, 0) from rfl) (by decide) rfl (by first | exact oq_dd29f52d hi.2.2.1.1 hi.2.2.2.2.1 | omega) (show (zv + c) < 288 by first | exact oq_f2e7d959 hi.2.2.1.2 g1001 | omega) (by decide) ?_
        have b1002 : (0 : Int) ≤ iC t 1 ((zv + c)).toNat ∧ iC t 1 ((zv + c)).toNat ≤ 127 := I.2 1 _ (show ((zv + c)).toNat < 288 by first | exact oq_9482db17 hi.2.2.1.2 g1001 | omega)
        refine z_store X (lv' := [(7, .int (Int32.ofInt (iC t 1 ((zv + c)).toNat))), (0, .ref (A 68)), (2, .ref (A 4)), (1, .int (Int32.ofInt xv)), (3, .int (Int32.ofInt zv)), (4, .int (Int32.ofInt wv)), (5, .int (Int32.ofInt go)), (6, .int (Int32.ofInt c))]) (show cdA 107 48 = some (.istore 7, 2, 0, 0, 0) from rfl) (by decide) (fun _ h => h) ?_
        refine z_load X (x := c) (show cdA 107 50 = some (.iload 6, 2, 0, 0, 0) from rfl) (List.Mem.tail _ (List.Mem.tail _ (List.Mem.tail _ (List.Mem.tail _ (List.Mem.tail _ (List.Mem.tail _ (List.Mem.tail _ (List.Mem.head _)))))))) ?_
        refine z_const X (show cdA 107 52 = some (.iconst 1, 1, 0, 0, 0) from rfl) ?_
        refine z_add X (show cdA 107 53 = some (.iadd, 1, 0, 0, 0) from rfl) ?_
        refine z_load X (x := wv) (show cdA 107 54 = some (.iload 4, 2, 0, 0, 0) from rfl) (List.Mem.tail _ (List.Mem.tail _ (List.Mem.tail _ (List.Mem.tail _ (List.Mem.tail _ (List.Mem.head _)))))) ?_
        refine z_icmp_ge X (t := 94) (show cdA 107 56 = some (.if_icmp .ge 38, 3, 3, 0, 0) from rfl) (by decide) ⟨by first | exact oq_74de1e16 hi.2.2.2.2.1 | omega, by first | exact oq_3a454424 hi.2.2.2.2.2 | omega⟩ ⟨by first | exact oq_fa4e5087 hi.2.1.1 | omega, by first | exact oq_5bcd337f hi.2.1.2 | omega⟩ (fun g1003 => ?_) (fun g1003 => ?_)
        ·
          refine w_lconst X.1 (ax_d X (show cdA 107 94 = some (.lconst 1, 1, 0, 0, 0) from rfl)) rfl ?_
          refine z_anyJ (fun j1004 => ?_)
          refine z_load X (x := (iC t 1 ((zv + c)).toNat)) (show cdA 107 95 = some (.iload 7, 2, 0, 0, 0) from rfl) (List.Mem.head _) ?_
          refine z_bipush X (show cdA 107 97 = some (.bipush 63, 2, 0, 0, 63) from rfl) ?_
          refine z_andm X (show cdA 107 99 = some (.iand, 1, 0, 0, 0) from rfl) (by decide) (by decide) (fun y1005 hy1005 gy1005 => ?_)
          refine w_lshl X.1 (ax_d X (show cdA 107 100 = some (.lshl, 1, 0, 0, 0) from rfl)) ?_
          refine z_anyJ (fun j1006 => ?_)
          refine w_lstore X.1 (lv' := [(8, .long j1006), (7, .int (Int32.ofInt (iC t 1 ((zv + c)).toNat))), (0, .ref (A 68)), (2, .ref (A 4)), (1, .int (Int32.ofInt xv)), (3, .int (Int32.ofInt zv)), (4, .int (Int32.ofInt wv)), (5, .int (Int32.ofInt go)), (6, .int (Int32.ofInt c))]) (ax_d X (show cdA 107 101 = some (.lstore 8, 2, 0, 0, 0) from rfl)) (by rw [X.2.1.2.2]; decide) (fun _ h => h) ?_
          refine z_aload_n X (x := A 68) (show cdA 107 103 = some (.aload_n 0, 1, 0, 0, 0) from rfl) (List.Mem.tail _ (List.Mem.tail _ (List.Mem.head _))) ?_
          refine s_getR X 68 (show cdA 107 104 = some (.getfield 18, 3, 9, 3, 0) from rfl) (by decide) rfl rfl ?_
          refine z_load_n X (x := xv) (show cdA 107 107 = some (.iload_n 1, 1, 0, 0, 0) from rfl) (List.Mem.tail _ (List.Mem.tail _ (List.Mem.tail _ (List.Mem.tail _ (List.Mem.head _))))) ?_
          refine z_const X (show cdA 107 108 = some (.iconst 2, 1, 0, 0, 0) from rfl) ?_
          refine z_mul X (show cdA 107 109 = some (.imul, 1, 0, 0, 0) from rfl) ?_
          refine z_load X (x := (iC t 1 ((zv + c)).toNat)) (show cdA 107 110 = some (.iload 7, 2, 0, 0, 0) from rfl) (List.Mem.tail _ (List.Mem.head _)) ?_
          refine z_bipush X (show cdA 107 112 = some (.bipush 64, 2, 0, 0, 64) from rfl) ?_
          refine z_quot X (show cdA 107 114 = some (.idiv, 1, 0, 0, 0) from rfl) (by first | exact b1002.1 | omega) (rng_to _) (by decide) (by decide) ?_
          refine z_add X (show cdA 107 115 = some (.iadd, 1, 0, 0, 0) from rfl) ?_
          refine w_dup2_11 X.1 (ax_d X (show cdA 107 116 = some (.dup2, 1, 0, 0, 0) from rfl)) rfl rfl ?_
          refine z_lald X 71 (show cdA 107 117 = some (.laload, 1, 0, 0, 0) from rfl) (by decide) rfl (by first | exact oq_c0bd8137 b1002.1 hi.1.1 | omega) (show ((xv * 2) + ((iC t 1 ((zv + c)).toNat) / 64)) < 24 by first | exact oq_c80b6473 b1002.2 hi.1.2 | omega) (by decide) (fun j1007 => ?_)
          refine w_lload X.1 (ax_d X (show cdA 107 118 = some (.lload 8, 2, 0, 0, 0) from rfl)) (x := j1006) (List.Mem.head _) ?_
          refine w_lor X.1 (ax_d X (show cdA 107 120 = some (.lor, 1, 0, 0, 0) from rfl)) ?_
          refine z_anyJ (fun j1008 => ?_)
          refine z_last X 71 (show cdA 107 121 = some (.lastore, 1, 0, 0, 0) from rfl) (by decide) rfl (by first | exact oq_c0bd8137 b1002.1 hi.1.1 | omega) (show ((xv * 2) + ((iC t 1 ((zv + c)).toNat) / 64)) < 24 by first | exact oq_c80b6473 b1002.2 hi.1.2 | omega) (by decide) ?_
          obtain ⟨s1009, hs1009⟩ : ∃ x0, x0 = uD t 59 (((xv * 2) + ((iC t 1 ((zv + c)).toNat) / 64))).toNat j1008 := ⟨_, rfl⟩
          rw [← hs1009]
          have Is1009 : Bd s1009 := by rw [hs1009]; exact bd_D I
          have Fs1009 : Fm [] [57, 58, 1059, 1060, 1061] s s1009 := by rw [hs1009]; exact fm_D F (show 59 + 1000 ∈ _ by decide)
          refine z_aload_n X (x := A 68) (show cdA 107 122 = some (.aload_n 0, 1, 0, 0, 0) from rfl) (List.Mem.tail _ (List.Mem.tail _ (List.Mem.head _))) ?_
          refine s_getR X 68 (show cdA 107 123 = some (.getfield 22, 3, 9, 4, 0) from rfl) (by decide) rfl rfl ?_
          refine z_load_n X (x := xv) (show cdA 107 126 = some (.iload_n 1, 1, 0, 0, 0) from rfl) (List.Mem.tail _ (List.Mem.tail _ (List.Mem.tail _ (List.Mem.tail _ (List.Mem.head _))))) ?_
          refine z_bipush X (show cdA 107 127 = some (.bipush 7, 2, 0, 0, 7) from rfl) ?_
          refine z_mul X (show cdA 107 129 = some (.imul, 1, 0, 0, 0) from rfl) ?_
          refine z_load X (x := go) (show cdA 107 130 = some (.iload 5, 2, 0, 0, 0) from rfl) (List.Mem.tail _ (List.Mem.tail _ (List.Mem.tail _ (List.Mem.tail _ (List.Mem.tail _ (List.Mem.tail _ (List.Mem.tail _ (List.Mem.head _)))))))) ?_
          refine z_add X (show cdA 107 132 = some (.iadd, 1, 0, 0, 0) from rfl) ?_
          refine z_const X (show cdA 107 133 = some (.iconst 2, 1, 0, 0, 0) from rfl) ?_
          refine z_mul X (show cdA 107 134 = some (.imul, 1, 0, 0, 0) from rfl) ?_
          refine z_load X (x := (iC t 1 ((zv + c)).toNat)) (show cdA 107 135 = some (.iload 7, 2, 0, 0, 0) from rfl) (List.Mem.tail _ (List.Mem.head _)) ?_
          refine z_bipush X (show cdA 107 137 = some (.bipush 64, 2, 0, 0, 64) from rfl) ?_
          refine z_quot X (show cdA 107 139 = some (.idiv, 1, 0, 0, 0) from rfl) (by first | exact b1002.1 | omega) (rng_to _) (by decide) (by decide) ?_
          refine z_add X (show cdA 107 140 = some (.iadd, 1, 0, 0, 0) from rfl) ?_
          refine w_dup2_11 X.1 (ax_d X (show cdA 107 141 = some (.dup2, 1, 0, 0, 0) from rfl)) rfl rfl ?_
          refine z_lald X 72 (show cdA 107 142 = some (.laload, 1, 0, 0, 0) from rfl) (by decide) rfl (by first | exact oq_ea32c91a b1002.1 hi.2.2.2.1.1 hi.1.1 | omega) (show ((((xv * 7) + go) * 2) + ((iC t 1 ((zv + c)).toNat) / 64)) < 168 by first | exact oq_5da8d824 b1002.2 hi.2.2.2.1.2 hi.1.2 | omega) (by decide) (fun j1010 => ?_)
          refine w_lload X.1 (ax_d X (show cdA 107 143 = some (.lload 8, 2, 0, 0, 0) from rfl)) (x := j1006) (List.Mem.head _) ?_
          refine w_lor X.1 (ax_d X (show cdA 107 145 = some (.lor, 1, 0, 0, 0) from rfl)) ?_
          refine z_anyJ (fun j1011 => ?_)
          refine z_last X 72 (show cdA 107 146 = some (.lastore, 1, 0, 0, 0) from rfl) (by decide) rfl (by first | exact oq_ea32c91a b1002.1 hi.2.2.2.1.1 hi.1.1 | omega) (show ((((xv * 7) + go) * 2) + ((iC t 1 ((zv + c)).toNat) / 64)) < 168 by first | exact oq_5da8d824 b1002.2 hi.2.2.2.1.2 hi.1.2 | omega) (by decide) ?_
          obtain ⟨s1012, hs1012⟩ : ∃ x0, x0 = uD s1009 60 (((((xv * 7) + go) * 2) + ((iC t 1 ((zv + c)).toNat) / 64))).toNat j1011 := ⟨_, rfl⟩
          rw [← hs1012]
          have Is1012 : Bd s1012 := by rw [hs1012]; exact bd_D Is1009
          have Fs1012 : Fm [] [57, 58, 1059, 1060, 1061] s s1012 := by rw [hs1012]; exact fm_D Fs1009 (show 60 + 1000 ∈ _ by decide)
          refine z_inc X (x := c) (lv' := [(6, .int (Int32.ofInt (c + 1))), (8, .long j1006), (7, .int (Int32.ofInt (iC t 1 ((zv + c)).toNat))), (0, .ref (A 68)), (2, .ref (A 4)), (1, .int (Int32.ofInt xv)), (3, .int (Int32.ofInt zv)), (4, .int (Int32.ofInt wv)), (5, .int (Int32.ofInt go))]) (show cdA 107 147 = some (.iinc 6 1, 3, 0, 0, 0) from rfl) (by decide) (List.Mem.tail _ (List.Mem.tail _ (List.Mem.tail _ (List.Mem.tail _ (List.Mem.tail _ (List.Mem.tail _ (List.Mem.tail _ (List.Mem.tail _ (List.Mem.head _))))))))) (fun _ h => h) ?_
          refine z_goto X (t := 35) (show cdA 107 150 = some (.goto (-115), 3, 0, 0, 0) from rfl) (by decide) ?_
          refine WS_lv (lv := [(0, .ref (A 68)), (2, .ref (A 4)), (1, .int (Int32.ofInt xv)), (3, .int (Int32.ofInt zv)), (4, .int (Int32.ofInt wv)), (5, .int (Int32.ofInt go)), (6, .int (Int32.ofInt (c + 1)))]) (List.forall_mem_cons.mpr ⟨(List.Mem.tail _ (List.Mem.tail _ (List.Mem.tail _ (List.Mem.head _)))), (List.forall_mem_cons.mpr ⟨(List.Mem.tail _ (List.Mem.tail _ (List.Mem.tail _ (List.Mem.tail _ (List.Mem.head _))))), (List.forall_mem_cons.mpr ⟨(List.Mem.tail _ (List.Mem.tail _ (List.Mem.tail _ (List.Mem.tail _ (List.Mem.tail _ (List.Mem.head _)))))), (List.forall_mem_cons.mpr ⟨(List.Mem.tail _ (List.Mem.tail _ (List.Mem.tail _ (List.Mem.tail _ (List.Mem.tail _ (List.Mem.tail _ (List.Mem.head _))))))), (List.forall_mem_cons.mpr ⟨(List.Mem.tail _ (List.Mem.tail _ (List.Mem.tail _ (List.Mem.tail _ (List.Mem.tail _ (List.Mem.tail _ (List.Mem.tail _ (List.Mem.head _)))))))), (List.forall_mem_cons.mpr ⟨(List.Mem.tail _ (List.Mem.tail _ (List.Mem.tail _ (List.Mem.tail _ (List.Mem.tail _ (List.Mem.tail _ (List.Mem.tail _ (List.Mem.tail _ (List.Mem.head _))))))))), (List.forall_mem_cons.mpr ⟨(List.Mem.head _), (fun q h => absurd h List.not_mem_nil)⟩)⟩)⟩)⟩)⟩)⟩)⟩) ?_
          exact ih _ xv zv wv go (c + 1) Is1012 Fs1012 (by first | exact ⟨And.intro (hi.1.1) (hi.1.2), And.intro (hi.2.1.1) (hi.2.1.2), And.intro (hi.2.2.1.1) (hi.2.2.1.2), And.intro (hi.2.2.2.1.1) (hi.2.2.2.1.2), oq_54f49eb5 hi.2.2.2.2.1, oq_41473be0 g1001 hi.2.1.2⟩ | omega) (by first | exact qk_me hm (by decide) (oq_9dea93e6 g1001 hi.2.1.2) | omega) kx
        ·
          refine z_load X (x := (iC t 1 ((zv + c)).toNat)) (show cdA 107 59 = some (.iload 7, 2, 0, 0, 0) from rfl) (List.Mem.head _) ?_
          refine z_aload_n X (x := A 4) (show cdA 107 61 = some (.aload_n 2, 1, 0, 0, 0) from rfl) (List.Mem.tail _ (List.Mem.tail _ (List.Mem.head _))) ?_
          refine z_load_n X (x := zv) (show cdA 107 62 = some (.iload_n 3, 1, 0, 0, 0) from rfl) (List.Mem.tail _ (List.Mem.tail _ (List.Mem.tail _ (List.Mem.tail _ (List.Mem.head _))))) ?_
          refine z_load X (x := c) (show cdA 107 63 = some (.iload 6, 2, 0, 0, 0) from rfl) (List.Mem.tail _ (List.Mem.tail _ (List.Mem.tail _ (List.Mem.tail _ (List.Mem.tail _ (List.Mem.tail _ (List.Mem.tail _ (List.Mem.head _)))))))) ?_
          refine z_add X (show cdA 107 65 = some (.iadd, 1, 0, 0, 0) from rfl) ?_
          refine z_const X (show cdA 107 66 = some (.iconst 1, 1, 0, 0, 0) from rfl) ?_
          refine z_add X (show cdA 107 67 = some (.iadd, 1, 0, 0, 0) from rfl) ?_
          refine z_ald X 4 (show cdA 107 68 = some (.iaload, 1, 0, 0, 0) from rfl) (by decide) rfl (by first | exact oq_21f9cd09 hi.2.2.1.1 hi.2.2.2.2.1 | omega) (show ((zv + c) + 1) < 288 by first | exact oq_cc679ab7 hi.2.2.1.2 g1003 | omega) (by decide) ?_
          have b1013 : (0 : Int) ≤ iC t 1 (((zv + c) + 1)).toNat ∧ iC t 1 (((zv + c) + 1)).toNat ≤ 127 := I.2 1 _ (show (((zv + c) + 1)).toNat < 288 by first | exact oq_11b18baf hi.2.2.1.2 g1003 | omega)
          refine z_callS X (rm := rmN 102) (As := [.int (Int32.ofInt (iC t 1 ((zv + c)).toNat)), .int (Int32.ofInt (iC t 1 (((zv + c) + 1)).toNat))]) (st := []) (show cdA 107 69 = some (.invokestatic 119, 3, 102, 1, 0) from rfl) rfl (by rw [E.1, E.2.1, E.2.2.1]; exact c9_goBetween G I (by first | exact ⟨b1002.1, b1002.2⟩ | omega) (by first | exact ⟨b1013.1, b1013.2⟩ | omega)) ⟨by rw [E.2.2.2]; exact (show (rmN 102).frames + 1 ≤ (rmN 107).frames by decide), by rw [E.2.2.2]; exact (show 8 + (mNL (miB 102) + 11) + (rmN 102).locals ≤ (rmN 107).locals by decide), by rw [E.2.2.2]; exact (show 0 + (rmN 102).cells ≤ (rmN 107).cells by decide), by rw [E.2.2.2]; exact (show 0 + (rmN 102).slots ≤ (rmN 107).slots by decide)⟩ (Nat.le_of_ble_eq_true rfl) (fun vv s1014 hq => ?_) (fun ee s1014 hq => ?_)
          rotate_left
          · obtain ⟨rfl, e1015, hv, hrs1014, hps1014⟩ := hq; cases hv
          obtain ⟨rfl, e1015, hv, hrs1014, hps1014⟩ := hq
          cases hv
          show WS k 72 [(7, .int (Int32.ofInt (iC t 1 ((zv + c)).toNat))), (0, .ref (A 68)), (2, .ref (A 4)), (1, .int (Int32.ofInt xv)), (3, .int (Int32.ofInt zv)), (4, .int (Int32.ofInt wv)), (5, .int (Int32.ofInt go)), (6, .int (Int32.ofInt c))] [.int (Int32.ofInt e1015)] (Wd A dT t) 0 0
          refine z_store X (lv' := [(5, .int (Int32.ofInt e1015)), (7, .int (Int32.ofInt (iC t 1 ((zv + c)).toNat))), (0, .ref (A 68)), (2, .ref (A 4)), (1, .int (Int32.ofInt xv)), (3, .int (Int32.ofInt zv)), (4, .int (Int32.ofInt wv)), (6, .int (Int32.ofInt c))]) (show cdA 107 72 = some (.istore 5, 2, 0, 0, 0) from rfl) (by decide) (fun _ h => h) ?_
          refine z_aload_n X (x := A 68) (show cdA 107 74 = some (.aload_n 0, 1, 0, 0, 0) from rfl) (List.Mem.tail _ (List.Mem.tail _ (List.Mem.head _))) ?_
          refine z_load_n X (x := xv) (show cdA 107 75 = some (.iload_n 1, 1, 0, 0, 0) from rfl) (List.Mem.tail _ (List.Mem.tail _ (List.Mem.tail _ (List.Mem.tail _ (List.Mem.head _))))) ?_
          refine z_load X (x := (iC t 1 ((zv + c)).toNat)) (show cdA 107 76 = some (.iload 7, 2, 0, 0, 0) from rfl) (List.Mem.tail _ (List.Mem.head _)) ?_
          refine z_aload_n X (x := A 4) (show cdA 107 78 = some (.aload_n 2, 1, 0, 0, 0) from rfl) (List.Mem.tail _ (List.Mem.tail _ (List.Mem.tail _ (List.Mem.head _)))) ?_
          refine z_load_n X (x := zv) (show cdA 107 79 = some (.iload_n 3, 1, 0, 0, 0) from rfl) (List.Mem.tail _ (List.Mem.tail _ (List.Mem.tail _ (List.Mem.tail _ (List.Mem.tail _ (List.Mem.head _)))))) ?_
          refine z_load X (x := c) (show cdA 107 80 = some (.iload 6, 2, 0, 0, 0) from rfl) (List.Mem.tail _ (List.Mem.tail _ (List.Mem.tail _ (List.Mem.tail _ (List.Mem.tail _ (List.Mem.tail _ (List.Mem.tail _ (List.Mem.head _)))))))) ?_
          refine z_add X (show cdA 107 82 = some (.iadd, 1, 0, 0, 0) from rfl) ?_
          refine z_const X (show cdA 107 83 = some (.iconst 1, 1, 0, 0, 0) from rfl) ?_
          refine z_add X (show cdA 107 84 = some (.iadd, 1, 0, 0, 0) from rfl) ?_
          refine z_ald X 4 (show cdA 107 85 = some (.iaload, 1, 0, 0, 0) from rfl) (by decide) rfl (by first | exact oq_21f9cd09 hi.2.2.1.1 hi.2.2.2.2.1 | omega) (show ((zv + c) + 1) < 288 by first | exact oq_cc679ab7 hi.2.2.1.2 g1003 | omega) (by decide) ?_
          have b1016 : (0 : Int) ≤ iC t 1 (((zv + c) + 1)).toNat ∧ iC t 1 (((zv + c) + 1)).toNat ≤ 127 := I.2 1 _ (show (((zv + c) + 1)).toNat < 288 by first | exact oq_11b18baf hi.2.2.1.2 g1003 | omega)
          refine z_min X (show cdA 107 86 = some (.invokestatic 122, 3, 0, 8, 0) from rfl) (rng_to _) (rng_to _) (by rw [E.2.2.2]; decide) (by rw [E.2.2.2]; exact Nat.le_of_ble_eq_true rfl) (Nat.zero_le _) (Nat.zero_le _) (fun e1017 he1017 => ?_)
          refine z_load X (x := e1015) (show cdA 107 89 = some (.iload 5, 2, 0, 0, 0) from rfl) (List.Mem.head _) ?_
          refine z_callV X 68 (rm := rmN 109) (As := [.int (Int32.ofInt xv), .int (Int32.ofInt e1017), .int (Int32.ofInt e1015)]) (st := []) (show cdA 107 91 = some (.invokevirtual 127, 3, 109, 0, 0) from rfl) rfl (by decide) rfl (by rw [E.1, E.2.1, E.2.2.1]; exact c9_setStep_68 G I (by first | exact ⟨hi.1.1, hi.1.2⟩ | omega) (by first | exact ⟨oq_03ccc143 he1017 b1016.1 b1002.1, oq_9c77db17 he1017 b1002.2⟩ | omega) (by first | exact ⟨hps1014.1, hps1014.2⟩ | omega)) ⟨by rw [E.2.2.2]; exact (show (rmN 109).frames + 1 ≤ (rmN 107).frames by decide), by rw [E.2.2.2]; exact (show 8 + (mNL (miB 109) + 11) + (rmN 109).locals ≤ (rmN 107).locals by decide), by rw [E.2.2.2]; exact (show 0 + (rmN 109).cells ≤ (rmN 107).cells by decide), by rw [E.2.2.2]; exact (show 0 + (rmN 109).slots ≤ (rmN 107).slots by decide)⟩ (Nat.le_of_ble_eq_true rfl) (fun vv s1018 hq => ?_) (fun ee s1018 hq => ?_)
          rotate_left
          · obtain ⟨Is1018, Fs1018, hv, hps1018⟩ := hq; cases hv
          obtain ⟨Is1018, Fs1018, hv, hps1018⟩ := hq
          cases hv
          have Gs1018 := fm_ts F Fs1018 (by decide) (by decide)
          show WS k 94 [(5, .int (Int32.ofInt e1015)), (7, .int (Int32.ofInt (iC t 1 ((zv + c)).toNat))), (0, .ref (A 68)), (2, .ref (A 4)), (1, .int (Int32.ofInt xv)), (3, .int (Int32.ofInt zv)), (4, .int (Int32.ofInt wv)), (6, .int (Int32.ofInt c))] [] (Wd A dT s1018) 0 0
          refine w_lconst X.1 (ax_d X (show cdA 107 94 = some (.lconst 1, 1, 0, 0, 0) from rfl)) rfl ?_
          refine z_anyJ (fun j1020 => ?_)
          refine z_load X (x := (iC t 1 ((zv + c)).toNat)) (show cdA 107 95 = some (.iload 7, 2, 0, 0, 0) from rfl) (List.Mem.tail _ (List.Mem.head _)) ?_
          refine z_bipush X (show cdA 107 97 = some (.bipush 63, 2, 0, 0, 63) from rfl) ?_
          refine z_andm X (show cdA 107 99 = some (.iand, 1, 0, 0, 0) from rfl) (by decide) (by decide) (fun y1021 hy1021 gy1021 => ?_)
          refine w_lshl X.1 (ax_d X (show cdA 107 100 = some (.lshl, 1, 0, 0, 0) from rfl)) ?_
          refine z_anyJ (fun j1022 => ?_)
          refine w_lstore X.1 (lv' := [(8, .long j1022), (5, .int (Int32.ofInt e1015)), (7, .int (Int32.ofInt (iC t 1 ((zv + c)).toNat))), (0, .ref (A 68)), (2, .ref (A 4)), (1, .int (Int32.ofInt xv)), (3, .int (Int32.ofInt zv)), (4, .int (Int32.ofInt wv)), (6, .int (Int32.ofInt c))]) (ax_d X (show cdA 107 101 = some (.lstore 8, 2, 0, 0, 0) from rfl)) (by rw [X.2.1.2.2]; decide) (fun _ h => h) ?_
          refine z_aload_n X (x := A 68) (show cdA 107 103 = some (.aload_n 0, 1, 0, 0, 0) from rfl) (List.Mem.tail _ (List.Mem.tail _ (List.Mem.tail _ (List.Mem.head _)))) ?_
          refine s_getR X 68 (show cdA 107 104 = some (.getfield 18, 3, 9, 3, 0) from rfl) (by decide) rfl rfl ?_
          refine z_load_n X (x := xv) (show cdA 107 107 = some (.iload_n 1, 1, 0, 0, 0) from rfl) (List.Mem.tail _ (List.Mem.tail _ (List.Mem.tail _ (List.Mem.tail _ (List.Mem.tail _ (List.Mem.head _)))))) ?_
          refine z_const X (show cdA 107 108 = some (.iconst 2, 1, 0, 0, 0) from rfl) ?_
          refine z_mul X (show cdA 107 109 = some (.imul, 1, 0, 0, 0) from rfl) ?_
          refine z_load X (x := (iC t 1 ((zv + c)).toNat)) (show cdA 107 110 = some (.iload 7, 2, 0, 0, 0) from rfl) (List.Mem.tail _ (List.Mem.tail _ (List.Mem.head _))) ?_
          refine z_bipush X (show cdA 107 112 = some (.bipush 64, 2, 0, 0, 64) from rfl) ?_
          refine z_quot X (show cdA 107 114 = some (.idiv, 1, 0, 0, 0) from rfl) (by first | exact b1002.1 | omega) (rng_to _) (by decide) (by decide) ?_
          refine z_add X (show cdA 107 115 = some (.iadd, 1, 0, 0, 0) from rfl) ?_
          refine w_dup2_11 X.1 (ax_d X (show cdA 107 116 = some (.dup2, 1, 0, 0, 0) from rfl)) rfl rfl ?_
          refine z_lald X 71 (show cdA 107 117 = some (.laload, 1, 0, 0, 0) from rfl) (by decide) rfl (by first | exact oq_c0bd8137 b1002.1 hi.1.1 | omega) (show ((xv * 2) + ((iC t 1 ((zv + c)).toNat) / 64)) < 24 by first | exact oq_c80b6473 b1002.2 hi.1.2 | omega) (by decide) (fun j1023 => ?_)
          refine w_lload X.1 (ax_d X (show cdA 107 118 = some (.lload 8, 2, 0, 0, 0) from rfl)) (x := j1022) (List.Mem.head _) ?_
          refine w_lor X.1 (ax_d X (show cdA 107 120 = some (.lor, 1, 0, 0, 0) from rfl)) ?_
          refine z_anyJ (fun j1024 => ?_)
          refine z_last X 71 (show cdA 107 121 = some (.lastore, 1, 0, 0, 0) from rfl) (by decide) rfl (by first | exact oq_c0bd8137 b1002.1 hi.1.1 | omega) (show ((xv * 2) + ((iC t 1 ((zv + c)).toNat) / 64)) < 24 by first | exact oq_c80b6473 b1002.2 hi.1.2 | omega) (by decide) ?_
          obtain ⟨s1025, hs1025⟩ : ∃ x0, x0 = uD s1018 59 (((xv * 2) + ((iC t 1 ((zv + c)).toNat) / 64))).toNat j1024 := ⟨_, rfl⟩
          rw [← hs1025]
          have Is1025 : Bd s1025 := by rw [hs1025]; exact bd_D Is1018
          have Fs1025 : Fm [] [57, 58, 1059, 1060, 1061] s s1025 := by rw [hs1025]; exact fm_D Gs1018 (show 59 + 1000 ∈ _ by decide)
          refine z_aload_n X (x := A 68) (show cdA 107 122 = some (.aload_n 0, 1, 0, 0, 0) from rfl) (List.Mem.tail _ (List.Mem.tail _ (List.Mem.tail _ (List.Mem.head _)))) ?_
          refine s_getR X 68 (show cdA 107 123 = some (.getfield 22, 3, 9, 4, 0) from rfl) (by decide) rfl rfl ?_
          refine z_load_n X (x := xv) (show cdA 107 126 = some (.iload_n 1, 1, 0, 0, 0) from rfl) (List.Mem.tail _ (List.Mem.tail _ (List.Mem.tail _ (List.Mem.tail _ (List.Mem.tail _ (List.Mem.head _)))))) ?_
          refine z_bipush X (show cdA 107 127 = some (.bipush 7, 2, 0, 0, 7) from rfl) ?_
          refine z_mul X (show cdA 107 129 = some (.imul, 1, 0, 0, 0) from rfl) ?_
          refine z_load X (x := e1015) (show cdA 107 130 = some (.iload 5, 2, 0, 0, 0) from rfl) (List.Mem.tail _ (List.Mem.head _)) ?_
          refine z_add X (show cdA 107 132 = some (.iadd, 1, 0, 0, 0) from rfl) ?_
          refine z_const X (show cdA 107 133 = some (.iconst 2, 1, 0, 0, 0) from rfl) ?_
          refine z_mul X (show cdA 107 134 = some (.imul, 1, 0, 0, 0) from rfl) ?_
          refine z_load X (x := (iC t 1 ((zv + c)).toNat)) (show cdA 107 135 = some (.iload 7, 2, 0, 0, 0) from rfl) (List.Mem.tail _ (List.Mem.tail _ (List.Mem.head _))) ?_
          refine z_bipush X (show cdA 107 137 = some (.bipush 64, 2, 0, 0, 64) from rfl) ?_
          refine z_quot X (show cdA 107 139 = some (.idiv, 1, 0, 0, 0) from rfl) (by first | exact b1002.1 | omega) (rng_to _) (by decide) (by decide) ?_
          refine z_add X (show cdA 107 140 = some (.iadd, 1, 0, 0, 0) from rfl) ?_
          refine w_dup2_11 X.1 (ax_d X (show cdA 107 141 = some (.dup2, 1, 0, 0, 0) from rfl)) rfl rfl ?_
          refine z_lald X 72 (show cdA 107 142 = some (.laload, 1, 0, 0, 0) from rfl) (by decide) rfl (by first | exact oq_f0013a75 hps1014.1 b1002.1 hi.1.1 | omega) (show ((((xv * 7) + e1015) * 2) + ((iC t 1 ((zv + c)).toNat) / 64)) < 168 by first | exact oq_2f745b71 hps1014.2 b1002.2 hi.1.2 | omega) (by decide) (fun j1026 => ?_)
          refine w_lload X.1 (ax_d X (show cdA 107 143 = some (.lload 8, 2, 0, 0, 0) from rfl)) (x := j1022) (List.Mem.head _) ?_
          refine w_lor X.1 (ax_d X (show cdA 107 145 = some (.lor, 1, 0, 0, 0) from rfl)) ?_
          refine z_anyJ (fun j1027 => ?_)
          refine z_last X 72 (show cdA 107 146 = some (.lastore, 1, 0, 0, 0) from rfl) (by decide) rfl (by first | exact oq_f0013a75 hps1014.1 b1002.1 hi.1.1 | omega) (show ((((xv * 7) + e1015) * 2) + ((iC t 1 ((zv + c)).toNat) / 64)) < 168 by first | exact oq_2f745b71 hps1014.2 b1002.2 hi.1.2 | omega) (by decide) ?_
          obtain ⟨s1028, hs1028⟩ : ∃ x0, x0 = uD s1025 60 (((((xv * 7) + e1015) * 2) + ((iC t 1 ((zv + c)).toNat) / 64))).toNat j1027 := ⟨_, rfl⟩
          rw [← hs1028]
          have Is1028 : Bd s1028 := by rw [hs1028]; exact bd_D Is1025
          have Fs1028 : Fm [] [57, 58, 1059, 1060, 1061] s s1028 := by rw [hs1028]; exact fm_D Fs1025 (show 60 + 1000 ∈ _ by decide)
          refine z_inc X (x := c) (lv' := [(6, .int (Int32.ofInt (c + 1))), (8, .long j1022), (5, .int (Int32.ofInt e1015)), (7, .int (Int32.ofInt (iC t 1 ((zv + c)).toNat))), (0, .ref (A 68)), (2, .ref (A 4)), (1, .int (Int32.ofInt xv)), (3, .int (Int32.ofInt zv)), (4, .int (Int32.ofInt wv))]) (show cdA 107 147 = some (.iinc 6 1, 3, 0, 0, 0) from rfl) (by decide) (List.Mem.tail _ (List.Mem.tail _ (List.Mem.tail _ (List.Mem.tail _ (List.Mem.tail _ (List.Mem.tail _ (List.Mem.tail _ (List.Mem.tail _ (List.Mem.head _))))))))) (fun _ h => h) ?_
          refine z_goto X (t := 35) (show cdA 107 150 = some (.goto (-115), 3, 0, 0, 0) from rfl) (by decide) ?_
          refine WS_lv (lv := [(0, .ref (A 68)), (2, .ref (A 4)), (1, .int (Int32.ofInt xv)), (3, .int (Int32.ofInt zv)), (4, .int (Int32.ofInt wv)), (5, .int (Int32.ofInt e1015)), (6, .int (Int32.ofInt (c + 1)))]) (List.forall_mem_cons.mpr ⟨(List.Mem.tail _ (List.Mem.tail _ (List.Mem.tail _ (List.Mem.tail _ (List.Mem.head _))))), (List.forall_mem_cons.mpr ⟨(List.Mem.tail _ (List.Mem.tail _ (List.Mem.tail _ (List.Mem.tail _ (List.Mem.tail _ (List.Mem.head _)))))), (List.forall_mem_cons.mpr ⟨(List.Mem.tail _ (List.Mem.tail _ (List.Mem.tail _ (List.Mem.tail _ (List.Mem.tail _ (List.Mem.tail _ (List.Mem.head _))))))), (List.forall_mem_cons.mpr ⟨(List.Mem.tail _ (List.Mem.tail _ (List.Mem.tail _ (List.Mem.tail _ (List.Mem.tail _ (List.Mem.tail _ (List.Mem.tail _ (List.Mem.head _)))))))), (List.forall_mem_cons.mpr ⟨(List.Mem.tail _ (List.Mem.tail _ (List.Mem.tail _ (List.Mem.tail _ (List.Mem.tail _ (List.Mem.tail _ (List.Mem.tail _ (List.Mem.tail _ (List.Mem.head _))))))))), (List.forall_mem_cons.mpr ⟨(List.Mem.tail _ (List.Mem.tail _ (List.Mem.head _))), (List.forall_mem_cons.mpr ⟨(List.Mem.head _), (fun q h => absurd h List.not_mem_nil)⟩)⟩)⟩)⟩)⟩)⟩)⟩) ?_
          exact ih _ xv zv wv e1015 (c + 1) Is1028 Fs1028 (by first | exact ⟨And.intro (hi.1.1) (hi.1.2), And.intro (hi.2.1.1) (hi.2.1.2), And.intro (hi.2.2.1.1) (hi.2.2.1.2), And.intro (hps1014.1) (oq_b982df86 hps1014.2), oq_54f49eb5 hi.2.2.2.2.1, oq_bbeecdc2 g1003 hi.2.1.2⟩ | omega) (by first | exact qk_me hm (by decide) (oq_261750be g1003 hi.2.1.2) | omega) kx
  refine z_aload_n X (x := A 4) (show cdA 107 0 = some (.aload_n 2, 1, 0, 0, 0) from rfl) (List.Mem.tail _ (List.Mem.tail _ (List.Mem.head _))) ?_
  refine z_load_n X (x := z) (show cdA 107 1 = some (.iload_n 3, 1, 0, 0, 0) from rfl) (List.Mem.tail _ (List.Mem.tail _ (List.Mem.tail _ (List.Mem.head _)))) ?_
  refine z_aload_n X (x := A 68) (show cdA 107 2 = some (.aload_n 0, 1, 0, 0, 0) from rfl) (List.Mem.head _) ?_
  refine s_getR X 68 (show cdA 107 3 = some (.getfield 9, 3, 9, 1, 0) from rfl) (by decide) rfl rfl ?_
  refine z_load_n X (x := x) (show cdA 107 6 = some (.iload_n 1, 1, 0, 0, 0) from rfl) (List.Mem.tail _ (List.Mem.head _)) ?_
  refine z_bipush X (show cdA 107 7 = some (.bipush 24, 2, 0, 0, 24) from rfl) ?_
  refine z_mul X (show cdA 107 9 = some (.imul, 1, 0, 0, 0) from rfl) ?_
  refine z_load X (x := w) (show cdA 107 10 = some (.iload 4, 2, 0, 0, 0) from rfl) (List.Mem.tail _ (List.Mem.tail _ (List.Mem.tail _ (List.Mem.tail _ (List.Mem.head _))))) ?_
  refine z_copy X I 4 69 (st := []) (show cdA 107 12 = some (.invokestatic 109, 3, 0, 5, 0) from rfl) (by decide) (by decide) rfl rfl (by omega) (by omega) (by omega) (show z + w ≤ ((288 : Nat) : Int) by omega) (show (x * 24) + w ≤ ((288 : Nat) : Int) by omega) (by decide) (by rw [E.2.2.2]; decide) (by rw [E.2.2.2]; exact Nat.le_of_ble_eq_true rfl) (fun s1 Is1 Fs1 => ?_)
  have Gs1 := fm_ts F Fs1 (by decide) (by decide)
  refine z_aload_n X (x := A 68) (show cdA 107 15 = some (.aload_n 0, 1, 0, 0, 0) from rfl) (List.Mem.head _) ?_
  refine s_getR X 68 (show cdA 107 16 = some (.getfield 15, 3, 9, 2, 0) from rfl) (by decide) rfl rfl ?_
  refine z_load_n X (x := x) (show cdA 107 19 = some (.iload_n 1, 1, 0, 0, 0) from rfl) (List.Mem.tail _ (List.Mem.head _)) ?_
  refine z_load X (x := w) (show cdA 107 20 = some (.iload 4, 2, 0, 0, 0) from rfl) (List.Mem.tail _ (List.Mem.tail _ (List.Mem.tail _ (List.Mem.tail _ (List.Mem.head _))))) ?_
  refine z_ast X 70 (show cdA 107 22 = some (.iastore, 1, 0, 0, 0) from rfl) (by decide) rfl (by first | exact p0.1 | omega) (show x < 12 by first | exact oq_0ddfcfee p0.2 | omega) (by decide) ?_
  obtain ⟨s2, hs2⟩ : ∃ x0, x0 = uC s1 58 (x).toNat (Int32.ofInt w) := ⟨_, rfl⟩
  rw [← hs2]
  have Is2 : Bd s2 := by rw [hs2]; exact bd_C Is1 (show (0 : Int) ≤ w ∧ w ≤ 24 by first | exact ⟨p1.1, p1.2⟩ | omega) ⟨by first | exact oq_fa4e5087 p1.1 | omega, by first | exact oq_5bcd337f p1.2 | omega⟩
  have Fs2 := fm_C (i := (x).toNat) (x := Int32.ofInt w) Gs1 (show 58 ∈ _ by decide)
  rw [← hs2] at Fs2
  refine z_aload_n X (x := A 68) (show cdA 107 23 = some (.aload_n 0, 1, 0, 0, 0) from rfl) (List.Mem.head _) ?_
  refine z_load_n X (x := x) (show cdA 107 24 = some (.iload_n 1, 1, 0, 0, 0) from rfl) (List.Mem.tail _ (List.Mem.head _)) ?_
  refine z_callV X 68 (rm := rmN 108) (As := [.int (Int32.ofInt x)]) (st := []) (show cdA 107 25 = some (.invokevirtual 115, 3, 108, 0, 0) from rfl) rfl (by decide) rfl (by rw [E.1, E.2.1, E.2.2.1]; exact c9_wipe_68 G Is2 (by first | exact ⟨p0.1, p0.2⟩ | omega)) ⟨by rw [E.2.2.2]; exact (show (rmN 108).frames + 1 ≤ (rmN 107).frames by decide), by rw [E.2.2.2]; exact (show 8 + (mNL (miB 108) + 11) + (rmN 108).locals ≤ (rmN 107).locals by decide), by rw [E.2.2.2]; exact (show 0 + (rmN 108).cells ≤ (rmN 107).cells by decide), by rw [E.2.2.2]; exact (show 0 + (rmN 108).slots ≤ (rmN 107).slots by decide)⟩ (Nat.le_of_ble_eq_true rfl) (fun vv s3 hq => ?_) (fun ee s3 hq => ?_)
  rotate_left
  · obtain ⟨Is3, Fs3, hv, hps3⟩ := hq; cases hv
  obtain ⟨Is3, Fs3, hv, hps3⟩ := hq
  cases hv
  have Gs3 := fm_ts Fs2 Fs3 (by decide) (by decide)
  show WS k 28 [(0, .ref (A 68)), (1, .int (Int32.ofInt x)), (2, .ref (A 4)), (3, .int (Int32.ofInt z)), (4, .int (Int32.ofInt w))] [] (Wd A dT s3) 0 0
  refine z_bipush X (show cdA 107 28 = some (.bipush 6, 2, 0, 0, 6) from rfl) ?_
  refine z_store X (lv' := [(5, .int (Int32.ofInt 6)), (0, .ref (A 68)), (1, .int (Int32.ofInt x)), (2, .ref (A 4)), (3, .int (Int32.ofInt z)), (4, .int (Int32.ofInt w))]) (show cdA 107 30 = some (.istore 5, 2, 0, 0, 0) from rfl) (by decide) (fun _ h => h) ?_
  refine z_const X (show cdA 107 32 = some (.iconst 0, 1, 0, 0, 0) from rfl) ?_
  refine z_store X (lv' := [(6, .int (Int32.ofInt 0)), (5, .int (Int32.ofInt 6)), (0, .ref (A 68)), (1, .int (Int32.ofInt x)), (2, .ref (A 4)), (3, .int (Int32.ofInt z)), (4, .int (Int32.ofInt w))]) (show cdA 107 33 = some (.istore 6, 2, 0, 0, 0) from rfl) (by decide) (fun _ h => h) ?_
  refine WS_lv (lv := [(0, .ref (A 68)), (2, .ref (A 4)), (1, .int (Int32.ofInt x)), (3, .int (Int32.ofInt z)), (4, .int (Int32.ofInt w)), (5, .int (Int32.ofInt 6)), (6, .int (Int32.ofInt 0))]) (List.forall_mem_cons.mpr ⟨(List.Mem.tail _ (List.Mem.tail _ (List.Mem.head _))), (List.forall_mem_cons.mpr ⟨(List.Mem.tail _ (List.Mem.tail _ (List.Mem.tail _ (List.Mem.tail _ (List.Mem.head _))))), (List.forall_mem_cons.mpr ⟨(List.Mem.tail _ (List.Mem.tail _ (List.Mem.tail _ (List.Mem.head _)))), (List.forall_mem_cons.mpr ⟨(List.Mem.tail _ (List.Mem.tail _ (List.Mem.tail _ (List.Mem.tail _ (List.Mem.tail _ (List.Mem.head _)))))), (List.forall_mem_cons.mpr ⟨(List.Mem.tail _ (List.Mem.tail _ (List.Mem.tail _ (List.Mem.tail _ (List.Mem.tail _ (List.Mem.tail _ (List.Mem.head _))))))), (List.forall_mem_cons.mpr ⟨(List.Mem.tail _ (List.Mem.head _)), (List.forall_mem_cons.mpr ⟨(List.Mem.head _), (fun q h => absurd h List.not_mem_nil)⟩)⟩)⟩)⟩)⟩)⟩)⟩) ?_
  refine L35 ((24 - 0 : Int).toNat + 1) s3 x z w 6 0 Is3 Gs3 (by first | exact ⟨And.intro (p0.1) (p0.2), And.intro (p1.1) (p1.2), And.intro (p2.1) (p2.2), And.intro (by decide) (by decide), by decide, by decide⟩ | omega) (Nat.lt_succ_self _) ?_
  intro s5 x6 x7 Is5 Fs5 hs5
  exact w_vret X.1 q hRt (ax_d X (show cdA 107 153 = some (.return_, 1, 0, 0, 0) from rfl)) (Nat.zero_le _) (Nat.zero_le _) ⟨_, rfl, Is5, Fs5, rfl, trivial⟩
set_option maxRecDepth 4000 in
theorem c9_setWay_68_92 (G : GX l s0 D tys a0 dT) (I : Bd s) {x z w : Int} (p0 : 0 ≤ x ∧ x ≤ 11) (p1 : 0 ≤ w ∧ w ≤ 24) (p2 : 0 ≤ z ∧ z + w ≤ 24) : CT l s0 D A dT 107 (rmN 107) [.ref (A 68), .int (Int32.ofInt x), .ref (A 92), .int (Int32.ofInt z), .int (Int32.ofInt w)] s (fun o t => Bd t ∧ Fm [] [57, 58, 1059, 1060, 1061] s t ∧ o = .inl none ∧ (True)) := by
  refine ct_ofX G (by decide) (Nat.le_of_ble_eq_true rfl) (fun k X E ET hRt hXt q => ?_)
  show WS k 0 [(0, .ref (A 68)), (1, .int (Int32.ofInt x)), (2, .ref (A 92)), (3, .int (Int32.ofInt z)), (4, .int (Int32.ofInt w))] [] _ 0 0
  have F : Fm [] [57, 58, 1059, 1060, 1061] s s := fm_rf _ _ s
  have L35 : ∀ (n : Nat) (t : PS) (xv zv wv go c : Int), Bd t → Fm [] [57, 58, 1059, 1060, 1061] s t → ((0 ≤ xv ∧ xv ≤ 11) ∧ (0 ≤ wv ∧ wv ≤ 24) ∧ (0 ≤ zv ∧ zv + wv ≤ 24) ∧ (0 ≤ go ∧ go ≤ 6) ∧ 0 ≤ c ∧ c ≤ 24) → (24 - c : Int).toNat < n → (∀ (t' : PS) (go' c' : Int), Bd t' → Fm [] [57, 58, 1059, 1060, 1061] s t' → ((0 ≤ xv ∧ xv ≤ 11) ∧ (0 ≤ wv ∧ wv ≤ 24) ∧ (0 ≤ zv ∧ zv + wv ≤ 24) ∧ (0 ≤ go' ∧ go' ≤ 6) ∧ 0 ≤ c' ∧ c' ≤ 24) → WS k 153 [(0, .ref (A 68)), (2, .ref (A 92)), (1, .int (Int32.ofInt xv)), (3, .int (Int32.ofInt zv)), (4, .int (Int32.ofInt wv)), (5, .int (Int32.ofInt go')), (6, .int (Int32.ofInt c'))] [] (Wd A dT t') 0 0) → WS k 35 [(0, .ref (A 68)), (2, .ref (A 92)), (1, .int (Int32.ofInt xv)), (3, .int (Int32.ofInt zv)), (4, .int (Int32.ofInt wv)), (5, .int (Int32.ofInt go)), (6, .int (Int32.ofInt c))] [] (Wd A dT t) 0 0 := by
    intro n
    induction n with
    | zero =>
      intro t xv zv wv go c I F hi hm kx
      exact absurd hm (Nat.not_lt_zero _)
    | succ n ih =>
      intro t xv zv wv go c I F hi hm kx
      refine z_load X (x := c) (show cdA 107 35 = some (.iload 6, 2, 0, 0, 0) from rfl) (List.Mem.tail _ (List.Mem.tail _ (List.Mem.tail _ (List.Mem.tail _ (List.Mem.tail _ (List.Mem.tail _ (List.Mem.head _))))))) ?_
      refine z_load X (x := wv) (show cdA 107 37 = some (.iload 4, 2, 0, 0, 0) from rfl) (List.Mem.tail _ (List.Mem.tail _ (List.Mem.tail _ (List.Mem.tail _ (List.Mem.head _))))) ?_
      refine z_icmp_ge X (t := 153) (show cdA 107 39 = some (.if_icmp .ge 114, 3, 3, 0, 0) from rfl) (by decide) ⟨by first | exact oq_fa4e5087 hi.2.2.2.2.1 | omega, by first | exact oq_5bcd337f hi.2.2.2.2.2 | omega⟩ ⟨by first | exact oq_fa4e5087 hi.2.1.1 | omega, by first | exact oq_5bcd337f hi.2.1.2 | omega⟩ (fun g1001 => ?_) (fun g1001 => ?_)
      ·
        refine WS_lv (lv := [(0, .ref (A 68)), (2, .ref (A 92)), (1, .int (Int32.ofInt xv)), (3, .int (Int32.ofInt zv)), (4, .int (Int32.ofInt wv)), (5, .int (Int32.ofInt go)), (6, .int (Int32.ofInt c))]) (List.forall_mem_cons.mpr ⟨(List.Mem.head _), (List.forall_mem_cons.mpr ⟨(List.Mem.tail _ (List.Mem.head _)), (List.forall_mem_cons.mpr ⟨(List.Mem.tail _ (List.Mem.tail _ (List.Mem.head _))), (List.forall_mem_cons.mpr ⟨(List.Mem.tail _ (List.Mem.tail _ (List.Mem.tail _ (List.Mem.head _)))), (List.forall_mem_cons.mpr ⟨(List.Mem.tail _ (List.Mem.tail _ (List.Mem.tail _ (List.Mem.tail _ (List.Mem.head _))))), (List.forall_mem_cons.mpr ⟨(List.Mem.tail _ (List.Mem.tail _ (List.Mem.tail _ (List.Mem.tail _ (List.Mem.tail _ (List.Mem.head _)))))), (List.forall_mem_cons.mpr ⟨(List.Mem.tail _ (List.Mem.tail _ (List.Mem.tail _ (List.Mem.tail _ (List.Mem.tail _ (List.Mem.tail _ (List.Mem.head _))))))), (fun q h => absurd h List.not_mem_nil)⟩)⟩)⟩)⟩)⟩)⟩)⟩) ?_
        exact kx _ go c I F (by first | exact ⟨And.intro (hi.1.1) (hi.1.2), And.intro (hi.2.1.1) (hi.2.1.2), And.intro (hi.2.2.1.1) (hi.2.2.1.2), And.intro (hi.2.2.2.1.1) (hi.2.2.2.1.2), hi.2.2.2.2.1, hi.2.2.2.2.2⟩ | omega)
      ·
        refine z_aload_n X (x := A 92) (show cdA 107 42 = some (.aload_n 2, 1, 0, 0, 0) from rfl) (List.Mem.tail _ (List.Mem.head _)) ?_
        refine z_load_n X (x := zv) (show cdA 107 43 = some (.iload_n 3, 1, 0, 0, 0) from rfl) (List.Mem.tail _ (List.Mem.tail _ (List.Mem.tail _ (List.Mem.head _)))) ?_
        refine z_load X (x := c) (show cdA 107 44 = some (.iload 6, 2, 0, 0, 0) from rfl) (List.Mem.tail _ (List.Mem.tail _ (List.Mem.tail _ (List.Mem.tail _ (List.Mem.tail _ (List.Mem.tail _ (List.Mem.head _))))))) ?_
        refine z_add X (show cdA 107 46 = some (.iadd, 1, 0, 0, 0) from rfl) ?_
        refine z_ald X 92 (show cdA 107 47 = some (.iaload, 1, 0, 0, 0) from rfl) (by decide) rfl (by first | exact oq_dd29f52d hi.2.2.1.1 hi.2.2.2.2.1 | omega) (show (zv + c) < 24 by first | exact oq_de70c7d8 hi.2.2.1.2 g1001 | omega) (by decide) ?_
        have b1002 : (0 : Int) ≤ iC t 79 ((zv + c)).toNat ∧ iC t 79 ((zv + c)).toNat ≤ 127 := I.2 79 _ (show ((zv + c)).toNat < 24 by first | exact oq_ff24e3f1 hi.2.2.1.2 g1001 | omega)
        refine z_store X (lv' := [(7, .int (Int32.ofInt (iC t 79 ((zv + c)).toNat))), (0, .ref (A 68)), (2, .ref (A 92)), (1, .int (Int32.ofInt xv)), (3, .int (Int32.ofInt zv)), (4, .int (Int32.ofInt wv)), (5, .int (Int32.ofInt go)), (6, .int (Int32.ofInt c))]) (show cdA 107 48 = some (.istore 7, 2, 0, 0, 0) from rfl) (by decide) (fun _ h => h) ?_
        refine z_load X (x := c) (show cdA 107 50 = some (.iload 6, 2, 0, 0, 0) from rfl) (List.Mem.tail _ (List.Mem.tail _ (List.Mem.tail _ (List.Mem.tail _ (List.Mem.tail _ (List.Mem.tail _ (List.Mem.tail _ (List.Mem.head _)))))))) ?_
        refine z_const X (show cdA 107 52 = some (.iconst 1, 1, 0, 0, 0) from rfl) ?_
        refine z_add X (show cdA 107 53 = some (.iadd, 1, 0, 0, 0) from rfl) ?_
        refine z_load X (x := wv) (show cdA 107 54 = some (.iload 4, 2, 0, 0, 0) from rfl) (List.Mem.tail _ (List.Mem.tail _ (List.Mem.tail _ (List.Mem.tail _ (List.Mem.tail _ (List.Mem.head _)))))) ?_
        refine z_icmp_ge X (t := 94) (show cdA 107 56 = some (.if_icmp .ge 38, 3, 3, 0, 0) from rfl) (by decide) ⟨by first | exact oq_74de1e16 hi.2.2.2.2.1 | omega, by first | exact oq_3a454424 hi.2.2.2.2.2 | omega⟩ ⟨by first | exact oq_fa4e5087 hi.2.1.1 | omega, by first | exact oq_5bcd337f hi.2.1.2 | omega⟩ (fun g1003 => ?_) (fun g1003 => ?_)
        ·
          refine w_lconst X.1 (ax_d X (show cdA 107 94 = some (.lconst 1, 1, 0, 0, 0) from rfl)) rfl ?_
          refine z_anyJ (fun j1004 => ?_)
          refine z_load X (x := (iC t 79 ((zv + c)).toNat)) (show cdA 107 95 = some (.iload 7, 2, 0, 0, 0) from rfl) (List.Mem.head _) ?_
          refine z_bipush X (show cdA 107 97 = some (.bipush 63, 2, 0, 0, 63) from rfl) ?_
          refine z_andm X (show cdA 107 99 = some (.iand, 1, 0, 0, 0) from rfl) (by decide) (by decide) (fun y1005 hy1005 gy1005 => ?_)
          refine w_lshl X.1 (ax_d X (show cdA 107 100 = some (.lshl, 1, 0, 0, 0) from rfl)) ?_
          refine z_anyJ (fun j1006 => ?_)
          refine w_lstore X.1 (lv' := [(8, .long j1006), (7, .int (Int32.ofInt (iC t 79 ((zv + c)).toNat))), (0, .ref (A 68)), (2, .ref (A 92)), (1, .int (Int32.ofInt xv)), (3, .int (Int32.ofInt zv)), (4, .int (Int32.ofInt wv)), (5, .int (Int32.ofInt go)), (6, .int (Int32.ofInt c))]) (ax_d X (show cdA 107 101 = some (.lstore 8, 2, 0, 0, 0) from rfl)) (by rw [X.2.1.2.2]; decide) (fun _ h => h) ?_
          refine z_aload_n X (x := A 68) (show cdA 107 103 = some (.aload_n 0, 1, 0, 0, 0) from rfl) (List.Mem.tail _ (List.Mem.tail _ (List.Mem.head _))) ?_
          refine s_getR X 68 (show cdA 107 104 = some (.getfield 18, 3, 9, 3, 0) from rfl) (by decide) rfl rfl ?_
          refine z_load_n X (x := xv) (show cdA 107 107 = some (.iload_n 1, 1, 0, 0, 0) from rfl) (List.Mem.tail _ (List.Mem.tail _ (List.Mem.tail _ (List.Mem.tail _ (List.Mem.head _))))) ?_
          refine z_const X (show cdA 107 108 = some (.iconst 2, 1, 0, 0, 0) from rfl) ?_
          refine z_mul X (show cdA 107 109 = some (.imul, 1, 0, 0, 0) from rfl) ?_
          refine z_load X (x := (iC t 79 ((zv + c)).toNat)) (show cdA 107 110 = some (.iload 7, 2, 0, 0, 0) from rfl) (List.Mem.tail _ (List.Mem.head _)) ?_
          refine z_bipush X (show cdA 107 112 = some (.bipush 64, 2, 0, 0, 64) from rfl) ?_
          refine z_quot X (show cdA 107 114 = some (.idiv, 1, 0, 0, 0) from rfl) (by first | exact b1002.1 | omega) (rng_to _) (by decide) (by decide) ?_
          refine z_add X (show cdA 107 115 = some (.iadd, 1, 0, 0, 0) from rfl) ?_
          refine w_dup2_11 X.1 (ax_d X (show cdA 107 116 = some (.dup2, 1, 0, 0, 0) from rfl)) rfl rfl ?_
          refine z_lald X 71 (show cdA 107 117 = some (.laload, 1, 0, 0, 0) from rfl) (by decide) rfl (by first | exact oq_c0bd8137 b1002.1 hi.1.1 | omega) (show ((xv * 2) + ((iC t 79 ((zv + c)).toNat) / 64)) < 24 by first | exact oq_c80b6473 b1002.2 hi.1.2 | omega) (by decide) (fun j1007 => ?_)
          refine w_lload X.1 (ax_d X (show cdA 107 118 = some (.lload 8, 2, 0, 0, 0) from rfl)) (x := j1006) (List.Mem.head _) ?_
          refine w_lor X.1 (ax_d X (show cdA 107 120 = some (.lor, 1, 0, 0, 0) from rfl)) ?_
          refine z_anyJ (fun j1008 => ?_)
          refine z_last X 71 (show cdA 107 121 = some (.lastore, 1, 0, 0, 0) from rfl) (by decide) rfl (by first | exact oq_c0bd8137 b1002.1 hi.1.1 | omega) (show ((xv * 2) + ((iC t 79 ((zv + c)).toNat) / 64)) < 24 by first | exact oq_c80b6473 b1002.2 hi.1.2 | omega) (by decide) ?_
          obtain ⟨s1009, hs1009⟩ : ∃ x0, x0 = uD t 59 (((xv * 2) + ((iC t 79 ((zv + c)).toNat) / 64))).toNat j1008 := ⟨_, rfl⟩
          rw [← hs1009]
          have Is1009 : Bd s1009 := by rw [hs1009]; exact bd_D I
          have Fs1009 : Fm [] [57, 58, 1059, 1060, 1061] s s1009 := by rw [hs1009]; exact fm_D F (show 59 + 1000 ∈ _ by decide)
          refine z_aload_n X (x := A 68) (show cdA 107 122 = some (.aload_n 0, 1, 0, 0, 0) from rfl) (List.Mem.tail _ (List.Mem.tail _ (List.Mem.head _))) ?_
          refine s_getR X 68 (show cdA 107 123 = some (.getfield 22, 3, 9, 4, 0) from rfl) (by decide) rfl rfl ?_
          refine z_load_n X (x := xv) (show cdA 107 126 = some (.iload_n 1, 1, 0, 0, 0) from rfl) (List.Mem.tail _ (List.Mem.tail _ (List.Mem.tail _ (List.Mem.tail _ (List.Mem.head _))))) ?_
          refine z_bipush X (show cdA 107 127 = some (.bipush 7, 2, 0, 0, 7) from rfl) ?_
          refine z_mul X (show cdA 107 129 = some (.imul, 1, 0, 0, 0) from rfl) ?_
          refine z_load X (x := go) (show cdA 107 130 = some (.iload 5, 2, 0, 0, 0) from rfl) (List.Mem.tail _ (List.Mem.tail _ (List.Mem.tail _ (List.Mem.tail _ (List.Mem.tail _ (List.Mem.tail _ (List.Mem.tail _ (List.Mem.head _)))))))) ?_
          refine z_add X (show cdA 107 132 = some (.iadd, 1, 0, 0, 0) from rfl) ?_
          refine z_const X (show cdA 107 133 = some (.iconst 2, 1, 0, 0, 0) from rfl) ?_
          refine z_mul X (show cdA 107 134 = some (.imul, 1, 0, 0, 0) from rfl) ?_
          refine z_load X (x := (iC t 79 ((zv + c)).toNat)) (show cdA 107 135 = some (.iload 7, 2, 0, 0, 0) from rfl) (List.Mem.tail _ (List.Mem.head _)) ?_
          refine z_bipush X (show cdA 107 137 = some (.bipush 64, 2, 0, 0, 64) from rfl) ?_
          refine z_quot X (show cdA 107 139 = some (.idiv, 1, 0, 0, 0) from rfl) (by first | exact b1002.1 | omega) (rng_to _) (by decide) (by decide) ?_
          refine z_add X (show cdA 107 140 = some (.iadd, 1, 0, 0, 0) from rfl) ?_
          refine w_dup2_11 X.1 (ax_d X (show cdA 107 141 = some (.dup2, 1, 0, 0, 0) from rfl)) rfl rfl ?_
          refine z_lald X 72 (show cdA 107 142 = some (.laload, 1, 0, 0, 0) from rfl) (by decide) rfl (by first | exact oq_ea32c91a b1002.1 hi.2.2.2.1.1 hi.1.1 | omega) (show ((((xv * 7) + go) * 2) + ((iC t 79 ((zv + c)).toNat) / 64)) < 168 by first | exact oq_5da8d824 b1002.2 hi.2.2.2.1.2 hi.1.2 | omega) (by decide) (fun j1010 => ?_)
          refine w_lload X.1 (ax_d X (show cdA 107 143 = some (.lload 8, 2, 0, 0, 0) from rfl)) (x := j1006) (List.Mem.head _) ?_
          refine w_lor X.1 (ax_d X (show cdA 107 145 = some (.lor, 1, 0, 0, 0) from rfl)) ?_
          refine z_anyJ (fun j1011 => ?_)
          refine z_last X 72 (show cdA 107 146 = some (.lastore, 1, 0, 0, 0) from rfl) (by decide) rfl (by first | exact oq_ea32c91a b1002.1 hi.2.2.2.1.1 hi.1.1 | omega) (show ((((xv * 7) + go) * 2) + ((iC t 79 ((zv + c)).toNat) / 64)) < 168 by first | exact oq_5da8d824 b1002.2 hi.2.2.2.1.2 hi.1.2 | omega) (by decide) ?_
          obtain ⟨s1012, hs1012⟩ : ∃ x0, x0 = uD s1009 60 (((((xv * 7) + go) * 2) + ((iC t 79 ((zv + c)).toNat) / 64))).toNat j1011 := ⟨_, rfl⟩
          rw [← hs1012]
          have Is1012 : Bd s1012 := by rw [hs1012]; exact bd_D Is1009
          have Fs1012 : Fm [] [57, 58, 1059, 1060, 1061] s s1012 := by rw [hs1012]; exact fm_D Fs1009 (show 60 + 1000 ∈ _ by decide)
          refine z_inc X (x := c) (lv' := [(6, .int (Int32.ofInt (c + 1))), (8, .long j1006), (7, .int (Int32.ofInt (iC t 79 ((zv + c)).toNat))), (0, .ref (A 68)), (2, .ref (A 92)), (1, .int (Int32.ofInt xv)), (3, .int (Int32.ofInt zv)), (4, .int (Int32.ofInt wv)), (5, .int (Int32.ofInt go))]) (show cdA 107 147 = some (.iinc 6 1, 3, 0, 0, 0) from rfl) (by decide) (List.Mem.tail _ (List.Mem.tail _ (List.Mem.tail _ (List.Mem.tail _ (List.Mem.tail _ (List.Mem.tail _ (List.Mem.tail _ (List.Mem.tail _ (List.Mem.head _))))))))) (fun _ h => h) ?_
          refine z_goto X (t := 35) (show cdA 107 150 = some (.goto (-115), 3, 0, 0, 0) from rfl) (by decide) ?_
          refine WS_lv (lv := [(0, .ref (A 68)), (2, .ref (A 92)), (1, .int (Int32.ofInt xv)), (3, .int (Int32.ofInt zv)), (4, .int (Int32.ofInt wv)), (5, .int (Int32.ofInt go)), (6, .int (Int32.ofInt (c + 1)))]) (List.forall_mem_cons.mpr ⟨(List.Mem.tail _ (List.Mem.tail _ (List.Mem.tail _ (List.Mem.head _)))), (List.forall_mem_cons.mpr ⟨(List.Mem.tail _ (List.Mem.tail _ (List.Mem.tail _ (List.Mem.tail _ (List.Mem.head _))))), (List.forall_mem_cons.mpr ⟨(List.Mem.tail _ (List.Mem.tail _ (List.Mem.tail _ (List.Mem.tail _ (List.Mem.tail _ (List.Mem.head _)))))), (List.forall_mem_cons.mpr ⟨(List.Mem.tail _ (List.Mem.tail _ (List.Mem.tail _ (List.Mem.tail _ (List.Mem.tail _ (List.Mem.tail _ (List.Mem.head _))))))), (List.forall_mem_cons.mpr ⟨(List.Mem.tail _ (List.Mem.tail _ (List.Mem.tail _ (List.Mem.tail _ (List.Mem.tail _ (List.Mem.tail _ (List.Mem.tail _ (List.Mem.head _)))))))), (List.forall_mem_cons.mpr ⟨(List.Mem.tail _ (List.Mem.tail _ (List.Mem.tail _ (List.Mem.tail _ (List.Mem.tail _ (List.Mem.tail _ (List.Mem.tail _ (List.Mem.tail _ (List.Mem.head _))))))))), (List.forall_mem_cons.mpr ⟨(List.Mem.head _), (fun q h => absurd h List.not_mem_nil)⟩)⟩)⟩)⟩)⟩)⟩)⟩) ?_
          exact ih _ xv zv wv go (c + 1) Is1012 Fs1012 (by first | exact ⟨And.intro (hi.1.1) (hi.1.2), And.intro (hi.2.1.1) (hi.2.1.2), And.intro (hi.2.2.1.1) (hi.2.2.1.2), And.intro (hi.2.2.2.1.1) (hi.2.2.2.1.2), oq_54f49eb5 hi.2.2.2.2.1, oq_41473be0 g1001 hi.2.1.2⟩ | omega) (by first | exact qk_me hm (by decide) (oq_9dea93e6 g1001 hi.2.1.2) | omega) kx
        ·
          refine z_load X (x := (iC t 79 ((zv + c)).toNat)) (show cdA 107 59 = some (.iload 7, 2, 0, 0, 0) from rfl) (List.Mem.head _) ?_
          refine z_aload_n X (x := A 92) (show cdA 107 61 = some (.aload_n 2, 1, 0, 0, 0) from rfl) (List.Mem.tail _ (List.Mem.tail _ (List.Mem.head _))) ?_
          refine z_load_n X (x := zv) (show cdA 107 62 = some (.iload_n 3, 1, 0, 0, 0) from rfl) (List.Mem.tail _ (List.Mem.tail _ (List.Mem.tail _ (List.Mem.tail _ (List.Mem.head _))))) ?_
          refine z_load X (x := c) (show cdA 107 63 = some (.iload 6, 2, 0, 0, 0) from rfl) (List.Mem.tail _ (List.Mem.tail _ (List.Mem.tail _ (List.Mem.tail _ (List.Mem.tail _ (List.Mem.tail _ (List.Mem.tail _ (List.Mem.head _)))))))) ?_
          refine z_add X (show cdA 107 65 = some (.iadd, 1, 0, 0, 0) from rfl) ?_
          refine z_const X (show cdA 107 66 = some (.iconst 1, 1, 0, 0, 0) from rfl) ?_
          refine z_add X (show cdA 107 67 = some (.iadd, 1, 0, 0, 0) from rfl) ?_
          refine z_ald X 92 (show cdA 107 68 = some (.iaload, 1, 0, 0, 0) from rfl) (by decide) rfl (by first | exact oq_21f9cd09 hi.2.2.1.1 hi.2.2.2.2.1 | omega) (show ((zv + c) + 1) < 24 by first | exact oq_c07d830a hi.2.2.1.2 g1003 | omega) (by decide) ?_
          have b1013 : (0 : Int) ≤ iC t 79 (((zv + c) + 1)).toNat ∧ iC t 79 (((zv + c) + 1)).toNat ≤ 127 := I.2 79 _ (show (((zv + c) + 1)).toNat < 24 by first | exact oq_136cae15 hi.2.2.1.2 g1003 | omega)
          refine z_callS X (rm := rmN 102) (As := [.int (Int32.ofInt (iC t 79 ((zv + c)).toNat)), .int (Int32.ofInt (iC t 79 (((zv + c) + 1)).toNat))]) (st := []) (show cdA 107 69 = some (.invokestatic 119, 3, 102, 1, 0) from rfl) rfl (by rw [E.1, E.2.1, E.2.2.1]; exact c9_goBetween G I (by first | exact ⟨b1002.1, b1002.2⟩ | omega) (by first | exact ⟨b1013.1, b1013.2⟩ | omega)) ⟨by rw [E.2.2.2]; exact (show (rmN 102).frames + 1 ≤ (rmN 107).frames by decide), by rw [E.2.2.2]; exact (show 8 + (mNL (miB 102) + 11) + (rmN 102).locals ≤ (rmN 107).locals by decide), by rw [E.2.2.2]; exact (show 0 + (rmN 102).cells ≤ (rmN 107).cells by decide), by rw [E.2.2.2]; exact (show 0 + (rmN 102).slots ≤ (rmN 107).slots by decide)⟩ (Nat.le_of_ble_eq_true rfl) (fun vv s1014 hq => ?_) (fun ee s1014 hq => ?_)
          rotate_left
          · obtain ⟨rfl, e1015, hv, hrs1014, hps1014⟩ := hq; cases hv
          obtain ⟨rfl, e1015, hv, hrs1014, hps1014⟩ := hq
          cases hv
          show WS k 72 [(7, .int (Int32.ofInt (iC t 79 ((zv + c)).toNat))), (0, .ref (A 68)), (2, .ref (A 92)), (1, .int (Int32.ofInt xv)), (3, .int (Int32.ofInt zv)), (4, .int (Int32.ofInt wv)), (5, .int (Int32.ofInt go)), (6, .int (Int32.ofInt c))] [.int (Int32.ofInt e1015)] (Wd A dT t) 0 0
          refine z_store X (lv' := [(5, .int (Int32.ofInt e1015)), (7, .int (Int32.ofInt (iC t 79 ((zv + c)).toNat))), (0, .ref (A 68)), (2, .ref (A 92)), (1, .int (Int32.ofInt xv)), (3, .int (Int32.ofInt zv)), (4, .int (Int32.ofInt wv)), (6, .int (Int32.ofInt c))]) (show cdA 107 72 = some (.istore 5, 2, 0, 0, 0) from rfl) (by decide) (fun _ h => h) ?_
          refine z_aload_n X (x := A 68) (show cdA 107 74 = some (.aload_n 0, 1, 0, 0, 0) from rfl) (List.Mem.tail _ (List.Mem.tail _ (List.Mem.head _))) ?_
          refine z_load_n X (x := xv) (show cdA 107 75 = some (.iload_n 1, 1, 0, 0, 0) from rfl) (List.Mem.tail _ (List.Mem.tail _ (List.Mem.tail _ (List.Mem.tail _ (List.Mem.head _))))) ?_
          refine z_load X (x := (iC t 79 ((zv + c)).toNat)) (show cdA 107 76 = some (.iload 7, 2, 0, 0, 0) from rfl) (List.Mem.tail _ (List.Mem.head _)) ?_
          refine z_aload_n X (x := A 92) (show cdA 107 78 = some (.aload_n 2, 1, 0, 0, 0) from rfl) (List.Mem.tail _ (List.Mem.tail _ (List.Mem.tail _ (List.Mem.head _)))) ?_
          refine z_load_n X (x := zv) (show cdA 107 79 = some (.iload_n 3, 1, 0, 0, 0) from rfl) (List.Mem.tail _ (List.Mem.tail _ (List.Mem.tail _ (List.Mem.tail _ (List.Mem.tail _ (List.Mem.head _)))))) ?_
          refine z_load X (x := c) (show cdA 107 80 = some (.iload 6, 2, 0, 0, 0) from rfl) (List.Mem.tail _ (List.Mem.tail _ (List.Mem.tail _ (List.Mem.tail _ (List.Mem.tail _ (List.Mem.tail _ (List.Mem.tail _ (List.Mem.head _)))))))) ?_
          refine z_add X (show cdA 107 82 = some (.iadd, 1, 0, 0, 0) from rfl) ?_
          refine z_const X (show cdA 107 83 = some (.iconst 1, 1, 0, 0, 0) from rfl) ?_
          refine z_add X (show cdA 107 84 = some (.iadd, 1, 0, 0, 0) from rfl) ?_
          refine z_ald X 92 (show cdA 107 85 = some (.iaload, 1, 0, 0, 0) from rfl) (by decide) rfl (by first | exact oq_21f9cd09 hi.2.2.1.1 hi.2.2.2.2.1 | omega) (show ((zv + c) + 1) < 24 by first | exact oq_c07d830a hi.2.2.1.2 g1003 | omega) (by decide) ?_
          have b1016 : (0 : Int) ≤ iC t 79 (((zv + c) + 1)).toNat ∧ iC t 79 (((zv + c) + 1)).toNat ≤ 127 := I.2 79 _ (show (((zv + c) + 1)).toNat < 24 by first | exact oq_136cae15 hi.2.2.1.2 g1003 | omega)
          refine z_min X (show cdA 107 86 = some (.invokestatic 122, 3, 0, 8, 0) from rfl) (rng_to _) (rng_to _) (by rw [E.2.2.2]; decide) (by rw [E.2.2.2]; exact Nat.le_of_ble_eq_true rfl) (Nat.zero_le _) (Nat.zero_le _) (fun e1017 he1017 => ?_)
          refine z_load X (x := e1015) (show cdA 107 89 = some (.iload 5, 2, 0, 0, 0) from rfl) (List.Mem.head _) ?_
          refine z_callV X 68 (rm := rmN 109) (As := [.int (Int32.ofInt xv), .int (Int32.ofInt e1017), .int (Int32.ofInt e1015)]) (st := []) (show cdA 107 91 = some (.invokevirtual 127, 3, 109, 0, 0) from rfl) rfl (by decide) rfl (by rw [E.1, E.2.1, E.2.2.1]; exact c9_setStep_68 G I (by first | exact ⟨hi.1.1, hi.1.2⟩ | omega) (by first | exact ⟨oq_03ccc143 he1017 b1016.1 b1002.1, oq_9c77db17 he1017 b1002.2⟩ | omega) (by first | exact ⟨hps1014.1, hps1014.2⟩ | omega)) ⟨by rw [E.2.2.2]; exact (show (rmN 109).frames + 1 ≤ (rmN 107).frames by decide), by rw [E.2.2.2]; exact (show 8 + (mNL (miB 109) + 11) + (rmN 109).locals ≤ (rmN 107).locals by decide), by rw [E.2.2.2]; exact (show 0 + (rmN 109).cells ≤ (rmN 107).cells by decide), by rw [E.2.2.2]; exact (show 0 + (rmN 109).slots ≤ (rmN 107).slots by decide)⟩ (Nat.le_of_ble_eq_true rfl) (fun vv s1018 hq => ?_) (fun ee s1018 hq => ?_)
          rotate_left
          · obtain ⟨Is1018, Fs1018, hv, hps1018⟩ := hq; cases hv
          obtain ⟨Is1018, Fs1018, hv, hps1018⟩ := hq
          cases hv
          have Gs1018 := fm_ts F Fs1018 (by decide) (by decide)
          show WS k 94 [(5, .int (Int32.ofInt e1015)), (7, .int (Int32.ofInt (iC t 79 ((zv + c)).toNat))), (0, .ref (A 68)), (2, .ref (A 92)), (1, .int (Int32.ofInt xv)), (3, .int (Int32.ofInt zv)), (4, .int (Int32.ofInt wv)), (6, .int (Int32.ofInt c))] [] (Wd A dT s1018) 0 0
          refine w_lconst X.1 (ax_d X (show cdA 107 94 = some (.lconst 1, 1, 0, 0, 0) from rfl)) rfl ?_
          refine z_anyJ (fun j1020 => ?_)
          refine z_load X (x := (iC t 79 ((zv + c)).toNat)) (show cdA 107 95 = some (.iload 7, 2, 0, 0, 0) from rfl) (List.Mem.tail _ (List.Mem.head _)) ?_
          refine z_bipush X (show cdA 107 97 = some (.bipush 63, 2, 0, 0, 63) from rfl) ?_
          refine z_andm X (show cdA 107 99 = some (.iand, 1, 0, 0, 0) from rfl) (by decide) (by decide) (fun y1021 hy1021 gy1021 => ?_)
          refine w_lshl X.1 (ax_d X (show cdA 107 100 = some (.lshl, 1, 0, 0, 0) from rfl)) ?_
          refine z_anyJ (fun j1022 => ?_)
          refine w_lstore X.1 (lv' := [(8, .long j1022), (5, .int (Int32.ofInt e1015)), (7, .int (Int32.ofInt (iC t 79 ((zv + c)).toNat))), (0, .ref (A 68)), (2, .ref (A 92)), (1, .int (Int32.ofInt xv)), (3, .int (Int32.ofInt zv)), (4, .int (Int32.ofInt wv)), (6, .int (Int32.ofInt c))]) (ax_d X (show cdA 107 101 = some (.lstore 8, 2, 0, 0, 0) from rfl)) (by rw [X.2.1.2.2]; decide) (fun _ h => h) ?_
          refine z_aload_n X (x := A 68) (show cdA 107 103 = some (.aload_n 0, 1, 0, 0, 0) from rfl) (List.Mem.tail _ (List.Mem.tail _ (List.Mem.tail _ (List.Mem.head _)))) ?_
          refine s_getR X 68 (show cdA 107 104 = some (.getfield 18, 3, 9, 3, 0) from rfl) (by decide) rfl rfl ?_
          refine z_load_n X (x := xv) (show cdA 107 107 = some (.iload_n 1, 1, 0, 0, 0) from rfl) (List.Mem.tail _ (List.Mem.tail _ (List.Mem.tail _ (List.Mem.tail _ (List.Mem.tail _ (List.Mem.head _)))))) ?_
          refine z_const X (show cdA 107 108 = some (.iconst 2, 1, 0, 0, 0) from rfl) ?_
          refine z_mul X (show cdA 107 109 = some (.imul, 1, 0, 0, 0) from rfl) ?_
          refine z_load X (x := (iC t 79 ((zv + c)).toNat)) (show cdA 107 110 = some (.iload 7, 2, 0, 0, 0) from rfl) (List.Mem.tail _ (List.Mem.tail _ (List.Mem.head _))) ?_
          refine z_bipush X (show cdA 107 112 = some (.bipush 64, 2, 0, 0, 64) from rfl) ?_
          refine z_quot X (show cdA 107 114 = some (.idiv, 1, 0, 0, 0) from rfl) (by first | exact b1002.1 | omega) (rng_to _) (by decide) (by decide) ?_
          refine z_add X (show cdA 107 115 = some (.iadd, 1, 0, 0, 0) from rfl) ?_
          refine w_dup2_11 X.1 (ax_d X (show cdA 107 116 = some (.dup2, 1, 0, 0, 0) from rfl)) rfl rfl ?_
          refine z_lald X 71 (show cdA 107 117 = some (.laload, 1, 0, 0, 0) from rfl) (by decide) rfl (by first | exact oq_c0bd8137 b1002.1 hi.1.1 | omega) (show ((xv * 2) + ((iC t 79 ((zv + c)).toNat) / 64)) < 24 by first | exact oq_c80b6473 b1002.2 hi.1.2 | omega) (by decide) (fun j1023 => ?_)
          refine w_lload X.1 (ax_d X (show cdA 107 118 = some (.lload 8, 2, 0, 0, 0) from rfl)) (x := j1022) (List.Mem.head _) ?_
          refine w_lor X.1 (ax_d X (show cdA 107 120 = some (.lor, 1, 0, 0, 0) from rfl)) ?_
          refine z_anyJ (fun j1024 => ?_)
          refine z_last X 71 (show cdA 107 121 = some (.lastore, 1, 0, 0, 0) from rfl) (by decide) rfl (by first | exact oq_c0bd8137 b1002.1 hi.1.1 | omega) (show ((xv * 2) + ((iC t 79 ((zv + c)).toNat) / 64)) < 24 by first | exact oq_c80b6473 b1002.2 hi.1.2 | omega) (by decide) ?_
          obtain ⟨s1025, hs1025⟩ : ∃ x0, x0 = uD s1018 59 (((xv * 2) + ((iC t 79 ((zv + c)).toNat) / 64))).toNat j1024 := ⟨_, rfl⟩
          rw [← hs1025]
          have Is1025 : Bd s1025 := by rw [hs1025]; exact bd_D Is1018
          have Fs1025 : Fm [] [57, 58, 1059, 1060, 1061] s s1025 := by rw [hs1025]; exact fm_D Gs1018 (show 59 + 1000 ∈ _ by decide)
          refine z_aload_n X (x := A 68) (show cdA 107 122 = some (.aload_n 0, 1, 0, 0, 0) from rfl) (List.Mem.tail _ (List.Mem.tail _ (List.Mem.tail _ (List.Mem.head _)))) ?_
          refine s_getR X 68 (show cdA 107 123 = some (.getfield 22, 3, 9, 4, 0) from rfl) (by decide) rfl rfl ?_
          refine z_load_n X (x := xv) (show cdA 107 126 = some (.iload_n 1, 1, 0, 0, 0) from rfl) (List.Mem.tail _ (List.Mem.tail _ (List.Mem.tail _ (List.Mem.tail _ (List.Mem.tail _ (List.Mem.head _)))))) ?_
          refine z_bipush X (show cdA 107 127 = some (.bipush 7, 2, 0, 0, 7) from rfl) ?_
          refine z_mul X (show cdA 107 129 = some (.imul, 1, 0, 0, 0) from rfl) ?_
          refine z_load X (x := e1015) (show cdA 107 130 = some (.iload 5, 2, 0, 0, 0) from rfl) (List.Mem.tail _ (List.Mem.head _)) ?_
          refine z_add X (show cdA 107 132 = some (.iadd, 1, 0, 0, 0) from rfl) ?_
          refine z_const X (show cdA 107 133 = some (.iconst 2, 1, 0, 0, 0) from rfl) ?_
          refine z_mul X (show cdA 107 134 = some (.imul, 1, 0, 0, 0) from rfl) ?_
          refine z_load X (x := (iC t 79 ((zv + c)).toNat)) (show cdA 107 135 = some (.iload 7, 2, 0, 0, 0) from rfl) (List.Mem.tail _ (List.Mem.tail _ (List.Mem.head _))) ?_
          refine z_bipush X (show cdA 107 137 = some (.bipush 64, 2, 0, 0, 64) from rfl) ?_
          refine z_quot X (show cdA 107 139 = some (.idiv, 1, 0, 0, 0) from rfl) (by first | exact b1002.1 | omega) (rng_to _) (by decide) (by decide) ?_
          refine z_add X (show cdA 107 140 = some (.iadd, 1, 0, 0, 0) from rfl) ?_
          refine w_dup2_11 X.1 (ax_d X (show cdA 107 141 = some (.dup2, 1, 0, 0, 0) from rfl)) rfl rfl ?_
          refine z_lald X 72 (show cdA 107 142 = some (.laload, 1, 0, 0, 0) from rfl) (by decide) rfl (by first | exact oq_f0013a75 hps1014.1 b1002.1 hi.1.1 | omega) (show ((((xv * 7) + e1015) * 2) + ((iC t 79 ((zv + c)).toNat) / 64)) < 168 by first | exact oq_2f745b71 hps1014.2 b1002.2 hi.1.2 | omega) (by decide) (fun j1026 => ?_)
          refine w_lload X.1 (ax_d X (show cdA 107 143 = some (.lload 8, 2, 0, 0, 0) from rfl)) (x := j1022) (List.Mem.head _) ?_
          refine w_lor X.1 (ax_d X (show cdA 107 145 = some (.lor, 1, 0, 0, 0) from rfl)) ?_
          refine z_anyJ (fun j1027 => ?_)
          refine z_last X 72 (show cdA 107 146 = some (.lastore, 1, 0, 0, 0) from rfl) (by decide) rfl (by first | exact oq_f0013a75 hps1014.1 b1002.1 hi.1.1 | omega) (show ((((xv * 7) + e1015) * 2) + ((iC t 79 ((zv + c)).toNat) / 64)) < 168 by first | exact oq_2f745b71 hps1014.2 b1002.2 hi.1.2 | omega) (by decide) ?_
          obtain ⟨s1028, hs1028⟩ : ∃ x0, x0 = uD s1025 60 (((((xv * 7) + e1015) * 2) + ((iC t 79 ((zv + c)).toNat) / 64))).toNat j1027 := ⟨_, rfl⟩
          rw [← hs1028]
          have Is1028 : Bd s1028 := by rw [hs1028]; exact bd_D Is1025
          have Fs1028 : Fm [] [57, 58, 1059, 1060, 1061] s s1028 := by rw [hs1028]; exact fm_D Fs1025 (show 60 + 1000 ∈ _ by decide)
          refine z_inc X (x := c) (lv' := [(6, .int (Int32.ofInt (c + 1))), (8, .long j1022), (5, .int (Int32.ofInt e1015)), (7, .int (Int32.ofInt (iC t 79 ((zv + c)).toNat))), (0, .ref (A 68)), (2, .ref (A 92)), (1, .int (Int32.ofInt xv)), (3, .int (Int32.ofInt zv)), (4, .int (Int32.ofInt wv))]) (show cdA 107 147 = some (.iinc 6 1, 3, 0, 0, 0) from rfl) (by decide) (List.Mem.tail _ (List.Mem.tail _ (List.Mem.tail _ (List.Mem.tail _ (List.Mem.tail _ (List.Mem.tail _ (List.Mem.tail _ (List.Mem.tail _ (List.Mem.head _))))))))) (fun _ h => h) ?_
          refine z_goto X (t := 35) (show cdA 107 150 = some (.goto (-115), 3, 0, 0, 0) from rfl) (by decide) ?_
          refine WS_lv (lv := [(0, .ref (A 68)), (2, .ref (A 92)), (1, .int (Int32.ofInt xv)), (3, .int (Int32.ofInt zv)), (4, .int (Int32.ofInt wv)), (5, .int (Int32.ofInt e1015)), (6, .int (Int32.ofInt (c + 1)))]) (List.forall_mem_cons.mpr ⟨(List.Mem.tail _ (List.Mem.tail _ (List.Mem.tail _ (List.Mem.tail _ (List.Mem.head _))))), (List.forall_mem_cons.mpr ⟨(List.Mem.tail _ (List.Mem.tail _ (List.Mem.tail _ (List.Mem.tail _ (List.Mem.tail _ (List.Mem.head _)))))), (List.forall_mem_cons.mpr ⟨(List.Mem.tail _ (List.Mem.tail _ (List.Mem.tail _ (List.Mem.tail _ (List.Mem.tail _ (List.Mem.tail _ (List.Mem.head _))))))), (List.forall_mem_cons.mpr ⟨(List.Mem.tail _ (List.Mem.tail _ (List.Mem.tail _ (List.Mem.tail _ (List.Mem.tail _ (List.Mem.tail _ (List.Mem.tail _ (List.Mem.head _)))))))), (List.forall_mem_cons.mpr ⟨(List.Mem.tail _ (List.Mem.tail _ (List.Mem.tail _ (List.Mem.tail _ (List.Mem.tail _ (List.Mem.tail _ (List.Mem.tail _ (List.Mem.tail _ (List.Mem.head _))))))))), (List.forall_mem_cons.mpr ⟨(List.Mem.tail _ (List.Mem.tail _ (List.Mem.head _))), (List.forall_mem_cons.mpr ⟨(List.Mem.head _), (fun q h => absurd h List.not_mem_nil)⟩)⟩)⟩)⟩)⟩)⟩)⟩) ?_
          exact ih _ xv zv wv e1015 (c + 1) Is1028 Fs1028 (by first | exact ⟨And.intro (hi.1.1) (hi.1.2), And.intro (hi.2.1.1) (hi.2.1.2), And.intro (hi.2.2.1.1) (hi.2.2.1.2), And.intro (hps1014.1) (oq_b982df86 hps1014.2), oq_54f49eb5 hi.2.2.2.2.1, oq_bbeecdc2 g1003 hi.2.1.2⟩ | omega) (by first | exact qk_me hm (by decide) (oq_261750be g1003 hi.2.1.2) | omega) kx
  refine z_aload_n X (x := A 92) (show cdA 107 0 = some (.aload_n 2, 1, 0, 0, 0) from rfl) (List.Mem.tail _ (List.Mem.tail _ (List.Mem.head _))) ?_
  refine z_load_n X (x := z) (show cdA 107 1 = some (.iload_n 3, 1, 0, 0, 0) from rfl) (List.Mem.tail _ (List.Mem.tail _ (List.Mem.tail _ (List.Mem.head _)))) ?_
  refine z_aload_n X (x := A 68) (show cdA 107 2 = some (.aload_n 0, 1, 0, 0, 0) from rfl) (List.Mem.head _) ?_
  refine s_getR X 68 (show cdA 107 3 = some (.getfield 9, 3, 9, 1, 0) from rfl) (by decide) rfl rfl ?_
  refine z_load_n X (x := x) (show cdA 107 6 = some (.iload_n 1, 1, 0, 0, 0) from rfl) (List.Mem.tail _ (List.Mem.head _)) ?_
  refine z_bipush X (show cdA 107 7 = some (.bipush 24, 2, 0, 0, 24) from rfl) ?_
  refine z_mul X (show cdA 107 9 = some (.imul, 1, 0, 0, 0) from rfl) ?_
  refine z_load X (x := w) (show cdA 107 10 = some (.iload 4, 2, 0, 0, 0) from rfl) (List.Mem.tail _ (List.Mem.tail _ (List.Mem.tail _ (List.Mem.tail _ (List.Mem.head _))))) ?_
  refine z_copy X I 92 69 (st := []) (show cdA 107 12 = some (.invokestatic 109, 3, 0, 5, 0) from rfl) (by decide) (by decide) rfl rfl (by omega) (by omega) (by omega) (show z + w ≤ ((24 : Nat) : Int) by omega) (show (x * 24) + w ≤ ((288 : Nat) : Int) by omega) (by decide) (by rw [E.2.2.2]; decide) (by rw [E.2.2.2]; exact Nat.le_of_ble_eq_true rfl) (fun s1 Is1 Fs1 => ?_)
  have Gs1 := fm_ts F Fs1 (by decide) (by decide)
  refine z_aload_n X (x := A 68) (show cdA 107 15 = some (.aload_n 0, 1, 0, 0, 0) from rfl) (List.Mem.head _) ?_
  refine s_getR X 68 (show cdA 107 16 = some (.getfield 15, 3, 9, 2, 0) from rfl) (by decide) rfl rfl ?_
  refine z_load_n X (x := x) (show cdA 107 19 = some (.iload_n 1, 1, 0, 0, 0) from rfl) (List.Mem.tail _ (List.Mem.head _)) ?_
  refine z_load X (x := w) (show cdA 107 20 = some (.iload 4, 2, 0, 0, 0) from rfl) (List.Mem.tail _ (List.Mem.tail _ (List.Mem.tail _ (List.Mem.tail _ (List.Mem.head _))))) ?_
  refine z_ast X 70 (show cdA 107 22 = some (.iastore, 1, 0, 0, 0) from rfl) (by decide) rfl (by first | exact p0.1 | omega) (show x < 12 by first | exact oq_0ddfcfee p0.2 | omega) (by decide) ?_
  obtain ⟨s2, hs2⟩ : ∃ x0, x0 = uC s1 58 (x).toNat (Int32.ofInt w) := ⟨_, rfl⟩
  rw [← hs2]
  have Is2 : Bd s2 := by rw [hs2]; exact bd_C Is1 (show (0 : Int) ≤ w ∧ w ≤ 24 by first | exact ⟨p1.1, p1.2⟩ | omega) ⟨by first | exact oq_fa4e5087 p1.1 | omega, by first | exact oq_5bcd337f p1.2 | omega⟩
  have Fs2 := fm_C (i := (x).toNat) (x := Int32.ofInt w) Gs1 (show 58 ∈ _ by decide)
  rw [← hs2] at Fs2
  refine z_aload_n X (x := A 68) (show cdA 107 23 = some (.aload_n 0, 1, 0, 0, 0) from rfl) (List.Mem.head _) ?_
  refine z_load_n X (x := x) (show cdA 107 24 = some (.iload_n 1, 1, 0, 0, 0) from rfl) (List.Mem.tail _ (List.Mem.head _)) ?_
  refine z_callV X 68 (rm := rmN 108) (As := [.int (Int32.ofInt x)]) (st := []) (show cdA 107 25 = some (.invokevirtual 115, 3, 108, 0, 0) from rfl) rfl (by decide) rfl (by rw [E.1, E.2.1, E.2.2.1]; exact c9_wipe_68 G Is2 (by first | exact ⟨p0.1, p0.2⟩ | omega)) ⟨by rw [E.2.2.2]; exact (show (rmN 108).frames + 1 ≤ (rmN 107).frames by decide), by rw [E.2.2.2]; exact (show 8 + (mNL (miB 108) + 11) + (rmN 108).locals ≤ (rmN 107).locals by decide), by rw [E.2.2.2]; exact (show 0 + (rmN 108).cells ≤ (rmN 107).cells by decide), by rw [E.2.2.2]; exact (show 0 + (rmN 108).slots ≤ (rmN 107).slots by decide)⟩ (Nat.le_of_ble_eq_true rfl) (fun vv s3 hq => ?_) (fun ee s3 hq => ?_)
  rotate_left
  · obtain ⟨Is3, Fs3, hv, hps3⟩ := hq; cases hv
  obtain ⟨Is3, Fs3, hv, hps3⟩ := hq
  cases hv
  have Gs3 := fm_ts Fs2 Fs3 (by decide) (by decide)
  show WS k 28 [(0, .ref (A 68)), (1, .int (Int32.ofInt x)), (2, .ref (A 92)), (3, .int (Int32.ofInt z)), (4, .int (Int32.ofInt w))] [] (Wd A dT s3) 0 0
  refine z_bipush X (show cdA 107 28 = some (.bipush 6, 2, 0, 0, 6) from rfl) ?_
  refine z_store X (lv' := [(5, .int (Int32.ofInt 6)), (0, .ref (A 68)), (1, .int (Int32.ofInt x)), (2, .ref (A 92)), (3, .int (Int32.ofInt z)), (4, .int (Int32.ofInt w))]) (show cdA 107 30 = some (.istore 5, 2, 0, 0, 0) from rfl) (by decide) (fun _ h => h) ?_
  refine z_const X (show cdA 107 32 = some (.iconst 0, 1, 0, 0, 0) from rfl) ?_
  refine z_store X (lv' := [(6, .int (Int32.ofInt 0)), (5, .int (Int32.ofInt 6)), (0, .ref (A 68)), (1, .int (Int32.ofInt x)), (2, .ref (A 92)), (3, .int (Int32.ofInt z)), (4, .int (Int32.ofInt w))]) (show cdA 107 33 = some (.istore 6, 2, 0, 0, 0) from rfl) (by decide) (fun _ h => h) ?_
  refine WS_lv (lv := [(0, .ref (A 68)), (2, .ref (A 92)), (1, .int (Int32.ofInt x)), (3, .int (Int32.ofInt z)), (4, .int (Int32.ofInt w)), (5, .int (Int32.ofInt 6)), (6, .int (Int32.ofInt 0))]) (List.forall_mem_cons.mpr ⟨(List.Mem.tail _ (List.Mem.tail _ (List.Mem.head _))), (List.forall_mem_cons.mpr ⟨(List.Mem.tail _ (List.Mem.tail _ (List.Mem.tail _ (List.Mem.tail _ (List.Mem.head _))))), (List.forall_mem_cons.mpr ⟨(List.Mem.tail _ (List.Mem.tail _ (List.Mem.tail _ (List.Mem.head _)))), (List.forall_mem_cons.mpr ⟨(List.Mem.tail _ (List.Mem.tail _ (List.Mem.tail _ (List.Mem.tail _ (List.Mem.tail _ (List.Mem.head _)))))), (List.forall_mem_cons.mpr ⟨(List.Mem.tail _ (List.Mem.tail _ (List.Mem.tail _ (List.Mem.tail _ (List.Mem.tail _ (List.Mem.tail _ (List.Mem.head _))))))), (List.forall_mem_cons.mpr ⟨(List.Mem.tail _ (List.Mem.head _)), (List.forall_mem_cons.mpr ⟨(List.Mem.head _), (fun q h => absurd h List.not_mem_nil)⟩)⟩)⟩)⟩)⟩)⟩)⟩) ?_
  refine L35 ((24 - 0 : Int).toNat + 1) s3 x z w 6 0 Is3 Gs3 (by first | exact ⟨And.intro (p0.1) (p0.2), And.intro (p1.1) (p1.2), And.intro (p2.1) (p2.2), And.intro (by decide) (by decide), by decide, by decide⟩ | omega) (Nat.lt_succ_self _) ?_
  intro s5 x6 x7 Is5 Fs5 hs5
  exact w_vret X.1 q hRt (ax_d X (show cdA 107 153 = some (.return_, 1, 0, 0, 0) from rfl)) (Nat.zero_le _) (Nat.zero_le _) ⟨_, rfl, Is5, Fs5, rfl, trivial⟩
set_option maxRecDepth 4000 in
theorem c9_meetsOf_68 (G : GX l s0 D tys a0 dT) (I : Bd s) {x y z : Int} (p0 : 0 ≤ x ∧ x ≤ 11) (p1 : 0 ≤ y ∧ y ≤ 11) (p2 : 0 ≤ z ∧ z ≤ 1) : CT l s0 D A dT 111 (rmN 111) [.ref (A 68), .int (Int32.ofInt x), .int (Int32.ofInt y), .int (Int32.ofInt z)] s (fun o t => Bd t ∧ Fm [] [] s t ∧ ∃ e : Int64, o = .inl (some (.long e)) ∧ (True)) := by
  refine ct_ofX G (by decide) (Nat.le_of_ble_eq_true rfl) (fun k X E ET hRt hXt q => ?_)
  show WS k 0 [(0, .ref (A 68)), (1, .int (Int32.ofInt x)), (2, .int (Int32.ofInt y)), (3, .int (Int32.ofInt z))] [] _ 0 0
  have F : Fm [] [] s s := fm_rf _ _ s
  have L26 : ∀ (n : Nat) (t : PS) (xv : Int) (yv : Int) (zv : Int) (un : Int64) (g : Int), Bd t → Fm [] [] s t → ((0 ≤ xv ∧ xv ≤ 11) ∧ (0 ≤ yv ∧ yv ≤ 11) ∧ (0 ≤ zv ∧ zv ≤ 1) ∧ 0 ≤ g ∧ g ≤ 7) → (7 - g : Int).toNat < n → (∀ (t' : PS) (un' : Int64) (g' : Int), Bd t' → Fm [] [] s t' → ((0 ≤ xv ∧ xv ≤ 11) ∧ (0 ≤ yv ∧ yv ≤ 11) ∧ (0 ≤ zv ∧ zv ≤ 1) ∧ 0 ≤ g' ∧ g' ≤ 7) → WS k 88 [(0, .ref (A 68)), (1, .int (Int32.ofInt xv)), (2, .int (Int32.ofInt yv)), (3, .int (Int32.ofInt zv)), (4, .long un'), (6, .int (Int32.ofInt g'))] [] (Wd A dT t') 0 0) → WS k 26 [(0, .ref (A 68)), (1, .int (Int32.ofInt xv)), (2, .int (Int32.ofInt yv)), (3, .int (Int32.ofInt zv)), (4, .long un), (6, .int (Int32.ofInt g))] [] (Wd A dT t) 0 0 := by
    intro n
    induction n with
    | zero =>
      intro t xv yv zv un g I F hi hm kx
      exact absurd hm (Nat.not_lt_zero _)
    | succ n ih =>
      intro t xv yv zv un g I F hi hm kx
      refine z_load X (x := g) (show cdA 111 26 = some (.iload 6, 2, 0, 0, 0) from rfl) (List.Mem.tail _ (List.Mem.tail _ (List.Mem.tail _ (List.Mem.tail _ (List.Mem.tail _ (List.Mem.head _)))))) ?_
      refine z_bipush X (show cdA 111 28 = some (.bipush 7, 2, 0, 0, 7) from rfl) ?_
      refine z_icmp_ge X (t := 88) (show cdA 111 30 = some (.if_icmp .ge 58, 3, 3, 0, 0) from rfl) (by decide) ⟨by first | exact oq_fa4e5087 hi.2.2.2.1 | omega, by first | exact oq_0e78ca7d hi.2.2.2.2 | omega⟩ (by decide) (fun g1001 => ?_) (fun g1001 => ?_)
      ·
        refine WS_lv (lv := [(0, .ref (A 68)), (1, .int (Int32.ofInt xv)), (2, .int (Int32.ofInt yv)), (3, .int (Int32.ofInt zv)), (4, .long un), (6, .int (Int32.ofInt g))]) (List.forall_mem_cons.mpr ⟨(List.Mem.head _), (List.forall_mem_cons.mpr ⟨(List.Mem.tail _ (List.Mem.head _)), (List.forall_mem_cons.mpr ⟨(List.Mem.tail _ (List.Mem.tail _ (List.Mem.head _))), (List.forall_mem_cons.mpr ⟨(List.Mem.tail _ (List.Mem.tail _ (List.Mem.tail _ (List.Mem.head _)))), (List.forall_mem_cons.mpr ⟨(List.Mem.tail _ (List.Mem.tail _ (List.Mem.tail _ (List.Mem.tail _ (List.Mem.head _))))), (List.forall_mem_cons.mpr ⟨(List.Mem.tail _ (List.Mem.tail _ (List.Mem.tail _ (List.Mem.tail _ (List.Mem.tail _ (List.Mem.head _)))))), (fun q h => absurd h List.not_mem_nil)⟩)⟩)⟩)⟩)⟩)⟩) ?_
        exact kx _ un g I F (by first | exact ⟨And.intro (hi.1.1) (hi.1.2), And.intro (hi.2.1.1) (hi.2.1.2), And.intro (hi.2.2.1.1) (hi.2.2.1.2), hi.2.2.2.1, hi.2.2.2.2⟩ | omega)
      ·
        refine w_lload X.1 (ax_d X (show cdA 111 33 = some (.lload 4, 2, 0, 0, 0) from rfl)) (x := un) (List.Mem.tail _ (List.Mem.tail _ (List.Mem.tail _ (List.Mem.tail _ (List.Mem.head _))))) ?_
        refine w_lconst X.1 (ax_d X (show cdA 111 35 = some (.lconst 0, 1, 0, 0, 0) from rfl)) rfl ?_
        refine z_anyJ (fun j1002 => ?_)
        refine w_lcmp X.1 (ax_d X (show cdA 111 36 = some (.lcmp, 1, 0, 0, 0) from rfl)) ?_
        refine z_any (fun y1003 hy1003 => ?_)
        refine z_if_eq X (t := 88) (show cdA 111 37 = some (.ifCond .eq 51, 3, 0, 0, 0) from rfl) (by decide) hy1003 (fun g1004 => ?_) (fun g1004 => ?_)
        ·
          refine WS_lv (lv := [(0, .ref (A 68)), (1, .int (Int32.ofInt xv)), (2, .int (Int32.ofInt yv)), (3, .int (Int32.ofInt zv)), (4, .long un), (6, .int (Int32.ofInt g))]) (List.forall_mem_cons.mpr ⟨(List.Mem.head _), (List.forall_mem_cons.mpr ⟨(List.Mem.tail _ (List.Mem.head _)), (List.forall_mem_cons.mpr ⟨(List.Mem.tail _ (List.Mem.tail _ (List.Mem.head _))), (List.forall_mem_cons.mpr ⟨(List.Mem.tail _ (List.Mem.tail _ (List.Mem.tail _ (List.Mem.head _)))), (List.forall_mem_cons.mpr ⟨(List.Mem.tail _ (List.Mem.tail _ (List.Mem.tail _ (List.Mem.tail _ (List.Mem.head _))))), (List.forall_mem_cons.mpr ⟨(List.Mem.tail _ (List.Mem.tail _ (List.Mem.tail _ (List.Mem.tail _ (List.Mem.tail _ (List.Mem.head _)))))), (fun q h => absurd h List.not_mem_nil)⟩)⟩)⟩)⟩)⟩)⟩) ?_
          exact kx _ un g I F (by first | exact ⟨And.intro (hi.1.1) (hi.1.2), And.intro (hi.2.1.1) (hi.2.1.2), And.intro (hi.2.2.1.1) (hi.2.2.1.2), hi.2.2.2.1, hi.2.2.2.2⟩ | omega)
        ·
          refine w_lload X.1 (ax_d X (show cdA 111 40 = some (.lload 4, 2, 0, 0, 0) from rfl)) (x := un) (List.Mem.tail _ (List.Mem.tail _ (List.Mem.tail _ (List.Mem.tail _ (List.Mem.head _))))) ?_
          refine z_aload_n X (x := A 68) (show cdA 111 42 = some (.aload_n 0, 1, 0, 0, 0) from rfl) (List.Mem.head _) ?_
          refine s_getR X 68 (show cdA 111 43 = some (.getfield 22, 3, 9, 4, 0) from rfl) (by decide) rfl rfl ?_
          refine z_load_n X (x := xv) (show cdA 111 46 = some (.iload_n 1, 1, 0, 0, 0) from rfl) (List.Mem.tail _ (List.Mem.head _)) ?_
          refine z_bipush X (show cdA 111 47 = some (.bipush 7, 2, 0, 0, 7) from rfl) ?_
          refine z_mul X (show cdA 111 49 = some (.imul, 1, 0, 0, 0) from rfl) ?_
          refine z_load X (x := g) (show cdA 111 50 = some (.iload 6, 2, 0, 0, 0) from rfl) (List.Mem.tail _ (List.Mem.tail _ (List.Mem.tail _ (List.Mem.tail _ (List.Mem.tail _ (List.Mem.head _)))))) ?_
          refine z_add X (show cdA 111 52 = some (.iadd, 1, 0, 0, 0) from rfl) ?_
          refine z_const X (show cdA 111 53 = some (.iconst 2, 1, 0, 0, 0) from rfl) ?_
          refine z_mul X (show cdA 111 54 = some (.imul, 1, 0, 0, 0) from rfl) ?_
          refine z_load_n X (x := zv) (show cdA 111 55 = some (.iload_n 3, 1, 0, 0, 0) from rfl) (List.Mem.tail _ (List.Mem.tail _ (List.Mem.tail _ (List.Mem.head _)))) ?_
          refine z_add X (show cdA 111 56 = some (.iadd, 1, 0, 0, 0) from rfl) ?_
          refine z_lald X 72 (show cdA 111 57 = some (.laload, 1, 0, 0, 0) from rfl) (by decide) rfl (by first | exact oq_952f4f1b hi.1.1 hi.2.2.2.1 hi.2.2.1.1 | omega) (show ((((xv * 7) + g) * 2) + zv) < 168 by first | exact oq_46bcb755 hi.1.2 hi.2.2.1.2 g1001 | omega) (by decide) (fun j1005 => ?_)
          refine z_aload_n X (x := A 68) (show cdA 111 58 = some (.aload_n 0, 1, 0, 0, 0) from rfl) (List.Mem.head _) ?_
          refine s_getR X 68 (show cdA 111 59 = some (.getfield 22, 3, 9, 4, 0) from rfl) (by decide) rfl rfl ?_
          refine z_load_n X (x := yv) (show cdA 111 62 = some (.iload_n 2, 1, 0, 0, 0) from rfl) (List.Mem.tail _ (List.Mem.tail _ (List.Mem.head _))) ?_
          refine z_bipush X (show cdA 111 63 = some (.bipush 7, 2, 0, 0, 7) from rfl) ?_
          refine z_mul X (show cdA 111 65 = some (.imul, 1, 0, 0, 0) from rfl) ?_
          refine z_load X (x := g) (show cdA 111 66 = some (.iload 6, 2, 0, 0, 0) from rfl) (List.Mem.tail _ (List.Mem.tail _ (List.Mem.tail _ (List.Mem.tail _ (List.Mem.tail _ (List.Mem.head _)))))) ?_
          refine z_add X (show cdA 111 68 = some (.iadd, 1, 0, 0, 0) from rfl) ?_
          refine z_const X (show cdA 111 69 = some (.iconst 2, 1, 0, 0, 0) from rfl) ?_
          refine z_mul X (show cdA 111 70 = some (.imul, 1, 0, 0, 0) from rfl) ?_
          refine z_load_n X (x := zv) (show cdA 111 71 = some (.iload_n 3, 1, 0, 0, 0) from rfl) (List.Mem.tail _ (List.Mem.tail _ (List.Mem.tail _ (List.Mem.head _)))) ?_
          refine z_add X (show cdA 111 72 = some (.iadd, 1, 0, 0, 0) from rfl) ?_
          refine z_lald X 72 (show cdA 111 73 = some (.laload, 1, 0, 0, 0) from rfl) (by decide) rfl (by first | exact oq_952f4f1b hi.2.1.1 hi.2.2.2.1 hi.2.2.1.1 | omega) (show ((((yv * 7) + g) * 2) + zv) < 168 by first | exact oq_46bcb755 hi.2.1.2 hi.2.2.1.2 g1001 | omega) (by decide) (fun j1006 => ?_)
          refine w_land X.1 (ax_d X (show cdA 111 74 = some (.land, 1, 0, 0, 0) from rfl)) ?_
          refine z_anyJ (fun j1007 => ?_)
          refine z_ldc2 X (show cdA 111 75 = some (.ldc2_w 138, 3, 18446744073709551615, 0, 0) from rfl) (fun j1008 => ?_)
          refine w_lxor X.1 (ax_d X (show cdA 111 78 = some (.lxor, 1, 0, 0, 0) from rfl)) ?_
          refine z_anyJ (fun j1009 => ?_)
          refine w_land X.1 (ax_d X (show cdA 111 79 = some (.land, 1, 0, 0, 0) from rfl)) ?_
          refine z_anyJ (fun j1010 => ?_)
          refine w_lstore X.1 (lv' := [(4, .long j1010), (0, .ref (A 68)), (1, .int (Int32.ofInt xv)), (2, .int (Int32.ofInt yv)), (3, .int (Int32.ofInt zv)), (6, .int (Int32.ofInt g))]) (ax_d X (show cdA 111 80 = some (.lstore 4, 2, 0, 0, 0) from rfl)) (by rw [X.2.1.2.2]; decide) (fun _ h => h) ?_
          refine z_inc X (x := g) (lv' := [(6, .int (Int32.ofInt (g + 1))), (4, .long j1010), (0, .ref (A 68)), (1, .int (Int32.ofInt xv)), (2, .int (Int32.ofInt yv)), (3, .int (Int32.ofInt zv))]) (show cdA 111 82 = some (.iinc 6 1, 3, 0, 0, 0) from rfl) (by decide) (List.Mem.tail _ (List.Mem.tail _ (List.Mem.tail _ (List.Mem.tail _ (List.Mem.tail _ (List.Mem.head _)))))) (fun _ h => h) ?_
          refine z_goto X (t := 26) (show cdA 111 85 = some (.goto (-59), 3, 0, 0, 0) from rfl) (by decide) ?_
          refine WS_lv (lv := [(0, .ref (A 68)), (1, .int (Int32.ofInt xv)), (2, .int (Int32.ofInt yv)), (3, .int (Int32.ofInt zv)), (4, .long j1010), (6, .int (Int32.ofInt (g + 1)))]) (List.forall_mem_cons.mpr ⟨(List.Mem.tail _ (List.Mem.tail _ (List.Mem.head _))), (List.forall_mem_cons.mpr ⟨(List.Mem.tail _ (List.Mem.tail _ (List.Mem.tail _ (List.Mem.head _)))), (List.forall_mem_cons.mpr ⟨(List.Mem.tail _ (List.Mem.tail _ (List.Mem.tail _ (List.Mem.tail _ (List.Mem.head _))))), (List.forall_mem_cons.mpr ⟨(List.Mem.tail _ (List.Mem.tail _ (List.Mem.tail _ (List.Mem.tail _ (List.Mem.tail _ (List.Mem.head _)))))), (List.forall_mem_cons.mpr ⟨(List.Mem.tail _ (List.Mem.head _)), (List.forall_mem_cons.mpr ⟨(List.Mem.head _), (fun q h => absurd h List.not_mem_nil)⟩)⟩)⟩)⟩)⟩)⟩) ?_
          exact ih _ xv yv zv j1010 (g + 1) I F (by first | exact ⟨And.intro (hi.1.1) (hi.1.2), And.intro (hi.2.1.1) (hi.2.1.2), And.intro (hi.2.2.1.1) (hi.2.2.1.2), oq_54f49eb5 hi.2.2.2.1, oq_c22ff062 g1001⟩ | omega) (by first | exact qk_me hm (by decide) (oq_4b3bf825 g1001) | omega) kx
  refine z_aload_n X (x := A 68) (show cdA 111 0 = some (.aload_n 0, 1, 0, 0, 0) from rfl) (List.Mem.head _) ?_
  refine s_getR X 68 (show cdA 111 1 = some (.getfield 18, 3, 9, 3, 0) from rfl) (by decide) rfl rfl ?_
  refine z_load_n X (x := x) (show cdA 111 4 = some (.iload_n 1, 1, 0, 0, 0) from rfl) (List.Mem.tail _ (List.Mem.head _)) ?_
  refine z_const X (show cdA 111 5 = some (.iconst 2, 1, 0, 0, 0) from rfl) ?_
  refine z_mul X (show cdA 111 6 = some (.imul, 1, 0, 0, 0) from rfl) ?_
  refine z_load_n X (x := z) (show cdA 111 7 = some (.iload_n 3, 1, 0, 0, 0) from rfl) (List.Mem.tail _ (List.Mem.tail _ (List.Mem.tail _ (List.Mem.head _)))) ?_
  refine z_add X (show cdA 111 8 = some (.iadd, 1, 0, 0, 0) from rfl) ?_
  refine z_lald X 71 (show cdA 111 9 = some (.laload, 1, 0, 0, 0) from rfl) (by decide) rfl (by first | exact oq_ff754f74 p0.1 p2.1 | omega) (show ((x * 2) + z) < 24 by first | exact oq_7b14761e p0.2 p2.2 | omega) (by decide) (fun j1 => ?_)
  refine z_aload_n X (x := A 68) (show cdA 111 10 = some (.aload_n 0, 1, 0, 0, 0) from rfl) (List.Mem.head _) ?_
  refine s_getR X 68 (show cdA 111 11 = some (.getfield 18, 3, 9, 3, 0) from rfl) (by decide) rfl rfl ?_
  refine z_load_n X (x := y) (show cdA 111 14 = some (.iload_n 2, 1, 0, 0, 0) from rfl) (List.Mem.tail _ (List.Mem.tail _ (List.Mem.head _))) ?_
  refine z_const X (show cdA 111 15 = some (.iconst 2, 1, 0, 0, 0) from rfl) ?_
  refine z_mul X (show cdA 111 16 = some (.imul, 1, 0, 0, 0) from rfl) ?_
  refine z_load_n X (x := z) (show cdA 111 17 = some (.iload_n 3, 1, 0, 0, 0) from rfl) (List.Mem.tail _ (List.Mem.tail _ (List.Mem.tail _ (List.Mem.head _)))) ?_
  refine z_add X (show cdA 111 18 = some (.iadd, 1, 0, 0, 0) from rfl) ?_
  refine z_lald X 71 (show cdA 111 19 = some (.laload, 1, 0, 0, 0) from rfl) (by decide) rfl (by first | exact oq_ff754f74 p1.1 p2.1 | omega) (show ((y * 2) + z) < 24 by first | exact oq_7b14761e p1.2 p2.2 | omega) (by decide) (fun j2 => ?_)
  refine w_land X.1 (ax_d X (show cdA 111 20 = some (.land, 1, 0, 0, 0) from rfl)) ?_
  refine z_anyJ (fun j3 => ?_)
  refine w_lstore X.1 (lv' := [(4, .long j3), (0, .ref (A 68)), (1, .int (Int32.ofInt x)), (2, .int (Int32.ofInt y)), (3, .int (Int32.ofInt z))]) (ax_d X (show cdA 111 21 = some (.lstore 4, 2, 0, 0, 0) from rfl)) (by rw [X.2.1.2.2]; decide) (fun _ h => h) ?_
  refine z_const X (show cdA 111 23 = some (.iconst 0, 1, 0, 0, 0) from rfl) ?_
  refine z_store X (lv' := [(6, .int (Int32.ofInt 0)), (4, .long j3), (0, .ref (A 68)), (1, .int (Int32.ofInt x)), (2, .int (Int32.ofInt y)), (3, .int (Int32.ofInt z))]) (show cdA 111 24 = some (.istore 6, 2, 0, 0, 0) from rfl) (by decide) (fun _ h => h) ?_
  refine WS_lv (lv := [(0, .ref (A 68)), (1, .int (Int32.ofInt x)), (2, .int (Int32.ofInt y)), (3, .int (Int32.ofInt z)), (4, .long j3), (6, .int (Int32.ofInt 0))]) (List.forall_mem_cons.mpr ⟨(List.Mem.tail _ (List.Mem.tail _ (List.Mem.head _))), (List.forall_mem_cons.mpr ⟨(List.Mem.tail _ (List.Mem.tail _ (List.Mem.tail _ (List.Mem.head _)))), (List.forall_mem_cons.mpr ⟨(List.Mem.tail _ (List.Mem.tail _ (List.Mem.tail _ (List.Mem.tail _ (List.Mem.head _))))), (List.forall_mem_cons.mpr ⟨(List.Mem.tail _ (List.Mem.tail _ (List.Mem.tail _ (List.Mem.tail _ (List.Mem.tail _ (List.Mem.head _)))))), (List.forall_mem_cons.mpr ⟨(List.Mem.tail _ (List.Mem.head _)), (List.forall_mem_cons.mpr ⟨(List.Mem.head _), (fun q h => absurd h List.not_mem_nil)⟩)⟩)⟩)⟩)⟩)⟩) ?_
  refine L26 ((7 - 0 : Int).toNat + 1) s x y z j3 0 I F (by first | exact ⟨And.intro (p0.1) (p0.2), And.intro (p1.1) (p1.2), And.intro (p2.1) (p2.2), by decide, by decide⟩ | omega) (Nat.lt_succ_self _) ?_
  intro s4 x5 x6 Is4 Fs4 hs4
  refine w_lload X.1 (ax_d X (show cdA 111 88 = some (.lload 4, 2, 0, 0, 0) from rfl)) (x := x5) (List.Mem.tail _ (List.Mem.tail _ (List.Mem.tail _ (List.Mem.tail _ (List.Mem.head _))))) ?_
  exact w_lret X.1 q hRt (ax_d X (show cdA 111 90 = some (.lreturn, 1, 0, 0, 0) from rfl)) (Nat.zero_le _) (Nat.zero_le _) ⟨_, rfl, Is4, Fs4, x5, rfl, trivial⟩
set_option maxRecDepth 4000 in
theorem c9_pairUp_68 (G : GX l s0 D tys a0 dT) (I : Bd s)  : CT l s0 D A dT 110 (rmN 110) [.ref (A 68)] s (fun o t => Bd t ∧ Fm [44] [62, 1063] s t ∧ o = .inl none ∧ (True)) := by
  refine ct_ofX G (by decide) (Nat.le_of_ble_eq_true rfl) (fun k X E ET hRt hXt q => ?_)
  show WS k 0 [(0, .ref (A 68))] [] _ 0 0
  have F : Fm [44] [62, 1063] s s := fm_rf _ _ s
  have b1 : (0 : Int) ≤ iI s 43 ∧ iI s 43 ≤ 12 := I.1 43
  have b2 : (0 : Int) ≤ iI s 44 ∧ iI s 44 ≤ 66 := I.1 44
  have L19 : ∀ (n : Nat) (t : PS) (a b : Int), Bd t → Fm [44] [62, 1063] s t → ((0 ≤ a ∧ a ≤ 11) ∧ 0 ≤ b ∧ b ≤ 12) → (12 - b : Int).toNat < n → (∀ (t' : PS) (b' : Int), Bd t' → Fm [44] [62, 1063] s t' → ((0 ≤ a ∧ a ≤ 11) ∧ 0 ≤ b' ∧ b' ≤ 12) → WS k 120 [(0, .ref (A 68)), (1, .int (Int32.ofInt a)), (2, .int (Int32.ofInt b'))] [] (Wd A dT t') 0 0) → WS k 19 [(0, .ref (A 68)), (1, .int (Int32.ofInt a)), (2, .int (Int32.ofInt b))] [] (Wd A dT t) 0 0 := by
    intro n
    induction n with
    | zero =>
      intro t a b I F hi hm kx
      exact absurd hm (Nat.not_lt_zero _)
    | succ n ih =>
      intro t a b I F hi hm kx
      have b1001 : (0 : Int) ≤ iI t 43 ∧ iI t 43 ≤ 12 := I.1 43
      have b1002 : (0 : Int) ≤ iI t 44 ∧ iI t 44 ≤ 66 := I.1 44
      refine z_load_n X (x := b) (show cdA 110 19 = some (.iload_n 2, 1, 0, 0, 0) from rfl) (List.Mem.tail _ (List.Mem.tail _ (List.Mem.head _))) ?_
      refine z_aload_n X (x := A 68) (show cdA 110 20 = some (.aload_n 0, 1, 0, 0, 0) from rfl) (List.Mem.head _) ?_
      refine z_getI X 68 (show cdA 110 21 = some (.getfield 99, 3, 9, 0, 0) from rfl) (by decide) rfl rfl ?_
      have b1003 : (0 : Int) ≤ iI t 43 ∧ iI t 43 ≤ 12 := I.1 43
      refine z_icmp_ge X (t := 120) (show cdA 110 24 = some (.if_icmp .ge 96, 3, 3, 0, 0) from rfl) (by decide) ⟨by first | exact oq_fa4e5087 hi.2.1 | omega, by first | exact oq_78843a64 hi.2.2 | omega⟩ (rng_to _) (fun g1004 => ?_) (fun g1004 => ?_)
      ·
        refine WS_lv (lv := [(0, .ref (A 68)), (1, .int (Int32.ofInt a)), (2, .int (Int32.ofInt b))]) (List.forall_mem_cons.mpr ⟨(List.Mem.head _), (List.forall_mem_cons.mpr ⟨(List.Mem.tail _ (List.Mem.head _)), (List.forall_mem_cons.mpr ⟨(List.Mem.tail _ (List.Mem.tail _ (List.Mem.head _))), (fun q h => absurd h List.not_mem_nil)⟩)⟩)⟩) ?_
        exact kx _ b I F (by first | exact ⟨And.intro (hi.1.1) (hi.1.2), hi.2.1, hi.2.2⟩ | omega)
      ·
        refine z_aload_n X (x := A 68) (show cdA 110 27 = some (.aload_n 0, 1, 0, 0, 0) from rfl) (List.Mem.head _) ?_
        refine z_load_n X (x := a) (show cdA 110 28 = some (.iload_n 1, 1, 0, 0, 0) from rfl) (List.Mem.tail _ (List.Mem.head _)) ?_
        refine z_load_n X (x := b) (show cdA 110 29 = some (.iload_n 2, 1, 0, 0, 0) from rfl) (List.Mem.tail _ (List.Mem.tail _ (List.Mem.head _))) ?_
        refine z_const X (show cdA 110 30 = some (.iconst 0, 1, 0, 0, 0) from rfl) ?_
        refine z_callV X 68 (rm := rmN 111) (As := [.int (Int32.ofInt a), .int (Int32.ofInt b), .int (Int32.ofInt 0)]) (st := []) (show cdA 110 31 = some (.invokevirtual 134, 3, 111, 0, 0) from rfl) rfl (by decide) rfl (by rw [E.1, E.2.1, E.2.2.1]; exact c9_meetsOf_68 G I (by first | exact ⟨hi.1.1, hi.1.2⟩ | omega) (by first | exact ⟨hi.2.1, oq_e4d7f3c5 g1004 b1003.2⟩ | omega) (by first | exact ⟨by decide, by decide⟩ | omega)) ⟨by rw [E.2.2.2]; exact (show (rmN 111).frames + 1 ≤ (rmN 110).frames by decide), by rw [E.2.2.2]; exact (show 8 + (mNL (miB 111) + 11) + (rmN 111).locals ≤ (rmN 110).locals by decide), by rw [E.2.2.2]; exact (show 0 + (rmN 111).cells ≤ (rmN 110).cells by decide), by rw [E.2.2.2]; exact (show 0 + (rmN 111).slots ≤ (rmN 110).slots by decide)⟩ (Nat.le_of_ble_eq_true rfl) (fun vv s1005 hq => ?_) (fun ee s1005 hq => ?_)
        rotate_left
        · obtain ⟨Is1005, Fs1005, e1006, hv, hrs1005, hps1005⟩ := hq; cases hv
        obtain ⟨Is1005, Fs1005, e1006, hv, hrs1005, hps1005⟩ := hq
        cases hv
        have Gs1005 := fm_ts F Fs1005 (by decide) (by decide)
        have ws1005_43 : iI s1005 43 = iI t 43 := fm_i Fs1005 (by decide)
        have ws1005_44 : iI s1005 44 = iI t 44 := fm_i Fs1005 (by decide)
        show WS k 34 [(0, .ref (A 68)), (1, .int (Int32.ofInt a)), (2, .int (Int32.ofInt b))] [.long e1006] (Wd A dT s1005) 0 0
        refine w_lstore_n X.1 (lv' := [(3, .long e1006), (0, .ref (A 68)), (1, .int (Int32.ofInt a)), (2, .int (Int32.ofInt b))]) (ax_d X (show cdA 110 34 = some (.lstore_n 3, 1, 0, 0, 0) from rfl)) (by rw [X.2.1.2.2]; decide) (fun _ h => h) ?_
        refine z_aload_n X (x := A 68) (show cdA 110 35 = some (.aload_n 0, 1, 0, 0, 0) from rfl) (List.Mem.tail _ (List.Mem.head _)) ?_
        refine z_load_n X (x := a) (show cdA 110 36 = some (.iload_n 1, 1, 0, 0, 0) from rfl) (List.Mem.tail _ (List.Mem.tail _ (List.Mem.head _))) ?_
        refine z_load_n X (x := b) (show cdA 110 37 = some (.iload_n 2, 1, 0, 0, 0) from rfl) (List.Mem.tail _ (List.Mem.tail _ (List.Mem.tail _ (List.Mem.head _)))) ?_
        refine z_const X (show cdA 110 38 = some (.iconst 1, 1, 0, 0, 0) from rfl) ?_
        refine z_callV X 68 (rm := rmN 111) (As := [.int (Int32.ofInt a), .int (Int32.ofInt b), .int (Int32.ofInt 1)]) (st := []) (show cdA 110 39 = some (.invokevirtual 134, 3, 111, 0, 0) from rfl) rfl (by decide) rfl (by rw [E.1, E.2.1, E.2.2.1]; exact c9_meetsOf_68 G Is1005 (by first | exact ⟨hi.1.1, hi.1.2⟩ | omega) (by first | exact ⟨hi.2.1, oq_e4d7f3c5 g1004 b1003.2⟩ | omega) (by first | exact ⟨by decide, by decide⟩ | omega)) ⟨by rw [E.2.2.2]; exact (show (rmN 111).frames + 1 ≤ (rmN 110).frames by decide), by rw [E.2.2.2]; exact (show 8 + (mNL (miB 111) + 11) + (rmN 111).locals ≤ (rmN 110).locals by decide), by rw [E.2.2.2]; exact (show 0 + (rmN 111).cells ≤ (rmN 110).cells by decide), by rw [E.2.2.2]; exact (show 0 + (rmN 111).slots ≤ (rmN 110).slots by decide)⟩ (Nat.le_of_ble_eq_true rfl) (fun vv s1007 hq => ?_) (fun ee s1007 hq => ?_)
        rotate_left
        · obtain ⟨Is1007, Fs1007, e1008, hv, hrs1007, hps1007⟩ := hq; cases hv
        obtain ⟨Is1007, Fs1007, e1008, hv, hrs1007, hps1007⟩ := hq
        cases hv
        have Gs1007 := fm_ts Gs1005 Fs1007 (by decide) (by decide)
        have ws1007_43 : iI s1007 43 = iI s1005 43 := fm_i Fs1007 (by decide)
        have ws1007_44 : iI s1007 44 = iI s1005 44 := fm_i Fs1007 (by decide)
        show WS k 42 [(3, .long e1006), (0, .ref (A 68)), (1, .int (Int32.ofInt a)), (2, .int (Int32.ofInt b))] [.long e1008] (Wd A dT s1007) 0 0
        refine w_lstore X.1 (lv' := [(5, .long e1008), (3, .long e1006), (0, .ref (A 68)), (1, .int (Int32.ofInt a)), (2, .int (Int32.ofInt b))]) (ax_d X (show cdA 110 42 = some (.lstore 5, 2, 0, 0, 0) from rfl)) (by rw [X.2.1.2.2]; decide) (fun _ h => h) ?_
        refine w_lload_n X.1 (ax_d X (show cdA 110 44 = some (.lload_n 3, 1, 0, 0, 0) from rfl)) (x := e1006) (List.Mem.tail _ (List.Mem.head _)) ?_
        refine w_lload X.1 (ax_d X (show cdA 110 45 = some (.lload 5, 2, 0, 0, 0) from rfl)) (x := e1008) (List.Mem.head _) ?_
        refine w_lor X.1 (ax_d X (show cdA 110 47 = some (.lor, 1, 0, 0, 0) from rfl)) ?_
        refine z_anyJ (fun j1009 => ?_)
        refine w_lconst X.1 (ax_d X (show cdA 110 48 = some (.lconst 0, 1, 0, 0, 0) from rfl)) rfl ?_
        refine z_anyJ (fun j1010 => ?_)
        refine w_lcmp X.1 (ax_d X (show cdA 110 49 = some (.lcmp, 1, 0, 0, 0) from rfl)) ?_
        refine z_any (fun y1011 hy1011 => ?_)
        refine z_if_eq X (t := 114) (show cdA 110 50 = some (.ifCond .eq 64, 3, 0, 0, 0) from rfl) (by decide) hy1011 (fun g1012 => ?_) (fun g1012 => ?_)
        ·
          refine z_inc X (x := b) (lv' := [(2, .int (Int32.ofInt (b + 1))), (5, .long e1008), (3, .long e1006), (0, .ref (A 68)), (1, .int (Int32.ofInt a))]) (show cdA 110 114 = some (.iinc 2 1, 3, 0, 0, 0) from rfl) (by decide) (List.Mem.tail _ (List.Mem.tail _ (List.Mem.tail _ (List.Mem.tail _ (List.Mem.head _))))) (fun _ h => h) ?_
          refine z_goto X (t := 19) (show cdA 110 117 = some (.goto (-98), 3, 0, 0, 0) from rfl) (by decide) ?_
          refine WS_lv (lv := [(0, .ref (A 68)), (1, .int (Int32.ofInt a)), (2, .int (Int32.ofInt (b + 1)))]) (List.forall_mem_cons.mpr ⟨(List.Mem.tail _ (List.Mem.tail _ (List.Mem.tail _ (List.Mem.head _)))), (List.forall_mem_cons.mpr ⟨(List.Mem.tail _ (List.Mem.tail _ (List.Mem.tail _ (List.Mem.tail _ (List.Mem.head _))))), (List.forall_mem_cons.mpr ⟨(List.Mem.head _), (fun q h => absurd h List.not_mem_nil)⟩)⟩)⟩) ?_
          exact ih _ a (b + 1) Is1007 Gs1007 (by first | exact ⟨And.intro (hi.1.1) (hi.1.2), oq_54f49eb5 hi.2.1, oq_4dae995e g1004 b1003.2⟩ | omega) (by first | exact qk_me hm (by decide) (oq_b575e8c1 g1004 b1003.2) | omega) kx
        ·
          refine z_aload_n X (x := A 68) (show cdA 110 53 = some (.aload_n 0, 1, 0, 0, 0) from rfl) (List.Mem.tail _ (List.Mem.tail _ (List.Mem.head _))) ?_
          refine z_getI X 68 (show cdA 110 54 = some (.getfield 131, 3, 9, 8, 0) from rfl) (by decide) rfl rfl ?_
          have b1013 : (0 : Int) ≤ iI s1007 44 ∧ iI s1007 44 ≤ 66 := Is1007.1 44
          refine z_bipush X (show cdA 110 57 = some (.bipush 66, 2, 0, 0, 66) from rfl) ?_
          refine z_icmp_ge X (t := 114) (show cdA 110 59 = some (.if_icmp .ge 55, 3, 3, 0, 0) from rfl) (by decide) (rng_to _) (by decide) (fun g1014 => ?_) (fun g1014 => ?_)
          ·
            refine z_inc X (x := b) (lv' := [(2, .int (Int32.ofInt (b + 1))), (5, .long e1008), (3, .long e1006), (0, .ref (A 68)), (1, .int (Int32.ofInt a))]) (show cdA 110 114 = some (.iinc 2 1, 3, 0, 0, 0) from rfl) (by decide) (List.Mem.tail _ (List.Mem.tail _ (List.Mem.tail _ (List.Mem.tail _ (List.Mem.head _))))) (fun _ h => h) ?_
            refine z_goto X (t := 19) (show cdA 110 117 = some (.goto (-98), 3, 0, 0, 0) from rfl) (by decide) ?_
            refine WS_lv (lv := [(0, .ref (A 68)), (1, .int (Int32.ofInt a)), (2, .int (Int32.ofInt (b + 1)))]) (List.forall_mem_cons.mpr ⟨(List.Mem.tail _ (List.Mem.tail _ (List.Mem.tail _ (List.Mem.head _)))), (List.forall_mem_cons.mpr ⟨(List.Mem.tail _ (List.Mem.tail _ (List.Mem.tail _ (List.Mem.tail _ (List.Mem.head _))))), (List.forall_mem_cons.mpr ⟨(List.Mem.head _), (fun q h => absurd h List.not_mem_nil)⟩)⟩)⟩) ?_
            exact ih _ a (b + 1) Is1007 Gs1007 (by first | exact ⟨And.intro (hi.1.1) (hi.1.2), oq_54f49eb5 hi.2.1, oq_4dae995e g1004 b1003.2⟩ | omega) (by first | exact qk_me hm (by decide) (oq_b575e8c1 g1004 b1003.2) | omega) kx
          ·
            refine z_aload_n X (x := A 68) (show cdA 110 62 = some (.aload_n 0, 1, 0, 0, 0) from rfl) (List.Mem.tail _ (List.Mem.tail _ (List.Mem.head _))) ?_
            refine s_getR X 68 (show cdA 110 63 = some (.getfield 28, 3, 9, 6, 0) from rfl) (by decide) rfl rfl ?_
            refine z_aload_n X (x := A 68) (show cdA 110 66 = some (.aload_n 0, 1, 0, 0, 0) from rfl) (List.Mem.tail _ (List.Mem.tail _ (List.Mem.head _))) ?_
            refine z_getI X 68 (show cdA 110 67 = some (.getfield 131, 3, 9, 8, 0) from rfl) (by decide) rfl rfl ?_
            have b1015 : (0 : Int) ≤ iI s1007 44 ∧ iI s1007 44 ≤ 66 := Is1007.1 44
            refine z_load_n X (x := a) (show cdA 110 70 = some (.iload_n 1, 1, 0, 0, 0) from rfl) (List.Mem.tail _ (List.Mem.tail _ (List.Mem.tail _ (List.Mem.head _)))) ?_
            refine z_bipush X (show cdA 110 71 = some (.bipush 12, 2, 0, 0, 12) from rfl) ?_
            refine z_mul X (show cdA 110 73 = some (.imul, 1, 0, 0, 0) from rfl) ?_
            refine z_load_n X (x := b) (show cdA 110 74 = some (.iload_n 2, 1, 0, 0, 0) from rfl) (List.Mem.tail _ (List.Mem.tail _ (List.Mem.tail _ (List.Mem.tail _ (List.Mem.head _))))) ?_
            refine z_add X (show cdA 110 75 = some (.iadd, 1, 0, 0, 0) from rfl) ?_
            refine z_ast X 74 (show cdA 110 76 = some (.iastore, 1, 0, 0, 0) from rfl) (by decide) rfl (by first | exact b1015.1 | omega) (show (iI s1007 44) < 66 by first | exact g1014 | omega) (by decide) ?_
            obtain ⟨s1016, hs1016⟩ : ∃ x0, x0 = uC s1007 62 ((iI s1007 44)).toNat (Int32.ofInt ((a * 12) + b)) := ⟨_, rfl⟩
            rw [← hs1016]
            have Is1016 : Bd s1016 := by rw [hs1016]; exact bd_C Is1007 (show (0 : Int) ≤ ((a * 12) + b) ∧ ((a * 12) + b) ≤ 143 by first | exact ⟨oq_0f03f1de hi.1.1 hi.2.1, oq_46995298 hi.1.2 g1004 b1003.2⟩ | omega) ⟨by first | exact oq_19cf0865 hi.1.1 hi.2.1 | omega, by first | exact oq_b7b88ba9 hi.1.2 hi.2.2 | omega⟩
            have Fs1016 := fm_C (i := ((iI s1007 44)).toNat) (x := Int32.ofInt ((a * 12) + b)) Gs1007 (show 62 ∈ _ by decide)
            rw [← hs1016] at Fs1016
            have ws1016_43 : iI s1016 43 = iI s1007 43 := by rw [hs1016]; rfl
            have ws1016_44 : iI s1016 44 = iI s1007 44 := by rw [hs1016]; rfl
            refine z_aload_n X (x := A 68) (show cdA 110 77 = some (.aload_n 0, 1, 0, 0, 0) from rfl) (List.Mem.tail _ (List.Mem.tail _ (List.Mem.head _))) ?_
            refine s_getR X 68 (show cdA 110 78 = some (.getfield 31, 3, 9, 7, 0) from rfl) (by decide) rfl rfl ?_
            refine z_aload_n X (x := A 68) (show cdA 110 81 = some (.aload_n 0, 1, 0, 0, 0) from rfl) (List.Mem.tail _ (List.Mem.tail _ (List.Mem.head _))) ?_
            refine z_getI X 68 (show cdA 110 82 = some (.getfield 131, 3, 9, 8, 0) from rfl) (by decide) rfl rfl ?_
            have b1017 : (0 : Int) ≤ iI s1016 44 ∧ iI s1016 44 ≤ 66 := Is1016.1 44
            refine z_const X (show cdA 110 85 = some (.iconst 2, 1, 0, 0, 0) from rfl) ?_
            refine z_mul X (show cdA 110 86 = some (.imul, 1, 0, 0, 0) from rfl) ?_
            refine w_lload_n X.1 (ax_d X (show cdA 110 87 = some (.lload_n 3, 1, 0, 0, 0) from rfl)) (x := e1006) (List.Mem.tail _ (List.Mem.head _)) ?_
            refine z_last X 75 (show cdA 110 88 = some (.lastore, 1, 0, 0, 0) from rfl) (by decide) rfl (by first | exact oq_cfc6ac54 b1017.1 | omega) (show ((iI s1016 44) * 2) < 132 by first | exact oq_0ba3fcc8 ws1016_44 g1014 | omega) (by decide) ?_
            obtain ⟨s1018, hs1018⟩ : ∃ x0, x0 = uD s1016 63 (((iI s1016 44) * 2)).toNat e1006 := ⟨_, rfl⟩
            rw [← hs1018]
            have Is1018 : Bd s1018 := by rw [hs1018]; exact bd_D Is1016
            have Fs1018 : Fm [44] [62, 1063] s s1018 := by rw [hs1018]; exact fm_D Fs1016 (show 63 + 1000 ∈ _ by decide)
            have ws1018_43 : iI s1018 43 = iI s1016 43 := by rw [hs1018]; rfl
            have ws1018_44 : iI s1018 44 = iI s1016 44 := by rw [hs1018]; rfl
            refine z_aload_n X (x := A 68) (show cdA 110 89 = some (.aload_n 0, 1, 0, 0, 0) from rfl) (List.Mem.tail _ (List.Mem.tail _ (List.Mem.head _))) ?_
            refine s_getR X 68 (show cdA 110 90 = some (.getfield 31, 3, 9, 7, 0) from rfl) (by decide) rfl rfl ?_
            refine z_aload_n X (x := A 68) (show cdA 110 93 = some (.aload_n 0, 1, 0, 0, 0) from rfl) (List.Mem.tail _ (List.Mem.tail _ (List.Mem.head _))) ?_
            refine z_getI X 68 (show cdA 110 94 = some (.getfield 131, 3, 9, 8, 0) from rfl) (by decide) rfl rfl ?_
            have b1019 : (0 : Int) ≤ iI s1018 44 ∧ iI s1018 44 ≤ 66 := Is1018.1 44
            refine z_const X (show cdA 110 97 = some (.iconst 2, 1, 0, 0, 0) from rfl) ?_
            refine z_mul X (show cdA 110 98 = some (.imul, 1, 0, 0, 0) from rfl) ?_
            refine z_const X (show cdA 110 99 = some (.iconst 1, 1, 0, 0, 0) from rfl) ?_
            refine z_add X (show cdA 110 100 = some (.iadd, 1, 0, 0, 0) from rfl) ?_
            refine w_lload X.1 (ax_d X (show cdA 110 101 = some (.lload 5, 2, 0, 0, 0) from rfl)) (x := e1008) (List.Mem.head _) ?_
            refine z_last X 75 (show cdA 110 103 = some (.lastore, 1, 0, 0, 0) from rfl) (by decide) rfl (by first | exact oq_8a3e0277 b1019.1 | omega) (show (((iI s1018 44) * 2) + 1) < 132 by first | exact oq_1191648c ws1018_44 ws1016_44 g1014 | omega) (by decide) ?_
            obtain ⟨s1020, hs1020⟩ : ∃ x0, x0 = uD s1018 63 ((((iI s1018 44) * 2) + 1)).toNat e1008 := ⟨_, rfl⟩
            rw [← hs1020]
            have Is1020 : Bd s1020 := by rw [hs1020]; exact bd_D Is1018
            have Fs1020 : Fm [44] [62, 1063] s s1020 := by rw [hs1020]; exact fm_D Fs1018 (show 63 + 1000 ∈ _ by decide)
            have ws1020_43 : iI s1020 43 = iI s1018 43 := by rw [hs1020]; rfl
            have ws1020_44 : iI s1020 44 = iI s1018 44 := by rw [hs1020]; rfl
            refine z_aload_n X (x := A 68) (show cdA 110 104 = some (.aload_n 0, 1, 0, 0, 0) from rfl) (List.Mem.tail _ (List.Mem.tail _ (List.Mem.head _))) ?_
            refine w_dup X.1 (ax_d X (show cdA 110 105 = some (.dup, 1, 0, 0, 0) from rfl)) rfl ?_
            refine z_getI X 68 (show cdA 110 106 = some (.getfield 131, 3, 9, 8, 0) from rfl) (by decide) rfl rfl ?_
            have b1021 : (0 : Int) ≤ iI s1020 44 ∧ iI s1020 44 ≤ 66 := Is1020.1 44
            refine z_const X (show cdA 110 109 = some (.iconst 1, 1, 0, 0, 0) from rfl) ?_
            refine z_add X (show cdA 110 110 = some (.iadd, 1, 0, 0, 0) from rfl) ?_
            refine s_putI X 68 (show cdA 110 111 = some (.putfield 131, 3, 9, 8, 0) from rfl) (by decide) rfl rfl (by decide) rfl rfl rfl ?_
            obtain ⟨s1022, hs1022⟩ : ∃ x0, x0 = uI s1020 44 (Int32.ofInt ((iI s1020 44) + 1)) := ⟨_, rfl⟩
            rw [← hs1022]
            have Is1022 : Bd s1022 := by rw [hs1022]; exact bd_I Is1020 (show (0 : Int) ≤ ((iI s1020 44) + 1) ∧ ((iI s1020 44) + 1) ≤ 66 by first | exact ⟨oq_54f49eb5 b1021.1, oq_98f08201 ws1020_44 ws1018_44 ws1016_44 g1014⟩ | omega) ⟨by first | exact oq_74de1e16 b1021.1 | omega, by first | exact oq_d99c2177 b1021.2 | omega⟩
            have Fs1022 := fm_I (x := Int32.ofInt ((iI s1020 44) + 1)) Fs1020 (show 44 ∈ _ by decide)
            rw [← hs1022] at Fs1022
            have vs1022 : iI s1022 44 = ((iI s1020 44) + 1) := by rw [hs1022]; exact iI_u ⟨by first | exact oq_74de1e16 b1021.1 | omega, by first | exact oq_d99c2177 b1021.2 | omega⟩
            have ws1022_43 : iI s1022 43 = iI s1020 43 := by rw [hs1022]; rfl
            refine z_inc X (x := b) (lv' := [(2, .int (Int32.ofInt (b + 1))), (5, .long e1008), (3, .long e1006), (0, .ref (A 68)), (1, .int (Int32.ofInt a))]) (show cdA 110 114 = some (.iinc 2 1, 3, 0, 0, 0) from rfl) (by decide) (List.Mem.tail _ (List.Mem.tail _ (List.Mem.tail _ (List.Mem.tail _ (List.Mem.head _))))) (fun _ h => h) ?_
            refine z_goto X (t := 19) (show cdA 110 117 = some (.goto (-98), 3, 0, 0, 0) from rfl) (by decide) ?_
            refine WS_lv (lv := [(0, .ref (A 68)), (1, .int (Int32.ofInt a)), (2, .int (Int32.ofInt (b + 1)))]) (List.forall_mem_cons.mpr ⟨(List.Mem.tail _ (List.Mem.tail _ (List.Mem.tail _ (List.Mem.head _)))), (List.forall_mem_cons.mpr ⟨(List.Mem.tail _ (List.Mem.tail _ (List.Mem.tail _ (List.Mem.tail _ (List.Mem.head _))))), (List.forall_mem_cons.mpr ⟨(List.Mem.head _), (fun q h => absurd h List.not_mem_nil)⟩)⟩)⟩) ?_
            exact ih _ a (b + 1) Is1022 Fs1022 (by first | exact ⟨And.intro (hi.1.1) (hi.1.2), oq_54f49eb5 hi.2.1, oq_4dae995e g1004 b1003.2⟩ | omega) (by first | exact qk_me hm (by decide) (oq_b575e8c1 g1004 b1003.2) | omega) kx
  have L7 : ∀ (n : Nat) (t : PS) (a : Int), Bd t → Fm [44] [62, 1063] s t → (0 ≤ a ∧ a ≤ 12) → (12 - a : Int).toNat < n → (∀ (t' : PS) (a' : Int), Bd t' → Fm [44] [62, 1063] s t' → (0 ≤ a' ∧ a' ≤ 12) → WS k 126 [(0, .ref (A 68)), (1, .int (Int32.ofInt a'))] [] (Wd A dT t') 0 0) → WS k 7 [(0, .ref (A 68)), (1, .int (Int32.ofInt a))] [] (Wd A dT t) 0 0 := by
    intro n
    induction n with
    | zero =>
      intro t a I F hi hm kx
      exact absurd hm (Nat.not_lt_zero _)
    | succ n ih =>
      intro t a I F hi hm kx
      have b2001 : (0 : Int) ≤ iI t 43 ∧ iI t 43 ≤ 12 := I.1 43
      have b2002 : (0 : Int) ≤ iI t 44 ∧ iI t 44 ≤ 66 := I.1 44
      refine z_load_n X (x := a) (show cdA 110 7 = some (.iload_n 1, 1, 0, 0, 0) from rfl) (List.Mem.tail _ (List.Mem.head _)) ?_
      refine z_aload_n X (x := A 68) (show cdA 110 8 = some (.aload_n 0, 1, 0, 0, 0) from rfl) (List.Mem.head _) ?_
      refine z_getI X 68 (show cdA 110 9 = some (.getfield 99, 3, 9, 0, 0) from rfl) (by decide) rfl rfl ?_
      have b2003 : (0 : Int) ≤ iI t 43 ∧ iI t 43 ≤ 12 := I.1 43
      refine z_icmp_ge X (t := 126) (show cdA 110 12 = some (.if_icmp .ge 114, 3, 3, 0, 0) from rfl) (by decide) ⟨by first | exact oq_fa4e5087 hi.1 | omega, by first | exact oq_78843a64 hi.2 | omega⟩ (rng_to _) (fun g2004 => ?_) (fun g2004 => ?_)
      ·
        refine WS_lv (lv := [(0, .ref (A 68)), (1, .int (Int32.ofInt a))]) (List.forall_mem_cons.mpr ⟨(List.Mem.head _), (List.forall_mem_cons.mpr ⟨(List.Mem.tail _ (List.Mem.head _)), (fun q h => absurd h List.not_mem_nil)⟩)⟩) ?_
        exact kx _ a I F (by first | exact ⟨hi.1, hi.2⟩ | omega)
      ·
        refine z_load_n X (x := a) (show cdA 110 15 = some (.iload_n 1, 1, 0, 0, 0) from rfl) (List.Mem.tail _ (List.Mem.head _)) ?_
        refine z_const X (show cdA 110 16 = some (.iconst 1, 1, 0, 0, 0) from rfl) ?_
        refine z_add X (show cdA 110 17 = some (.iadd, 1, 0, 0, 0) from rfl) ?_
        refine z_store_n X (lv' := [(2, .int (Int32.ofInt (a + 1))), (0, .ref (A 68)), (1, .int (Int32.ofInt a))]) (show cdA 110 18 = some (.istore_n 2, 1, 0, 0, 0) from rfl) (by decide) (fun _ h => h) ?_
        refine WS_lv (lv := [(0, .ref (A 68)), (1, .int (Int32.ofInt a)), (2, .int (Int32.ofInt (a + 1)))]) (List.forall_mem_cons.mpr ⟨(List.Mem.tail _ (List.Mem.head _)), (List.forall_mem_cons.mpr ⟨(List.Mem.tail _ (List.Mem.tail _ (List.Mem.head _))), (List.forall_mem_cons.mpr ⟨(List.Mem.head _), (fun q h => absurd h List.not_mem_nil)⟩)⟩)⟩) ?_
        refine L19 ((12 - (a + 1) : Int).toNat + 1) t a (a + 1) I F (by first | exact ⟨And.intro (hi.1) (oq_e4d7f3c5 g2004 b2003.2), oq_54f49eb5 hi.1, oq_4dae995e g2004 b2003.2⟩ | omega) (Nat.lt_succ_self _) ?_
        intro s2005 x2006 Is2005 Fs2005 hs2005
        have b2007 : (0 : Int) ≤ iI s2005 43 ∧ iI s2005 43 ≤ 12 := Is2005.1 43
        have b2008 : (0 : Int) ≤ iI s2005 44 ∧ iI s2005 44 ≤ 66 := Is2005.1 44
        refine z_inc X (x := a) (lv' := [(1, .int (Int32.ofInt (a + 1))), (0, .ref (A 68)), (2, .int (Int32.ofInt x2006))]) (show cdA 110 120 = some (.iinc 1 1, 3, 0, 0, 0) from rfl) (by decide) (List.Mem.tail _ (List.Mem.head _)) (fun _ h => h) ?_
        refine z_goto X (t := 7) (show cdA 110 123 = some (.goto (-116), 3, 0, 0, 0) from rfl) (by decide) ?_
        refine WS_lv (lv := [(0, .ref (A 68)), (1, .int (Int32.ofInt (a + 1)))]) (List.forall_mem_cons.mpr ⟨(List.Mem.tail _ (List.Mem.head _)), (List.forall_mem_cons.mpr ⟨(List.Mem.head _), (fun q h => absurd h List.not_mem_nil)⟩)⟩) ?_
        exact ih _ (a + 1) Is2005 Fs2005 (by first | exact ⟨oq_54f49eb5 hs2005.1.1, oq_51d1204d hs2005.1.2⟩ | omega) (by first | exact qk_me hm (by decide) (oq_8b937940 hs2005.1.2) | omega) kx
  refine z_aload_n X (x := A 68) (show cdA 110 0 = some (.aload_n 0, 1, 0, 0, 0) from rfl) (List.Mem.head _) ?_
  refine z_const X (show cdA 110 1 = some (.iconst 0, 1, 0, 0, 0) from rfl) ?_
  refine s_putI X 68 (show cdA 110 2 = some (.putfield 131, 3, 9, 8, 0) from rfl) (by decide) rfl rfl (by decide) rfl rfl rfl ?_
  obtain ⟨s3, hs3⟩ : ∃ x0, x0 = uI s 44 (Int32.ofInt 0) := ⟨_, rfl⟩
  rw [← hs3]
  have Is3 : Bd s3 := by rw [hs3]; exact bd_I I (show (0 : Int) ≤ 0 ∧ 0 ≤ 66 by first | exact ⟨by decide, by decide⟩ | omega) (by decide)
  have Fs3 := fm_I (x := Int32.ofInt 0) F (show 44 ∈ _ by decide)
  rw [← hs3] at Fs3
  have vs3 : iI s3 44 = 0 := by rw [hs3]; exact iI_u (by decide)
  have ws3_43 : iI s3 43 = iI s 43 := by rw [hs3]; rfl
  refine z_const X (show cdA 110 5 = some (.iconst 0, 1, 0, 0, 0) from rfl) ?_
  refine z_store_n X (lv' := [(1, .int (Int32.ofInt 0)), (0, .ref (A 68))]) (show cdA 110 6 = some (.istore_n 1, 1, 0, 0, 0) from rfl) (by decide) (fun _ h => h) ?_
  refine WS_lv (lv := [(0, .ref (A 68)), (1, .int (Int32.ofInt 0))]) (List.forall_mem_cons.mpr ⟨(List.Mem.tail _ (List.Mem.head _)), (List.forall_mem_cons.mpr ⟨(List.Mem.head _), (fun q h => absurd h List.not_mem_nil)⟩)⟩) ?_
  refine L7 ((12 - 0 : Int).toNat + 1) s3 0 Is3 Fs3 (by first | exact ⟨by decide, by decide⟩ | omega) (Nat.lt_succ_self _) ?_
  intro s4 x5 Is4 Fs4 hs4
  have b6 : (0 : Int) ≤ iI s4 43 ∧ iI s4 43 ≤ 12 := Is4.1 43
  have b7 : (0 : Int) ≤ iI s4 44 ∧ iI s4 44 ≤ 66 := Is4.1 44
  exact w_vret X.1 q hRt (ax_d X (show cdA 110 126 = some (.return_, 1, 0, 0, 0) from rfl)) (Nat.zero_le _) (Nat.zero_le _) ⟨_, rfl, Is4, Fs4, rfl, trivial⟩
set_option maxRecDepth 4000 in
theorem c9_addTrial_3 (G : GX l s0 D tys a0 dT) (I : Bd s)  : CT l s0 D A dT 106 (rmN 106) [.ref (A 3)] s (fun o t => Bd t ∧ Fm [9, 10] [1, 2, 6, 1003, 1004, 1005, 1007] s t ∧ ∃ e, o = .inl (some (.int (Int32.ofInt e))) ∧ rng e ∧ (True)) := by
  refine ct_ofX G (by decide) (Nat.le_of_ble_eq_true rfl) (fun k X E ET hRt hXt q => ?_)
  show WS k 0 [(0, .ref (A 3))] [] _ 0 0
  have F : Fm [9, 10] [1, 2, 6, 1003, 1004, 1005, 1007] s s := fm_rf _ _ s
  have b1 : (0 : Int) ≤ iI s 9 ∧ iI s 9 ≤ 12 := I.1 9
  have b2 : (0 : Int) ≤ iI s 11 ∧ iI s 11 ≤ 24 := I.1 11
  refine z_aload_n X (x := A 3) (show cdA 106 0 = some (.aload_n 0, 1, 0, 0, 0) from rfl) (List.Mem.head _) ?_
  refine z_getI X 3 (show cdA 106 1 = some (.getfield 99, 3, 9, 0, 0) from rfl) (by decide) rfl rfl ?_
  have b3 : (0 : Int) ≤ iI s 9 ∧ iI s 9 ≤ 12 := I.1 9
  refine z_bipush X (show cdA 106 4 = some (.bipush 12, 2, 0, 0, 12) from rfl) ?_
  refine z_icmp_lt X (t := 11) (show cdA 106 6 = some (.if_icmp .lt 5, 3, 2, 0, 0) from rfl) (by decide) (rng_to _) (by decide) (fun g4 => ?_) (fun g4 => ?_)
  ·
    refine z_aload_n X (x := A 3) (show cdA 106 11 = some (.aload_n 0, 1, 0, 0, 0) from rfl) (List.Mem.head _) ?_
    refine z_aload_n X (x := A 3) (show cdA 106 12 = some (.aload_n 0, 1, 0, 0, 0) from rfl) (List.Mem.head _) ?_
    refine z_getI X 3 (show cdA 106 13 = some (.getfield 99, 3, 9, 0, 0) from rfl) (by decide) rfl rfl ?_
    have b5 : (0 : Int) ≤ iI s 9 ∧ iI s 9 ≤ 12 := I.1 9
    refine z_aload_n X (x := A 3) (show cdA 106 16 = some (.aload_n 0, 1, 0, 0, 0) from rfl) (List.Mem.head _) ?_
    refine s_getR X 3 (show cdA 106 17 = some (.getfield 55, 3, 9, 16, 0) from rfl) (by decide) rfl rfl ?_
    refine z_const X (show cdA 106 20 = some (.iconst 0, 1, 0, 0, 0) from rfl) ?_
    refine z_aload_n X (x := A 3) (show cdA 106 21 = some (.aload_n 0, 1, 0, 0, 0) from rfl) (List.Mem.head _) ?_
    refine z_getI X 3 (show cdA 106 22 = some (.getfield 58, 3, 9, 17, 0) from rfl) (by decide) rfl rfl ?_
    have b6 : (0 : Int) ≤ iI s 11 ∧ iI s 11 ≤ 24 := I.1 11
    refine z_callV X 3 (rm := rmN 107) (As := [.int (Int32.ofInt (iI s 9)), .ref (A 18), .int (Int32.ofInt 0), .int (Int32.ofInt (iI s 11))]) (st := []) (show cdA 106 25 = some (.invokevirtual 102, 3, 107, 0, 0) from rfl) rfl (by decide) rfl (by rw [E.1, E.2.1, E.2.2.1]; exact c9_setWay_3_18 G I (by first | exact ⟨b5.1, oq_a1a2e1c8 g4⟩ | omega) (by first | exact ⟨b6.1, b6.2⟩ | omega) (by first | exact ⟨by decide, oq_4854286b b6.2⟩ | omega)) ⟨by rw [E.2.2.2]; exact (show (rmN 107).frames + 1 ≤ (rmN 106).frames by decide), by rw [E.2.2.2]; exact (show 8 + (mNL (miB 107) + 11) + (rmN 107).locals ≤ (rmN 106).locals by decide), by rw [E.2.2.2]; exact (show 0 + (rmN 107).cells ≤ (rmN 106).cells by decide), by rw [E.2.2.2]; exact (show 0 + (rmN 107).slots ≤ (rmN 106).slots by decide)⟩ (Nat.le_of_ble_eq_true rfl) (fun vv s7 hq => ?_) (fun ee s7 hq => ?_)
    rotate_left
    · obtain ⟨Is7, Fs7, hv, hps7⟩ := hq; cases hv
    obtain ⟨Is7, Fs7, hv, hps7⟩ := hq
    cases hv
    have Gs7 := fm_ts F Fs7 (by decide) (by decide)
    have ws7_9 : iI s7 9 = iI s 9 := fm_i Fs7 (by decide)
    have ws7_11 : iI s7 11 = iI s 11 := fm_i Fs7 (by decide)
    show WS k 28 [(0, .ref (A 3))] [] (Wd A dT s7) 0 0
    refine z_aload_n X (x := A 3) (show cdA 106 28 = some (.aload_n 0, 1, 0, 0, 0) from rfl) (List.Mem.head _) ?_
    refine w_dup X.1 (ax_d X (show cdA 106 29 = some (.dup, 1, 0, 0, 0) from rfl)) rfl ?_
    refine z_getI X 3 (show cdA 106 30 = some (.getfield 99, 3, 9, 0, 0) from rfl) (by decide) rfl rfl ?_
    have b9 : (0 : Int) ≤ iI s7 9 ∧ iI s7 9 ≤ 12 := Is7.1 9
    refine z_const X (show cdA 106 33 = some (.iconst 1, 1, 0, 0, 0) from rfl) ?_
    refine z_add X (show cdA 106 34 = some (.iadd, 1, 0, 0, 0) from rfl) ?_
    refine s_putI X 3 (show cdA 106 35 = some (.putfield 99, 3, 9, 0, 0) from rfl) (by decide) rfl rfl (by decide) rfl rfl rfl ?_
    obtain ⟨s10, hs10⟩ : ∃ x0, x0 = uI s7 9 (Int32.ofInt ((iI s7 9) + 1)) := ⟨_, rfl⟩
    rw [← hs10]
    have Is10 : Bd s10 := by rw [hs10]; exact bd_I Is7 (show (0 : Int) ≤ ((iI s7 9) + 1) ∧ ((iI s7 9) + 1) ≤ 12 by first | exact ⟨oq_54f49eb5 b9.1, oq_3bc6d8e6 ws7_9 g4⟩ | omega) ⟨by first | exact oq_74de1e16 b9.1 | omega, by first | exact oq_76a8a5b7 b9.2 | omega⟩
    have Fs10 := fm_I (x := Int32.ofInt ((iI s7 9) + 1)) Gs7 (show 9 ∈ _ by decide)
    rw [← hs10] at Fs10
    have vs10 : iI s10 9 = ((iI s7 9) + 1) := by rw [hs10]; exact iI_u ⟨by first | exact oq_74de1e16 b9.1 | omega, by first | exact oq_76a8a5b7 b9.2 | omega⟩
    have ws10_11 : iI s10 11 = iI s7 11 := by rw [hs10]; rfl
    refine z_aload_n X (x := A 3) (show cdA 106 38 = some (.aload_n 0, 1, 0, 0, 0) from rfl) (List.Mem.head _) ?_
    refine z_callV X 3 (rm := rmN 110) (As := []) (st := []) (show cdA 106 39 = some (.invokevirtual 106, 3, 110, 0, 0) from rfl) rfl (by decide) rfl (by rw [E.1, E.2.1, E.2.2.1]; exact c9_pairUp_3 G Is10 ) ⟨by rw [E.2.2.2]; exact (show (rmN 110).frames + 1 ≤ (rmN 106).frames by decide), by rw [E.2.2.2]; exact (show 8 + (mNL (miB 110) + 11) + (rmN 110).locals ≤ (rmN 106).locals by decide), by rw [E.2.2.2]; exact (show 0 + (rmN 110).cells ≤ (rmN 106).cells by decide), by rw [E.2.2.2]; exact (show 0 + (rmN 110).slots ≤ (rmN 106).slots by decide)⟩ (Nat.le_of_ble_eq_true rfl) (fun vv s11 hq => ?_) (fun ee s11 hq => ?_)
    rotate_left
    · obtain ⟨Is11, Fs11, hv, hps11⟩ := hq; cases hv
    obtain ⟨Is11, Fs11, hv, hps11⟩ := hq
    cases hv
    have Gs11 := fm_ts Fs10 Fs11 (by decide) (by decide)
    have ws11_9 : iI s11 9 = iI s10 9 := fm_i Fs11 (by decide)
    have ws11_11 : iI s11 11 = iI s10 11 := fm_i Fs11 (by decide)
    show WS k 42 [(0, .ref (A 3))] [] (Wd A dT s11) 0 0
    refine z_aload_n X (x := A 3) (show cdA 106 42 = some (.aload_n 0, 1, 0, 0, 0) from rfl) (List.Mem.head _) ?_
    refine z_getI X 3 (show cdA 106 43 = some (.getfield 99, 3, 9, 0, 0) from rfl) (by decide) rfl rfl ?_
    have b13 : (0 : Int) ≤ iI s11 9 ∧ iI s11 9 ≤ 12 := Is11.1 9
    refine z_const X (show cdA 106 46 = some (.iconst 1, 1, 0, 0, 0) from rfl) ?_
    refine z_sub X (show cdA 106 47 = some (.isub, 1, 0, 0, 0) from rfl) ?_
    exact w_iret X.1 q hRt rfl (ax_d X (show cdA 106 48 = some (.ireturn, 1, 0, 0, 0) from rfl)) (Nat.zero_le _) (Nat.zero_le _) ⟨_, rfl, Is11, Gs11, ((iI s11 9) - 1), rfl, ⟨by first | exact oq_c1e961c7 b13.1 | omega, by first | exact oq_d526ebd3 b13.2 | omega⟩, trivial⟩
  ·
    refine z_const X (show cdA 106 9 = some (.iconst (-1), 1, 0, 0, 0) from rfl) ?_
    exact w_iret X.1 q hRt rfl (ax_d X (show cdA 106 10 = some (.ireturn, 1, 0, 0, 0) from rfl)) (Nat.zero_le _) (Nat.zero_le _) ⟨_, rfl, I, F, (-1), rfl, (by decide), trivial⟩
set_option maxRecDepth 4000 in
theorem c9_allMeets_3 (G : GX l s0 D tys a0 dT) (I : Bd s) {x : Int} (p0 : 0 ≤ x ∧ x ≤ 1) : CT l s0 D A dT 112 (rmN 112) [.ref (A 3), .int (Int32.ofInt x)] s (fun o t => Bd t ∧ Fm [] [] s t ∧ ∃ e : Int64, o = .inl (some (.long e)) ∧ (True)) := by
  refine ct_ofX G (by decide) (Nat.le_of_ble_eq_true rfl) (fun k X E ET hRt hXt q => ?_)
  show WS k 0 [(0, .ref (A 3)), (1, .int (Int32.ofInt x))] [] _ 0 0
  have F : Fm [] [] s s := fm_rf _ _ s
  have b1 : (0 : Int) ≤ iI s 10 ∧ iI s 10 ≤ 66 := I.1 10
  have L5 : ∀ (n : Nat) (t : PS) (xv : Int) (al : Int64) (c : Int), Bd t → Fm [] [] s t → ((0 ≤ xv ∧ xv ≤ 1) ∧ 0 ≤ c ∧ c ≤ 66) → (66 - c : Int).toNat < n → (∀ (t' : PS) (al' : Int64) (c' : Int), Bd t' → Fm [] [] s t' → ((0 ≤ xv ∧ xv ≤ 1) ∧ 0 ≤ c' ∧ c' ≤ 66) → WS k 34 [(0, .ref (A 3)), (1, .int (Int32.ofInt xv)), (2, .long al'), (4, .int (Int32.ofInt c'))] [] (Wd A dT t') 0 0) → WS k 5 [(0, .ref (A 3)), (1, .int (Int32.ofInt xv)), (2, .long al), (4, .int (Int32.ofInt c))] [] (Wd A dT t) 0 0 := by
    intro n
    induction n with
    | zero =>
      intro t xv al c I F hi hm kx
      exact absurd hm (Nat.not_lt_zero _)
    | succ n ih =>
      intro t xv al c I F hi hm kx
      have b1001 : (0 : Int) ≤ iI t 10 ∧ iI t 10 ≤ 66 := I.1 10
      refine z_load X (x := c) (show cdA 112 5 = some (.iload 4, 2, 0, 0, 0) from rfl) (List.Mem.tail _ (List.Mem.tail _ (List.Mem.tail _ (List.Mem.head _)))) ?_
      refine z_aload_n X (x := A 3) (show cdA 112 7 = some (.aload_n 0, 1, 0, 0, 0) from rfl) (List.Mem.head _) ?_
      refine z_getI X 3 (show cdA 112 8 = some (.getfield 131, 3, 9, 8, 0) from rfl) (by decide) rfl rfl ?_
      have b1002 : (0 : Int) ≤ iI t 10 ∧ iI t 10 ≤ 66 := I.1 10
      refine z_icmp_ge X (t := 34) (show cdA 112 11 = some (.if_icmp .ge 23, 3, 3, 0, 0) from rfl) (by decide) ⟨by first | exact oq_fa4e5087 hi.2.1 | omega, by first | exact oq_64f2e926 hi.2.2 | omega⟩ (rng_to _) (fun g1003 => ?_) (fun g1003 => ?_)
      ·
        refine WS_lv (lv := [(0, .ref (A 3)), (1, .int (Int32.ofInt xv)), (2, .long al), (4, .int (Int32.ofInt c))]) (List.forall_mem_cons.mpr ⟨(List.Mem.head _), (List.forall_mem_cons.mpr ⟨(List.Mem.tail _ (List.Mem.head _)), (List.forall_mem_cons.mpr ⟨(List.Mem.tail _ (List.Mem.tail _ (List.Mem.head _))), (List.forall_mem_cons.mpr ⟨(List.Mem.tail _ (List.Mem.tail _ (List.Mem.tail _ (List.Mem.head _)))), (fun q h => absurd h List.not_mem_nil)⟩)⟩)⟩)⟩) ?_
        exact kx _ al c I F (by first | exact ⟨And.intro (hi.1.1) (hi.1.2), hi.2.1, hi.2.2⟩ | omega)
      ·
        refine w_lload_n X.1 (ax_d X (show cdA 112 14 = some (.lload_n 2, 1, 0, 0, 0) from rfl)) (x := al) (List.Mem.tail _ (List.Mem.tail _ (List.Mem.head _))) ?_
        refine z_aload_n X (x := A 3) (show cdA 112 15 = some (.aload_n 0, 1, 0, 0, 0) from rfl) (List.Mem.head _) ?_
        refine s_getR X 3 (show cdA 112 16 = some (.getfield 31, 3, 9, 7, 0) from rfl) (by decide) rfl rfl ?_
        refine z_load X (x := c) (show cdA 112 19 = some (.iload 4, 2, 0, 0, 0) from rfl) (List.Mem.tail _ (List.Mem.tail _ (List.Mem.tail _ (List.Mem.head _)))) ?_
        refine z_const X (show cdA 112 21 = some (.iconst 2, 1, 0, 0, 0) from rfl) ?_
        refine z_mul X (show cdA 112 22 = some (.imul, 1, 0, 0, 0) from rfl) ?_
        refine z_load_n X (x := xv) (show cdA 112 23 = some (.iload_n 1, 1, 0, 0, 0) from rfl) (List.Mem.tail _ (List.Mem.head _)) ?_
        refine z_add X (show cdA 112 24 = some (.iadd, 1, 0, 0, 0) from rfl) ?_
        refine z_lald X 10 (show cdA 112 25 = some (.laload, 1, 0, 0, 0) from rfl) (by decide) rfl (by first | exact oq_ff754f74 hi.2.1 hi.1.1 | omega) (show ((c * 2) + xv) < 132 by first | exact oq_9ab75a0e hi.1.2 g1003 b1002.2 | omega) (by decide) (fun j1004 => ?_)
        refine w_lor X.1 (ax_d X (show cdA 112 26 = some (.lor, 1, 0, 0, 0) from rfl)) ?_
        refine z_anyJ (fun j1005 => ?_)
        refine w_lstore_n X.1 (lv' := [(2, .long j1005), (0, .ref (A 3)), (1, .int (Int32.ofInt xv)), (4, .int (Int32.ofInt c))]) (ax_d X (show cdA 112 27 = some (.lstore_n 2, 1, 0, 0, 0) from rfl)) (by rw [X.2.1.2.2]; decide) (fun _ h => h) ?_
        refine z_inc X (x := c) (lv' := [(4, .int (Int32.ofInt (c + 1))), (2, .long j1005), (0, .ref (A 3)), (1, .int (Int32.ofInt xv))]) (show cdA 112 28 = some (.iinc 4 1, 3, 0, 0, 0) from rfl) (by decide) (List.Mem.tail _ (List.Mem.tail _ (List.Mem.tail _ (List.Mem.head _)))) (fun _ h => h) ?_
        refine z_goto X (t := 5) (show cdA 112 31 = some (.goto (-26), 3, 0, 0, 0) from rfl) (by decide) ?_
        refine WS_lv (lv := [(0, .ref (A 3)), (1, .int (Int32.ofInt xv)), (2, .long j1005), (4, .int (Int32.ofInt (c + 1)))]) (List.forall_mem_cons.mpr ⟨(List.Mem.tail _ (List.Mem.tail _ (List.Mem.head _))), (List.forall_mem_cons.mpr ⟨(List.Mem.tail _ (List.Mem.tail _ (List.Mem.tail _ (List.Mem.head _)))), (List.forall_mem_cons.mpr ⟨(List.Mem.tail _ (List.Mem.head _)), (List.forall_mem_cons.mpr ⟨(List.Mem.head _), (fun q h => absurd h List.not_mem_nil)⟩)⟩)⟩)⟩) ?_
        exact ih _ xv j1005 (c + 1) I F (by first | exact ⟨And.intro (hi.1.1) (hi.1.2), oq_54f49eb5 hi.2.1, oq_319a18a4 g1003 b1002.2⟩ | omega) (by first | exact qk_me hm (by decide) (oq_dd0e9829 g1003 b1002.2) | omega) kx
  refine w_lconst X.1 (ax_d X (show cdA 112 0 = some (.lconst 0, 1, 0, 0, 0) from rfl)) rfl ?_
  refine z_anyJ (fun j2 => ?_)
  refine w_lstore_n X.1 (lv' := [(2, .long j2), (0, .ref (A 3)), (1, .int (Int32.ofInt x))]) (ax_d X (show cdA 112 1 = some (.lstore_n 2, 1, 0, 0, 0) from rfl)) (by rw [X.2.1.2.2]; decide) (fun _ h => h) ?_
  refine z_const X (show cdA 112 2 = some (.iconst 0, 1, 0, 0, 0) from rfl) ?_
  refine z_store X (lv' := [(4, .int (Int32.ofInt 0)), (2, .long j2), (0, .ref (A 3)), (1, .int (Int32.ofInt x))]) (show cdA 112 3 = some (.istore 4, 2, 0, 0, 0) from rfl) (by decide) (fun _ h => h) ?_
  refine WS_lv (lv := [(0, .ref (A 3)), (1, .int (Int32.ofInt x)), (2, .long j2), (4, .int (Int32.ofInt 0))]) (List.forall_mem_cons.mpr ⟨(List.Mem.tail _ (List.Mem.tail _ (List.Mem.head _))), (List.forall_mem_cons.mpr ⟨(List.Mem.tail _ (List.Mem.tail _ (List.Mem.tail _ (List.Mem.head _)))), (List.forall_mem_cons.mpr ⟨(List.Mem.tail _ (List.Mem.head _)), (List.forall_mem_cons.mpr ⟨(List.Mem.head _), (fun q h => absurd h List.not_mem_nil)⟩)⟩)⟩)⟩) ?_
  refine L5 ((66 - 0 : Int).toNat + 1) s x j2 0 I F (by first | exact ⟨And.intro (p0.1) (p0.2), by decide, by decide⟩ | omega) (Nat.lt_succ_self _) ?_
  intro s3 x4 x5 Is3 Fs3 hs3
  have b6 : (0 : Int) ≤ iI s3 10 ∧ iI s3 10 ≤ 66 := Is3.1 10
  refine w_lload_n X.1 (ax_d X (show cdA 112 34 = some (.lload_n 2, 1, 0, 0, 0) from rfl)) (x := x4) (List.Mem.tail _ (List.Mem.tail _ (List.Mem.head _))) ?_
  exact w_lret X.1 q hRt (ax_d X (show cdA 112 35 = some (.lreturn, 1, 0, 0, 0) from rfl)) (Nat.zero_le _) (Nat.zero_le _) ⟨_, rfl, Is3, Fs3, x4, rfl, trivial⟩
set_option maxRecDepth 4000 in
theorem c9_cellAt_3 (G : GX l s0 D tys a0 dT) (I : Bd s) {x y : Int} (p0 : 0 ≤ x ∧ x ≤ 11) (p1 : rng y) : CT l s0 D A dT 113 (rmN 113) [.ref (A 3), .int (Int32.ofInt x), .int (Int32.ofInt y)] s (fun o t => Bd t ∧ Fm [] [] s t ∧ ∃ e, o = .inl (some (.int (Int32.ofInt e))) ∧ rng e ∧ (-1 ≤ e ∧ e ≤ 127)) := by
  refine ct_ofX G (by decide) (Nat.le_of_ble_eq_true rfl) (fun k X E ET hRt hXt q => ?_)
  show WS k 0 [(0, .ref (A 3)), (1, .int (Int32.ofInt x)), (2, .int (Int32.ofInt y))] [] _ 0 0
  have F : Fm [] [] s s := fm_rf _ _ s
  refine z_load_n X (x := y) (show cdA 113 0 = some (.iload_n 2, 1, 0, 0, 0) from rfl) (List.Mem.tail _ (List.Mem.tail _ (List.Mem.head _))) ?_
  have N1 : ∀ e2 : Int, (((y < 0) ∧ e2 = (-1)) ∨ ((0 ≤ y) ∧ ((0 : Int) ≤ iC s 2 (x).toNat ∧ iC s 2 (x).toNat ≤ 24) ∧ ((iC s 2 (x).toNat) ≤ y) ∧ e2 = (-1)) ∨ ((0 ≤ y) ∧ ((0 : Int) ≤ iC s 2 (x).toNat ∧ iC s 2 (x).toNat ≤ 24) ∧ (y < (iC s 2 (x).toNat)) ∧ ((0 : Int) ≤ iC s 1 (((x * 24) + y)).toNat ∧ iC s 1 (((x * 24) + y)).toNat ≤ 127) ∧ e2 = (iC s 1 (((x * 24) + y)).toNat))) → WS k 29 [(0, .ref (A 3)), (1, .int (Int32.ofInt x)), (2, .int (Int32.ofInt y))] [.int (Int32.ofInt e2)] (Wd A dT s) 0 0 := by
    intro e2 he2
    exact w_iret X.1 q hRt rfl (ax_d X (show cdA 113 29 = some (.ireturn, 1, 0, 0, 0) from rfl)) (Nat.zero_le _) (Nat.zero_le _) ⟨_, rfl, I, F, e2, rfl, ⟨by first | exact oq_2f662a89 he2 | omega, by first | exact oq_e7a50a6f he2 | omega⟩, by first | exact ⟨oq_c5daf206 he2, oq_1c80a01a he2⟩ | omega⟩
  refine z_if_lt X (t := 28) (show cdA 113 1 = some (.ifCond .lt 27, 3, 2, 0, 0) from rfl) (by decide) ⟨by first | exact p1.1 | omega, by first | exact p1.2 | omega⟩ (fun g3 => ?_) (fun g3 => ?_)
  ·
    refine z_const X (show cdA 113 28 = some (.iconst (-1), 1, 0, 0, 0) from rfl) ?_
    exact N1 _ (Or.inl ⟨g3, rfl⟩)
  ·
    refine z_load_n X (x := y) (show cdA 113 4 = some (.iload_n 2, 1, 0, 0, 0) from rfl) (List.Mem.tail _ (List.Mem.tail _ (List.Mem.head _))) ?_
    refine z_aload_n X (x := A 3) (show cdA 113 5 = some (.aload_n 0, 1, 0, 0, 0) from rfl) (List.Mem.head _) ?_
    refine s_getR X 3 (show cdA 113 6 = some (.getfield 15, 3, 9, 2, 0) from rfl) (by decide) rfl rfl ?_
    refine z_load_n X (x := x) (show cdA 113 9 = some (.iload_n 1, 1, 0, 0, 0) from rfl) (List.Mem.tail _ (List.Mem.head _)) ?_
    refine z_ald X 5 (show cdA 113 10 = some (.iaload, 1, 0, 0, 0) from rfl) (by decide) rfl (by first | exact p0.1 | omega) (show x < 12 by first | exact oq_0ddfcfee p0.2 | omega) (by decide) ?_
    have b4 : (0 : Int) ≤ iC s 2 (x).toNat ∧ iC s 2 (x).toNat ≤ 24 := I.2 2 _ (show (x).toNat < 12 by first | exact oq_9c5fa447 p0.2 | omega)
    refine z_icmp_ge X (t := 28) (show cdA 113 11 = some (.if_icmp .ge 17, 3, 3, 0, 0) from rfl) (by decide) ⟨by first | exact p1.1 | omega, by first | exact p1.2 | omega⟩ (rng_to _) (fun g5 => ?_) (fun g5 => ?_)
    ·
      refine z_const X (show cdA 113 28 = some (.iconst (-1), 1, 0, 0, 0) from rfl) ?_
      exact N1 _ (Or.inr (Or.inl ⟨g3, b4, g5, rfl⟩))
    ·
      refine z_aload_n X (x := A 3) (show cdA 113 14 = some (.aload_n 0, 1, 0, 0, 0) from rfl) (List.Mem.head _) ?_
      refine s_getR X 3 (show cdA 113 15 = some (.getfield 9, 3, 9, 1, 0) from rfl) (by decide) rfl rfl ?_
      refine z_load_n X (x := x) (show cdA 113 18 = some (.iload_n 1, 1, 0, 0, 0) from rfl) (List.Mem.tail _ (List.Mem.head _)) ?_
      refine z_bipush X (show cdA 113 19 = some (.bipush 24, 2, 0, 0, 24) from rfl) ?_
      refine z_mul X (show cdA 113 21 = some (.imul, 1, 0, 0, 0) from rfl) ?_
      refine z_load_n X (x := y) (show cdA 113 22 = some (.iload_n 2, 1, 0, 0, 0) from rfl) (List.Mem.tail _ (List.Mem.tail _ (List.Mem.head _))) ?_
      refine z_add X (show cdA 113 23 = some (.iadd, 1, 0, 0, 0) from rfl) ?_
      refine z_ald X 4 (show cdA 113 24 = some (.iaload, 1, 0, 0, 0) from rfl) (by decide) rfl (by first | exact oq_4071a75f p0.1 g3 | omega) (show ((x * 24) + y) < 288 by first | exact oq_54efb6a2 p0.2 g5 b4.2 | omega) (by decide) ?_
      have b6 : (0 : Int) ≤ iC s 1 (((x * 24) + y)).toNat ∧ iC s 1 (((x * 24) + y)).toNat ≤ 127 := I.2 1 _ (show (((x * 24) + y)).toNat < 288 by first | exact oq_2f719579 p0.2 g5 b4.2 | omega)
      refine z_goto X (t := 29) (show cdA 113 25 = some (.goto 4, 3, 0, 0, 0) from rfl) (by decide) ?_
      exact N1 _ (Or.inr (Or.inr (⟨g3, b4, g5, b6, rfl⟩)))
set_option maxRecDepth 4000 in
theorem c9_mostIn_3 (G : GX l s0 D tys a0 dT) (I : Bd s) {x y : Int} (p0 : 0 ≤ x ∧ x ≤ 11) (p1 : 0 ≤ y ∧ y ≤ 23) : CT l s0 D A dT 117 (rmN 117) [.ref (A 3), .int (Int32.ofInt x), .int (Int32.ofInt y)] s (fun o t => Bd t ∧ Fm [] [] s t ∧ ∃ e, o = .inl (some (.int (Int32.ofInt e))) ∧ rng e ∧ (0 ≤ e ∧ e ≤ 50)) := by
  refine ct_ofX G (by decide) (Nat.le_of_ble_eq_true rfl) (fun k X E ET hRt hXt q => ?_)
  show WS k 0 [(0, .ref (A 3)), (1, .int (Int32.ofInt x)), (2, .int (Int32.ofInt y))] [] _ 0 0
  have F : Fm [] [] s s := fm_rf _ _ s
  have L34 : ∀ (n : Nat) (t : PS) (xv la gr qq : Int), Bd t → Fm [] [] s t → ((0 ≤ xv ∧ xv ≤ 11) ∧ (-30 ≤ la ∧ la ≤ 23) ∧ (0 ≤ gr ∧ gr ≤ 50) ∧ 0 ≤ qq ∧ qq ≤ 24) → (24 - qq : Int).toNat < n → (∀ (t' : PS) (gr' qq' : Int), Bd t' → Fm [] [] s t' → ((0 ≤ xv ∧ xv ≤ 11) ∧ (-30 ≤ la ∧ la ≤ 23) ∧ (0 ≤ gr' ∧ gr' ≤ 50) ∧ 0 ≤ qq' ∧ qq' ≤ 24) → WS k 66 [(0, .ref (A 3)), (1, .int (Int32.ofInt xv)), (4, .int (Int32.ofInt la)), (5, .int (Int32.ofInt gr')), (6, .int (Int32.ofInt qq'))] [] (Wd A dT t') 0 0) → WS k 34 [(0, .ref (A 3)), (1, .int (Int32.ofInt xv)), (4, .int (Int32.ofInt la)), (5, .int (Int32.ofInt gr)), (6, .int (Int32.ofInt qq))] [] (Wd A dT t) 0 0 := by
    intro n
    induction n with
    | zero =>
      intro t xv la gr qq I F hi hm kx
      exact absurd hm (Nat.not_lt_zero _)
    | succ n ih =>
      intro t xv la gr qq I F hi hm kx
      refine z_load X (x := qq) (show cdA 117 34 = some (.iload 6, 2, 0, 0, 0) from rfl) (List.Mem.tail _ (List.Mem.tail _ (List.Mem.tail _ (List.Mem.tail _ (List.Mem.head _))))) ?_
      refine z_load X (x := la) (show cdA 117 36 = some (.iload 4, 2, 0, 0, 0) from rfl) (List.Mem.tail _ (List.Mem.tail _ (List.Mem.head _))) ?_
      refine z_icmp_gt X (t := 66) (show cdA 117 38 = some (.if_icmp .gt 28, 3, 4, 0, 0) from rfl) (by decide) ⟨by first | exact oq_fa4e5087 hi.2.2.2.1 | omega, by first | exact oq_5bcd337f hi.2.2.2.2 | omega⟩ ⟨by first | exact oq_68756d7a hi.2.1.1 | omega, by first | exact oq_1a42ef34 hi.2.1.2 | omega⟩ (fun g1001 => ?_) (fun g1001 => ?_)
      ·
        refine WS_lv (lv := [(0, .ref (A 3)), (1, .int (Int32.ofInt xv)), (4, .int (Int32.ofInt la)), (5, .int (Int32.ofInt gr)), (6, .int (Int32.ofInt qq))]) (List.forall_mem_cons.mpr ⟨(List.Mem.head _), (List.forall_mem_cons.mpr ⟨(List.Mem.tail _ (List.Mem.head _)), (List.forall_mem_cons.mpr ⟨(List.Mem.tail _ (List.Mem.tail _ (List.Mem.head _))), (List.forall_mem_cons.mpr ⟨(List.Mem.tail _ (List.Mem.tail _ (List.Mem.tail _ (List.Mem.head _)))), (List.forall_mem_cons.mpr ⟨(List.Mem.tail _ (List.Mem.tail _ (List.Mem.tail _ (List.Mem.tail _ (List.Mem.head _))))), (fun q h => absurd h List.not_mem_nil)⟩)⟩)⟩)⟩)⟩) ?_
        exact kx _ gr qq I F (by first | exact ⟨And.intro (hi.1.1) (hi.1.2), And.intro (hi.2.1.1) (hi.2.1.2), And.intro (hi.2.2.1.1) (hi.2.2.1.2), hi.2.2.2.1, hi.2.2.2.2⟩ | omega)
      ·
        refine z_load X (x := gr) (show cdA 117 41 = some (.iload 5, 2, 0, 0, 0) from rfl) (List.Mem.tail _ (List.Mem.tail _ (List.Mem.tail _ (List.Mem.head _)))) ?_
        refine z_aload_n X (x := A 3) (show cdA 117 43 = some (.aload_n 0, 1, 0, 0, 0) from rfl) (List.Mem.head _) ?_
        refine s_getR X 3 (show cdA 117 44 = some (.getfield 34, 3, 9, 9, 0) from rfl) (by decide) rfl rfl ?_
        refine z_load_n X (x := xv) (show cdA 117 47 = some (.iload_n 1, 1, 0, 0, 0) from rfl) (List.Mem.tail _ (List.Mem.head _)) ?_
        refine z_bipush X (show cdA 117 48 = some (.bipush 24, 2, 0, 0, 24) from rfl) ?_
        refine z_mul X (show cdA 117 50 = some (.imul, 1, 0, 0, 0) from rfl) ?_
        refine z_load X (x := qq) (show cdA 117 51 = some (.iload 6, 2, 0, 0, 0) from rfl) (List.Mem.tail _ (List.Mem.tail _ (List.Mem.tail _ (List.Mem.tail _ (List.Mem.head _))))) ?_
        refine z_add X (show cdA 117 53 = some (.iadd, 1, 0, 0, 0) from rfl) ?_
        refine z_ald X 11 (show cdA 117 54 = some (.iaload, 1, 0, 0, 0) from rfl) (by decide) rfl (by first | exact oq_4071a75f hi.1.1 hi.2.2.2.1 | omega) (show ((xv * 24) + qq) < 288 by first | exact oq_df38adfb hi.1.2 g1001 hi.2.1.2 | omega) (by decide) ?_
        have b1002 : (0 : Int) ≤ iC t 8 (((xv * 24) + qq)).toNat ∧ iC t 8 (((xv * 24) + qq)).toNat ≤ 50 := I.2 8 _ (show (((xv * 24) + qq)).toNat < 288 by first | exact oq_bba4069f hi.1.2 g1001 hi.2.1.2 | omega)
        refine z_max X (show cdA 117 55 = some (.invokestatic 149, 3, 0, 7, 0) from rfl) ⟨by first | exact oq_fa4e5087 hi.2.2.1.1 | omega, by first | exact oq_cbe526b3 hi.2.2.1.2 | omega⟩ (rng_to _) (by rw [E.2.2.2]; decide) (by rw [E.2.2.2]; exact Nat.le_of_ble_eq_true rfl) (Nat.zero_le _) (Nat.zero_le _) (fun e1003 he1003 => ?_)
        refine z_store X (lv' := [(5, .int (Int32.ofInt e1003)), (0, .ref (A 3)), (1, .int (Int32.ofInt xv)), (4, .int (Int32.ofInt la)), (6, .int (Int32.ofInt qq))]) (show cdA 117 58 = some (.istore 5, 2, 0, 0, 0) from rfl) (by decide) (fun _ h => h) ?_
        refine z_inc X (x := qq) (lv' := [(6, .int (Int32.ofInt (qq + 1))), (5, .int (Int32.ofInt e1003)), (0, .ref (A 3)), (1, .int (Int32.ofInt xv)), (4, .int (Int32.ofInt la))]) (show cdA 117 60 = some (.iinc 6 1, 3, 0, 0, 0) from rfl) (by decide) (List.Mem.tail _ (List.Mem.tail _ (List.Mem.tail _ (List.Mem.tail _ (List.Mem.head _))))) (fun _ h => h) ?_
        refine z_goto X (t := 34) (show cdA 117 63 = some (.goto (-29), 3, 0, 0, 0) from rfl) (by decide) ?_
        refine WS_lv (lv := [(0, .ref (A 3)), (1, .int (Int32.ofInt xv)), (4, .int (Int32.ofInt la)), (5, .int (Int32.ofInt e1003)), (6, .int (Int32.ofInt (qq + 1)))]) (List.forall_mem_cons.mpr ⟨(List.Mem.tail _ (List.Mem.tail _ (List.Mem.head _))), (List.forall_mem_cons.mpr ⟨(List.Mem.tail _ (List.Mem.tail _ (List.Mem.tail _ (List.Mem.head _)))), (List.forall_mem_cons.mpr ⟨(List.Mem.tail _ (List.Mem.tail _ (List.Mem.tail _ (List.Mem.tail _ (List.Mem.head _))))), (List.forall_mem_cons.mpr ⟨(List.Mem.tail _ (List.Mem.head _)), (List.forall_mem_cons.mpr ⟨(List.Mem.head _), (fun q h => absurd h List.not_mem_nil)⟩)⟩)⟩)⟩)⟩) ?_
        exact ih _ xv la e1003 (qq + 1) I F (by first | exact ⟨And.intro (hi.1.1) (hi.1.2), And.intro (hi.2.1.1) (hi.2.1.2), oq_a302a59b he1003 b1002.2 hi.2.2.1.2 hi.2.2.1.1, oq_54f49eb5 hi.2.2.2.1, oq_3f5436dc g1001 hi.2.1.2⟩ | omega) (by first | exact qk_me hm (by decide) (oq_416f5e90 g1001 hi.2.1.2) | omega) kx
  refine z_const X (show cdA 117 0 = some (.iconst 0, 1, 0, 0, 0) from rfl) ?_
  refine z_load_n X (x := y) (show cdA 117 1 = some (.iload_n 2, 1, 0, 0, 0) from rfl) (List.Mem.tail _ (List.Mem.tail _ (List.Mem.head _))) ?_
  refine z_aload_n X (x := A 3) (show cdA 117 2 = some (.aload_n 0, 1, 0, 0, 0) from rfl) (List.Mem.head _) ?_
  refine s_getR X 3 (show cdA 117 3 = some (.getfield 40, 3, 9, 11, 0) from rfl) (by decide) rfl rfl ?_
  refine z_load_n X (x := x) (show cdA 117 6 = some (.iload_n 1, 1, 0, 0, 0) from rfl) (List.Mem.tail _ (List.Mem.head _)) ?_
  refine z_ald X 13 (show cdA 117 7 = some (.iaload, 1, 0, 0, 0) from rfl) (by decide) rfl (by first | exact p0.1 | omega) (show x < 12 by first | exact oq_0ddfcfee p0.2 | omega) (by decide) ?_
  have b1 : (0 : Int) ≤ iC s 10 (x).toNat ∧ iC s 10 (x).toNat ≤ 2 := I.2 10 _ (show (x).toNat < 12 by first | exact oq_9c5fa447 p0.2 | omega)
  refine z_sub X (show cdA 117 8 = some (.isub, 1, 0, 0, 0) from rfl) ?_
  refine z_max X (show cdA 117 9 = some (.invokestatic 149, 3, 0, 7, 0) from rfl) (by decide) ⟨by first | exact oq_daade761 p1.1 b1.2 | omega, by first | exact oq_941e6dcc p1.2 b1.1 | omega⟩ (by rw [E.2.2.2]; decide) (by rw [E.2.2.2]; exact Nat.le_of_ble_eq_true rfl) (Nat.zero_le _) (Nat.zero_le _) (fun e2 he2 => ?_)
  refine z_store_n X (lv' := [(3, .int (Int32.ofInt e2)), (0, .ref (A 3)), (1, .int (Int32.ofInt x)), (2, .int (Int32.ofInt y))]) (show cdA 117 12 = some (.istore_n 3, 1, 0, 0, 0) from rfl) (by decide) (fun _ h => h) ?_
  refine z_bipush X (show cdA 117 13 = some (.bipush 23, 2, 0, 0, 23) from rfl) ?_
  refine z_load_n X (x := y) (show cdA 117 15 = some (.iload_n 2, 1, 0, 0, 0) from rfl) (List.Mem.tail _ (List.Mem.tail _ (List.Mem.tail _ (List.Mem.head _)))) ?_
  refine z_aload_n X (x := A 3) (show cdA 117 16 = some (.aload_n 0, 1, 0, 0, 0) from rfl) (List.Mem.tail _ (List.Mem.head _)) ?_
  refine s_getR X 3 (show cdA 117 17 = some (.getfield 37, 3, 9, 10, 0) from rfl) (by decide) rfl rfl ?_
  refine z_load_n X (x := x) (show cdA 117 20 = some (.iload_n 1, 1, 0, 0, 0) from rfl) (List.Mem.tail _ (List.Mem.tail _ (List.Mem.head _))) ?_
  refine z_ald X 12 (show cdA 117 21 = some (.iaload, 1, 0, 0, 0) from rfl) (by decide) rfl (by first | exact p0.1 | omega) (show x < 12 by first | exact oq_0ddfcfee p0.2 | omega) (by decide) ?_
  have b3 : (0 : Int) ≤ iC s 9 (x).toNat ∧ iC s 9 (x).toNat ≤ 2 := I.2 9 _ (show (x).toNat < 12 by first | exact oq_9c5fa447 p0.2 | omega)
  refine z_add X (show cdA 117 22 = some (.iadd, 1, 0, 0, 0) from rfl) ?_
  refine z_min X (show cdA 117 23 = some (.invokestatic 122, 3, 0, 8, 0) from rfl) (by decide) ⟨by first | exact oq_34aac425 p1.1 b3.1 | omega, by first | exact oq_b5a47671 p1.2 b3.2 | omega⟩ (by rw [E.2.2.2]; decide) (by rw [E.2.2.2]; exact Nat.le_of_ble_eq_true rfl) (Nat.zero_le _) (Nat.zero_le _) (fun e4 he4 => ?_)
  refine z_store X (lv' := [(4, .int (Int32.ofInt e4)), (3, .int (Int32.ofInt e2)), (0, .ref (A 3)), (1, .int (Int32.ofInt x)), (2, .int (Int32.ofInt y))]) (show cdA 117 26 = some (.istore 4, 2, 0, 0, 0) from rfl) (by decide) (fun _ h => h) ?_
  refine z_const X (show cdA 117 28 = some (.iconst 0, 1, 0, 0, 0) from rfl) ?_
  refine z_store X (lv' := [(5, .int (Int32.ofInt 0)), (4, .int (Int32.ofInt e4)), (3, .int (Int32.ofInt e2)), (0, .ref (A 3)), (1, .int (Int32.ofInt x)), (2, .int (Int32.ofInt y))]) (show cdA 117 29 = some (.istore 5, 2, 0, 0, 0) from rfl) (by decide) (fun _ h => h) ?_
  refine z_load_n X (x := e2) (show cdA 117 31 = some (.iload_n 3, 1, 0, 0, 0) from rfl) (List.Mem.tail _ (List.Mem.tail _ (List.Mem.head _))) ?_
  refine z_store X (lv' := [(6, .int (Int32.ofInt e2)), (5, .int (Int32.ofInt 0)), (4, .int (Int32.ofInt e4)), (3, .int (Int32.ofInt e2)), (0, .ref (A 3)), (1, .int (Int32.ofInt x)), (2, .int (Int32.ofInt y))]) (show cdA 117 32 = some (.istore 6, 2, 0, 0, 0) from rfl) (by decide) (fun _ h => h) ?_
  refine WS_lv (lv := [(0, .ref (A 3)), (1, .int (Int32.ofInt x)), (4, .int (Int32.ofInt e4)), (5, .int (Int32.ofInt 0)), (6, .int (Int32.ofInt e2))]) (List.forall_mem_cons.mpr ⟨(List.Mem.tail _ (List.Mem.tail _ (List.Mem.tail _ (List.Mem.tail _ (List.Mem.head _))))), (List.forall_mem_cons.mpr ⟨(List.Mem.tail _ (List.Mem.tail _ (List.Mem.tail _ (List.Mem.tail _ (List.Mem.tail _ (List.Mem.head _)))))), (List.forall_mem_cons.mpr ⟨(List.Mem.tail _ (List.Mem.tail _ (List.Mem.head _))), (List.forall_mem_cons.mpr ⟨(List.Mem.tail _ (List.Mem.head _)), (List.forall_mem_cons.mpr ⟨(List.Mem.head _), (fun q h => absurd h List.not_mem_nil)⟩)⟩)⟩)⟩)⟩) ?_
  refine L34 ((24 - e2 : Int).toNat + 1) s x e4 0 e2 I F (by first | exact ⟨And.intro (p0.1) (p0.2), oq_15ca313a he4 b3.1 p1.1, And.intro (by decide) (by decide), oq_b74587d4 he2, oq_f627406d he2 b1.1 p1.2⟩ | omega) (Nat.lt_succ_self _) ?_
  intro s5 x6 x7 Is5 Fs5 hs5
  refine z_load X (x := x6) (show cdA 117 66 = some (.iload 5, 2, 0, 0, 0) from rfl) (List.Mem.tail _ (List.Mem.tail _ (List.Mem.tail _ (List.Mem.head _)))) ?_
  exact w_iret X.1 q hRt rfl (ax_d X (show cdA 117 68 = some (.ireturn, 1, 0, 0, 0) from rfl)) (Nat.zero_le _) (Nat.zero_le _) ⟨_, rfl, Is5, Fs5, x6, rfl, ⟨by first | exact oq_fa4e5087 hs5.2.2.1.1 | omega, by first | exact oq_cbe526b3 hs5.2.2.1.2 | omega⟩, by first | exact ⟨hs5.2.2.1.1, hs5.2.2.1.2⟩ | omega⟩
set_option maxRecDepth 4000 in
theorem c9_twinOf_3 (G : GX l s0 D tys a0 dT) (I : Bd s) {x : Int} (p0 : 0 ≤ x ∧ x ≤ 23) : CT l s0 D A dT 118 (rmN 118) [.ref (A 3), .int (Int32.ofInt x)] s (fun o t => Bd t ∧ Fm [] [] s t ∧ ∃ e, o = .inl (some (.int (Int32.ofInt e))) ∧ rng e ∧ (0 ≤ e ∧ e ≤ 23)) := by
  refine ct_ofX G (by decide) (Nat.le_of_ble_eq_true rfl) (fun k X E ET hRt hXt q => ?_)
  show WS k 0 [(0, .ref (A 3)), (1, .int (Int32.ofInt x))] [] _ 0 0
  have F : Fm [] [] s s := fm_rf _ _ s
  have b1 : (0 : Int) ≤ iI s 9 ∧ iI s 9 ≤ 12 := I.1 9
  have L9 : ∀ (n : Nat) (t : PS) (xv qq c : Int), Bd t → Fm [] [] s t → ((0 ≤ xv ∧ xv ≤ 23) ∧ (0 ≤ qq ∧ qq ≤ 23) ∧ 0 ≤ c ∧ c ≤ 12) → (12 - c : Int).toNat < n → (∀ (t' : PS) (c' : Int), Bd t' → Fm [] [] s t' → ((0 ≤ xv ∧ xv ≤ 23) ∧ (0 ≤ qq ∧ qq ≤ 23) ∧ 0 ≤ c' ∧ c' ≤ 12) → WS k 48 [(0, .ref (A 3)), (1, .int (Int32.ofInt xv)), (2, .int (Int32.ofInt qq)), (3, .int (Int32.ofInt c'))] [] (Wd A dT t') 0 0) → WS k 9 [(0, .ref (A 3)), (1, .int (Int32.ofInt xv)), (2, .int (Int32.ofInt qq)), (3, .int (Int32.ofInt c))] [] (Wd A dT t) 0 0 := by
    intro n
    induction n with
    | zero =>
      intro t xv qq c I F hi hm kx
      exact absurd hm (Nat.not_lt_zero _)
    | succ n ih =>
      intro t xv qq c I F hi hm kx
      have b1001 : (0 : Int) ≤ iI t 9 ∧ iI t 9 ≤ 12 := I.1 9
      refine z_load_n X (x := c) (show cdA 118 9 = some (.iload_n 3, 1, 0, 0, 0) from rfl) (List.Mem.tail _ (List.Mem.tail _ (List.Mem.tail _ (List.Mem.head _)))) ?_
      refine z_aload_n X (x := A 3) (show cdA 118 10 = some (.aload_n 0, 1, 0, 0, 0) from rfl) (List.Mem.head _) ?_
      refine z_getI X 3 (show cdA 118 11 = some (.getfield 99, 3, 9, 0, 0) from rfl) (by decide) rfl rfl ?_
      have b1002 : (0 : Int) ≤ iI t 9 ∧ iI t 9 ≤ 12 := I.1 9
      refine z_icmp_ge X (t := 48) (show cdA 118 14 = some (.if_icmp .ge 34, 3, 3, 0, 0) from rfl) (by decide) ⟨by first | exact oq_fa4e5087 hi.2.2.1 | omega, by first | exact oq_78843a64 hi.2.2.2 | omega⟩ (rng_to _) (fun g1003 => ?_) (fun g1003 => ?_)
      ·
        refine WS_lv (lv := [(0, .ref (A 3)), (1, .int (Int32.ofInt xv)), (2, .int (Int32.ofInt qq)), (3, .int (Int32.ofInt c))]) (List.forall_mem_cons.mpr ⟨(List.Mem.head _), (List.forall_mem_cons.mpr ⟨(List.Mem.tail _ (List.Mem.head _)), (List.forall_mem_cons.mpr ⟨(List.Mem.tail _ (List.Mem.tail _ (List.Mem.head _))), (List.forall_mem_cons.mpr ⟨(List.Mem.tail _ (List.Mem.tail _ (List.Mem.tail _ (List.Mem.head _)))), (fun q h => absurd h List.not_mem_nil)⟩)⟩)⟩)⟩) ?_
        exact kx _ c I F (by first | exact ⟨And.intro (hi.1.1) (hi.1.2), And.intro (hi.2.1.1) (hi.2.1.2), hi.2.2.1, hi.2.2.2⟩ | omega)
      ·
        refine z_aload_n X (x := A 3) (show cdA 118 17 = some (.aload_n 0, 1, 0, 0, 0) from rfl) (List.Mem.head _) ?_
        refine s_getR X 3 (show cdA 118 18 = some (.getfield 43, 3, 9, 12, 0) from rfl) (by decide) rfl rfl ?_
        refine z_load_n X (x := qq) (show cdA 118 21 = some (.iload_n 2, 1, 0, 0, 0) from rfl) (List.Mem.tail _ (List.Mem.tail _ (List.Mem.head _))) ?_
        refine z_bipush X (show cdA 118 22 = some (.bipush 12, 2, 0, 0, 12) from rfl) ?_
        refine z_mul X (show cdA 118 24 = some (.imul, 1, 0, 0, 0) from rfl) ?_
        refine z_load_n X (x := c) (show cdA 118 25 = some (.iload_n 3, 1, 0, 0, 0) from rfl) (List.Mem.tail _ (List.Mem.tail _ (List.Mem.tail _ (List.Mem.head _)))) ?_
        refine z_add X (show cdA 118 26 = some (.iadd, 1, 0, 0, 0) from rfl) ?_
        refine z_ald X 14 (show cdA 118 27 = some (.iaload, 1, 0, 0, 0) from rfl) (by decide) rfl (by first | exact oq_0f03f1de hi.2.1.1 hi.2.2.1 | omega) (show ((qq * 12) + c) < 288 by first | exact oq_45988efc hi.2.1.2 g1003 b1002.2 | omega) (by decide) ?_
        have b1004 : (0 : Int) ≤ iC t 11 (((qq * 12) + c)).toNat ∧ iC t 11 (((qq * 12) + c)).toNat ≤ 50 := I.2 11 _ (show (((qq * 12) + c)).toNat < 288 by first | exact oq_8395bb7c hi.2.1.2 g1003 b1002.2 | omega)
        refine z_aload_n X (x := A 3) (show cdA 118 28 = some (.aload_n 0, 1, 0, 0, 0) from rfl) (List.Mem.head _) ?_
        refine s_getR X 3 (show cdA 118 29 = some (.getfield 43, 3, 9, 12, 0) from rfl) (by decide) rfl rfl ?_
        refine z_load_n X (x := xv) (show cdA 118 32 = some (.iload_n 1, 1, 0, 0, 0) from rfl) (List.Mem.tail _ (List.Mem.head _)) ?_
        refine z_bipush X (show cdA 118 33 = some (.bipush 12, 2, 0, 0, 12) from rfl) ?_
        refine z_mul X (show cdA 118 35 = some (.imul, 1, 0, 0, 0) from rfl) ?_
        refine z_load_n X (x := c) (show cdA 118 36 = some (.iload_n 3, 1, 0, 0, 0) from rfl) (List.Mem.tail _ (List.Mem.tail _ (List.Mem.tail _ (List.Mem.head _)))) ?_
        refine z_add X (show cdA 118 37 = some (.iadd, 1, 0, 0, 0) from rfl) ?_
        refine z_ald X 14 (show cdA 118 38 = some (.iaload, 1, 0, 0, 0) from rfl) (by decide) rfl (by first | exact oq_0f03f1de hi.1.1 hi.2.2.1 | omega) (show ((xv * 12) + c) < 288 by first | exact oq_45988efc hi.1.2 g1003 b1002.2 | omega) (by decide) ?_
        have b1005 : (0 : Int) ≤ iC t 11 (((xv * 12) + c)).toNat ∧ iC t 11 (((xv * 12) + c)).toNat ≤ 50 := I.2 11 _ (show (((xv * 12) + c)).toNat < 288 by first | exact oq_8395bb7c hi.1.2 g1003 b1002.2 | omega)
        refine z_icmp_ne X (t := 48) (show cdA 118 39 = some (.if_icmp .ne 9, 3, 1, 0, 0) from rfl) (by decide) (rng_to _) (rng_to _) (fun g1006 => ?_) (fun g1006 => ?_)
        ·
          refine WS_lv (lv := [(0, .ref (A 3)), (1, .int (Int32.ofInt xv)), (2, .int (Int32.ofInt qq)), (3, .int (Int32.ofInt c))]) (List.forall_mem_cons.mpr ⟨(List.Mem.head _), (List.forall_mem_cons.mpr ⟨(List.Mem.tail _ (List.Mem.head _)), (List.forall_mem_cons.mpr ⟨(List.Mem.tail _ (List.Mem.tail _ (List.Mem.head _))), (List.forall_mem_cons.mpr ⟨(List.Mem.tail _ (List.Mem.tail _ (List.Mem.tail _ (List.Mem.head _)))), (fun q h => absurd h List.not_mem_nil)⟩)⟩)⟩)⟩) ?_
          exact kx _ c I F (by first | exact ⟨And.intro (hi.1.1) (hi.1.2), And.intro (hi.2.1.1) (hi.2.1.2), hi.2.2.1, hi.2.2.2⟩ | omega)
        ·
          refine z_inc X (x := c) (lv' := [(3, .int (Int32.ofInt (c + 1))), (0, .ref (A 3)), (1, .int (Int32.ofInt xv)), (2, .int (Int32.ofInt qq))]) (show cdA 118 42 = some (.iinc 3 1, 3, 0, 0, 0) from rfl) (by decide) (List.Mem.tail _ (List.Mem.tail _ (List.Mem.tail _ (List.Mem.head _)))) (fun _ h => h) ?_
          refine z_goto X (t := 9) (show cdA 118 45 = some (.goto (-36), 3, 0, 0, 0) from rfl) (by decide) ?_
          refine WS_lv (lv := [(0, .ref (A 3)), (1, .int (Int32.ofInt xv)), (2, .int (Int32.ofInt qq)), (3, .int (Int32.ofInt (c + 1)))]) (List.forall_mem_cons.mpr ⟨(List.Mem.tail _ (List.Mem.head _)), (List.forall_mem_cons.mpr ⟨(List.Mem.tail _ (List.Mem.tail _ (List.Mem.head _))), (List.forall_mem_cons.mpr ⟨(List.Mem.tail _ (List.Mem.tail _ (List.Mem.tail _ (List.Mem.head _)))), (List.forall_mem_cons.mpr ⟨(List.Mem.head _), (fun q h => absurd h List.not_mem_nil)⟩)⟩)⟩)⟩) ?_
          exact ih _ xv qq (c + 1) I F (by first | exact ⟨And.intro (hi.1.1) (hi.1.2), And.intro (hi.2.1.1) (hi.2.1.2), oq_54f49eb5 hi.2.2.1, oq_4dae995e g1003 b1002.2⟩ | omega) (by first | exact qk_me hm (by decide) (oq_b575e8c1 g1003 b1002.2) | omega) kx
  have L2 : ∀ (n : Nat) (t : PS) (xv qq : Int), Bd t → Fm [] [] s t → ((0 ≤ xv ∧ xv ≤ 23) ∧ 0 ≤ qq ∧ qq ≤ xv) → (24 - qq : Int).toNat < n → (∀ (t' : PS) (qq' : Int), Bd t' → Fm [] [] s t' → ((0 ≤ xv ∧ xv ≤ 23) ∧ 0 ≤ qq' ∧ qq' ≤ xv) → WS k 64 [(0, .ref (A 3)), (1, .int (Int32.ofInt xv)), (2, .int (Int32.ofInt qq'))] [] (Wd A dT t') 0 0) → WS k 2 [(0, .ref (A 3)), (1, .int (Int32.ofInt xv)), (2, .int (Int32.ofInt qq))] [] (Wd A dT t) 0 0 := by
    intro n
    induction n with
    | zero =>
      intro t xv qq I F hi hm kx
      exact absurd hm (Nat.not_lt_zero _)
    | succ n ih =>
      intro t xv qq I F hi hm kx
      have b2001 : (0 : Int) ≤ iI t 9 ∧ iI t 9 ≤ 12 := I.1 9
      refine z_load_n X (x := qq) (show cdA 118 2 = some (.iload_n 2, 1, 0, 0, 0) from rfl) (List.Mem.tail _ (List.Mem.tail _ (List.Mem.head _))) ?_
      refine z_load_n X (x := xv) (show cdA 118 3 = some (.iload_n 1, 1, 0, 0, 0) from rfl) (List.Mem.tail _ (List.Mem.head _)) ?_
      refine z_icmp_ge X (t := 64) (show cdA 118 4 = some (.if_icmp .ge 60, 3, 3, 0, 0) from rfl) (by decide) ⟨by first | exact oq_fa4e5087 hi.2.1 | omega, by first | exact oq_7c6846ed hi.2.2 hi.1.2 | omega⟩ ⟨by first | exact oq_fa4e5087 hi.1.1 | omega, by first | exact oq_1a42ef34 hi.1.2 | omega⟩ (fun g2002 => ?_) (fun g2002 => ?_)
      ·
        refine WS_lv (lv := [(0, .ref (A 3)), (1, .int (Int32.ofInt xv)), (2, .int (Int32.ofInt qq))]) (List.forall_mem_cons.mpr ⟨(List.Mem.head _), (List.forall_mem_cons.mpr ⟨(List.Mem.tail _ (List.Mem.head _)), (List.forall_mem_cons.mpr ⟨(List.Mem.tail _ (List.Mem.tail _ (List.Mem.head _))), (fun q h => absurd h List.not_mem_nil)⟩)⟩)⟩) ?_
        exact kx _ qq I F (by first | exact ⟨And.intro (hi.1.1) (hi.1.2), hi.2.1, hi.2.2⟩ | omega)
      ·
        refine z_const X (show cdA 118 7 = some (.iconst 0, 1, 0, 0, 0) from rfl) ?_
        refine z_store_n X (lv' := [(3, .int (Int32.ofInt 0)), (0, .ref (A 3)), (1, .int (Int32.ofInt xv)), (2, .int (Int32.ofInt qq))]) (show cdA 118 8 = some (.istore_n 3, 1, 0, 0, 0) from rfl) (by decide) (fun _ h => h) ?_
        refine WS_lv (lv := [(0, .ref (A 3)), (1, .int (Int32.ofInt xv)), (2, .int (Int32.ofInt qq)), (3, .int (Int32.ofInt 0))]) (List.forall_mem_cons.mpr ⟨(List.Mem.tail _ (List.Mem.head _)), (List.forall_mem_cons.mpr ⟨(List.Mem.tail _ (List.Mem.tail _ (List.Mem.head _))), (List.forall_mem_cons.mpr ⟨(List.Mem.tail _ (List.Mem.tail _ (List.Mem.tail _ (List.Mem.head _)))), (List.forall_mem_cons.mpr ⟨(List.Mem.head _), (fun q h => absurd h List.not_mem_nil)⟩)⟩)⟩)⟩) ?_
        refine L9 ((12 - 0 : Int).toNat + 1) t xv qq 0 I F (by first | exact ⟨And.intro (hi.1.1) (hi.1.2), And.intro (hi.2.1) (oq_6cffd753 g2002 hi.1.2), by decide, by decide⟩ | omega) (Nat.lt_succ_self _) ?_
        intro s2003 x2004 Is2003 Fs2003 hs2003
        have b2005 : (0 : Int) ≤ iI s2003 9 ∧ iI s2003 9 ≤ 12 := Is2003.1 9
        refine z_load_n X (x := x2004) (show cdA 118 48 = some (.iload_n 3, 1, 0, 0, 0) from rfl) (List.Mem.tail _ (List.Mem.tail _ (List.Mem.tail _ (List.Mem.head _)))) ?_
        refine z_aload_n X (x := A 3) (show cdA 118 49 = some (.aload_n 0, 1, 0, 0, 0) from rfl) (List.Mem.head _) ?_
        refine z_getI X 3 (show cdA 118 50 = some (.getfield 99, 3, 9, 0, 0) from rfl) (by decide) rfl rfl ?_
        have b2006 : (0 : Int) ≤ iI s2003 9 ∧ iI s2003 9 ≤ 12 := Is2003.1 9
        refine z_icmp_ne X (t := 58) (show cdA 118 53 = some (.if_icmp .ne 5, 3, 1, 0, 0) from rfl) (by decide) ⟨by first | exact oq_fa4e5087 hs2003.2.2.1 | omega, by first | exact oq_78843a64 hs2003.2.2.2 | omega⟩ (rng_to _) (fun g2007 => ?_) (fun g2007 => ?_)
        ·
          refine z_inc X (x := qq) (lv' := [(2, .int (Int32.ofInt (qq + 1))), (0, .ref (A 3)), (1, .int (Int32.ofInt xv)), (3, .int (Int32.ofInt x2004))]) (show cdA 118 58 = some (.iinc 2 1, 3, 0, 0, 0) from rfl) (by decide) (List.Mem.tail _ (List.Mem.tail _ (List.Mem.head _))) (fun _ h => h) ?_
          refine z_goto X (t := 2) (show cdA 118 61 = some (.goto (-59), 3, 0, 0, 0) from rfl) (by decide) ?_
          refine WS_lv (lv := [(0, .ref (A 3)), (1, .int (Int32.ofInt xv)), (2, .int (Int32.ofInt (qq + 1)))]) (List.forall_mem_cons.mpr ⟨(List.Mem.tail _ (List.Mem.head _)), (List.forall_mem_cons.mpr ⟨(List.Mem.tail _ (List.Mem.tail _ (List.Mem.head _))), (List.forall_mem_cons.mpr ⟨(List.Mem.head _), (fun q h => absurd h List.not_mem_nil)⟩)⟩)⟩) ?_
          exact ih _ xv (qq + 1) Is2003 Fs2003 (by first | exact ⟨And.intro (hs2003.1.1) (hs2003.1.2), oq_54f49eb5 hs2003.2.1.1, oq_afc84a8d g2002⟩ | omega) (by first | exact qk_me hm (by decide) (oq_fa9b5cb9 hs2003.2.1.2) | omega) kx
        ·
          refine z_load_n X (x := qq) (show cdA 118 56 = some (.iload_n 2, 1, 0, 0, 0) from rfl) (List.Mem.tail _ (List.Mem.tail _ (List.Mem.head _))) ?_
          exact w_iret X.1 q hRt rfl (ax_d X (show cdA 118 57 = some (.ireturn, 1, 0, 0, 0) from rfl)) (Nat.zero_le _) (Nat.zero_le _) ⟨_, rfl, Is2003, Fs2003, qq, rfl, ⟨by first | exact oq_fa4e5087 hs2003.2.1.1 | omega, by first | exact oq_1a42ef34 hs2003.2.1.2 | omega⟩, by first | exact ⟨hs2003.2.1.1, hs2003.2.1.2⟩ | omega⟩
  refine z_const X (show cdA 118 0 = some (.iconst 0, 1, 0, 0, 0) from rfl) ?_
  refine z_store_n X (lv' := [(2, .int (Int32.ofInt 0)), (0, .ref (A 3)), (1, .int (Int32.ofInt x))]) (show cdA 118 1 = some (.istore_n 2, 1, 0, 0, 0) from rfl) (by decide) (fun _ h => h) ?_
  refine WS_lv (lv := [(0, .ref (A 3)), (1, .int (Int32.ofInt x)), (2, .int (Int32.ofInt 0))]) (List.forall_mem_cons.mpr ⟨(List.Mem.tail _ (List.Mem.head _)), (List.forall_mem_cons.mpr ⟨(List.Mem.tail _ (List.Mem.tail _ (List.Mem.head _))), (List.forall_mem_cons.mpr ⟨(List.Mem.head _), (fun q h => absurd h List.not_mem_nil)⟩)⟩)⟩) ?_
  refine L2 ((24 - 0 : Int).toNat + 1) s x 0 I F (by first | exact ⟨And.intro (p0.1) (p0.2), by decide, p0.1⟩ | omega) (Nat.lt_succ_self _) ?_
  intro s2 x3 Is2 Fs2 hs2
  have b4 : (0 : Int) ≤ iI s2 9 ∧ iI s2 9 ≤ 12 := Is2.1 9
  refine z_load_n X (x := x) (show cdA 118 64 = some (.iload_n 1, 1, 0, 0, 0) from rfl) (List.Mem.tail _ (List.Mem.head _)) ?_
  exact w_iret X.1 q hRt rfl (ax_d X (show cdA 118 65 = some (.ireturn, 1, 0, 0, 0) from rfl)) (Nat.zero_le _) (Nat.zero_le _) ⟨_, rfl, Is2, Fs2, x, rfl, ⟨by first | exact oq_fa4e5087 hs2.1.1 | omega, by first | exact oq_1a42ef34 hs2.1.2 | omega⟩, by first | exact ⟨hs2.1.1, hs2.1.2⟩ | omega⟩
set_option maxRecDepth 4000 in
theorem c9_retell_3 (G : GX l s0 D tys a0 dT) (I : Bd s) {x : Int} (p0 : 0 ≤ x ∧ x ≤ 11) : CT l s0 D A dT 116 (rmN 116) [.ref (A 3), .int (Int32.ofInt x)] s (fun o t => Bd t ∧ Fm [] [11, 12, 13, 14] s t ∧ o = .inl none ∧ (True)) := by
  refine ct_ofX G (by decide) (Nat.le_of_ble_eq_true rfl) (fun k X E ET hRt hXt q => ?_)
  show WS k 0 [(0, .ref (A 3)), (1, .int (Int32.ofInt x))] [] _ 0 0
  have F : Fm [] [11, 12, 13, 14] s s := fm_rf _ _ s
  have L16 : ∀ (n : Nat) (t : PS) (xv qq : Int), Bd t → Fm [] [11, 12, 13, 14] s t → ((0 ≤ xv ∧ xv ≤ 11) ∧ 0 ≤ qq ∧ qq ≤ 24 ∧ iC t 12 (xv).toNat ≤ 50 * qq ∧ iC t 13 (xv).toNat ≤ 50 * qq) → (24 - qq : Int).toNat < n → (∀ (t' : PS) (qq' : Int), Bd t' → Fm [] [11, 12, 13, 14] s t' → ((0 ≤ xv ∧ xv ≤ 11) ∧ 0 ≤ qq' ∧ qq' ≤ 24 ∧ iC t' 12 (xv).toNat ≤ 50 * qq' ∧ iC t' 13 (xv).toNat ≤ 50 * qq') → WS k 77 [(0, .ref (A 3)), (1, .int (Int32.ofInt xv)), (2, .int (Int32.ofInt qq'))] [] (Wd A dT t') 0 0) → WS k 16 [(0, .ref (A 3)), (1, .int (Int32.ofInt xv)), (2, .int (Int32.ofInt qq))] [] (Wd A dT t) 0 0 := by
    intro n
    induction n with
    | zero =>
      intro t xv qq I F hi hm kx
      exact absurd hm (Nat.not_lt_zero _)
    | succ n ih =>
      intro t xv qq I F hi hm kx
      refine z_load_n X (x := qq) (show cdA 116 16 = some (.iload_n 2, 1, 0, 0, 0) from rfl) (List.Mem.tail _ (List.Mem.tail _ (List.Mem.head _))) ?_
      refine z_bipush X (show cdA 116 17 = some (.bipush 24, 2, 0, 0, 24) from rfl) ?_
      refine z_icmp_ge X (t := 77) (show cdA 116 19 = some (.if_icmp .ge 58, 3, 3, 0, 0) from rfl) (by decide) ⟨by first | exact oq_fa4e5087 hi.2.1 | omega, by first | exact oq_5bcd337f hi.2.2.1 | omega⟩ (by decide) (fun g1001 => ?_) (fun g1001 => ?_)
      ·
        refine WS_lv (lv := [(0, .ref (A 3)), (1, .int (Int32.ofInt xv)), (2, .int (Int32.ofInt qq))]) (List.forall_mem_cons.mpr ⟨(List.Mem.head _), (List.forall_mem_cons.mpr ⟨(List.Mem.tail _ (List.Mem.head _)), (List.forall_mem_cons.mpr ⟨(List.Mem.tail _ (List.Mem.tail _ (List.Mem.head _))), (fun q h => absurd h List.not_mem_nil)⟩)⟩)⟩) ?_
        exact kx _ qq I F (by first | exact ⟨And.intro (hi.1.1) (hi.1.2), hi.2.1, hi.2.2.1, hi.2.2.2.1, hi.2.2.2.2⟩ | omega)
      ·
        refine z_aload_n X (x := A 3) (show cdA 116 22 = some (.aload_n 0, 1, 0, 0, 0) from rfl) (List.Mem.head _) ?_
        refine z_load_n X (x := xv) (show cdA 116 23 = some (.iload_n 1, 1, 0, 0, 0) from rfl) (List.Mem.tail _ (List.Mem.head _)) ?_
        refine z_load_n X (x := qq) (show cdA 116 24 = some (.iload_n 2, 1, 0, 0, 0) from rfl) (List.Mem.tail _ (List.Mem.tail _ (List.Mem.head _))) ?_
        refine z_callV X 3 (rm := rmN 117) (As := [.int (Int32.ofInt xv), .int (Int32.ofInt qq)]) (st := []) (show cdA 116 25 = some (.invokevirtual 143, 3, 117, 0, 0) from rfl) rfl (by decide) rfl (by rw [E.1, E.2.1, E.2.2.1]; exact c9_mostIn_3 G I (by first | exact ⟨hi.1.1, hi.1.2⟩ | omega) (by first | exact ⟨hi.2.1, oq_c69fe266 g1001⟩ | omega)) ⟨by rw [E.2.2.2]; exact (show (rmN 117).frames + 1 ≤ (rmN 116).frames by decide), by rw [E.2.2.2]; exact (show 8 + (mNL (miB 117) + 11) + (rmN 117).locals ≤ (rmN 116).locals by decide), by rw [E.2.2.2]; exact (show 0 + (rmN 117).cells ≤ (rmN 116).cells by decide), by rw [E.2.2.2]; exact (show 0 + (rmN 117).slots ≤ (rmN 116).slots by decide)⟩ (Nat.le_of_ble_eq_true rfl) (fun vv s1002 hq => ?_) (fun ee s1002 hq => ?_)
        rotate_left
        · obtain ⟨Is1002, Fs1002, e1003, hv, hrs1002, hps1002⟩ := hq; cases hv
        obtain ⟨Is1002, Fs1002, e1003, hv, hrs1002, hps1002⟩ := hq
        cases hv
        have Gs1002 := fm_ts F Fs1002 (by decide) (by decide)
        have cw1004 : iC s1002 12 (xv).toNat = iC t 12 (xv).toNat := fm_c Fs1002 (by decide)
        have cw1005 : iC s1002 13 (xv).toNat = iC t 13 (xv).toNat := fm_c Fs1002 (by decide)
        show WS k 28 [(0, .ref (A 3)), (1, .int (Int32.ofInt xv)), (2, .int (Int32.ofInt qq))] [.int (Int32.ofInt e1003)] (Wd A dT s1002) 0 0
        refine z_store_n X (lv' := [(3, .int (Int32.ofInt e1003)), (0, .ref (A 3)), (1, .int (Int32.ofInt xv)), (2, .int (Int32.ofInt qq))]) (show cdA 116 28 = some (.istore_n 3, 1, 0, 0, 0) from rfl) (by decide) (fun _ h => h) ?_
        refine z_aload_n X (x := A 3) (show cdA 116 29 = some (.aload_n 0, 1, 0, 0, 0) from rfl) (List.Mem.tail _ (List.Mem.head _)) ?_
        refine s_getR X 3 (show cdA 116 30 = some (.getfield 43, 3, 9, 12, 0) from rfl) (by decide) rfl rfl ?_
        refine z_load_n X (x := qq) (show cdA 116 33 = some (.iload_n 2, 1, 0, 0, 0) from rfl) (List.Mem.tail _ (List.Mem.tail _ (List.Mem.tail _ (List.Mem.head _)))) ?_
        refine z_bipush X (show cdA 116 34 = some (.bipush 12, 2, 0, 0, 12) from rfl) ?_
        refine z_mul X (show cdA 116 36 = some (.imul, 1, 0, 0, 0) from rfl) ?_
        refine z_load_n X (x := xv) (show cdA 116 37 = some (.iload_n 1, 1, 0, 0, 0) from rfl) (List.Mem.tail _ (List.Mem.tail _ (List.Mem.head _))) ?_
        refine z_add X (show cdA 116 38 = some (.iadd, 1, 0, 0, 0) from rfl) ?_
        refine z_load_n X (x := e1003) (show cdA 116 39 = some (.iload_n 3, 1, 0, 0, 0) from rfl) (List.Mem.head _) ?_
        refine z_ast X 14 (show cdA 116 40 = some (.iastore, 1, 0, 0, 0) from rfl) (by decide) rfl (by first | exact oq_1d1618ee hi.1.1 hi.2.1 | omega) (show ((qq * 12) + xv) < 288 by first | exact oq_c880d1ce hi.1.2 g1001 | omega) (by decide) ?_
        obtain ⟨s1006, hs1006⟩ : ∃ x0, x0 = uC s1002 11 (((qq * 12) + xv)).toNat (Int32.ofInt e1003) := ⟨_, rfl⟩
        rw [← hs1006]
        have Is1006 : Bd s1006 := by rw [hs1006]; exact bd_C Is1002 (show (0 : Int) ≤ e1003 ∧ e1003 ≤ 50 by first | exact ⟨hps1002.1, hps1002.2⟩ | omega) hrs1002
        have Fs1006 := fm_C (i := (((qq * 12) + xv)).toNat) (x := Int32.ofInt e1003) Gs1002 (show 11 ∈ _ by decide)
        rw [← hs1006] at Fs1006
        have cw1007 : iC s1006 12 (xv).toNat = iC s1002 12 (xv).toNat := by rw [hs1006]; exact iC_a (by omega)
        have cw1008 : iC s1006 13 (xv).toNat = iC s1002 13 (xv).toNat := by rw [hs1006]; exact iC_a (by omega)
        refine z_aload_n X (x := A 3) (show cdA 116 41 = some (.aload_n 0, 1, 0, 0, 0) from rfl) (List.Mem.tail _ (List.Mem.head _)) ?_
        refine s_getR X 3 (show cdA 116 42 = some (.getfield 46, 3, 9, 13, 0) from rfl) (by decide) rfl rfl ?_
        refine z_load_n X (x := xv) (show cdA 116 45 = some (.iload_n 1, 1, 0, 0, 0) from rfl) (List.Mem.tail _ (List.Mem.tail _ (List.Mem.head _))) ?_
        refine w_dup2_11 X.1 (ax_d X (show cdA 116 46 = some (.dup2, 1, 0, 0, 0) from rfl)) rfl rfl ?_
        refine z_ald X 15 (show cdA 116 47 = some (.iaload, 1, 0, 0, 0) from rfl) (by decide) rfl (by first | exact hi.1.1 | omega) (show xv < 12 by first | exact oq_0ddfcfee hi.1.2 | omega) (by decide) ?_
        have b1009 : (0 : Int) ≤ iC s1006 12 (xv).toNat ∧ iC s1006 12 (xv).toNat ≤ 1200 := Is1006.2 12 _ (show (xv).toNat < 12 by first | exact oq_9c5fa447 hi.1.2 | omega)
        refine z_aload_n X (x := A 3) (show cdA 116 48 = some (.aload_n 0, 1, 0, 0, 0) from rfl) (List.Mem.tail _ (List.Mem.head _)) ?_
        refine s_getR X 3 (show cdA 116 49 = some (.getfield 34, 3, 9, 9, 0) from rfl) (by decide) rfl rfl ?_
        refine z_load_n X (x := xv) (show cdA 116 52 = some (.iload_n 1, 1, 0, 0, 0) from rfl) (List.Mem.tail _ (List.Mem.tail _ (List.Mem.head _))) ?_
        refine z_bipush X (show cdA 116 53 = some (.bipush 24, 2, 0, 0, 24) from rfl) ?_
        refine z_mul X (show cdA 116 55 = some (.imul, 1, 0, 0, 0) from rfl) ?_
        refine z_load_n X (x := qq) (show cdA 116 56 = some (.iload_n 2, 1, 0, 0, 0) from rfl) (List.Mem.tail _ (List.Mem.tail _ (List.Mem.tail _ (List.Mem.head _)))) ?_
        refine z_add X (show cdA 116 57 = some (.iadd, 1, 0, 0, 0) from rfl) ?_
        refine z_ald X 11 (show cdA 116 58 = some (.iaload, 1, 0, 0, 0) from rfl) (by decide) rfl (by first | exact oq_4071a75f hi.1.1 hi.2.1 | omega) (show ((xv * 24) + qq) < 288 by first | exact oq_86e8e22d hi.1.2 g1001 | omega) (by decide) ?_
        have b1010 : (0 : Int) ≤ iC s1006 8 (((xv * 24) + qq)).toNat ∧ iC s1006 8 (((xv * 24) + qq)).toNat ≤ 50 := Is1006.2 8 _ (show (((xv * 24) + qq)).toNat < 288 by first | exact oq_7d86e3d4 hi.1.2 g1001 | omega)
        refine z_add X (show cdA 116 59 = some (.iadd, 1, 0, 0, 0) from rfl) ?_
        refine z_ast X 15 (show cdA 116 60 = some (.iastore, 1, 0, 0, 0) from rfl) (by decide) rfl (by first | exact hi.1.1 | omega) (show xv < 12 by first | exact oq_0ddfcfee hi.1.2 | omega) (by decide) ?_
        obtain ⟨s1011, hs1011⟩ : ∃ x0, x0 = uC s1006 12 (xv).toNat (Int32.ofInt ((iC s1006 12 (xv).toNat) + (iC s1006 8 (((xv * 24) + qq)).toNat))) := ⟨_, rfl⟩
        rw [← hs1011]
        have Is1011 : Bd s1011 := by rw [hs1011]; exact bd_C Is1006 (show (0 : Int) ≤ ((iC s1006 12 (xv).toNat) + (iC s1006 8 (((xv * 24) + qq)).toNat)) ∧ ((iC s1006 12 (xv).toNat) + (iC s1006 8 (((xv * 24) + qq)).toNat)) ≤ 1200 by first | exact ⟨oq_d8d6a599 b1010.1 b1009.1, oq_22d4fe67 b1010.2 cw1007 cw1004 hi.2.2.2.1 g1001⟩ | omega) ⟨by first | exact oq_46831602 b1010.1 b1009.1 | omega, by first | exact oq_9e0d5d26 b1010.2 b1009.2 | omega⟩
        have Fs1011 := fm_C (i := (xv).toNat) (x := Int32.ofInt ((iC s1006 12 (xv).toNat) + (iC s1006 8 (((xv * 24) + qq)).toNat))) Fs1006 (show 12 ∈ _ by decide)
        rw [← hs1011] at Fs1011
        have vs1011 : iC s1011 12 (xv).toNat = ((iC s1006 12 (xv).toNat) + (iC s1006 8 (((xv * 24) + qq)).toNat)) := by rw [hs1011]; exact iC_u ⟨by first | exact oq_46831602 b1010.1 b1009.1 | omega, by first | exact oq_9e0d5d26 b1010.2 b1009.2 | omega⟩
        have cw1012 : iC s1011 13 (xv).toNat = iC s1006 13 (xv).toNat := by rw [hs1011]; exact iC_a (by omega)
        refine z_aload_n X (x := A 3) (show cdA 116 61 = some (.aload_n 0, 1, 0, 0, 0) from rfl) (List.Mem.tail _ (List.Mem.head _)) ?_
        refine s_getR X 3 (show cdA 116 62 = some (.getfield 49, 3, 9, 14, 0) from rfl) (by decide) rfl rfl ?_
        refine z_load_n X (x := xv) (show cdA 116 65 = some (.iload_n 1, 1, 0, 0, 0) from rfl) (List.Mem.tail _ (List.Mem.tail _ (List.Mem.head _))) ?_
        refine w_dup2_11 X.1 (ax_d X (show cdA 116 66 = some (.dup2, 1, 0, 0, 0) from rfl)) rfl rfl ?_
        refine z_ald X 16 (show cdA 116 67 = some (.iaload, 1, 0, 0, 0) from rfl) (by decide) rfl (by first | exact hi.1.1 | omega) (show xv < 12 by first | exact oq_0ddfcfee hi.1.2 | omega) (by decide) ?_
        have b1013 : (0 : Int) ≤ iC s1011 13 (xv).toNat ∧ iC s1011 13 (xv).toNat ≤ 1200 := Is1011.2 13 _ (show (xv).toNat < 12 by first | exact oq_9c5fa447 hi.1.2 | omega)
        refine z_load_n X (x := e1003) (show cdA 116 68 = some (.iload_n 3, 1, 0, 0, 0) from rfl) (List.Mem.head _) ?_
        refine z_add X (show cdA 116 69 = some (.iadd, 1, 0, 0, 0) from rfl) ?_
        refine z_ast X 16 (show cdA 116 70 = some (.iastore, 1, 0, 0, 0) from rfl) (by decide) rfl (by first | exact hi.1.1 | omega) (show xv < 12 by first | exact oq_0ddfcfee hi.1.2 | omega) (by decide) ?_
        obtain ⟨s1014, hs1014⟩ : ∃ x0, x0 = uC s1011 13 (xv).toNat (Int32.ofInt ((iC s1011 13 (xv).toNat) + e1003)) := ⟨_, rfl⟩
        rw [← hs1014]
        have Is1014 : Bd s1014 := by rw [hs1014]; exact bd_C Is1011 (show (0 : Int) ≤ ((iC s1011 13 (xv).toNat) + e1003) ∧ ((iC s1011 13 (xv).toNat) + e1003) ≤ 1200 by first | exact ⟨oq_d8d6a599 hps1002.1 b1013.1, oq_b519fb4a cw1012 cw1008 cw1005 hps1002.2 g1001 hi.2.2.2.2⟩ | omega) ⟨by first | exact oq_46831602 hps1002.1 b1013.1 | omega, by first | exact oq_9e0d5d26 hps1002.2 b1013.2 | omega⟩
        have Fs1014 := fm_C (i := (xv).toNat) (x := Int32.ofInt ((iC s1011 13 (xv).toNat) + e1003)) Fs1011 (show 13 ∈ _ by decide)
        rw [← hs1014] at Fs1014
        have vs1014 : iC s1014 13 (xv).toNat = ((iC s1011 13 (xv).toNat) + e1003) := by rw [hs1014]; exact iC_u ⟨by first | exact oq_46831602 hps1002.1 b1013.1 | omega, by first | exact oq_9e0d5d26 hps1002.2 b1013.2 | omega⟩
        have cw1015 : iC s1014 12 (xv).toNat = iC s1011 12 (xv).toNat := by rw [hs1014]; exact iC_a (by omega)
        refine z_inc X (x := qq) (lv' := [(2, .int (Int32.ofInt (qq + 1))), (3, .int (Int32.ofInt e1003)), (0, .ref (A 3)), (1, .int (Int32.ofInt xv))]) (show cdA 116 71 = some (.iinc 2 1, 3, 0, 0, 0) from rfl) (by decide) (List.Mem.tail _ (List.Mem.tail _ (List.Mem.tail _ (List.Mem.head _)))) (fun _ h => h) ?_
        refine z_goto X (t := 16) (show cdA 116 74 = some (.goto (-58), 3, 0, 0, 0) from rfl) (by decide) ?_
        refine WS_lv (lv := [(0, .ref (A 3)), (1, .int (Int32.ofInt xv)), (2, .int (Int32.ofInt (qq + 1)))]) (List.forall_mem_cons.mpr ⟨(List.Mem.tail _ (List.Mem.tail _ (List.Mem.head _))), (List.forall_mem_cons.mpr ⟨(List.Mem.tail _ (List.Mem.tail _ (List.Mem.tail _ (List.Mem.head _)))), (List.forall_mem_cons.mpr ⟨(List.Mem.head _), (fun q h => absurd h List.not_mem_nil)⟩)⟩)⟩) ?_
        exact ih _ xv (qq + 1) Is1014 Fs1014 (by first | exact ⟨And.intro (hi.1.1) (hi.1.2), oq_54f49eb5 hi.2.1, oq_cec7cb2e g1001, oq_e1e5b268 cw1015 vs1011 b1010.2 cw1007 cw1004 hi.2.2.2.1, oq_b1573aec vs1014 cw1012 cw1008 cw1005 hps1002.2 hi.2.2.2.2⟩ | omega) (by first | exact qk_me hm (by decide) (oq_ffa8317e g1001) | omega) kx
  have L79 : ∀ (n : Nat) (t : PS) (xv qq : Int), Bd t → Fm [] [11, 12, 13, 14] s t → (0 ≤ qq ∧ qq ≤ 24) → (24 - qq : Int).toNat < n → (∀ (t' : PS) (qq' : Int), Bd t' → Fm [] [11, 12, 13, 14] s t' → (0 ≤ qq' ∧ qq' ≤ 24) → WS k 102 [(0, .ref (A 3)), (1, .int (Int32.ofInt xv)), (2, .int (Int32.ofInt qq'))] [] (Wd A dT t') 0 0) → WS k 79 [(0, .ref (A 3)), (1, .int (Int32.ofInt xv)), (2, .int (Int32.ofInt qq))] [] (Wd A dT t) 0 0 := by
    intro n
    induction n with
    | zero =>
      intro t xv qq I F hi hm kx
      exact absurd hm (Nat.not_lt_zero _)
    | succ n ih =>
      intro t xv qq I F hi hm kx
      refine z_load_n X (x := qq) (show cdA 116 79 = some (.iload_n 2, 1, 0, 0, 0) from rfl) (List.Mem.tail _ (List.Mem.tail _ (List.Mem.head _))) ?_
      refine z_bipush X (show cdA 116 80 = some (.bipush 24, 2, 0, 0, 24) from rfl) ?_
      refine z_icmp_ge X (t := 102) (show cdA 116 82 = some (.if_icmp .ge 20, 3, 3, 0, 0) from rfl) (by decide) ⟨by first | exact oq_fa4e5087 hi.1 | omega, by first | exact oq_5bcd337f hi.2 | omega⟩ (by decide) (fun g2001 => ?_) (fun g2001 => ?_)
      ·
        refine WS_lv (lv := [(0, .ref (A 3)), (1, .int (Int32.ofInt xv)), (2, .int (Int32.ofInt qq))]) (List.forall_mem_cons.mpr ⟨(List.Mem.head _), (List.forall_mem_cons.mpr ⟨(List.Mem.tail _ (List.Mem.head _)), (List.forall_mem_cons.mpr ⟨(List.Mem.tail _ (List.Mem.tail _ (List.Mem.head _))), (fun q h => absurd h List.not_mem_nil)⟩)⟩)⟩) ?_
        exact kx _ qq I F (by first | exact ⟨hi.1, hi.2⟩ | omega)
      ·
        refine z_aload_n X (x := A 3) (show cdA 116 85 = some (.aload_n 0, 1, 0, 0, 0) from rfl) (List.Mem.head _) ?_
        refine s_getR X 3 (show cdA 116 86 = some (.getfield 52, 3, 9, 15, 0) from rfl) (by decide) rfl rfl ?_
        refine z_load_n X (x := qq) (show cdA 116 89 = some (.iload_n 2, 1, 0, 0, 0) from rfl) (List.Mem.tail _ (List.Mem.tail _ (List.Mem.head _))) ?_
        refine z_aload_n X (x := A 3) (show cdA 116 90 = some (.aload_n 0, 1, 0, 0, 0) from rfl) (List.Mem.head _) ?_
        refine z_load_n X (x := qq) (show cdA 116 91 = some (.iload_n 2, 1, 0, 0, 0) from rfl) (List.Mem.tail _ (List.Mem.tail _ (List.Mem.head _))) ?_
        refine z_callV X 3 (rm := rmN 118) (As := [.int (Int32.ofInt qq)]) (st := [.int (Int32.ofInt qq), .ref (A 17)]) (show cdA 116 92 = some (.invokevirtual 146, 3, 118, 0, 0) from rfl) rfl (by decide) rfl (by rw [E.1, E.2.1, E.2.2.1]; exact c9_twinOf_3 G I (by first | exact ⟨hi.1, oq_c69fe266 g2001⟩ | omega)) ⟨by rw [E.2.2.2]; exact (show (rmN 118).frames + 1 ≤ (rmN 116).frames by decide), by rw [E.2.2.2]; exact (show 8 + (mNL (miB 118) + 11) + (rmN 118).locals ≤ (rmN 116).locals by decide), by rw [E.2.2.2]; exact (show 0 + (rmN 118).cells ≤ (rmN 116).cells by decide), by rw [E.2.2.2]; exact (show 0 + (rmN 118).slots ≤ (rmN 116).slots by decide)⟩ (Nat.le_of_ble_eq_true rfl) (fun vv s2002 hq => ?_) (fun ee s2002 hq => ?_)
        rotate_left
        · obtain ⟨Is2002, Fs2002, e2003, hv, hrs2002, hps2002⟩ := hq; cases hv
        obtain ⟨Is2002, Fs2002, e2003, hv, hrs2002, hps2002⟩ := hq
        cases hv
        have Gs2002 := fm_ts F Fs2002 (by decide) (by decide)
        have cw2004 : iC s2002 12 (xv).toNat = iC t 12 (xv).toNat := fm_c Fs2002 (by decide)
        have cw2005 : iC s2002 13 (xv).toNat = iC t 13 (xv).toNat := fm_c Fs2002 (by decide)
        show WS k 95 [(0, .ref (A 3)), (1, .int (Int32.ofInt xv)), (2, .int (Int32.ofInt qq))] [.int (Int32.ofInt e2003), .int (Int32.ofInt qq), .ref (A 17)] (Wd A dT s2002) 0 0
        refine z_ast X 17 (show cdA 116 95 = some (.iastore, 1, 0, 0, 0) from rfl) (by decide) rfl (by first | exact hi.1 | omega) (show qq < 24 by first | exact g2001 | omega) (by decide) ?_
        obtain ⟨s2006, hs2006⟩ : ∃ x0, x0 = uC s2002 14 (qq).toNat (Int32.ofInt e2003) := ⟨_, rfl⟩
        rw [← hs2006]
        have Is2006 : Bd s2006 := by rw [hs2006]; exact bd_C Is2002 (show (0 : Int) ≤ e2003 ∧ e2003 ≤ 23 by first | exact ⟨hps2002.1, hps2002.2⟩ | omega) hrs2002
        have Fs2006 := fm_C (i := (qq).toNat) (x := Int32.ofInt e2003) Gs2002 (show 14 ∈ _ by decide)
        rw [← hs2006] at Fs2006
        have cw2007 : iC s2006 12 (xv).toNat = iC s2002 12 (xv).toNat := by rw [hs2006]; exact iC_a (by omega)
        have cw2008 : iC s2006 13 (xv).toNat = iC s2002 13 (xv).toNat := by rw [hs2006]; exact iC_a (by omega)
        refine z_inc X (x := qq) (lv' := [(2, .int (Int32.ofInt (qq + 1))), (0, .ref (A 3)), (1, .int (Int32.ofInt xv))]) (show cdA 116 96 = some (.iinc 2 1, 3, 0, 0, 0) from rfl) (by decide) (List.Mem.tail _ (List.Mem.tail _ (List.Mem.head _))) (fun _ h => h) ?_
        refine z_goto X (t := 79) (show cdA 116 99 = some (.goto (-20), 3, 0, 0, 0) from rfl) (by decide) ?_
        refine WS_lv (lv := [(0, .ref (A 3)), (1, .int (Int32.ofInt xv)), (2, .int (Int32.ofInt (qq + 1)))]) (List.forall_mem_cons.mpr ⟨(List.Mem.tail _ (List.Mem.head _)), (List.forall_mem_cons.mpr ⟨(List.Mem.tail _ (List.Mem.tail _ (List.Mem.head _))), (List.forall_mem_cons.mpr ⟨(List.Mem.head _), (fun q h => absurd h List.not_mem_nil)⟩)⟩)⟩) ?_
        exact ih _ xv (qq + 1) Is2006 Fs2006 (by first | exact ⟨oq_54f49eb5 hi.1, oq_cec7cb2e g2001⟩ | omega) (by first | exact qk_me hm (by decide) (oq_ffa8317e g2001) | omega) kx
  refine z_aload_n X (x := A 3) (show cdA 116 0 = some (.aload_n 0, 1, 0, 0, 0) from rfl) (List.Mem.head _) ?_
  refine s_getR X 3 (show cdA 116 1 = some (.getfield 46, 3, 9, 13, 0) from rfl) (by decide) rfl rfl ?_
  refine z_load_n X (x := x) (show cdA 116 4 = some (.iload_n 1, 1, 0, 0, 0) from rfl) (List.Mem.tail _ (List.Mem.head _)) ?_
  refine z_const X (show cdA 116 5 = some (.iconst 0, 1, 0, 0, 0) from rfl) ?_
  refine z_ast X 15 (show cdA 116 6 = some (.iastore, 1, 0, 0, 0) from rfl) (by decide) rfl (by first | exact p0.1 | omega) (show x < 12 by first | exact oq_0ddfcfee p0.2 | omega) (by decide) ?_
  obtain ⟨s1, hs1⟩ : ∃ x0, x0 = uC s 12 (x).toNat (Int32.ofInt 0) := ⟨_, rfl⟩
  rw [← hs1]
  have Is1 : Bd s1 := by rw [hs1]; exact bd_C I (show (0 : Int) ≤ 0 ∧ 0 ≤ 1200 by first | exact ⟨by decide, by decide⟩ | omega) (by decide)
  have Fs1 := fm_C (i := (x).toNat) (x := Int32.ofInt 0) F (show 12 ∈ _ by decide)
  rw [← hs1] at Fs1
  have vs1 : iC s1 12 (x).toNat = 0 := by rw [hs1]; exact iC_u (by decide)
  have cw2 : iC s1 13 (x).toNat = iC s 13 (x).toNat := by rw [hs1]; exact iC_a (by omega)
  refine z_aload_n X (x := A 3) (show cdA 116 7 = some (.aload_n 0, 1, 0, 0, 0) from rfl) (List.Mem.head _) ?_
  refine s_getR X 3 (show cdA 116 8 = some (.getfield 49, 3, 9, 14, 0) from rfl) (by decide) rfl rfl ?_
  refine z_load_n X (x := x) (show cdA 116 11 = some (.iload_n 1, 1, 0, 0, 0) from rfl) (List.Mem.tail _ (List.Mem.head _)) ?_
  refine z_const X (show cdA 116 12 = some (.iconst 0, 1, 0, 0, 0) from rfl) ?_
  refine z_ast X 16 (show cdA 116 13 = some (.iastore, 1, 0, 0, 0) from rfl) (by decide) rfl (by first | exact p0.1 | omega) (show x < 12 by first | exact oq_0ddfcfee p0.2 | omega) (by decide) ?_
  obtain ⟨s3, hs3⟩ : ∃ x0, x0 = uC s1 13 (x).toNat (Int32.ofInt 0) := ⟨_, rfl⟩
  rw [← hs3]
  have Is3 : Bd s3 := by rw [hs3]; exact bd_C Is1 (show (0 : Int) ≤ 0 ∧ 0 ≤ 1200 by first | exact ⟨by decide, by decide⟩ | omega) (by decide)
  have Fs3 := fm_C (i := (x).toNat) (x := Int32.ofInt 0) Fs1 (show 13 ∈ _ by decide)
  rw [← hs3] at Fs3
  have vs3 : iC s3 13 (x).toNat = 0 := by rw [hs3]; exact iC_u (by decide)
  have cw4 : iC s3 12 (x).toNat = iC s1 12 (x).toNat := by rw [hs3]; exact iC_a (by omega)
  refine z_const X (show cdA 116 14 = some (.iconst 0, 1, 0, 0, 0) from rfl) ?_
  refine z_store_n X (lv' := [(2, .int (Int32.ofInt 0)), (0, .ref (A 3)), (1, .int (Int32.ofInt x))]) (show cdA 116 15 = some (.istore_n 2, 1, 0, 0, 0) from rfl) (by decide) (fun _ h => h) ?_
  refine WS_lv (lv := [(0, .ref (A 3)), (1, .int (Int32.ofInt x)), (2, .int (Int32.ofInt 0))]) (List.forall_mem_cons.mpr ⟨(List.Mem.tail _ (List.Mem.head _)), (List.forall_mem_cons.mpr ⟨(List.Mem.tail _ (List.Mem.tail _ (List.Mem.head _))), (List.forall_mem_cons.mpr ⟨(List.Mem.head _), (fun q h => absurd h List.not_mem_nil)⟩)⟩)⟩) ?_
  refine L16 ((24 - 0 : Int).toNat + 1) s3 x 0 Is3 Fs3 (by first | exact ⟨And.intro (p0.1) (p0.2), by decide, by decide, oq_b7d23363 cw4 vs1, oq_d4917756 vs3⟩ | omega) (Nat.lt_succ_self _) ?_
  intro s5 x6 Is5 Fs5 hs5
  refine z_const X (show cdA 116 77 = some (.iconst 0, 1, 0, 0, 0) from rfl) ?_
  refine z_store_n X (lv' := [(2, .int (Int32.ofInt 0)), (0, .ref (A 3)), (1, .int (Int32.ofInt x))]) (show cdA 116 78 = some (.istore_n 2, 1, 0, 0, 0) from rfl) (by decide) (fun _ h => h) ?_
  refine WS_lv (lv := [(0, .ref (A 3)), (1, .int (Int32.ofInt x)), (2, .int (Int32.ofInt 0))]) (List.forall_mem_cons.mpr ⟨(List.Mem.tail _ (List.Mem.head _)), (List.forall_mem_cons.mpr ⟨(List.Mem.tail _ (List.Mem.tail _ (List.Mem.head _))), (List.forall_mem_cons.mpr ⟨(List.Mem.head _), (fun q h => absurd h List.not_mem_nil)⟩)⟩)⟩) ?_
  refine L79 ((24 - 0 : Int).toNat + 1) s5 x 0 Is5 Fs5 (by first | exact ⟨by decide, by decide⟩ | omega) (Nat.lt_succ_self _) ?_
  intro s7 x8 Is7 Fs7 hs7
  exact w_vret X.1 q hRt (ax_d X (show cdA 116 102 = some (.return_, 1, 0, 0, 0) from rfl)) (Nat.zero_le _) (Nat.zero_le _) ⟨_, rfl, Is7, Fs7, rfl, trivial⟩
set_option maxRecDepth 4000 in
theorem c9_setCounts_3 (G : GX l s0 D tys a0 dT) (I : Bd s) {x y z w : Int} (p0 : 0 ≤ x ∧ x ≤ 11) (p1 : 0 ≤ y ∧ y ≤ 23) (p2 : 0 ≤ z ∧ z ≤ 23) (p3 : 0 ≤ w ∧ w ≤ 50) : CT l s0 D A dT 114 (rmN 114) [.ref (A 3), .int (Int32.ofInt x), .int (Int32.ofInt y), .int (Int32.ofInt z), .int (Int32.ofInt w)] s (fun o t => Bd t ∧ Fm [] [8, 11, 12, 13, 14] s t ∧ o = .inl none ∧ (True)) := by
  refine ct_ofX G (by decide) (Nat.le_of_ble_eq_true rfl) (fun k X E ET hRt hXt q => ?_)
  show WS k 0 [(0, .ref (A 3)), (1, .int (Int32.ofInt x)), (2, .int (Int32.ofInt y)), (3, .int (Int32.ofInt z)), (4, .int (Int32.ofInt w))] [] _ 0 0
  have F : Fm [] [8, 11, 12, 13, 14] s s := fm_rf _ _ s
  have L3 : ∀ (n : Nat) (t : PS) (xv zv wv qq : Int), Bd t → Fm [] [8, 11, 12, 13, 14] s t → ((0 ≤ xv ∧ xv ≤ 11) ∧ (0 ≤ zv ∧ zv ≤ 23) ∧ (0 ≤ wv ∧ wv ≤ 50) ∧ 0 ≤ qq ∧ qq ≤ 24) → (24 - qq : Int).toNat < n → (∀ (t' : PS) (qq' : Int), Bd t' → Fm [] [8, 11, 12, 13, 14] s t' → ((0 ≤ xv ∧ xv ≤ 11) ∧ (0 ≤ zv ∧ zv ≤ 23) ∧ (0 ≤ wv ∧ wv ≤ 50) ∧ 0 ≤ qq' ∧ qq' ≤ 24) → WS k 29 [(0, .ref (A 3)), (1, .int (Int32.ofInt xv)), (3, .int (Int32.ofInt zv)), (4, .int (Int32.ofInt wv)), (5, .int (Int32.ofInt qq'))] [] (Wd A dT t') 0 0) → WS k 3 [(0, .ref (A 3)), (1, .int (Int32.ofInt xv)), (3, .int (Int32.ofInt zv)), (4, .int (Int32.ofInt wv)), (5, .int (Int32.ofInt qq))] [] (Wd A dT t) 0 0 := by
    intro n
    induction n with
    | zero =>
      intro t xv zv wv qq I F hi hm kx
      exact absurd hm (Nat.not_lt_zero _)
    | succ n ih =>
      intro t xv zv wv qq I F hi hm kx
      refine z_load X (x := qq) (show cdA 114 3 = some (.iload 5, 2, 0, 0, 0) from rfl) (List.Mem.tail _ (List.Mem.tail _ (List.Mem.tail _ (List.Mem.tail _ (List.Mem.head _))))) ?_
      refine z_load_n X (x := zv) (show cdA 114 5 = some (.iload_n 3, 1, 0, 0, 0) from rfl) (List.Mem.tail _ (List.Mem.tail _ (List.Mem.head _))) ?_
      refine z_icmp_gt X (t := 29) (show cdA 114 6 = some (.if_icmp .gt 23, 3, 4, 0, 0) from rfl) (by decide) ⟨by first | exact oq_fa4e5087 hi.2.2.2.1 | omega, by first | exact oq_5bcd337f hi.2.2.2.2 | omega⟩ ⟨by first | exact oq_fa4e5087 hi.2.1.1 | omega, by first | exact oq_1a42ef34 hi.2.1.2 | omega⟩ (fun g1001 => ?_) (fun g1001 => ?_)
      ·
        refine WS_lv (lv := [(0, .ref (A 3)), (1, .int (Int32.ofInt xv)), (3, .int (Int32.ofInt zv)), (4, .int (Int32.ofInt wv)), (5, .int (Int32.ofInt qq))]) (List.forall_mem_cons.mpr ⟨(List.Mem.head _), (List.forall_mem_cons.mpr ⟨(List.Mem.tail _ (List.Mem.head _)), (List.forall_mem_cons.mpr ⟨(List.Mem.tail _ (List.Mem.tail _ (List.Mem.head _))), (List.forall_mem_cons.mpr ⟨(List.Mem.tail _ (List.Mem.tail _ (List.Mem.tail _ (List.Mem.head _)))), (List.forall_mem_cons.mpr ⟨(List.Mem.tail _ (List.Mem.tail _ (List.Mem.tail _ (List.Mem.tail _ (List.Mem.head _))))), (fun q h => absurd h List.not_mem_nil)⟩)⟩)⟩)⟩)⟩) ?_
        exact kx _ qq I F (by first | exact ⟨And.intro (hi.1.1) (hi.1.2), And.intro (hi.2.1.1) (hi.2.1.2), And.intro (hi.2.2.1.1) (hi.2.2.1.2), hi.2.2.2.1, hi.2.2.2.2⟩ | omega)
      ·
        refine z_aload_n X (x := A 3) (show cdA 114 9 = some (.aload_n 0, 1, 0, 0, 0) from rfl) (List.Mem.head _) ?_
        refine s_getR X 3 (show cdA 114 10 = some (.getfield 34, 3, 9, 9, 0) from rfl) (by decide) rfl rfl ?_
        refine z_load_n X (x := xv) (show cdA 114 13 = some (.iload_n 1, 1, 0, 0, 0) from rfl) (List.Mem.tail _ (List.Mem.head _)) ?_
        refine z_bipush X (show cdA 114 14 = some (.bipush 24, 2, 0, 0, 24) from rfl) ?_
        refine z_mul X (show cdA 114 16 = some (.imul, 1, 0, 0, 0) from rfl) ?_
        refine z_load X (x := qq) (show cdA 114 17 = some (.iload 5, 2, 0, 0, 0) from rfl) (List.Mem.tail _ (List.Mem.tail _ (List.Mem.tail _ (List.Mem.tail _ (List.Mem.head _))))) ?_
        refine z_add X (show cdA 114 19 = some (.iadd, 1, 0, 0, 0) from rfl) ?_
        refine z_load X (x := wv) (show cdA 114 20 = some (.iload 4, 2, 0, 0, 0) from rfl) (List.Mem.tail _ (List.Mem.tail _ (List.Mem.tail _ (List.Mem.head _)))) ?_
        refine z_ast X 11 (show cdA 114 22 = some (.iastore, 1, 0, 0, 0) from rfl) (by decide) rfl (by first | exact oq_4071a75f hi.1.1 hi.2.2.2.1 | omega) (show ((xv * 24) + qq) < 288 by first | exact oq_df38adfb hi.1.2 g1001 hi.2.1.2 | omega) (by decide) ?_
        obtain ⟨s1002, hs1002⟩ : ∃ x0, x0 = uC t 8 (((xv * 24) + qq)).toNat (Int32.ofInt wv) := ⟨_, rfl⟩
        rw [← hs1002]
        have Is1002 : Bd s1002 := by rw [hs1002]; exact bd_C I (show (0 : Int) ≤ wv ∧ wv ≤ 50 by first | exact ⟨hi.2.2.1.1, hi.2.2.1.2⟩ | omega) ⟨by first | exact oq_fa4e5087 hi.2.2.1.1 | omega, by first | exact oq_cbe526b3 hi.2.2.1.2 | omega⟩
        have Fs1002 := fm_C (i := (((xv * 24) + qq)).toNat) (x := Int32.ofInt wv) F (show 8 ∈ _ by decide)
        rw [← hs1002] at Fs1002
        refine z_inc X (x := qq) (lv' := [(5, .int (Int32.ofInt (qq + 1))), (0, .ref (A 3)), (1, .int (Int32.ofInt xv)), (3, .int (Int32.ofInt zv)), (4, .int (Int32.ofInt wv))]) (show cdA 114 23 = some (.iinc 5 1, 3, 0, 0, 0) from rfl) (by decide) (List.Mem.tail _ (List.Mem.tail _ (List.Mem.tail _ (List.Mem.tail _ (List.Mem.head _))))) (fun _ h => h) ?_
        refine z_goto X (t := 3) (show cdA 114 26 = some (.goto (-23), 3, 0, 0, 0) from rfl) (by decide) ?_
        refine WS_lv (lv := [(0, .ref (A 3)), (1, .int (Int32.ofInt xv)), (3, .int (Int32.ofInt zv)), (4, .int (Int32.ofInt wv)), (5, .int (Int32.ofInt (qq + 1)))]) (List.forall_mem_cons.mpr ⟨(List.Mem.tail _ (List.Mem.head _)), (List.forall_mem_cons.mpr ⟨(List.Mem.tail _ (List.Mem.tail _ (List.Mem.head _))), (List.forall_mem_cons.mpr ⟨(List.Mem.tail _ (List.Mem.tail _ (List.Mem.tail _ (List.Mem.head _)))), (List.forall_mem_cons.mpr ⟨(List.Mem.tail _ (List.Mem.tail _ (List.Mem.tail _ (List.Mem.tail _ (List.Mem.head _))))), (List.forall_mem_cons.mpr ⟨(List.Mem.head _), (fun q h => absurd h List.not_mem_nil)⟩)⟩)⟩)⟩)⟩) ?_
        exact ih _ xv zv wv (qq + 1) Is1002 Fs1002 (by first | exact ⟨And.intro (hi.1.1) (hi.1.2), And.intro (hi.2.1.1) (hi.2.1.2), And.intro (hi.2.2.1.1) (hi.2.2.1.2), oq_54f49eb5 hi.2.2.2.1, oq_3f5436dc g1001 hi.2.1.2⟩ | omega) (by first | exact qk_me hm (by decide) (oq_416f5e90 g1001 hi.2.1.2) | omega) kx
  refine z_load_n X (x := y) (show cdA 114 0 = some (.iload_n 2, 1, 0, 0, 0) from rfl) (List.Mem.tail _ (List.Mem.tail _ (List.Mem.head _))) ?_
  refine z_store X (lv' := [(5, .int (Int32.ofInt y)), (0, .ref (A 3)), (1, .int (Int32.ofInt x)), (2, .int (Int32.ofInt y)), (3, .int (Int32.ofInt z)), (4, .int (Int32.ofInt w))]) (show cdA 114 1 = some (.istore 5, 2, 0, 0, 0) from rfl) (by decide) (fun _ h => h) ?_
  refine WS_lv (lv := [(0, .ref (A 3)), (1, .int (Int32.ofInt x)), (3, .int (Int32.ofInt z)), (4, .int (Int32.ofInt w)), (5, .int (Int32.ofInt y))]) (List.forall_mem_cons.mpr ⟨(List.Mem.tail _ (List.Mem.head _)), (List.forall_mem_cons.mpr ⟨(List.Mem.tail _ (List.Mem.tail _ (List.Mem.head _))), (List.forall_mem_cons.mpr ⟨(List.Mem.tail _ (List.Mem.tail _ (List.Mem.tail _ (List.Mem.tail _ (List.Mem.head _))))), (List.forall_mem_cons.mpr ⟨(List.Mem.tail _ (List.Mem.tail _ (List.Mem.tail _ (List.Mem.tail _ (List.Mem.tail _ (List.Mem.head _)))))), (List.forall_mem_cons.mpr ⟨(List.Mem.head _), (fun q h => absurd h List.not_mem_nil)⟩)⟩)⟩)⟩)⟩) ?_
  refine L3 ((24 - y : Int).toNat + 1) s x z w y I F (by first | exact ⟨And.intro (p0.1) (p0.2), And.intro (p2.1) (p2.2), And.intro (p3.1) (p3.2), p1.1, oq_2fca5ea6 p1.2⟩ | omega) (Nat.lt_succ_self _) ?_
  intro s1 x2 Is1 Fs1 hs1
  refine z_aload_n X (x := A 3) (show cdA 114 29 = some (.aload_n 0, 1, 0, 0, 0) from rfl) (List.Mem.head _) ?_
  refine z_load_n X (x := x) (show cdA 114 30 = some (.iload_n 1, 1, 0, 0, 0) from rfl) (List.Mem.tail _ (List.Mem.head _)) ?_
  refine z_callV X 3 (rm := rmN 116) (As := [.int (Int32.ofInt x)]) (st := []) (show cdA 114 31 = some (.invokevirtual 140, 3, 116, 0, 0) from rfl) rfl (by decide) rfl (by rw [E.1, E.2.1, E.2.2.1]; exact c9_retell_3 G Is1 (by first | exact ⟨hs1.1.1, hs1.1.2⟩ | omega)) ⟨by rw [E.2.2.2]; exact (show (rmN 116).frames + 1 ≤ (rmN 114).frames by decide), by rw [E.2.2.2]; exact (show 8 + (mNL (miB 116) + 11) + (rmN 116).locals ≤ (rmN 114).locals by decide), by rw [E.2.2.2]; exact (show 0 + (rmN 116).cells ≤ (rmN 114).cells by decide), by rw [E.2.2.2]; exact (show 0 + (rmN 116).slots ≤ (rmN 114).slots by decide)⟩ (Nat.le_of_ble_eq_true rfl) (fun vv s3 hq => ?_) (fun ee s3 hq => ?_)
  rotate_left
  · obtain ⟨Is3, Fs3, hv, hps3⟩ := hq; cases hv
  obtain ⟨Is3, Fs3, hv, hps3⟩ := hq
  cases hv
  have Gs3 := fm_ts Fs1 Fs3 (by decide) (by decide)
  show WS k 34 [(0, .ref (A 3)), (1, .int (Int32.ofInt x)), (3, .int (Int32.ofInt z)), (4, .int (Int32.ofInt w)), (5, .int (Int32.ofInt x2))] [] (Wd A dT s3) 0 0
  exact w_vret X.1 q hRt (ax_d X (show cdA 114 34 = some (.return_, 1, 0, 0, 0) from rfl)) (Nat.zero_le _) (Nat.zero_le _) ⟨_, rfl, Is3, Gs3, rfl, trivial⟩
set_option maxRecDepth 4000 in
theorem c9_setSpan_3 (G : GX l s0 D tys a0 dT) (I : Bd s) {x y z : Int} (p0 : 0 ≤ x ∧ x ≤ 11) (p1 : 0 ≤ y ∧ y ≤ 2) (p2 : 0 ≤ z ∧ z ≤ 2) : CT l s0 D A dT 115 (rmN 115) [.ref (A 3), .int (Int32.ofInt x), .int (Int32.ofInt y), .int (Int32.ofInt z)] s (fun o t => Bd t ∧ Fm [] [9, 10, 11, 12, 13, 14] s t ∧ o = .inl none ∧ (True)) := by
  refine ct_ofX G (by decide) (Nat.le_of_ble_eq_true rfl) (fun k X E ET hRt hXt q => ?_)
  show WS k 0 [(0, .ref (A 3)), (1, .int (Int32.ofInt x)), (2, .int (Int32.ofInt y)), (3, .int (Int32.ofInt z))] [] _ 0 0
  have F : Fm [] [9, 10, 11, 12, 13, 14] s s := fm_rf _ _ s
  refine z_aload_n X (x := A 3) (show cdA 115 0 = some (.aload_n 0, 1, 0, 0, 0) from rfl) (List.Mem.head _) ?_
  refine s_getR X 3 (show cdA 115 1 = some (.getfield 37, 3, 9, 10, 0) from rfl) (by decide) rfl rfl ?_
  refine z_load_n X (x := x) (show cdA 115 4 = some (.iload_n 1, 1, 0, 0, 0) from rfl) (List.Mem.tail _ (List.Mem.head _)) ?_
  refine z_load_n X (x := y) (show cdA 115 5 = some (.iload_n 2, 1, 0, 0, 0) from rfl) (List.Mem.tail _ (List.Mem.tail _ (List.Mem.head _))) ?_
  refine z_ast X 12 (show cdA 115 6 = some (.iastore, 1, 0, 0, 0) from rfl) (by decide) rfl (by first | exact p0.1 | omega) (show x < 12 by first | exact oq_0ddfcfee p0.2 | omega) (by decide) ?_
  obtain ⟨s1, hs1⟩ : ∃ x0, x0 = uC s 9 (x).toNat (Int32.ofInt y) := ⟨_, rfl⟩
  rw [← hs1]
  have Is1 : Bd s1 := by rw [hs1]; exact bd_C I (show (0 : Int) ≤ y ∧ y ≤ 2 by first | exact ⟨p1.1, p1.2⟩ | omega) ⟨by first | exact oq_fa4e5087 p1.1 | omega, by first | exact oq_861e1648 p1.2 | omega⟩
  have Fs1 := fm_C (i := (x).toNat) (x := Int32.ofInt y) F (show 9 ∈ _ by decide)
  rw [← hs1] at Fs1
  refine z_aload_n X (x := A 3) (show cdA 115 7 = some (.aload_n 0, 1, 0, 0, 0) from rfl) (List.Mem.head _) ?_
  refine s_getR X 3 (show cdA 115 8 = some (.getfield 40, 3, 9, 11, 0) from rfl) (by decide) rfl rfl ?_
  refine z_load_n X (x := x) (show cdA 115 11 = some (.iload_n 1, 1, 0, 0, 0) from rfl) (List.Mem.tail _ (List.Mem.head _)) ?_
  refine z_load_n X (x := z) (show cdA 115 12 = some (.iload_n 3, 1, 0, 0, 0) from rfl) (List.Mem.tail _ (List.Mem.tail _ (List.Mem.tail _ (List.Mem.head _)))) ?_
  refine z_ast X 13 (show cdA 115 13 = some (.iastore, 1, 0, 0, 0) from rfl) (by decide) rfl (by first | exact p0.1 | omega) (show x < 12 by first | exact oq_0ddfcfee p0.2 | omega) (by decide) ?_
  obtain ⟨s2, hs2⟩ : ∃ x0, x0 = uC s1 10 (x).toNat (Int32.ofInt z) := ⟨_, rfl⟩
  rw [← hs2]
  have Is2 : Bd s2 := by rw [hs2]; exact bd_C Is1 (show (0 : Int) ≤ z ∧ z ≤ 2 by first | exact ⟨p2.1, p2.2⟩ | omega) ⟨by first | exact oq_fa4e5087 p2.1 | omega, by first | exact oq_861e1648 p2.2 | omega⟩
  have Fs2 := fm_C (i := (x).toNat) (x := Int32.ofInt z) Fs1 (show 10 ∈ _ by decide)
  rw [← hs2] at Fs2
  refine z_aload_n X (x := A 3) (show cdA 115 14 = some (.aload_n 0, 1, 0, 0, 0) from rfl) (List.Mem.head _) ?_
  refine z_load_n X (x := x) (show cdA 115 15 = some (.iload_n 1, 1, 0, 0, 0) from rfl) (List.Mem.tail _ (List.Mem.head _)) ?_
  refine z_callV X 3 (rm := rmN 116) (As := [.int (Int32.ofInt x)]) (st := []) (show cdA 115 16 = some (.invokevirtual 140, 3, 116, 0, 0) from rfl) rfl (by decide) rfl (by rw [E.1, E.2.1, E.2.2.1]; exact c9_retell_3 G Is2 (by first | exact ⟨p0.1, p0.2⟩ | omega)) ⟨by rw [E.2.2.2]; exact (show (rmN 116).frames + 1 ≤ (rmN 115).frames by decide), by rw [E.2.2.2]; exact (show 8 + (mNL (miB 116) + 11) + (rmN 116).locals ≤ (rmN 115).locals by decide), by rw [E.2.2.2]; exact (show 0 + (rmN 116).cells ≤ (rmN 115).cells by decide), by rw [E.2.2.2]; exact (show 0 + (rmN 116).slots ≤ (rmN 115).slots by decide)⟩ (Nat.le_of_ble_eq_true rfl) (fun vv s3 hq => ?_) (fun ee s3 hq => ?_)
  rotate_left
  · obtain ⟨Is3, Fs3, hv, hps3⟩ := hq; cases hv
  obtain ⟨Is3, Fs3, hv, hps3⟩ := hq
  cases hv
  have Gs3 := fm_ts Fs2 Fs3 (by decide) (by decide)
  show WS k 19 [(0, .ref (A 3)), (1, .int (Int32.ofInt x)), (2, .int (Int32.ofInt y)), (3, .int (Int32.ofInt z))] [] (Wd A dT s3) 0 0
  exact w_vret X.1 q hRt (ax_d X (show cdA 115 19 = some (.return_, 1, 0, 0, 0) from rfl)) (Nat.zero_le _) (Nat.zero_le _) ⟨_, rfl, Is3, Gs3, rfl, trivial⟩
set_option maxRecDepth 4000 in
theorem c9_comesTo_3 (G : GX l s0 D tys a0 dT) (I : Bd s) {x y : Int} (p0 : 0 ≤ x ∧ x ≤ 11) (p1 : 0 ≤ y ∧ y ≤ 127) : CT l s0 D A dT 123 (rmN 123) [.ref (A 3), .int (Int32.ofInt x), .int (Int32.ofInt y)] s (fun o t => Bd t ∧ Fm [] [] s t ∧ ∃ e, o = .inl (some (.int (Int32.ofInt e))) ∧ rng e ∧ (e = 0 ∨ e = 1)) := by
  refine ct_ofX G (by decide) (Nat.le_of_ble_eq_true rfl) (fun k X E ET hRt hXt q => ?_)
  show WS k 0 [(0, .ref (A 3)), (1, .int (Int32.ofInt x)), (2, .int (Int32.ofInt y))] [] _ 0 0
  have F : Fm [] [] s s := fm_rf _ _ s
  refine z_aload_n X (x := A 3) (show cdA 123 0 = some (.aload_n 0, 1, 0, 0, 0) from rfl) (List.Mem.head _) ?_
  refine s_getR X 3 (show cdA 123 1 = some (.getfield 18, 3, 9, 3, 0) from rfl) (by decide) rfl rfl ?_
  refine z_load_n X (x := x) (show cdA 123 4 = some (.iload_n 1, 1, 0, 0, 0) from rfl) (List.Mem.tail _ (List.Mem.head _)) ?_
  refine z_const X (show cdA 123 5 = some (.iconst 2, 1, 0, 0, 0) from rfl) ?_
  refine z_mul X (show cdA 123 6 = some (.imul, 1, 0, 0, 0) from rfl) ?_
  refine z_load_n X (x := y) (show cdA 123 7 = some (.iload_n 2, 1, 0, 0, 0) from rfl) (List.Mem.tail _ (List.Mem.tail _ (List.Mem.head _))) ?_
  refine z_bipush X (show cdA 123 8 = some (.bipush 64, 2, 0, 0, 64) from rfl) ?_
  refine z_quot X (show cdA 123 10 = some (.idiv, 1, 0, 0, 0) from rfl) (by first | exact p1.1 | omega) ⟨by first | exact oq_fa4e5087 p1.1 | omega, by first | exact oq_07d346ce p1.2 | omega⟩ (by decide) (by decide) ?_
  refine z_add X (show cdA 123 11 = some (.iadd, 1, 0, 0, 0) from rfl) ?_
  refine z_lald X 6 (show cdA 123 12 = some (.laload, 1, 0, 0, 0) from rfl) (by decide) rfl (by first | exact oq_c0bd8137 p1.1 p0.1 | omega) (show ((x * 2) + (y / 64)) < 24 by first | exact oq_c80b6473 p1.2 p0.2 | omega) (by decide) (fun j1 => ?_)
  refine z_load_n X (x := y) (show cdA 123 13 = some (.iload_n 2, 1, 0, 0, 0) from rfl) (List.Mem.tail _ (List.Mem.tail _ (List.Mem.head _))) ?_
  refine z_bipush X (show cdA 123 14 = some (.bipush 63, 2, 0, 0, 63) from rfl) ?_
  refine z_andm X (show cdA 123 16 = some (.iand, 1, 0, 0, 0) from rfl) (by decide) (by decide) (fun y2 hy2 gy2 => ?_)
  refine w_lushr X.1 (ax_d X (show cdA 123 17 = some (.lushr, 1, 0, 0, 0) from rfl)) ?_
  refine z_anyJ (fun j3 => ?_)
  refine w_lconst X.1 (ax_d X (show cdA 123 18 = some (.lconst 1, 1, 0, 0, 0) from rfl)) rfl ?_
  refine z_anyJ (fun j4 => ?_)
  refine w_land X.1 (ax_d X (show cdA 123 19 = some (.land, 1, 0, 0, 0) from rfl)) ?_
  refine z_anyJ (fun j5 => ?_)
  refine w_lconst X.1 (ax_d X (show cdA 123 20 = some (.lconst 0, 1, 0, 0, 0) from rfl)) rfl ?_
  refine z_anyJ (fun j6 => ?_)
  refine w_lcmp X.1 (ax_d X (show cdA 123 21 = some (.lcmp, 1, 0, 0, 0) from rfl)) ?_
  refine z_any (fun y7 hy7 => ?_)
  have N8 : ∀ e9 : Int, (((y7 = 0) ∧ e9 = 0) ∨ ((y7 ≠ 0) ∧ e9 = 1)) → WS k 30 [(0, .ref (A 3)), (1, .int (Int32.ofInt x)), (2, .int (Int32.ofInt y))] [.int (Int32.ofInt e9)] (Wd A dT s) 0 0 := by
    intro e9 he9
    have re9 : 0 ≤ e9 ∧ e9 ≤ 1 := by omega
    exact w_iret X.1 q hRt (nar_ret (by first | exact oq_31e518ae re9.2 re9.1 | omega)) (ax_d X (show cdA 123 30 = some (.ireturn, 1, 0, 0, 0) from rfl)) (Nat.zero_le _) (Nat.zero_le _) ⟨_, rfl, I, F, e9, rfl, ⟨by first | exact oq_fa4e5087 re9.1 | omega, by first | exact oq_22e1e6b0 re9.2 | omega⟩, by first | exact oq_31e518ae re9.2 re9.1 | omega⟩
  refine z_if_eq X (t := 29) (show cdA 123 22 = some (.ifCond .eq 7, 3, 0, 0, 0) from rfl) (by decide) hy7 (fun g10 => ?_) (fun g10 => ?_)
  ·
    refine z_const X (show cdA 123 29 = some (.iconst 0, 1, 0, 0, 0) from rfl) ?_
    exact N8 _ (Or.inl ⟨g10, rfl⟩)
  ·
    refine z_const X (show cdA 123 25 = some (.iconst 1, 1, 0, 0, 0) from rfl) ?_
    refine z_goto X (t := 30) (show cdA 123 26 = some (.goto 4, 3, 0, 0, 0) from rfl) (by decide) ?_
    exact N8 _ (Or.inr (⟨g10, rfl⟩))
set_option maxRecDepth 4000 in
theorem c9_countsAt_3 (G : GX l s0 D tys a0 dT) (I : Bd s) {x : Int} (p0 : 0 ≤ x ∧ x ≤ 127) : CT l s0 D A dT 121 (rmN 121) [.ref (A 3), .int (Int32.ofInt x)] s (fun o t => Bd t ∧ Fm [] [] s t ∧ ∃ e, o = .inl (some (.int (Int32.ofInt e))) ∧ rng e ∧ (True)) := by
  refine ct_ofX G (by decide) (Nat.le_of_ble_eq_true rfl) (fun k X E ET hRt hXt q => ?_)
  show WS k 0 [(0, .ref (A 3)), (1, .int (Int32.ofInt x))] [] _ 0 0
  have F : Fm [] [] s s := fm_rf _ _ s
  have b1 : (0 : Int) ≤ iI s 9 ∧ iI s 9 ≤ 12 := I.1 9
  have L4 : ∀ (n : Nat) (t : PS) (xv sm0 c : Int), Bd t → Fm [] [] s t → ((0 ≤ xv ∧ xv ≤ 127) ∧ rng sm0 ∧ 0 ≤ c ∧ c ≤ 12) → (12 - c : Int).toNat < n → (∀ (t' : PS) (sm0' c' : Int), Bd t' → Fm [] [] s t' → ((0 ≤ xv ∧ xv ≤ 127) ∧ rng sm0' ∧ 0 ≤ c' ∧ c' ≤ 12) → WS k 36 [(0, .ref (A 3)), (1, .int (Int32.ofInt xv)), (2, .int (Int32.ofInt sm0')), (3, .int (Int32.ofInt c'))] [] (Wd A dT t') 0 0) → WS k 4 [(0, .ref (A 3)), (1, .int (Int32.ofInt xv)), (2, .int (Int32.ofInt sm0)), (3, .int (Int32.ofInt c))] [] (Wd A dT t) 0 0 := by
    intro n
    induction n with
    | zero =>
      intro t xv sm0 c I F hi hm kx
      exact absurd hm (Nat.not_lt_zero _)
    | succ n ih =>
      intro t xv sm0 c I F hi hm kx
      have b1001 : (0 : Int) ≤ iI t 9 ∧ iI t 9 ≤ 12 := I.1 9
      refine z_load_n X (x := c) (show cdA 121 4 = some (.iload_n 3, 1, 0, 0, 0) from rfl) (List.Mem.tail _ (List.Mem.tail _ (List.Mem.tail _ (List.Mem.head _)))) ?_
      refine z_aload_n X (x := A 3) (show cdA 121 5 = some (.aload_n 0, 1, 0, 0, 0) from rfl) (List.Mem.head _) ?_
      refine z_getI X 3 (show cdA 121 6 = some (.getfield 99, 3, 9, 0, 0) from rfl) (by decide) rfl rfl ?_
      have b1002 : (0 : Int) ≤ iI t 9 ∧ iI t 9 ≤ 12 := I.1 9
      refine z_icmp_ge X (t := 36) (show cdA 121 9 = some (.if_icmp .ge 27, 3, 3, 0, 0) from rfl) (by decide) ⟨by first | exact oq_fa4e5087 hi.2.2.1 | omega, by first | exact oq_78843a64 hi.2.2.2 | omega⟩ (rng_to _) (fun g1003 => ?_) (fun g1003 => ?_)
      ·
        refine WS_lv (lv := [(0, .ref (A 3)), (1, .int (Int32.ofInt xv)), (2, .int (Int32.ofInt sm0)), (3, .int (Int32.ofInt c))]) (List.forall_mem_cons.mpr ⟨(List.Mem.head _), (List.forall_mem_cons.mpr ⟨(List.Mem.tail _ (List.Mem.head _)), (List.forall_mem_cons.mpr ⟨(List.Mem.tail _ (List.Mem.tail _ (List.Mem.head _))), (List.forall_mem_cons.mpr ⟨(List.Mem.tail _ (List.Mem.tail _ (List.Mem.tail _ (List.Mem.head _)))), (fun q h => absurd h List.not_mem_nil)⟩)⟩)⟩)⟩) ?_
        exact kx _ sm0 c I F (by first | exact ⟨And.intro (hi.1.1) (hi.1.2), And.intro (hi.2.1.1) (hi.2.1.2), hi.2.2.1, hi.2.2.2⟩ | omega)
      ·
        refine z_aload_n X (x := A 3) (show cdA 121 12 = some (.aload_n 0, 1, 0, 0, 0) from rfl) (List.Mem.head _) ?_
        refine z_load_n X (x := c) (show cdA 121 13 = some (.iload_n 3, 1, 0, 0, 0) from rfl) (List.Mem.tail _ (List.Mem.tail _ (List.Mem.tail _ (List.Mem.head _)))) ?_
        refine z_load_n X (x := xv) (show cdA 121 14 = some (.iload_n 1, 1, 0, 0, 0) from rfl) (List.Mem.tail _ (List.Mem.head _)) ?_
        refine z_callV X 3 (rm := rmN 123) (As := [.int (Int32.ofInt c), .int (Int32.ofInt xv)]) (st := []) (show cdA 121 15 = some (.invokevirtual 156, 3, 123, 0, 0) from rfl) rfl (by decide) rfl (by rw [E.1, E.2.1, E.2.2.1]; exact c9_comesTo_3 G I (by first | exact ⟨hi.2.2.1, oq_e4d7f3c5 g1003 b1002.2⟩ | omega) (by first | exact ⟨hi.1.1, hi.1.2⟩ | omega)) ⟨by rw [E.2.2.2]; exact (show (rmN 123).frames + 1 ≤ (rmN 121).frames by decide), by rw [E.2.2.2]; exact (show 8 + (mNL (miB 123) + 11) + (rmN 123).locals ≤ (rmN 121).locals by decide), by rw [E.2.2.2]; exact (show 0 + (rmN 123).cells ≤ (rmN 121).cells by decide), by rw [E.2.2.2]; exact (show 0 + (rmN 123).slots ≤ (rmN 121).slots by decide)⟩ (Nat.le_of_ble_eq_true rfl) (fun vv s1004 hq => ?_) (fun ee s1004 hq => ?_)
        rotate_left
        · obtain ⟨Is1004, Fs1004, e1005, hv, hrs1004, hps1004⟩ := hq; cases hv
        obtain ⟨Is1004, Fs1004, e1005, hv, hrs1004, hps1004⟩ := hq
        cases hv
        have Gs1004 := fm_ts F Fs1004 (by decide) (by decide)
        have ws1004_9 : iI s1004 9 = iI t 9 := fm_i Fs1004 (by decide)
        show WS k 18 [(0, .ref (A 3)), (1, .int (Int32.ofInt xv)), (2, .int (Int32.ofInt sm0)), (3, .int (Int32.ofInt c))] [.int (Int32.ofInt e1005)] (Wd A dT s1004) 0 0
        refine z_if_eq X (t := 30) (show cdA 121 18 = some (.ifCond .eq 12, 3, 0, 0, 0) from rfl) (by decide) hrs1004 (fun g1006 => ?_) (fun g1006 => ?_)
        ·
          refine z_inc X (x := c) (lv' := [(3, .int (Int32.ofInt (c + 1))), (0, .ref (A 3)), (1, .int (Int32.ofInt xv)), (2, .int (Int32.ofInt sm0))]) (show cdA 121 30 = some (.iinc 3 1, 3, 0, 0, 0) from rfl) (by decide) (List.Mem.tail _ (List.Mem.tail _ (List.Mem.tail _ (List.Mem.head _)))) (fun _ h => h) ?_
          refine z_goto X (t := 4) (show cdA 121 33 = some (.goto (-29), 3, 0, 0, 0) from rfl) (by decide) ?_
          refine WS_lv (lv := [(0, .ref (A 3)), (1, .int (Int32.ofInt xv)), (2, .int (Int32.ofInt sm0)), (3, .int (Int32.ofInt (c + 1)))]) (List.forall_mem_cons.mpr ⟨(List.Mem.tail _ (List.Mem.head _)), (List.forall_mem_cons.mpr ⟨(List.Mem.tail _ (List.Mem.tail _ (List.Mem.head _))), (List.forall_mem_cons.mpr ⟨(List.Mem.tail _ (List.Mem.tail _ (List.Mem.tail _ (List.Mem.head _)))), (List.forall_mem_cons.mpr ⟨(List.Mem.head _), (fun q h => absurd h List.not_mem_nil)⟩)⟩)⟩)⟩) ?_
          exact ih _ xv sm0 (c + 1) Is1004 Gs1004 (by first | exact ⟨And.intro (hi.1.1) (hi.1.2), And.intro (hi.2.1.1) (hi.2.1.2), oq_54f49eb5 hi.2.2.1, oq_4dae995e g1003 b1002.2⟩ | omega) (by first | exact qk_me hm (by decide) (oq_b575e8c1 g1003 b1002.2) | omega) kx
        ·
          refine z_load_n X (x := sm0) (show cdA 121 21 = some (.iload_n 2, 1, 0, 0, 0) from rfl) (List.Mem.tail _ (List.Mem.tail _ (List.Mem.head _))) ?_
          refine z_aload_n X (x := A 3) (show cdA 121 22 = some (.aload_n 0, 1, 0, 0, 0) from rfl) (List.Mem.head _) ?_
          refine s_getR X 3 (show cdA 121 23 = some (.getfield 46, 3, 9, 13, 0) from rfl) (by decide) rfl rfl ?_
          refine z_load_n X (x := c) (show cdA 121 26 = some (.iload_n 3, 1, 0, 0, 0) from rfl) (List.Mem.tail _ (List.Mem.tail _ (List.Mem.tail _ (List.Mem.head _)))) ?_
          refine z_ald X 15 (show cdA 121 27 = some (.iaload, 1, 0, 0, 0) from rfl) (by decide) rfl (by first | exact hi.2.2.1 | omega) (show c < 12 by first | exact oq_f36e82a8 g1003 b1002.2 | omega) (by decide) ?_
          have b1007 : (0 : Int) ≤ iC s1004 12 (c).toNat ∧ iC s1004 12 (c).toNat ≤ 1200 := Is1004.2 12 _ (show (c).toNat < 12 by first | exact oq_2dac6850 g1003 b1002.2 | omega)
          refine z_add X (show cdA 121 28 = some (.iadd, 1, 0, 0, 0) from rfl) ?_
          refine z_any (fun y1008 hy1008 => ?_)
          refine z_store_n X (lv' := [(2, .int (Int32.ofInt y1008)), (0, .ref (A 3)), (1, .int (Int32.ofInt xv)), (3, .int (Int32.ofInt c))]) (show cdA 121 29 = some (.istore_n 2, 1, 0, 0, 0) from rfl) (by decide) (fun _ h => h) ?_
          refine z_inc X (x := c) (lv' := [(3, .int (Int32.ofInt (c + 1))), (2, .int (Int32.ofInt y1008)), (0, .ref (A 3)), (1, .int (Int32.ofInt xv))]) (show cdA 121 30 = some (.iinc 3 1, 3, 0, 0, 0) from rfl) (by decide) (List.Mem.tail _ (List.Mem.tail _ (List.Mem.tail _ (List.Mem.head _)))) (fun _ h => h) ?_
          refine z_goto X (t := 4) (show cdA 121 33 = some (.goto (-29), 3, 0, 0, 0) from rfl) (by decide) ?_
          refine WS_lv (lv := [(0, .ref (A 3)), (1, .int (Int32.ofInt xv)), (2, .int (Int32.ofInt y1008)), (3, .int (Int32.ofInt (c + 1)))]) (List.forall_mem_cons.mpr ⟨(List.Mem.tail _ (List.Mem.tail _ (List.Mem.head _))), (List.forall_mem_cons.mpr ⟨(List.Mem.tail _ (List.Mem.tail _ (List.Mem.tail _ (List.Mem.head _)))), (List.forall_mem_cons.mpr ⟨(List.Mem.tail _ (List.Mem.head _)), (List.forall_mem_cons.mpr ⟨(List.Mem.head _), (fun q h => absurd h List.not_mem_nil)⟩)⟩)⟩)⟩) ?_
          exact ih _ xv y1008 (c + 1) Is1004 Gs1004 (by first | exact ⟨And.intro (hi.1.1) (hi.1.2), And.intro (hy1008.1) (hy1008.2), oq_54f49eb5 hi.2.2.1, oq_4dae995e g1003 b1002.2⟩ | omega) (by first | exact qk_me hm (by decide) (oq_b575e8c1 g1003 b1002.2) | omega) kx
  refine z_const X (show cdA 121 0 = some (.iconst 0, 1, 0, 0, 0) from rfl) ?_
  refine z_store_n X (lv' := [(2, .int (Int32.ofInt 0)), (0, .ref (A 3)), (1, .int (Int32.ofInt x))]) (show cdA 121 1 = some (.istore_n 2, 1, 0, 0, 0) from rfl) (by decide) (fun _ h => h) ?_
  refine z_const X (show cdA 121 2 = some (.iconst 0, 1, 0, 0, 0) from rfl) ?_
  refine z_store_n X (lv' := [(3, .int (Int32.ofInt 0)), (2, .int (Int32.ofInt 0)), (0, .ref (A 3)), (1, .int (Int32.ofInt x))]) (show cdA 121 3 = some (.istore_n 3, 1, 0, 0, 0) from rfl) (by decide) (fun _ h => h) ?_
  refine WS_lv (lv := [(0, .ref (A 3)), (1, .int (Int32.ofInt x)), (2, .int (Int32.ofInt 0)), (3, .int (Int32.ofInt 0))]) (List.forall_mem_cons.mpr ⟨(List.Mem.tail _ (List.Mem.tail _ (List.Mem.head _))), (List.forall_mem_cons.mpr ⟨(List.Mem.tail _ (List.Mem.tail _ (List.Mem.tail _ (List.Mem.head _)))), (List.forall_mem_cons.mpr ⟨(List.Mem.tail _ (List.Mem.head _)), (List.forall_mem_cons.mpr ⟨(List.Mem.head _), (fun q h => absurd h List.not_mem_nil)⟩)⟩)⟩)⟩) ?_
  refine L4 ((12 - 0 : Int).toNat + 1) s x 0 0 I F (by first | exact ⟨And.intro (p0.1) (p0.2), And.intro (by decide) (by decide), by decide, by decide⟩ | omega) (Nat.lt_succ_self _) ?_
  intro s2 x3 x4 Is2 Fs2 hs2
  have b5 : (0 : Int) ≤ iI s2 9 ∧ iI s2 9 ≤ 12 := Is2.1 9
  refine z_load_n X (x := x3) (show cdA 121 36 = some (.iload_n 2, 1, 0, 0, 0) from rfl) (List.Mem.tail _ (List.Mem.tail _ (List.Mem.head _))) ?_
  exact w_iret X.1 q hRt rfl (ax_d X (show cdA 121 37 = some (.ireturn, 1, 0, 0, 0) from rfl)) (Nat.zero_le _) (Nat.zero_le _) ⟨_, rfl, Is2, Fs2, x3, rfl, ⟨by first | exact hs2.2.1.1 | omega, by first | exact hs2.2.1.2 | omega⟩, trivial⟩
set_option maxRecDepth 4000 in
theorem c9_isVisited_3 (G : GX l s0 D tys a0 dT) (I : Bd s) {x : Int} (p0 : 0 ≤ x ∧ x ≤ 127) : CT l s0 D A dT 122 (rmN 122) [.ref (A 3), .int (Int32.ofInt x)] s (fun o t => Bd t ∧ Fm [] [] s t ∧ ∃ e, o = .inl (some (.int (Int32.ofInt e))) ∧ rng e ∧ (e = 0 ∨ e = 1)) := by
  refine ct_ofX G (by decide) (Nat.le_of_ble_eq_true rfl) (fun k X E ET hRt hXt q => ?_)
  show WS k 0 [(0, .ref (A 3)), (1, .int (Int32.ofInt x))] [] _ 0 0
  have F : Fm [] [] s s := fm_rf _ _ s
  have b1 : (0 : Int) ≤ iI s 9 ∧ iI s 9 ≤ 12 := I.1 9
  have L2 : ∀ (n : Nat) (t : PS) (xv c : Int), Bd t → Fm [] [] s t → ((0 ≤ xv ∧ xv ≤ 127) ∧ 0 ≤ c ∧ c ≤ 12) → (12 - c : Int).toNat < n → (∀ (t' : PS) (c' : Int), Bd t' → Fm [] [] s t' → ((0 ≤ xv ∧ xv ≤ 127) ∧ 0 ≤ c' ∧ c' ≤ 12) → WS k 27 [(0, .ref (A 3)), (1, .int (Int32.ofInt xv)), (2, .int (Int32.ofInt c'))] [] (Wd A dT t') 0 0) → WS k 2 [(0, .ref (A 3)), (1, .int (Int32.ofInt xv)), (2, .int (Int32.ofInt c))] [] (Wd A dT t) 0 0 := by
    intro n
    induction n with
    | zero =>
      intro t xv c I F hi hm kx
      exact absurd hm (Nat.not_lt_zero _)
    | succ n ih =>
      intro t xv c I F hi hm kx
      have b1001 : (0 : Int) ≤ iI t 9 ∧ iI t 9 ≤ 12 := I.1 9
      refine z_load_n X (x := c) (show cdA 122 2 = some (.iload_n 2, 1, 0, 0, 0) from rfl) (List.Mem.tail _ (List.Mem.tail _ (List.Mem.head _))) ?_
      refine z_aload_n X (x := A 3) (show cdA 122 3 = some (.aload_n 0, 1, 0, 0, 0) from rfl) (List.Mem.head _) ?_
      refine z_getI X 3 (show cdA 122 4 = some (.getfield 99, 3, 9, 0, 0) from rfl) (by decide) rfl rfl ?_
      have b1002 : (0 : Int) ≤ iI t 9 ∧ iI t 9 ≤ 12 := I.1 9
      refine z_icmp_ge X (t := 27) (show cdA 122 7 = some (.if_icmp .ge 20, 3, 3, 0, 0) from rfl) (by decide) ⟨by first | exact oq_fa4e5087 hi.2.1 | omega, by first | exact oq_78843a64 hi.2.2 | omega⟩ (rng_to _) (fun g1003 => ?_) (fun g1003 => ?_)
      ·
        refine WS_lv (lv := [(0, .ref (A 3)), (1, .int (Int32.ofInt xv)), (2, .int (Int32.ofInt c))]) (List.forall_mem_cons.mpr ⟨(List.Mem.head _), (List.forall_mem_cons.mpr ⟨(List.Mem.tail _ (List.Mem.head _)), (List.forall_mem_cons.mpr ⟨(List.Mem.tail _ (List.Mem.tail _ (List.Mem.head _))), (fun q h => absurd h List.not_mem_nil)⟩)⟩)⟩) ?_
        exact kx _ c I F (by first | exact ⟨And.intro (hi.1.1) (hi.1.2), hi.2.1, hi.2.2⟩ | omega)
      ·
        refine z_aload_n X (x := A 3) (show cdA 122 10 = some (.aload_n 0, 1, 0, 0, 0) from rfl) (List.Mem.head _) ?_
        refine z_load_n X (x := c) (show cdA 122 11 = some (.iload_n 2, 1, 0, 0, 0) from rfl) (List.Mem.tail _ (List.Mem.tail _ (List.Mem.head _))) ?_
        refine z_load_n X (x := xv) (show cdA 122 12 = some (.iload_n 1, 1, 0, 0, 0) from rfl) (List.Mem.tail _ (List.Mem.head _)) ?_
        refine z_callV X 3 (rm := rmN 123) (As := [.int (Int32.ofInt c), .int (Int32.ofInt xv)]) (st := []) (show cdA 122 13 = some (.invokevirtual 156, 3, 123, 0, 0) from rfl) rfl (by decide) rfl (by rw [E.1, E.2.1, E.2.2.1]; exact c9_comesTo_3 G I (by first | exact ⟨hi.2.1, oq_e4d7f3c5 g1003 b1002.2⟩ | omega) (by first | exact ⟨hi.1.1, hi.1.2⟩ | omega)) ⟨by rw [E.2.2.2]; exact (show (rmN 123).frames + 1 ≤ (rmN 122).frames by decide), by rw [E.2.2.2]; exact (show 8 + (mNL (miB 123) + 11) + (rmN 123).locals ≤ (rmN 122).locals by decide), by rw [E.2.2.2]; exact (show 0 + (rmN 123).cells ≤ (rmN 122).cells by decide), by rw [E.2.2.2]; exact (show 0 + (rmN 123).slots ≤ (rmN 122).slots by decide)⟩ (Nat.le_of_ble_eq_true rfl) (fun vv s1004 hq => ?_) (fun ee s1004 hq => ?_)
        rotate_left
        · obtain ⟨Is1004, Fs1004, e1005, hv, hrs1004, hps1004⟩ := hq; cases hv
        obtain ⟨Is1004, Fs1004, e1005, hv, hrs1004, hps1004⟩ := hq
        cases hv
        have Gs1004 := fm_ts F Fs1004 (by decide) (by decide)
        have ws1004_9 : iI s1004 9 = iI t 9 := fm_i Fs1004 (by decide)
        show WS k 16 [(0, .ref (A 3)), (1, .int (Int32.ofInt xv)), (2, .int (Int32.ofInt c))] [.int (Int32.ofInt e1005)] (Wd A dT s1004) 0 0
        refine z_if_eq X (t := 21) (show cdA 122 16 = some (.ifCond .eq 5, 3, 0, 0, 0) from rfl) (by decide) hrs1004 (fun g1006 => ?_) (fun g1006 => ?_)
        ·
          refine z_inc X (x := c) (lv' := [(2, .int (Int32.ofInt (c + 1))), (0, .ref (A 3)), (1, .int (Int32.ofInt xv))]) (show cdA 122 21 = some (.iinc 2 1, 3, 0, 0, 0) from rfl) (by decide) (List.Mem.tail _ (List.Mem.tail _ (List.Mem.head _))) (fun _ h => h) ?_
          refine z_goto X (t := 2) (show cdA 122 24 = some (.goto (-22), 3, 0, 0, 0) from rfl) (by decide) ?_
          refine WS_lv (lv := [(0, .ref (A 3)), (1, .int (Int32.ofInt xv)), (2, .int (Int32.ofInt (c + 1)))]) (List.forall_mem_cons.mpr ⟨(List.Mem.tail _ (List.Mem.head _)), (List.forall_mem_cons.mpr ⟨(List.Mem.tail _ (List.Mem.tail _ (List.Mem.head _))), (List.forall_mem_cons.mpr ⟨(List.Mem.head _), (fun q h => absurd h List.not_mem_nil)⟩)⟩)⟩) ?_
          exact ih _ xv (c + 1) Is1004 Gs1004 (by first | exact ⟨And.intro (hi.1.1) (hi.1.2), oq_54f49eb5 hi.2.1, oq_4dae995e g1003 b1002.2⟩ | omega) (by first | exact qk_me hm (by decide) (oq_b575e8c1 g1003 b1002.2) | omega) kx
        ·
          refine z_const X (show cdA 122 19 = some (.iconst 1, 1, 0, 0, 0) from rfl) ?_
          exact w_iret X.1 q hRt (nar_ret (by first | exact Or.inr (by decide) | omega)) (ax_d X (show cdA 122 20 = some (.ireturn, 1, 0, 0, 0) from rfl)) (Nat.zero_le _) (Nat.zero_le _) ⟨_, rfl, Is1004, Gs1004, 1, rfl, (by decide), by first | exact Or.inr (by decide) | omega⟩
  refine z_const X (show cdA 122 0 = some (.iconst 0, 1, 0, 0, 0) from rfl) ?_
  refine z_store_n X (lv' := [(2, .int (Int32.ofInt 0)), (0, .ref (A 3)), (1, .int (Int32.ofInt x))]) (show cdA 122 1 = some (.istore_n 2, 1, 0, 0, 0) from rfl) (by decide) (fun _ h => h) ?_
  refine WS_lv (lv := [(0, .ref (A 3)), (1, .int (Int32.ofInt x)), (2, .int (Int32.ofInt 0))]) (List.forall_mem_cons.mpr ⟨(List.Mem.tail _ (List.Mem.head _)), (List.forall_mem_cons.mpr ⟨(List.Mem.tail _ (List.Mem.tail _ (List.Mem.head _))), (List.forall_mem_cons.mpr ⟨(List.Mem.head _), (fun q h => absurd h List.not_mem_nil)⟩)⟩)⟩) ?_
  refine L2 ((12 - 0 : Int).toNat + 1) s x 0 I F (by first | exact ⟨And.intro (p0.1) (p0.2), by decide, by decide⟩ | omega) (Nat.lt_succ_self _) ?_
  intro s2 x3 Is2 Fs2 hs2
  have b4 : (0 : Int) ≤ iI s2 9 ∧ iI s2 9 ≤ 12 := Is2.1 9
  refine z_const X (show cdA 122 27 = some (.iconst 0, 1, 0, 0, 0) from rfl) ?_
  exact w_iret X.1 q hRt (nar_ret (by first | exact Or.inl (by decide) | omega)) (ax_d X (show cdA 122 28 = some (.ireturn, 1, 0, 0, 0) from rfl)) (Nat.zero_le _) (Nat.zero_le _) ⟨_, rfl, Is2, Fs2, 0, rfl, (by decide), by first | exact Or.inl (by decide) | omega⟩
set_option maxRecDepth 4000 in
theorem c9_countsOfSteps_3 (G : GX l s0 D tys a0 dT) (I : Bd s)  : CT l s0 D A dT 124 (rmN 124) [.ref (A 3)] s (fun o t => Bd t ∧ Fm [] [] s t ∧ ∃ e, o = .inl (some (.int (Int32.ofInt e))) ∧ rng e ∧ (True)) := by
  refine ct_ofX G (by decide) (Nat.le_of_ble_eq_true rfl) (fun k X E ET hRt hXt q => ?_)
  show WS k 0 [(0, .ref (A 3))] [] _ 0 0
  have F : Fm [] [] s s := fm_rf _ _ s
  have b1 : (0 : Int) ≤ iI s 9 ∧ iI s 9 ≤ 12 := I.1 9
  have L4 : ∀ (n : Nat) (t : PS) (sm0 c : Int), Bd t → Fm [] [] s t → (rng sm0 ∧ 0 ≤ c ∧ c ≤ 12) → (12 - c : Int).toNat < n → (∀ (t' : PS) (sm0' c' : Int), Bd t' → Fm [] [] s t' → (rng sm0' ∧ 0 ≤ c' ∧ c' ≤ 12) → WS k 36 [(0, .ref (A 3)), (1, .int (Int32.ofInt sm0')), (2, .int (Int32.ofInt c'))] [] (Wd A dT t') 0 0) → WS k 4 [(0, .ref (A 3)), (1, .int (Int32.ofInt sm0)), (2, .int (Int32.ofInt c))] [] (Wd A dT t) 0 0 := by
    intro n
    induction n with
    | zero =>
      intro t sm0 c I F hi hm kx
      exact absurd hm (Nat.not_lt_zero _)
    | succ n ih =>
      intro t sm0 c I F hi hm kx
      have b1001 : (0 : Int) ≤ iI t 9 ∧ iI t 9 ≤ 12 := I.1 9
      refine z_load_n X (x := c) (show cdA 124 4 = some (.iload_n 2, 1, 0, 0, 0) from rfl) (List.Mem.tail _ (List.Mem.tail _ (List.Mem.head _))) ?_
      refine z_aload_n X (x := A 3) (show cdA 124 5 = some (.aload_n 0, 1, 0, 0, 0) from rfl) (List.Mem.head _) ?_
      refine z_getI X 3 (show cdA 124 6 = some (.getfield 99, 3, 9, 0, 0) from rfl) (by decide) rfl rfl ?_
      have b1002 : (0 : Int) ≤ iI t 9 ∧ iI t 9 ≤ 12 := I.1 9
      refine z_icmp_ge X (t := 36) (show cdA 124 9 = some (.if_icmp .ge 27, 3, 3, 0, 0) from rfl) (by decide) ⟨by first | exact oq_fa4e5087 hi.2.1 | omega, by first | exact oq_78843a64 hi.2.2 | omega⟩ (rng_to _) (fun g1003 => ?_) (fun g1003 => ?_)
      ·
        refine WS_lv (lv := [(0, .ref (A 3)), (1, .int (Int32.ofInt sm0)), (2, .int (Int32.ofInt c))]) (List.forall_mem_cons.mpr ⟨(List.Mem.head _), (List.forall_mem_cons.mpr ⟨(List.Mem.tail _ (List.Mem.head _)), (List.forall_mem_cons.mpr ⟨(List.Mem.tail _ (List.Mem.tail _ (List.Mem.head _))), (fun q h => absurd h List.not_mem_nil)⟩)⟩)⟩) ?_
        exact kx _ sm0 c I F (by first | exact ⟨And.intro (hi.1.1) (hi.1.2), hi.2.1, hi.2.2⟩ | omega)
      ·
        refine z_load_n X (x := sm0) (show cdA 124 12 = some (.iload_n 1, 1, 0, 0, 0) from rfl) (List.Mem.tail _ (List.Mem.head _)) ?_
        refine z_aload_n X (x := A 3) (show cdA 124 13 = some (.aload_n 0, 1, 0, 0, 0) from rfl) (List.Mem.head _) ?_
        refine s_getR X 3 (show cdA 124 14 = some (.getfield 46, 3, 9, 13, 0) from rfl) (by decide) rfl rfl ?_
        refine z_load_n X (x := c) (show cdA 124 17 = some (.iload_n 2, 1, 0, 0, 0) from rfl) (List.Mem.tail _ (List.Mem.tail _ (List.Mem.head _))) ?_
        refine z_ald X 15 (show cdA 124 18 = some (.iaload, 1, 0, 0, 0) from rfl) (by decide) rfl (by first | exact hi.2.1 | omega) (show c < 12 by first | exact oq_f36e82a8 g1003 b1002.2 | omega) (by decide) ?_
        have b1004 : (0 : Int) ≤ iC t 12 (c).toNat ∧ iC t 12 (c).toNat ≤ 1200 := I.2 12 _ (show (c).toNat < 12 by first | exact oq_2dac6850 g1003 b1002.2 | omega)
        refine z_aload_n X (x := A 3) (show cdA 124 19 = some (.aload_n 0, 1, 0, 0, 0) from rfl) (List.Mem.head _) ?_
        refine s_getR X 3 (show cdA 124 20 = some (.getfield 15, 3, 9, 2, 0) from rfl) (by decide) rfl rfl ?_
        refine z_load_n X (x := c) (show cdA 124 23 = some (.iload_n 2, 1, 0, 0, 0) from rfl) (List.Mem.tail _ (List.Mem.tail _ (List.Mem.head _))) ?_
        refine z_ald X 5 (show cdA 124 24 = some (.iaload, 1, 0, 0, 0) from rfl) (by decide) rfl (by first | exact hi.2.1 | omega) (show c < 12 by first | exact oq_f36e82a8 g1003 b1002.2 | omega) (by decide) ?_
        have b1005 : (0 : Int) ≤ iC t 2 (c).toNat ∧ iC t 2 (c).toNat ≤ 24 := I.2 2 _ (show (c).toNat < 12 by first | exact oq_2dac6850 g1003 b1002.2 | omega)
        refine z_const X (show cdA 124 25 = some (.iconst 1, 1, 0, 0, 0) from rfl) ?_
        refine z_sub X (show cdA 124 26 = some (.isub, 1, 0, 0, 0) from rfl) ?_
        refine z_mul X (show cdA 124 27 = some (.imul, 1, 0, 0, 0) from rfl) ?_
        refine z_any (fun y1006 hy1006 => ?_)
        refine z_add X (show cdA 124 28 = some (.iadd, 1, 0, 0, 0) from rfl) ?_
        refine z_any (fun y1007 hy1007 => ?_)
        refine z_store_n X (lv' := [(1, .int (Int32.ofInt y1007)), (0, .ref (A 3)), (2, .int (Int32.ofInt c))]) (show cdA 124 29 = some (.istore_n 1, 1, 0, 0, 0) from rfl) (by decide) (fun _ h => h) ?_
        refine z_inc X (x := c) (lv' := [(2, .int (Int32.ofInt (c + 1))), (1, .int (Int32.ofInt y1007)), (0, .ref (A 3))]) (show cdA 124 30 = some (.iinc 2 1, 3, 0, 0, 0) from rfl) (by decide) (List.Mem.tail _ (List.Mem.tail _ (List.Mem.head _))) (fun _ h => h) ?_
        refine z_goto X (t := 4) (show cdA 124 33 = some (.goto (-29), 3, 0, 0, 0) from rfl) (by decide) ?_
        refine WS_lv (lv := [(0, .ref (A 3)), (1, .int (Int32.ofInt y1007)), (2, .int (Int32.ofInt (c + 1)))]) (List.forall_mem_cons.mpr ⟨(List.Mem.tail _ (List.Mem.tail _ (List.Mem.head _))), (List.forall_mem_cons.mpr ⟨(List.Mem.tail _ (List.Mem.head _)), (List.forall_mem_cons.mpr ⟨(List.Mem.head _), (fun q h => absurd h List.not_mem_nil)⟩)⟩)⟩) ?_
        exact ih _ y1007 (c + 1) I F (by first | exact ⟨And.intro (hy1007.1) (hy1007.2), oq_54f49eb5 hi.2.1, oq_4dae995e g1003 b1002.2⟩ | omega) (by first | exact qk_me hm (by decide) (oq_b575e8c1 g1003 b1002.2) | omega) kx
  refine z_const X (show cdA 124 0 = some (.iconst 0, 1, 0, 0, 0) from rfl) ?_
  refine z_store_n X (lv' := [(1, .int (Int32.ofInt 0)), (0, .ref (A 3))]) (show cdA 124 1 = some (.istore_n 1, 1, 0, 0, 0) from rfl) (by decide) (fun _ h => h) ?_
  refine z_const X (show cdA 124 2 = some (.iconst 0, 1, 0, 0, 0) from rfl) ?_
  refine z_store_n X (lv' := [(2, .int (Int32.ofInt 0)), (1, .int (Int32.ofInt 0)), (0, .ref (A 3))]) (show cdA 124 3 = some (.istore_n 2, 1, 0, 0, 0) from rfl) (by decide) (fun _ h => h) ?_
  refine WS_lv (lv := [(0, .ref (A 3)), (1, .int (Int32.ofInt 0)), (2, .int (Int32.ofInt 0))]) (List.forall_mem_cons.mpr ⟨(List.Mem.tail _ (List.Mem.tail _ (List.Mem.head _))), (List.forall_mem_cons.mpr ⟨(List.Mem.tail _ (List.Mem.head _)), (List.forall_mem_cons.mpr ⟨(List.Mem.head _), (fun q h => absurd h List.not_mem_nil)⟩)⟩)⟩) ?_
  refine L4 ((12 - 0 : Int).toNat + 1) s 0 0 I F (by first | exact ⟨And.intro (by decide) (by decide), by decide, by decide⟩ | omega) (Nat.lt_succ_self _) ?_
  intro s2 x3 x4 Is2 Fs2 hs2
  have b5 : (0 : Int) ≤ iI s2 9 ∧ iI s2 9 ≤ 12 := Is2.1 9
  refine z_load_n X (x := x3) (show cdA 124 36 = some (.iload_n 1, 1, 0, 0, 0) from rfl) (List.Mem.tail _ (List.Mem.head _)) ?_
  exact w_iret X.1 q hRt rfl (ax_d X (show cdA 124 37 = some (.ireturn, 1, 0, 0, 0) from rfl)) (Nat.zero_le _) (Nat.zero_le _) ⟨_, rfl, Is2, Fs2, x3, rfl, ⟨by first | exact hs2.1.1 | omega, by first | exact hs2.1.2 | omega⟩, trivial⟩
set_option maxRecDepth 4000 in
theorem c9_shortestStretch_3 (G : GX l s0 D tys a0 dT) (I : Bd s) {x : Int} {lo hi0 : Int64} (p0 : 0 ≤ x ∧ x ≤ 11) : CT l s0 D A dT 120 (rmN 120) [.ref (A 3), .int (Int32.ofInt x), .long lo, .long hi0] s (fun o t => Bd t ∧ Fm [] [] s t ∧ ∃ e, o = .inl (some (.int (Int32.ofInt e))) ∧ rng e ∧ (0 ≤ e ∧ e ≤ 24)) := by
  refine ct_ofX G (by decide) (Nat.le_of_ble_eq_true rfl) (fun k X E ET hRt hXt q => ?_)
  show WS k 0 [(0, .ref (A 3)), (1, .int (Int32.ofInt x)), (2, .long lo), (4, .long hi0)] [] _ 0 0
  have F : Fm [] [] s s := fm_rf _ _ s
  have L10 : ∀ (n : Nat) (t : PS) (xv : Int) (lw : Int64) (hw : Int64) (sh : Int) (ru : Int) (c : Int), Bd t → Fm [] [] s t → ((0 ≤ xv ∧ xv ≤ 11) ∧ (0 ≤ sh ∧ sh ≤ 24) ∧ (0 ≤ ru ∧ ru ≤ c) ∧ c ≤ 24) → (24 - c : Int).toNat < n → (∀ (t' : PS) (sh' : Int) (ru' : Int) (c' : Int), Bd t' → Fm [] [] s t' → ((0 ≤ xv ∧ xv ≤ 11) ∧ (0 ≤ sh' ∧ sh' ≤ 24) ∧ (0 ≤ ru' ∧ ru' ≤ c') ∧ c' ≤ 24) → WS k 90 [(0, .ref (A 3)), (1, .int (Int32.ofInt xv)), (2, .long lw), (4, .long hw), (6, .int (Int32.ofInt sh')), (7, .int (Int32.ofInt ru')), (8, .int (Int32.ofInt c'))] [] (Wd A dT t') 0 0) → WS k 10 [(0, .ref (A 3)), (1, .int (Int32.ofInt xv)), (2, .long lw), (4, .long hw), (6, .int (Int32.ofInt sh)), (7, .int (Int32.ofInt ru)), (8, .int (Int32.ofInt c))] [] (Wd A dT t) 0 0 := by
    intro n
    induction n with
    | zero =>
      intro t xv lw hw sh ru c I F hi hm kx
      exact absurd hm (Nat.not_lt_zero _)
    | succ n ih =>
      intro t xv lw hw sh ru c I F hi hm kx
      refine z_load X (x := c) (show cdA 120 10 = some (.iload 8, 2, 0, 0, 0) from rfl) (List.Mem.tail _ (List.Mem.tail _ (List.Mem.tail _ (List.Mem.tail _ (List.Mem.tail _ (List.Mem.tail _ (List.Mem.head _))))))) ?_
      refine z_aload_n X (x := A 3) (show cdA 120 12 = some (.aload_n 0, 1, 0, 0, 0) from rfl) (List.Mem.head _) ?_
      refine s_getR X 3 (show cdA 120 13 = some (.getfield 15, 3, 9, 2, 0) from rfl) (by decide) rfl rfl ?_
      refine z_load_n X (x := xv) (show cdA 120 16 = some (.iload_n 1, 1, 0, 0, 0) from rfl) (List.Mem.tail _ (List.Mem.head _)) ?_
      refine z_ald X 5 (show cdA 120 17 = some (.iaload, 1, 0, 0, 0) from rfl) (by decide) rfl (by first | exact hi.1.1 | omega) (show xv < 12 by first | exact oq_0ddfcfee hi.1.2 | omega) (by decide) ?_
      have b1001 : (0 : Int) ≤ iC t 2 (xv).toNat ∧ iC t 2 (xv).toNat ≤ 24 := I.2 2 _ (show (xv).toNat < 12 by first | exact oq_9c5fa447 hi.1.2 | omega)
      refine z_icmp_ge X (t := 90) (show cdA 120 18 = some (.if_icmp .ge 72, 3, 3, 0, 0) from rfl) (by decide) ⟨by first | exact oq_e001bc0d hi.2.2.1.2 hi.2.2.1.1 | omega, by first | exact oq_5bcd337f hi.2.2.2 | omega⟩ (rng_to _) (fun g1002 => ?_) (fun g1002 => ?_)
      ·
        refine WS_lv (lv := [(0, .ref (A 3)), (1, .int (Int32.ofInt xv)), (2, .long lw), (4, .long hw), (6, .int (Int32.ofInt sh)), (7, .int (Int32.ofInt ru)), (8, .int (Int32.ofInt c))]) (List.forall_mem_cons.mpr ⟨(List.Mem.head _), (List.forall_mem_cons.mpr ⟨(List.Mem.tail _ (List.Mem.head _)), (List.forall_mem_cons.mpr ⟨(List.Mem.tail _ (List.Mem.tail _ (List.Mem.head _))), (List.forall_mem_cons.mpr ⟨(List.Mem.tail _ (List.Mem.tail _ (List.Mem.tail _ (List.Mem.head _)))), (List.forall_mem_cons.mpr ⟨(List.Mem.tail _ (List.Mem.tail _ (List.Mem.tail _ (List.Mem.tail _ (List.Mem.head _))))), (List.forall_mem_cons.mpr ⟨(List.Mem.tail _ (List.Mem.tail _ (List.Mem.tail _ (List.Mem.tail _ (List.Mem.tail _ (List.Mem.head _)))))), (List.forall_mem_cons.mpr ⟨(List.Mem.tail _ (List.Mem.tail _ (List.Mem.tail _ (List.Mem.tail _ (List.Mem.tail _ (List.Mem.tail _ (List.Mem.head _))))))), (fun q h => absurd h List.not_mem_nil)⟩)⟩)⟩)⟩)⟩)⟩)⟩) ?_
        exact kx _ sh ru c I F (by first | exact ⟨And.intro (hi.1.1) (hi.1.2), And.intro (hi.2.1.1) (hi.2.1.2), And.intro (hi.2.2.1.1) (hi.2.2.1.2), hi.2.2.2⟩ | omega)
      ·
        refine z_aload_n X (x := A 3) (show cdA 120 21 = some (.aload_n 0, 1, 0, 0, 0) from rfl) (List.Mem.head _) ?_
        refine s_getR X 3 (show cdA 120 22 = some (.getfield 9, 3, 9, 1, 0) from rfl) (by decide) rfl rfl ?_
        refine z_load_n X (x := xv) (show cdA 120 25 = some (.iload_n 1, 1, 0, 0, 0) from rfl) (List.Mem.tail _ (List.Mem.head _)) ?_
        refine z_bipush X (show cdA 120 26 = some (.bipush 24, 2, 0, 0, 24) from rfl) ?_
        refine z_mul X (show cdA 120 28 = some (.imul, 1, 0, 0, 0) from rfl) ?_
        refine z_load X (x := c) (show cdA 120 29 = some (.iload 8, 2, 0, 0, 0) from rfl) (List.Mem.tail _ (List.Mem.tail _ (List.Mem.tail _ (List.Mem.tail _ (List.Mem.tail _ (List.Mem.tail _ (List.Mem.head _))))))) ?_
        refine z_add X (show cdA 120 31 = some (.iadd, 1, 0, 0, 0) from rfl) ?_
        refine z_ald X 4 (show cdA 120 32 = some (.iaload, 1, 0, 0, 0) from rfl) (by decide) rfl (by first | exact oq_1c973021 hi.1.1 hi.2.2.1.2 hi.2.2.1.1 | omega) (show ((xv * 24) + c) < 288 by first | exact oq_54efb6a2 hi.1.2 g1002 b1001.2 | omega) (by decide) ?_
        have b1003 : (0 : Int) ≤ iC t 1 (((xv * 24) + c)).toNat ∧ iC t 1 (((xv * 24) + c)).toNat ≤ 127 := I.2 1 _ (show (((xv * 24) + c)).toNat < 288 by first | exact oq_2f719579 hi.1.2 g1002 b1001.2 | omega)
        refine z_store X (lv' := [(9, .int (Int32.ofInt (iC t 1 (((xv * 24) + c)).toNat))), (0, .ref (A 3)), (1, .int (Int32.ofInt xv)), (2, .long lw), (4, .long hw), (6, .int (Int32.ofInt sh)), (7, .int (Int32.ofInt ru)), (8, .int (Int32.ofInt c))]) (show cdA 120 33 = some (.istore 9, 2, 0, 0, 0) from rfl) (by decide) (fun _ h => h) ?_
        refine z_load X (x := (iC t 1 (((xv * 24) + c)).toNat)) (show cdA 120 35 = some (.iload 9, 2, 0, 0, 0) from rfl) (List.Mem.head _) ?_
        refine z_bipush X (show cdA 120 37 = some (.bipush 64, 2, 0, 0, 64) from rfl) ?_
        have N1004 : ∀ j1005 : Int64, WS k 48 [(9, .int (Int32.ofInt (iC t 1 (((xv * 24) + c)).toNat))), (0, .ref (A 3)), (1, .int (Int32.ofInt xv)), (2, .long lw), (4, .long hw), (6, .int (Int32.ofInt sh)), (7, .int (Int32.ofInt ru)), (8, .int (Int32.ofInt c))] [.long j1005] (Wd A dT t) 0 0 := by
          intro j1005
          refine z_load X (x := (iC t 1 (((xv * 24) + c)).toNat)) (show cdA 120 48 = some (.iload 9, 2, 0, 0, 0) from rfl) (List.Mem.head _) ?_
          refine z_bipush X (show cdA 120 50 = some (.bipush 63, 2, 0, 0, 63) from rfl) ?_
          refine z_andm X (show cdA 120 52 = some (.iand, 1, 0, 0, 0) from rfl) (by decide) (by decide) (fun y1006 hy1006 gy1006 => ?_)
          refine w_lushr X.1 (ax_d X (show cdA 120 53 = some (.lushr, 1, 0, 0, 0) from rfl)) ?_
          refine z_anyJ (fun j1007 => ?_)
          refine w_lconst X.1 (ax_d X (show cdA 120 54 = some (.lconst 1, 1, 0, 0, 0) from rfl)) rfl ?_
          refine z_anyJ (fun j1008 => ?_)
          refine w_land X.1 (ax_d X (show cdA 120 55 = some (.land, 1, 0, 0, 0) from rfl)) ?_
          refine z_anyJ (fun j1009 => ?_)
          refine w_lconst X.1 (ax_d X (show cdA 120 56 = some (.lconst 0, 1, 0, 0, 0) from rfl)) rfl ?_
          refine z_anyJ (fun j1010 => ?_)
          refine w_lcmp X.1 (ax_d X (show cdA 120 57 = some (.lcmp, 1, 0, 0, 0) from rfl)) ?_
          refine z_any (fun y1011 hy1011 => ?_)
          refine z_if_eq X (t := 67) (show cdA 120 58 = some (.ifCond .eq 9, 3, 0, 0, 0) from rfl) (by decide) hy1011 (fun g1012 => ?_) (fun g1012 => ?_)
          ·
            refine z_load X (x := ru) (show cdA 120 67 = some (.iload 7, 2, 0, 0, 0) from rfl) (List.Mem.tail _ (List.Mem.tail _ (List.Mem.tail _ (List.Mem.tail _ (List.Mem.tail _ (List.Mem.tail _ (List.Mem.head _))))))) ?_
            refine z_if_le X (t := 84) (show cdA 120 69 = some (.ifCond .le 15, 3, 5, 0, 0) from rfl) (by decide) ⟨by first | exact oq_fa4e5087 hi.2.2.1.1 | omega, by first | exact oq_403249cf hi.2.2.1.2 hi.2.2.2 | omega⟩ (fun g1013 => ?_) (fun g1013 => ?_)
            ·
              refine z_inc X (x := c) (lv' := [(8, .int (Int32.ofInt (c + 1))), (9, .int (Int32.ofInt (iC t 1 (((xv * 24) + c)).toNat))), (0, .ref (A 3)), (1, .int (Int32.ofInt xv)), (2, .long lw), (4, .long hw), (6, .int (Int32.ofInt sh)), (7, .int (Int32.ofInt ru))]) (show cdA 120 84 = some (.iinc 8 1, 3, 0, 0, 0) from rfl) (by decide) (List.Mem.tail _ (List.Mem.tail _ (List.Mem.tail _ (List.Mem.tail _ (List.Mem.tail _ (List.Mem.tail _ (List.Mem.tail _ (List.Mem.head _)))))))) (fun _ h => h) ?_
              refine z_goto X (t := 10) (show cdA 120 87 = some (.goto (-77), 3, 0, 0, 0) from rfl) (by decide) ?_
              refine WS_lv (lv := [(0, .ref (A 3)), (1, .int (Int32.ofInt xv)), (2, .long lw), (4, .long hw), (6, .int (Int32.ofInt sh)), (7, .int (Int32.ofInt ru)), (8, .int (Int32.ofInt (c + 1)))]) (List.forall_mem_cons.mpr ⟨(List.Mem.tail _ (List.Mem.tail _ (List.Mem.head _))), (List.forall_mem_cons.mpr ⟨(List.Mem.tail _ (List.Mem.tail _ (List.Mem.tail _ (List.Mem.head _)))), (List.forall_mem_cons.mpr ⟨(List.Mem.tail _ (List.Mem.tail _ (List.Mem.tail _ (List.Mem.tail _ (List.Mem.head _))))), (List.forall_mem_cons.mpr ⟨(List.Mem.tail _ (List.Mem.tail _ (List.Mem.tail _ (List.Mem.tail _ (List.Mem.tail _ (List.Mem.head _)))))), (List.forall_mem_cons.mpr ⟨(List.Mem.tail _ (List.Mem.tail _ (List.Mem.tail _ (List.Mem.tail _ (List.Mem.tail _ (List.Mem.tail _ (List.Mem.head _))))))), (List.forall_mem_cons.mpr ⟨(List.Mem.tail _ (List.Mem.tail _ (List.Mem.tail _ (List.Mem.tail _ (List.Mem.tail _ (List.Mem.tail _ (List.Mem.tail _ (List.Mem.head _)))))))), (List.forall_mem_cons.mpr ⟨(List.Mem.head _), (fun q h => absurd h List.not_mem_nil)⟩)⟩)⟩)⟩)⟩)⟩)⟩) ?_
              exact ih _ xv lw hw sh ru (c + 1) I F (by first | exact ⟨And.intro (hi.1.1) (hi.1.2), And.intro (hi.2.1.1) (hi.2.1.2), And.intro (hi.2.2.1.1) (oq_03182e9e hi.2.2.1.2), oq_41473be0 g1002 b1001.2⟩ | omega) (by first | exact qk_me hm (by decide) (oq_9dea93e6 g1002 b1001.2) | omega) kx
            ·
              refine z_load X (x := sh) (show cdA 120 72 = some (.iload 6, 2, 0, 0, 0) from rfl) (List.Mem.tail _ (List.Mem.tail _ (List.Mem.tail _ (List.Mem.tail _ (List.Mem.tail _ (List.Mem.head _)))))) ?_
              refine z_load X (x := ru) (show cdA 120 74 = some (.iload 7, 2, 0, 0, 0) from rfl) (List.Mem.tail _ (List.Mem.tail _ (List.Mem.tail _ (List.Mem.tail _ (List.Mem.tail _ (List.Mem.tail _ (List.Mem.head _))))))) ?_
              refine z_min X (show cdA 120 76 = some (.invokestatic 122, 3, 0, 8, 0) from rfl) ⟨by first | exact oq_fa4e5087 hi.2.1.1 | omega, by first | exact oq_5bcd337f hi.2.1.2 | omega⟩ ⟨by first | exact oq_97e58444 g1013 | omega, by first | exact oq_403249cf hi.2.2.1.2 hi.2.2.2 | omega⟩ (by rw [E.2.2.2]; decide) (by rw [E.2.2.2]; exact Nat.le_of_ble_eq_true rfl) (Nat.zero_le _) (Nat.zero_le _) (fun e1014 he1014 => ?_)
              refine z_store X (lv' := [(6, .int (Int32.ofInt e1014)), (9, .int (Int32.ofInt (iC t 1 (((xv * 24) + c)).toNat))), (0, .ref (A 3)), (1, .int (Int32.ofInt xv)), (2, .long lw), (4, .long hw), (7, .int (Int32.ofInt ru)), (8, .int (Int32.ofInt c))]) (show cdA 120 79 = some (.istore 6, 2, 0, 0, 0) from rfl) (by decide) (fun _ h => h) ?_
              refine z_const X (show cdA 120 81 = some (.iconst 0, 1, 0, 0, 0) from rfl) ?_
              refine z_store X (lv' := [(7, .int (Int32.ofInt 0)), (6, .int (Int32.ofInt e1014)), (9, .int (Int32.ofInt (iC t 1 (((xv * 24) + c)).toNat))), (0, .ref (A 3)), (1, .int (Int32.ofInt xv)), (2, .long lw), (4, .long hw), (8, .int (Int32.ofInt c))]) (show cdA 120 82 = some (.istore 7, 2, 0, 0, 0) from rfl) (by decide) (fun _ h => h) ?_
              refine z_inc X (x := c) (lv' := [(8, .int (Int32.ofInt (c + 1))), (7, .int (Int32.ofInt 0)), (6, .int (Int32.ofInt e1014)), (9, .int (Int32.ofInt (iC t 1 (((xv * 24) + c)).toNat))), (0, .ref (A 3)), (1, .int (Int32.ofInt xv)), (2, .long lw), (4, .long hw)]) (show cdA 120 84 = some (.iinc 8 1, 3, 0, 0, 0) from rfl) (by decide) (List.Mem.tail _ (List.Mem.tail _ (List.Mem.tail _ (List.Mem.tail _ (List.Mem.tail _ (List.Mem.tail _ (List.Mem.tail _ (List.Mem.head _)))))))) (fun _ h => h) ?_
              refine z_goto X (t := 10) (show cdA 120 87 = some (.goto (-77), 3, 0, 0, 0) from rfl) (by decide) ?_
              refine WS_lv (lv := [(0, .ref (A 3)), (1, .int (Int32.ofInt xv)), (2, .long lw), (4, .long hw), (6, .int (Int32.ofInt e1014)), (7, .int (Int32.ofInt 0)), (8, .int (Int32.ofInt (c + 1)))]) (List.forall_mem_cons.mpr ⟨(List.Mem.tail _ (List.Mem.tail _ (List.Mem.tail _ (List.Mem.tail _ (List.Mem.head _))))), (List.forall_mem_cons.mpr ⟨(List.Mem.tail _ (List.Mem.tail _ (List.Mem.tail _ (List.Mem.tail _ (List.Mem.tail _ (List.Mem.head _)))))), (List.forall_mem_cons.mpr ⟨(List.Mem.tail _ (List.Mem.tail _ (List.Mem.tail _ (List.Mem.tail _ (List.Mem.tail _ (List.Mem.tail _ (List.Mem.head _))))))), (List.forall_mem_cons.mpr ⟨(List.Mem.tail _ (List.Mem.tail _ (List.Mem.tail _ (List.Mem.tail _ (List.Mem.tail _ (List.Mem.tail _ (List.Mem.tail _ (List.Mem.head _)))))))), (List.forall_mem_cons.mpr ⟨(List.Mem.tail _ (List.Mem.tail _ (List.Mem.head _))), (List.forall_mem_cons.mpr ⟨(List.Mem.tail _ (List.Mem.head _)), (List.forall_mem_cons.mpr ⟨(List.Mem.head _), (fun q h => absurd h List.not_mem_nil)⟩)⟩)⟩)⟩)⟩)⟩)⟩) ?_
              exact ih _ xv lw hw e1014 0 (c + 1) I F (by first | exact ⟨And.intro (hi.1.1) (hi.1.2), oq_1253191b he1014 g1013 g1002 b1001.2 hi.2.2.1.2 hi.2.1.2 hi.2.1.1, And.intro (by decide) (oq_1b58957a hi.2.2.1.2 g1013), oq_41473be0 g1002 b1001.2⟩ | omega) (by first | exact qk_me hm (by decide) (oq_9dea93e6 g1002 b1001.2) | omega) kx
          ·
            refine z_inc X (x := ru) (lv' := [(7, .int (Int32.ofInt (ru + 1))), (9, .int (Int32.ofInt (iC t 1 (((xv * 24) + c)).toNat))), (0, .ref (A 3)), (1, .int (Int32.ofInt xv)), (2, .long lw), (4, .long hw), (6, .int (Int32.ofInt sh)), (8, .int (Int32.ofInt c))]) (show cdA 120 61 = some (.iinc 7 1, 3, 0, 0, 0) from rfl) (by decide) (List.Mem.tail _ (List.Mem.tail _ (List.Mem.tail _ (List.Mem.tail _ (List.Mem.tail _ (List.Mem.tail _ (List.Mem.head _))))))) (fun _ h => h) ?_
            refine z_goto X (t := 84) (show cdA 120 64 = some (.goto 20, 3, 0, 0, 0) from rfl) (by decide) ?_
            refine z_inc X (x := c) (lv' := [(8, .int (Int32.ofInt (c + 1))), (7, .int (Int32.ofInt (ru + 1))), (9, .int (Int32.ofInt (iC t 1 (((xv * 24) + c)).toNat))), (0, .ref (A 3)), (1, .int (Int32.ofInt xv)), (2, .long lw), (4, .long hw), (6, .int (Int32.ofInt sh))]) (show cdA 120 84 = some (.iinc 8 1, 3, 0, 0, 0) from rfl) (by decide) (List.Mem.tail _ (List.Mem.tail _ (List.Mem.tail _ (List.Mem.tail _ (List.Mem.tail _ (List.Mem.tail _ (List.Mem.tail _ (List.Mem.head _)))))))) (fun _ h => h) ?_
            refine z_goto X (t := 10) (show cdA 120 87 = some (.goto (-77), 3, 0, 0, 0) from rfl) (by decide) ?_
            refine WS_lv (lv := [(0, .ref (A 3)), (1, .int (Int32.ofInt xv)), (2, .long lw), (4, .long hw), (6, .int (Int32.ofInt sh)), (7, .int (Int32.ofInt (ru + 1))), (8, .int (Int32.ofInt (c + 1)))]) (List.forall_mem_cons.mpr ⟨(List.Mem.tail _ (List.Mem.tail _ (List.Mem.tail _ (List.Mem.head _)))), (List.forall_mem_cons.mpr ⟨(List.Mem.tail _ (List.Mem.tail _ (List.Mem.tail _ (List.Mem.tail _ (List.Mem.head _))))), (List.forall_mem_cons.mpr ⟨(List.Mem.tail _ (List.Mem.tail _ (List.Mem.tail _ (List.Mem.tail _ (List.Mem.tail _ (List.Mem.head _)))))), (List.forall_mem_cons.mpr ⟨(List.Mem.tail _ (List.Mem.tail _ (List.Mem.tail _ (List.Mem.tail _ (List.Mem.tail _ (List.Mem.tail _ (List.Mem.head _))))))), (List.forall_mem_cons.mpr ⟨(List.Mem.tail _ (List.Mem.tail _ (List.Mem.tail _ (List.Mem.tail _ (List.Mem.tail _ (List.Mem.tail _ (List.Mem.tail _ (List.Mem.head _)))))))), (List.forall_mem_cons.mpr ⟨(List.Mem.tail _ (List.Mem.head _)), (List.forall_mem_cons.mpr ⟨(List.Mem.head _), (fun q h => absurd h List.not_mem_nil)⟩)⟩)⟩)⟩)⟩)⟩)⟩) ?_
            exact ih _ xv lw hw sh (ru + 1) (c + 1) I F (by first | exact ⟨And.intro (hi.1.1) (hi.1.2), And.intro (hi.2.1.1) (hi.2.1.2), And.intro (oq_54f49eb5 hi.2.2.1.1) (oq_8d48a029 hi.2.2.1.2), oq_41473be0 g1002 b1001.2⟩ | omega) (by first | exact qk_me hm (by decide) (oq_9dea93e6 g1002 b1001.2) | omega) kx
        refine z_icmp_ge X (t := 46) (show cdA 120 39 = some (.if_icmp .ge 7, 3, 3, 0, 0) from rfl) (by decide) (rng_to _) (by decide) (fun g1015 => ?_) (fun g1015 => ?_)
        ·
          refine w_lload X.1 (ax_d X (show cdA 120 46 = some (.lload 4, 2, 0, 0, 0) from rfl)) (x := hw) (List.Mem.tail _ (List.Mem.tail _ (List.Mem.tail _ (List.Mem.tail _ (List.Mem.head _))))) ?_
          exact N1004 _
        ·
          refine w_lload_n X.1 (ax_d X (show cdA 120 42 = some (.lload_n 2, 1, 0, 0, 0) from rfl)) (x := lw) (List.Mem.tail _ (List.Mem.tail _ (List.Mem.tail _ (List.Mem.head _)))) ?_
          refine z_goto X (t := 48) (show cdA 120 43 = some (.goto 5, 3, 0, 0, 0) from rfl) (by decide) ?_
          exact N1004 _
  refine z_bipush X (show cdA 120 0 = some (.bipush 24, 2, 0, 0, 24) from rfl) ?_
  refine z_store X (lv' := [(6, .int (Int32.ofInt 24)), (0, .ref (A 3)), (1, .int (Int32.ofInt x)), (2, .long lo), (4, .long hi0)]) (show cdA 120 2 = some (.istore 6, 2, 0, 0, 0) from rfl) (by decide) (fun _ h => h) ?_
  refine z_const X (show cdA 120 4 = some (.iconst 0, 1, 0, 0, 0) from rfl) ?_
  refine z_store X (lv' := [(7, .int (Int32.ofInt 0)), (6, .int (Int32.ofInt 24)), (0, .ref (A 3)), (1, .int (Int32.ofInt x)), (2, .long lo), (4, .long hi0)]) (show cdA 120 5 = some (.istore 7, 2, 0, 0, 0) from rfl) (by decide) (fun _ h => h) ?_
  refine z_const X (show cdA 120 7 = some (.iconst 0, 1, 0, 0, 0) from rfl) ?_
  refine z_store X (lv' := [(8, .int (Int32.ofInt 0)), (7, .int (Int32.ofInt 0)), (6, .int (Int32.ofInt 24)), (0, .ref (A 3)), (1, .int (Int32.ofInt x)), (2, .long lo), (4, .long hi0)]) (show cdA 120 8 = some (.istore 8, 2, 0, 0, 0) from rfl) (by decide) (fun _ h => h) ?_
  refine WS_lv (lv := [(0, .ref (A 3)), (1, .int (Int32.ofInt x)), (2, .long lo), (4, .long hi0), (6, .int (Int32.ofInt 24)), (7, .int (Int32.ofInt 0)), (8, .int (Int32.ofInt 0))]) (List.forall_mem_cons.mpr ⟨(List.Mem.tail _ (List.Mem.tail _ (List.Mem.tail _ (List.Mem.head _)))), (List.forall_mem_cons.mpr ⟨(List.Mem.tail _ (List.Mem.tail _ (List.Mem.tail _ (List.Mem.tail _ (List.Mem.head _))))), (List.forall_mem_cons.mpr ⟨(List.Mem.tail _ (List.Mem.tail _ (List.Mem.tail _ (List.Mem.tail _ (List.Mem.tail _ (List.Mem.head _)))))), (List.forall_mem_cons.mpr ⟨(List.Mem.tail _ (List.Mem.tail _ (List.Mem.tail _ (List.Mem.tail _ (List.Mem.tail _ (List.Mem.tail _ (List.Mem.head _))))))), (List.forall_mem_cons.mpr ⟨(List.Mem.tail _ (List.Mem.tail _ (List.Mem.head _))), (List.forall_mem_cons.mpr ⟨(List.Mem.tail _ (List.Mem.head _)), (List.forall_mem_cons.mpr ⟨(List.Mem.head _), (fun q h => absurd h List.not_mem_nil)⟩)⟩)⟩)⟩)⟩)⟩)⟩) ?_
  refine L10 ((24 - 0 : Int).toNat + 1) s x lo hi0 24 0 0 I F (by first | exact ⟨And.intro (p0.1) (p0.2), And.intro (by decide) (by decide), And.intro (by decide) (by decide), by decide⟩ | omega) (Nat.lt_succ_self _) ?_
  intro s1 x2 x3 x4 Is1 Fs1 hs1
  refine z_load X (x := x3) (show cdA 120 90 = some (.iload 7, 2, 0, 0, 0) from rfl) (List.Mem.tail _ (List.Mem.tail _ (List.Mem.tail _ (List.Mem.tail _ (List.Mem.tail _ (List.Mem.head _)))))) ?_
  refine z_if_le X (t := 105) (show cdA 120 92 = some (.ifCond .le 13, 3, 5, 0, 0) from rfl) (by decide) ⟨by first | exact oq_fa4e5087 hs1.2.2.1.1 | omega, by first | exact oq_403249cf hs1.2.2.1.2 hs1.2.2.2 | omega⟩ (fun g5 => ?_) (fun g5 => ?_)
  ·
    refine z_load X (x := x2) (show cdA 120 105 = some (.iload 6, 2, 0, 0, 0) from rfl) (List.Mem.tail _ (List.Mem.tail _ (List.Mem.tail _ (List.Mem.tail _ (List.Mem.head _))))) ?_
    exact w_iret X.1 q hRt rfl (ax_d X (show cdA 120 107 = some (.ireturn, 1, 0, 0, 0) from rfl)) (Nat.zero_le _) (Nat.zero_le _) ⟨_, rfl, Is1, Fs1, x2, rfl, ⟨by first | exact oq_fa4e5087 hs1.2.1.1 | omega, by first | exact oq_5bcd337f hs1.2.1.2 | omega⟩, by first | exact ⟨hs1.2.1.1, hs1.2.1.2⟩ | omega⟩
  ·
    refine z_load X (x := x2) (show cdA 120 95 = some (.iload 6, 2, 0, 0, 0) from rfl) (List.Mem.tail _ (List.Mem.tail _ (List.Mem.tail _ (List.Mem.tail _ (List.Mem.head _))))) ?_
    refine z_load X (x := x3) (show cdA 120 97 = some (.iload 7, 2, 0, 0, 0) from rfl) (List.Mem.tail _ (List.Mem.tail _ (List.Mem.tail _ (List.Mem.tail _ (List.Mem.tail _ (List.Mem.head _)))))) ?_
    refine z_min X (show cdA 120 99 = some (.invokestatic 122, 3, 0, 8, 0) from rfl) ⟨by first | exact oq_fa4e5087 hs1.2.1.1 | omega, by first | exact oq_5bcd337f hs1.2.1.2 | omega⟩ ⟨by first | exact oq_97e58444 g5 | omega, by first | exact oq_403249cf hs1.2.2.1.2 hs1.2.2.2 | omega⟩ (by rw [E.2.2.2]; decide) (by rw [E.2.2.2]; exact Nat.le_of_ble_eq_true rfl) (Nat.zero_le _) (Nat.zero_le _) (fun e6 he6 => ?_)
    refine z_goto X (t := 107) (show cdA 120 102 = some (.goto 5, 3, 0, 0, 0) from rfl) (by decide) ?_
    exact w_iret X.1 q hRt rfl (ax_d X (show cdA 120 107 = some (.ireturn, 1, 0, 0, 0) from rfl)) (Nat.zero_le _) (Nat.zero_le _) ⟨_, rfl, Is1, Fs1, e6, rfl, ⟨by first | exact oq_86d733fe he6 g5 hs1.2.1.1 | omega, by first | exact oq_28aa47c9 he6 hs1.2.1.2 | omega⟩, by first | exact ⟨oq_d21c86c8 he6 g5 hs1.2.1.1, oq_6d24c36f he6 hs1.2.1.2⟩ | omega⟩
set_option maxRecDepth 4000 in
theorem c9_shorterThan_3 (G : GX l s0 D tys a0 dT) (I : Bd s) {x : Int} {lo hi0 : Int64} (p0 : 0 ≤ x ∧ x ≤ 9) : CT l s0 D A dT 119 (rmN 119) [.ref (A 3), .int (Int32.ofInt x), .long lo, .long hi0] s (fun o t => Bd t ∧ Fm [] [] s t ∧ ∃ e, o = .inl (some (.int (Int32.ofInt e))) ∧ rng e ∧ (True)) := by
  refine ct_ofX G (by decide) (Nat.le_of_ble_eq_true rfl) (fun k X E ET hRt hXt q => ?_)
  show WS k 0 [(0, .ref (A 3)), (1, .int (Int32.ofInt x)), (2, .long lo), (4, .long hi0)] [] _ 0 0
  have F : Fm [] [] s s := fm_rf _ _ s
  have b1 : (0 : Int) ≤ iI s 9 ∧ iI s 9 ≤ 12 := I.1 9
  have L6 : ∀ (n : Nat) (t : PS) (xv : Int) (lw : Int64) (hw : Int64) (bi : Int) (c : Int), Bd t → Fm [] [] s t → ((0 ≤ xv ∧ xv ≤ 9) ∧ rng bi ∧ 0 ≤ c ∧ c ≤ 12) → (12 - c : Int).toNat < n → (∀ (t' : PS) (bi' : Int) (c' : Int), Bd t' → Fm [] [] s t' → ((0 ≤ xv ∧ xv ≤ 9) ∧ rng bi' ∧ 0 ≤ c' ∧ c' ≤ 12) → WS k 43 [(0, .ref (A 3)), (1, .int (Int32.ofInt xv)), (2, .long lw), (4, .long hw), (6, .int (Int32.ofInt bi')), (7, .int (Int32.ofInt c'))] [] (Wd A dT t') 0 0) → WS k 6 [(0, .ref (A 3)), (1, .int (Int32.ofInt xv)), (2, .long lw), (4, .long hw), (6, .int (Int32.ofInt bi)), (7, .int (Int32.ofInt c))] [] (Wd A dT t) 0 0 := by
    intro n
    induction n with
    | zero =>
      intro t xv lw hw bi c I F hi hm kx
      exact absurd hm (Nat.not_lt_zero _)
    | succ n ih =>
      intro t xv lw hw bi c I F hi hm kx
      have b1001 : (0 : Int) ≤ iI t 9 ∧ iI t 9 ≤ 12 := I.1 9
      refine z_load X (x := c) (show cdA 119 6 = some (.iload 7, 2, 0, 0, 0) from rfl) (List.Mem.tail _ (List.Mem.tail _ (List.Mem.tail _ (List.Mem.tail _ (List.Mem.tail _ (List.Mem.head _)))))) ?_
      refine z_aload_n X (x := A 3) (show cdA 119 8 = some (.aload_n 0, 1, 0, 0, 0) from rfl) (List.Mem.head _) ?_
      refine z_getI X 3 (show cdA 119 9 = some (.getfield 99, 3, 9, 0, 0) from rfl) (by decide) rfl rfl ?_
      have b1002 : (0 : Int) ≤ iI t 9 ∧ iI t 9 ≤ 12 := I.1 9
      refine z_icmp_ge X (t := 43) (show cdA 119 12 = some (.if_icmp .ge 31, 3, 3, 0, 0) from rfl) (by decide) ⟨by first | exact oq_fa4e5087 hi.2.2.1 | omega, by first | exact oq_78843a64 hi.2.2.2 | omega⟩ (rng_to _) (fun g1003 => ?_) (fun g1003 => ?_)
      ·
        refine WS_lv (lv := [(0, .ref (A 3)), (1, .int (Int32.ofInt xv)), (2, .long lw), (4, .long hw), (6, .int (Int32.ofInt bi)), (7, .int (Int32.ofInt c))]) (List.forall_mem_cons.mpr ⟨(List.Mem.head _), (List.forall_mem_cons.mpr ⟨(List.Mem.tail _ (List.Mem.head _)), (List.forall_mem_cons.mpr ⟨(List.Mem.tail _ (List.Mem.tail _ (List.Mem.head _))), (List.forall_mem_cons.mpr ⟨(List.Mem.tail _ (List.Mem.tail _ (List.Mem.tail _ (List.Mem.head _)))), (List.forall_mem_cons.mpr ⟨(List.Mem.tail _ (List.Mem.tail _ (List.Mem.tail _ (List.Mem.tail _ (List.Mem.head _))))), (List.forall_mem_cons.mpr ⟨(List.Mem.tail _ (List.Mem.tail _ (List.Mem.tail _ (List.Mem.tail _ (List.Mem.tail _ (List.Mem.head _)))))), (fun q h => absurd h List.not_mem_nil)⟩)⟩)⟩)⟩)⟩)⟩) ?_
        exact kx _ bi c I F (by first | exact ⟨And.intro (hi.1.1) (hi.1.2), And.intro (hi.2.1.1) (hi.2.1.2), hi.2.2.1, hi.2.2.2⟩ | omega)
      ·
        refine z_aload_n X (x := A 3) (show cdA 119 15 = some (.aload_n 0, 1, 0, 0, 0) from rfl) (List.Mem.head _) ?_
        refine z_load X (x := c) (show cdA 119 16 = some (.iload 7, 2, 0, 0, 0) from rfl) (List.Mem.tail _ (List.Mem.tail _ (List.Mem.tail _ (List.Mem.tail _ (List.Mem.tail _ (List.Mem.head _)))))) ?_
        refine w_lload_n X.1 (ax_d X (show cdA 119 18 = some (.lload_n 2, 1, 0, 0, 0) from rfl)) (x := lw) (List.Mem.tail _ (List.Mem.tail _ (List.Mem.head _))) ?_
        refine w_lload X.1 (ax_d X (show cdA 119 19 = some (.lload 4, 2, 0, 0, 0) from rfl)) (x := hw) (List.Mem.tail _ (List.Mem.tail _ (List.Mem.tail _ (List.Mem.head _)))) ?_
        refine z_callV X 3 (rm := rmN 120) (As := [.int (Int32.ofInt c), .long lw, .long hw]) (st := []) (show cdA 119 21 = some (.invokevirtual 152, 3, 120, 0, 0) from rfl) rfl (by decide) rfl (by rw [E.1, E.2.1, E.2.2.1]; exact c9_shortestStretch_3 G I (by first | exact ⟨hi.2.2.1, oq_e4d7f3c5 g1003 b1002.2⟩ | omega)) ⟨by rw [E.2.2.2]; exact (show (rmN 120).frames + 1 ≤ (rmN 119).frames by decide), by rw [E.2.2.2]; exact (show 8 + (mNL (miB 120) + 11) + (rmN 120).locals ≤ (rmN 119).locals by decide), by rw [E.2.2.2]; exact (show 0 + (rmN 120).cells ≤ (rmN 119).cells by decide), by rw [E.2.2.2]; exact (show 0 + (rmN 120).slots ≤ (rmN 119).slots by decide)⟩ (Nat.le_of_ble_eq_true rfl) (fun vv s1004 hq => ?_) (fun ee s1004 hq => ?_)
        rotate_left
        · obtain ⟨Is1004, Fs1004, e1005, hv, hrs1004, hps1004⟩ := hq; cases hv
        obtain ⟨Is1004, Fs1004, e1005, hv, hrs1004, hps1004⟩ := hq
        cases hv
        have Gs1004 := fm_ts F Fs1004 (by decide) (by decide)
        have ws1004_9 : iI s1004 9 = iI t 9 := fm_i Fs1004 (by decide)
        show WS k 24 [(0, .ref (A 3)), (1, .int (Int32.ofInt xv)), (2, .long lw), (4, .long hw), (6, .int (Int32.ofInt bi)), (7, .int (Int32.ofInt c))] [.int (Int32.ofInt e1005)] (Wd A dT s1004) 0 0
        refine z_load_n X (x := xv) (show cdA 119 24 = some (.iload_n 1, 1, 0, 0, 0) from rfl) (List.Mem.tail _ (List.Mem.head _)) ?_
        refine z_icmp_ge X (t := 37) (show cdA 119 25 = some (.if_icmp .ge 12, 3, 3, 0, 0) from rfl) (by decide) hrs1004 ⟨by first | exact oq_fa4e5087 hi.1.1 | omega, by first | exact oq_f7e7bb0e hi.1.2 | omega⟩ (fun g1006 => ?_) (fun g1006 => ?_)
        ·
          refine z_inc X (x := c) (lv' := [(7, .int (Int32.ofInt (c + 1))), (0, .ref (A 3)), (1, .int (Int32.ofInt xv)), (2, .long lw), (4, .long hw), (6, .int (Int32.ofInt bi))]) (show cdA 119 37 = some (.iinc 7 1, 3, 0, 0, 0) from rfl) (by decide) (List.Mem.tail _ (List.Mem.tail _ (List.Mem.tail _ (List.Mem.tail _ (List.Mem.tail _ (List.Mem.head _)))))) (fun _ h => h) ?_
          refine z_goto X (t := 6) (show cdA 119 40 = some (.goto (-34), 3, 0, 0, 0) from rfl) (by decide) ?_
          refine WS_lv (lv := [(0, .ref (A 3)), (1, .int (Int32.ofInt xv)), (2, .long lw), (4, .long hw), (6, .int (Int32.ofInt bi)), (7, .int (Int32.ofInt (c + 1)))]) (List.forall_mem_cons.mpr ⟨(List.Mem.tail _ (List.Mem.head _)), (List.forall_mem_cons.mpr ⟨(List.Mem.tail _ (List.Mem.tail _ (List.Mem.head _))), (List.forall_mem_cons.mpr ⟨(List.Mem.tail _ (List.Mem.tail _ (List.Mem.tail _ (List.Mem.head _)))), (List.forall_mem_cons.mpr ⟨(List.Mem.tail _ (List.Mem.tail _ (List.Mem.tail _ (List.Mem.tail _ (List.Mem.head _))))), (List.forall_mem_cons.mpr ⟨(List.Mem.tail _ (List.Mem.tail _ (List.Mem.tail _ (List.Mem.tail _ (List.Mem.tail _ (List.Mem.head _)))))), (List.forall_mem_cons.mpr ⟨(List.Mem.head _), (fun q h => absurd h List.not_mem_nil)⟩)⟩)⟩)⟩)⟩)⟩) ?_
          exact ih _ xv lw hw bi (c + 1) Is1004 Gs1004 (by first | exact ⟨And.intro (hi.1.1) (hi.1.2), And.intro (hi.2.1.1) (hi.2.1.2), oq_54f49eb5 hi.2.2.1, oq_4dae995e g1003 b1002.2⟩ | omega) (by first | exact qk_me hm (by decide) (oq_b575e8c1 g1003 b1002.2) | omega) kx
        ·
          refine z_load X (x := bi) (show cdA 119 28 = some (.iload 6, 2, 0, 0, 0) from rfl) (List.Mem.tail _ (List.Mem.tail _ (List.Mem.tail _ (List.Mem.tail _ (List.Mem.head _))))) ?_
          refine z_const X (show cdA 119 30 = some (.iconst 1, 1, 0, 0, 0) from rfl) ?_
          refine z_load X (x := c) (show cdA 119 31 = some (.iload 7, 2, 0, 0, 0) from rfl) (List.Mem.tail _ (List.Mem.tail _ (List.Mem.tail _ (List.Mem.tail _ (List.Mem.tail _ (List.Mem.head _)))))) ?_
          refine z_bshl X (show cdA 119 33 = some (.ishl, 1, 0, 0, 0) from rfl) ?_
          refine z_any (fun y1007 hy1007 => ?_)
          refine z_bor X (show cdA 119 34 = some (.ior, 1, 0, 0, 0) from rfl) ?_
          refine z_any (fun y1008 hy1008 => ?_)
          refine z_store X (lv' := [(6, .int (Int32.ofInt y1008)), (0, .ref (A 3)), (1, .int (Int32.ofInt xv)), (2, .long lw), (4, .long hw), (7, .int (Int32.ofInt c))]) (show cdA 119 35 = some (.istore 6, 2, 0, 0, 0) from rfl) (by decide) (fun _ h => h) ?_
          refine z_inc X (x := c) (lv' := [(7, .int (Int32.ofInt (c + 1))), (6, .int (Int32.ofInt y1008)), (0, .ref (A 3)), (1, .int (Int32.ofInt xv)), (2, .long lw), (4, .long hw)]) (show cdA 119 37 = some (.iinc 7 1, 3, 0, 0, 0) from rfl) (by decide) (List.Mem.tail _ (List.Mem.tail _ (List.Mem.tail _ (List.Mem.tail _ (List.Mem.tail _ (List.Mem.head _)))))) (fun _ h => h) ?_
          refine z_goto X (t := 6) (show cdA 119 40 = some (.goto (-34), 3, 0, 0, 0) from rfl) (by decide) ?_
          refine WS_lv (lv := [(0, .ref (A 3)), (1, .int (Int32.ofInt xv)), (2, .long lw), (4, .long hw), (6, .int (Int32.ofInt y1008)), (7, .int (Int32.ofInt (c + 1)))]) (List.forall_mem_cons.mpr ⟨(List.Mem.tail _ (List.Mem.tail _ (List.Mem.head _))), (List.forall_mem_cons.mpr ⟨(List.Mem.tail _ (List.Mem.tail _ (List.Mem.tail _ (List.Mem.head _)))), (List.forall_mem_cons.mpr ⟨(List.Mem.tail _ (List.Mem.tail _ (List.Mem.tail _ (List.Mem.tail _ (List.Mem.head _))))), (List.forall_mem_cons.mpr ⟨(List.Mem.tail _ (List.Mem.tail _ (List.Mem.tail _ (List.Mem.tail _ (List.Mem.tail _ (List.Mem.head _)))))), (List.forall_mem_cons.mpr ⟨(List.Mem.tail _ (List.Mem.head _)), (List.forall_mem_cons.mpr ⟨(List.Mem.head _), (fun q h => absurd h List.not_mem_nil)⟩)⟩)⟩)⟩)⟩)⟩) ?_
          exact ih _ xv lw hw y1008 (c + 1) Is1004 Gs1004 (by first | exact ⟨And.intro (hi.1.1) (hi.1.2), And.intro (hy1008.1) (hy1008.2), oq_54f49eb5 hi.2.2.1, oq_4dae995e g1003 b1002.2⟩ | omega) (by first | exact qk_me hm (by decide) (oq_b575e8c1 g1003 b1002.2) | omega) kx
  refine z_const X (show cdA 119 0 = some (.iconst 0, 1, 0, 0, 0) from rfl) ?_
  refine z_store X (lv' := [(6, .int (Int32.ofInt 0)), (0, .ref (A 3)), (1, .int (Int32.ofInt x)), (2, .long lo), (4, .long hi0)]) (show cdA 119 1 = some (.istore 6, 2, 0, 0, 0) from rfl) (by decide) (fun _ h => h) ?_
  refine z_const X (show cdA 119 3 = some (.iconst 0, 1, 0, 0, 0) from rfl) ?_
  refine z_store X (lv' := [(7, .int (Int32.ofInt 0)), (6, .int (Int32.ofInt 0)), (0, .ref (A 3)), (1, .int (Int32.ofInt x)), (2, .long lo), (4, .long hi0)]) (show cdA 119 4 = some (.istore 7, 2, 0, 0, 0) from rfl) (by decide) (fun _ h => h) ?_
  refine WS_lv (lv := [(0, .ref (A 3)), (1, .int (Int32.ofInt x)), (2, .long lo), (4, .long hi0), (6, .int (Int32.ofInt 0)), (7, .int (Int32.ofInt 0))]) (List.forall_mem_cons.mpr ⟨(List.Mem.tail _ (List.Mem.tail _ (List.Mem.head _))), (List.forall_mem_cons.mpr ⟨(List.Mem.tail _ (List.Mem.tail _ (List.Mem.tail _ (List.Mem.head _)))), (List.forall_mem_cons.mpr ⟨(List.Mem.tail _ (List.Mem.tail _ (List.Mem.tail _ (List.Mem.tail _ (List.Mem.head _))))), (List.forall_mem_cons.mpr ⟨(List.Mem.tail _ (List.Mem.tail _ (List.Mem.tail _ (List.Mem.tail _ (List.Mem.tail _ (List.Mem.head _)))))), (List.forall_mem_cons.mpr ⟨(List.Mem.tail _ (List.Mem.head _)), (List.forall_mem_cons.mpr ⟨(List.Mem.head _), (fun q h => absurd h List.not_mem_nil)⟩)⟩)⟩)⟩)⟩)⟩) ?_
  refine L6 ((12 - 0 : Int).toNat + 1) s x lo hi0 0 0 I F (by first | exact ⟨And.intro (p0.1) (p0.2), And.intro (by decide) (by decide), by decide, by decide⟩ | omega) (Nat.lt_succ_self _) ?_
  intro s2 x3 x4 Is2 Fs2 hs2
  have b5 : (0 : Int) ≤ iI s2 9 ∧ iI s2 9 ≤ 12 := Is2.1 9
  refine z_load X (x := x3) (show cdA 119 43 = some (.iload 6, 2, 0, 0, 0) from rfl) (List.Mem.tail _ (List.Mem.tail _ (List.Mem.tail _ (List.Mem.tail _ (List.Mem.head _))))) ?_
  exact w_iret X.1 q hRt rfl (ax_d X (show cdA 119 45 = some (.ireturn, 1, 0, 0, 0) from rfl)) (Nat.zero_le _) (Nat.zero_le _) ⟨_, rfl, Is2, Fs2, x3, rfl, ⟨by first | exact hs2.2.1.1 | omega, by first | exact hs2.2.1.2 | omega⟩, trivial⟩
end M72
