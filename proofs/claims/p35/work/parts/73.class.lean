/-! The class: the parting -/
section M73
variable {l : Launch} {s0 : State} {D : va_G} {tys : List (ClassId × FieldType)} {a0 : Array Value} {A : Nat → Nat} {dT : Nat → ClassId} {s : PS}
set_option maxRecDepth 4000 in
theorem c3_put_25 (G : GX l s0 D tys a0 dT) (I : Bd s) {x y : Int} (p0 : 0 ≤ x ∧ x ≤ 127) (p1 : -1 ≤ y ∧ y ≤ 7) : CT l s0 D A dT 28 (rmN 28) [.ref (A 25), .int (Int32.ofInt x), .int (Int32.ofInt y)] s (fun o t => Bd t ∧ Fm [] [21, 1022, 1023] s t ∧ ∃ e, o = .inl (some (.int (Int32.ofInt e))) ∧ rng e ∧ (-1 ≤ e ∧ e ≤ 7)) := by
  refine ct_ofX G (by decide) (Nat.le_of_ble_eq_true rfl) (fun k X E ET hRt hXt q => ?_)
  show WS k 0 [(0, .ref (A 25)), (1, .int (Int32.ofInt x)), (2, .int (Int32.ofInt y))] [] _ 0 0
  have F : Fm [] [21, 1022, 1023] s s := fm_rf _ _ s
  refine z_aload_n X (x := A 25) (show cdA 28 0 = some (.aload_n 0, 1, 0, 0, 0) from rfl) (List.Mem.head _) ?_
  refine s_getR X 25 (show cdA 28 1 = some (.getfield 9, 3, 3, 0, 0) from rfl) (by decide) rfl rfl ?_
  refine z_load_n X (x := x) (show cdA 28 4 = some (.iload_n 1, 1, 0, 0, 0) from rfl) (List.Mem.tail _ (List.Mem.head _)) ?_
  refine z_ald X 26 (show cdA 28 5 = some (.iaload, 1, 0, 0, 0) from rfl) (by decide) rfl (by first | exact p0.1 | omega) (show x < 128 by first | exact oq_31b2bf10 p0.2 | omega) (by decide) ?_
  have b1 : ((-1) : Int) ≤ iC s 21 (x).toNat ∧ iC s 21 (x).toNat ≤ 7 := I.2 21 _ (show (x).toNat < 128 by first | exact oq_c7f4e9c1 p0.2 | omega)
  refine z_store_n X (lv' := [(3, .int (Int32.ofInt (iC s 21 (x).toNat))), (0, .ref (A 25)), (1, .int (Int32.ofInt x)), (2, .int (Int32.ofInt y))]) (show cdA 28 6 = some (.istore_n 3, 1, 0, 0, 0) from rfl) (by decide) (fun _ h => h) ?_
  refine w_lconst X.1 (ax_d X (show cdA 28 7 = some (.lconst 1, 1, 0, 0, 0) from rfl)) rfl ?_
  refine z_anyJ (fun j2 => ?_)
  refine z_load_n X (x := x) (show cdA 28 8 = some (.iload_n 1, 1, 0, 0, 0) from rfl) (List.Mem.tail _ (List.Mem.tail _ (List.Mem.head _))) ?_
  refine z_bipush X (show cdA 28 9 = some (.bipush 63, 2, 0, 0, 63) from rfl) ?_
  refine z_andm X (show cdA 28 11 = some (.iand, 1, 0, 0, 0) from rfl) (by decide) (by decide) (fun y3 hy3 gy3 => ?_)
  refine w_lshl X.1 (ax_d X (show cdA 28 12 = some (.lshl, 1, 0, 0, 0) from rfl)) ?_
  refine z_anyJ (fun j4 => ?_)
  refine w_lstore X.1 (lv' := [(4, .long j4), (3, .int (Int32.ofInt (iC s 21 (x).toNat))), (0, .ref (A 25)), (1, .int (Int32.ofInt x)), (2, .int (Int32.ofInt y))]) (ax_d X (show cdA 28 13 = some (.lstore 4, 2, 0, 0, 0) from rfl)) (by rw [X.2.1.2.2]; decide) (fun _ h => h) ?_
  refine z_load_n X (x := x) (show cdA 28 15 = some (.iload_n 1, 1, 0, 0, 0) from rfl) (List.Mem.tail _ (List.Mem.tail _ (List.Mem.tail _ (List.Mem.head _)))) ?_
  refine z_bipush X (show cdA 28 16 = some (.bipush 64, 2, 0, 0, 64) from rfl) ?_
  refine z_icmp_ge X (t := 28) (show cdA 28 18 = some (.if_icmp .ge 10, 3, 3, 0, 0) from rfl) (by decide) ⟨by first | exact oq_fa4e5087 p0.1 | omega, by first | exact oq_07d346ce p0.2 | omega⟩ (by decide) (fun g5 => ?_) (fun g5 => ?_)
  ·
    refine z_aload_n X (x := A 25) (show cdA 28 28 = some (.aload_n 0, 1, 0, 0, 0) from rfl) (List.Mem.tail _ (List.Mem.tail _ (List.Mem.head _))) ?_
    refine s_getR X 25 (show cdA 28 29 = some (.getfield 19, 3, 3, 2, 0) from rfl) (by decide) rfl rfl ?_
    refine z_astore X (lv' := [(6, .ref (A 28)), (4, .long j4), (3, .int (Int32.ofInt (iC s 21 (x).toNat))), (0, .ref (A 25)), (1, .int (Int32.ofInt x)), (2, .int (Int32.ofInt y))]) (show cdA 28 32 = some (.astore 6, 2, 0, 0, 0) from rfl) (by decide) (fun _ h => h) ?_
    refine z_load_n X (x := (iC s 21 (x).toNat)) (show cdA 28 34 = some (.iload_n 3, 1, 0, 0, 0) from rfl) (List.Mem.tail _ (List.Mem.tail _ (List.Mem.head _))) ?_
    refine z_if_lt X (t := 51) (show cdA 28 35 = some (.ifCond .lt 16, 3, 2, 0, 0) from rfl) (by decide) (rng_to _) (fun g6 => ?_) (fun g6 => ?_)
    ·
      refine z_load_n X (x := y) (show cdA 28 51 = some (.iload_n 2, 1, 0, 0, 0) from rfl) (List.Mem.tail _ (List.Mem.tail _ (List.Mem.tail _ (List.Mem.tail _ (List.Mem.tail _ (List.Mem.head _)))))) ?_
      refine z_if_lt X (t := 64) (show cdA 28 52 = some (.ifCond .lt 12, 3, 2, 0, 0) from rfl) (by decide) ⟨by first | exact oq_97ee2c2a p1.1 | omega, by first | exact oq_0e78ca7d p1.2 | omega⟩ (fun g7 => ?_) (fun g7 => ?_)
      ·
        refine z_aload_n X (x := A 25) (show cdA 28 64 = some (.aload_n 0, 1, 0, 0, 0) from rfl) (List.Mem.tail _ (List.Mem.tail _ (List.Mem.tail _ (List.Mem.head _)))) ?_
        refine s_getR X 25 (show cdA 28 65 = some (.getfield 9, 3, 3, 0, 0) from rfl) (by decide) rfl rfl ?_
        refine z_load_n X (x := x) (show cdA 28 68 = some (.iload_n 1, 1, 0, 0, 0) from rfl) (List.Mem.tail _ (List.Mem.tail _ (List.Mem.tail _ (List.Mem.tail _ (List.Mem.head _))))) ?_
        refine z_load_n X (x := y) (show cdA 28 69 = some (.iload_n 2, 1, 0, 0, 0) from rfl) (List.Mem.tail _ (List.Mem.tail _ (List.Mem.tail _ (List.Mem.tail _ (List.Mem.tail _ (List.Mem.head _)))))) ?_
        refine z_ast X 26 (show cdA 28 70 = some (.iastore, 1, 0, 0, 0) from rfl) (by decide) rfl (by first | exact p0.1 | omega) (show x < 128 by first | exact oq_31b2bf10 p0.2 | omega) (by decide) ?_
        obtain ⟨s8, hs8⟩ : ∃ x0, x0 = uC s 21 (x).toNat (Int32.ofInt y) := ⟨_, rfl⟩
        rw [← hs8]
        have Is8 : Bd s8 := by rw [hs8]; exact bd_C I (show ((-1) : Int) ≤ y ∧ y ≤ 7 by first | exact ⟨p1.1, p1.2⟩ | omega) ⟨by first | exact oq_97ee2c2a p1.1 | omega, by first | exact oq_b87c5b03 g7 | omega⟩
        have Fs8 := fm_C (i := (x).toNat) (x := Int32.ofInt y) F (show 21 ∈ _ by decide)
        rw [← hs8] at Fs8
        refine z_load_n X (x := (iC s 21 (x).toNat)) (show cdA 28 71 = some (.iload_n 3, 1, 0, 0, 0) from rfl) (List.Mem.tail _ (List.Mem.tail _ (List.Mem.head _))) ?_
        exact w_iret X.1 q hRt rfl (ax_d X (show cdA 28 72 = some (.ireturn, 1, 0, 0, 0) from rfl)) (Nat.zero_le _) (Nat.zero_le _) ⟨_, rfl, Is8, Fs8, (iC s 21 (x).toNat), rfl, (rng_to _), by first | exact ⟨b1.1, b1.2⟩ | omega⟩
      ·
        refine z_aload X (x := A 28) (show cdA 28 55 = some (.aload 6, 2, 0, 0, 0) from rfl) (List.Mem.head _) ?_
        refine z_load_n X (x := y) (show cdA 28 57 = some (.iload_n 2, 1, 0, 0, 0) from rfl) (List.Mem.tail _ (List.Mem.tail _ (List.Mem.tail _ (List.Mem.tail _ (List.Mem.tail _ (List.Mem.head _)))))) ?_
        refine w_dup2_11 X.1 (ax_d X (show cdA 28 58 = some (.dup2, 1, 0, 0, 0) from rfl)) rfl rfl ?_
        refine z_lald X 28 (show cdA 28 59 = some (.laload, 1, 0, 0, 0) from rfl) (by decide) rfl (by first | exact g7 | omega) (show y < 8 by first | exact oq_aaea290e p1.2 | omega) (by decide) (fun j9 => ?_)
        refine w_lload X.1 (ax_d X (show cdA 28 60 = some (.lload 4, 2, 0, 0, 0) from rfl)) (x := j4) (List.Mem.tail _ (List.Mem.head _)) ?_
        refine w_lor X.1 (ax_d X (show cdA 28 62 = some (.lor, 1, 0, 0, 0) from rfl)) ?_
        refine z_anyJ (fun j10 => ?_)
        refine z_last X 28 (show cdA 28 63 = some (.lastore, 1, 0, 0, 0) from rfl) (by decide) rfl (by first | exact g7 | omega) (show y < 8 by first | exact oq_aaea290e p1.2 | omega) (by decide) ?_
        obtain ⟨s11, hs11⟩ : ∃ x0, x0 = uD s 23 (y).toNat j10 := ⟨_, rfl⟩
        rw [← hs11]
        have Is11 : Bd s11 := by rw [hs11]; exact bd_D I
        have Fs11 : Fm [] [21, 1022, 1023] s s11 := by rw [hs11]; exact fm_D F (show 23 + 1000 ∈ _ by decide)
        refine z_aload_n X (x := A 25) (show cdA 28 64 = some (.aload_n 0, 1, 0, 0, 0) from rfl) (List.Mem.tail _ (List.Mem.tail _ (List.Mem.tail _ (List.Mem.head _)))) ?_
        refine s_getR X 25 (show cdA 28 65 = some (.getfield 9, 3, 3, 0, 0) from rfl) (by decide) rfl rfl ?_
        refine z_load_n X (x := x) (show cdA 28 68 = some (.iload_n 1, 1, 0, 0, 0) from rfl) (List.Mem.tail _ (List.Mem.tail _ (List.Mem.tail _ (List.Mem.tail _ (List.Mem.head _))))) ?_
        refine z_load_n X (x := y) (show cdA 28 69 = some (.iload_n 2, 1, 0, 0, 0) from rfl) (List.Mem.tail _ (List.Mem.tail _ (List.Mem.tail _ (List.Mem.tail _ (List.Mem.tail _ (List.Mem.head _)))))) ?_
        refine z_ast X 26 (show cdA 28 70 = some (.iastore, 1, 0, 0, 0) from rfl) (by decide) rfl (by first | exact p0.1 | omega) (show x < 128 by first | exact oq_31b2bf10 p0.2 | omega) (by decide) ?_
        obtain ⟨s12, hs12⟩ : ∃ x0, x0 = uC s11 21 (x).toNat (Int32.ofInt y) := ⟨_, rfl⟩
        rw [← hs12]
        have Is12 : Bd s12 := by rw [hs12]; exact bd_C Is11 (show ((-1) : Int) ≤ y ∧ y ≤ 7 by first | exact ⟨p1.1, p1.2⟩ | omega) ⟨by first | exact oq_fa4e5087 g7 | omega, by first | exact oq_0e78ca7d p1.2 | omega⟩
        have Fs12 := fm_C (i := (x).toNat) (x := Int32.ofInt y) Fs11 (show 21 ∈ _ by decide)
        rw [← hs12] at Fs12
        refine z_load_n X (x := (iC s 21 (x).toNat)) (show cdA 28 71 = some (.iload_n 3, 1, 0, 0, 0) from rfl) (List.Mem.tail _ (List.Mem.tail _ (List.Mem.head _))) ?_
        exact w_iret X.1 q hRt rfl (ax_d X (show cdA 28 72 = some (.ireturn, 1, 0, 0, 0) from rfl)) (Nat.zero_le _) (Nat.zero_le _) ⟨_, rfl, Is12, Fs12, (iC s 21 (x).toNat), rfl, (rng_to _), by first | exact ⟨b1.1, b1.2⟩ | omega⟩
    ·
      refine z_aload X (x := A 28) (show cdA 28 38 = some (.aload 6, 2, 0, 0, 0) from rfl) (List.Mem.head _) ?_
      refine z_load_n X (x := (iC s 21 (x).toNat)) (show cdA 28 40 = some (.iload_n 3, 1, 0, 0, 0) from rfl) (List.Mem.tail _ (List.Mem.tail _ (List.Mem.head _))) ?_
      refine w_dup2_11 X.1 (ax_d X (show cdA 28 41 = some (.dup2, 1, 0, 0, 0) from rfl)) rfl rfl ?_
      refine z_lald X 28 (show cdA 28 42 = some (.laload, 1, 0, 0, 0) from rfl) (by decide) rfl (by first | exact g6 | omega) (show (iC s 21 (x).toNat) < 8 by first | exact oq_aaea290e b1.2 | omega) (by decide) (fun j13 => ?_)
      refine w_lload X.1 (ax_d X (show cdA 28 43 = some (.lload 4, 2, 0, 0, 0) from rfl)) (x := j4) (List.Mem.tail _ (List.Mem.head _)) ?_
      refine z_ldc2 X (show cdA 28 45 = some (.ldc2_w 28, 3, 18446744073709551615, 0, 0) from rfl) (fun j14 => ?_)
      refine w_lxor X.1 (ax_d X (show cdA 28 48 = some (.lxor, 1, 0, 0, 0) from rfl)) ?_
      refine z_anyJ (fun j15 => ?_)
      refine w_land X.1 (ax_d X (show cdA 28 49 = some (.land, 1, 0, 0, 0) from rfl)) ?_
      refine z_anyJ (fun j16 => ?_)
      refine z_last X 28 (show cdA 28 50 = some (.lastore, 1, 0, 0, 0) from rfl) (by decide) rfl (by first | exact g6 | omega) (show (iC s 21 (x).toNat) < 8 by first | exact oq_aaea290e b1.2 | omega) (by decide) ?_
      obtain ⟨s17, hs17⟩ : ∃ x0, x0 = uD s 23 ((iC s 21 (x).toNat)).toNat j16 := ⟨_, rfl⟩
      rw [← hs17]
      have Is17 : Bd s17 := by rw [hs17]; exact bd_D I
      have Fs17 : Fm [] [21, 1022, 1023] s s17 := by rw [hs17]; exact fm_D F (show 23 + 1000 ∈ _ by decide)
      refine z_load_n X (x := y) (show cdA 28 51 = some (.iload_n 2, 1, 0, 0, 0) from rfl) (List.Mem.tail _ (List.Mem.tail _ (List.Mem.tail _ (List.Mem.tail _ (List.Mem.tail _ (List.Mem.head _)))))) ?_
      refine z_if_lt X (t := 64) (show cdA 28 52 = some (.ifCond .lt 12, 3, 2, 0, 0) from rfl) (by decide) ⟨by first | exact oq_97ee2c2a p1.1 | omega, by first | exact oq_0e78ca7d p1.2 | omega⟩ (fun g18 => ?_) (fun g18 => ?_)
      ·
        refine z_aload_n X (x := A 25) (show cdA 28 64 = some (.aload_n 0, 1, 0, 0, 0) from rfl) (List.Mem.tail _ (List.Mem.tail _ (List.Mem.tail _ (List.Mem.head _)))) ?_
        refine s_getR X 25 (show cdA 28 65 = some (.getfield 9, 3, 3, 0, 0) from rfl) (by decide) rfl rfl ?_
        refine z_load_n X (x := x) (show cdA 28 68 = some (.iload_n 1, 1, 0, 0, 0) from rfl) (List.Mem.tail _ (List.Mem.tail _ (List.Mem.tail _ (List.Mem.tail _ (List.Mem.head _))))) ?_
        refine z_load_n X (x := y) (show cdA 28 69 = some (.iload_n 2, 1, 0, 0, 0) from rfl) (List.Mem.tail _ (List.Mem.tail _ (List.Mem.tail _ (List.Mem.tail _ (List.Mem.tail _ (List.Mem.head _)))))) ?_
        refine z_ast X 26 (show cdA 28 70 = some (.iastore, 1, 0, 0, 0) from rfl) (by decide) rfl (by first | exact p0.1 | omega) (show x < 128 by first | exact oq_31b2bf10 p0.2 | omega) (by decide) ?_
        obtain ⟨s19, hs19⟩ : ∃ x0, x0 = uC s17 21 (x).toNat (Int32.ofInt y) := ⟨_, rfl⟩
        rw [← hs19]
        have Is19 : Bd s19 := by rw [hs19]; exact bd_C Is17 (show ((-1) : Int) ≤ y ∧ y ≤ 7 by first | exact ⟨p1.1, p1.2⟩ | omega) ⟨by first | exact oq_97ee2c2a p1.1 | omega, by first | exact oq_b87c5b03 g18 | omega⟩
        have Fs19 := fm_C (i := (x).toNat) (x := Int32.ofInt y) Fs17 (show 21 ∈ _ by decide)
        rw [← hs19] at Fs19
        refine z_load_n X (x := (iC s 21 (x).toNat)) (show cdA 28 71 = some (.iload_n 3, 1, 0, 0, 0) from rfl) (List.Mem.tail _ (List.Mem.tail _ (List.Mem.head _))) ?_
        exact w_iret X.1 q hRt rfl (ax_d X (show cdA 28 72 = some (.ireturn, 1, 0, 0, 0) from rfl)) (Nat.zero_le _) (Nat.zero_le _) ⟨_, rfl, Is19, Fs19, (iC s 21 (x).toNat), rfl, (rng_to _), by first | exact ⟨b1.1, b1.2⟩ | omega⟩
      ·
        refine z_aload X (x := A 28) (show cdA 28 55 = some (.aload 6, 2, 0, 0, 0) from rfl) (List.Mem.head _) ?_
        refine z_load_n X (x := y) (show cdA 28 57 = some (.iload_n 2, 1, 0, 0, 0) from rfl) (List.Mem.tail _ (List.Mem.tail _ (List.Mem.tail _ (List.Mem.tail _ (List.Mem.tail _ (List.Mem.head _)))))) ?_
        refine w_dup2_11 X.1 (ax_d X (show cdA 28 58 = some (.dup2, 1, 0, 0, 0) from rfl)) rfl rfl ?_
        refine z_lald X 28 (show cdA 28 59 = some (.laload, 1, 0, 0, 0) from rfl) (by decide) rfl (by first | exact g18 | omega) (show y < 8 by first | exact oq_aaea290e p1.2 | omega) (by decide) (fun j20 => ?_)
        refine w_lload X.1 (ax_d X (show cdA 28 60 = some (.lload 4, 2, 0, 0, 0) from rfl)) (x := j4) (List.Mem.tail _ (List.Mem.head _)) ?_
        refine w_lor X.1 (ax_d X (show cdA 28 62 = some (.lor, 1, 0, 0, 0) from rfl)) ?_
        refine z_anyJ (fun j21 => ?_)
        refine z_last X 28 (show cdA 28 63 = some (.lastore, 1, 0, 0, 0) from rfl) (by decide) rfl (by first | exact g18 | omega) (show y < 8 by first | exact oq_aaea290e p1.2 | omega) (by decide) ?_
        obtain ⟨s22, hs22⟩ : ∃ x0, x0 = uD s17 23 (y).toNat j21 := ⟨_, rfl⟩
        rw [← hs22]
        have Is22 : Bd s22 := by rw [hs22]; exact bd_D Is17
        have Fs22 : Fm [] [21, 1022, 1023] s s22 := by rw [hs22]; exact fm_D Fs17 (show 23 + 1000 ∈ _ by decide)
        refine z_aload_n X (x := A 25) (show cdA 28 64 = some (.aload_n 0, 1, 0, 0, 0) from rfl) (List.Mem.tail _ (List.Mem.tail _ (List.Mem.tail _ (List.Mem.head _)))) ?_
        refine s_getR X 25 (show cdA 28 65 = some (.getfield 9, 3, 3, 0, 0) from rfl) (by decide) rfl rfl ?_
        refine z_load_n X (x := x) (show cdA 28 68 = some (.iload_n 1, 1, 0, 0, 0) from rfl) (List.Mem.tail _ (List.Mem.tail _ (List.Mem.tail _ (List.Mem.tail _ (List.Mem.head _))))) ?_
        refine z_load_n X (x := y) (show cdA 28 69 = some (.iload_n 2, 1, 0, 0, 0) from rfl) (List.Mem.tail _ (List.Mem.tail _ (List.Mem.tail _ (List.Mem.tail _ (List.Mem.tail _ (List.Mem.head _)))))) ?_
        refine z_ast X 26 (show cdA 28 70 = some (.iastore, 1, 0, 0, 0) from rfl) (by decide) rfl (by first | exact p0.1 | omega) (show x < 128 by first | exact oq_31b2bf10 p0.2 | omega) (by decide) ?_
        obtain ⟨s23, hs23⟩ : ∃ x0, x0 = uC s22 21 (x).toNat (Int32.ofInt y) := ⟨_, rfl⟩
        rw [← hs23]
        have Is23 : Bd s23 := by rw [hs23]; exact bd_C Is22 (show ((-1) : Int) ≤ y ∧ y ≤ 7 by first | exact ⟨p1.1, p1.2⟩ | omega) ⟨by first | exact oq_fa4e5087 g18 | omega, by first | exact oq_0e78ca7d p1.2 | omega⟩
        have Fs23 := fm_C (i := (x).toNat) (x := Int32.ofInt y) Fs22 (show 21 ∈ _ by decide)
        rw [← hs23] at Fs23
        refine z_load_n X (x := (iC s 21 (x).toNat)) (show cdA 28 71 = some (.iload_n 3, 1, 0, 0, 0) from rfl) (List.Mem.tail _ (List.Mem.tail _ (List.Mem.head _))) ?_
        exact w_iret X.1 q hRt rfl (ax_d X (show cdA 28 72 = some (.ireturn, 1, 0, 0, 0) from rfl)) (Nat.zero_le _) (Nat.zero_le _) ⟨_, rfl, Is23, Fs23, (iC s 21 (x).toNat), rfl, (rng_to _), by first | exact ⟨b1.1, b1.2⟩ | omega⟩
  ·
    refine z_aload_n X (x := A 25) (show cdA 28 21 = some (.aload_n 0, 1, 0, 0, 0) from rfl) (List.Mem.tail _ (List.Mem.tail _ (List.Mem.head _))) ?_
    refine s_getR X 25 (show cdA 28 22 = some (.getfield 15, 3, 3, 1, 0) from rfl) (by decide) rfl rfl ?_
    refine z_goto X (t := 32) (show cdA 28 25 = some (.goto 7, 3, 0, 0, 0) from rfl) (by decide) ?_
    refine z_astore X (lv' := [(6, .ref (A 27)), (4, .long j4), (3, .int (Int32.ofInt (iC s 21 (x).toNat))), (0, .ref (A 25)), (1, .int (Int32.ofInt x)), (2, .int (Int32.ofInt y))]) (show cdA 28 32 = some (.astore 6, 2, 0, 0, 0) from rfl) (by decide) (fun _ h => h) ?_
    refine z_load_n X (x := (iC s 21 (x).toNat)) (show cdA 28 34 = some (.iload_n 3, 1, 0, 0, 0) from rfl) (List.Mem.tail _ (List.Mem.tail _ (List.Mem.head _))) ?_
    refine z_if_lt X (t := 51) (show cdA 28 35 = some (.ifCond .lt 16, 3, 2, 0, 0) from rfl) (by decide) (rng_to _) (fun g24 => ?_) (fun g24 => ?_)
    ·
      refine z_load_n X (x := y) (show cdA 28 51 = some (.iload_n 2, 1, 0, 0, 0) from rfl) (List.Mem.tail _ (List.Mem.tail _ (List.Mem.tail _ (List.Mem.tail _ (List.Mem.tail _ (List.Mem.head _)))))) ?_
      refine z_if_lt X (t := 64) (show cdA 28 52 = some (.ifCond .lt 12, 3, 2, 0, 0) from rfl) (by decide) ⟨by first | exact oq_97ee2c2a p1.1 | omega, by first | exact oq_0e78ca7d p1.2 | omega⟩ (fun g25 => ?_) (fun g25 => ?_)
      ·
        refine z_aload_n X (x := A 25) (show cdA 28 64 = some (.aload_n 0, 1, 0, 0, 0) from rfl) (List.Mem.tail _ (List.Mem.tail _ (List.Mem.tail _ (List.Mem.head _)))) ?_
        refine s_getR X 25 (show cdA 28 65 = some (.getfield 9, 3, 3, 0, 0) from rfl) (by decide) rfl rfl ?_
        refine z_load_n X (x := x) (show cdA 28 68 = some (.iload_n 1, 1, 0, 0, 0) from rfl) (List.Mem.tail _ (List.Mem.tail _ (List.Mem.tail _ (List.Mem.tail _ (List.Mem.head _))))) ?_
        refine z_load_n X (x := y) (show cdA 28 69 = some (.iload_n 2, 1, 0, 0, 0) from rfl) (List.Mem.tail _ (List.Mem.tail _ (List.Mem.tail _ (List.Mem.tail _ (List.Mem.tail _ (List.Mem.head _)))))) ?_
        refine z_ast X 26 (show cdA 28 70 = some (.iastore, 1, 0, 0, 0) from rfl) (by decide) rfl (by first | exact p0.1 | omega) (show x < 128 by first | exact oq_0b2c4d55 g5 | omega) (by decide) ?_
        obtain ⟨s26, hs26⟩ : ∃ x0, x0 = uC s 21 (x).toNat (Int32.ofInt y) := ⟨_, rfl⟩
        rw [← hs26]
        have Is26 : Bd s26 := by rw [hs26]; exact bd_C I (show ((-1) : Int) ≤ y ∧ y ≤ 7 by first | exact ⟨p1.1, p1.2⟩ | omega) ⟨by first | exact oq_97ee2c2a p1.1 | omega, by first | exact oq_b87c5b03 g25 | omega⟩
        have Fs26 := fm_C (i := (x).toNat) (x := Int32.ofInt y) F (show 21 ∈ _ by decide)
        rw [← hs26] at Fs26
        refine z_load_n X (x := (iC s 21 (x).toNat)) (show cdA 28 71 = some (.iload_n 3, 1, 0, 0, 0) from rfl) (List.Mem.tail _ (List.Mem.tail _ (List.Mem.head _))) ?_
        exact w_iret X.1 q hRt rfl (ax_d X (show cdA 28 72 = some (.ireturn, 1, 0, 0, 0) from rfl)) (Nat.zero_le _) (Nat.zero_le _) ⟨_, rfl, Is26, Fs26, (iC s 21 (x).toNat), rfl, (rng_to _), by first | exact ⟨b1.1, b1.2⟩ | omega⟩
      ·
        refine z_aload X (x := A 27) (show cdA 28 55 = some (.aload 6, 2, 0, 0, 0) from rfl) (List.Mem.head _) ?_
        refine z_load_n X (x := y) (show cdA 28 57 = some (.iload_n 2, 1, 0, 0, 0) from rfl) (List.Mem.tail _ (List.Mem.tail _ (List.Mem.tail _ (List.Mem.tail _ (List.Mem.tail _ (List.Mem.head _)))))) ?_
        refine w_dup2_11 X.1 (ax_d X (show cdA 28 58 = some (.dup2, 1, 0, 0, 0) from rfl)) rfl rfl ?_
        refine z_lald X 27 (show cdA 28 59 = some (.laload, 1, 0, 0, 0) from rfl) (by decide) rfl (by first | exact g25 | omega) (show y < 8 by first | exact oq_aaea290e p1.2 | omega) (by decide) (fun j27 => ?_)
        refine w_lload X.1 (ax_d X (show cdA 28 60 = some (.lload 4, 2, 0, 0, 0) from rfl)) (x := j4) (List.Mem.tail _ (List.Mem.head _)) ?_
        refine w_lor X.1 (ax_d X (show cdA 28 62 = some (.lor, 1, 0, 0, 0) from rfl)) ?_
        refine z_anyJ (fun j28 => ?_)
        refine z_last X 27 (show cdA 28 63 = some (.lastore, 1, 0, 0, 0) from rfl) (by decide) rfl (by first | exact g25 | omega) (show y < 8 by first | exact oq_aaea290e p1.2 | omega) (by decide) ?_
        obtain ⟨s29, hs29⟩ : ∃ x0, x0 = uD s 22 (y).toNat j28 := ⟨_, rfl⟩
        rw [← hs29]
        have Is29 : Bd s29 := by rw [hs29]; exact bd_D I
        have Fs29 : Fm [] [21, 1022, 1023] s s29 := by rw [hs29]; exact fm_D F (show 22 + 1000 ∈ _ by decide)
        refine z_aload_n X (x := A 25) (show cdA 28 64 = some (.aload_n 0, 1, 0, 0, 0) from rfl) (List.Mem.tail _ (List.Mem.tail _ (List.Mem.tail _ (List.Mem.head _)))) ?_
        refine s_getR X 25 (show cdA 28 65 = some (.getfield 9, 3, 3, 0, 0) from rfl) (by decide) rfl rfl ?_
        refine z_load_n X (x := x) (show cdA 28 68 = some (.iload_n 1, 1, 0, 0, 0) from rfl) (List.Mem.tail _ (List.Mem.tail _ (List.Mem.tail _ (List.Mem.tail _ (List.Mem.head _))))) ?_
        refine z_load_n X (x := y) (show cdA 28 69 = some (.iload_n 2, 1, 0, 0, 0) from rfl) (List.Mem.tail _ (List.Mem.tail _ (List.Mem.tail _ (List.Mem.tail _ (List.Mem.tail _ (List.Mem.head _)))))) ?_
        refine z_ast X 26 (show cdA 28 70 = some (.iastore, 1, 0, 0, 0) from rfl) (by decide) rfl (by first | exact p0.1 | omega) (show x < 128 by first | exact oq_0b2c4d55 g5 | omega) (by decide) ?_
        obtain ⟨s30, hs30⟩ : ∃ x0, x0 = uC s29 21 (x).toNat (Int32.ofInt y) := ⟨_, rfl⟩
        rw [← hs30]
        have Is30 : Bd s30 := by rw [hs30]; exact bd_C Is29 (show ((-1) : Int) ≤ y ∧ y ≤ 7 by first | exact ⟨p1.1, p1.2⟩ | omega) ⟨by first | exact oq_fa4e5087 g25 | omega, by first | exact oq_0e78ca7d p1.2 | omega⟩
        have Fs30 := fm_C (i := (x).toNat) (x := Int32.ofInt y) Fs29 (show 21 ∈ _ by decide)
        rw [← hs30] at Fs30
        refine z_load_n X (x := (iC s 21 (x).toNat)) (show cdA 28 71 = some (.iload_n 3, 1, 0, 0, 0) from rfl) (List.Mem.tail _ (List.Mem.tail _ (List.Mem.head _))) ?_
        exact w_iret X.1 q hRt rfl (ax_d X (show cdA 28 72 = some (.ireturn, 1, 0, 0, 0) from rfl)) (Nat.zero_le _) (Nat.zero_le _) ⟨_, rfl, Is30, Fs30, (iC s 21 (x).toNat), rfl, (rng_to _), by first | exact ⟨b1.1, b1.2⟩ | omega⟩
    ·
      refine z_aload X (x := A 27) (show cdA 28 38 = some (.aload 6, 2, 0, 0, 0) from rfl) (List.Mem.head _) ?_
      refine z_load_n X (x := (iC s 21 (x).toNat)) (show cdA 28 40 = some (.iload_n 3, 1, 0, 0, 0) from rfl) (List.Mem.tail _ (List.Mem.tail _ (List.Mem.head _))) ?_
      refine w_dup2_11 X.1 (ax_d X (show cdA 28 41 = some (.dup2, 1, 0, 0, 0) from rfl)) rfl rfl ?_
      refine z_lald X 27 (show cdA 28 42 = some (.laload, 1, 0, 0, 0) from rfl) (by decide) rfl (by first | exact g24 | omega) (show (iC s 21 (x).toNat) < 8 by first | exact oq_aaea290e b1.2 | omega) (by decide) (fun j31 => ?_)
      refine w_lload X.1 (ax_d X (show cdA 28 43 = some (.lload 4, 2, 0, 0, 0) from rfl)) (x := j4) (List.Mem.tail _ (List.Mem.head _)) ?_
      refine z_ldc2 X (show cdA 28 45 = some (.ldc2_w 28, 3, 18446744073709551615, 0, 0) from rfl) (fun j32 => ?_)
      refine w_lxor X.1 (ax_d X (show cdA 28 48 = some (.lxor, 1, 0, 0, 0) from rfl)) ?_
      refine z_anyJ (fun j33 => ?_)
      refine w_land X.1 (ax_d X (show cdA 28 49 = some (.land, 1, 0, 0, 0) from rfl)) ?_
      refine z_anyJ (fun j34 => ?_)
      refine z_last X 27 (show cdA 28 50 = some (.lastore, 1, 0, 0, 0) from rfl) (by decide) rfl (by first | exact g24 | omega) (show (iC s 21 (x).toNat) < 8 by first | exact oq_aaea290e b1.2 | omega) (by decide) ?_
      obtain ⟨s35, hs35⟩ : ∃ x0, x0 = uD s 22 ((iC s 21 (x).toNat)).toNat j34 := ⟨_, rfl⟩
      rw [← hs35]
      have Is35 : Bd s35 := by rw [hs35]; exact bd_D I
      have Fs35 : Fm [] [21, 1022, 1023] s s35 := by rw [hs35]; exact fm_D F (show 22 + 1000 ∈ _ by decide)
      refine z_load_n X (x := y) (show cdA 28 51 = some (.iload_n 2, 1, 0, 0, 0) from rfl) (List.Mem.tail _ (List.Mem.tail _ (List.Mem.tail _ (List.Mem.tail _ (List.Mem.tail _ (List.Mem.head _)))))) ?_
      refine z_if_lt X (t := 64) (show cdA 28 52 = some (.ifCond .lt 12, 3, 2, 0, 0) from rfl) (by decide) ⟨by first | exact oq_97ee2c2a p1.1 | omega, by first | exact oq_0e78ca7d p1.2 | omega⟩ (fun g36 => ?_) (fun g36 => ?_)
      ·
        refine z_aload_n X (x := A 25) (show cdA 28 64 = some (.aload_n 0, 1, 0, 0, 0) from rfl) (List.Mem.tail _ (List.Mem.tail _ (List.Mem.tail _ (List.Mem.head _)))) ?_
        refine s_getR X 25 (show cdA 28 65 = some (.getfield 9, 3, 3, 0, 0) from rfl) (by decide) rfl rfl ?_
        refine z_load_n X (x := x) (show cdA 28 68 = some (.iload_n 1, 1, 0, 0, 0) from rfl) (List.Mem.tail _ (List.Mem.tail _ (List.Mem.tail _ (List.Mem.tail _ (List.Mem.head _))))) ?_
        refine z_load_n X (x := y) (show cdA 28 69 = some (.iload_n 2, 1, 0, 0, 0) from rfl) (List.Mem.tail _ (List.Mem.tail _ (List.Mem.tail _ (List.Mem.tail _ (List.Mem.tail _ (List.Mem.head _)))))) ?_
        refine z_ast X 26 (show cdA 28 70 = some (.iastore, 1, 0, 0, 0) from rfl) (by decide) rfl (by first | exact p0.1 | omega) (show x < 128 by first | exact oq_0b2c4d55 g5 | omega) (by decide) ?_
        obtain ⟨s37, hs37⟩ : ∃ x0, x0 = uC s35 21 (x).toNat (Int32.ofInt y) := ⟨_, rfl⟩
        rw [← hs37]
        have Is37 : Bd s37 := by rw [hs37]; exact bd_C Is35 (show ((-1) : Int) ≤ y ∧ y ≤ 7 by first | exact ⟨p1.1, p1.2⟩ | omega) ⟨by first | exact oq_97ee2c2a p1.1 | omega, by first | exact oq_b87c5b03 g36 | omega⟩
        have Fs37 := fm_C (i := (x).toNat) (x := Int32.ofInt y) Fs35 (show 21 ∈ _ by decide)
        rw [← hs37] at Fs37
        refine z_load_n X (x := (iC s 21 (x).toNat)) (show cdA 28 71 = some (.iload_n 3, 1, 0, 0, 0) from rfl) (List.Mem.tail _ (List.Mem.tail _ (List.Mem.head _))) ?_
        exact w_iret X.1 q hRt rfl (ax_d X (show cdA 28 72 = some (.ireturn, 1, 0, 0, 0) from rfl)) (Nat.zero_le _) (Nat.zero_le _) ⟨_, rfl, Is37, Fs37, (iC s 21 (x).toNat), rfl, (rng_to _), by first | exact ⟨b1.1, b1.2⟩ | omega⟩
      ·
        refine z_aload X (x := A 27) (show cdA 28 55 = some (.aload 6, 2, 0, 0, 0) from rfl) (List.Mem.head _) ?_
        refine z_load_n X (x := y) (show cdA 28 57 = some (.iload_n 2, 1, 0, 0, 0) from rfl) (List.Mem.tail _ (List.Mem.tail _ (List.Mem.tail _ (List.Mem.tail _ (List.Mem.tail _ (List.Mem.head _)))))) ?_
        refine w_dup2_11 X.1 (ax_d X (show cdA 28 58 = some (.dup2, 1, 0, 0, 0) from rfl)) rfl rfl ?_
        refine z_lald X 27 (show cdA 28 59 = some (.laload, 1, 0, 0, 0) from rfl) (by decide) rfl (by first | exact g36 | omega) (show y < 8 by first | exact oq_aaea290e p1.2 | omega) (by decide) (fun j38 => ?_)
        refine w_lload X.1 (ax_d X (show cdA 28 60 = some (.lload 4, 2, 0, 0, 0) from rfl)) (x := j4) (List.Mem.tail _ (List.Mem.head _)) ?_
        refine w_lor X.1 (ax_d X (show cdA 28 62 = some (.lor, 1, 0, 0, 0) from rfl)) ?_
        refine z_anyJ (fun j39 => ?_)
        refine z_last X 27 (show cdA 28 63 = some (.lastore, 1, 0, 0, 0) from rfl) (by decide) rfl (by first | exact g36 | omega) (show y < 8 by first | exact oq_aaea290e p1.2 | omega) (by decide) ?_
        obtain ⟨s40, hs40⟩ : ∃ x0, x0 = uD s35 22 (y).toNat j39 := ⟨_, rfl⟩
        rw [← hs40]
        have Is40 : Bd s40 := by rw [hs40]; exact bd_D Is35
        have Fs40 : Fm [] [21, 1022, 1023] s s40 := by rw [hs40]; exact fm_D Fs35 (show 22 + 1000 ∈ _ by decide)
        refine z_aload_n X (x := A 25) (show cdA 28 64 = some (.aload_n 0, 1, 0, 0, 0) from rfl) (List.Mem.tail _ (List.Mem.tail _ (List.Mem.tail _ (List.Mem.head _)))) ?_
        refine s_getR X 25 (show cdA 28 65 = some (.getfield 9, 3, 3, 0, 0) from rfl) (by decide) rfl rfl ?_
        refine z_load_n X (x := x) (show cdA 28 68 = some (.iload_n 1, 1, 0, 0, 0) from rfl) (List.Mem.tail _ (List.Mem.tail _ (List.Mem.tail _ (List.Mem.tail _ (List.Mem.head _))))) ?_
        refine z_load_n X (x := y) (show cdA 28 69 = some (.iload_n 2, 1, 0, 0, 0) from rfl) (List.Mem.tail _ (List.Mem.tail _ (List.Mem.tail _ (List.Mem.tail _ (List.Mem.tail _ (List.Mem.head _)))))) ?_
        refine z_ast X 26 (show cdA 28 70 = some (.iastore, 1, 0, 0, 0) from rfl) (by decide) rfl (by first | exact p0.1 | omega) (show x < 128 by first | exact oq_0b2c4d55 g5 | omega) (by decide) ?_
        obtain ⟨s41, hs41⟩ : ∃ x0, x0 = uC s40 21 (x).toNat (Int32.ofInt y) := ⟨_, rfl⟩
        rw [← hs41]
        have Is41 : Bd s41 := by rw [hs41]; exact bd_C Is40 (show ((-1) : Int) ≤ y ∧ y ≤ 7 by first | exact ⟨p1.1, p1.2⟩ | omega) ⟨by first | exact oq_fa4e5087 g36 | omega, by first | exact oq_0e78ca7d p1.2 | omega⟩
        have Fs41 := fm_C (i := (x).toNat) (x := Int32.ofInt y) Fs40 (show 21 ∈ _ by decide)
        rw [← hs41] at Fs41
        refine z_load_n X (x := (iC s 21 (x).toNat)) (show cdA 28 71 = some (.iload_n 3, 1, 0, 0, 0) from rfl) (List.Mem.tail _ (List.Mem.tail _ (List.Mem.head _))) ?_
        exact w_iret X.1 q hRt rfl (ax_d X (show cdA 28 72 = some (.ireturn, 1, 0, 0, 0) from rfl)) (Nat.zero_le _) (Nat.zero_le _) ⟨_, rfl, Is41, Fs41, (iC s 21 (x).toNat), rfl, (rng_to _), by first | exact ⟨b1.1, b1.2⟩ | omega⟩
set_option maxRecDepth 4000 in
theorem c3_putAll_25 (G : GX l s0 D tys a0 dT) (I : Bd s) {x y z : Int} (p0 : 0 ≤ x ∧ x ≤ 127) (p1 : 0 ≤ y ∧ y ≤ 127) (p2 : -1 ≤ z ∧ z ≤ 7) : CT l s0 D A dT 29 (rmN 29) [.ref (A 25), .int (Int32.ofInt x), .int (Int32.ofInt y), .int (Int32.ofInt z)] s (fun o t => Bd t ∧ Fm [] [21, 1022, 1023] s t ∧ ∃ e, o = .inl (some (.int (Int32.ofInt e))) ∧ rng e ∧ (True)) := by
  refine ct_ofX G (by decide) (Nat.le_of_ble_eq_true rfl) (fun k X E ET hRt hXt q => ?_)
  show WS k 0 [(0, .ref (A 25)), (1, .int (Int32.ofInt x)), (2, .int (Int32.ofInt y)), (3, .int (Int32.ofInt z))] [] _ 0 0
  have F : Fm [] [21, 1022, 1023] s s := fm_rf _ _ s
  have L6 : ∀ (n : Nat) (t : PS) (xv yv zv ch c : Int), Bd t → Fm [] [21, 1022, 1023] s t → ((0 ≤ xv ∧ xv ≤ 127) ∧ (0 ≤ yv ∧ yv ≤ 127) ∧ (-1 ≤ zv ∧ zv ≤ 7) ∧ (0 ≤ ch ∧ ch ≤ c) ∧ c ≤ 128) → (128 - c : Int).toNat < n → (∀ (t' : PS) (ch' c' : Int), Bd t' → Fm [] [21, 1022, 1023] s t' → ((0 ≤ xv ∧ xv ≤ 127) ∧ (0 ≤ yv ∧ yv ≤ 127) ∧ (-1 ≤ zv ∧ zv ≤ 7) ∧ (0 ≤ ch' ∧ ch' ≤ c') ∧ c' ≤ 128) → WS k 68 [(0, .ref (A 25)), (1, .int (Int32.ofInt xv)), (2, .int (Int32.ofInt yv)), (3, .int (Int32.ofInt zv)), (4, .int (Int32.ofInt ch')), (5, .int (Int32.ofInt c'))] [] (Wd A dT t') 0 0) → WS k 6 [(0, .ref (A 25)), (1, .int (Int32.ofInt xv)), (2, .int (Int32.ofInt yv)), (3, .int (Int32.ofInt zv)), (4, .int (Int32.ofInt ch)), (5, .int (Int32.ofInt c))] [] (Wd A dT t) 0 0 := by
    intro n
    induction n with
    | zero =>
      intro t xv yv zv ch c I F hi hm kx
      exact absurd hm (Nat.not_lt_zero _)
    | succ n ih =>
      intro t xv yv zv ch c I F hi hm kx
      refine z_load X (x := c) (show cdA 29 6 = some (.iload 5, 2, 0, 0, 0) from rfl) (List.Mem.tail _ (List.Mem.tail _ (List.Mem.tail _ (List.Mem.tail _ (List.Mem.tail _ (List.Mem.head _)))))) ?_
      refine z_load_n X (x := yv) (show cdA 29 8 = some (.iload_n 2, 1, 0, 0, 0) from rfl) (List.Mem.tail _ (List.Mem.tail _ (List.Mem.head _))) ?_
      refine z_icmp_gt X (t := 68) (show cdA 29 9 = some (.if_icmp .gt 59, 3, 4, 0, 0) from rfl) (by decide) ⟨by first | exact oq_e001bc0d hi.2.2.2.1.2 hi.2.2.2.1.1 | omega, by first | exact oq_4ee82282 hi.2.2.2.2 | omega⟩ ⟨by first | exact oq_fa4e5087 hi.2.1.1 | omega, by first | exact oq_07d346ce hi.2.1.2 | omega⟩ (fun g1001 => ?_) (fun g1001 => ?_)
      ·
        refine WS_lv (lv := [(0, .ref (A 25)), (1, .int (Int32.ofInt xv)), (2, .int (Int32.ofInt yv)), (3, .int (Int32.ofInt zv)), (4, .int (Int32.ofInt ch)), (5, .int (Int32.ofInt c))]) (List.forall_mem_cons.mpr ⟨(List.Mem.head _), (List.forall_mem_cons.mpr ⟨(List.Mem.tail _ (List.Mem.head _)), (List.forall_mem_cons.mpr ⟨(List.Mem.tail _ (List.Mem.tail _ (List.Mem.head _))), (List.forall_mem_cons.mpr ⟨(List.Mem.tail _ (List.Mem.tail _ (List.Mem.tail _ (List.Mem.head _)))), (List.forall_mem_cons.mpr ⟨(List.Mem.tail _ (List.Mem.tail _ (List.Mem.tail _ (List.Mem.tail _ (List.Mem.head _))))), (List.forall_mem_cons.mpr ⟨(List.Mem.tail _ (List.Mem.tail _ (List.Mem.tail _ (List.Mem.tail _ (List.Mem.tail _ (List.Mem.head _)))))), (fun q h => absurd h List.not_mem_nil)⟩)⟩)⟩)⟩)⟩)⟩) ?_
        exact kx _ ch c I F (by first | exact ⟨And.intro (hi.1.1) (hi.1.2), And.intro (hi.2.1.1) (hi.2.1.2), And.intro (hi.2.2.1.1) (hi.2.2.1.2), And.intro (hi.2.2.2.1.1) (hi.2.2.2.1.2), hi.2.2.2.2⟩ | omega)
      ·
        refine z_load X (x := c) (show cdA 29 12 = some (.iload 5, 2, 0, 0, 0) from rfl) (List.Mem.tail _ (List.Mem.tail _ (List.Mem.tail _ (List.Mem.tail _ (List.Mem.tail _ (List.Mem.head _)))))) ?_
        refine z_bipush X (show cdA 29 14 = some (.bipush 7, 2, 0, 0, 7) from rfl) ?_
        refine z_andm X (show cdA 29 16 = some (.iand, 1, 0, 0, 0) from rfl) (by decide) (by decide) (fun y1002 hy1002 gy1002 => ?_)
        refine z_load_n X (x := xv) (show cdA 29 17 = some (.iload_n 1, 1, 0, 0, 0) from rfl) (List.Mem.tail _ (List.Mem.head _)) ?_
        refine z_bipush X (show cdA 29 18 = some (.bipush 7, 2, 0, 0, 7) from rfl) ?_
        refine z_andm X (show cdA 29 20 = some (.iand, 1, 0, 0, 0) from rfl) (by decide) (by decide) (fun y1003 hy1003 gy1003 => ?_)
        refine z_icmp_lt X (t := 40) (show cdA 29 21 = some (.if_icmp .lt 19, 3, 2, 0, 0) from rfl) (by decide) ⟨by first | exact oq_fa4e5087 hy1002 | omega, by first | exact oq_0e78ca7d gy1002 | omega⟩ ⟨by first | exact oq_fa4e5087 hy1003 | omega, by first | exact oq_0e78ca7d gy1003 | omega⟩ (fun g1004 => ?_) (fun g1004 => ?_)
        ·
          refine z_const X (show cdA 29 40 = some (.iconst 0, 1, 0, 0, 0) from rfl) ?_
          refine z_store X (lv' := [(6, .int (Int32.ofInt 0)), (0, .ref (A 25)), (1, .int (Int32.ofInt xv)), (2, .int (Int32.ofInt yv)), (3, .int (Int32.ofInt zv)), (4, .int (Int32.ofInt ch)), (5, .int (Int32.ofInt c))]) (show cdA 29 41 = some (.istore 6, 2, 0, 0, 0) from rfl) (by decide) (fun _ h => h) ?_
          refine z_load X (x := 0) (show cdA 29 43 = some (.iload 6, 2, 0, 0, 0) from rfl) (List.Mem.head _) ?_
          refine z_if_eq X (t := 62) (show cdA 29 45 = some (.ifCond .eq 17, 3, 0, 0, 0) from rfl) (by decide) (by decide) (fun g1005 => ?_) (fun g1005 => ?_)
          ·
            refine z_inc X (x := c) (lv' := [(5, .int (Int32.ofInt (c + 1))), (6, .int (Int32.ofInt 0)), (0, .ref (A 25)), (1, .int (Int32.ofInt xv)), (2, .int (Int32.ofInt yv)), (3, .int (Int32.ofInt zv)), (4, .int (Int32.ofInt ch))]) (show cdA 29 62 = some (.iinc 5 1, 3, 0, 0, 0) from rfl) (by decide) (List.Mem.tail _ (List.Mem.tail _ (List.Mem.tail _ (List.Mem.tail _ (List.Mem.tail _ (List.Mem.tail _ (List.Mem.head _))))))) (fun _ h => h) ?_
            refine z_goto X (t := 6) (show cdA 29 65 = some (.goto (-59), 3, 0, 0, 0) from rfl) (by decide) ?_
            refine WS_lv (lv := [(0, .ref (A 25)), (1, .int (Int32.ofInt xv)), (2, .int (Int32.ofInt yv)), (3, .int (Int32.ofInt zv)), (4, .int (Int32.ofInt ch)), (5, .int (Int32.ofInt (c + 1)))]) (List.forall_mem_cons.mpr ⟨(List.Mem.tail _ (List.Mem.tail _ (List.Mem.head _))), (List.forall_mem_cons.mpr ⟨(List.Mem.tail _ (List.Mem.tail _ (List.Mem.tail _ (List.Mem.head _)))), (List.forall_mem_cons.mpr ⟨(List.Mem.tail _ (List.Mem.tail _ (List.Mem.tail _ (List.Mem.tail _ (List.Mem.head _))))), (List.forall_mem_cons.mpr ⟨(List.Mem.tail _ (List.Mem.tail _ (List.Mem.tail _ (List.Mem.tail _ (List.Mem.tail _ (List.Mem.head _)))))), (List.forall_mem_cons.mpr ⟨(List.Mem.tail _ (List.Mem.tail _ (List.Mem.tail _ (List.Mem.tail _ (List.Mem.tail _ (List.Mem.tail _ (List.Mem.head _))))))), (List.forall_mem_cons.mpr ⟨(List.Mem.head _), (fun q h => absurd h List.not_mem_nil)⟩)⟩)⟩)⟩)⟩)⟩) ?_
            exact ih _ xv yv zv ch (c + 1) I F (by first | exact ⟨And.intro (hi.1.1) (hi.1.2), And.intro (hi.2.1.1) (hi.2.1.2), And.intro (hi.2.2.1.1) (hi.2.2.1.2), And.intro (hi.2.2.2.1.1) (oq_03182e9e hi.2.2.2.1.2), oq_5082a8cc g1001 hi.2.1.2⟩ | omega) (by first | exact qk_me hm (by decide) (oq_9103b73e g1001 hi.2.1.2) | omega) kx
          ·
            refine z_aload_n X (x := A 25) (show cdA 29 48 = some (.aload_n 0, 1, 0, 0, 0) from rfl) (List.Mem.tail _ (List.Mem.head _)) ?_
            refine z_load X (x := c) (show cdA 29 49 = some (.iload 5, 2, 0, 0, 0) from rfl) (List.Mem.tail _ (List.Mem.tail _ (List.Mem.tail _ (List.Mem.tail _ (List.Mem.tail _ (List.Mem.tail _ (List.Mem.head _))))))) ?_
            refine z_load_n X (x := zv) (show cdA 29 51 = some (.iload_n 3, 1, 0, 0, 0) from rfl) (List.Mem.tail _ (List.Mem.tail _ (List.Mem.tail _ (List.Mem.tail _ (List.Mem.head _))))) ?_
            refine z_callV X 25 (rm := rmN 28) (As := [.int (Int32.ofInt c), .int (Int32.ofInt zv)]) (st := []) (show cdA 29 52 = some (.invokevirtual 36, 3, 28, 0, 0) from rfl) rfl (by decide) rfl (by rw [E.1, E.2.1, E.2.2.1]; exact c3_put_25 G I (by first | exact ⟨oq_12a1f9e1 hi.2.2.2.1.2 hi.2.2.2.1.1, oq_a6868c2c g1001 hi.2.1.2⟩ | omega) (by first | exact ⟨hi.2.2.1.1, hi.2.2.1.2⟩ | omega)) ⟨by rw [E.2.2.2]; exact (show (rmN 28).frames + 1 ≤ (rmN 29).frames by decide), by rw [E.2.2.2]; exact (show 8 + (mNL (miB 28) + 11) + (rmN 28).locals ≤ (rmN 29).locals by decide), by rw [E.2.2.2]; exact (show 0 + (rmN 28).cells ≤ (rmN 29).cells by decide), by rw [E.2.2.2]; exact (show 0 + (rmN 28).slots ≤ (rmN 29).slots by decide)⟩ (Nat.le_of_ble_eq_true rfl) (fun vv s1006 hq => ?_) (fun ee s1006 hq => ?_)
            rotate_left
            · obtain ⟨Is1006, Fs1006, e1007, hv, hrs1006, hps1006⟩ := hq; cases hv
            obtain ⟨Is1006, Fs1006, e1007, hv, hrs1006, hps1006⟩ := hq
            cases hv
            have Gs1006 := fm_ts F Fs1006 (by decide) (by decide)
            show WS k 55 [(6, .int (Int32.ofInt 0)), (0, .ref (A 25)), (1, .int (Int32.ofInt xv)), (2, .int (Int32.ofInt yv)), (3, .int (Int32.ofInt zv)), (4, .int (Int32.ofInt ch)), (5, .int (Int32.ofInt c))] [.int (Int32.ofInt e1007)] (Wd A dT s1006) 0 0
            refine z_load_n X (x := zv) (show cdA 29 55 = some (.iload_n 3, 1, 0, 0, 0) from rfl) (List.Mem.tail _ (List.Mem.tail _ (List.Mem.tail _ (List.Mem.tail _ (List.Mem.head _))))) ?_
            refine z_icmp_eq X (t := 62) (show cdA 29 56 = some (.if_icmp .eq 6, 3, 0, 0, 0) from rfl) (by decide) hrs1006 ⟨by first | exact oq_97ee2c2a hi.2.2.1.1 | omega, by first | exact oq_0e78ca7d hi.2.2.1.2 | omega⟩ (fun g1008 => ?_) (fun g1008 => ?_)
            ·
              refine z_inc X (x := c) (lv' := [(5, .int (Int32.ofInt (c + 1))), (6, .int (Int32.ofInt 0)), (0, .ref (A 25)), (1, .int (Int32.ofInt xv)), (2, .int (Int32.ofInt yv)), (3, .int (Int32.ofInt zv)), (4, .int (Int32.ofInt ch))]) (show cdA 29 62 = some (.iinc 5 1, 3, 0, 0, 0) from rfl) (by decide) (List.Mem.tail _ (List.Mem.tail _ (List.Mem.tail _ (List.Mem.tail _ (List.Mem.tail _ (List.Mem.tail _ (List.Mem.head _))))))) (fun _ h => h) ?_
              refine z_goto X (t := 6) (show cdA 29 65 = some (.goto (-59), 3, 0, 0, 0) from rfl) (by decide) ?_
              refine WS_lv (lv := [(0, .ref (A 25)), (1, .int (Int32.ofInt xv)), (2, .int (Int32.ofInt yv)), (3, .int (Int32.ofInt zv)), (4, .int (Int32.ofInt ch)), (5, .int (Int32.ofInt (c + 1)))]) (List.forall_mem_cons.mpr ⟨(List.Mem.tail _ (List.Mem.tail _ (List.Mem.head _))), (List.forall_mem_cons.mpr ⟨(List.Mem.tail _ (List.Mem.tail _ (List.Mem.tail _ (List.Mem.head _)))), (List.forall_mem_cons.mpr ⟨(List.Mem.tail _ (List.Mem.tail _ (List.Mem.tail _ (List.Mem.tail _ (List.Mem.head _))))), (List.forall_mem_cons.mpr ⟨(List.Mem.tail _ (List.Mem.tail _ (List.Mem.tail _ (List.Mem.tail _ (List.Mem.tail _ (List.Mem.head _)))))), (List.forall_mem_cons.mpr ⟨(List.Mem.tail _ (List.Mem.tail _ (List.Mem.tail _ (List.Mem.tail _ (List.Mem.tail _ (List.Mem.tail _ (List.Mem.head _))))))), (List.forall_mem_cons.mpr ⟨(List.Mem.head _), (fun q h => absurd h List.not_mem_nil)⟩)⟩)⟩)⟩)⟩)⟩) ?_
              exact ih _ xv yv zv ch (c + 1) Is1006 Gs1006 (by first | exact ⟨And.intro (hi.1.1) (hi.1.2), And.intro (hi.2.1.1) (hi.2.1.2), And.intro (hi.2.2.1.1) (hi.2.2.1.2), And.intro (hi.2.2.2.1.1) (oq_03182e9e hi.2.2.2.1.2), oq_5082a8cc g1001 hi.2.1.2⟩ | omega) (by first | exact qk_me hm (by decide) (oq_9103b73e g1001 hi.2.1.2) | omega) kx
            ·
              refine z_inc X (x := ch) (lv' := [(4, .int (Int32.ofInt (ch + 1))), (6, .int (Int32.ofInt 0)), (0, .ref (A 25)), (1, .int (Int32.ofInt xv)), (2, .int (Int32.ofInt yv)), (3, .int (Int32.ofInt zv)), (5, .int (Int32.ofInt c))]) (show cdA 29 59 = some (.iinc 4 1, 3, 0, 0, 0) from rfl) (by decide) (List.Mem.tail _ (List.Mem.tail _ (List.Mem.tail _ (List.Mem.tail _ (List.Mem.tail _ (List.Mem.head _)))))) (fun _ h => h) ?_
              refine z_inc X (x := c) (lv' := [(5, .int (Int32.ofInt (c + 1))), (4, .int (Int32.ofInt (ch + 1))), (6, .int (Int32.ofInt 0)), (0, .ref (A 25)), (1, .int (Int32.ofInt xv)), (2, .int (Int32.ofInt yv)), (3, .int (Int32.ofInt zv))]) (show cdA 29 62 = some (.iinc 5 1, 3, 0, 0, 0) from rfl) (by decide) (List.Mem.tail _ (List.Mem.tail _ (List.Mem.tail _ (List.Mem.tail _ (List.Mem.tail _ (List.Mem.tail _ (List.Mem.head _))))))) (fun _ h => h) ?_
              refine z_goto X (t := 6) (show cdA 29 65 = some (.goto (-59), 3, 0, 0, 0) from rfl) (by decide) ?_
              refine WS_lv (lv := [(0, .ref (A 25)), (1, .int (Int32.ofInt xv)), (2, .int (Int32.ofInt yv)), (3, .int (Int32.ofInt zv)), (4, .int (Int32.ofInt (ch + 1))), (5, .int (Int32.ofInt (c + 1)))]) (List.forall_mem_cons.mpr ⟨(List.Mem.tail _ (List.Mem.tail _ (List.Mem.tail _ (List.Mem.head _)))), (List.forall_mem_cons.mpr ⟨(List.Mem.tail _ (List.Mem.tail _ (List.Mem.tail _ (List.Mem.tail _ (List.Mem.head _))))), (List.forall_mem_cons.mpr ⟨(List.Mem.tail _ (List.Mem.tail _ (List.Mem.tail _ (List.Mem.tail _ (List.Mem.tail _ (List.Mem.head _)))))), (List.forall_mem_cons.mpr ⟨(List.Mem.tail _ (List.Mem.tail _ (List.Mem.tail _ (List.Mem.tail _ (List.Mem.tail _ (List.Mem.tail _ (List.Mem.head _))))))), (List.forall_mem_cons.mpr ⟨(List.Mem.tail _ (List.Mem.head _)), (List.forall_mem_cons.mpr ⟨(List.Mem.head _), (fun q h => absurd h List.not_mem_nil)⟩)⟩)⟩)⟩)⟩)⟩) ?_
              exact ih _ xv yv zv (ch + 1) (c + 1) Is1006 Gs1006 (by first | exact ⟨And.intro (hi.1.1) (hi.1.2), And.intro (hi.2.1.1) (hi.2.1.2), And.intro (hi.2.2.1.1) (hi.2.2.1.2), And.intro (oq_54f49eb5 hi.2.2.2.1.1) (oq_8d48a029 hi.2.2.2.1.2), oq_5082a8cc g1001 hi.2.1.2⟩ | omega) (by first | exact qk_me hm (by decide) (oq_9103b73e g1001 hi.2.1.2) | omega) kx
        ·
          refine z_load X (x := c) (show cdA 29 24 = some (.iload 5, 2, 0, 0, 0) from rfl) (List.Mem.tail _ (List.Mem.tail _ (List.Mem.tail _ (List.Mem.tail _ (List.Mem.tail _ (List.Mem.head _)))))) ?_
          refine z_bipush X (show cdA 29 26 = some (.bipush 7, 2, 0, 0, 7) from rfl) ?_
          refine z_andm X (show cdA 29 28 = some (.iand, 1, 0, 0, 0) from rfl) (by decide) (by decide) (fun y1009 hy1009 gy1009 => ?_)
          refine z_load_n X (x := yv) (show cdA 29 29 = some (.iload_n 2, 1, 0, 0, 0) from rfl) (List.Mem.tail _ (List.Mem.tail _ (List.Mem.head _))) ?_
          refine z_bipush X (show cdA 29 30 = some (.bipush 7, 2, 0, 0, 7) from rfl) ?_
          refine z_andm X (show cdA 29 32 = some (.iand, 1, 0, 0, 0) from rfl) (by decide) (by decide) (fun y1010 hy1010 gy1010 => ?_)
          have N1011 : ∀ e1012 : Int, (((y1010 < y1009) ∧ e1012 = 0) ∨ ((y1009 ≤ y1010) ∧ e1012 = 1)) → WS k 41 [(0, .ref (A 25)), (1, .int (Int32.ofInt xv)), (2, .int (Int32.ofInt yv)), (3, .int (Int32.ofInt zv)), (4, .int (Int32.ofInt ch)), (5, .int (Int32.ofInt c))] [.int (Int32.ofInt e1012)] (Wd A dT t) 0 0 := by
            intro e1012 he1012
            have re1012 : 0 ≤ e1012 ∧ e1012 ≤ 1 := by omega
            refine z_store X (lv' := [(6, .int (Int32.ofInt e1012)), (0, .ref (A 25)), (1, .int (Int32.ofInt xv)), (2, .int (Int32.ofInt yv)), (3, .int (Int32.ofInt zv)), (4, .int (Int32.ofInt ch)), (5, .int (Int32.ofInt c))]) (show cdA 29 41 = some (.istore 6, 2, 0, 0, 0) from rfl) (by decide) (fun _ h => h) ?_
            refine z_load X (x := e1012) (show cdA 29 43 = some (.iload 6, 2, 0, 0, 0) from rfl) (List.Mem.head _) ?_
            refine z_if_eq X (t := 62) (show cdA 29 45 = some (.ifCond .eq 17, 3, 0, 0, 0) from rfl) (by decide) ⟨by first | exact oq_fa4e5087 re1012.1 | omega, by first | exact oq_22e1e6b0 re1012.2 | omega⟩ (fun g1013 => ?_) (fun g1013 => ?_)
            ·
              refine z_inc X (x := c) (lv' := [(5, .int (Int32.ofInt (c + 1))), (6, .int (Int32.ofInt e1012)), (0, .ref (A 25)), (1, .int (Int32.ofInt xv)), (2, .int (Int32.ofInt yv)), (3, .int (Int32.ofInt zv)), (4, .int (Int32.ofInt ch))]) (show cdA 29 62 = some (.iinc 5 1, 3, 0, 0, 0) from rfl) (by decide) (List.Mem.tail _ (List.Mem.tail _ (List.Mem.tail _ (List.Mem.tail _ (List.Mem.tail _ (List.Mem.tail _ (List.Mem.head _))))))) (fun _ h => h) ?_
              refine z_goto X (t := 6) (show cdA 29 65 = some (.goto (-59), 3, 0, 0, 0) from rfl) (by decide) ?_
              refine WS_lv (lv := [(0, .ref (A 25)), (1, .int (Int32.ofInt xv)), (2, .int (Int32.ofInt yv)), (3, .int (Int32.ofInt zv)), (4, .int (Int32.ofInt ch)), (5, .int (Int32.ofInt (c + 1)))]) (List.forall_mem_cons.mpr ⟨(List.Mem.tail _ (List.Mem.tail _ (List.Mem.head _))), (List.forall_mem_cons.mpr ⟨(List.Mem.tail _ (List.Mem.tail _ (List.Mem.tail _ (List.Mem.head _)))), (List.forall_mem_cons.mpr ⟨(List.Mem.tail _ (List.Mem.tail _ (List.Mem.tail _ (List.Mem.tail _ (List.Mem.head _))))), (List.forall_mem_cons.mpr ⟨(List.Mem.tail _ (List.Mem.tail _ (List.Mem.tail _ (List.Mem.tail _ (List.Mem.tail _ (List.Mem.head _)))))), (List.forall_mem_cons.mpr ⟨(List.Mem.tail _ (List.Mem.tail _ (List.Mem.tail _ (List.Mem.tail _ (List.Mem.tail _ (List.Mem.tail _ (List.Mem.head _))))))), (List.forall_mem_cons.mpr ⟨(List.Mem.head _), (fun q h => absurd h List.not_mem_nil)⟩)⟩)⟩)⟩)⟩)⟩) ?_
              exact ih _ xv yv zv ch (c + 1) I F (by first | exact ⟨And.intro (hi.1.1) (hi.1.2), And.intro (hi.2.1.1) (hi.2.1.2), And.intro (hi.2.2.1.1) (hi.2.2.1.2), And.intro (hi.2.2.2.1.1) (oq_03182e9e hi.2.2.2.1.2), oq_5082a8cc g1001 hi.2.1.2⟩ | omega) (by first | exact qk_me hm (by decide) (oq_9103b73e g1001 hi.2.1.2) | omega) kx
            ·
              refine z_aload_n X (x := A 25) (show cdA 29 48 = some (.aload_n 0, 1, 0, 0, 0) from rfl) (List.Mem.tail _ (List.Mem.head _)) ?_
              refine z_load X (x := c) (show cdA 29 49 = some (.iload 5, 2, 0, 0, 0) from rfl) (List.Mem.tail _ (List.Mem.tail _ (List.Mem.tail _ (List.Mem.tail _ (List.Mem.tail _ (List.Mem.tail _ (List.Mem.head _))))))) ?_
              refine z_load_n X (x := zv) (show cdA 29 51 = some (.iload_n 3, 1, 0, 0, 0) from rfl) (List.Mem.tail _ (List.Mem.tail _ (List.Mem.tail _ (List.Mem.tail _ (List.Mem.head _))))) ?_
              refine z_callV X 25 (rm := rmN 28) (As := [.int (Int32.ofInt c), .int (Int32.ofInt zv)]) (st := []) (show cdA 29 52 = some (.invokevirtual 36, 3, 28, 0, 0) from rfl) rfl (by decide) rfl (by rw [E.1, E.2.1, E.2.2.1]; exact c3_put_25 G I (by first | exact ⟨oq_12a1f9e1 hi.2.2.2.1.2 hi.2.2.2.1.1, oq_a6868c2c g1001 hi.2.1.2⟩ | omega) (by first | exact ⟨hi.2.2.1.1, hi.2.2.1.2⟩ | omega)) ⟨by rw [E.2.2.2]; exact (show (rmN 28).frames + 1 ≤ (rmN 29).frames by decide), by rw [E.2.2.2]; exact (show 8 + (mNL (miB 28) + 11) + (rmN 28).locals ≤ (rmN 29).locals by decide), by rw [E.2.2.2]; exact (show 0 + (rmN 28).cells ≤ (rmN 29).cells by decide), by rw [E.2.2.2]; exact (show 0 + (rmN 28).slots ≤ (rmN 29).slots by decide)⟩ (Nat.le_of_ble_eq_true rfl) (fun vv s1014 hq => ?_) (fun ee s1014 hq => ?_)
              rotate_left
              · obtain ⟨Is1014, Fs1014, e1015, hv, hrs1014, hps1014⟩ := hq; cases hv
              obtain ⟨Is1014, Fs1014, e1015, hv, hrs1014, hps1014⟩ := hq
              cases hv
              have Gs1014 := fm_ts F Fs1014 (by decide) (by decide)
              show WS k 55 [(6, .int (Int32.ofInt e1012)), (0, .ref (A 25)), (1, .int (Int32.ofInt xv)), (2, .int (Int32.ofInt yv)), (3, .int (Int32.ofInt zv)), (4, .int (Int32.ofInt ch)), (5, .int (Int32.ofInt c))] [.int (Int32.ofInt e1015)] (Wd A dT s1014) 0 0
              refine z_load_n X (x := zv) (show cdA 29 55 = some (.iload_n 3, 1, 0, 0, 0) from rfl) (List.Mem.tail _ (List.Mem.tail _ (List.Mem.tail _ (List.Mem.tail _ (List.Mem.head _))))) ?_
              refine z_icmp_eq X (t := 62) (show cdA 29 56 = some (.if_icmp .eq 6, 3, 0, 0, 0) from rfl) (by decide) hrs1014 ⟨by first | exact oq_97ee2c2a hi.2.2.1.1 | omega, by first | exact oq_0e78ca7d hi.2.2.1.2 | omega⟩ (fun g1016 => ?_) (fun g1016 => ?_)
              ·
                refine z_inc X (x := c) (lv' := [(5, .int (Int32.ofInt (c + 1))), (6, .int (Int32.ofInt e1012)), (0, .ref (A 25)), (1, .int (Int32.ofInt xv)), (2, .int (Int32.ofInt yv)), (3, .int (Int32.ofInt zv)), (4, .int (Int32.ofInt ch))]) (show cdA 29 62 = some (.iinc 5 1, 3, 0, 0, 0) from rfl) (by decide) (List.Mem.tail _ (List.Mem.tail _ (List.Mem.tail _ (List.Mem.tail _ (List.Mem.tail _ (List.Mem.tail _ (List.Mem.head _))))))) (fun _ h => h) ?_
                refine z_goto X (t := 6) (show cdA 29 65 = some (.goto (-59), 3, 0, 0, 0) from rfl) (by decide) ?_
                refine WS_lv (lv := [(0, .ref (A 25)), (1, .int (Int32.ofInt xv)), (2, .int (Int32.ofInt yv)), (3, .int (Int32.ofInt zv)), (4, .int (Int32.ofInt ch)), (5, .int (Int32.ofInt (c + 1)))]) (List.forall_mem_cons.mpr ⟨(List.Mem.tail _ (List.Mem.tail _ (List.Mem.head _))), (List.forall_mem_cons.mpr ⟨(List.Mem.tail _ (List.Mem.tail _ (List.Mem.tail _ (List.Mem.head _)))), (List.forall_mem_cons.mpr ⟨(List.Mem.tail _ (List.Mem.tail _ (List.Mem.tail _ (List.Mem.tail _ (List.Mem.head _))))), (List.forall_mem_cons.mpr ⟨(List.Mem.tail _ (List.Mem.tail _ (List.Mem.tail _ (List.Mem.tail _ (List.Mem.tail _ (List.Mem.head _)))))), (List.forall_mem_cons.mpr ⟨(List.Mem.tail _ (List.Mem.tail _ (List.Mem.tail _ (List.Mem.tail _ (List.Mem.tail _ (List.Mem.tail _ (List.Mem.head _))))))), (List.forall_mem_cons.mpr ⟨(List.Mem.head _), (fun q h => absurd h List.not_mem_nil)⟩)⟩)⟩)⟩)⟩)⟩) ?_
                exact ih _ xv yv zv ch (c + 1) Is1014 Gs1014 (by first | exact ⟨And.intro (hi.1.1) (hi.1.2), And.intro (hi.2.1.1) (hi.2.1.2), And.intro (hi.2.2.1.1) (hi.2.2.1.2), And.intro (hi.2.2.2.1.1) (oq_03182e9e hi.2.2.2.1.2), oq_5082a8cc g1001 hi.2.1.2⟩ | omega) (by first | exact qk_me hm (by decide) (oq_9103b73e g1001 hi.2.1.2) | omega) kx
              ·
                refine z_inc X (x := ch) (lv' := [(4, .int (Int32.ofInt (ch + 1))), (6, .int (Int32.ofInt e1012)), (0, .ref (A 25)), (1, .int (Int32.ofInt xv)), (2, .int (Int32.ofInt yv)), (3, .int (Int32.ofInt zv)), (5, .int (Int32.ofInt c))]) (show cdA 29 59 = some (.iinc 4 1, 3, 0, 0, 0) from rfl) (by decide) (List.Mem.tail _ (List.Mem.tail _ (List.Mem.tail _ (List.Mem.tail _ (List.Mem.tail _ (List.Mem.head _)))))) (fun _ h => h) ?_
                refine z_inc X (x := c) (lv' := [(5, .int (Int32.ofInt (c + 1))), (4, .int (Int32.ofInt (ch + 1))), (6, .int (Int32.ofInt e1012)), (0, .ref (A 25)), (1, .int (Int32.ofInt xv)), (2, .int (Int32.ofInt yv)), (3, .int (Int32.ofInt zv))]) (show cdA 29 62 = some (.iinc 5 1, 3, 0, 0, 0) from rfl) (by decide) (List.Mem.tail _ (List.Mem.tail _ (List.Mem.tail _ (List.Mem.tail _ (List.Mem.tail _ (List.Mem.tail _ (List.Mem.head _))))))) (fun _ h => h) ?_
                refine z_goto X (t := 6) (show cdA 29 65 = some (.goto (-59), 3, 0, 0, 0) from rfl) (by decide) ?_
                refine WS_lv (lv := [(0, .ref (A 25)), (1, .int (Int32.ofInt xv)), (2, .int (Int32.ofInt yv)), (3, .int (Int32.ofInt zv)), (4, .int (Int32.ofInt (ch + 1))), (5, .int (Int32.ofInt (c + 1)))]) (List.forall_mem_cons.mpr ⟨(List.Mem.tail _ (List.Mem.tail _ (List.Mem.tail _ (List.Mem.head _)))), (List.forall_mem_cons.mpr ⟨(List.Mem.tail _ (List.Mem.tail _ (List.Mem.tail _ (List.Mem.tail _ (List.Mem.head _))))), (List.forall_mem_cons.mpr ⟨(List.Mem.tail _ (List.Mem.tail _ (List.Mem.tail _ (List.Mem.tail _ (List.Mem.tail _ (List.Mem.head _)))))), (List.forall_mem_cons.mpr ⟨(List.Mem.tail _ (List.Mem.tail _ (List.Mem.tail _ (List.Mem.tail _ (List.Mem.tail _ (List.Mem.tail _ (List.Mem.head _))))))), (List.forall_mem_cons.mpr ⟨(List.Mem.tail _ (List.Mem.head _)), (List.forall_mem_cons.mpr ⟨(List.Mem.head _), (fun q h => absurd h List.not_mem_nil)⟩)⟩)⟩)⟩)⟩)⟩) ?_
                exact ih _ xv yv zv (ch + 1) (c + 1) Is1014 Gs1014 (by first | exact ⟨And.intro (hi.1.1) (hi.1.2), And.intro (hi.2.1.1) (hi.2.1.2), And.intro (hi.2.2.1.1) (hi.2.2.1.2), And.intro (oq_54f49eb5 hi.2.2.2.1.1) (oq_8d48a029 hi.2.2.2.1.2), oq_5082a8cc g1001 hi.2.1.2⟩ | omega) (by first | exact qk_me hm (by decide) (oq_9103b73e g1001 hi.2.1.2) | omega) kx
          refine z_icmp_gt X (t := 40) (show cdA 29 33 = some (.if_icmp .gt 7, 3, 4, 0, 0) from rfl) (by decide) ⟨by first | exact oq_fa4e5087 hy1009 | omega, by first | exact oq_0e78ca7d gy1009 | omega⟩ ⟨by first | exact oq_fa4e5087 hy1010 | omega, by first | exact oq_0e78ca7d gy1010 | omega⟩ (fun g1017 => ?_) (fun g1017 => ?_)
          ·
            refine z_const X (show cdA 29 40 = some (.iconst 0, 1, 0, 0, 0) from rfl) ?_
            exact N1011 _ (Or.inl ⟨g1017, rfl⟩)
          ·
            refine z_const X (show cdA 29 36 = some (.iconst 1, 1, 0, 0, 0) from rfl) ?_
            refine z_goto X (t := 41) (show cdA 29 37 = some (.goto 4, 3, 0, 0, 0) from rfl) (by decide) ?_
            exact N1011 _ (Or.inr (⟨g1017, rfl⟩))
  refine z_const X (show cdA 29 0 = some (.iconst 0, 1, 0, 0, 0) from rfl) ?_
  refine z_store X (lv' := [(4, .int (Int32.ofInt 0)), (0, .ref (A 25)), (1, .int (Int32.ofInt x)), (2, .int (Int32.ofInt y)), (3, .int (Int32.ofInt z))]) (show cdA 29 1 = some (.istore 4, 2, 0, 0, 0) from rfl) (by decide) (fun _ h => h) ?_
  refine z_load_n X (x := x) (show cdA 29 3 = some (.iload_n 1, 1, 0, 0, 0) from rfl) (List.Mem.tail _ (List.Mem.tail _ (List.Mem.head _))) ?_
  refine z_store X (lv' := [(5, .int (Int32.ofInt x)), (4, .int (Int32.ofInt 0)), (0, .ref (A 25)), (1, .int (Int32.ofInt x)), (2, .int (Int32.ofInt y)), (3, .int (Int32.ofInt z))]) (show cdA 29 4 = some (.istore 5, 2, 0, 0, 0) from rfl) (by decide) (fun _ h => h) ?_
  refine WS_lv (lv := [(0, .ref (A 25)), (1, .int (Int32.ofInt x)), (2, .int (Int32.ofInt y)), (3, .int (Int32.ofInt z)), (4, .int (Int32.ofInt 0)), (5, .int (Int32.ofInt x))]) (List.forall_mem_cons.mpr ⟨(List.Mem.tail _ (List.Mem.tail _ (List.Mem.head _))), (List.forall_mem_cons.mpr ⟨(List.Mem.tail _ (List.Mem.tail _ (List.Mem.tail _ (List.Mem.head _)))), (List.forall_mem_cons.mpr ⟨(List.Mem.tail _ (List.Mem.tail _ (List.Mem.tail _ (List.Mem.tail _ (List.Mem.head _))))), (List.forall_mem_cons.mpr ⟨(List.Mem.tail _ (List.Mem.tail _ (List.Mem.tail _ (List.Mem.tail _ (List.Mem.tail _ (List.Mem.head _)))))), (List.forall_mem_cons.mpr ⟨(List.Mem.tail _ (List.Mem.head _)), (List.forall_mem_cons.mpr ⟨(List.Mem.head _), (fun q h => absurd h List.not_mem_nil)⟩)⟩)⟩)⟩)⟩)⟩) ?_
  refine L6 ((128 - x : Int).toNat + 1) s x y z 0 x I F (by first | exact ⟨And.intro (p0.1) (p0.2), And.intro (p1.1) (p1.2), And.intro (p2.1) (p2.2), And.intro (by decide) (p0.1), oq_b58e335c p0.2⟩ | omega) (Nat.lt_succ_self _) ?_
  intro s1 x2 x3 Is1 Fs1 hs1
  refine z_load X (x := x2) (show cdA 29 68 = some (.iload 4, 2, 0, 0, 0) from rfl) (List.Mem.tail _ (List.Mem.tail _ (List.Mem.tail _ (List.Mem.tail _ (List.Mem.head _))))) ?_
  exact w_iret X.1 q hRt rfl (ax_d X (show cdA 29 70 = some (.ireturn, 1, 0, 0, 0) from rfl)) (Nat.zero_le _) (Nat.zero_le _) ⟨_, rfl, Is1, Fs1, x2, rfl, ⟨by first | exact oq_fa4e5087 hs1.2.2.2.1.1 | omega, by first | exact oq_9eb6cd9c hs1.2.2.2.1.2 hs1.2.2.2.2 | omega⟩, trivial⟩
set_option maxRecDepth 4000 in
theorem c3_hasCells_25 (G : GX l s0 D tys a0 dT) (I : Bd s) {x : Int} (p0 : 0 ≤ x ∧ x ≤ 7) : CT l s0 D A dT 30 (rmN 30) [.ref (A 25), .int (Int32.ofInt x)] s (fun o t => Bd t ∧ Fm [] [] s t ∧ ∃ e, o = .inl (some (.int (Int32.ofInt e))) ∧ rng e ∧ (e = 0 ∨ e = 1)) := by
  refine ct_ofX G (by decide) (Nat.le_of_ble_eq_true rfl) (fun k X E ET hRt hXt q => ?_)
  show WS k 0 [(0, .ref (A 25)), (1, .int (Int32.ofInt x))] [] _ 0 0
  have F : Fm [] [] s s := fm_rf _ _ s
  refine z_aload_n X (x := A 25) (show cdA 30 0 = some (.aload_n 0, 1, 0, 0, 0) from rfl) (List.Mem.head _) ?_
  refine s_getR X 25 (show cdA 30 1 = some (.getfield 15, 3, 3, 1, 0) from rfl) (by decide) rfl rfl ?_
  refine z_load_n X (x := x) (show cdA 30 4 = some (.iload_n 1, 1, 0, 0, 0) from rfl) (List.Mem.tail _ (List.Mem.head _)) ?_
  refine z_lald X 27 (show cdA 30 5 = some (.laload, 1, 0, 0, 0) from rfl) (by decide) rfl (by first | exact p0.1 | omega) (show x < 8 by first | exact oq_aaea290e p0.2 | omega) (by decide) (fun j1 => ?_)
  refine z_aload_n X (x := A 25) (show cdA 30 6 = some (.aload_n 0, 1, 0, 0, 0) from rfl) (List.Mem.head _) ?_
  refine s_getR X 25 (show cdA 30 7 = some (.getfield 19, 3, 3, 2, 0) from rfl) (by decide) rfl rfl ?_
  refine z_load_n X (x := x) (show cdA 30 10 = some (.iload_n 1, 1, 0, 0, 0) from rfl) (List.Mem.tail _ (List.Mem.head _)) ?_
  refine z_lald X 28 (show cdA 30 11 = some (.laload, 1, 0, 0, 0) from rfl) (by decide) rfl (by first | exact p0.1 | omega) (show x < 8 by first | exact oq_aaea290e p0.2 | omega) (by decide) (fun j2 => ?_)
  refine w_lor X.1 (ax_d X (show cdA 30 12 = some (.lor, 1, 0, 0, 0) from rfl)) ?_
  refine z_anyJ (fun j3 => ?_)
  refine w_lconst X.1 (ax_d X (show cdA 30 13 = some (.lconst 0, 1, 0, 0, 0) from rfl)) rfl ?_
  refine z_anyJ (fun j4 => ?_)
  refine w_lcmp X.1 (ax_d X (show cdA 30 14 = some (.lcmp, 1, 0, 0, 0) from rfl)) ?_
  refine z_any (fun y5 hy5 => ?_)
  have N6 : ∀ e7 : Int, (((y5 = 0) ∧ e7 = 0) ∨ ((y5 ≠ 0) ∧ e7 = 1)) → WS k 23 [(0, .ref (A 25)), (1, .int (Int32.ofInt x))] [.int (Int32.ofInt e7)] (Wd A dT s) 0 0 := by
    intro e7 he7
    have re7 : 0 ≤ e7 ∧ e7 ≤ 1 := by omega
    exact w_iret X.1 q hRt (nar_ret (by first | exact oq_31e518ae re7.2 re7.1 | omega)) (ax_d X (show cdA 30 23 = some (.ireturn, 1, 0, 0, 0) from rfl)) (Nat.zero_le _) (Nat.zero_le _) ⟨_, rfl, I, F, e7, rfl, ⟨by first | exact oq_fa4e5087 re7.1 | omega, by first | exact oq_22e1e6b0 re7.2 | omega⟩, by first | exact oq_31e518ae re7.2 re7.1 | omega⟩
  refine z_if_eq X (t := 22) (show cdA 30 15 = some (.ifCond .eq 7, 3, 0, 0, 0) from rfl) (by decide) hy5 (fun g8 => ?_) (fun g8 => ?_)
  ·
    refine z_const X (show cdA 30 22 = some (.iconst 0, 1, 0, 0, 0) from rfl) ?_
    exact N6 _ (Or.inl ⟨g8, rfl⟩)
  ·
    refine z_const X (show cdA 30 18 = some (.iconst 1, 1, 0, 0, 0) from rfl) ?_
    refine z_goto X (t := 23) (show cdA 30 19 = some (.goto 4, 3, 0, 0, 0) from rfl) (by decide) ?_
    exact N6 _ (Or.inr (⟨g8, rfl⟩))
set_option maxRecDepth 4000 in
theorem c3_countPieces_25 (G : GX l s0 D tys a0 dT) (I : Bd s)  : CT l s0 D A dT 31 (rmN 31) [.ref (A 25)] s (fun o t => Bd t ∧ Fm [] [] s t ∧ ∃ e, o = .inl (some (.int (Int32.ofInt e))) ∧ rng e ∧ (True)) := by
  refine ct_ofX G (by decide) (Nat.le_of_ble_eq_true rfl) (fun k X E ET hRt hXt q => ?_)
  show WS k 0 [(0, .ref (A 25))] [] _ 0 0
  have F : Fm [] [] s s := fm_rf _ _ s
  have L4 : ∀ (n : Nat) (t : PS) (mm p : Int), Bd t → Fm [] [] s t → (0 ≤ mm ∧ mm ≤ p ∧ p ≤ 8) → (8 - p : Int).toNat < n → (∀ (t' : PS) (mm' p' : Int), Bd t' → Fm [] [] s t' → (0 ≤ mm' ∧ mm' ≤ p' ∧ p' ≤ 8) → WS k 27 [(0, .ref (A 25)), (1, .int (Int32.ofInt mm')), (2, .int (Int32.ofInt p'))] [] (Wd A dT t') 0 0) → WS k 4 [(0, .ref (A 25)), (1, .int (Int32.ofInt mm)), (2, .int (Int32.ofInt p))] [] (Wd A dT t) 0 0 := by
    intro n
    induction n with
    | zero =>
      intro t mm p I F hi hm kx
      exact absurd hm (Nat.not_lt_zero _)
    | succ n ih =>
      intro t mm p I F hi hm kx
      refine z_load_n X (x := p) (show cdA 31 4 = some (.iload_n 2, 1, 0, 0, 0) from rfl) (List.Mem.tail _ (List.Mem.tail _ (List.Mem.head _))) ?_
      refine z_bipush X (show cdA 31 5 = some (.bipush 8, 2, 0, 0, 8) from rfl) ?_
      refine z_icmp_ge X (t := 27) (show cdA 31 7 = some (.if_icmp .ge 20, 3, 3, 0, 0) from rfl) (by decide) ⟨by first | exact oq_e001bc0d hi.2.1 hi.1 | omega, by first | exact oq_d3f5d874 hi.2.2 | omega⟩ (by decide) (fun g1001 => ?_) (fun g1001 => ?_)
      ·
        refine WS_lv (lv := [(0, .ref (A 25)), (1, .int (Int32.ofInt mm)), (2, .int (Int32.ofInt p))]) (List.forall_mem_cons.mpr ⟨(List.Mem.head _), (List.forall_mem_cons.mpr ⟨(List.Mem.tail _ (List.Mem.head _)), (List.forall_mem_cons.mpr ⟨(List.Mem.tail _ (List.Mem.tail _ (List.Mem.head _))), (fun q h => absurd h List.not_mem_nil)⟩)⟩)⟩) ?_
        exact kx _ mm p I F (by first | exact ⟨hi.1, hi.2.1, hi.2.2⟩ | omega)
      ·
        refine z_aload_n X (x := A 25) (show cdA 31 10 = some (.aload_n 0, 1, 0, 0, 0) from rfl) (List.Mem.head _) ?_
        refine z_load_n X (x := p) (show cdA 31 11 = some (.iload_n 2, 1, 0, 0, 0) from rfl) (List.Mem.tail _ (List.Mem.tail _ (List.Mem.head _))) ?_
        refine z_callV X 25 (rm := rmN 30) (As := [.int (Int32.ofInt p)]) (st := []) (show cdA 31 12 = some (.invokevirtual 40, 3, 30, 0, 0) from rfl) rfl (by decide) rfl (by rw [E.1, E.2.1, E.2.2.1]; exact c3_hasCells_25 G I (by first | exact ⟨oq_12a1f9e1 hi.2.1 hi.1, oq_78c639ed g1001⟩ | omega)) ⟨by rw [E.2.2.2]; exact (show (rmN 30).frames + 1 ≤ (rmN 31).frames by decide), by rw [E.2.2.2]; exact (show 8 + (mNL (miB 30) + 11) + (rmN 30).locals ≤ (rmN 31).locals by decide), by rw [E.2.2.2]; exact (show 0 + (rmN 30).cells ≤ (rmN 31).cells by decide), by rw [E.2.2.2]; exact (show 0 + (rmN 30).slots ≤ (rmN 31).slots by decide)⟩ (Nat.le_of_ble_eq_true rfl) (fun vv s1002 hq => ?_) (fun ee s1002 hq => ?_)
        rotate_left
        · obtain ⟨Is1002, Fs1002, e1003, hv, hrs1002, hps1002⟩ := hq; cases hv
        obtain ⟨Is1002, Fs1002, e1003, hv, hrs1002, hps1002⟩ := hq
        cases hv
        have Gs1002 := fm_ts F Fs1002 (by decide) (by decide)
        show WS k 15 [(0, .ref (A 25)), (1, .int (Int32.ofInt mm)), (2, .int (Int32.ofInt p))] [.int (Int32.ofInt e1003)] (Wd A dT s1002) 0 0
        refine z_if_eq X (t := 21) (show cdA 31 15 = some (.ifCond .eq 6, 3, 0, 0, 0) from rfl) (by decide) hrs1002 (fun g1004 => ?_) (fun g1004 => ?_)
        ·
          refine z_inc X (x := p) (lv' := [(2, .int (Int32.ofInt (p + 1))), (0, .ref (A 25)), (1, .int (Int32.ofInt mm))]) (show cdA 31 21 = some (.iinc 2 1, 3, 0, 0, 0) from rfl) (by decide) (List.Mem.tail _ (List.Mem.tail _ (List.Mem.head _))) (fun _ h => h) ?_
          refine z_goto X (t := 4) (show cdA 31 24 = some (.goto (-20), 3, 0, 0, 0) from rfl) (by decide) ?_
          refine WS_lv (lv := [(0, .ref (A 25)), (1, .int (Int32.ofInt mm)), (2, .int (Int32.ofInt (p + 1)))]) (List.forall_mem_cons.mpr ⟨(List.Mem.tail _ (List.Mem.head _)), (List.forall_mem_cons.mpr ⟨(List.Mem.tail _ (List.Mem.tail _ (List.Mem.head _))), (List.forall_mem_cons.mpr ⟨(List.Mem.head _), (fun q h => absurd h List.not_mem_nil)⟩)⟩)⟩) ?_
          exact ih _ mm (p + 1) Is1002 Gs1002 (by first | exact ⟨hi.1, oq_03182e9e hi.2.1, oq_0c7b19c3 g1001⟩ | omega) (by first | exact qk_me hm (by decide) (oq_9f368f35 g1001) | omega) kx
        ·
          refine z_inc X (x := mm) (lv' := [(1, .int (Int32.ofInt (mm + 1))), (0, .ref (A 25)), (2, .int (Int32.ofInt p))]) (show cdA 31 18 = some (.iinc 1 1, 3, 0, 0, 0) from rfl) (by decide) (List.Mem.tail _ (List.Mem.head _)) (fun _ h => h) ?_
          refine z_inc X (x := p) (lv' := [(2, .int (Int32.ofInt (p + 1))), (1, .int (Int32.ofInt (mm + 1))), (0, .ref (A 25))]) (show cdA 31 21 = some (.iinc 2 1, 3, 0, 0, 0) from rfl) (by decide) (List.Mem.tail _ (List.Mem.tail _ (List.Mem.head _))) (fun _ h => h) ?_
          refine z_goto X (t := 4) (show cdA 31 24 = some (.goto (-20), 3, 0, 0, 0) from rfl) (by decide) ?_
          refine WS_lv (lv := [(0, .ref (A 25)), (1, .int (Int32.ofInt (mm + 1))), (2, .int (Int32.ofInt (p + 1)))]) (List.forall_mem_cons.mpr ⟨(List.Mem.tail _ (List.Mem.tail _ (List.Mem.head _))), (List.forall_mem_cons.mpr ⟨(List.Mem.tail _ (List.Mem.head _)), (List.forall_mem_cons.mpr ⟨(List.Mem.head _), (fun q h => absurd h List.not_mem_nil)⟩)⟩)⟩) ?_
          exact ih _ (mm + 1) (p + 1) Is1002 Gs1002 (by first | exact ⟨oq_54f49eb5 hi.1, oq_8d48a029 hi.2.1, oq_0c7b19c3 g1001⟩ | omega) (by first | exact qk_me hm (by decide) (oq_9f368f35 g1001) | omega) kx
  refine z_const X (show cdA 31 0 = some (.iconst 0, 1, 0, 0, 0) from rfl) ?_
  refine z_store_n X (lv' := [(1, .int (Int32.ofInt 0)), (0, .ref (A 25))]) (show cdA 31 1 = some (.istore_n 1, 1, 0, 0, 0) from rfl) (by decide) (fun _ h => h) ?_
  refine z_const X (show cdA 31 2 = some (.iconst 0, 1, 0, 0, 0) from rfl) ?_
  refine z_store_n X (lv' := [(2, .int (Int32.ofInt 0)), (1, .int (Int32.ofInt 0)), (0, .ref (A 25))]) (show cdA 31 3 = some (.istore_n 2, 1, 0, 0, 0) from rfl) (by decide) (fun _ h => h) ?_
  refine WS_lv (lv := [(0, .ref (A 25)), (1, .int (Int32.ofInt 0)), (2, .int (Int32.ofInt 0))]) (List.forall_mem_cons.mpr ⟨(List.Mem.tail _ (List.Mem.tail _ (List.Mem.head _))), (List.forall_mem_cons.mpr ⟨(List.Mem.tail _ (List.Mem.head _)), (List.forall_mem_cons.mpr ⟨(List.Mem.head _), (fun q h => absurd h List.not_mem_nil)⟩)⟩)⟩) ?_
  refine L4 ((8 - 0 : Int).toNat + 1) s 0 0 I F (by first | exact ⟨by decide, by decide, by decide⟩ | omega) (Nat.lt_succ_self _) ?_
  intro s1 x2 x3 Is1 Fs1 hs1
  refine z_load_n X (x := x2) (show cdA 31 27 = some (.iload_n 1, 1, 0, 0, 0) from rfl) (List.Mem.tail _ (List.Mem.head _)) ?_
  exact w_iret X.1 q hRt rfl (ax_d X (show cdA 31 28 = some (.ireturn, 1, 0, 0, 0) from rfl)) (Nat.zero_le _) (Nat.zero_le _) ⟨_, rfl, Is1, Fs1, x2, rfl, ⟨by first | exact oq_fa4e5087 hs1.1 | omega, by first | exact oq_b5dbaaed hs1.2.1 hs1.2.2 | omega⟩, trivial⟩
set_option maxRecDepth 4000 in
theorem c3_countShut_25 (G : GX l s0 D tys a0 dT) (I : Bd s)  : CT l s0 D A dT 32 (rmN 32) [.ref (A 25)] s (fun o t => Bd t ∧ Fm [] [] s t ∧ ∃ e, o = .inl (some (.int (Int32.ofInt e))) ∧ rng e ∧ (True)) := by
  refine ct_ofX G (by decide) (Nat.le_of_ble_eq_true rfl) (fun k X E ET hRt hXt q => ?_)
  show WS k 0 [(0, .ref (A 25))] [] _ 0 0
  have F : Fm [] [] s s := fm_rf _ _ s
  have L6 : ∀ (n : Nat) (t : PS) (mm p : Int), Bd t → Fm [] [] s t → (rng mm ∧ 0 ≤ p ∧ p ≤ 8) → (8 - p : Int).toNat < n → (∀ (t' : PS) (mm' p' : Int), Bd t' → Fm [] [] s t' → (rng mm' ∧ 0 ≤ p' ∧ p' ≤ 8) → WS k 40 [(0, .ref (A 25)), (1, .int (Int32.ofInt mm')), (2, .int (Int32.ofInt p'))] [] (Wd A dT t') 0 0) → WS k 6 [(0, .ref (A 25)), (1, .int (Int32.ofInt mm)), (2, .int (Int32.ofInt p))] [] (Wd A dT t) 0 0 := by
    intro n
    induction n with
    | zero =>
      intro t mm p I F hi hm kx
      exact absurd hm (Nat.not_lt_zero _)
    | succ n ih =>
      intro t mm p I F hi hm kx
      refine z_load_n X (x := p) (show cdA 32 6 = some (.iload_n 2, 1, 0, 0, 0) from rfl) (List.Mem.tail _ (List.Mem.tail _ (List.Mem.head _))) ?_
      refine z_bipush X (show cdA 32 7 = some (.bipush 8, 2, 0, 0, 8) from rfl) ?_
      refine z_icmp_ge X (t := 40) (show cdA 32 9 = some (.if_icmp .ge 31, 3, 3, 0, 0) from rfl) (by decide) ⟨by first | exact oq_fa4e5087 hi.2.1 | omega, by first | exact oq_d3f5d874 hi.2.2 | omega⟩ (by decide) (fun g1001 => ?_) (fun g1001 => ?_)
      ·
        refine WS_lv (lv := [(0, .ref (A 25)), (1, .int (Int32.ofInt mm)), (2, .int (Int32.ofInt p))]) (List.forall_mem_cons.mpr ⟨(List.Mem.head _), (List.forall_mem_cons.mpr ⟨(List.Mem.tail _ (List.Mem.head _)), (List.forall_mem_cons.mpr ⟨(List.Mem.tail _ (List.Mem.tail _ (List.Mem.head _))), (fun q h => absurd h List.not_mem_nil)⟩)⟩)⟩) ?_
        exact kx _ mm p I F (by first | exact ⟨And.intro (hi.1.1) (hi.1.2), hi.2.1, hi.2.2⟩ | omega)
      ·
        refine z_load_n X (x := mm) (show cdA 32 12 = some (.iload_n 1, 1, 0, 0, 0) from rfl) (List.Mem.tail _ (List.Mem.head _)) ?_
        refine z_aload_n X (x := A 25) (show cdA 32 13 = some (.aload_n 0, 1, 0, 0, 0) from rfl) (List.Mem.head _) ?_
        refine s_getR X 25 (show cdA 32 14 = some (.getfield 15, 3, 3, 1, 0) from rfl) (by decide) rfl rfl ?_
        refine z_load_n X (x := p) (show cdA 32 17 = some (.iload_n 2, 1, 0, 0, 0) from rfl) (List.Mem.tail _ (List.Mem.tail _ (List.Mem.head _))) ?_
        refine z_lald X 27 (show cdA 32 18 = some (.laload, 1, 0, 0, 0) from rfl) (by decide) rfl (by first | exact hi.2.1 | omega) (show p < 8 by first | exact g1001 | omega) (by decide) (fun j1002 => ?_)
        refine z_callS X (rm := rmN 298) (As := [.long j1002]) (st := [.int (Int32.ofInt mm)]) (show cdA 32 19 = some (.invokestatic 44, 3, 298, 1, 0) from rfl) rfl (by rw [E.1, E.2.1, E.2.2.1]; exact j_bitL G I ) ⟨by rw [E.2.2.2]; exact (show (rmN 298).frames + 1 ≤ (rmN 32).frames by decide), by rw [E.2.2.2]; exact (show 8 + (mNL (miB 298) + 11) + (rmN 298).locals ≤ (rmN 32).locals by decide), by rw [E.2.2.2]; exact (show 0 + (rmN 298).cells ≤ (rmN 32).cells by decide), by rw [E.2.2.2]; exact (show 0 + (rmN 298).slots ≤ (rmN 32).slots by decide)⟩ (Nat.le_of_ble_eq_true rfl) (fun vv s1003 hq => ?_) (fun ee s1003 hq => ?_)
        rotate_left
        · obtain ⟨Is1003, Fs1003, e1004, hv, hrs1003, hps1003⟩ := hq; cases hv
        obtain ⟨Is1003, Fs1003, e1004, hv, hrs1003, hps1003⟩ := hq
        cases hv
        have Gs1003 := fm_ts F Fs1003 (by decide) (by decide)
        show WS k 22 [(0, .ref (A 25)), (1, .int (Int32.ofInt mm)), (2, .int (Int32.ofInt p))] [.int (Int32.ofInt e1004), .int (Int32.ofInt mm)] (Wd A dT s1003) 0 0
        refine z_aload_n X (x := A 25) (show cdA 32 22 = some (.aload_n 0, 1, 0, 0, 0) from rfl) (List.Mem.head _) ?_
        refine s_getR X 25 (show cdA 32 23 = some (.getfield 19, 3, 3, 2, 0) from rfl) (by decide) rfl rfl ?_
        refine z_load_n X (x := p) (show cdA 32 26 = some (.iload_n 2, 1, 0, 0, 0) from rfl) (List.Mem.tail _ (List.Mem.tail _ (List.Mem.head _))) ?_
        refine z_lald X 28 (show cdA 32 27 = some (.laload, 1, 0, 0, 0) from rfl) (by decide) rfl (by first | exact hi.2.1 | omega) (show p < 8 by first | exact g1001 | omega) (by decide) (fun j1005 => ?_)
        refine z_callS X (rm := rmN 298) (As := [.long j1005]) (st := [.int (Int32.ofInt e1004), .int (Int32.ofInt mm)]) (show cdA 32 28 = some (.invokestatic 44, 3, 298, 1, 0) from rfl) rfl (by rw [E.1, E.2.1, E.2.2.1]; exact j_bitL G Is1003 ) ⟨by rw [E.2.2.2]; exact (show (rmN 298).frames + 1 ≤ (rmN 32).frames by decide), by rw [E.2.2.2]; exact (show 8 + (mNL (miB 298) + 11) + (rmN 298).locals ≤ (rmN 32).locals by decide), by rw [E.2.2.2]; exact (show 0 + (rmN 298).cells ≤ (rmN 32).cells by decide), by rw [E.2.2.2]; exact (show 0 + (rmN 298).slots ≤ (rmN 32).slots by decide)⟩ (Nat.le_of_ble_eq_true rfl) (fun vv s1006 hq => ?_) (fun ee s1006 hq => ?_)
        rotate_left
        · obtain ⟨Is1006, Fs1006, e1007, hv, hrs1006, hps1006⟩ := hq; cases hv
        obtain ⟨Is1006, Fs1006, e1007, hv, hrs1006, hps1006⟩ := hq
        cases hv
        have Gs1006 := fm_ts Gs1003 Fs1006 (by decide) (by decide)
        show WS k 31 [(0, .ref (A 25)), (1, .int (Int32.ofInt mm)), (2, .int (Int32.ofInt p))] [.int (Int32.ofInt e1007), .int (Int32.ofInt e1004), .int (Int32.ofInt mm)] (Wd A dT s1006) 0 0
        refine z_add X (show cdA 32 31 = some (.iadd, 1, 0, 0, 0) from rfl) ?_
        refine z_any (fun y1008 hy1008 => ?_)
        refine z_sub X (show cdA 32 32 = some (.isub, 1, 0, 0, 0) from rfl) ?_
        refine z_any (fun y1009 hy1009 => ?_)
        refine z_store_n X (lv' := [(1, .int (Int32.ofInt y1009)), (0, .ref (A 25)), (2, .int (Int32.ofInt p))]) (show cdA 32 33 = some (.istore_n 1, 1, 0, 0, 0) from rfl) (by decide) (fun _ h => h) ?_
        refine z_inc X (x := p) (lv' := [(2, .int (Int32.ofInt (p + 1))), (1, .int (Int32.ofInt y1009)), (0, .ref (A 25))]) (show cdA 32 34 = some (.iinc 2 1, 3, 0, 0, 0) from rfl) (by decide) (List.Mem.tail _ (List.Mem.tail _ (List.Mem.head _))) (fun _ h => h) ?_
        refine z_goto X (t := 6) (show cdA 32 37 = some (.goto (-31), 3, 0, 0, 0) from rfl) (by decide) ?_
        refine WS_lv (lv := [(0, .ref (A 25)), (1, .int (Int32.ofInt y1009)), (2, .int (Int32.ofInt (p + 1)))]) (List.forall_mem_cons.mpr ⟨(List.Mem.tail _ (List.Mem.tail _ (List.Mem.head _))), (List.forall_mem_cons.mpr ⟨(List.Mem.tail _ (List.Mem.head _)), (List.forall_mem_cons.mpr ⟨(List.Mem.head _), (fun q h => absurd h List.not_mem_nil)⟩)⟩)⟩) ?_
        exact ih _ y1009 (p + 1) Is1006 Gs1006 (by first | exact ⟨And.intro (hy1009.1) (hy1009.2), oq_54f49eb5 hi.2.1, oq_0c7b19c3 g1001⟩ | omega) (by first | exact qk_me hm (by decide) (oq_9f368f35 g1001) | omega) kx
  refine z_sipush X (show cdA 32 0 = some (.sipush 128, 3, 0, 0, 128) from rfl) ?_
  refine z_store_n X (lv' := [(1, .int (Int32.ofInt 128)), (0, .ref (A 25))]) (show cdA 32 3 = some (.istore_n 1, 1, 0, 0, 0) from rfl) (by decide) (fun _ h => h) ?_
  refine z_const X (show cdA 32 4 = some (.iconst 0, 1, 0, 0, 0) from rfl) ?_
  refine z_store_n X (lv' := [(2, .int (Int32.ofInt 0)), (1, .int (Int32.ofInt 128)), (0, .ref (A 25))]) (show cdA 32 5 = some (.istore_n 2, 1, 0, 0, 0) from rfl) (by decide) (fun _ h => h) ?_
  refine WS_lv (lv := [(0, .ref (A 25)), (1, .int (Int32.ofInt 128)), (2, .int (Int32.ofInt 0))]) (List.forall_mem_cons.mpr ⟨(List.Mem.tail _ (List.Mem.tail _ (List.Mem.head _))), (List.forall_mem_cons.mpr ⟨(List.Mem.tail _ (List.Mem.head _)), (List.forall_mem_cons.mpr ⟨(List.Mem.head _), (fun q h => absurd h List.not_mem_nil)⟩)⟩)⟩) ?_
  refine L6 ((8 - 0 : Int).toNat + 1) s 128 0 I F (by first | exact ⟨And.intro (by decide) (by decide), by decide, by decide⟩ | omega) (Nat.lt_succ_self _) ?_
  intro s1 x2 x3 Is1 Fs1 hs1
  refine z_load_n X (x := x2) (show cdA 32 40 = some (.iload_n 1, 1, 0, 0, 0) from rfl) (List.Mem.tail _ (List.Mem.head _)) ?_
  exact w_iret X.1 q hRt rfl (ax_d X (show cdA 32 41 = some (.ireturn, 1, 0, 0, 0) from rfl)) (Nat.zero_le _) (Nat.zero_le _) ⟨_, rfl, Is1, Fs1, x2, rfl, ⟨by first | exact hs1.1.1 | omega, by first | exact hs1.1.2 | omega⟩, trivial⟩
set_option maxRecDepth 4000 in
theorem c3_beside (G : GX l s0 D tys a0 dT) (I : Bd s) {aj bj : Int64}  : CT l s0 D A dT 33 (rmN 33) [.long aj, .long bj] s (fun o t => Bd t ∧ Fm [] [] s t ∧ ∃ e : Int64, o = .inl (some (.long e)) ∧ (True)) := by
  refine ct_ofX G (by decide) (Nat.le_of_ble_eq_true rfl) (fun k X E ET hRt hXt q => ?_)
  show WS k 0 [(0, .long aj), (2, .long bj)] [] _ 0 0
  have F : Fm [] [] s s := fm_rf _ _ s
  refine w_lload_n X.1 (ax_d X (show cdA 33 0 = some (.lload_n 0, 1, 0, 0, 0) from rfl)) (x := aj) (List.Mem.head _) ?_
  refine z_const X (show cdA 33 1 = some (.iconst 1, 1, 0, 0, 0) from rfl) ?_
  refine w_lshl X.1 (ax_d X (show cdA 33 2 = some (.lshl, 1, 0, 0, 0) from rfl)) ?_
  refine z_anyJ (fun j1 => ?_)
  refine z_ldc2 X (show cdA 33 3 = some (.ldc2_w 50, 3, 18374403900871474942, 0, 0) from rfl) (fun j2 => ?_)
  refine w_land X.1 (ax_d X (show cdA 33 6 = some (.land, 1, 0, 0, 0) from rfl)) ?_
  refine z_anyJ (fun j3 => ?_)
  refine w_lload_n X.1 (ax_d X (show cdA 33 7 = some (.lload_n 0, 1, 0, 0, 0) from rfl)) (x := aj) (List.Mem.head _) ?_
  refine z_const X (show cdA 33 8 = some (.iconst 1, 1, 0, 0, 0) from rfl) ?_
  refine w_lushr X.1 (ax_d X (show cdA 33 9 = some (.lushr, 1, 0, 0, 0) from rfl)) ?_
  refine z_anyJ (fun j4 => ?_)
  refine z_ldc2 X (show cdA 33 10 = some (.ldc2_w 52, 3, 9187201950435737471, 0, 0) from rfl) (fun j5 => ?_)
  refine w_land X.1 (ax_d X (show cdA 33 13 = some (.land, 1, 0, 0, 0) from rfl)) ?_
  refine z_anyJ (fun j6 => ?_)
  refine w_lor X.1 (ax_d X (show cdA 33 14 = some (.lor, 1, 0, 0, 0) from rfl)) ?_
  refine z_anyJ (fun j7 => ?_)
  refine w_lload_n X.1 (ax_d X (show cdA 33 15 = some (.lload_n 0, 1, 0, 0, 0) from rfl)) (x := aj) (List.Mem.head _) ?_
  refine z_bipush X (show cdA 33 16 = some (.bipush 8, 2, 0, 0, 8) from rfl) ?_
  refine w_lshl X.1 (ax_d X (show cdA 33 18 = some (.lshl, 1, 0, 0, 0) from rfl)) ?_
  refine z_anyJ (fun j8 => ?_)
  refine w_lor X.1 (ax_d X (show cdA 33 19 = some (.lor, 1, 0, 0, 0) from rfl)) ?_
  refine z_anyJ (fun j9 => ?_)
  refine w_lload_n X.1 (ax_d X (show cdA 33 20 = some (.lload_n 0, 1, 0, 0, 0) from rfl)) (x := aj) (List.Mem.head _) ?_
  refine z_bipush X (show cdA 33 21 = some (.bipush 8, 2, 0, 0, 8) from rfl) ?_
  refine w_lushr X.1 (ax_d X (show cdA 33 23 = some (.lushr, 1, 0, 0, 0) from rfl)) ?_
  refine z_anyJ (fun j10 => ?_)
  refine w_lor X.1 (ax_d X (show cdA 33 24 = some (.lor, 1, 0, 0, 0) from rfl)) ?_
  refine z_anyJ (fun j11 => ?_)
  refine w_lload_n X.1 (ax_d X (show cdA 33 25 = some (.lload_n 2, 1, 0, 0, 0) from rfl)) (x := bj) (List.Mem.tail _ (List.Mem.head _)) ?_
  refine w_lor X.1 (ax_d X (show cdA 33 26 = some (.lor, 1, 0, 0, 0) from rfl)) ?_
  refine z_anyJ (fun j12 => ?_)
  exact w_lret X.1 q hRt (ax_d X (show cdA 33 27 = some (.lreturn, 1, 0, 0, 0) from rfl)) (Nat.zero_le _) (Nat.zero_le _) ⟨_, rfl, I, F, j12, rfl, trivial⟩
set_option maxRecDepth 4000 in
theorem c3_reaches (G : GX l s0 D tys a0 dT) (I : Bd s) {aj bj cj dj : Int64}  : CT l s0 D A dT 35 (rmN 35) [.long aj, .long bj, .long cj, .long dj] s (fun o t => Bd t ∧ Fm [] [] s t ∧ ∃ e, o = .inl (some (.int (Int32.ofInt e))) ∧ rng e ∧ (e = 0 ∨ e = 1)) := by
  refine ct_ofX G (by decide) (Nat.le_of_ble_eq_true rfl) (fun k X E ET hRt hXt q => ?_)
  show WS k 0 [(0, .long aj), (2, .long bj), (4, .long cj), (6, .long dj)] [] _ 0 0
  have F : Fm [] [] s s := fm_rf _ _ s
  have L28 : ∀ (n : Nat) (t : PS) (av : Int64) (bv : Int64) (cv : Int64) (dv : Int64) (ev : Int64) (fv : Int64) (c : Int), Bd t → Fm [] [] s t → (0 ≤ c ∧ c ≤ 128) → (128 - c : Int).toNat < n → (∀ (t' : PS) (ev' : Int64) (fv' : Int64) (c' : Int), Bd t' → Fm [] [] s t' → (0 ≤ c' ∧ c' ≤ 128) → WS k 122 [(0, .long av), (2, .long bv), (4, .long cv), (6, .long dv), (8, .long ev'), (10, .long fv'), (12, .int (Int32.ofInt c'))] [] (Wd A dT t') 0 0) → WS k 28 [(0, .long av), (2, .long bv), (4, .long cv), (6, .long dv), (8, .long ev), (10, .long fv), (12, .int (Int32.ofInt c))] [] (Wd A dT t) 0 0 := by
    intro n
    induction n with
    | zero =>
      intro t av bv cv dv ev fv c I F hi hm kx
      exact absurd hm (Nat.not_lt_zero _)
    | succ n ih =>
      intro t av bv cv dv ev fv c I F hi hm kx
      refine z_load X (x := c) (show cdA 35 28 = some (.iload 12, 2, 0, 0, 0) from rfl) (List.Mem.tail _ (List.Mem.tail _ (List.Mem.tail _ (List.Mem.tail _ (List.Mem.tail _ (List.Mem.tail _ (List.Mem.head _))))))) ?_
      refine z_sipush X (show cdA 35 30 = some (.sipush 128, 3, 0, 0, 128) from rfl) ?_
      refine z_icmp_ge X (t := 122) (show cdA 35 33 = some (.if_icmp .ge 89, 3, 3, 0, 0) from rfl) (by decide) ⟨by first | exact oq_fa4e5087 hi.1 | omega, by first | exact oq_4ee82282 hi.2 | omega⟩ (by decide) (fun g1001 => ?_) (fun g1001 => ?_)
      ·
        refine WS_lv (lv := [(0, .long av), (2, .long bv), (4, .long cv), (6, .long dv), (8, .long ev), (10, .long fv), (12, .int (Int32.ofInt c))]) (List.forall_mem_cons.mpr ⟨(List.Mem.head _), (List.forall_mem_cons.mpr ⟨(List.Mem.tail _ (List.Mem.head _)), (List.forall_mem_cons.mpr ⟨(List.Mem.tail _ (List.Mem.tail _ (List.Mem.head _))), (List.forall_mem_cons.mpr ⟨(List.Mem.tail _ (List.Mem.tail _ (List.Mem.tail _ (List.Mem.head _)))), (List.forall_mem_cons.mpr ⟨(List.Mem.tail _ (List.Mem.tail _ (List.Mem.tail _ (List.Mem.tail _ (List.Mem.head _))))), (List.forall_mem_cons.mpr ⟨(List.Mem.tail _ (List.Mem.tail _ (List.Mem.tail _ (List.Mem.tail _ (List.Mem.tail _ (List.Mem.head _)))))), (List.forall_mem_cons.mpr ⟨(List.Mem.tail _ (List.Mem.tail _ (List.Mem.tail _ (List.Mem.tail _ (List.Mem.tail _ (List.Mem.tail _ (List.Mem.head _))))))), (fun q h => absurd h List.not_mem_nil)⟩)⟩)⟩)⟩)⟩)⟩)⟩) ?_
        exact kx _ ev fv c I F (by first | exact ⟨hi.1, hi.2⟩ | omega)
      ·
        refine w_lload X.1 (ax_d X (show cdA 35 36 = some (.lload 4, 2, 0, 0, 0) from rfl)) (x := cv) (List.Mem.tail _ (List.Mem.tail _ (List.Mem.head _))) ?_
        refine w_lload X.1 (ax_d X (show cdA 35 38 = some (.lload 8, 2, 0, 0, 0) from rfl)) (x := ev) (List.Mem.tail _ (List.Mem.tail _ (List.Mem.tail _ (List.Mem.tail _ (List.Mem.head _))))) ?_
        refine z_ldc2 X (show cdA 35 40 = some (.ldc2_w 28, 3, 18446744073709551615, 0, 0) from rfl) (fun j1002 => ?_)
        refine w_lxor X.1 (ax_d X (show cdA 35 43 = some (.lxor, 1, 0, 0, 0) from rfl)) ?_
        refine z_anyJ (fun j1003 => ?_)
        refine w_land X.1 (ax_d X (show cdA 35 44 = some (.land, 1, 0, 0, 0) from rfl)) ?_
        refine z_anyJ (fun j1004 => ?_)
        refine w_lload X.1 (ax_d X (show cdA 35 45 = some (.lload 6, 2, 0, 0, 0) from rfl)) (x := dv) (List.Mem.tail _ (List.Mem.tail _ (List.Mem.tail _ (List.Mem.head _)))) ?_
        refine w_lload X.1 (ax_d X (show cdA 35 47 = some (.lload 10, 2, 0, 0, 0) from rfl)) (x := fv) (List.Mem.tail _ (List.Mem.tail _ (List.Mem.tail _ (List.Mem.tail _ (List.Mem.tail _ (List.Mem.head _)))))) ?_
        refine z_ldc2 X (show cdA 35 49 = some (.ldc2_w 28, 3, 18446744073709551615, 0, 0) from rfl) (fun j1005 => ?_)
        refine w_lxor X.1 (ax_d X (show cdA 35 52 = some (.lxor, 1, 0, 0, 0) from rfl)) ?_
        refine z_anyJ (fun j1006 => ?_)
        refine w_land X.1 (ax_d X (show cdA 35 53 = some (.land, 1, 0, 0, 0) from rfl)) ?_
        refine z_anyJ (fun j1007 => ?_)
        refine w_lor X.1 (ax_d X (show cdA 35 54 = some (.lor, 1, 0, 0, 0) from rfl)) ?_
        refine z_anyJ (fun j1008 => ?_)
        refine w_lconst X.1 (ax_d X (show cdA 35 55 = some (.lconst 0, 1, 0, 0, 0) from rfl)) rfl ?_
        refine z_anyJ (fun j1009 => ?_)
        refine w_lcmp X.1 (ax_d X (show cdA 35 56 = some (.lcmp, 1, 0, 0, 0) from rfl)) ?_
        refine z_any (fun y1010 hy1010 => ?_)
        refine z_if_ne X (t := 62) (show cdA 35 57 = some (.ifCond .ne 5, 3, 1, 0, 0) from rfl) (by decide) hy1010 (fun g1011 => ?_) (fun g1011 => ?_)
        ·
          refine w_lload X.1 (ax_d X (show cdA 35 62 = some (.lload 8, 2, 0, 0, 0) from rfl)) (x := ev) (List.Mem.tail _ (List.Mem.tail _ (List.Mem.tail _ (List.Mem.tail _ (List.Mem.head _))))) ?_
          refine w_lload X.1 (ax_d X (show cdA 35 64 = some (.lload 8, 2, 0, 0, 0) from rfl)) (x := ev) (List.Mem.tail _ (List.Mem.tail _ (List.Mem.tail _ (List.Mem.tail _ (List.Mem.head _))))) ?_
          refine w_lload X.1 (ax_d X (show cdA 35 66 = some (.lload 10, 2, 0, 0, 0) from rfl)) (x := fv) (List.Mem.tail _ (List.Mem.tail _ (List.Mem.tail _ (List.Mem.tail _ (List.Mem.tail _ (List.Mem.head _)))))) ?_
          refine z_callS X (rm := rmN 33) (As := [.long ev, .long fv]) (st := [.long ev]) (show cdA 35 68 = some (.invokestatic 62, 3, 33, 1, 0) from rfl) rfl (by rw [E.1, E.2.1, E.2.2.1]; exact c3_beside G I ) ⟨by rw [E.2.2.2]; exact (show (rmN 33).frames + 1 ≤ (rmN 35).frames by decide), by rw [E.2.2.2]; exact (show 8 + (mNL (miB 33) + 11) + (rmN 33).locals ≤ (rmN 35).locals by decide), by rw [E.2.2.2]; exact (show 0 + (rmN 33).cells ≤ (rmN 35).cells by decide), by rw [E.2.2.2]; exact (show 0 + (rmN 33).slots ≤ (rmN 35).slots by decide)⟩ (Nat.le_of_ble_eq_true rfl) (fun vv s1012 hq => ?_) (fun ee s1012 hq => ?_)
          rotate_left
          · obtain ⟨Is1012, Fs1012, e1013, hv, hrs1012, hps1012⟩ := hq; cases hv
          obtain ⟨Is1012, Fs1012, e1013, hv, hrs1012, hps1012⟩ := hq
          cases hv
          have Gs1012 := fm_ts F Fs1012 (by decide) (by decide)
          show WS k 71 [(0, .long av), (2, .long bv), (4, .long cv), (6, .long dv), (8, .long ev), (10, .long fv), (12, .int (Int32.ofInt c))] [.long e1013, .long ev] (Wd A dT s1012) 0 0
          refine w_lor X.1 (ax_d X (show cdA 35 71 = some (.lor, 1, 0, 0, 0) from rfl)) ?_
          refine z_anyJ (fun j1014 => ?_)
          refine w_lload_n X.1 (ax_d X (show cdA 35 72 = some (.lload_n 0, 1, 0, 0, 0) from rfl)) (x := av) (List.Mem.head _) ?_
          refine w_land X.1 (ax_d X (show cdA 35 73 = some (.land, 1, 0, 0, 0) from rfl)) ?_
          refine z_anyJ (fun j1015 => ?_)
          refine w_lstore X.1 (lv' := [(13, .long j1015), (0, .long av), (2, .long bv), (4, .long cv), (6, .long dv), (8, .long ev), (10, .long fv), (12, .int (Int32.ofInt c))]) (ax_d X (show cdA 35 74 = some (.lstore 13, 2, 0, 0, 0) from rfl)) (by rw [X.2.1.2.2]; decide) (fun _ h => h) ?_
          refine w_lload X.1 (ax_d X (show cdA 35 76 = some (.lload 10, 2, 0, 0, 0) from rfl)) (x := fv) (List.Mem.tail _ (List.Mem.tail _ (List.Mem.tail _ (List.Mem.tail _ (List.Mem.tail _ (List.Mem.tail _ (List.Mem.head _))))))) ?_
          refine w_lload X.1 (ax_d X (show cdA 35 78 = some (.lload 10, 2, 0, 0, 0) from rfl)) (x := fv) (List.Mem.tail _ (List.Mem.tail _ (List.Mem.tail _ (List.Mem.tail _ (List.Mem.tail _ (List.Mem.tail _ (List.Mem.head _))))))) ?_
          refine w_lload X.1 (ax_d X (show cdA 35 80 = some (.lload 13, 2, 0, 0, 0) from rfl)) (x := j1015) (List.Mem.head _) ?_
          refine z_callS X (rm := rmN 33) (As := [.long fv, .long j1015]) (st := [.long fv]) (show cdA 35 82 = some (.invokestatic 62, 3, 33, 1, 0) from rfl) rfl (by rw [E.1, E.2.1, E.2.2.1]; exact c3_beside G Is1012 ) ⟨by rw [E.2.2.2]; exact (show (rmN 33).frames + 1 ≤ (rmN 35).frames by decide), by rw [E.2.2.2]; exact (show 8 + (mNL (miB 33) + 11) + (rmN 33).locals ≤ (rmN 35).locals by decide), by rw [E.2.2.2]; exact (show 0 + (rmN 33).cells ≤ (rmN 35).cells by decide), by rw [E.2.2.2]; exact (show 0 + (rmN 33).slots ≤ (rmN 35).slots by decide)⟩ (Nat.le_of_ble_eq_true rfl) (fun vv s1016 hq => ?_) (fun ee s1016 hq => ?_)
          rotate_left
          · obtain ⟨Is1016, Fs1016, e1017, hv, hrs1016, hps1016⟩ := hq; cases hv
          obtain ⟨Is1016, Fs1016, e1017, hv, hrs1016, hps1016⟩ := hq
          cases hv
          have Gs1016 := fm_ts Gs1012 Fs1016 (by decide) (by decide)
          show WS k 85 [(13, .long j1015), (0, .long av), (2, .long bv), (4, .long cv), (6, .long dv), (8, .long ev), (10, .long fv), (12, .int (Int32.ofInt c))] [.long e1017, .long fv] (Wd A dT s1016) 0 0
          refine w_lor X.1 (ax_d X (show cdA 35 85 = some (.lor, 1, 0, 0, 0) from rfl)) ?_
          refine z_anyJ (fun j1018 => ?_)
          refine w_lload_n X.1 (ax_d X (show cdA 35 86 = some (.lload_n 2, 1, 0, 0, 0) from rfl)) (x := bv) (List.Mem.tail _ (List.Mem.tail _ (List.Mem.head _))) ?_
          refine w_land X.1 (ax_d X (show cdA 35 87 = some (.land, 1, 0, 0, 0) from rfl)) ?_
          refine z_anyJ (fun j1019 => ?_)
          refine w_lstore X.1 (lv' := [(15, .long j1019), (13, .long j1015), (0, .long av), (2, .long bv), (4, .long cv), (6, .long dv), (8, .long ev), (10, .long fv), (12, .int (Int32.ofInt c))]) (ax_d X (show cdA 35 88 = some (.lstore 15, 2, 0, 0, 0) from rfl)) (by rw [X.2.1.2.2]; decide) (fun _ h => h) ?_
          refine w_lload X.1 (ax_d X (show cdA 35 90 = some (.lload 13, 2, 0, 0, 0) from rfl)) (x := j1015) (List.Mem.tail _ (List.Mem.head _)) ?_
          refine w_lload X.1 (ax_d X (show cdA 35 92 = some (.lload 8, 2, 0, 0, 0) from rfl)) (x := ev) (List.Mem.tail _ (List.Mem.tail _ (List.Mem.tail _ (List.Mem.tail _ (List.Mem.tail _ (List.Mem.tail _ (List.Mem.head _))))))) ?_
          refine w_lcmp X.1 (ax_d X (show cdA 35 94 = some (.lcmp, 1, 0, 0, 0) from rfl)) ?_
          refine z_any (fun y1020 hy1020 => ?_)
          refine z_if_ne X (t := 108) (show cdA 35 95 = some (.ifCond .ne 13, 3, 1, 0, 0) from rfl) (by decide) hy1020 (fun g1021 => ?_) (fun g1021 => ?_)
          ·
            refine w_lload X.1 (ax_d X (show cdA 35 108 = some (.lload 13, 2, 0, 0, 0) from rfl)) (x := j1015) (List.Mem.tail _ (List.Mem.head _)) ?_
            refine w_lstore X.1 (lv' := [(8, .long j1015), (15, .long j1019), (13, .long j1015), (0, .long av), (2, .long bv), (4, .long cv), (6, .long dv), (10, .long fv), (12, .int (Int32.ofInt c))]) (ax_d X (show cdA 35 110 = some (.lstore 8, 2, 0, 0, 0) from rfl)) (by rw [X.2.1.2.2]; decide) (fun _ h => h) ?_
            refine w_lload X.1 (ax_d X (show cdA 35 112 = some (.lload 15, 2, 0, 0, 0) from rfl)) (x := j1019) (List.Mem.tail _ (List.Mem.head _)) ?_
            refine w_lstore X.1 (lv' := [(10, .long j1019), (8, .long j1015), (15, .long j1019), (13, .long j1015), (0, .long av), (2, .long bv), (4, .long cv), (6, .long dv), (12, .int (Int32.ofInt c))]) (ax_d X (show cdA 35 114 = some (.lstore 10, 2, 0, 0, 0) from rfl)) (by rw [X.2.1.2.2]; decide) (fun _ h => h) ?_
            refine z_inc X (x := c) (lv' := [(12, .int (Int32.ofInt (c + 1))), (10, .long j1019), (8, .long j1015), (15, .long j1019), (13, .long j1015), (0, .long av), (2, .long bv), (4, .long cv), (6, .long dv)]) (show cdA 35 116 = some (.iinc 12 1, 3, 0, 0, 0) from rfl) (by decide) (List.Mem.tail _ (List.Mem.tail _ (List.Mem.tail _ (List.Mem.tail _ (List.Mem.tail _ (List.Mem.tail _ (List.Mem.tail _ (List.Mem.tail _ (List.Mem.head _))))))))) (fun _ h => h) ?_
            refine z_goto X (t := 28) (show cdA 35 119 = some (.goto (-91), 3, 0, 0, 0) from rfl) (by decide) ?_
            refine WS_lv (lv := [(0, .long av), (2, .long bv), (4, .long cv), (6, .long dv), (8, .long j1015), (10, .long j1019), (12, .int (Int32.ofInt (c + 1)))]) (List.forall_mem_cons.mpr ⟨(List.Mem.tail _ (List.Mem.tail _ (List.Mem.tail _ (List.Mem.tail _ (List.Mem.tail _ (List.Mem.head _)))))), (List.forall_mem_cons.mpr ⟨(List.Mem.tail _ (List.Mem.tail _ (List.Mem.tail _ (List.Mem.tail _ (List.Mem.tail _ (List.Mem.tail _ (List.Mem.head _))))))), (List.forall_mem_cons.mpr ⟨(List.Mem.tail _ (List.Mem.tail _ (List.Mem.tail _ (List.Mem.tail _ (List.Mem.tail _ (List.Mem.tail _ (List.Mem.tail _ (List.Mem.head _)))))))), (List.forall_mem_cons.mpr ⟨(List.Mem.tail _ (List.Mem.tail _ (List.Mem.tail _ (List.Mem.tail _ (List.Mem.tail _ (List.Mem.tail _ (List.Mem.tail _ (List.Mem.tail _ (List.Mem.head _))))))))), (List.forall_mem_cons.mpr ⟨(List.Mem.tail _ (List.Mem.tail _ (List.Mem.head _))), (List.forall_mem_cons.mpr ⟨(List.Mem.tail _ (List.Mem.head _)), (List.forall_mem_cons.mpr ⟨(List.Mem.head _), (fun q h => absurd h List.not_mem_nil)⟩)⟩)⟩)⟩)⟩)⟩)⟩) ?_
            exact ih _ av bv cv dv j1015 j1019 (c + 1) Is1016 Gs1016 (by first | exact ⟨oq_54f49eb5 hi.1, oq_d2afb425 g1001⟩ | omega) (by first | exact qk_me hm (by decide) (oq_c268b7bd g1001) | omega) kx
          ·
            refine w_lload X.1 (ax_d X (show cdA 35 98 = some (.lload 15, 2, 0, 0, 0) from rfl)) (x := j1019) (List.Mem.head _) ?_
            refine w_lload X.1 (ax_d X (show cdA 35 100 = some (.lload 10, 2, 0, 0, 0) from rfl)) (x := fv) (List.Mem.tail _ (List.Mem.tail _ (List.Mem.tail _ (List.Mem.tail _ (List.Mem.tail _ (List.Mem.tail _ (List.Mem.tail _ (List.Mem.head _)))))))) ?_
            refine w_lcmp X.1 (ax_d X (show cdA 35 102 = some (.lcmp, 1, 0, 0, 0) from rfl)) ?_
            refine z_any (fun y1022 hy1022 => ?_)
            refine z_if_ne X (t := 108) (show cdA 35 103 = some (.ifCond .ne 5, 3, 1, 0, 0) from rfl) (by decide) hy1022 (fun g1023 => ?_) (fun g1023 => ?_)
            ·
              refine w_lload X.1 (ax_d X (show cdA 35 108 = some (.lload 13, 2, 0, 0, 0) from rfl)) (x := j1015) (List.Mem.tail _ (List.Mem.head _)) ?_
              refine w_lstore X.1 (lv' := [(8, .long j1015), (15, .long j1019), (13, .long j1015), (0, .long av), (2, .long bv), (4, .long cv), (6, .long dv), (10, .long fv), (12, .int (Int32.ofInt c))]) (ax_d X (show cdA 35 110 = some (.lstore 8, 2, 0, 0, 0) from rfl)) (by rw [X.2.1.2.2]; decide) (fun _ h => h) ?_
              refine w_lload X.1 (ax_d X (show cdA 35 112 = some (.lload 15, 2, 0, 0, 0) from rfl)) (x := j1019) (List.Mem.tail _ (List.Mem.head _)) ?_
              refine w_lstore X.1 (lv' := [(10, .long j1019), (8, .long j1015), (15, .long j1019), (13, .long j1015), (0, .long av), (2, .long bv), (4, .long cv), (6, .long dv), (12, .int (Int32.ofInt c))]) (ax_d X (show cdA 35 114 = some (.lstore 10, 2, 0, 0, 0) from rfl)) (by rw [X.2.1.2.2]; decide) (fun _ h => h) ?_
              refine z_inc X (x := c) (lv' := [(12, .int (Int32.ofInt (c + 1))), (10, .long j1019), (8, .long j1015), (15, .long j1019), (13, .long j1015), (0, .long av), (2, .long bv), (4, .long cv), (6, .long dv)]) (show cdA 35 116 = some (.iinc 12 1, 3, 0, 0, 0) from rfl) (by decide) (List.Mem.tail _ (List.Mem.tail _ (List.Mem.tail _ (List.Mem.tail _ (List.Mem.tail _ (List.Mem.tail _ (List.Mem.tail _ (List.Mem.tail _ (List.Mem.head _))))))))) (fun _ h => h) ?_
              refine z_goto X (t := 28) (show cdA 35 119 = some (.goto (-91), 3, 0, 0, 0) from rfl) (by decide) ?_
              refine WS_lv (lv := [(0, .long av), (2, .long bv), (4, .long cv), (6, .long dv), (8, .long j1015), (10, .long j1019), (12, .int (Int32.ofInt (c + 1)))]) (List.forall_mem_cons.mpr ⟨(List.Mem.tail _ (List.Mem.tail _ (List.Mem.tail _ (List.Mem.tail _ (List.Mem.tail _ (List.Mem.head _)))))), (List.forall_mem_cons.mpr ⟨(List.Mem.tail _ (List.Mem.tail _ (List.Mem.tail _ (List.Mem.tail _ (List.Mem.tail _ (List.Mem.tail _ (List.Mem.head _))))))), (List.forall_mem_cons.mpr ⟨(List.Mem.tail _ (List.Mem.tail _ (List.Mem.tail _ (List.Mem.tail _ (List.Mem.tail _ (List.Mem.tail _ (List.Mem.tail _ (List.Mem.head _)))))))), (List.forall_mem_cons.mpr ⟨(List.Mem.tail _ (List.Mem.tail _ (List.Mem.tail _ (List.Mem.tail _ (List.Mem.tail _ (List.Mem.tail _ (List.Mem.tail _ (List.Mem.tail _ (List.Mem.head _))))))))), (List.forall_mem_cons.mpr ⟨(List.Mem.tail _ (List.Mem.tail _ (List.Mem.head _))), (List.forall_mem_cons.mpr ⟨(List.Mem.tail _ (List.Mem.head _)), (List.forall_mem_cons.mpr ⟨(List.Mem.head _), (fun q h => absurd h List.not_mem_nil)⟩)⟩)⟩)⟩)⟩)⟩)⟩) ?_
              exact ih _ av bv cv dv j1015 j1019 (c + 1) Is1016 Gs1016 (by first | exact ⟨oq_54f49eb5 hi.1, oq_d2afb425 g1001⟩ | omega) (by first | exact qk_me hm (by decide) (oq_c268b7bd g1001) | omega) kx
            ·
              refine z_const X (show cdA 35 106 = some (.iconst 0, 1, 0, 0, 0) from rfl) ?_
              exact w_iret X.1 q hRt (nar_ret (by first | exact Or.inl (by decide) | omega)) (ax_d X (show cdA 35 107 = some (.ireturn, 1, 0, 0, 0) from rfl)) (Nat.zero_le _) (Nat.zero_le _) ⟨_, rfl, Is1016, Gs1016, 0, rfl, (by decide), by first | exact Or.inl (by decide) | omega⟩
        ·
          refine z_const X (show cdA 35 60 = some (.iconst 1, 1, 0, 0, 0) from rfl) ?_
          exact w_iret X.1 q hRt (nar_ret (by first | exact Or.inr (by decide) | omega)) (ax_d X (show cdA 35 61 = some (.ireturn, 1, 0, 0, 0) from rfl)) (Nat.zero_le _) (Nat.zero_le _) ⟨_, rfl, I, F, 1, rfl, (by decide), by first | exact Or.inr (by decide) | omega⟩
  refine w_lload X.1 (ax_d X (show cdA 35 0 = some (.lload 4, 2, 0, 0, 0) from rfl)) (x := cj) (List.Mem.tail _ (List.Mem.tail _ (List.Mem.head _))) ?_
  refine z_callS X (rm := rmN 297) (As := [.long cj]) (st := []) (show cdA 35 2 = some (.invokestatic 58, 3, 297, 1, 0) from rfl) rfl (by rw [E.1, E.2.1, E.2.2.1]; exact j_lowL G I ) ⟨by rw [E.2.2.2]; exact (show (rmN 297).frames + 1 ≤ (rmN 35).frames by decide), by rw [E.2.2.2]; exact (show 8 + (mNL (miB 297) + 11) + (rmN 297).locals ≤ (rmN 35).locals by decide), by rw [E.2.2.2]; exact (show 0 + (rmN 297).cells ≤ (rmN 35).cells by decide), by rw [E.2.2.2]; exact (show 0 + (rmN 297).slots ≤ (rmN 35).slots by decide)⟩ (Nat.le_of_ble_eq_true rfl) (fun vv s1 hq => ?_) (fun ee s1 hq => ?_)
  rotate_left
  · obtain ⟨Is1, Fs1, e2, hv, hrs1, hps1⟩ := hq; cases hv
  obtain ⟨Is1, Fs1, e2, hv, hrs1, hps1⟩ := hq
  cases hv
  have Gs1 := fm_ts F Fs1 (by decide) (by decide)
  show WS k 5 [(0, .long aj), (2, .long bj), (4, .long cj), (6, .long dj)] [.long e2] (Wd A dT s1) 0 0
  refine w_lstore X.1 (lv' := [(8, .long e2), (0, .long aj), (2, .long bj), (4, .long cj), (6, .long dj)]) (ax_d X (show cdA 35 5 = some (.lstore 8, 2, 0, 0, 0) from rfl)) (by rw [X.2.1.2.2]; decide) (fun _ h => h) ?_
  refine w_lload X.1 (ax_d X (show cdA 35 7 = some (.lload 4, 2, 0, 0, 0) from rfl)) (x := cj) (List.Mem.tail _ (List.Mem.tail _ (List.Mem.tail _ (List.Mem.head _)))) ?_
  refine w_lconst X.1 (ax_d X (show cdA 35 9 = some (.lconst 0, 1, 0, 0, 0) from rfl)) rfl ?_
  refine z_anyJ (fun j3 => ?_)
  refine w_lcmp X.1 (ax_d X (show cdA 35 10 = some (.lcmp, 1, 0, 0, 0) from rfl)) ?_
  refine z_any (fun y4 hy4 => ?_)
  refine z_if_ne X (t := 22) (show cdA 35 11 = some (.ifCond .ne 11, 3, 1, 0, 0) from rfl) (by decide) hy4 (fun g5 => ?_) (fun g5 => ?_)
  ·
    refine w_lconst X.1 (ax_d X (show cdA 35 22 = some (.lconst 0, 1, 0, 0, 0) from rfl)) rfl ?_
    refine z_anyJ (fun j6 => ?_)
    refine w_lstore X.1 (lv' := [(10, .long j6), (8, .long e2), (0, .long aj), (2, .long bj), (4, .long cj), (6, .long dj)]) (ax_d X (show cdA 35 23 = some (.lstore 10, 2, 0, 0, 0) from rfl)) (by rw [X.2.1.2.2]; decide) (fun _ h => h) ?_
    refine z_const X (show cdA 35 25 = some (.iconst 0, 1, 0, 0, 0) from rfl) ?_
    refine z_store X (lv' := [(12, .int (Int32.ofInt 0)), (10, .long j6), (8, .long e2), (0, .long aj), (2, .long bj), (4, .long cj), (6, .long dj)]) (show cdA 35 26 = some (.istore 12, 2, 0, 0, 0) from rfl) (by decide) (fun _ h => h) ?_
    refine WS_lv (lv := [(0, .long aj), (2, .long bj), (4, .long cj), (6, .long dj), (8, .long e2), (10, .long j6), (12, .int (Int32.ofInt 0))]) (List.forall_mem_cons.mpr ⟨(List.Mem.tail _ (List.Mem.tail _ (List.Mem.tail _ (List.Mem.head _)))), (List.forall_mem_cons.mpr ⟨(List.Mem.tail _ (List.Mem.tail _ (List.Mem.tail _ (List.Mem.tail _ (List.Mem.head _))))), (List.forall_mem_cons.mpr ⟨(List.Mem.tail _ (List.Mem.tail _ (List.Mem.tail _ (List.Mem.tail _ (List.Mem.tail _ (List.Mem.head _)))))), (List.forall_mem_cons.mpr ⟨(List.Mem.tail _ (List.Mem.tail _ (List.Mem.tail _ (List.Mem.tail _ (List.Mem.tail _ (List.Mem.tail _ (List.Mem.head _))))))), (List.forall_mem_cons.mpr ⟨(List.Mem.tail _ (List.Mem.tail _ (List.Mem.head _))), (List.forall_mem_cons.mpr ⟨(List.Mem.tail _ (List.Mem.head _)), (List.forall_mem_cons.mpr ⟨(List.Mem.head _), (fun q h => absurd h List.not_mem_nil)⟩)⟩)⟩)⟩)⟩)⟩)⟩) ?_
    refine L28 ((128 - 0 : Int).toNat + 1) s1 aj bj cj dj e2 j6 0 Is1 Gs1 (by first | exact ⟨by decide, by decide⟩ | omega) (Nat.lt_succ_self _) ?_
    intro s7 x8 x9 x10 Is7 Fs7 hs7
    refine z_const X (show cdA 35 122 = some (.iconst 0, 1, 0, 0, 0) from rfl) ?_
    exact w_iret X.1 q hRt (nar_ret (by first | exact Or.inl (by decide) | omega)) (ax_d X (show cdA 35 123 = some (.ireturn, 1, 0, 0, 0) from rfl)) (Nat.zero_le _) (Nat.zero_le _) ⟨_, rfl, Is7, Fs7, 0, rfl, (by decide), by first | exact Or.inl (by decide) | omega⟩
  ·
    refine w_lload X.1 (ax_d X (show cdA 35 14 = some (.lload 6, 2, 0, 0, 0) from rfl)) (x := dj) (List.Mem.tail _ (List.Mem.tail _ (List.Mem.tail _ (List.Mem.tail _ (List.Mem.head _))))) ?_
    refine z_callS X (rm := rmN 297) (As := [.long dj]) (st := []) (show cdA 35 16 = some (.invokestatic 58, 3, 297, 1, 0) from rfl) rfl (by rw [E.1, E.2.1, E.2.2.1]; exact j_lowL G Is1 ) ⟨by rw [E.2.2.2]; exact (show (rmN 297).frames + 1 ≤ (rmN 35).frames by decide), by rw [E.2.2.2]; exact (show 8 + (mNL (miB 297) + 11) + (rmN 297).locals ≤ (rmN 35).locals by decide), by rw [E.2.2.2]; exact (show 0 + (rmN 297).cells ≤ (rmN 35).cells by decide), by rw [E.2.2.2]; exact (show 0 + (rmN 297).slots ≤ (rmN 35).slots by decide)⟩ (Nat.le_of_ble_eq_true rfl) (fun vv s11 hq => ?_) (fun ee s11 hq => ?_)
    rotate_left
    · obtain ⟨Is11, Fs11, e12, hv, hrs11, hps11⟩ := hq; cases hv
    obtain ⟨Is11, Fs11, e12, hv, hrs11, hps11⟩ := hq
    cases hv
    have Gs11 := fm_ts Gs1 Fs11 (by decide) (by decide)
    show WS k 19 [(8, .long e2), (0, .long aj), (2, .long bj), (4, .long cj), (6, .long dj)] [.long e12] (Wd A dT s11) 0 0
    refine z_goto X (t := 23) (show cdA 35 19 = some (.goto 4, 3, 0, 0, 0) from rfl) (by decide) ?_
    refine w_lstore X.1 (lv' := [(10, .long e12), (8, .long e2), (0, .long aj), (2, .long bj), (4, .long cj), (6, .long dj)]) (ax_d X (show cdA 35 23 = some (.lstore 10, 2, 0, 0, 0) from rfl)) (by rw [X.2.1.2.2]; decide) (fun _ h => h) ?_
    refine z_const X (show cdA 35 25 = some (.iconst 0, 1, 0, 0, 0) from rfl) ?_
    refine z_store X (lv' := [(12, .int (Int32.ofInt 0)), (10, .long e12), (8, .long e2), (0, .long aj), (2, .long bj), (4, .long cj), (6, .long dj)]) (show cdA 35 26 = some (.istore 12, 2, 0, 0, 0) from rfl) (by decide) (fun _ h => h) ?_
    refine WS_lv (lv := [(0, .long aj), (2, .long bj), (4, .long cj), (6, .long dj), (8, .long e2), (10, .long e12), (12, .int (Int32.ofInt 0))]) (List.forall_mem_cons.mpr ⟨(List.Mem.tail _ (List.Mem.tail _ (List.Mem.tail _ (List.Mem.head _)))), (List.forall_mem_cons.mpr ⟨(List.Mem.tail _ (List.Mem.tail _ (List.Mem.tail _ (List.Mem.tail _ (List.Mem.head _))))), (List.forall_mem_cons.mpr ⟨(List.Mem.tail _ (List.Mem.tail _ (List.Mem.tail _ (List.Mem.tail _ (List.Mem.tail _ (List.Mem.head _)))))), (List.forall_mem_cons.mpr ⟨(List.Mem.tail _ (List.Mem.tail _ (List.Mem.tail _ (List.Mem.tail _ (List.Mem.tail _ (List.Mem.tail _ (List.Mem.head _))))))), (List.forall_mem_cons.mpr ⟨(List.Mem.tail _ (List.Mem.tail _ (List.Mem.head _))), (List.forall_mem_cons.mpr ⟨(List.Mem.tail _ (List.Mem.head _)), (List.forall_mem_cons.mpr ⟨(List.Mem.head _), (fun q h => absurd h List.not_mem_nil)⟩)⟩)⟩)⟩)⟩)⟩)⟩) ?_
    refine L28 ((128 - 0 : Int).toNat + 1) s11 aj bj cj dj e2 e12 0 Is11 Gs11 (by first | exact ⟨by decide, by decide⟩ | omega) (Nat.lt_succ_self _) ?_
    intro s13 x14 x15 x16 Is13 Fs13 hs13
    refine z_const X (show cdA 35 122 = some (.iconst 0, 1, 0, 0, 0) from rfl) ?_
    exact w_iret X.1 q hRt (nar_ret (by first | exact Or.inl (by decide) | omega)) (ax_d X (show cdA 35 123 = some (.ireturn, 1, 0, 0, 0) from rfl)) (Nat.zero_le _) (Nat.zero_le _) ⟨_, rfl, Is13, Fs13, 0, rfl, (by decide), by first | exact Or.inl (by decide) | omega⟩
set_option maxRecDepth 4000 in
theorem c3_hangs (G : GX l s0 D tys a0 dT) (I : Bd s) {aj bj : Int64}  : CT l s0 D A dT 34 (rmN 34) [.long aj, .long bj] s (fun o t => Bd t ∧ Fm [] [] s t ∧ ∃ e, o = .inl (some (.int (Int32.ofInt e))) ∧ rng e ∧ (e = 0 ∨ e = 1)) := by
  refine ct_ofX G (by decide) (Nat.le_of_ble_eq_true rfl) (fun k X E ET hRt hXt q => ?_)
  show WS k 0 [(0, .long aj), (2, .long bj)] [] _ 0 0
  have F : Fm [] [] s s := fm_rf _ _ s
  refine w_lload_n X.1 (ax_d X (show cdA 34 0 = some (.lload_n 0, 1, 0, 0, 0) from rfl)) (x := aj) (List.Mem.head _) ?_
  refine w_lload_n X.1 (ax_d X (show cdA 34 1 = some (.lload_n 2, 1, 0, 0, 0) from rfl)) (x := bj) (List.Mem.tail _ (List.Mem.head _)) ?_
  refine w_lload_n X.1 (ax_d X (show cdA 34 2 = some (.lload_n 0, 1, 0, 0, 0) from rfl)) (x := aj) (List.Mem.head _) ?_
  refine w_lload_n X.1 (ax_d X (show cdA 34 3 = some (.lload_n 2, 1, 0, 0, 0) from rfl)) (x := bj) (List.Mem.tail _ (List.Mem.head _)) ?_
  refine z_callS X (rm := rmN 35) (As := [.long aj, .long bj, .long aj, .long bj]) (st := []) (show cdA 34 4 = some (.invokestatic 54, 3, 35, 1, 0) from rfl) rfl (by rw [E.1, E.2.1, E.2.2.1]; exact c3_reaches G I ) ⟨by rw [E.2.2.2]; exact (show (rmN 35).frames + 1 ≤ (rmN 34).frames by decide), by rw [E.2.2.2]; exact (show 8 + (mNL (miB 35) + 11) + (rmN 35).locals ≤ (rmN 34).locals by decide), by rw [E.2.2.2]; exact (show 0 + (rmN 35).cells ≤ (rmN 34).cells by decide), by rw [E.2.2.2]; exact (show 0 + (rmN 35).slots ≤ (rmN 34).slots by decide)⟩ (Nat.le_of_ble_eq_true rfl) (fun vv s1 hq => ?_) (fun ee s1 hq => ?_)
  rotate_left
  · obtain ⟨Is1, Fs1, e2, hv, hrs1, hps1⟩ := hq; cases hv
  obtain ⟨Is1, Fs1, e2, hv, hrs1, hps1⟩ := hq
  cases hv
  have Gs1 := fm_ts F Fs1 (by decide) (by decide)
  show WS k 7 [(0, .long aj), (2, .long bj)] [.int (Int32.ofInt e2)] (Wd A dT s1) 0 0
  exact w_iret X.1 q hRt (nar_ret (by first | exact hps1 | omega)) (ax_d X (show cdA 34 7 = some (.ireturn, 1, 0, 0, 0) from rfl)) (Nat.zero_le _) (Nat.zero_le _) ⟨_, rfl, Is1, Gs1, e2, rfl, hrs1, by first | exact hps1 | omega⟩
set_option maxRecDepth 4000 in
theorem c3_hangsWithout_25 (G : GX l s0 D tys a0 dT) (I : Bd s) {x y : Int} (p0 : 0 ≤ x ∧ x ≤ 7) (p1 : 0 ≤ y ∧ y ≤ 127) : CT l s0 D A dT 37 (rmN 37) [.ref (A 25), .int (Int32.ofInt x), .int (Int32.ofInt y)] s (fun o t => Bd t ∧ Fm [] [] s t ∧ ∃ e, o = .inl (some (.int (Int32.ofInt e))) ∧ rng e ∧ (e = 0 ∨ e = 1)) := by
  refine ct_ofX G (by decide) (Nat.le_of_ble_eq_true rfl) (fun k X E ET hRt hXt q => ?_)
  show WS k 0 [(0, .ref (A 25)), (1, .int (Int32.ofInt x)), (2, .int (Int32.ofInt y))] [] _ 0 0
  have F : Fm [] [] s s := fm_rf _ _ s
  refine z_load_n X (x := y) (show cdA 37 0 = some (.iload_n 2, 1, 0, 0, 0) from rfl) (List.Mem.tail _ (List.Mem.tail _ (List.Mem.head _))) ?_
  refine z_bipush X (show cdA 37 1 = some (.bipush 64, 2, 0, 0, 64) from rfl) ?_
  have N1 : ∀ j2 : Int64, WS k 13 [(0, .ref (A 25)), (1, .int (Int32.ofInt x)), (2, .int (Int32.ofInt y))] [.long j2] (Wd A dT s) 0 0 := by
    intro j2
    refine w_lstore_n X.1 (lv' := [(3, .long j2), (0, .ref (A 25)), (1, .int (Int32.ofInt x)), (2, .int (Int32.ofInt y))]) (ax_d X (show cdA 37 13 = some (.lstore_n 3, 1, 0, 0, 0) from rfl)) (by rw [X.2.1.2.2]; decide) (fun _ h => h) ?_
    refine z_load_n X (x := y) (show cdA 37 14 = some (.iload_n 2, 1, 0, 0, 0) from rfl) (List.Mem.tail _ (List.Mem.tail _ (List.Mem.tail _ (List.Mem.head _)))) ?_
    refine z_bipush X (show cdA 37 15 = some (.bipush 64, 2, 0, 0, 64) from rfl) ?_
    refine z_icmp_ge X (t := 24) (show cdA 37 17 = some (.if_icmp .ge 7, 3, 3, 0, 0) from rfl) (by decide) ⟨by first | exact oq_fa4e5087 p1.1 | omega, by first | exact oq_07d346ce p1.2 | omega⟩ (by decide) (fun g3 => ?_) (fun g3 => ?_)
    ·
      refine w_lconst X.1 (ax_d X (show cdA 37 24 = some (.lconst 1, 1, 0, 0, 0) from rfl)) rfl ?_
      refine z_anyJ (fun j4 => ?_)
      refine z_load_n X (x := y) (show cdA 37 25 = some (.iload_n 2, 1, 0, 0, 0) from rfl) (List.Mem.tail _ (List.Mem.tail _ (List.Mem.tail _ (List.Mem.head _)))) ?_
      refine z_bipush X (show cdA 37 26 = some (.bipush 63, 2, 0, 0, 63) from rfl) ?_
      refine z_andm X (show cdA 37 28 = some (.iand, 1, 0, 0, 0) from rfl) (by decide) (by decide) (fun y5 hy5 gy5 => ?_)
      refine w_lshl X.1 (ax_d X (show cdA 37 29 = some (.lshl, 1, 0, 0, 0) from rfl)) ?_
      refine z_anyJ (fun j6 => ?_)
      refine w_lstore X.1 (lv' := [(5, .long j6), (3, .long j2), (0, .ref (A 25)), (1, .int (Int32.ofInt x)), (2, .int (Int32.ofInt y))]) (ax_d X (show cdA 37 30 = some (.lstore 5, 2, 0, 0, 0) from rfl)) (by rw [X.2.1.2.2]; decide) (fun _ h => h) ?_
      refine z_aload_n X (x := A 25) (show cdA 37 32 = some (.aload_n 0, 1, 0, 0, 0) from rfl) (List.Mem.tail _ (List.Mem.tail _ (List.Mem.head _))) ?_
      refine s_getR X 25 (show cdA 37 33 = some (.getfield 15, 3, 3, 1, 0) from rfl) (by decide) rfl rfl ?_
      refine z_load_n X (x := x) (show cdA 37 36 = some (.iload_n 1, 1, 0, 0, 0) from rfl) (List.Mem.tail _ (List.Mem.tail _ (List.Mem.tail _ (List.Mem.head _)))) ?_
      refine z_lald X 27 (show cdA 37 37 = some (.laload, 1, 0, 0, 0) from rfl) (by decide) rfl (by first | exact p0.1 | omega) (show x < 8 by first | exact oq_aaea290e p0.2 | omega) (by decide) (fun j7 => ?_)
      refine w_lload_n X.1 (ax_d X (show cdA 37 38 = some (.lload_n 3, 1, 0, 0, 0) from rfl)) (x := j2) (List.Mem.tail _ (List.Mem.head _)) ?_
      refine z_ldc2 X (show cdA 37 39 = some (.ldc2_w 28, 3, 18446744073709551615, 0, 0) from rfl) (fun j8 => ?_)
      refine w_lxor X.1 (ax_d X (show cdA 37 42 = some (.lxor, 1, 0, 0, 0) from rfl)) ?_
      refine z_anyJ (fun j9 => ?_)
      refine w_land X.1 (ax_d X (show cdA 37 43 = some (.land, 1, 0, 0, 0) from rfl)) ?_
      refine z_anyJ (fun j10 => ?_)
      refine w_lstore X.1 (lv' := [(7, .long j10), (5, .long j6), (3, .long j2), (0, .ref (A 25)), (1, .int (Int32.ofInt x)), (2, .int (Int32.ofInt y))]) (ax_d X (show cdA 37 44 = some (.lstore 7, 2, 0, 0, 0) from rfl)) (by rw [X.2.1.2.2]; decide) (fun _ h => h) ?_
      refine z_aload_n X (x := A 25) (show cdA 37 46 = some (.aload_n 0, 1, 0, 0, 0) from rfl) (List.Mem.tail _ (List.Mem.tail _ (List.Mem.tail _ (List.Mem.head _)))) ?_
      refine s_getR X 25 (show cdA 37 47 = some (.getfield 19, 3, 3, 2, 0) from rfl) (by decide) rfl rfl ?_
      refine z_load_n X (x := x) (show cdA 37 50 = some (.iload_n 1, 1, 0, 0, 0) from rfl) (List.Mem.tail _ (List.Mem.tail _ (List.Mem.tail _ (List.Mem.tail _ (List.Mem.head _))))) ?_
      refine z_lald X 28 (show cdA 37 51 = some (.laload, 1, 0, 0, 0) from rfl) (by decide) rfl (by first | exact p0.1 | omega) (show x < 8 by first | exact oq_aaea290e p0.2 | omega) (by decide) (fun j11 => ?_)
      refine w_lload X.1 (ax_d X (show cdA 37 52 = some (.lload 5, 2, 0, 0, 0) from rfl)) (x := j6) (List.Mem.tail _ (List.Mem.head _)) ?_
      refine z_ldc2 X (show cdA 37 54 = some (.ldc2_w 28, 3, 18446744073709551615, 0, 0) from rfl) (fun j12 => ?_)
      refine w_lxor X.1 (ax_d X (show cdA 37 57 = some (.lxor, 1, 0, 0, 0) from rfl)) ?_
      refine z_anyJ (fun j13 => ?_)
      refine w_land X.1 (ax_d X (show cdA 37 58 = some (.land, 1, 0, 0, 0) from rfl)) ?_
      refine z_anyJ (fun j14 => ?_)
      refine w_lstore X.1 (lv' := [(9, .long j14), (7, .long j10), (5, .long j6), (3, .long j2), (0, .ref (A 25)), (1, .int (Int32.ofInt x)), (2, .int (Int32.ofInt y))]) (ax_d X (show cdA 37 59 = some (.lstore 9, 2, 0, 0, 0) from rfl)) (by rw [X.2.1.2.2]; decide) (fun _ h => h) ?_
      refine w_lload X.1 (ax_d X (show cdA 37 61 = some (.lload 7, 2, 0, 0, 0) from rfl)) (x := j10) (List.Mem.tail _ (List.Mem.head _)) ?_
      refine w_lload X.1 (ax_d X (show cdA 37 63 = some (.lload 9, 2, 0, 0, 0) from rfl)) (x := j14) (List.Mem.head _) ?_
      refine w_lload_n X.1 (ax_d X (show cdA 37 65 = some (.lload_n 3, 1, 0, 0, 0) from rfl)) (x := j2) (List.Mem.tail _ (List.Mem.tail _ (List.Mem.tail _ (List.Mem.head _)))) ?_
      refine w_lload X.1 (ax_d X (show cdA 37 66 = some (.lload 5, 2, 0, 0, 0) from rfl)) (x := j6) (List.Mem.tail _ (List.Mem.tail _ (List.Mem.head _))) ?_
      refine z_callS X (rm := rmN 33) (As := [.long j2, .long j6]) (st := [.long j14, .long j10]) (show cdA 37 68 = some (.invokestatic 62, 3, 33, 1, 0) from rfl) rfl (by rw [E.1, E.2.1, E.2.2.1]; exact c3_beside G I ) ⟨by rw [E.2.2.2]; exact (show (rmN 33).frames + 1 ≤ (rmN 37).frames by decide), by rw [E.2.2.2]; exact (show 8 + (mNL (miB 33) + 11) + (rmN 33).locals ≤ (rmN 37).locals by decide), by rw [E.2.2.2]; exact (show 0 + (rmN 33).cells ≤ (rmN 37).cells by decide), by rw [E.2.2.2]; exact (show 0 + (rmN 33).slots ≤ (rmN 37).slots by decide)⟩ (Nat.le_of_ble_eq_true rfl) (fun vv s15 hq => ?_) (fun ee s15 hq => ?_)
      rotate_left
      · obtain ⟨Is15, Fs15, e16, hv, hrs15, hps15⟩ := hq; cases hv
      obtain ⟨Is15, Fs15, e16, hv, hrs15, hps15⟩ := hq
      cases hv
      have Gs15 := fm_ts F Fs15 (by decide) (by decide)
      show WS k 71 [(9, .long j14), (7, .long j10), (5, .long j6), (3, .long j2), (0, .ref (A 25)), (1, .int (Int32.ofInt x)), (2, .int (Int32.ofInt y))] [.long e16, .long j14, .long j10] (Wd A dT s15) 0 0
      refine w_lload X.1 (ax_d X (show cdA 37 71 = some (.lload 7, 2, 0, 0, 0) from rfl)) (x := j10) (List.Mem.tail _ (List.Mem.head _)) ?_
      refine w_land X.1 (ax_d X (show cdA 37 73 = some (.land, 1, 0, 0, 0) from rfl)) ?_
      refine z_anyJ (fun j17 => ?_)
      refine w_lload X.1 (ax_d X (show cdA 37 74 = some (.lload 5, 2, 0, 0, 0) from rfl)) (x := j6) (List.Mem.tail _ (List.Mem.tail _ (List.Mem.head _))) ?_
      refine w_lload_n X.1 (ax_d X (show cdA 37 76 = some (.lload_n 3, 1, 0, 0, 0) from rfl)) (x := j2) (List.Mem.tail _ (List.Mem.tail _ (List.Mem.tail _ (List.Mem.head _)))) ?_
      refine z_callS X (rm := rmN 33) (As := [.long j6, .long j2]) (st := [.long j17, .long j14, .long j10]) (show cdA 37 77 = some (.invokestatic 62, 3, 33, 1, 0) from rfl) rfl (by rw [E.1, E.2.1, E.2.2.1]; exact c3_beside G Is15 ) ⟨by rw [E.2.2.2]; exact (show (rmN 33).frames + 1 ≤ (rmN 37).frames by decide), by rw [E.2.2.2]; exact (show 8 + (mNL (miB 33) + 11) + (rmN 33).locals ≤ (rmN 37).locals by decide), by rw [E.2.2.2]; exact (show 0 + (rmN 33).cells ≤ (rmN 37).cells by decide), by rw [E.2.2.2]; exact (show 0 + (rmN 33).slots ≤ (rmN 37).slots by decide)⟩ (Nat.le_of_ble_eq_true rfl) (fun vv s18 hq => ?_) (fun ee s18 hq => ?_)
      rotate_left
      · obtain ⟨Is18, Fs18, e19, hv, hrs18, hps18⟩ := hq; cases hv
      obtain ⟨Is18, Fs18, e19, hv, hrs18, hps18⟩ := hq
      cases hv
      have Gs18 := fm_ts Gs15 Fs18 (by decide) (by decide)
      show WS k 80 [(9, .long j14), (7, .long j10), (5, .long j6), (3, .long j2), (0, .ref (A 25)), (1, .int (Int32.ofInt x)), (2, .int (Int32.ofInt y))] [.long e19, .long j17, .long j14, .long j10] (Wd A dT s18) 0 0
      refine w_lload X.1 (ax_d X (show cdA 37 80 = some (.lload 9, 2, 0, 0, 0) from rfl)) (x := j14) (List.Mem.head _) ?_
      refine w_land X.1 (ax_d X (show cdA 37 82 = some (.land, 1, 0, 0, 0) from rfl)) ?_
      refine z_anyJ (fun j20 => ?_)
      refine z_callS X (rm := rmN 35) (As := [.long j10, .long j14, .long j17, .long j20]) (st := []) (show cdA 37 83 = some (.invokestatic 54, 3, 35, 1, 0) from rfl) rfl (by rw [E.1, E.2.1, E.2.2.1]; exact c3_reaches G Is18 ) ⟨by rw [E.2.2.2]; exact (show (rmN 35).frames + 1 ≤ (rmN 37).frames by decide), by rw [E.2.2.2]; exact (show 8 + (mNL (miB 35) + 11) + (rmN 35).locals ≤ (rmN 37).locals by decide), by rw [E.2.2.2]; exact (show 0 + (rmN 35).cells ≤ (rmN 37).cells by decide), by rw [E.2.2.2]; exact (show 0 + (rmN 35).slots ≤ (rmN 37).slots by decide)⟩ (Nat.le_of_ble_eq_true rfl) (fun vv s21 hq => ?_) (fun ee s21 hq => ?_)
      rotate_left
      · obtain ⟨Is21, Fs21, e22, hv, hrs21, hps21⟩ := hq; cases hv
      obtain ⟨Is21, Fs21, e22, hv, hrs21, hps21⟩ := hq
      cases hv
      have Gs21 := fm_ts Gs18 Fs21 (by decide) (by decide)
      show WS k 86 [(9, .long j14), (7, .long j10), (5, .long j6), (3, .long j2), (0, .ref (A 25)), (1, .int (Int32.ofInt x)), (2, .int (Int32.ofInt y))] [.int (Int32.ofInt e22)] (Wd A dT s21) 0 0
      exact w_iret X.1 q hRt (nar_ret (by first | exact hps21 | omega)) (ax_d X (show cdA 37 86 = some (.ireturn, 1, 0, 0, 0) from rfl)) (Nat.zero_le _) (Nat.zero_le _) ⟨_, rfl, Is21, Gs21, e22, rfl, hrs21, by first | exact hps21 | omega⟩
    ·
      refine w_lconst X.1 (ax_d X (show cdA 37 20 = some (.lconst 0, 1, 0, 0, 0) from rfl)) rfl ?_
      refine z_anyJ (fun j23 => ?_)
      refine z_goto X (t := 30) (show cdA 37 21 = some (.goto 9, 3, 0, 0, 0) from rfl) (by decide) ?_
      refine w_lstore X.1 (lv' := [(5, .long j23), (3, .long j2), (0, .ref (A 25)), (1, .int (Int32.ofInt x)), (2, .int (Int32.ofInt y))]) (ax_d X (show cdA 37 30 = some (.lstore 5, 2, 0, 0, 0) from rfl)) (by rw [X.2.1.2.2]; decide) (fun _ h => h) ?_
      refine z_aload_n X (x := A 25) (show cdA 37 32 = some (.aload_n 0, 1, 0, 0, 0) from rfl) (List.Mem.tail _ (List.Mem.tail _ (List.Mem.head _))) ?_
      refine s_getR X 25 (show cdA 37 33 = some (.getfield 15, 3, 3, 1, 0) from rfl) (by decide) rfl rfl ?_
      refine z_load_n X (x := x) (show cdA 37 36 = some (.iload_n 1, 1, 0, 0, 0) from rfl) (List.Mem.tail _ (List.Mem.tail _ (List.Mem.tail _ (List.Mem.head _)))) ?_
      refine z_lald X 27 (show cdA 37 37 = some (.laload, 1, 0, 0, 0) from rfl) (by decide) rfl (by first | exact p0.1 | omega) (show x < 8 by first | exact oq_aaea290e p0.2 | omega) (by decide) (fun j24 => ?_)
      refine w_lload_n X.1 (ax_d X (show cdA 37 38 = some (.lload_n 3, 1, 0, 0, 0) from rfl)) (x := j2) (List.Mem.tail _ (List.Mem.head _)) ?_
      refine z_ldc2 X (show cdA 37 39 = some (.ldc2_w 28, 3, 18446744073709551615, 0, 0) from rfl) (fun j25 => ?_)
      refine w_lxor X.1 (ax_d X (show cdA 37 42 = some (.lxor, 1, 0, 0, 0) from rfl)) ?_
      refine z_anyJ (fun j26 => ?_)
      refine w_land X.1 (ax_d X (show cdA 37 43 = some (.land, 1, 0, 0, 0) from rfl)) ?_
      refine z_anyJ (fun j27 => ?_)
      refine w_lstore X.1 (lv' := [(7, .long j27), (5, .long j23), (3, .long j2), (0, .ref (A 25)), (1, .int (Int32.ofInt x)), (2, .int (Int32.ofInt y))]) (ax_d X (show cdA 37 44 = some (.lstore 7, 2, 0, 0, 0) from rfl)) (by rw [X.2.1.2.2]; decide) (fun _ h => h) ?_
      refine z_aload_n X (x := A 25) (show cdA 37 46 = some (.aload_n 0, 1, 0, 0, 0) from rfl) (List.Mem.tail _ (List.Mem.tail _ (List.Mem.tail _ (List.Mem.head _)))) ?_
      refine s_getR X 25 (show cdA 37 47 = some (.getfield 19, 3, 3, 2, 0) from rfl) (by decide) rfl rfl ?_
      refine z_load_n X (x := x) (show cdA 37 50 = some (.iload_n 1, 1, 0, 0, 0) from rfl) (List.Mem.tail _ (List.Mem.tail _ (List.Mem.tail _ (List.Mem.tail _ (List.Mem.head _))))) ?_
      refine z_lald X 28 (show cdA 37 51 = some (.laload, 1, 0, 0, 0) from rfl) (by decide) rfl (by first | exact p0.1 | omega) (show x < 8 by first | exact oq_aaea290e p0.2 | omega) (by decide) (fun j28 => ?_)
      refine w_lload X.1 (ax_d X (show cdA 37 52 = some (.lload 5, 2, 0, 0, 0) from rfl)) (x := j23) (List.Mem.tail _ (List.Mem.head _)) ?_
      refine z_ldc2 X (show cdA 37 54 = some (.ldc2_w 28, 3, 18446744073709551615, 0, 0) from rfl) (fun j29 => ?_)
      refine w_lxor X.1 (ax_d X (show cdA 37 57 = some (.lxor, 1, 0, 0, 0) from rfl)) ?_
      refine z_anyJ (fun j30 => ?_)
      refine w_land X.1 (ax_d X (show cdA 37 58 = some (.land, 1, 0, 0, 0) from rfl)) ?_
      refine z_anyJ (fun j31 => ?_)
      refine w_lstore X.1 (lv' := [(9, .long j31), (7, .long j27), (5, .long j23), (3, .long j2), (0, .ref (A 25)), (1, .int (Int32.ofInt x)), (2, .int (Int32.ofInt y))]) (ax_d X (show cdA 37 59 = some (.lstore 9, 2, 0, 0, 0) from rfl)) (by rw [X.2.1.2.2]; decide) (fun _ h => h) ?_
      refine w_lload X.1 (ax_d X (show cdA 37 61 = some (.lload 7, 2, 0, 0, 0) from rfl)) (x := j27) (List.Mem.tail _ (List.Mem.head _)) ?_
      refine w_lload X.1 (ax_d X (show cdA 37 63 = some (.lload 9, 2, 0, 0, 0) from rfl)) (x := j31) (List.Mem.head _) ?_
      refine w_lload_n X.1 (ax_d X (show cdA 37 65 = some (.lload_n 3, 1, 0, 0, 0) from rfl)) (x := j2) (List.Mem.tail _ (List.Mem.tail _ (List.Mem.tail _ (List.Mem.head _)))) ?_
      refine w_lload X.1 (ax_d X (show cdA 37 66 = some (.lload 5, 2, 0, 0, 0) from rfl)) (x := j23) (List.Mem.tail _ (List.Mem.tail _ (List.Mem.head _))) ?_
      refine z_callS X (rm := rmN 33) (As := [.long j2, .long j23]) (st := [.long j31, .long j27]) (show cdA 37 68 = some (.invokestatic 62, 3, 33, 1, 0) from rfl) rfl (by rw [E.1, E.2.1, E.2.2.1]; exact c3_beside G I ) ⟨by rw [E.2.2.2]; exact (show (rmN 33).frames + 1 ≤ (rmN 37).frames by decide), by rw [E.2.2.2]; exact (show 8 + (mNL (miB 33) + 11) + (rmN 33).locals ≤ (rmN 37).locals by decide), by rw [E.2.2.2]; exact (show 0 + (rmN 33).cells ≤ (rmN 37).cells by decide), by rw [E.2.2.2]; exact (show 0 + (rmN 33).slots ≤ (rmN 37).slots by decide)⟩ (Nat.le_of_ble_eq_true rfl) (fun vv s32 hq => ?_) (fun ee s32 hq => ?_)
      rotate_left
      · obtain ⟨Is32, Fs32, e33, hv, hrs32, hps32⟩ := hq; cases hv
      obtain ⟨Is32, Fs32, e33, hv, hrs32, hps32⟩ := hq
      cases hv
      have Gs32 := fm_ts F Fs32 (by decide) (by decide)
      show WS k 71 [(9, .long j31), (7, .long j27), (5, .long j23), (3, .long j2), (0, .ref (A 25)), (1, .int (Int32.ofInt x)), (2, .int (Int32.ofInt y))] [.long e33, .long j31, .long j27] (Wd A dT s32) 0 0
      refine w_lload X.1 (ax_d X (show cdA 37 71 = some (.lload 7, 2, 0, 0, 0) from rfl)) (x := j27) (List.Mem.tail _ (List.Mem.head _)) ?_
      refine w_land X.1 (ax_d X (show cdA 37 73 = some (.land, 1, 0, 0, 0) from rfl)) ?_
      refine z_anyJ (fun j34 => ?_)
      refine w_lload X.1 (ax_d X (show cdA 37 74 = some (.lload 5, 2, 0, 0, 0) from rfl)) (x := j23) (List.Mem.tail _ (List.Mem.tail _ (List.Mem.head _))) ?_
      refine w_lload_n X.1 (ax_d X (show cdA 37 76 = some (.lload_n 3, 1, 0, 0, 0) from rfl)) (x := j2) (List.Mem.tail _ (List.Mem.tail _ (List.Mem.tail _ (List.Mem.head _)))) ?_
      refine z_callS X (rm := rmN 33) (As := [.long j23, .long j2]) (st := [.long j34, .long j31, .long j27]) (show cdA 37 77 = some (.invokestatic 62, 3, 33, 1, 0) from rfl) rfl (by rw [E.1, E.2.1, E.2.2.1]; exact c3_beside G Is32 ) ⟨by rw [E.2.2.2]; exact (show (rmN 33).frames + 1 ≤ (rmN 37).frames by decide), by rw [E.2.2.2]; exact (show 8 + (mNL (miB 33) + 11) + (rmN 33).locals ≤ (rmN 37).locals by decide), by rw [E.2.2.2]; exact (show 0 + (rmN 33).cells ≤ (rmN 37).cells by decide), by rw [E.2.2.2]; exact (show 0 + (rmN 33).slots ≤ (rmN 37).slots by decide)⟩ (Nat.le_of_ble_eq_true rfl) (fun vv s35 hq => ?_) (fun ee s35 hq => ?_)
      rotate_left
      · obtain ⟨Is35, Fs35, e36, hv, hrs35, hps35⟩ := hq; cases hv
      obtain ⟨Is35, Fs35, e36, hv, hrs35, hps35⟩ := hq
      cases hv
      have Gs35 := fm_ts Gs32 Fs35 (by decide) (by decide)
      show WS k 80 [(9, .long j31), (7, .long j27), (5, .long j23), (3, .long j2), (0, .ref (A 25)), (1, .int (Int32.ofInt x)), (2, .int (Int32.ofInt y))] [.long e36, .long j34, .long j31, .long j27] (Wd A dT s35) 0 0
      refine w_lload X.1 (ax_d X (show cdA 37 80 = some (.lload 9, 2, 0, 0, 0) from rfl)) (x := j31) (List.Mem.head _) ?_
      refine w_land X.1 (ax_d X (show cdA 37 82 = some (.land, 1, 0, 0, 0) from rfl)) ?_
      refine z_anyJ (fun j37 => ?_)
      refine z_callS X (rm := rmN 35) (As := [.long j27, .long j31, .long j34, .long j37]) (st := []) (show cdA 37 83 = some (.invokestatic 54, 3, 35, 1, 0) from rfl) rfl (by rw [E.1, E.2.1, E.2.2.1]; exact c3_reaches G Is35 ) ⟨by rw [E.2.2.2]; exact (show (rmN 35).frames + 1 ≤ (rmN 37).frames by decide), by rw [E.2.2.2]; exact (show 8 + (mNL (miB 35) + 11) + (rmN 35).locals ≤ (rmN 37).locals by decide), by rw [E.2.2.2]; exact (show 0 + (rmN 35).cells ≤ (rmN 37).cells by decide), by rw [E.2.2.2]; exact (show 0 + (rmN 35).slots ≤ (rmN 37).slots by decide)⟩ (Nat.le_of_ble_eq_true rfl) (fun vv s38 hq => ?_) (fun ee s38 hq => ?_)
      rotate_left
      · obtain ⟨Is38, Fs38, e39, hv, hrs38, hps38⟩ := hq; cases hv
      obtain ⟨Is38, Fs38, e39, hv, hrs38, hps38⟩ := hq
      cases hv
      have Gs38 := fm_ts Gs35 Fs38 (by decide) (by decide)
      show WS k 86 [(9, .long j31), (7, .long j27), (5, .long j23), (3, .long j2), (0, .ref (A 25)), (1, .int (Int32.ofInt x)), (2, .int (Int32.ofInt y))] [.int (Int32.ofInt e39)] (Wd A dT s38) 0 0
      exact w_iret X.1 q hRt (nar_ret (by first | exact hps38 | omega)) (ax_d X (show cdA 37 86 = some (.ireturn, 1, 0, 0, 0) from rfl)) (Nat.zero_le _) (Nat.zero_le _) ⟨_, rfl, Is38, Gs38, e39, rfl, hrs38, by first | exact hps38 | omega⟩
  refine z_icmp_ge X (t := 12) (show cdA 37 3 = some (.if_icmp .ge 9, 3, 3, 0, 0) from rfl) (by decide) ⟨by first | exact oq_fa4e5087 p1.1 | omega, by first | exact oq_07d346ce p1.2 | omega⟩ (by decide) (fun g40 => ?_) (fun g40 => ?_)
  ·
    refine w_lconst X.1 (ax_d X (show cdA 37 12 = some (.lconst 0, 1, 0, 0, 0) from rfl)) rfl ?_
    refine z_anyJ (fun j41 => ?_)
    exact N1 _
  ·
    refine w_lconst X.1 (ax_d X (show cdA 37 6 = some (.lconst 1, 1, 0, 0, 0) from rfl)) rfl ?_
    refine z_anyJ (fun j42 => ?_)
    refine z_load_n X (x := y) (show cdA 37 7 = some (.iload_n 2, 1, 0, 0, 0) from rfl) (List.Mem.tail _ (List.Mem.tail _ (List.Mem.head _))) ?_
    refine w_lshl X.1 (ax_d X (show cdA 37 8 = some (.lshl, 1, 0, 0, 0) from rfl)) ?_
    refine z_anyJ (fun j43 => ?_)
    refine z_goto X (t := 13) (show cdA 37 9 = some (.goto 4, 3, 0, 0, 0) from rfl) (by decide) ?_
    exact N1 _
set_option maxRecDepth 4000 in
theorem c3_neckAt_25 (G : GX l s0 D tys a0 dT) (I : Bd s) {x y : Int} (p0 : 0 ≤ x ∧ x ≤ 7) (p1 : rng y) : CT l s0 D A dT 36 (rmN 36) [.ref (A 25), .int (Int32.ofInt x), .int (Int32.ofInt y)] s (fun o t => Bd t ∧ Fm [] [] s t ∧ ∃ e, o = .inl (some (.int (Int32.ofInt e))) ∧ rng e ∧ (True)) := by
  refine ct_ofX G (by decide) (Nat.le_of_ble_eq_true rfl) (fun k X E ET hRt hXt q => ?_)
  show WS k 0 [(0, .ref (A 25)), (1, .int (Int32.ofInt x)), (2, .int (Int32.ofInt y))] [] _ 0 0
  have F : Fm [] [] s s := fm_rf _ _ s
  have L29 : ∀ (n : Nat) (t : PS) (xv yv sn c : Int), Bd t → Fm [] [] s t → ((0 ≤ xv ∧ xv ≤ 7) ∧ rng yv ∧ 0 ≤ sn ∧ sn ≤ c ∧ c ≤ 128) → (128 - c : Int).toNat < n → (∀ (t' : PS) (sn' c' : Int), Bd t' → Fm [] [] s t' → ((0 ≤ xv ∧ xv ≤ 7) ∧ rng yv ∧ 0 ≤ sn' ∧ sn' ≤ c' ∧ c' ≤ 128) → WS k 75 [(0, .ref (A 25)), (1, .int (Int32.ofInt xv)), (2, .int (Int32.ofInt yv)), (3, .int (Int32.ofInt sn')), (4, .int (Int32.ofInt c'))] [] (Wd A dT t') 0 0) → WS k 29 [(0, .ref (A 25)), (1, .int (Int32.ofInt xv)), (2, .int (Int32.ofInt yv)), (3, .int (Int32.ofInt sn)), (4, .int (Int32.ofInt c))] [] (Wd A dT t) 0 0 := by
    intro n
    induction n with
    | zero =>
      intro t xv yv sn c I F hi hm kx
      exact absurd hm (Nat.not_lt_zero _)
    | succ n ih =>
      intro t xv yv sn c I F hi hm kx
      refine z_load X (x := c) (show cdA 36 29 = some (.iload 4, 2, 0, 0, 0) from rfl) (List.Mem.tail _ (List.Mem.tail _ (List.Mem.tail _ (List.Mem.tail _ (List.Mem.head _))))) ?_
      refine z_sipush X (show cdA 36 31 = some (.sipush 128, 3, 0, 0, 128) from rfl) ?_
      refine z_icmp_ge X (t := 75) (show cdA 36 34 = some (.if_icmp .ge 41, 3, 3, 0, 0) from rfl) (by decide) ⟨by first | exact oq_e001bc0d hi.2.2.2.1 hi.2.2.1 | omega, by first | exact oq_4ee82282 hi.2.2.2.2 | omega⟩ (by decide) (fun g1001 => ?_) (fun g1001 => ?_)
      ·
        refine WS_lv (lv := [(0, .ref (A 25)), (1, .int (Int32.ofInt xv)), (2, .int (Int32.ofInt yv)), (3, .int (Int32.ofInt sn)), (4, .int (Int32.ofInt c))]) (List.forall_mem_cons.mpr ⟨(List.Mem.head _), (List.forall_mem_cons.mpr ⟨(List.Mem.tail _ (List.Mem.head _)), (List.forall_mem_cons.mpr ⟨(List.Mem.tail _ (List.Mem.tail _ (List.Mem.head _))), (List.forall_mem_cons.mpr ⟨(List.Mem.tail _ (List.Mem.tail _ (List.Mem.tail _ (List.Mem.head _)))), (List.forall_mem_cons.mpr ⟨(List.Mem.tail _ (List.Mem.tail _ (List.Mem.tail _ (List.Mem.tail _ (List.Mem.head _))))), (fun q h => absurd h List.not_mem_nil)⟩)⟩)⟩)⟩)⟩) ?_
        exact kx _ sn c I F (by first | exact ⟨And.intro (hi.1.1) (hi.1.2), And.intro (hi.2.1.1) (hi.2.1.2), hi.2.2.1, hi.2.2.2.1, hi.2.2.2.2⟩ | omega)
      ·
        refine z_aload_n X (x := A 25) (show cdA 36 37 = some (.aload_n 0, 1, 0, 0, 0) from rfl) (List.Mem.head _) ?_
        refine s_getR X 25 (show cdA 36 38 = some (.getfield 9, 3, 3, 0, 0) from rfl) (by decide) rfl rfl ?_
        refine z_load X (x := c) (show cdA 36 41 = some (.iload 4, 2, 0, 0, 0) from rfl) (List.Mem.tail _ (List.Mem.tail _ (List.Mem.tail _ (List.Mem.tail _ (List.Mem.head _))))) ?_
        refine z_ald X 26 (show cdA 36 43 = some (.iaload, 1, 0, 0, 0) from rfl) (by decide) rfl (by first | exact oq_12a1f9e1 hi.2.2.2.1 hi.2.2.1 | omega) (show c < 128 by first | exact g1001 | omega) (by decide) ?_
        have b1002 : ((-1) : Int) ≤ iC t 21 (c).toNat ∧ iC t 21 (c).toNat ≤ 7 := I.2 21 _ (show (c).toNat < 128 by first | exact oq_afb89947 g1001 | omega)
        refine z_load_n X (x := xv) (show cdA 36 44 = some (.iload_n 1, 1, 0, 0, 0) from rfl) (List.Mem.tail _ (List.Mem.head _)) ?_
        refine z_icmp_ne X (t := 69) (show cdA 36 45 = some (.if_icmp .ne 24, 3, 1, 0, 0) from rfl) (by decide) (rng_to _) ⟨by first | exact oq_fa4e5087 hi.1.1 | omega, by first | exact oq_0e78ca7d hi.1.2 | omega⟩ (fun g1003 => ?_) (fun g1003 => ?_)
        ·
          refine z_inc X (x := c) (lv' := [(4, .int (Int32.ofInt (c + 1))), (0, .ref (A 25)), (1, .int (Int32.ofInt xv)), (2, .int (Int32.ofInt yv)), (3, .int (Int32.ofInt sn))]) (show cdA 36 69 = some (.iinc 4 1, 3, 0, 0, 0) from rfl) (by decide) (List.Mem.tail _ (List.Mem.tail _ (List.Mem.tail _ (List.Mem.tail _ (List.Mem.head _))))) (fun _ h => h) ?_
          refine z_goto X (t := 29) (show cdA 36 72 = some (.goto (-43), 3, 0, 0, 0) from rfl) (by decide) ?_
          refine WS_lv (lv := [(0, .ref (A 25)), (1, .int (Int32.ofInt xv)), (2, .int (Int32.ofInt yv)), (3, .int (Int32.ofInt sn)), (4, .int (Int32.ofInt (c + 1)))]) (List.forall_mem_cons.mpr ⟨(List.Mem.tail _ (List.Mem.head _)), (List.forall_mem_cons.mpr ⟨(List.Mem.tail _ (List.Mem.tail _ (List.Mem.head _))), (List.forall_mem_cons.mpr ⟨(List.Mem.tail _ (List.Mem.tail _ (List.Mem.tail _ (List.Mem.head _)))), (List.forall_mem_cons.mpr ⟨(List.Mem.tail _ (List.Mem.tail _ (List.Mem.tail _ (List.Mem.tail _ (List.Mem.head _))))), (List.forall_mem_cons.mpr ⟨(List.Mem.head _), (fun q h => absurd h List.not_mem_nil)⟩)⟩)⟩)⟩)⟩) ?_
          exact ih _ xv yv sn (c + 1) I F (by first | exact ⟨And.intro (hi.1.1) (hi.1.2), And.intro (hi.2.1.1) (hi.2.1.2), hi.2.2.1, oq_03182e9e hi.2.2.2.1, oq_d2afb425 g1001⟩ | omega) (by first | exact qk_me hm (by decide) (oq_c268b7bd g1001) | omega) kx
        ·
          refine z_aload_n X (x := A 25) (show cdA 36 48 = some (.aload_n 0, 1, 0, 0, 0) from rfl) (List.Mem.head _) ?_
          refine z_load_n X (x := xv) (show cdA 36 49 = some (.iload_n 1, 1, 0, 0, 0) from rfl) (List.Mem.tail _ (List.Mem.head _)) ?_
          refine z_load X (x := c) (show cdA 36 50 = some (.iload 4, 2, 0, 0, 0) from rfl) (List.Mem.tail _ (List.Mem.tail _ (List.Mem.tail _ (List.Mem.tail _ (List.Mem.head _))))) ?_
          refine z_callV X 25 (rm := rmN 37) (As := [.int (Int32.ofInt xv), .int (Int32.ofInt c)]) (st := []) (show cdA 36 52 = some (.invokevirtual 70, 3, 37, 0, 0) from rfl) rfl (by decide) rfl (by rw [E.1, E.2.1, E.2.2.1]; exact c3_hangsWithout_25 G I (by first | exact ⟨hi.1.1, hi.1.2⟩ | omega) (by first | exact ⟨oq_12a1f9e1 hi.2.2.2.1 hi.2.2.1, oq_04367f15 g1001⟩ | omega)) ⟨by rw [E.2.2.2]; exact (show (rmN 37).frames + 1 ≤ (rmN 36).frames by decide), by rw [E.2.2.2]; exact (show 8 + (mNL (miB 37) + 11) + (rmN 37).locals ≤ (rmN 36).locals by decide), by rw [E.2.2.2]; exact (show 0 + (rmN 37).cells ≤ (rmN 36).cells by decide), by rw [E.2.2.2]; exact (show 0 + (rmN 37).slots ≤ (rmN 36).slots by decide)⟩ (Nat.le_of_ble_eq_true rfl) (fun vv s1004 hq => ?_) (fun ee s1004 hq => ?_)
          rotate_left
          · obtain ⟨Is1004, Fs1004, e1005, hv, hrs1004, hps1004⟩ := hq; cases hv
          obtain ⟨Is1004, Fs1004, e1005, hv, hrs1004, hps1004⟩ := hq
          cases hv
          have Gs1004 := fm_ts F Fs1004 (by decide) (by decide)
          show WS k 55 [(0, .ref (A 25)), (1, .int (Int32.ofInt xv)), (2, .int (Int32.ofInt yv)), (3, .int (Int32.ofInt sn)), (4, .int (Int32.ofInt c))] [.int (Int32.ofInt e1005)] (Wd A dT s1004) 0 0
          refine z_if_ne X (t := 69) (show cdA 36 55 = some (.ifCond .ne 14, 3, 1, 0, 0) from rfl) (by decide) hrs1004 (fun g1006 => ?_) (fun g1006 => ?_)
          ·
            refine z_inc X (x := c) (lv' := [(4, .int (Int32.ofInt (c + 1))), (0, .ref (A 25)), (1, .int (Int32.ofInt xv)), (2, .int (Int32.ofInt yv)), (3, .int (Int32.ofInt sn))]) (show cdA 36 69 = some (.iinc 4 1, 3, 0, 0, 0) from rfl) (by decide) (List.Mem.tail _ (List.Mem.tail _ (List.Mem.tail _ (List.Mem.tail _ (List.Mem.head _))))) (fun _ h => h) ?_
            refine z_goto X (t := 29) (show cdA 36 72 = some (.goto (-43), 3, 0, 0, 0) from rfl) (by decide) ?_
            refine WS_lv (lv := [(0, .ref (A 25)), (1, .int (Int32.ofInt xv)), (2, .int (Int32.ofInt yv)), (3, .int (Int32.ofInt sn)), (4, .int (Int32.ofInt (c + 1)))]) (List.forall_mem_cons.mpr ⟨(List.Mem.tail _ (List.Mem.head _)), (List.forall_mem_cons.mpr ⟨(List.Mem.tail _ (List.Mem.tail _ (List.Mem.head _))), (List.forall_mem_cons.mpr ⟨(List.Mem.tail _ (List.Mem.tail _ (List.Mem.tail _ (List.Mem.head _)))), (List.forall_mem_cons.mpr ⟨(List.Mem.tail _ (List.Mem.tail _ (List.Mem.tail _ (List.Mem.tail _ (List.Mem.head _))))), (List.forall_mem_cons.mpr ⟨(List.Mem.head _), (fun q h => absurd h List.not_mem_nil)⟩)⟩)⟩)⟩)⟩) ?_
            exact ih _ xv yv sn (c + 1) Is1004 Gs1004 (by first | exact ⟨And.intro (hi.1.1) (hi.1.2), And.intro (hi.2.1.1) (hi.2.1.2), hi.2.2.1, oq_03182e9e hi.2.2.2.1, oq_d2afb425 g1001⟩ | omega) (by first | exact qk_me hm (by decide) (oq_c268b7bd g1001) | omega) kx
          ·
            refine z_load_n X (x := sn) (show cdA 36 58 = some (.iload_n 3, 1, 0, 0, 0) from rfl) (List.Mem.tail _ (List.Mem.tail _ (List.Mem.tail _ (List.Mem.head _)))) ?_
            refine z_load_n X (x := yv) (show cdA 36 59 = some (.iload_n 2, 1, 0, 0, 0) from rfl) (List.Mem.tail _ (List.Mem.tail _ (List.Mem.head _))) ?_
            refine z_icmp_ne X (t := 66) (show cdA 36 60 = some (.if_icmp .ne 6, 3, 1, 0, 0) from rfl) (by decide) ⟨by first | exact oq_fa4e5087 hi.2.2.1 | omega, by first | exact oq_0961352d hi.2.2.2.1 g1001 | omega⟩ ⟨by first | exact hi.2.1.1 | omega, by first | exact hi.2.1.2 | omega⟩ (fun g1007 => ?_) (fun g1007 => ?_)
            ·
              refine z_inc X (x := sn) (lv' := [(3, .int (Int32.ofInt (sn + 1))), (0, .ref (A 25)), (1, .int (Int32.ofInt xv)), (2, .int (Int32.ofInt yv)), (4, .int (Int32.ofInt c))]) (show cdA 36 66 = some (.iinc 3 1, 3, 0, 0, 0) from rfl) (by decide) (List.Mem.tail _ (List.Mem.tail _ (List.Mem.tail _ (List.Mem.head _)))) (fun _ h => h) ?_
              refine z_inc X (x := c) (lv' := [(4, .int (Int32.ofInt (c + 1))), (3, .int (Int32.ofInt (sn + 1))), (0, .ref (A 25)), (1, .int (Int32.ofInt xv)), (2, .int (Int32.ofInt yv))]) (show cdA 36 69 = some (.iinc 4 1, 3, 0, 0, 0) from rfl) (by decide) (List.Mem.tail _ (List.Mem.tail _ (List.Mem.tail _ (List.Mem.tail _ (List.Mem.head _))))) (fun _ h => h) ?_
              refine z_goto X (t := 29) (show cdA 36 72 = some (.goto (-43), 3, 0, 0, 0) from rfl) (by decide) ?_
              refine WS_lv (lv := [(0, .ref (A 25)), (1, .int (Int32.ofInt xv)), (2, .int (Int32.ofInt yv)), (3, .int (Int32.ofInt (sn + 1))), (4, .int (Int32.ofInt (c + 1)))]) (List.forall_mem_cons.mpr ⟨(List.Mem.tail _ (List.Mem.tail _ (List.Mem.head _))), (List.forall_mem_cons.mpr ⟨(List.Mem.tail _ (List.Mem.tail _ (List.Mem.tail _ (List.Mem.head _)))), (List.forall_mem_cons.mpr ⟨(List.Mem.tail _ (List.Mem.tail _ (List.Mem.tail _ (List.Mem.tail _ (List.Mem.head _))))), (List.forall_mem_cons.mpr ⟨(List.Mem.tail _ (List.Mem.head _)), (List.forall_mem_cons.mpr ⟨(List.Mem.head _), (fun q h => absurd h List.not_mem_nil)⟩)⟩)⟩)⟩)⟩) ?_
              exact ih _ xv yv (sn + 1) (c + 1) Is1004 Gs1004 (by first | exact ⟨And.intro (hi.1.1) (hi.1.2), And.intro (hi.2.1.1) (hi.2.1.2), oq_54f49eb5 hi.2.2.1, oq_8d48a029 hi.2.2.2.1, oq_d2afb425 g1001⟩ | omega) (by first | exact qk_me hm (by decide) (oq_c268b7bd g1001) | omega) kx
            ·
              refine z_load X (x := c) (show cdA 36 63 = some (.iload 4, 2, 0, 0, 0) from rfl) (List.Mem.tail _ (List.Mem.tail _ (List.Mem.tail _ (List.Mem.tail _ (List.Mem.head _))))) ?_
              exact w_iret X.1 q hRt rfl (ax_d X (show cdA 36 65 = some (.ireturn, 1, 0, 0, 0) from rfl)) (Nat.zero_le _) (Nat.zero_le _) ⟨_, rfl, Is1004, Gs1004, c, rfl, ⟨by first | exact oq_e001bc0d hi.2.2.2.1 hi.2.2.1 | omega, by first | exact oq_fe95e6e4 g1001 | omega⟩, trivial⟩
  refine z_load_n X (x := y) (show cdA 36 0 = some (.iload_n 2, 1, 0, 0, 0) from rfl) (List.Mem.tail _ (List.Mem.tail _ (List.Mem.head _))) ?_
  refine z_if_lt X (t := 22) (show cdA 36 1 = some (.ifCond .lt 21, 3, 2, 0, 0) from rfl) (by decide) ⟨by first | exact p1.1 | omega, by first | exact p1.2 | omega⟩ (fun g1 => ?_) (fun g1 => ?_)
  ·
    refine z_const X (show cdA 36 22 = some (.iconst (-1), 1, 0, 0, 0) from rfl) ?_
    exact w_iret X.1 q hRt rfl (ax_d X (show cdA 36 23 = some (.ireturn, 1, 0, 0, 0) from rfl)) (Nat.zero_le _) (Nat.zero_le _) ⟨_, rfl, I, F, (-1), rfl, (by decide), trivial⟩
  ·
    refine z_aload_n X (x := A 25) (show cdA 36 4 = some (.aload_n 0, 1, 0, 0, 0) from rfl) (List.Mem.head _) ?_
    refine s_getR X 25 (show cdA 36 5 = some (.getfield 15, 3, 3, 1, 0) from rfl) (by decide) rfl rfl ?_
    refine z_load_n X (x := x) (show cdA 36 8 = some (.iload_n 1, 1, 0, 0, 0) from rfl) (List.Mem.tail _ (List.Mem.head _)) ?_
    refine z_lald X 27 (show cdA 36 9 = some (.laload, 1, 0, 0, 0) from rfl) (by decide) rfl (by first | exact p0.1 | omega) (show x < 8 by first | exact oq_aaea290e p0.2 | omega) (by decide) (fun j2 => ?_)
    refine z_aload_n X (x := A 25) (show cdA 36 10 = some (.aload_n 0, 1, 0, 0, 0) from rfl) (List.Mem.head _) ?_
    refine s_getR X 25 (show cdA 36 11 = some (.getfield 19, 3, 3, 2, 0) from rfl) (by decide) rfl rfl ?_
    refine z_load_n X (x := x) (show cdA 36 14 = some (.iload_n 1, 1, 0, 0, 0) from rfl) (List.Mem.tail _ (List.Mem.head _)) ?_
    refine z_lald X 28 (show cdA 36 15 = some (.laload, 1, 0, 0, 0) from rfl) (by decide) rfl (by first | exact p0.1 | omega) (show x < 8 by first | exact oq_aaea290e p0.2 | omega) (by decide) (fun j3 => ?_)
    refine z_callS X (rm := rmN 34) (As := [.long j2, .long j3]) (st := []) (show cdA 36 16 = some (.invokestatic 66, 3, 34, 1, 0) from rfl) rfl (by rw [E.1, E.2.1, E.2.2.1]; exact c3_hangs G I ) ⟨by rw [E.2.2.2]; exact (show (rmN 34).frames + 1 ≤ (rmN 36).frames by decide), by rw [E.2.2.2]; exact (show 8 + (mNL (miB 34) + 11) + (rmN 34).locals ≤ (rmN 36).locals by decide), by rw [E.2.2.2]; exact (show 0 + (rmN 34).cells ≤ (rmN 36).cells by decide), by rw [E.2.2.2]; exact (show 0 + (rmN 34).slots ≤ (rmN 36).slots by decide)⟩ (Nat.le_of_ble_eq_true rfl) (fun vv s4 hq => ?_) (fun ee s4 hq => ?_)
    rotate_left
    · obtain ⟨Is4, Fs4, e5, hv, hrs4, hps4⟩ := hq; cases hv
    obtain ⟨Is4, Fs4, e5, hv, hrs4, hps4⟩ := hq
    cases hv
    have Gs4 := fm_ts F Fs4 (by decide) (by decide)
    show WS k 19 [(0, .ref (A 25)), (1, .int (Int32.ofInt x)), (2, .int (Int32.ofInt y))] [.int (Int32.ofInt e5)] (Wd A dT s4) 0 0
    refine z_if_ne X (t := 24) (show cdA 36 19 = some (.ifCond .ne 5, 3, 1, 0, 0) from rfl) (by decide) hrs4 (fun g6 => ?_) (fun g6 => ?_)
    ·
      refine z_const X (show cdA 36 24 = some (.iconst 0, 1, 0, 0, 0) from rfl) ?_
      refine z_store_n X (lv' := [(3, .int (Int32.ofInt 0)), (0, .ref (A 25)), (1, .int (Int32.ofInt x)), (2, .int (Int32.ofInt y))]) (show cdA 36 25 = some (.istore_n 3, 1, 0, 0, 0) from rfl) (by decide) (fun _ h => h) ?_
      refine z_const X (show cdA 36 26 = some (.iconst 0, 1, 0, 0, 0) from rfl) ?_
      refine z_store X (lv' := [(4, .int (Int32.ofInt 0)), (3, .int (Int32.ofInt 0)), (0, .ref (A 25)), (1, .int (Int32.ofInt x)), (2, .int (Int32.ofInt y))]) (show cdA 36 27 = some (.istore 4, 2, 0, 0, 0) from rfl) (by decide) (fun _ h => h) ?_
      refine WS_lv (lv := [(0, .ref (A 25)), (1, .int (Int32.ofInt x)), (2, .int (Int32.ofInt y)), (3, .int (Int32.ofInt 0)), (4, .int (Int32.ofInt 0))]) (List.forall_mem_cons.mpr ⟨(List.Mem.tail _ (List.Mem.tail _ (List.Mem.head _))), (List.forall_mem_cons.mpr ⟨(List.Mem.tail _ (List.Mem.tail _ (List.Mem.tail _ (List.Mem.head _)))), (List.forall_mem_cons.mpr ⟨(List.Mem.tail _ (List.Mem.tail _ (List.Mem.tail _ (List.Mem.tail _ (List.Mem.head _))))), (List.forall_mem_cons.mpr ⟨(List.Mem.tail _ (List.Mem.head _)), (List.forall_mem_cons.mpr ⟨(List.Mem.head _), (fun q h => absurd h List.not_mem_nil)⟩)⟩)⟩)⟩)⟩) ?_
      refine L29 ((128 - 0 : Int).toNat + 1) s4 x y 0 0 Is4 Gs4 (by first | exact ⟨And.intro (p0.1) (p0.2), And.intro (p1.1) (p1.2), by decide, by decide, by decide⟩ | omega) (Nat.lt_succ_self _) ?_
      intro s7 x8 x9 Is7 Fs7 hs7
      refine z_const X (show cdA 36 75 = some (.iconst (-1), 1, 0, 0, 0) from rfl) ?_
      exact w_iret X.1 q hRt rfl (ax_d X (show cdA 36 76 = some (.ireturn, 1, 0, 0, 0) from rfl)) (Nat.zero_le _) (Nat.zero_le _) ⟨_, rfl, Is7, Fs7, (-1), rfl, (by decide), trivial⟩
    ·
      refine z_const X (show cdA 36 22 = some (.iconst (-1), 1, 0, 0, 0) from rfl) ?_
      exact w_iret X.1 q hRt rfl (ax_d X (show cdA 36 23 = some (.ireturn, 1, 0, 0, 0) from rfl)) (Nat.zero_le _) (Nat.zero_le _) ⟨_, rfl, Is4, Gs4, (-1), rfl, (by decide), trivial⟩
set_option maxRecDepth 4000 in
theorem c3_countAtEdge_25 (G : GX l s0 D tys a0 dT) (I : Bd s) {x : Int} {aj bj : Int64} (p0 : 0 ≤ x ∧ x ≤ 7) : CT l s0 D A dT 38 (rmN 38) [.ref (A 25), .int (Int32.ofInt x), .long aj, .long bj] s (fun o t => Bd t ∧ Fm [] [] s t ∧ ∃ e, o = .inl (some (.int (Int32.ofInt e))) ∧ rng e ∧ (True)) := by
  refine ct_ofX G (by decide) (Nat.le_of_ble_eq_true rfl) (fun k X E ET hRt hXt q => ?_)
  show WS k 0 [(0, .ref (A 25)), (1, .int (Int32.ofInt x)), (2, .long aj), (4, .long bj)] [] _ 0 0
  have F : Fm [] [] s s := fm_rf _ _ s
  refine z_aload_n X (x := A 25) (show cdA 38 0 = some (.aload_n 0, 1, 0, 0, 0) from rfl) (List.Mem.head _) ?_
  refine s_getR X 25 (show cdA 38 1 = some (.getfield 15, 3, 3, 1, 0) from rfl) (by decide) rfl rfl ?_
  refine z_load_n X (x := x) (show cdA 38 4 = some (.iload_n 1, 1, 0, 0, 0) from rfl) (List.Mem.tail _ (List.Mem.head _)) ?_
  refine z_lald X 27 (show cdA 38 5 = some (.laload, 1, 0, 0, 0) from rfl) (by decide) rfl (by first | exact p0.1 | omega) (show x < 8 by first | exact oq_aaea290e p0.2 | omega) (by decide) (fun j1 => ?_)
  refine z_aload_n X (x := A 25) (show cdA 38 6 = some (.aload_n 0, 1, 0, 0, 0) from rfl) (List.Mem.head _) ?_
  refine s_getR X 25 (show cdA 38 7 = some (.getfield 15, 3, 3, 1, 0) from rfl) (by decide) rfl rfl ?_
  refine z_load_n X (x := x) (show cdA 38 10 = some (.iload_n 1, 1, 0, 0, 0) from rfl) (List.Mem.tail _ (List.Mem.head _)) ?_
  refine z_lald X 27 (show cdA 38 11 = some (.laload, 1, 0, 0, 0) from rfl) (by decide) rfl (by first | exact p0.1 | omega) (show x < 8 by first | exact oq_aaea290e p0.2 | omega) (by decide) (fun j2 => ?_)
  refine z_ldc2 X (show cdA 38 12 = some (.ldc2_w 28, 3, 18446744073709551615, 0, 0) from rfl) (fun j3 => ?_)
  refine w_lxor X.1 (ax_d X (show cdA 38 15 = some (.lxor, 1, 0, 0, 0) from rfl)) ?_
  refine z_anyJ (fun j4 => ?_)
  refine z_aload_n X (x := A 25) (show cdA 38 16 = some (.aload_n 0, 1, 0, 0, 0) from rfl) (List.Mem.head _) ?_
  refine s_getR X 25 (show cdA 38 17 = some (.getfield 19, 3, 3, 2, 0) from rfl) (by decide) rfl rfl ?_
  refine z_load_n X (x := x) (show cdA 38 20 = some (.iload_n 1, 1, 0, 0, 0) from rfl) (List.Mem.tail _ (List.Mem.head _)) ?_
  refine z_lald X 28 (show cdA 38 21 = some (.laload, 1, 0, 0, 0) from rfl) (by decide) rfl (by first | exact p0.1 | omega) (show x < 8 by first | exact oq_aaea290e p0.2 | omega) (by decide) (fun j5 => ?_)
  refine z_ldc2 X (show cdA 38 22 = some (.ldc2_w 28, 3, 18446744073709551615, 0, 0) from rfl) (fun j6 => ?_)
  refine w_lxor X.1 (ax_d X (show cdA 38 25 = some (.lxor, 1, 0, 0, 0) from rfl)) ?_
  refine z_anyJ (fun j7 => ?_)
  refine z_callS X (rm := rmN 33) (As := [.long j4, .long j7]) (st := [.long j1]) (show cdA 38 26 = some (.invokestatic 62, 3, 33, 1, 0) from rfl) rfl (by rw [E.1, E.2.1, E.2.2.1]; exact c3_beside G I ) ⟨by rw [E.2.2.2]; exact (show (rmN 33).frames + 1 ≤ (rmN 38).frames by decide), by rw [E.2.2.2]; exact (show 8 + (mNL (miB 33) + 11) + (rmN 33).locals ≤ (rmN 38).locals by decide), by rw [E.2.2.2]; exact (show 0 + (rmN 33).cells ≤ (rmN 38).cells by decide), by rw [E.2.2.2]; exact (show 0 + (rmN 33).slots ≤ (rmN 38).slots by decide)⟩ (Nat.le_of_ble_eq_true rfl) (fun vv s8 hq => ?_) (fun ee s8 hq => ?_)
  rotate_left
  · obtain ⟨Is8, Fs8, e9, hv, hrs8, hps8⟩ := hq; cases hv
  obtain ⟨Is8, Fs8, e9, hv, hrs8, hps8⟩ := hq
  cases hv
  have Gs8 := fm_ts F Fs8 (by decide) (by decide)
  show WS k 29 [(0, .ref (A 25)), (1, .int (Int32.ofInt x)), (2, .long aj), (4, .long bj)] [.long e9, .long j1] (Wd A dT s8) 0 0
  refine w_land X.1 (ax_d X (show cdA 38 29 = some (.land, 1, 0, 0, 0) from rfl)) ?_
  refine z_anyJ (fun j10 => ?_)
  refine w_lstore X.1 (lv' := [(6, .long j10), (0, .ref (A 25)), (1, .int (Int32.ofInt x)), (2, .long aj), (4, .long bj)]) (ax_d X (show cdA 38 30 = some (.lstore 6, 2, 0, 0, 0) from rfl)) (by rw [X.2.1.2.2]; decide) (fun _ h => h) ?_
  refine z_aload_n X (x := A 25) (show cdA 38 32 = some (.aload_n 0, 1, 0, 0, 0) from rfl) (List.Mem.tail _ (List.Mem.head _)) ?_
  refine s_getR X 25 (show cdA 38 33 = some (.getfield 19, 3, 3, 2, 0) from rfl) (by decide) rfl rfl ?_
  refine z_load_n X (x := x) (show cdA 38 36 = some (.iload_n 1, 1, 0, 0, 0) from rfl) (List.Mem.tail _ (List.Mem.tail _ (List.Mem.head _))) ?_
  refine z_lald X 28 (show cdA 38 37 = some (.laload, 1, 0, 0, 0) from rfl) (by decide) rfl (by first | exact p0.1 | omega) (show x < 8 by first | exact oq_aaea290e p0.2 | omega) (by decide) (fun j11 => ?_)
  refine z_aload_n X (x := A 25) (show cdA 38 38 = some (.aload_n 0, 1, 0, 0, 0) from rfl) (List.Mem.tail _ (List.Mem.head _)) ?_
  refine s_getR X 25 (show cdA 38 39 = some (.getfield 19, 3, 3, 2, 0) from rfl) (by decide) rfl rfl ?_
  refine z_load_n X (x := x) (show cdA 38 42 = some (.iload_n 1, 1, 0, 0, 0) from rfl) (List.Mem.tail _ (List.Mem.tail _ (List.Mem.head _))) ?_
  refine z_lald X 28 (show cdA 38 43 = some (.laload, 1, 0, 0, 0) from rfl) (by decide) rfl (by first | exact p0.1 | omega) (show x < 8 by first | exact oq_aaea290e p0.2 | omega) (by decide) (fun j12 => ?_)
  refine z_ldc2 X (show cdA 38 44 = some (.ldc2_w 28, 3, 18446744073709551615, 0, 0) from rfl) (fun j13 => ?_)
  refine w_lxor X.1 (ax_d X (show cdA 38 47 = some (.lxor, 1, 0, 0, 0) from rfl)) ?_
  refine z_anyJ (fun j14 => ?_)
  refine z_aload_n X (x := A 25) (show cdA 38 48 = some (.aload_n 0, 1, 0, 0, 0) from rfl) (List.Mem.tail _ (List.Mem.head _)) ?_
  refine s_getR X 25 (show cdA 38 49 = some (.getfield 15, 3, 3, 1, 0) from rfl) (by decide) rfl rfl ?_
  refine z_load_n X (x := x) (show cdA 38 52 = some (.iload_n 1, 1, 0, 0, 0) from rfl) (List.Mem.tail _ (List.Mem.tail _ (List.Mem.head _))) ?_
  refine z_lald X 27 (show cdA 38 53 = some (.laload, 1, 0, 0, 0) from rfl) (by decide) rfl (by first | exact p0.1 | omega) (show x < 8 by first | exact oq_aaea290e p0.2 | omega) (by decide) (fun j15 => ?_)
  refine z_ldc2 X (show cdA 38 54 = some (.ldc2_w 28, 3, 18446744073709551615, 0, 0) from rfl) (fun j16 => ?_)
  refine w_lxor X.1 (ax_d X (show cdA 38 57 = some (.lxor, 1, 0, 0, 0) from rfl)) ?_
  refine z_anyJ (fun j17 => ?_)
  refine z_callS X (rm := rmN 33) (As := [.long j14, .long j17]) (st := [.long j11]) (show cdA 38 58 = some (.invokestatic 62, 3, 33, 1, 0) from rfl) rfl (by rw [E.1, E.2.1, E.2.2.1]; exact c3_beside G Is8 ) ⟨by rw [E.2.2.2]; exact (show (rmN 33).frames + 1 ≤ (rmN 38).frames by decide), by rw [E.2.2.2]; exact (show 8 + (mNL (miB 33) + 11) + (rmN 33).locals ≤ (rmN 38).locals by decide), by rw [E.2.2.2]; exact (show 0 + (rmN 33).cells ≤ (rmN 38).cells by decide), by rw [E.2.2.2]; exact (show 0 + (rmN 33).slots ≤ (rmN 38).slots by decide)⟩ (Nat.le_of_ble_eq_true rfl) (fun vv s18 hq => ?_) (fun ee s18 hq => ?_)
  rotate_left
  · obtain ⟨Is18, Fs18, e19, hv, hrs18, hps18⟩ := hq; cases hv
  obtain ⟨Is18, Fs18, e19, hv, hrs18, hps18⟩ := hq
  cases hv
  have Gs18 := fm_ts Gs8 Fs18 (by decide) (by decide)
  show WS k 61 [(6, .long j10), (0, .ref (A 25)), (1, .int (Int32.ofInt x)), (2, .long aj), (4, .long bj)] [.long e19, .long j11] (Wd A dT s18) 0 0
  refine w_land X.1 (ax_d X (show cdA 38 61 = some (.land, 1, 0, 0, 0) from rfl)) ?_
  refine z_anyJ (fun j20 => ?_)
  refine w_lstore X.1 (lv' := [(8, .long j20), (6, .long j10), (0, .ref (A 25)), (1, .int (Int32.ofInt x)), (2, .long aj), (4, .long bj)]) (ax_d X (show cdA 38 62 = some (.lstore 8, 2, 0, 0, 0) from rfl)) (by rw [X.2.1.2.2]; decide) (fun _ h => h) ?_
  refine w_lload X.1 (ax_d X (show cdA 38 64 = some (.lload 6, 2, 0, 0, 0) from rfl)) (x := j10) (List.Mem.tail _ (List.Mem.head _)) ?_
  refine w_lload_n X.1 (ax_d X (show cdA 38 66 = some (.lload_n 2, 1, 0, 0, 0) from rfl)) (x := aj) (List.Mem.tail _ (List.Mem.tail _ (List.Mem.tail _ (List.Mem.tail _ (List.Mem.head _))))) ?_
  refine w_land X.1 (ax_d X (show cdA 38 67 = some (.land, 1, 0, 0, 0) from rfl)) ?_
  refine z_anyJ (fun j21 => ?_)
  refine z_callS X (rm := rmN 298) (As := [.long j21]) (st := []) (show cdA 38 68 = some (.invokestatic 44, 3, 298, 1, 0) from rfl) rfl (by rw [E.1, E.2.1, E.2.2.1]; exact j_bitL G Is18 ) ⟨by rw [E.2.2.2]; exact (show (rmN 298).frames + 1 ≤ (rmN 38).frames by decide), by rw [E.2.2.2]; exact (show 8 + (mNL (miB 298) + 11) + (rmN 298).locals ≤ (rmN 38).locals by decide), by rw [E.2.2.2]; exact (show 0 + (rmN 298).cells ≤ (rmN 38).cells by decide), by rw [E.2.2.2]; exact (show 0 + (rmN 298).slots ≤ (rmN 38).slots by decide)⟩ (Nat.le_of_ble_eq_true rfl) (fun vv s22 hq => ?_) (fun ee s22 hq => ?_)
  rotate_left
  · obtain ⟨Is22, Fs22, e23, hv, hrs22, hps22⟩ := hq; cases hv
  obtain ⟨Is22, Fs22, e23, hv, hrs22, hps22⟩ := hq
  cases hv
  have Gs22 := fm_ts Gs18 Fs22 (by decide) (by decide)
  show WS k 71 [(8, .long j20), (6, .long j10), (0, .ref (A 25)), (1, .int (Int32.ofInt x)), (2, .long aj), (4, .long bj)] [.int (Int32.ofInt e23)] (Wd A dT s22) 0 0
  refine w_lload X.1 (ax_d X (show cdA 38 71 = some (.lload 8, 2, 0, 0, 0) from rfl)) (x := j20) (List.Mem.head _) ?_
  refine w_lload X.1 (ax_d X (show cdA 38 73 = some (.lload 4, 2, 0, 0, 0) from rfl)) (x := bj) (List.Mem.tail _ (List.Mem.tail _ (List.Mem.tail _ (List.Mem.tail _ (List.Mem.tail _ (List.Mem.head _)))))) ?_
  refine w_land X.1 (ax_d X (show cdA 38 75 = some (.land, 1, 0, 0, 0) from rfl)) ?_
  refine z_anyJ (fun j24 => ?_)
  refine z_callS X (rm := rmN 298) (As := [.long j24]) (st := [.int (Int32.ofInt e23)]) (show cdA 38 76 = some (.invokestatic 44, 3, 298, 1, 0) from rfl) rfl (by rw [E.1, E.2.1, E.2.2.1]; exact j_bitL G Is22 ) ⟨by rw [E.2.2.2]; exact (show (rmN 298).frames + 1 ≤ (rmN 38).frames by decide), by rw [E.2.2.2]; exact (show 8 + (mNL (miB 298) + 11) + (rmN 298).locals ≤ (rmN 38).locals by decide), by rw [E.2.2.2]; exact (show 0 + (rmN 298).cells ≤ (rmN 38).cells by decide), by rw [E.2.2.2]; exact (show 0 + (rmN 298).slots ≤ (rmN 38).slots by decide)⟩ (Nat.le_of_ble_eq_true rfl) (fun vv s25 hq => ?_) (fun ee s25 hq => ?_)
  rotate_left
  · obtain ⟨Is25, Fs25, e26, hv, hrs25, hps25⟩ := hq; cases hv
  obtain ⟨Is25, Fs25, e26, hv, hrs25, hps25⟩ := hq
  cases hv
  have Gs25 := fm_ts Gs22 Fs25 (by decide) (by decide)
  show WS k 79 [(8, .long j20), (6, .long j10), (0, .ref (A 25)), (1, .int (Int32.ofInt x)), (2, .long aj), (4, .long bj)] [.int (Int32.ofInt e26), .int (Int32.ofInt e23)] (Wd A dT s25) 0 0
  refine z_add X (show cdA 38 79 = some (.iadd, 1, 0, 0, 0) from rfl) ?_
  refine z_any (fun y27 hy27 => ?_)
  exact w_iret X.1 q hRt rfl (ax_d X (show cdA 38 80 = some (.ireturn, 1, 0, 0, 0) from rfl)) (Nat.zero_le _) (Nat.zero_le _) ⟨_, rfl, Is25, Gs25, y27, rfl, hy27, trivial⟩
set_option maxRecDepth 4000 in
theorem c3_piecesBeside_25 (G : GX l s0 D tys a0 dT) (I : Bd s) {x : Int} (p0 : 0 ≤ x ∧ x ≤ 127) : CT l s0 D A dT 39 (rmN 39) [.ref (A 25), .int (Int32.ofInt x)] s (fun o t => Bd t ∧ Fm [] [] s t ∧ ∃ e, o = .inl (some (.int (Int32.ofInt e))) ∧ rng e ∧ (True)) := by
  refine ct_ofX G (by decide) (Nat.le_of_ble_eq_true rfl) (fun k X E ET hRt hXt q => ?_)
  show WS k 0 [(0, .ref (A 25)), (1, .int (Int32.ofInt x))] [] _ 0 0
  have F : Fm [] [] s s := fm_rf _ _ s
  have L4 : ∀ (n : Nat) (t : PS) (xv bi g : Int), Bd t → Fm [] [] s t → ((0 ≤ xv ∧ xv ≤ 127) ∧ rng bi ∧ 0 ≤ g ∧ g ≤ 6) → (6 - g : Int).toNat < n → (∀ (t' : PS) (bi' g' : Int), Bd t' → Fm [] [] s t' → ((0 ≤ xv ∧ xv ≤ 127) ∧ rng bi' ∧ 0 ≤ g' ∧ g' ≤ 6) → WS k 51 [(0, .ref (A 25)), (1, .int (Int32.ofInt xv)), (2, .int (Int32.ofInt bi')), (3, .int (Int32.ofInt g'))] [] (Wd A dT t') 0 0) → WS k 4 [(0, .ref (A 25)), (1, .int (Int32.ofInt xv)), (2, .int (Int32.ofInt bi)), (3, .int (Int32.ofInt g))] [] (Wd A dT t) 0 0 := by
    intro n
    induction n with
    | zero =>
      intro t xv bi g I F hi hm kx
      exact absurd hm (Nat.not_lt_zero _)
    | succ n ih =>
      intro t xv bi g I F hi hm kx
      refine z_load_n X (x := g) (show cdA 39 4 = some (.iload_n 3, 1, 0, 0, 0) from rfl) (List.Mem.tail _ (List.Mem.tail _ (List.Mem.tail _ (List.Mem.head _)))) ?_
      refine z_bipush X (show cdA 39 5 = some (.bipush 6, 2, 0, 0, 6) from rfl) ?_
      refine z_icmp_ge X (t := 51) (show cdA 39 7 = some (.if_icmp .ge 44, 3, 3, 0, 0) from rfl) (by decide) ⟨by first | exact oq_fa4e5087 hi.2.2.1 | omega, by first | exact oq_b301c3bf hi.2.2.2 | omega⟩ (by decide) (fun g1001 => ?_) (fun g1001 => ?_)
      ·
        refine WS_lv (lv := [(0, .ref (A 25)), (1, .int (Int32.ofInt xv)), (2, .int (Int32.ofInt bi)), (3, .int (Int32.ofInt g))]) (List.forall_mem_cons.mpr ⟨(List.Mem.head _), (List.forall_mem_cons.mpr ⟨(List.Mem.tail _ (List.Mem.head _)), (List.forall_mem_cons.mpr ⟨(List.Mem.tail _ (List.Mem.tail _ (List.Mem.head _))), (List.forall_mem_cons.mpr ⟨(List.Mem.tail _ (List.Mem.tail _ (List.Mem.tail _ (List.Mem.head _)))), (fun q h => absurd h List.not_mem_nil)⟩)⟩)⟩)⟩) ?_
        exact kx _ bi g I F (by first | exact ⟨And.intro (hi.1.1) (hi.1.2), And.intro (hi.2.1.1) (hi.2.1.2), hi.2.2.1, hi.2.2.2⟩ | omega)
      ·
        refine z_load_n X (x := xv) (show cdA 39 10 = some (.iload_n 1, 1, 0, 0, 0) from rfl) (List.Mem.tail _ (List.Mem.head _)) ?_
        refine z_load_n X (x := g) (show cdA 39 11 = some (.iload_n 3, 1, 0, 0, 0) from rfl) (List.Mem.tail _ (List.Mem.tail _ (List.Mem.tail _ (List.Mem.head _)))) ?_
        refine z_callS X (rm := rmN 100) (As := [.int (Int32.ofInt xv), .int (Int32.ofInt g)]) (st := []) (show cdA 39 12 = some (.invokestatic 74, 3, 100, 1, 0) from rfl) rfl (by rw [E.1, E.2.1, E.2.2.1]; exact c9_stepFrom G I (by first | exact ⟨hi.1.1, hi.1.2⟩ | omega) (by first | exact ⟨hi.2.2.1, oq_a4cef127 g1001⟩ | omega)) ⟨by rw [E.2.2.2]; exact (show (rmN 100).frames + 1 ≤ (rmN 39).frames by decide), by rw [E.2.2.2]; exact (show 8 + (mNL (miB 100) + 11) + (rmN 100).locals ≤ (rmN 39).locals by decide), by rw [E.2.2.2]; exact (show 0 + (rmN 100).cells ≤ (rmN 39).cells by decide), by rw [E.2.2.2]; exact (show 0 + (rmN 100).slots ≤ (rmN 39).slots by decide)⟩ (Nat.le_of_ble_eq_true rfl) (fun vv s1002 hq => ?_) (fun ee s1002 hq => ?_)
        rotate_left
        · obtain ⟨rfl, e1003, hv, hrs1002, hps1002⟩ := hq; cases hv
        obtain ⟨rfl, e1003, hv, hrs1002, hps1002⟩ := hq
        cases hv
        show WS k 15 [(0, .ref (A 25)), (1, .int (Int32.ofInt xv)), (2, .int (Int32.ofInt bi)), (3, .int (Int32.ofInt g))] [.int (Int32.ofInt e1003)] (Wd A dT t) 0 0
        refine z_store X (lv' := [(4, .int (Int32.ofInt e1003)), (0, .ref (A 25)), (1, .int (Int32.ofInt xv)), (2, .int (Int32.ofInt bi)), (3, .int (Int32.ofInt g))]) (show cdA 39 15 = some (.istore 4, 2, 0, 0, 0) from rfl) (by decide) (fun _ h => h) ?_
        refine z_load X (x := e1003) (show cdA 39 17 = some (.iload 4, 2, 0, 0, 0) from rfl) (List.Mem.head _) ?_
        refine z_const X (show cdA 39 19 = some (.iconst (-1), 1, 0, 0, 0) from rfl) ?_
        refine z_icmp_eq X (t := 45) (show cdA 39 20 = some (.if_icmp .eq 25, 3, 0, 0, 0) from rfl) (by decide) hrs1002 (by decide) (fun g1004 => ?_) (fun g1004 => ?_)
        ·
          refine z_inc X (x := g) (lv' := [(3, .int (Int32.ofInt (g + 1))), (4, .int (Int32.ofInt e1003)), (0, .ref (A 25)), (1, .int (Int32.ofInt xv)), (2, .int (Int32.ofInt bi))]) (show cdA 39 45 = some (.iinc 3 1, 3, 0, 0, 0) from rfl) (by decide) (List.Mem.tail _ (List.Mem.tail _ (List.Mem.tail _ (List.Mem.tail _ (List.Mem.head _))))) (fun _ h => h) ?_
          refine z_goto X (t := 4) (show cdA 39 48 = some (.goto (-44), 3, 0, 0, 0) from rfl) (by decide) ?_
          refine WS_lv (lv := [(0, .ref (A 25)), (1, .int (Int32.ofInt xv)), (2, .int (Int32.ofInt bi)), (3, .int (Int32.ofInt (g + 1)))]) (List.forall_mem_cons.mpr ⟨(List.Mem.tail _ (List.Mem.tail _ (List.Mem.head _))), (List.forall_mem_cons.mpr ⟨(List.Mem.tail _ (List.Mem.tail _ (List.Mem.tail _ (List.Mem.head _)))), (List.forall_mem_cons.mpr ⟨(List.Mem.tail _ (List.Mem.tail _ (List.Mem.tail _ (List.Mem.tail _ (List.Mem.head _))))), (List.forall_mem_cons.mpr ⟨(List.Mem.head _), (fun q h => absurd h List.not_mem_nil)⟩)⟩)⟩)⟩) ?_
          exact ih _ xv bi (g + 1) I F (by first | exact ⟨And.intro (hi.1.1) (hi.1.2), And.intro (hi.2.1.1) (hi.2.1.2), oq_54f49eb5 hi.2.2.1, oq_5bf54478 g1001⟩ | omega) (by first | exact qk_me hm (by decide) (oq_2265a080 g1001) | omega) kx
        ·
          refine z_aload_n X (x := A 25) (show cdA 39 23 = some (.aload_n 0, 1, 0, 0, 0) from rfl) (List.Mem.tail _ (List.Mem.head _)) ?_
          refine s_getR X 25 (show cdA 39 24 = some (.getfield 9, 3, 3, 0, 0) from rfl) (by decide) rfl rfl ?_
          refine z_load X (x := e1003) (show cdA 39 27 = some (.iload 4, 2, 0, 0, 0) from rfl) (List.Mem.head _) ?_
          refine z_ald X 26 (show cdA 39 29 = some (.iaload, 1, 0, 0, 0) from rfl) (by decide) rfl (by first | exact oq_7a1025bf g1004 hps1002.1 | omega) (show e1003 < 128 by first | exact oq_31b2bf10 hps1002.2 | omega) (by decide) ?_
          have b1005 : ((-1) : Int) ≤ iC t 21 (e1003).toNat ∧ iC t 21 (e1003).toNat ≤ 7 := I.2 21 _ (show (e1003).toNat < 128 by first | exact oq_c7f4e9c1 hps1002.2 | omega)
          refine z_if_lt X (t := 45) (show cdA 39 30 = some (.ifCond .lt 15, 3, 2, 0, 0) from rfl) (by decide) (rng_to _) (fun g1006 => ?_) (fun g1006 => ?_)
          ·
            refine z_inc X (x := g) (lv' := [(3, .int (Int32.ofInt (g + 1))), (4, .int (Int32.ofInt e1003)), (0, .ref (A 25)), (1, .int (Int32.ofInt xv)), (2, .int (Int32.ofInt bi))]) (show cdA 39 45 = some (.iinc 3 1, 3, 0, 0, 0) from rfl) (by decide) (List.Mem.tail _ (List.Mem.tail _ (List.Mem.tail _ (List.Mem.tail _ (List.Mem.head _))))) (fun _ h => h) ?_
            refine z_goto X (t := 4) (show cdA 39 48 = some (.goto (-44), 3, 0, 0, 0) from rfl) (by decide) ?_
            refine WS_lv (lv := [(0, .ref (A 25)), (1, .int (Int32.ofInt xv)), (2, .int (Int32.ofInt bi)), (3, .int (Int32.ofInt (g + 1)))]) (List.forall_mem_cons.mpr ⟨(List.Mem.tail _ (List.Mem.tail _ (List.Mem.head _))), (List.forall_mem_cons.mpr ⟨(List.Mem.tail _ (List.Mem.tail _ (List.Mem.tail _ (List.Mem.head _)))), (List.forall_mem_cons.mpr ⟨(List.Mem.tail _ (List.Mem.tail _ (List.Mem.tail _ (List.Mem.tail _ (List.Mem.head _))))), (List.forall_mem_cons.mpr ⟨(List.Mem.head _), (fun q h => absurd h List.not_mem_nil)⟩)⟩)⟩)⟩) ?_
            exact ih _ xv bi (g + 1) I F (by first | exact ⟨And.intro (hi.1.1) (hi.1.2), And.intro (hi.2.1.1) (hi.2.1.2), oq_54f49eb5 hi.2.2.1, oq_5bf54478 g1001⟩ | omega) (by first | exact qk_me hm (by decide) (oq_2265a080 g1001) | omega) kx
          ·
            refine z_load_n X (x := bi) (show cdA 39 33 = some (.iload_n 2, 1, 0, 0, 0) from rfl) (List.Mem.tail _ (List.Mem.tail _ (List.Mem.tail _ (List.Mem.head _)))) ?_
            refine z_const X (show cdA 39 34 = some (.iconst 1, 1, 0, 0, 0) from rfl) ?_
            refine z_aload_n X (x := A 25) (show cdA 39 35 = some (.aload_n 0, 1, 0, 0, 0) from rfl) (List.Mem.tail _ (List.Mem.head _)) ?_
            refine s_getR X 25 (show cdA 39 36 = some (.getfield 9, 3, 3, 0, 0) from rfl) (by decide) rfl rfl ?_
            refine z_load X (x := e1003) (show cdA 39 39 = some (.iload 4, 2, 0, 0, 0) from rfl) (List.Mem.head _) ?_
            refine z_ald X 26 (show cdA 39 41 = some (.iaload, 1, 0, 0, 0) from rfl) (by decide) rfl (by first | exact oq_7a1025bf g1004 hps1002.1 | omega) (show e1003 < 128 by first | exact oq_31b2bf10 hps1002.2 | omega) (by decide) ?_
            have b1007 : ((-1) : Int) ≤ iC t 21 (e1003).toNat ∧ iC t 21 (e1003).toNat ≤ 7 := I.2 21 _ (show (e1003).toNat < 128 by first | exact oq_c7f4e9c1 hps1002.2 | omega)
            refine z_bshl X (show cdA 39 42 = some (.ishl, 1, 0, 0, 0) from rfl) ?_
            refine z_any (fun y1008 hy1008 => ?_)
            refine z_bor X (show cdA 39 43 = some (.ior, 1, 0, 0, 0) from rfl) ?_
            refine z_any (fun y1009 hy1009 => ?_)
            refine z_store_n X (lv' := [(2, .int (Int32.ofInt y1009)), (4, .int (Int32.ofInt e1003)), (0, .ref (A 25)), (1, .int (Int32.ofInt xv)), (3, .int (Int32.ofInt g))]) (show cdA 39 44 = some (.istore_n 2, 1, 0, 0, 0) from rfl) (by decide) (fun _ h => h) ?_
            refine z_inc X (x := g) (lv' := [(3, .int (Int32.ofInt (g + 1))), (2, .int (Int32.ofInt y1009)), (4, .int (Int32.ofInt e1003)), (0, .ref (A 25)), (1, .int (Int32.ofInt xv))]) (show cdA 39 45 = some (.iinc 3 1, 3, 0, 0, 0) from rfl) (by decide) (List.Mem.tail _ (List.Mem.tail _ (List.Mem.tail _ (List.Mem.tail _ (List.Mem.head _))))) (fun _ h => h) ?_
            refine z_goto X (t := 4) (show cdA 39 48 = some (.goto (-44), 3, 0, 0, 0) from rfl) (by decide) ?_
            refine WS_lv (lv := [(0, .ref (A 25)), (1, .int (Int32.ofInt xv)), (2, .int (Int32.ofInt y1009)), (3, .int (Int32.ofInt (g + 1)))]) (List.forall_mem_cons.mpr ⟨(List.Mem.tail _ (List.Mem.tail _ (List.Mem.tail _ (List.Mem.head _)))), (List.forall_mem_cons.mpr ⟨(List.Mem.tail _ (List.Mem.tail _ (List.Mem.tail _ (List.Mem.tail _ (List.Mem.head _))))), (List.forall_mem_cons.mpr ⟨(List.Mem.tail _ (List.Mem.head _)), (List.forall_mem_cons.mpr ⟨(List.Mem.head _), (fun q h => absurd h List.not_mem_nil)⟩)⟩)⟩)⟩) ?_
            exact ih _ xv y1009 (g + 1) I F (by first | exact ⟨And.intro (hi.1.1) (hi.1.2), And.intro (hy1009.1) (hy1009.2), oq_54f49eb5 hi.2.2.1, oq_5bf54478 g1001⟩ | omega) (by first | exact qk_me hm (by decide) (oq_2265a080 g1001) | omega) kx
  refine z_const X (show cdA 39 0 = some (.iconst 0, 1, 0, 0, 0) from rfl) ?_
  refine z_store_n X (lv' := [(2, .int (Int32.ofInt 0)), (0, .ref (A 25)), (1, .int (Int32.ofInt x))]) (show cdA 39 1 = some (.istore_n 2, 1, 0, 0, 0) from rfl) (by decide) (fun _ h => h) ?_
  refine z_const X (show cdA 39 2 = some (.iconst 0, 1, 0, 0, 0) from rfl) ?_
  refine z_store_n X (lv' := [(3, .int (Int32.ofInt 0)), (2, .int (Int32.ofInt 0)), (0, .ref (A 25)), (1, .int (Int32.ofInt x))]) (show cdA 39 3 = some (.istore_n 3, 1, 0, 0, 0) from rfl) (by decide) (fun _ h => h) ?_
  refine WS_lv (lv := [(0, .ref (A 25)), (1, .int (Int32.ofInt x)), (2, .int (Int32.ofInt 0)), (3, .int (Int32.ofInt 0))]) (List.forall_mem_cons.mpr ⟨(List.Mem.tail _ (List.Mem.tail _ (List.Mem.head _))), (List.forall_mem_cons.mpr ⟨(List.Mem.tail _ (List.Mem.tail _ (List.Mem.tail _ (List.Mem.head _)))), (List.forall_mem_cons.mpr ⟨(List.Mem.tail _ (List.Mem.head _)), (List.forall_mem_cons.mpr ⟨(List.Mem.head _), (fun q h => absurd h List.not_mem_nil)⟩)⟩)⟩)⟩) ?_
  refine L4 ((6 - 0 : Int).toNat + 1) s x 0 0 I F (by first | exact ⟨And.intro (p0.1) (p0.2), And.intro (by decide) (by decide), by decide, by decide⟩ | omega) (Nat.lt_succ_self _) ?_
  intro s1 x2 x3 Is1 Fs1 hs1
  refine z_load_n X (x := x2) (show cdA 39 51 = some (.iload_n 2, 1, 0, 0, 0) from rfl) (List.Mem.tail _ (List.Mem.tail _ (List.Mem.head _))) ?_
  exact w_iret X.1 q hRt rfl (ax_d X (show cdA 39 52 = some (.ireturn, 1, 0, 0, 0) from rfl)) (Nat.zero_le _) (Nat.zero_le _) ⟨_, rfl, Is1, Fs1, x2, rfl, ⟨by first | exact hs1.2.1.1 | omega, by first | exact hs1.2.1.2 | omega⟩, trivial⟩
set_option maxRecDepth 4000 in
theorem c3_keepMark_25 (G : GX l s0 D tys a0 dT) (I : Bd s)  : CT l s0 D A dT 40 (rmN 40) [.ref (A 25)] s (fun o t => Bd t ∧ Fm [20] [25] s t ∧ ∃ e, o = .inl (some (.int (Int32.ofInt e))) ∧ rng e ∧ ((iI s 20 ≤ 3 ∧ iI t 20 = iI s 20 + 1 ∧ e = iI t 20) ∨ (iI s 20 = 4 ∧ iI t 20 = 4 ∧ e = -1))) := by
  refine ct_ofX G (by decide) (Nat.le_of_ble_eq_true rfl) (fun k X E ET hRt hXt q => ?_)
  show WS k 0 [(0, .ref (A 25))] [] _ 0 0
  have F : Fm [20] [25] s s := fm_rf _ _ s
  have b1 : (0 : Int) ≤ iI s 20 ∧ iI s 20 ≤ 4 := I.1 20
  refine z_aload_n X (x := A 25) (show cdA 40 0 = some (.aload_n 0, 1, 0, 0, 0) from rfl) (List.Mem.head _) ?_
  refine z_getI X 25 (show cdA 40 1 = some (.getfield 79, 3, 3, 5, 0) from rfl) (by decide) rfl rfl ?_
  have b2 : (0 : Int) ≤ iI s 20 ∧ iI s 20 ≤ 4 := I.1 20
  refine z_const X (show cdA 40 4 = some (.iconst 4, 1, 0, 0, 0) from rfl) ?_
  refine z_icmp_lt X (t := 10) (show cdA 40 5 = some (.if_icmp .lt 5, 3, 2, 0, 0) from rfl) (by decide) (rng_to _) (by decide) (fun g3 => ?_) (fun g3 => ?_)
  ·
    refine z_aload_n X (x := A 25) (show cdA 40 10 = some (.aload_n 0, 1, 0, 0, 0) from rfl) (List.Mem.head _) ?_
    refine s_getR X 25 (show cdA 40 11 = some (.getfield 9, 3, 3, 0, 0) from rfl) (by decide) rfl rfl ?_
    refine z_const X (show cdA 40 14 = some (.iconst 0, 1, 0, 0, 0) from rfl) ?_
    refine z_aload_n X (x := A 25) (show cdA 40 15 = some (.aload_n 0, 1, 0, 0, 0) from rfl) (List.Mem.head _) ?_
    refine s_getR X 25 (show cdA 40 16 = some (.getfield 25, 3, 3, 4, 0) from rfl) (by decide) rfl rfl ?_
    refine z_aload_n X (x := A 25) (show cdA 40 19 = some (.aload_n 0, 1, 0, 0, 0) from rfl) (List.Mem.head _) ?_
    refine z_getI X 25 (show cdA 40 20 = some (.getfield 79, 3, 3, 5, 0) from rfl) (by decide) rfl rfl ?_
    have b4 : (0 : Int) ≤ iI s 20 ∧ iI s 20 ≤ 4 := I.1 20
    refine z_sipush X (show cdA 40 23 = some (.sipush 128, 3, 0, 0, 128) from rfl) ?_
    refine z_mul X (show cdA 40 26 = some (.imul, 1, 0, 0, 0) from rfl) ?_
    refine z_sipush X (show cdA 40 27 = some (.sipush 128, 3, 0, 0, 128) from rfl) ?_
    refine z_copy X I 26 30 (st := []) (show cdA 40 30 = some (.invokestatic 83, 3, 0, 5, 0) from rfl) (by decide) (by decide) rfl rfl (by omega) (by omega) (by omega) (show 0 + 128 ≤ ((128 : Nat) : Int) by omega) (show ((iI s 20) * 128) + 128 ≤ ((512 : Nat) : Int) by omega) (by decide) (by rw [E.2.2.2]; decide) (by rw [E.2.2.2]; exact Nat.le_of_ble_eq_true rfl) (fun s5 Is5 Fs5 => ?_)
    have Gs5 := fm_ts F Fs5 (by decide) (by decide)
    have ws5_20 : iI s5 20 = iI s 20 := fm_i Fs5 (by decide)
    refine z_aload_n X (x := A 25) (show cdA 40 33 = some (.aload_n 0, 1, 0, 0, 0) from rfl) (List.Mem.head _) ?_
    refine w_dup X.1 (ax_d X (show cdA 40 34 = some (.dup, 1, 0, 0, 0) from rfl)) rfl ?_
    refine z_getI X 25 (show cdA 40 35 = some (.getfield 79, 3, 3, 5, 0) from rfl) (by decide) rfl rfl ?_
    have b6 : (0 : Int) ≤ iI s5 20 ∧ iI s5 20 ≤ 4 := Is5.1 20
    refine z_const X (show cdA 40 38 = some (.iconst 1, 1, 0, 0, 0) from rfl) ?_
    refine z_add X (show cdA 40 39 = some (.iadd, 1, 0, 0, 0) from rfl) ?_
    refine s_putI X 25 (show cdA 40 40 = some (.putfield 79, 3, 3, 5, 0) from rfl) (by decide) rfl rfl (by decide) rfl rfl rfl ?_
    obtain ⟨s7, hs7⟩ : ∃ x0, x0 = uI s5 20 (Int32.ofInt ((iI s5 20) + 1)) := ⟨_, rfl⟩
    rw [← hs7]
    have Is7 : Bd s7 := by rw [hs7]; exact bd_I Is5 (show (0 : Int) ≤ ((iI s5 20) + 1) ∧ ((iI s5 20) + 1) ≤ 4 by first | exact ⟨oq_54f49eb5 b6.1, oq_83fe9f9d ws5_20 g3⟩ | omega) ⟨by first | exact oq_74de1e16 b6.1 | omega, by first | exact oq_45419e6e b6.2 | omega⟩
    have Fs7 := fm_I (x := Int32.ofInt ((iI s5 20) + 1)) Gs5 (show 20 ∈ _ by decide)
    rw [← hs7] at Fs7
    have vs7 : iI s7 20 = ((iI s5 20) + 1) := by rw [hs7]; exact iI_u ⟨by first | exact oq_74de1e16 b6.1 | omega, by first | exact oq_45419e6e b6.2 | omega⟩
    refine z_aload_n X (x := A 25) (show cdA 40 43 = some (.aload_n 0, 1, 0, 0, 0) from rfl) (List.Mem.head _) ?_
    refine z_getI X 25 (show cdA 40 44 = some (.getfield 79, 3, 3, 5, 0) from rfl) (by decide) rfl rfl ?_
    have b8 : (0 : Int) ≤ iI s7 20 ∧ iI s7 20 ≤ 4 := Is7.1 20
    exact w_iret X.1 q hRt rfl (ax_d X (show cdA 40 47 = some (.ireturn, 1, 0, 0, 0) from rfl)) (Nat.zero_le _) (Nat.zero_le _) ⟨_, rfl, Is7, Fs7, (iI s7 20), rfl, (rng_to _), by first | exact Or.inl (And.intro (oq_ac23314d g3) (And.intro (oq_665cd23d vs7 ws5_20) (by decide))) | omega⟩
  ·
    refine z_const X (show cdA 40 8 = some (.iconst (-1), 1, 0, 0, 0) from rfl) ?_
    exact w_iret X.1 q hRt rfl (ax_d X (show cdA 40 9 = some (.ireturn, 1, 0, 0, 0) from rfl)) (Nat.zero_le _) (Nat.zero_le _) ⟨_, rfl, I, F, (-1), rfl, (by decide), by first | exact Or.inr (And.intro (oq_b0bc9e24 b2.2 g3) (And.intro (oq_b0bc9e24 b2.2 g3) (by decide))) | omega⟩
set_option maxRecDepth 4000 in
theorem c3_goBack_25 (G : GX l s0 D tys a0 dT) (I : Bd s)  : CT l s0 D A dT 41 (rmN 41) [.ref (A 25)] s (fun o t => Bd t ∧ Fm [20] [21, 1022, 1023] s t ∧ ∃ e, o = .inl (some (.int (Int32.ofInt e))) ∧ rng e ∧ ((1 ≤ iI s 20 ∧ iI t 20 = iI s 20 - 1 ∧ e = iI t 20) ∨ (iI s 20 = 0 ∧ iI t 20 = 0 ∧ e = -1))) := by
  refine ct_ofX G (by decide) (Nat.le_of_ble_eq_true rfl) (fun k X E ET hRt hXt q => ?_)
  show WS k 0 [(0, .ref (A 25))] [] _ 0 0
  have F : Fm [20] [21, 1022, 1023] s s := fm_rf _ _ s
  have b1 : (0 : Int) ≤ iI s 20 ∧ iI s 20 ≤ 4 := I.1 20
  have L21 : ∀ (n : Nat) (t : PS) (c : Int), Bd t → Fm [20] [21, 1022, 1023] s t → (0 ≤ c ∧ c ≤ 128 ∧ 1 ≤ iI s 20 ∧ iI t 20 = iI s 20 - 1) → (128 - c : Int).toNat < n → (∀ (t' : PS) (c' : Int), Bd t' → Fm [20] [21, 1022, 1023] s t' → (0 ≤ c' ∧ c' ≤ 128 ∧ 1 ≤ iI s 20 ∧ iI t' 20 = iI s 20 - 1) → WS k 55 [(0, .ref (A 25)), (1, .int (Int32.ofInt c'))] [] (Wd A dT t') 0 0) → WS k 21 [(0, .ref (A 25)), (1, .int (Int32.ofInt c))] [] (Wd A dT t) 0 0 := by
    intro n
    induction n with
    | zero =>
      intro t c I F hi hm kx
      exact absurd hm (Nat.not_lt_zero _)
    | succ n ih =>
      intro t c I F hi hm kx
      have b1001 : (0 : Int) ≤ iI t 20 ∧ iI t 20 ≤ 4 := I.1 20
      refine z_load_n X (x := c) (show cdA 41 21 = some (.iload_n 1, 1, 0, 0, 0) from rfl) (List.Mem.tail _ (List.Mem.head _)) ?_
      refine z_sipush X (show cdA 41 22 = some (.sipush 128, 3, 0, 0, 128) from rfl) ?_
      refine z_icmp_ge X (t := 55) (show cdA 41 25 = some (.if_icmp .ge 30, 3, 3, 0, 0) from rfl) (by decide) ⟨by first | exact oq_fa4e5087 hi.1 | omega, by first | exact oq_4ee82282 hi.2.1 | omega⟩ (by decide) (fun g1002 => ?_) (fun g1002 => ?_)
      ·
        refine WS_lv (lv := [(0, .ref (A 25)), (1, .int (Int32.ofInt c))]) (List.forall_mem_cons.mpr ⟨(List.Mem.head _), (List.forall_mem_cons.mpr ⟨(List.Mem.tail _ (List.Mem.head _)), (fun q h => absurd h List.not_mem_nil)⟩)⟩) ?_
        exact kx _ c I F (by first | exact ⟨hi.1, hi.2.1, hi.2.2.1, hi.2.2.2⟩ | omega)
      ·
        refine z_aload_n X (x := A 25) (show cdA 41 28 = some (.aload_n 0, 1, 0, 0, 0) from rfl) (List.Mem.head _) ?_
        refine z_load_n X (x := c) (show cdA 41 29 = some (.iload_n 1, 1, 0, 0, 0) from rfl) (List.Mem.tail _ (List.Mem.head _)) ?_
        refine z_aload_n X (x := A 25) (show cdA 41 30 = some (.aload_n 0, 1, 0, 0, 0) from rfl) (List.Mem.head _) ?_
        refine s_getR X 25 (show cdA 41 31 = some (.getfield 25, 3, 3, 4, 0) from rfl) (by decide) rfl rfl ?_
        refine z_aload_n X (x := A 25) (show cdA 41 34 = some (.aload_n 0, 1, 0, 0, 0) from rfl) (List.Mem.head _) ?_
        refine z_getI X 25 (show cdA 41 35 = some (.getfield 79, 3, 3, 5, 0) from rfl) (by decide) rfl rfl ?_
        have b1003 : (0 : Int) ≤ iI t 20 ∧ iI t 20 ≤ 4 := I.1 20
        refine z_sipush X (show cdA 41 38 = some (.sipush 128, 3, 0, 0, 128) from rfl) ?_
        refine z_mul X (show cdA 41 41 = some (.imul, 1, 0, 0, 0) from rfl) ?_
        refine z_load_n X (x := c) (show cdA 41 42 = some (.iload_n 1, 1, 0, 0, 0) from rfl) (List.Mem.tail _ (List.Mem.head _)) ?_
        refine z_add X (show cdA 41 43 = some (.iadd, 1, 0, 0, 0) from rfl) ?_
        refine z_ald X 30 (show cdA 41 44 = some (.iaload, 1, 0, 0, 0) from rfl) (by decide) rfl (by first | exact oq_b2d75d80 hi.1 b1003.1 | omega) (show (((iI t 20) * 128) + c) < 512 by first | exact oq_f0fcc3a4 g1002 hi.2.2.2 b1.2 | omega) (by decide) ?_
        have b1004 : ((-1) : Int) ≤ iC t 25 ((((iI t 20) * 128) + c)).toNat ∧ iC t 25 ((((iI t 20) * 128) + c)).toNat ≤ 7 := I.2 25 _ (show ((((iI t 20) * 128) + c)).toNat < 512 by first | exact oq_c430ddba g1002 hi.2.2.2 b1.2 | omega)
        refine z_callV X 25 (rm := rmN 28) (As := [.int (Int32.ofInt c), .int (Int32.ofInt (iC t 25 ((((iI t 20) * 128) + c)).toNat))]) (st := []) (show cdA 41 45 = some (.invokevirtual 36, 3, 28, 0, 0) from rfl) rfl (by decide) rfl (by rw [E.1, E.2.1, E.2.2.1]; exact c3_put_25 G I (by first | exact ⟨hi.1, oq_04367f15 g1002⟩ | omega) (by first | exact ⟨b1004.1, b1004.2⟩ | omega)) ⟨by rw [E.2.2.2]; exact (show (rmN 28).frames + 1 ≤ (rmN 41).frames by decide), by rw [E.2.2.2]; exact (show 8 + (mNL (miB 28) + 11) + (rmN 28).locals ≤ (rmN 41).locals by decide), by rw [E.2.2.2]; exact (show 0 + (rmN 28).cells ≤ (rmN 41).cells by decide), by rw [E.2.2.2]; exact (show 0 + (rmN 28).slots ≤ (rmN 41).slots by decide)⟩ (Nat.le_of_ble_eq_true rfl) (fun vv s1005 hq => ?_) (fun ee s1005 hq => ?_)
        rotate_left
        · obtain ⟨Is1005, Fs1005, e1006, hv, hrs1005, hps1005⟩ := hq; cases hv
        obtain ⟨Is1005, Fs1005, e1006, hv, hrs1005, hps1005⟩ := hq
        cases hv
        have Gs1005 := fm_ts F Fs1005 (by decide) (by decide)
        have ws1005_20 : iI s1005 20 = iI t 20 := fm_i Fs1005 (by decide)
        show WS k 48 [(0, .ref (A 25)), (1, .int (Int32.ofInt c))] [.int (Int32.ofInt e1006)] (Wd A dT s1005) 0 0
        refine w_pop X.1 (ax_d X (show cdA 41 48 = some (.pop, 1, 0, 0, 0) from rfl)) rfl ?_
        refine z_inc X (x := c) (lv' := [(1, .int (Int32.ofInt (c + 1))), (0, .ref (A 25))]) (show cdA 41 49 = some (.iinc 1 1, 3, 0, 0, 0) from rfl) (by decide) (List.Mem.tail _ (List.Mem.head _)) (fun _ h => h) ?_
        refine z_goto X (t := 21) (show cdA 41 52 = some (.goto (-31), 3, 0, 0, 0) from rfl) (by decide) ?_
        refine WS_lv (lv := [(0, .ref (A 25)), (1, .int (Int32.ofInt (c + 1)))]) (List.forall_mem_cons.mpr ⟨(List.Mem.tail _ (List.Mem.head _)), (List.forall_mem_cons.mpr ⟨(List.Mem.head _), (fun q h => absurd h List.not_mem_nil)⟩)⟩) ?_
        exact ih _ (c + 1) Is1005 Gs1005 (by first | exact ⟨oq_54f49eb5 hi.1, oq_d2afb425 g1002, hi.2.2.1, oq_a42238f2 ws1005_20 hi.2.2.2⟩ | omega) (by first | exact qk_me hm (by decide) (oq_c268b7bd g1002) | omega) kx
  refine z_aload_n X (x := A 25) (show cdA 41 0 = some (.aload_n 0, 1, 0, 0, 0) from rfl) (List.Mem.head _) ?_
  refine z_getI X 25 (show cdA 41 1 = some (.getfield 79, 3, 3, 5, 0) from rfl) (by decide) rfl rfl ?_
  have b2 : (0 : Int) ≤ iI s 20 ∧ iI s 20 ≤ 4 := I.1 20
  refine z_if_gt X (t := 9) (show cdA 41 4 = some (.ifCond .gt 5, 3, 4, 0, 0) from rfl) (by decide) (rng_to _) (fun g3 => ?_) (fun g3 => ?_)
  ·
    refine z_aload_n X (x := A 25) (show cdA 41 9 = some (.aload_n 0, 1, 0, 0, 0) from rfl) (List.Mem.head _) ?_
    refine w_dup X.1 (ax_d X (show cdA 41 10 = some (.dup, 1, 0, 0, 0) from rfl)) rfl ?_
    refine z_getI X 25 (show cdA 41 11 = some (.getfield 79, 3, 3, 5, 0) from rfl) (by decide) rfl rfl ?_
    have b4 : (0 : Int) ≤ iI s 20 ∧ iI s 20 ≤ 4 := I.1 20
    refine z_const X (show cdA 41 14 = some (.iconst 1, 1, 0, 0, 0) from rfl) ?_
    refine z_sub X (show cdA 41 15 = some (.isub, 1, 0, 0, 0) from rfl) ?_
    refine s_putI X 25 (show cdA 41 16 = some (.putfield 79, 3, 3, 5, 0) from rfl) (by decide) rfl rfl (by decide) rfl rfl rfl ?_
    obtain ⟨s5, hs5⟩ : ∃ x0, x0 = uI s 20 (Int32.ofInt ((iI s 20) - 1)) := ⟨_, rfl⟩
    rw [← hs5]
    have Is5 : Bd s5 := by rw [hs5]; exact bd_I I (show (0 : Int) ≤ ((iI s 20) - 1) ∧ ((iI s 20) - 1) ≤ 4 by first | exact ⟨oq_a4f22177 g3, oq_f3f8f749 b4.2⟩ | omega) ⟨by first | exact oq_c1e961c7 b4.1 | omega, by first | exact oq_dc10bb6e b4.2 | omega⟩
    have Fs5 := fm_I (x := Int32.ofInt ((iI s 20) - 1)) F (show 20 ∈ _ by decide)
    rw [← hs5] at Fs5
    have vs5 : iI s5 20 = ((iI s 20) - 1) := by rw [hs5]; exact iI_u ⟨by first | exact oq_c1e961c7 b4.1 | omega, by first | exact oq_dc10bb6e b4.2 | omega⟩
    refine z_const X (show cdA 41 19 = some (.iconst 0, 1, 0, 0, 0) from rfl) ?_
    refine z_store_n X (lv' := [(1, .int (Int32.ofInt 0)), (0, .ref (A 25))]) (show cdA 41 20 = some (.istore_n 1, 1, 0, 0, 0) from rfl) (by decide) (fun _ h => h) ?_
    refine WS_lv (lv := [(0, .ref (A 25)), (1, .int (Int32.ofInt 0))]) (List.forall_mem_cons.mpr ⟨(List.Mem.tail _ (List.Mem.head _)), (List.forall_mem_cons.mpr ⟨(List.Mem.head _), (fun q h => absurd h List.not_mem_nil)⟩)⟩) ?_
    refine L21 ((128 - 0 : Int).toNat + 1) s5 0 Is5 Fs5 (by first | exact ⟨by decide, by decide, oq_a1517f2e g3, vs5⟩ | omega) (Nat.lt_succ_self _) ?_
    intro s6 x7 Is6 Fs6 hs6
    have b8 : (0 : Int) ≤ iI s6 20 ∧ iI s6 20 ≤ 4 := Is6.1 20
    refine z_aload_n X (x := A 25) (show cdA 41 55 = some (.aload_n 0, 1, 0, 0, 0) from rfl) (List.Mem.head _) ?_
    refine z_getI X 25 (show cdA 41 56 = some (.getfield 79, 3, 3, 5, 0) from rfl) (by decide) rfl rfl ?_
    have b9 : (0 : Int) ≤ iI s6 20 ∧ iI s6 20 ≤ 4 := Is6.1 20
    exact w_iret X.1 q hRt rfl (ax_d X (show cdA 41 59 = some (.ireturn, 1, 0, 0, 0) from rfl)) (Nat.zero_le _) (Nat.zero_le _) ⟨_, rfl, Is6, Fs6, (iI s6 20), rfl, (rng_to _), by first | exact Or.inl (And.intro (hs6.2.2.1) (And.intro (hs6.2.2.2) (by decide))) | omega⟩
  ·
    refine z_const X (show cdA 41 7 = some (.iconst (-1), 1, 0, 0, 0) from rfl) ?_
    exact w_iret X.1 q hRt rfl (ax_d X (show cdA 41 8 = some (.ireturn, 1, 0, 0, 0) from rfl)) (Nat.zero_le _) (Nat.zero_le _) ⟨_, rfl, I, F, (-1), rfl, (by decide), by first | exact Or.inr (And.intro (oq_17e029b3 g3 b2.1) (And.intro (oq_17e029b3 g3 b2.1) (by decide))) | omega⟩
set_option maxRecDepth 4000 in
theorem c7_beginOf_19 (G : GX l s0 D tys a0 dT) (I : Bd s) {x : Int} (p0 : 0 ≤ x ∧ x ≤ 7) : CT l s0 D A dT 70 (rmN 70) [.ref (A 19), .int (Int32.ofInt x)] s (fun o t => Bd t ∧ Fm [] [] s t ∧ ∃ e, o = .inl (some (.int (Int32.ofInt e))) ∧ rng e ∧ (0 ≤ e ∧ e ≤ 200)) := by
  refine ct_ofX G (by decide) (Nat.le_of_ble_eq_true rfl) (fun k X E ET hRt hXt q => ?_)
  show WS k 0 [(0, .ref (A 19)), (1, .int (Int32.ofInt x))] [] _ 0 0
  have F : Fm [] [] s s := fm_rf _ _ s
  refine z_load_n X (x := x) (show cdA 70 0 = some (.iload_n 1, 1, 0, 0, 0) from rfl) (List.Mem.tail _ (List.Mem.head _)) ?_
  have N1 : ∀ e2 : Int, (((x ≤ 0) ∧ e2 = 0) ∨ ((0 < x) ∧ ((0 : Int) ≤ iC s 17 ((x - 1)).toNat ∧ iC s 17 ((x - 1)).toNat ≤ 200) ∧ e2 = (iC s 17 ((x - 1)).toNat))) → WS k 16 [(0, .ref (A 19)), (1, .int (Int32.ofInt x))] [.int (Int32.ofInt e2)] (Wd A dT s) 0 0 := by
    intro e2 he2
    exact w_iret X.1 q hRt rfl (ax_d X (show cdA 70 16 = some (.ireturn, 1, 0, 0, 0) from rfl)) (Nat.zero_le _) (Nat.zero_le _) ⟨_, rfl, I, F, e2, rfl, ⟨by first | exact oq_61627b74 he2 | omega, by first | exact oq_05a03612 he2 | omega⟩, by first | exact ⟨oq_53e9b233 he2, oq_588c1b12 he2⟩ | omega⟩
  refine z_if_le X (t := 15) (show cdA 70 1 = some (.ifCond .le 14, 3, 5, 0, 0) from rfl) (by decide) ⟨by first | exact oq_fa4e5087 p0.1 | omega, by first | exact oq_0e78ca7d p0.2 | omega⟩ (fun g3 => ?_) (fun g3 => ?_)
  ·
    refine z_const X (show cdA 70 15 = some (.iconst 0, 1, 0, 0, 0) from rfl) ?_
    exact N1 _ (Or.inl ⟨g3, rfl⟩)
  ·
    refine z_aload_n X (x := A 19) (show cdA 70 4 = some (.aload_n 0, 1, 0, 0, 0) from rfl) (List.Mem.head _) ?_
    refine s_getR X 19 (show cdA 70 5 = some (.getfield 15, 3, 7, 2, 0) from rfl) (by decide) rfl rfl ?_
    refine z_load_n X (x := x) (show cdA 70 8 = some (.iload_n 1, 1, 0, 0, 0) from rfl) (List.Mem.tail _ (List.Mem.head _)) ?_
    refine z_const X (show cdA 70 9 = some (.iconst 1, 1, 0, 0, 0) from rfl) ?_
    refine z_sub X (show cdA 70 10 = some (.isub, 1, 0, 0, 0) from rfl) ?_
    refine z_ald X 21 (show cdA 70 11 = some (.iaload, 1, 0, 0, 0) from rfl) (by decide) rfl (by first | exact oq_a4f22177 g3 | omega) (show (x - 1) < 8 by first | exact oq_4a37b086 p0.2 | omega) (by decide) ?_
    have b4 : (0 : Int) ≤ iC s 17 ((x - 1)).toNat ∧ iC s 17 ((x - 1)).toNat ≤ 200 := I.2 17 _ (show ((x - 1)).toNat < 8 by first | exact oq_b631dd75 p0.2 | omega)
    refine z_goto X (t := 16) (show cdA 70 12 = some (.goto 4, 3, 0, 0, 0) from rfl) (by decide) ?_
    exact N1 _ (Or.inr (⟨g3, b4, rfl⟩))
set_option maxRecDepth 4000 in
theorem c7_joined (G : GX l s0 D tys a0 dT) (I : Bd s) {x y z : Int} (p0 : rng x) (p1 : rng y) (p2 : rng z) : CT l s0 D A dT 85 (rmN 85) [.int (Int32.ofInt x), .int (Int32.ofInt y), .int (Int32.ofInt z)] s (fun o t => s = t ∧ ∃ e, o = .inl (some (.int (Int32.ofInt e))) ∧ rng e ∧ (rng e)) := by
  refine ct_ofX G (by decide) (Nat.le_of_ble_eq_true rfl) (fun k X E ET hRt hXt q => ?_)
  show WS k 0 [(0, .int (Int32.ofInt x)), (1, .int (Int32.ofInt y)), (2, .int (Int32.ofInt z))] [] _ 0 0
  have F : Fm [] [] s s := fm_rf _ _ s
  refine z_load_n X (x := x) (show cdA 85 0 = some (.iload_n 0, 1, 0, 0, 0) from rfl) (List.Mem.head _) ?_
  rcases (show x = (-18) ∨ x = (-17) ∨ x = (-16) ∨ x = (-15) ∨ x = (-14) ∨ x = (-13) ∨ x = (-12) ∨ x = (-11) ∨ x = (-10) ∨ x = (-9) ∨ (x < (-18) ∨ (-9) < x) by omega) with gs | gs | gs | gs | gs | gs | gs | gs | gs | gs | gs
  ·
    rw [gs]
    refine w_tabIn X.1 (dflt := 138) (lo := (-18)) (hi := (-9)) (offs := #[134, 123, 112, 101, 90, 79, 67, 63, 59, 55]) (len := 55) (off := 134) (t := 135) (ax_d X (show cdA 85 1 = some (.tableswitch 138 (-18) (-9) #[134, 123, 112, 101, 90, 79, 67, 63, 59, 55], 55, 0, 0, 0) from rfl)) (by decide) (by decide) (by decide) (by decide) ?_
    refine z_load_n X (x := y) (show cdA 85 135 = some (.iload_n 1, 1, 0, 0, 0) from rfl) (List.Mem.tail _ (List.Mem.head _)) ?_
    refine z_load_n X (x := z) (show cdA 85 136 = some (.iload_n 2, 1, 0, 0, 0) from rfl) (List.Mem.tail _ (List.Mem.tail _ (List.Mem.head _))) ?_
    refine z_band X (show cdA 85 137 = some (.iand, 1, 0, 0, 0) from rfl) ?_
    refine z_any (fun y1 hy1 => ?_)
    exact w_iret X.1 q hRt rfl (ax_d X (show cdA 85 138 = some (.ireturn, 1, 0, 0, 0) from rfl)) (Nat.zero_le _) (Nat.zero_le _) ⟨_, rfl, rfl, y1, rfl, hy1, by first | exact ⟨hy1.1, hy1.2⟩ | omega⟩
  ·
    rw [gs]
    refine w_tabIn X.1 (dflt := 138) (lo := (-18)) (hi := (-9)) (offs := #[134, 123, 112, 101, 90, 79, 67, 63, 59, 55]) (len := 55) (off := 123) (t := 124) (ax_d X (show cdA 85 1 = some (.tableswitch 138 (-18) (-9) #[134, 123, 112, 101, 90, 79, 67, 63, 59, 55], 55, 0, 0, 0) from rfl)) (by decide) (by decide) (by decide) (by decide) ?_
    refine z_load_n X (x := y) (show cdA 85 124 = some (.iload_n 1, 1, 0, 0, 0) from rfl) (List.Mem.tail _ (List.Mem.head _)) ?_
    refine z_load_n X (x := z) (show cdA 85 125 = some (.iload_n 2, 1, 0, 0, 0) from rfl) (List.Mem.tail _ (List.Mem.tail _ (List.Mem.head _))) ?_
    have N2 : ∀ e3 : Int, (((y ≠ z) ∧ e3 = 0) ∨ ((y = z) ∧ e3 = 1)) → WS k 134 [(0, .int (Int32.ofInt (-17))), (1, .int (Int32.ofInt y)), (2, .int (Int32.ofInt z))] [.int (Int32.ofInt e3)] (Wd A dT s) 0 0 := by
      intro e3 he3
      have re3 : 0 ≤ e3 ∧ e3 ≤ 1 := by omega
      exact w_iret X.1 q hRt rfl (ax_d X (show cdA 85 134 = some (.ireturn, 1, 0, 0, 0) from rfl)) (Nat.zero_le _) (Nat.zero_le _) ⟨_, rfl, rfl, e3, rfl, ⟨by first | exact oq_fa4e5087 re3.1 | omega, by first | exact oq_22e1e6b0 re3.2 | omega⟩, by first | exact ⟨oq_fa4e5087 re3.1, oq_22e1e6b0 re3.2⟩ | omega⟩
    refine z_icmp_ne X (t := 133) (show cdA 85 126 = some (.if_icmp .ne 7, 3, 1, 0, 0) from rfl) (by decide) ⟨by first | exact p1.1 | omega, by first | exact p1.2 | omega⟩ ⟨by first | exact p2.1 | omega, by first | exact p2.2 | omega⟩ (fun g4 => ?_) (fun g4 => ?_)
    ·
      refine z_const X (show cdA 85 133 = some (.iconst 0, 1, 0, 0, 0) from rfl) ?_
      exact N2 _ (Or.inl ⟨g4, rfl⟩)
    ·
      refine z_const X (show cdA 85 129 = some (.iconst 1, 1, 0, 0, 0) from rfl) ?_
      refine z_goto X (t := 134) (show cdA 85 130 = some (.goto 4, 3, 0, 0, 0) from rfl) (by decide) ?_
      exact N2 _ (Or.inr (⟨g4, rfl⟩))
  ·
    rw [gs]
    refine w_tabIn X.1 (dflt := 138) (lo := (-18)) (hi := (-9)) (offs := #[134, 123, 112, 101, 90, 79, 67, 63, 59, 55]) (len := 55) (off := 112) (t := 113) (ax_d X (show cdA 85 1 = some (.tableswitch 138 (-18) (-9) #[134, 123, 112, 101, 90, 79, 67, 63, 59, 55], 55, 0, 0, 0) from rfl)) (by decide) (by decide) (by decide) (by decide) ?_
    refine z_load_n X (x := y) (show cdA 85 113 = some (.iload_n 1, 1, 0, 0, 0) from rfl) (List.Mem.tail _ (List.Mem.head _)) ?_
    refine z_load_n X (x := z) (show cdA 85 114 = some (.iload_n 2, 1, 0, 0, 0) from rfl) (List.Mem.tail _ (List.Mem.tail _ (List.Mem.head _))) ?_
    have N5 : ∀ e6 : Int, (((y ≤ z) ∧ e6 = 0) ∨ ((z < y) ∧ e6 = 1)) → WS k 123 [(0, .int (Int32.ofInt (-16))), (1, .int (Int32.ofInt y)), (2, .int (Int32.ofInt z))] [.int (Int32.ofInt e6)] (Wd A dT s) 0 0 := by
      intro e6 he6
      have re6 : 0 ≤ e6 ∧ e6 ≤ 1 := by omega
      exact w_iret X.1 q hRt rfl (ax_d X (show cdA 85 123 = some (.ireturn, 1, 0, 0, 0) from rfl)) (Nat.zero_le _) (Nat.zero_le _) ⟨_, rfl, rfl, e6, rfl, ⟨by first | exact oq_fa4e5087 re6.1 | omega, by first | exact oq_22e1e6b0 re6.2 | omega⟩, by first | exact ⟨oq_fa4e5087 re6.1, oq_22e1e6b0 re6.2⟩ | omega⟩
    refine z_icmp_le X (t := 122) (show cdA 85 115 = some (.if_icmp .le 7, 3, 5, 0, 0) from rfl) (by decide) ⟨by first | exact p1.1 | omega, by first | exact p1.2 | omega⟩ ⟨by first | exact p2.1 | omega, by first | exact p2.2 | omega⟩ (fun g7 => ?_) (fun g7 => ?_)
    ·
      refine z_const X (show cdA 85 122 = some (.iconst 0, 1, 0, 0, 0) from rfl) ?_
      exact N5 _ (Or.inl ⟨g7, rfl⟩)
    ·
      refine z_const X (show cdA 85 118 = some (.iconst 1, 1, 0, 0, 0) from rfl) ?_
      refine z_goto X (t := 123) (show cdA 85 119 = some (.goto 4, 3, 0, 0, 0) from rfl) (by decide) ?_
      exact N5 _ (Or.inr (⟨g7, rfl⟩))
  ·
    rw [gs]
    refine w_tabIn X.1 (dflt := 138) (lo := (-18)) (hi := (-9)) (offs := #[134, 123, 112, 101, 90, 79, 67, 63, 59, 55]) (len := 55) (off := 101) (t := 102) (ax_d X (show cdA 85 1 = some (.tableswitch 138 (-18) (-9) #[134, 123, 112, 101, 90, 79, 67, 63, 59, 55], 55, 0, 0, 0) from rfl)) (by decide) (by decide) (by decide) (by decide) ?_
    refine z_load_n X (x := y) (show cdA 85 102 = some (.iload_n 1, 1, 0, 0, 0) from rfl) (List.Mem.tail _ (List.Mem.head _)) ?_
    refine z_load_n X (x := z) (show cdA 85 103 = some (.iload_n 2, 1, 0, 0, 0) from rfl) (List.Mem.tail _ (List.Mem.tail _ (List.Mem.head _))) ?_
    have N8 : ∀ e9 : Int, (((z ≤ y) ∧ e9 = 0) ∨ ((y < z) ∧ e9 = 1)) → WS k 112 [(0, .int (Int32.ofInt (-15))), (1, .int (Int32.ofInt y)), (2, .int (Int32.ofInt z))] [.int (Int32.ofInt e9)] (Wd A dT s) 0 0 := by
      intro e9 he9
      have re9 : 0 ≤ e9 ∧ e9 ≤ 1 := by omega
      exact w_iret X.1 q hRt rfl (ax_d X (show cdA 85 112 = some (.ireturn, 1, 0, 0, 0) from rfl)) (Nat.zero_le _) (Nat.zero_le _) ⟨_, rfl, rfl, e9, rfl, ⟨by first | exact oq_fa4e5087 re9.1 | omega, by first | exact oq_22e1e6b0 re9.2 | omega⟩, by first | exact ⟨oq_fa4e5087 re9.1, oq_22e1e6b0 re9.2⟩ | omega⟩
    refine z_icmp_ge X (t := 111) (show cdA 85 104 = some (.if_icmp .ge 7, 3, 3, 0, 0) from rfl) (by decide) ⟨by first | exact p1.1 | omega, by first | exact p1.2 | omega⟩ ⟨by first | exact p2.1 | omega, by first | exact p2.2 | omega⟩ (fun g10 => ?_) (fun g10 => ?_)
    ·
      refine z_const X (show cdA 85 111 = some (.iconst 0, 1, 0, 0, 0) from rfl) ?_
      exact N8 _ (Or.inl ⟨g10, rfl⟩)
    ·
      refine z_const X (show cdA 85 107 = some (.iconst 1, 1, 0, 0, 0) from rfl) ?_
      refine z_goto X (t := 112) (show cdA 85 108 = some (.goto 4, 3, 0, 0, 0) from rfl) (by decide) ?_
      exact N8 _ (Or.inr (⟨g10, rfl⟩))
  ·
    rw [gs]
    refine w_tabIn X.1 (dflt := 138) (lo := (-18)) (hi := (-9)) (offs := #[134, 123, 112, 101, 90, 79, 67, 63, 59, 55]) (len := 55) (off := 90) (t := 91) (ax_d X (show cdA 85 1 = some (.tableswitch 138 (-18) (-9) #[134, 123, 112, 101, 90, 79, 67, 63, 59, 55], 55, 0, 0, 0) from rfl)) (by decide) (by decide) (by decide) (by decide) ?_
    refine z_load_n X (x := y) (show cdA 85 91 = some (.iload_n 1, 1, 0, 0, 0) from rfl) (List.Mem.tail _ (List.Mem.head _)) ?_
    refine z_load_n X (x := z) (show cdA 85 92 = some (.iload_n 2, 1, 0, 0, 0) from rfl) (List.Mem.tail _ (List.Mem.tail _ (List.Mem.head _))) ?_
    have N11 : ∀ e12 : Int, (((y ≤ z) ∧ e12 = z) ∨ ((z < y) ∧ e12 = y)) → WS k 101 [(0, .int (Int32.ofInt (-14))), (1, .int (Int32.ofInt y)), (2, .int (Int32.ofInt z))] [.int (Int32.ofInt e12)] (Wd A dT s) 0 0 := by
      intro e12 he12
      exact w_iret X.1 q hRt rfl (ax_d X (show cdA 85 101 = some (.ireturn, 1, 0, 0, 0) from rfl)) (Nat.zero_le _) (Nat.zero_le _) ⟨_, rfl, rfl, e12, rfl, ⟨by first | exact oq_0a6073ad he12 p2.1 | omega, by first | exact oq_8bacbe60 he12 p2.2 p1.2 | omega⟩, by first | exact ⟨oq_0a6073ad he12 p2.1, oq_8bacbe60 he12 p2.2 p1.2⟩ | omega⟩
    refine z_icmp_le X (t := 100) (show cdA 85 93 = some (.if_icmp .le 7, 3, 5, 0, 0) from rfl) (by decide) ⟨by first | exact p1.1 | omega, by first | exact p1.2 | omega⟩ ⟨by first | exact p2.1 | omega, by first | exact p2.2 | omega⟩ (fun g13 => ?_) (fun g13 => ?_)
    ·
      refine z_load_n X (x := z) (show cdA 85 100 = some (.iload_n 2, 1, 0, 0, 0) from rfl) (List.Mem.tail _ (List.Mem.tail _ (List.Mem.head _))) ?_
      exact N11 _ (Or.inl ⟨g13, rfl⟩)
    ·
      refine z_load_n X (x := y) (show cdA 85 96 = some (.iload_n 1, 1, 0, 0, 0) from rfl) (List.Mem.tail _ (List.Mem.head _)) ?_
      refine z_goto X (t := 101) (show cdA 85 97 = some (.goto 4, 3, 0, 0, 0) from rfl) (by decide) ?_
      exact N11 _ (Or.inr (⟨g13, rfl⟩))
  ·
    rw [gs]
    refine w_tabIn X.1 (dflt := 138) (lo := (-18)) (hi := (-9)) (offs := #[134, 123, 112, 101, 90, 79, 67, 63, 59, 55]) (len := 55) (off := 79) (t := 80) (ax_d X (show cdA 85 1 = some (.tableswitch 138 (-18) (-9) #[134, 123, 112, 101, 90, 79, 67, 63, 59, 55], 55, 0, 0, 0) from rfl)) (by decide) (by decide) (by decide) (by decide) ?_
    refine z_load_n X (x := y) (show cdA 85 80 = some (.iload_n 1, 1, 0, 0, 0) from rfl) (List.Mem.tail _ (List.Mem.head _)) ?_
    refine z_load_n X (x := z) (show cdA 85 81 = some (.iload_n 2, 1, 0, 0, 0) from rfl) (List.Mem.tail _ (List.Mem.tail _ (List.Mem.head _))) ?_
    have N14 : ∀ e15 : Int, (((z ≤ y) ∧ e15 = z) ∨ ((y < z) ∧ e15 = y)) → WS k 90 [(0, .int (Int32.ofInt (-13))), (1, .int (Int32.ofInt y)), (2, .int (Int32.ofInt z))] [.int (Int32.ofInt e15)] (Wd A dT s) 0 0 := by
      intro e15 he15
      exact w_iret X.1 q hRt rfl (ax_d X (show cdA 85 90 = some (.ireturn, 1, 0, 0, 0) from rfl)) (Nat.zero_le _) (Nat.zero_le _) ⟨_, rfl, rfl, e15, rfl, ⟨by first | exact oq_e6eaf040 he15 p2.1 p1.1 | omega, by first | exact oq_b2278a08 he15 p2.2 | omega⟩, by first | exact ⟨oq_e6eaf040 he15 p2.1 p1.1, oq_b2278a08 he15 p2.2⟩ | omega⟩
    refine z_icmp_ge X (t := 89) (show cdA 85 82 = some (.if_icmp .ge 7, 3, 3, 0, 0) from rfl) (by decide) ⟨by first | exact p1.1 | omega, by first | exact p1.2 | omega⟩ ⟨by first | exact p2.1 | omega, by first | exact p2.2 | omega⟩ (fun g16 => ?_) (fun g16 => ?_)
    ·
      refine z_load_n X (x := z) (show cdA 85 89 = some (.iload_n 2, 1, 0, 0, 0) from rfl) (List.Mem.tail _ (List.Mem.tail _ (List.Mem.head _))) ?_
      exact N14 _ (Or.inl ⟨g16, rfl⟩)
    ·
      refine z_load_n X (x := y) (show cdA 85 85 = some (.iload_n 1, 1, 0, 0, 0) from rfl) (List.Mem.tail _ (List.Mem.head _)) ?_
      refine z_goto X (t := 90) (show cdA 85 86 = some (.goto 4, 3, 0, 0, 0) from rfl) (by decide) ?_
      exact N14 _ (Or.inr (⟨g16, rfl⟩))
  ·
    rw [gs]
    refine w_tabIn X.1 (dflt := 138) (lo := (-18)) (hi := (-9)) (offs := #[134, 123, 112, 101, 90, 79, 67, 63, 59, 55]) (len := 55) (off := 67) (t := 68) (ax_d X (show cdA 85 1 = some (.tableswitch 138 (-18) (-9) #[134, 123, 112, 101, 90, 79, 67, 63, 59, 55], 55, 0, 0, 0) from rfl)) (by decide) (by decide) (by decide) (by decide) ?_
    refine z_load_n X (x := z) (show cdA 85 68 = some (.iload_n 2, 1, 0, 0, 0) from rfl) (List.Mem.tail _ (List.Mem.tail _ (List.Mem.head _))) ?_
    refine z_if_ne X (t := 76) (show cdA 85 69 = some (.ifCond .ne 7, 3, 1, 0, 0) from rfl) (by decide) ⟨by first | exact p2.1 | omega, by first | exact p2.2 | omega⟩ (fun g17 => ?_) (fun g17 => ?_)
    ·
      refine z_load_n X (x := y) (show cdA 85 76 = some (.iload_n 1, 1, 0, 0, 0) from rfl) (List.Mem.tail _ (List.Mem.head _)) ?_
      refine z_load_n X (x := z) (show cdA 85 77 = some (.iload_n 2, 1, 0, 0, 0) from rfl) (List.Mem.tail _ (List.Mem.tail _ (List.Mem.head _))) ?_
      refine z_divany X (show cdA 85 78 = some (.idiv, 1, 0, 0, 0) from rfl) (by omega) ⟨by omega, by omega⟩ (fun y18 hy18 => ?_)
      exact w_iret X.1 q hRt rfl (ax_d X (show cdA 85 79 = some (.ireturn, 1, 0, 0, 0) from rfl)) (Nat.zero_le _) (Nat.zero_le _) ⟨_, rfl, rfl, y18, rfl, ⟨by omega, by omega⟩, by omega⟩
    ·
      refine z_const X (show cdA 85 72 = some (.iconst 0, 1, 0, 0, 0) from rfl) ?_
      refine z_goto X (t := 79) (show cdA 85 73 = some (.goto 6, 3, 0, 0, 0) from rfl) (by decide) ?_
      exact w_iret X.1 q hRt rfl (ax_d X (show cdA 85 79 = some (.ireturn, 1, 0, 0, 0) from rfl)) (Nat.zero_le _) (Nat.zero_le _) ⟨_, rfl, rfl, 0, rfl, (by decide), by first | exact ⟨by decide, by decide⟩ | omega⟩
  ·
    rw [gs]
    refine w_tabIn X.1 (dflt := 138) (lo := (-18)) (hi := (-9)) (offs := #[134, 123, 112, 101, 90, 79, 67, 63, 59, 55]) (len := 55) (off := 63) (t := 64) (ax_d X (show cdA 85 1 = some (.tableswitch 138 (-18) (-9) #[134, 123, 112, 101, 90, 79, 67, 63, 59, 55], 55, 0, 0, 0) from rfl)) (by decide) (by decide) (by decide) (by decide) ?_
    refine z_load_n X (x := y) (show cdA 85 64 = some (.iload_n 1, 1, 0, 0, 0) from rfl) (List.Mem.tail _ (List.Mem.head _)) ?_
    refine z_load_n X (x := z) (show cdA 85 65 = some (.iload_n 2, 1, 0, 0, 0) from rfl) (List.Mem.tail _ (List.Mem.tail _ (List.Mem.head _))) ?_
    refine z_mul X (show cdA 85 66 = some (.imul, 1, 0, 0, 0) from rfl) ?_
    refine z_any (fun y19 hy19 => ?_)
    exact w_iret X.1 q hRt rfl (ax_d X (show cdA 85 67 = some (.ireturn, 1, 0, 0, 0) from rfl)) (Nat.zero_le _) (Nat.zero_le _) ⟨_, rfl, rfl, y19, rfl, hy19, by first | exact ⟨hy19.1, hy19.2⟩ | omega⟩
  ·
    rw [gs]
    refine w_tabIn X.1 (dflt := 138) (lo := (-18)) (hi := (-9)) (offs := #[134, 123, 112, 101, 90, 79, 67, 63, 59, 55]) (len := 55) (off := 59) (t := 60) (ax_d X (show cdA 85 1 = some (.tableswitch 138 (-18) (-9) #[134, 123, 112, 101, 90, 79, 67, 63, 59, 55], 55, 0, 0, 0) from rfl)) (by decide) (by decide) (by decide) (by decide) ?_
    refine z_load_n X (x := y) (show cdA 85 60 = some (.iload_n 1, 1, 0, 0, 0) from rfl) (List.Mem.tail _ (List.Mem.head _)) ?_
    refine z_load_n X (x := z) (show cdA 85 61 = some (.iload_n 2, 1, 0, 0, 0) from rfl) (List.Mem.tail _ (List.Mem.tail _ (List.Mem.head _))) ?_
    refine z_sub X (show cdA 85 62 = some (.isub, 1, 0, 0, 0) from rfl) ?_
    refine z_any (fun y20 hy20 => ?_)
    exact w_iret X.1 q hRt rfl (ax_d X (show cdA 85 63 = some (.ireturn, 1, 0, 0, 0) from rfl)) (Nat.zero_le _) (Nat.zero_le _) ⟨_, rfl, rfl, y20, rfl, hy20, by first | exact ⟨hy20.1, hy20.2⟩ | omega⟩
  ·
    rw [gs]
    refine w_tabIn X.1 (dflt := 138) (lo := (-18)) (hi := (-9)) (offs := #[134, 123, 112, 101, 90, 79, 67, 63, 59, 55]) (len := 55) (off := 55) (t := 56) (ax_d X (show cdA 85 1 = some (.tableswitch 138 (-18) (-9) #[134, 123, 112, 101, 90, 79, 67, 63, 59, 55], 55, 0, 0, 0) from rfl)) (by decide) (by decide) (by decide) (by decide) ?_
    refine z_load_n X (x := y) (show cdA 85 56 = some (.iload_n 1, 1, 0, 0, 0) from rfl) (List.Mem.tail _ (List.Mem.head _)) ?_
    refine z_load_n X (x := z) (show cdA 85 57 = some (.iload_n 2, 1, 0, 0, 0) from rfl) (List.Mem.tail _ (List.Mem.tail _ (List.Mem.head _))) ?_
    refine z_add X (show cdA 85 58 = some (.iadd, 1, 0, 0, 0) from rfl) ?_
    refine z_any (fun y21 hy21 => ?_)
    exact w_iret X.1 q hRt rfl (ax_d X (show cdA 85 59 = some (.ireturn, 1, 0, 0, 0) from rfl)) (Nat.zero_le _) (Nat.zero_le _) ⟨_, rfl, rfl, y21, rfl, hy21, by first | exact ⟨hy21.1, hy21.2⟩ | omega⟩
  ·
    refine w_tabOut X.1 (dflt := 138) (lo := (-18)) (hi := (-9)) (offs := #[134, 123, 112, 101, 90, 79, 67, 63, 59, 55]) (len := 55) (t := 139) (ax_d X (show cdA 85 1 = some (.tableswitch 138 (-18) (-9) #[134, 123, 112, 101, 90, 79, 67, 63, 59, 55], 55, 0, 0, 0) from rfl)) (by rw [zi ⟨by omega, by omega⟩]; omega) (by decide) ?_
    refine z_load_n X (x := y) (show cdA 85 139 = some (.iload_n 1, 1, 0, 0, 0) from rfl) (List.Mem.tail _ (List.Mem.head _)) ?_
    refine z_load_n X (x := z) (show cdA 85 140 = some (.iload_n 2, 1, 0, 0, 0) from rfl) (List.Mem.tail _ (List.Mem.tail _ (List.Mem.head _))) ?_
    refine z_bor X (show cdA 85 141 = some (.ior, 1, 0, 0, 0) from rfl) ?_
    refine z_any (fun y22 hy22 => ?_)
    exact w_iret X.1 q hRt rfl (ax_d X (show cdA 85 142 = some (.ireturn, 1, 0, 0, 0) from rfl)) (Nat.zero_le _) (Nat.zero_le _) ⟨_, rfl, rfl, y22, rfl, hy22, by first | exact ⟨hy22.1, hy22.2⟩ | omega⟩
end M73
