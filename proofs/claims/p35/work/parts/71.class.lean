/-! The class: small methods -/
section M71
variable {l : Launch} {s0 : State} {D : va_G} {tys : List (ClassId × FieldType)} {a0 : Array Value} {A : Nat → Nat} {dT : Nat → ClassId} {s : PS}
set_option maxRecDepth 4000 in
theorem j_bitL (G : GX l s0 D tys a0 dT) (I : Bd s) {jj : Int64}  : CT l s0 D A dT 298 (rmN 298) [.long jj] s (fun o t => Bd t ∧ Fm [] [] s t ∧ ∃ e, o = .inl (some (.int (Int32.ofInt e))) ∧ rng e ∧ (True)) := by
  refine ct_ofX G (by decide) (Nat.le_of_ble_eq_true rfl) (fun k X E ET hRt hXt q => ?_)
  show WS k 0 [(0, .long jj)] [] _ 0 0
  have F : Fm [] [] s s := fm_rf _ _ s
  refine w_lload_n X.1 (ax_d X (show cdA 298 0 = some (.lload_n 0, 1, 0, 0, 0) from rfl)) (x := jj) (List.Mem.head _) ?_
  refine w_lload_n X.1 (ax_d X (show cdA 298 1 = some (.lload_n 0, 1, 0, 0, 0) from rfl)) (x := jj) (List.Mem.head _) ?_
  refine z_const X (show cdA 298 2 = some (.iconst 1, 1, 0, 0, 0) from rfl) ?_
  refine w_lushr X.1 (ax_d X (show cdA 298 3 = some (.lushr, 1, 0, 0, 0) from rfl)) ?_
  refine z_anyJ (fun j1 => ?_)
  refine z_ldc2 X (show cdA 298 4 = some (.ldc2_w 314, 3, 6148914691236517205, 0, 0) from rfl) (fun j2 => ?_)
  refine w_land X.1 (ax_d X (show cdA 298 7 = some (.land, 1, 0, 0, 0) from rfl)) ?_
  refine z_anyJ (fun j3 => ?_)
  refine w_lsub X.1 (ax_d X (show cdA 298 8 = some (.lsub, 1, 0, 0, 0) from rfl)) ?_
  refine z_anyJ (fun j4 => ?_)
  refine w_lstore_n X.1 (lv' := [(0, .long j4)]) (ax_d X (show cdA 298 9 = some (.lstore_n 0, 1, 0, 0, 0) from rfl)) (by rw [X.2.1.2.2]; decide) (fun _ h => h) ?_
  refine w_lload_n X.1 (ax_d X (show cdA 298 10 = some (.lload_n 0, 1, 0, 0, 0) from rfl)) (x := j4) (List.Mem.head _) ?_
  refine z_ldc2 X (show cdA 298 11 = some (.ldc2_w 316, 3, 3689348814741910323, 0, 0) from rfl) (fun j5 => ?_)
  refine w_land X.1 (ax_d X (show cdA 298 14 = some (.land, 1, 0, 0, 0) from rfl)) ?_
  refine z_anyJ (fun j6 => ?_)
  refine w_lload_n X.1 (ax_d X (show cdA 298 15 = some (.lload_n 0, 1, 0, 0, 0) from rfl)) (x := j4) (List.Mem.head _) ?_
  refine z_const X (show cdA 298 16 = some (.iconst 2, 1, 0, 0, 0) from rfl) ?_
  refine w_lushr X.1 (ax_d X (show cdA 298 17 = some (.lushr, 1, 0, 0, 0) from rfl)) ?_
  refine z_anyJ (fun j7 => ?_)
  refine z_ldc2 X (show cdA 298 18 = some (.ldc2_w 316, 3, 3689348814741910323, 0, 0) from rfl) (fun j8 => ?_)
  refine w_land X.1 (ax_d X (show cdA 298 21 = some (.land, 1, 0, 0, 0) from rfl)) ?_
  refine z_anyJ (fun j9 => ?_)
  refine w_ladd X.1 (ax_d X (show cdA 298 22 = some (.ladd, 1, 0, 0, 0) from rfl)) ?_
  refine z_anyJ (fun j10 => ?_)
  refine w_lstore_n X.1 (lv' := [(0, .long j10)]) (ax_d X (show cdA 298 23 = some (.lstore_n 0, 1, 0, 0, 0) from rfl)) (by rw [X.2.1.2.2]; decide) (fun _ h => h) ?_
  refine w_lload_n X.1 (ax_d X (show cdA 298 24 = some (.lload_n 0, 1, 0, 0, 0) from rfl)) (x := j10) (List.Mem.head _) ?_
  refine w_lload_n X.1 (ax_d X (show cdA 298 25 = some (.lload_n 0, 1, 0, 0, 0) from rfl)) (x := j10) (List.Mem.head _) ?_
  refine z_const X (show cdA 298 26 = some (.iconst 4, 1, 0, 0, 0) from rfl) ?_
  refine w_lushr X.1 (ax_d X (show cdA 298 27 = some (.lushr, 1, 0, 0, 0) from rfl)) ?_
  refine z_anyJ (fun j11 => ?_)
  refine w_ladd X.1 (ax_d X (show cdA 298 28 = some (.ladd, 1, 0, 0, 0) from rfl)) ?_
  refine z_anyJ (fun j12 => ?_)
  refine z_ldc2 X (show cdA 298 29 = some (.ldc2_w 318, 3, 1085102592571150095, 0, 0) from rfl) (fun j13 => ?_)
  refine w_land X.1 (ax_d X (show cdA 298 32 = some (.land, 1, 0, 0, 0) from rfl)) ?_
  refine z_anyJ (fun j14 => ?_)
  refine w_lstore_n X.1 (lv' := [(0, .long j14)]) (ax_d X (show cdA 298 33 = some (.lstore_n 0, 1, 0, 0, 0) from rfl)) (by rw [X.2.1.2.2]; decide) (fun _ h => h) ?_
  refine w_lload_n X.1 (ax_d X (show cdA 298 34 = some (.lload_n 0, 1, 0, 0, 0) from rfl)) (x := j14) (List.Mem.head _) ?_
  refine w_lload_n X.1 (ax_d X (show cdA 298 35 = some (.lload_n 0, 1, 0, 0, 0) from rfl)) (x := j14) (List.Mem.head _) ?_
  refine z_bipush X (show cdA 298 36 = some (.bipush 8, 2, 0, 0, 8) from rfl) ?_
  refine w_lushr X.1 (ax_d X (show cdA 298 38 = some (.lushr, 1, 0, 0, 0) from rfl)) ?_
  refine z_anyJ (fun j15 => ?_)
  refine w_ladd X.1 (ax_d X (show cdA 298 39 = some (.ladd, 1, 0, 0, 0) from rfl)) ?_
  refine z_anyJ (fun j16 => ?_)
  refine w_lstore_n X.1 (lv' := [(0, .long j16)]) (ax_d X (show cdA 298 40 = some (.lstore_n 0, 1, 0, 0, 0) from rfl)) (by rw [X.2.1.2.2]; decide) (fun _ h => h) ?_
  refine w_lload_n X.1 (ax_d X (show cdA 298 41 = some (.lload_n 0, 1, 0, 0, 0) from rfl)) (x := j16) (List.Mem.head _) ?_
  refine w_lload_n X.1 (ax_d X (show cdA 298 42 = some (.lload_n 0, 1, 0, 0, 0) from rfl)) (x := j16) (List.Mem.head _) ?_
  refine z_bipush X (show cdA 298 43 = some (.bipush 16, 2, 0, 0, 16) from rfl) ?_
  refine w_lushr X.1 (ax_d X (show cdA 298 45 = some (.lushr, 1, 0, 0, 0) from rfl)) ?_
  refine z_anyJ (fun j17 => ?_)
  refine w_ladd X.1 (ax_d X (show cdA 298 46 = some (.ladd, 1, 0, 0, 0) from rfl)) ?_
  refine z_anyJ (fun j18 => ?_)
  refine w_lstore_n X.1 (lv' := [(0, .long j18)]) (ax_d X (show cdA 298 47 = some (.lstore_n 0, 1, 0, 0, 0) from rfl)) (by rw [X.2.1.2.2]; decide) (fun _ h => h) ?_
  refine w_lload_n X.1 (ax_d X (show cdA 298 48 = some (.lload_n 0, 1, 0, 0, 0) from rfl)) (x := j18) (List.Mem.head _) ?_
  refine w_lload_n X.1 (ax_d X (show cdA 298 49 = some (.lload_n 0, 1, 0, 0, 0) from rfl)) (x := j18) (List.Mem.head _) ?_
  refine z_bipush X (show cdA 298 50 = some (.bipush 32, 2, 0, 0, 32) from rfl) ?_
  refine w_lushr X.1 (ax_d X (show cdA 298 52 = some (.lushr, 1, 0, 0, 0) from rfl)) ?_
  refine z_anyJ (fun j19 => ?_)
  refine w_ladd X.1 (ax_d X (show cdA 298 53 = some (.ladd, 1, 0, 0, 0) from rfl)) ?_
  refine z_anyJ (fun j20 => ?_)
  refine w_lstore_n X.1 (lv' := [(0, .long j20)]) (ax_d X (show cdA 298 54 = some (.lstore_n 0, 1, 0, 0, 0) from rfl)) (by rw [X.2.1.2.2]; decide) (fun _ h => h) ?_
  refine w_lload_n X.1 (ax_d X (show cdA 298 55 = some (.lload_n 0, 1, 0, 0, 0) from rfl)) (x := j20) (List.Mem.head _) ?_
  refine w_l2i X.1 (ax_d X (show cdA 298 56 = some (.l2i, 1, 0, 0, 0) from rfl)) ?_
  refine z_any (fun y21 hy21 => ?_)
  refine z_bipush X (show cdA 298 57 = some (.bipush 127, 2, 0, 0, 127) from rfl) ?_
  refine z_andm X (show cdA 298 59 = some (.iand, 1, 0, 0, 0) from rfl) (by decide) (by decide) (fun y22 hy22 gy22 => ?_)
  exact w_iret X.1 q hRt rfl (ax_d X (show cdA 298 60 = some (.ireturn, 1, 0, 0, 0) from rfl)) (Nat.zero_le _) (Nat.zero_le _) ⟨_, rfl, I, F, y22, rfl, ⟨by first | exact oq_fa4e5087 hy22 | omega, by first | exact oq_07d346ce gy22 | omega⟩, trivial⟩
set_option maxRecDepth 4000 in
theorem j_lowL (G : GX l s0 D tys a0 dT) (I : Bd s) {jj : Int64}  : CT l s0 D A dT 297 (rmN 297) [.long jj] s (fun o t => Bd t ∧ Fm [] [] s t ∧ ∃ e : Int64, o = .inl (some (.long e)) ∧ (True)) := by
  refine ct_ofX G (by decide) (Nat.le_of_ble_eq_true rfl) (fun k X E ET hRt hXt q => ?_)
  show WS k 0 [(0, .long jj)] [] _ 0 0
  have F : Fm [] [] s s := fm_rf _ _ s
  refine w_lload_n X.1 (ax_d X (show cdA 297 0 = some (.lload_n 0, 1, 0, 0, 0) from rfl)) (x := jj) (List.Mem.head _) ?_
  refine w_lload_n X.1 (ax_d X (show cdA 297 1 = some (.lload_n 0, 1, 0, 0, 0) from rfl)) (x := jj) (List.Mem.head _) ?_
  refine w_lneg X.1 (ax_d X (show cdA 297 2 = some (.lneg, 1, 0, 0, 0) from rfl)) ?_
  refine z_anyJ (fun j1 => ?_)
  refine w_land X.1 (ax_d X (show cdA 297 3 = some (.land, 1, 0, 0, 0) from rfl)) ?_
  refine z_anyJ (fun j2 => ?_)
  exact w_lret X.1 q hRt (ax_d X (show cdA 297 4 = some (.lreturn, 1, 0, 0, 0) from rfl)) (Nat.zero_le _) (Nat.zero_le _) ⟨_, rfl, I, F, j2, rfl, trivial⟩
set_option maxRecDepth 4000 in
theorem j_fill_52 (G : GX l s0 D tys a0 dT) (I : Bd s) {x : Int} (p0 : 0 ≤ x ∧ x ≤ 255) : CT l s0 D A dT 312 (rmN 312) [.ref (A 52), .int (Int32.ofInt x)] s (fun o t => Bd t ∧ Fm [] [44] s t ∧ o = .inl none ∧ (True)) := by
  refine ct_ofX G (by decide) (Nat.le_of_ble_eq_true rfl) (fun k X E ET hRt hXt q => ?_)
  show WS k 0 [(0, .ref (A 52)), (1, .int (Int32.ofInt x))] [] _ 0 0
  have F : Fm [] [44] s s := fm_rf _ _ s
  have L5 : ∀ (n : Nat) (t : PS) (xv c ln : Int), Bd t → Fm [] [44] s t → ((0 ≤ xv ∧ xv ≤ 255) ∧ ln = 3 ∧ 0 ≤ c ∧ c ≤ 3) → (3 - c : Int).toNat < n → (∀ (t' : PS) (c' : Int), Bd t' → Fm [] [44] s t' → ((0 ≤ xv ∧ xv ≤ 255) ∧ ln = 3 ∧ 0 ≤ c' ∧ c' ≤ 3) → WS k 20 [(0, .ref (A 52)), (1, .int (Int32.ofInt xv)), (2, .int (Int32.ofInt c')), (3, .int (Int32.ofInt ln))] [] (Wd A dT t') 0 0) → WS k 5 [(0, .ref (A 52)), (1, .int (Int32.ofInt xv)), (2, .int (Int32.ofInt c)), (3, .int (Int32.ofInt ln))] [] (Wd A dT t) 0 0 := by
    intro n
    induction n with
    | zero =>
      intro t xv c ln I F hi hm kx
      exact absurd hm (Nat.not_lt_zero _)
    | succ n ih =>
      intro t xv c ln I F hi hm kx
      refine z_load_n X (x := c) (show cdA 312 5 = some (.iload_n 2, 1, 0, 0, 0) from rfl) (List.Mem.tail _ (List.Mem.tail _ (List.Mem.head _))) ?_
      refine z_load_n X (x := ln) (show cdA 312 6 = some (.iload_n 3, 1, 0, 0, 0) from rfl) (List.Mem.tail _ (List.Mem.tail _ (List.Mem.tail _ (List.Mem.head _)))) ?_
      refine z_icmp_ge X (t := 20) (show cdA 312 7 = some (.if_icmp .ge 13, 3, 3, 0, 0) from rfl) (by decide) ⟨by first | exact oq_fa4e5087 hi.2.2.1 | omega, by first | exact oq_c5520c83 hi.2.2.2 | omega⟩ ⟨by first | exact oq_5e17cb06 hi.2.1 | omega, by first | exact oq_ebfd4642 hi.2.1 | omega⟩ (fun g1001 => ?_) (fun g1001 => ?_)
      ·
        refine WS_lv (lv := [(0, .ref (A 52)), (1, .int (Int32.ofInt xv)), (2, .int (Int32.ofInt c)), (3, .int (Int32.ofInt ln))]) (List.forall_mem_cons.mpr ⟨(List.Mem.head _), (List.forall_mem_cons.mpr ⟨(List.Mem.tail _ (List.Mem.head _)), (List.forall_mem_cons.mpr ⟨(List.Mem.tail _ (List.Mem.tail _ (List.Mem.head _))), (List.forall_mem_cons.mpr ⟨(List.Mem.tail _ (List.Mem.tail _ (List.Mem.tail _ (List.Mem.head _)))), (fun q h => absurd h List.not_mem_nil)⟩)⟩)⟩)⟩) ?_
        exact kx _ c I F (by first | exact ⟨And.intro (hi.1.1) (hi.1.2), hi.2.1, hi.2.2.1, hi.2.2.2⟩ | omega)
      ·
        refine z_aload_n X (x := A 52) (show cdA 312 10 = some (.aload_n 0, 1, 0, 0, 0) from rfl) (List.Mem.head _) ?_
        refine z_load_n X (x := c) (show cdA 312 11 = some (.iload_n 2, 1, 0, 0, 0) from rfl) (List.Mem.tail _ (List.Mem.tail _ (List.Mem.head _))) ?_
        refine z_load_n X (x := xv) (show cdA 312 12 = some (.iload_n 1, 1, 0, 0, 0) from rfl) (List.Mem.tail _ (List.Mem.head _)) ?_
        refine z_ast X 52 (show cdA 312 13 = some (.iastore, 1, 0, 0, 0) from rfl) (by decide) rfl (by first | exact hi.2.2.1 | omega) (show c < 3 by first | exact oq_64d26aad g1001 hi.2.1 | omega) (by decide) ?_
        obtain ⟨s1002, hs1002⟩ : ∃ x0, x0 = uC t 44 (c).toNat (Int32.ofInt xv) := ⟨_, rfl⟩
        rw [← hs1002]
        have Is1002 : Bd s1002 := by rw [hs1002]; exact bd_C I (show (0 : Int) ≤ xv ∧ xv ≤ 255 by first | exact ⟨hi.1.1, hi.1.2⟩ | omega) ⟨by first | exact oq_fa4e5087 hi.1.1 | omega, by first | exact oq_4567a937 hi.1.2 | omega⟩
        have Fs1002 := fm_C (i := (c).toNat) (x := Int32.ofInt xv) F (show 44 ∈ _ by decide)
        rw [← hs1002] at Fs1002
        refine z_inc X (x := c) (lv' := [(2, .int (Int32.ofInt (c + 1))), (0, .ref (A 52)), (1, .int (Int32.ofInt xv)), (3, .int (Int32.ofInt ln))]) (show cdA 312 14 = some (.iinc 2 1, 3, 0, 0, 0) from rfl) (by decide) (List.Mem.tail _ (List.Mem.tail _ (List.Mem.head _))) (fun _ h => h) ?_
        refine z_goto X (t := 5) (show cdA 312 17 = some (.goto (-12), 3, 0, 0, 0) from rfl) (by decide) ?_
        refine WS_lv (lv := [(0, .ref (A 52)), (1, .int (Int32.ofInt xv)), (2, .int (Int32.ofInt (c + 1))), (3, .int (Int32.ofInt ln))]) (List.forall_mem_cons.mpr ⟨(List.Mem.tail _ (List.Mem.head _)), (List.forall_mem_cons.mpr ⟨(List.Mem.tail _ (List.Mem.tail _ (List.Mem.head _))), (List.forall_mem_cons.mpr ⟨(List.Mem.head _), (List.forall_mem_cons.mpr ⟨(List.Mem.tail _ (List.Mem.tail _ (List.Mem.tail _ (List.Mem.head _)))), (fun q h => absurd h List.not_mem_nil)⟩)⟩)⟩)⟩) ?_
        exact ih _ xv (c + 1) ln Is1002 Fs1002 (by first | exact ⟨And.intro (hi.1.1) (hi.1.2), hi.2.1, oq_54f49eb5 hi.2.2.1, oq_0f8b1e08 g1001 hi.2.1⟩ | omega) (by first | exact qk_me hm (by decide) (oq_636d3ff9 g1001 hi.2.1) | omega) kx
  refine z_const X (show cdA 312 0 = some (.iconst 0, 1, 0, 0, 0) from rfl) ?_
  refine z_store_n X (lv' := [(2, .int (Int32.ofInt 0)), (0, .ref (A 52)), (1, .int (Int32.ofInt x))]) (show cdA 312 1 = some (.istore_n 2, 1, 0, 0, 0) from rfl) (by decide) (fun _ h => h) ?_
  refine z_aload_n X (x := A 52) (show cdA 312 2 = some (.aload_n 0, 1, 0, 0, 0) from rfl) (List.Mem.tail _ (List.Mem.head _)) ?_
  refine z_alen X 52 (show cdA 312 3 = some (.arraylength, 1, 0, 0, 0) from rfl) (by decide) rfl rfl ?_
  refine z_store_n X (lv' := [(3, .int (Int32.ofInt 3)), (2, .int (Int32.ofInt 0)), (0, .ref (A 52)), (1, .int (Int32.ofInt x))]) (show cdA 312 4 = some (.istore_n 3, 1, 0, 0, 0) from rfl) (by decide) (fun _ h => h) ?_
  refine WS_lv (lv := [(0, .ref (A 52)), (1, .int (Int32.ofInt x)), (2, .int (Int32.ofInt 0)), (3, .int (Int32.ofInt 3))]) (List.forall_mem_cons.mpr ⟨(List.Mem.tail _ (List.Mem.tail _ (List.Mem.head _))), (List.forall_mem_cons.mpr ⟨(List.Mem.tail _ (List.Mem.tail _ (List.Mem.tail _ (List.Mem.head _)))), (List.forall_mem_cons.mpr ⟨(List.Mem.tail _ (List.Mem.head _)), (List.forall_mem_cons.mpr ⟨(List.Mem.head _), (fun q h => absurd h List.not_mem_nil)⟩)⟩)⟩)⟩) ?_
  refine L5 ((3 - 0 : Int).toNat + 1) s x 0 3 I F (by first | exact ⟨And.intro (p0.1) (p0.2), by decide, by decide, by decide⟩ | omega) (Nat.lt_succ_self _) ?_
  intro s1 x2 Is1 Fs1 hs1
  exact w_vret X.1 q hRt (ax_d X (show cdA 312 20 = some (.return_, 1, 0, 0, 0) from rfl)) (Nat.zero_le _) (Nat.zero_le _) ⟨_, rfl, Is1, Fs1, rfl, trivial⟩
set_option maxRecDepth 4000 in
theorem j_fill_58 (G : GX l s0 D tys a0 dT) (I : Bd s) {x : Int} (p0 : (-2147483648) ≤ x ∧ x ≤ 2147483647) : CT l s0 D A dT 312 (rmN 312) [.ref (A 58), .int (Int32.ofInt x)] s (fun o t => Bd t ∧ Fm [] [49] s t ∧ o = .inl none ∧ (True)) := by
  refine ct_ofX G (by decide) (Nat.le_of_ble_eq_true rfl) (fun k X E ET hRt hXt q => ?_)
  show WS k 0 [(0, .ref (A 58)), (1, .int (Int32.ofInt x))] [] _ 0 0
  have F : Fm [] [49] s s := fm_rf _ _ s
  have L5 : ∀ (n : Nat) (t : PS) (xv c ln : Int), Bd t → Fm [] [49] s t → (((-2147483648) ≤ xv ∧ xv ≤ 2147483647) ∧ ln = 24 ∧ 0 ≤ c ∧ c ≤ 24) → (24 - c : Int).toNat < n → (∀ (t' : PS) (c' : Int), Bd t' → Fm [] [49] s t' → (((-2147483648) ≤ xv ∧ xv ≤ 2147483647) ∧ ln = 24 ∧ 0 ≤ c' ∧ c' ≤ 24) → WS k 20 [(0, .ref (A 58)), (1, .int (Int32.ofInt xv)), (2, .int (Int32.ofInt c')), (3, .int (Int32.ofInt ln))] [] (Wd A dT t') 0 0) → WS k 5 [(0, .ref (A 58)), (1, .int (Int32.ofInt xv)), (2, .int (Int32.ofInt c)), (3, .int (Int32.ofInt ln))] [] (Wd A dT t) 0 0 := by
    intro n
    induction n with
    | zero =>
      intro t xv c ln I F hi hm kx
      exact absurd hm (Nat.not_lt_zero _)
    | succ n ih =>
      intro t xv c ln I F hi hm kx
      refine z_load_n X (x := c) (show cdA 312 5 = some (.iload_n 2, 1, 0, 0, 0) from rfl) (List.Mem.tail _ (List.Mem.tail _ (List.Mem.head _))) ?_
      refine z_load_n X (x := ln) (show cdA 312 6 = some (.iload_n 3, 1, 0, 0, 0) from rfl) (List.Mem.tail _ (List.Mem.tail _ (List.Mem.tail _ (List.Mem.head _)))) ?_
      refine z_icmp_ge X (t := 20) (show cdA 312 7 = some (.if_icmp .ge 13, 3, 3, 0, 0) from rfl) (by decide) ⟨by first | exact oq_fa4e5087 hi.2.2.1 | omega, by first | exact oq_5bcd337f hi.2.2.2 | omega⟩ ⟨by first | exact oq_3ba33515 hi.2.1 | omega, by first | exact oq_1a30d88f hi.2.1 | omega⟩ (fun g1001 => ?_) (fun g1001 => ?_)
      ·
        refine WS_lv (lv := [(0, .ref (A 58)), (1, .int (Int32.ofInt xv)), (2, .int (Int32.ofInt c)), (3, .int (Int32.ofInt ln))]) (List.forall_mem_cons.mpr ⟨(List.Mem.head _), (List.forall_mem_cons.mpr ⟨(List.Mem.tail _ (List.Mem.head _)), (List.forall_mem_cons.mpr ⟨(List.Mem.tail _ (List.Mem.tail _ (List.Mem.head _))), (List.forall_mem_cons.mpr ⟨(List.Mem.tail _ (List.Mem.tail _ (List.Mem.tail _ (List.Mem.head _)))), (fun q h => absurd h List.not_mem_nil)⟩)⟩)⟩)⟩) ?_
        exact kx _ c I F (by first | exact ⟨And.intro (hi.1.1) (hi.1.2), hi.2.1, hi.2.2.1, hi.2.2.2⟩ | omega)
      ·
        refine z_aload_n X (x := A 58) (show cdA 312 10 = some (.aload_n 0, 1, 0, 0, 0) from rfl) (List.Mem.head _) ?_
        refine z_load_n X (x := c) (show cdA 312 11 = some (.iload_n 2, 1, 0, 0, 0) from rfl) (List.Mem.tail _ (List.Mem.tail _ (List.Mem.head _))) ?_
        refine z_load_n X (x := xv) (show cdA 312 12 = some (.iload_n 1, 1, 0, 0, 0) from rfl) (List.Mem.tail _ (List.Mem.head _)) ?_
        refine z_ast X 58 (show cdA 312 13 = some (.iastore, 1, 0, 0, 0) from rfl) (by decide) rfl (by first | exact hi.2.2.1 | omega) (show c < 24 by first | exact oq_f04b8b25 g1001 hi.2.1 | omega) (by decide) ?_
        obtain ⟨s1002, hs1002⟩ : ∃ x0, x0 = uC t 49 (c).toNat (Int32.ofInt xv) := ⟨_, rfl⟩
        rw [← hs1002]
        have Is1002 : Bd s1002 := by rw [hs1002]; exact bd_C I (show ((-2147483648) : Int) ≤ xv ∧ xv ≤ 2147483647 by first | exact ⟨hi.1.1, hi.1.2⟩ | omega) ⟨by first | exact hi.1.1 | omega, by first | exact hi.1.2 | omega⟩
        have Fs1002 := fm_C (i := (c).toNat) (x := Int32.ofInt xv) F (show 49 ∈ _ by decide)
        rw [← hs1002] at Fs1002
        refine z_inc X (x := c) (lv' := [(2, .int (Int32.ofInt (c + 1))), (0, .ref (A 58)), (1, .int (Int32.ofInt xv)), (3, .int (Int32.ofInt ln))]) (show cdA 312 14 = some (.iinc 2 1, 3, 0, 0, 0) from rfl) (by decide) (List.Mem.tail _ (List.Mem.tail _ (List.Mem.head _))) (fun _ h => h) ?_
        refine z_goto X (t := 5) (show cdA 312 17 = some (.goto (-12), 3, 0, 0, 0) from rfl) (by decide) ?_
        refine WS_lv (lv := [(0, .ref (A 58)), (1, .int (Int32.ofInt xv)), (2, .int (Int32.ofInt (c + 1))), (3, .int (Int32.ofInt ln))]) (List.forall_mem_cons.mpr ⟨(List.Mem.tail _ (List.Mem.head _)), (List.forall_mem_cons.mpr ⟨(List.Mem.tail _ (List.Mem.tail _ (List.Mem.head _))), (List.forall_mem_cons.mpr ⟨(List.Mem.head _), (List.forall_mem_cons.mpr ⟨(List.Mem.tail _ (List.Mem.tail _ (List.Mem.tail _ (List.Mem.head _)))), (fun q h => absurd h List.not_mem_nil)⟩)⟩)⟩)⟩) ?_
        exact ih _ xv (c + 1) ln Is1002 Fs1002 (by first | exact ⟨And.intro (hi.1.1) (hi.1.2), hi.2.1, oq_54f49eb5 hi.2.2.1, oq_2a29062c g1001 hi.2.1⟩ | omega) (by first | exact qk_me hm (by decide) (oq_64c68951 g1001 hi.2.1) | omega) kx
  refine z_const X (show cdA 312 0 = some (.iconst 0, 1, 0, 0, 0) from rfl) ?_
  refine z_store_n X (lv' := [(2, .int (Int32.ofInt 0)), (0, .ref (A 58)), (1, .int (Int32.ofInt x))]) (show cdA 312 1 = some (.istore_n 2, 1, 0, 0, 0) from rfl) (by decide) (fun _ h => h) ?_
  refine z_aload_n X (x := A 58) (show cdA 312 2 = some (.aload_n 0, 1, 0, 0, 0) from rfl) (List.Mem.tail _ (List.Mem.head _)) ?_
  refine z_alen X 58 (show cdA 312 3 = some (.arraylength, 1, 0, 0, 0) from rfl) (by decide) rfl rfl ?_
  refine z_store_n X (lv' := [(3, .int (Int32.ofInt 24)), (2, .int (Int32.ofInt 0)), (0, .ref (A 58)), (1, .int (Int32.ofInt x))]) (show cdA 312 4 = some (.istore_n 3, 1, 0, 0, 0) from rfl) (by decide) (fun _ h => h) ?_
  refine WS_lv (lv := [(0, .ref (A 58)), (1, .int (Int32.ofInt x)), (2, .int (Int32.ofInt 0)), (3, .int (Int32.ofInt 24))]) (List.forall_mem_cons.mpr ⟨(List.Mem.tail _ (List.Mem.tail _ (List.Mem.head _))), (List.forall_mem_cons.mpr ⟨(List.Mem.tail _ (List.Mem.tail _ (List.Mem.tail _ (List.Mem.head _)))), (List.forall_mem_cons.mpr ⟨(List.Mem.tail _ (List.Mem.head _)), (List.forall_mem_cons.mpr ⟨(List.Mem.head _), (fun q h => absurd h List.not_mem_nil)⟩)⟩)⟩)⟩) ?_
  refine L5 ((24 - 0 : Int).toNat + 1) s x 0 24 I F (by first | exact ⟨And.intro (p0.1) (p0.2), by decide, by decide, by decide⟩ | omega) (Nat.lt_succ_self _) ?_
  intro s1 x2 Is1 Fs1 hs1
  exact w_vret X.1 q hRt (ax_d X (show cdA 312 20 = some (.return_, 1, 0, 0, 0) from rfl)) (Nat.zero_le _) (Nat.zero_le _) ⟨_, rfl, Is1, Fs1, rfl, trivial⟩
set_option maxRecDepth 4000 in
theorem j_fill_63 (G : GX l s0 D tys a0 dT) (I : Bd s) {x : Int} (p0 : (-2147483648) ≤ x ∧ x ≤ 2147483647) : CT l s0 D A dT 312 (rmN 312) [.ref (A 63), .int (Int32.ofInt x)] s (fun o t => Bd t ∧ Fm [] [53] s t ∧ o = .inl none ∧ (True)) := by
  refine ct_ofX G (by decide) (Nat.le_of_ble_eq_true rfl) (fun k X E ET hRt hXt q => ?_)
  show WS k 0 [(0, .ref (A 63)), (1, .int (Int32.ofInt x))] [] _ 0 0
  have F : Fm [] [53] s s := fm_rf _ _ s
  have L5 : ∀ (n : Nat) (t : PS) (xv c ln : Int), Bd t → Fm [] [53] s t → (((-2147483648) ≤ xv ∧ xv ≤ 2147483647) ∧ ln = 8 ∧ 0 ≤ c ∧ c ≤ 8) → (8 - c : Int).toNat < n → (∀ (t' : PS) (c' : Int), Bd t' → Fm [] [53] s t' → (((-2147483648) ≤ xv ∧ xv ≤ 2147483647) ∧ ln = 8 ∧ 0 ≤ c' ∧ c' ≤ 8) → WS k 20 [(0, .ref (A 63)), (1, .int (Int32.ofInt xv)), (2, .int (Int32.ofInt c')), (3, .int (Int32.ofInt ln))] [] (Wd A dT t') 0 0) → WS k 5 [(0, .ref (A 63)), (1, .int (Int32.ofInt xv)), (2, .int (Int32.ofInt c)), (3, .int (Int32.ofInt ln))] [] (Wd A dT t) 0 0 := by
    intro n
    induction n with
    | zero =>
      intro t xv c ln I F hi hm kx
      exact absurd hm (Nat.not_lt_zero _)
    | succ n ih =>
      intro t xv c ln I F hi hm kx
      refine z_load_n X (x := c) (show cdA 312 5 = some (.iload_n 2, 1, 0, 0, 0) from rfl) (List.Mem.tail _ (List.Mem.tail _ (List.Mem.head _))) ?_
      refine z_load_n X (x := ln) (show cdA 312 6 = some (.iload_n 3, 1, 0, 0, 0) from rfl) (List.Mem.tail _ (List.Mem.tail _ (List.Mem.tail _ (List.Mem.head _)))) ?_
      refine z_icmp_ge X (t := 20) (show cdA 312 7 = some (.if_icmp .ge 13, 3, 3, 0, 0) from rfl) (by decide) ⟨by first | exact oq_fa4e5087 hi.2.2.1 | omega, by first | exact oq_d3f5d874 hi.2.2.2 | omega⟩ ⟨by first | exact oq_fc89a5e2 hi.2.1 | omega, by first | exact oq_105e271f hi.2.1 | omega⟩ (fun g1001 => ?_) (fun g1001 => ?_)
      ·
        refine WS_lv (lv := [(0, .ref (A 63)), (1, .int (Int32.ofInt xv)), (2, .int (Int32.ofInt c)), (3, .int (Int32.ofInt ln))]) (List.forall_mem_cons.mpr ⟨(List.Mem.head _), (List.forall_mem_cons.mpr ⟨(List.Mem.tail _ (List.Mem.head _)), (List.forall_mem_cons.mpr ⟨(List.Mem.tail _ (List.Mem.tail _ (List.Mem.head _))), (List.forall_mem_cons.mpr ⟨(List.Mem.tail _ (List.Mem.tail _ (List.Mem.tail _ (List.Mem.head _)))), (fun q h => absurd h List.not_mem_nil)⟩)⟩)⟩)⟩) ?_
        exact kx _ c I F (by first | exact ⟨And.intro (hi.1.1) (hi.1.2), hi.2.1, hi.2.2.1, hi.2.2.2⟩ | omega)
      ·
        refine z_aload_n X (x := A 63) (show cdA 312 10 = some (.aload_n 0, 1, 0, 0, 0) from rfl) (List.Mem.head _) ?_
        refine z_load_n X (x := c) (show cdA 312 11 = some (.iload_n 2, 1, 0, 0, 0) from rfl) (List.Mem.tail _ (List.Mem.tail _ (List.Mem.head _))) ?_
        refine z_load_n X (x := xv) (show cdA 312 12 = some (.iload_n 1, 1, 0, 0, 0) from rfl) (List.Mem.tail _ (List.Mem.head _)) ?_
        refine z_ast X 63 (show cdA 312 13 = some (.iastore, 1, 0, 0, 0) from rfl) (by decide) rfl (by first | exact hi.2.2.1 | omega) (show c < 8 by first | exact oq_9b5e226c g1001 hi.2.1 | omega) (by decide) ?_
        obtain ⟨s1002, hs1002⟩ : ∃ x0, x0 = uC t 53 (c).toNat (Int32.ofInt xv) := ⟨_, rfl⟩
        rw [← hs1002]
        have Is1002 : Bd s1002 := by rw [hs1002]; exact bd_C I (show ((-2147483648) : Int) ≤ xv ∧ xv ≤ 2147483647 by first | exact ⟨hi.1.1, hi.1.2⟩ | omega) ⟨by first | exact hi.1.1 | omega, by first | exact hi.1.2 | omega⟩
        have Fs1002 := fm_C (i := (c).toNat) (x := Int32.ofInt xv) F (show 53 ∈ _ by decide)
        rw [← hs1002] at Fs1002
        refine z_inc X (x := c) (lv' := [(2, .int (Int32.ofInt (c + 1))), (0, .ref (A 63)), (1, .int (Int32.ofInt xv)), (3, .int (Int32.ofInt ln))]) (show cdA 312 14 = some (.iinc 2 1, 3, 0, 0, 0) from rfl) (by decide) (List.Mem.tail _ (List.Mem.tail _ (List.Mem.head _))) (fun _ h => h) ?_
        refine z_goto X (t := 5) (show cdA 312 17 = some (.goto (-12), 3, 0, 0, 0) from rfl) (by decide) ?_
        refine WS_lv (lv := [(0, .ref (A 63)), (1, .int (Int32.ofInt xv)), (2, .int (Int32.ofInt (c + 1))), (3, .int (Int32.ofInt ln))]) (List.forall_mem_cons.mpr ⟨(List.Mem.tail _ (List.Mem.head _)), (List.forall_mem_cons.mpr ⟨(List.Mem.tail _ (List.Mem.tail _ (List.Mem.head _))), (List.forall_mem_cons.mpr ⟨(List.Mem.head _), (List.forall_mem_cons.mpr ⟨(List.Mem.tail _ (List.Mem.tail _ (List.Mem.tail _ (List.Mem.head _)))), (fun q h => absurd h List.not_mem_nil)⟩)⟩)⟩)⟩) ?_
        exact ih _ xv (c + 1) ln Is1002 Fs1002 (by first | exact ⟨And.intro (hi.1.1) (hi.1.2), hi.2.1, oq_54f49eb5 hi.2.2.1, oq_a1613568 g1001 hi.2.1⟩ | omega) (by first | exact qk_me hm (by decide) (oq_a2c770ba g1001 hi.2.1) | omega) kx
  refine z_const X (show cdA 312 0 = some (.iconst 0, 1, 0, 0, 0) from rfl) ?_
  refine z_store_n X (lv' := [(2, .int (Int32.ofInt 0)), (0, .ref (A 63)), (1, .int (Int32.ofInt x))]) (show cdA 312 1 = some (.istore_n 2, 1, 0, 0, 0) from rfl) (by decide) (fun _ h => h) ?_
  refine z_aload_n X (x := A 63) (show cdA 312 2 = some (.aload_n 0, 1, 0, 0, 0) from rfl) (List.Mem.tail _ (List.Mem.head _)) ?_
  refine z_alen X 63 (show cdA 312 3 = some (.arraylength, 1, 0, 0, 0) from rfl) (by decide) rfl rfl ?_
  refine z_store_n X (lv' := [(3, .int (Int32.ofInt 8)), (2, .int (Int32.ofInt 0)), (0, .ref (A 63)), (1, .int (Int32.ofInt x))]) (show cdA 312 4 = some (.istore_n 3, 1, 0, 0, 0) from rfl) (by decide) (fun _ h => h) ?_
  refine WS_lv (lv := [(0, .ref (A 63)), (1, .int (Int32.ofInt x)), (2, .int (Int32.ofInt 0)), (3, .int (Int32.ofInt 8))]) (List.forall_mem_cons.mpr ⟨(List.Mem.tail _ (List.Mem.tail _ (List.Mem.head _))), (List.forall_mem_cons.mpr ⟨(List.Mem.tail _ (List.Mem.tail _ (List.Mem.tail _ (List.Mem.head _)))), (List.forall_mem_cons.mpr ⟨(List.Mem.tail _ (List.Mem.head _)), (List.forall_mem_cons.mpr ⟨(List.Mem.head _), (fun q h => absurd h List.not_mem_nil)⟩)⟩)⟩)⟩) ?_
  refine L5 ((8 - 0 : Int).toNat + 1) s x 0 8 I F (by first | exact ⟨And.intro (p0.1) (p0.2), by decide, by decide, by decide⟩ | omega) (Nat.lt_succ_self _) ?_
  intro s1 x2 Is1 Fs1 hs1
  exact w_vret X.1 q hRt (ax_d X (show cdA 312 20 = some (.return_, 1, 0, 0, 0) from rfl)) (Nat.zero_le _) (Nat.zero_le _) ⟨_, rfl, Is1, Fs1, rfl, trivial⟩
set_option maxRecDepth 4000 in
theorem j_fill_64 (G : GX l s0 D tys a0 dT) (I : Bd s) {x : Int} (p0 : (-2147483648) ≤ x ∧ x ≤ 2147483647) : CT l s0 D A dT 312 (rmN 312) [.ref (A 64), .int (Int32.ofInt x)] s (fun o t => Bd t ∧ Fm [] [54] s t ∧ o = .inl none ∧ (True)) := by
  refine ct_ofX G (by decide) (Nat.le_of_ble_eq_true rfl) (fun k X E ET hRt hXt q => ?_)
  show WS k 0 [(0, .ref (A 64)), (1, .int (Int32.ofInt x))] [] _ 0 0
  have F : Fm [] [54] s s := fm_rf _ _ s
  have L5 : ∀ (n : Nat) (t : PS) (xv c ln : Int), Bd t → Fm [] [54] s t → (((-2147483648) ≤ xv ∧ xv ≤ 2147483647) ∧ ln = 8 ∧ 0 ≤ c ∧ c ≤ 8) → (8 - c : Int).toNat < n → (∀ (t' : PS) (c' : Int), Bd t' → Fm [] [54] s t' → (((-2147483648) ≤ xv ∧ xv ≤ 2147483647) ∧ ln = 8 ∧ 0 ≤ c' ∧ c' ≤ 8) → WS k 20 [(0, .ref (A 64)), (1, .int (Int32.ofInt xv)), (2, .int (Int32.ofInt c')), (3, .int (Int32.ofInt ln))] [] (Wd A dT t') 0 0) → WS k 5 [(0, .ref (A 64)), (1, .int (Int32.ofInt xv)), (2, .int (Int32.ofInt c)), (3, .int (Int32.ofInt ln))] [] (Wd A dT t) 0 0 := by
    intro n
    induction n with
    | zero =>
      intro t xv c ln I F hi hm kx
      exact absurd hm (Nat.not_lt_zero _)
    | succ n ih =>
      intro t xv c ln I F hi hm kx
      refine z_load_n X (x := c) (show cdA 312 5 = some (.iload_n 2, 1, 0, 0, 0) from rfl) (List.Mem.tail _ (List.Mem.tail _ (List.Mem.head _))) ?_
      refine z_load_n X (x := ln) (show cdA 312 6 = some (.iload_n 3, 1, 0, 0, 0) from rfl) (List.Mem.tail _ (List.Mem.tail _ (List.Mem.tail _ (List.Mem.head _)))) ?_
      refine z_icmp_ge X (t := 20) (show cdA 312 7 = some (.if_icmp .ge 13, 3, 3, 0, 0) from rfl) (by decide) ⟨by first | exact oq_fa4e5087 hi.2.2.1 | omega, by first | exact oq_d3f5d874 hi.2.2.2 | omega⟩ ⟨by first | exact oq_fc89a5e2 hi.2.1 | omega, by first | exact oq_105e271f hi.2.1 | omega⟩ (fun g1001 => ?_) (fun g1001 => ?_)
      ·
        refine WS_lv (lv := [(0, .ref (A 64)), (1, .int (Int32.ofInt xv)), (2, .int (Int32.ofInt c)), (3, .int (Int32.ofInt ln))]) (List.forall_mem_cons.mpr ⟨(List.Mem.head _), (List.forall_mem_cons.mpr ⟨(List.Mem.tail _ (List.Mem.head _)), (List.forall_mem_cons.mpr ⟨(List.Mem.tail _ (List.Mem.tail _ (List.Mem.head _))), (List.forall_mem_cons.mpr ⟨(List.Mem.tail _ (List.Mem.tail _ (List.Mem.tail _ (List.Mem.head _)))), (fun q h => absurd h List.not_mem_nil)⟩)⟩)⟩)⟩) ?_
        exact kx _ c I F (by first | exact ⟨And.intro (hi.1.1) (hi.1.2), hi.2.1, hi.2.2.1, hi.2.2.2⟩ | omega)
      ·
        refine z_aload_n X (x := A 64) (show cdA 312 10 = some (.aload_n 0, 1, 0, 0, 0) from rfl) (List.Mem.head _) ?_
        refine z_load_n X (x := c) (show cdA 312 11 = some (.iload_n 2, 1, 0, 0, 0) from rfl) (List.Mem.tail _ (List.Mem.tail _ (List.Mem.head _))) ?_
        refine z_load_n X (x := xv) (show cdA 312 12 = some (.iload_n 1, 1, 0, 0, 0) from rfl) (List.Mem.tail _ (List.Mem.head _)) ?_
        refine z_ast X 64 (show cdA 312 13 = some (.iastore, 1, 0, 0, 0) from rfl) (by decide) rfl (by first | exact hi.2.2.1 | omega) (show c < 8 by first | exact oq_9b5e226c g1001 hi.2.1 | omega) (by decide) ?_
        obtain ⟨s1002, hs1002⟩ : ∃ x0, x0 = uC t 54 (c).toNat (Int32.ofInt xv) := ⟨_, rfl⟩
        rw [← hs1002]
        have Is1002 : Bd s1002 := by rw [hs1002]; exact bd_C I (show ((-2147483648) : Int) ≤ xv ∧ xv ≤ 2147483647 by first | exact ⟨hi.1.1, hi.1.2⟩ | omega) ⟨by first | exact hi.1.1 | omega, by first | exact hi.1.2 | omega⟩
        have Fs1002 := fm_C (i := (c).toNat) (x := Int32.ofInt xv) F (show 54 ∈ _ by decide)
        rw [← hs1002] at Fs1002
        refine z_inc X (x := c) (lv' := [(2, .int (Int32.ofInt (c + 1))), (0, .ref (A 64)), (1, .int (Int32.ofInt xv)), (3, .int (Int32.ofInt ln))]) (show cdA 312 14 = some (.iinc 2 1, 3, 0, 0, 0) from rfl) (by decide) (List.Mem.tail _ (List.Mem.tail _ (List.Mem.head _))) (fun _ h => h) ?_
        refine z_goto X (t := 5) (show cdA 312 17 = some (.goto (-12), 3, 0, 0, 0) from rfl) (by decide) ?_
        refine WS_lv (lv := [(0, .ref (A 64)), (1, .int (Int32.ofInt xv)), (2, .int (Int32.ofInt (c + 1))), (3, .int (Int32.ofInt ln))]) (List.forall_mem_cons.mpr ⟨(List.Mem.tail _ (List.Mem.head _)), (List.forall_mem_cons.mpr ⟨(List.Mem.tail _ (List.Mem.tail _ (List.Mem.head _))), (List.forall_mem_cons.mpr ⟨(List.Mem.head _), (List.forall_mem_cons.mpr ⟨(List.Mem.tail _ (List.Mem.tail _ (List.Mem.tail _ (List.Mem.head _)))), (fun q h => absurd h List.not_mem_nil)⟩)⟩)⟩)⟩) ?_
        exact ih _ xv (c + 1) ln Is1002 Fs1002 (by first | exact ⟨And.intro (hi.1.1) (hi.1.2), hi.2.1, oq_54f49eb5 hi.2.2.1, oq_a1613568 g1001 hi.2.1⟩ | omega) (by first | exact qk_me hm (by decide) (oq_a2c770ba g1001 hi.2.1) | omega) kx
  refine z_const X (show cdA 312 0 = some (.iconst 0, 1, 0, 0, 0) from rfl) ?_
  refine z_store_n X (lv' := [(2, .int (Int32.ofInt 0)), (0, .ref (A 64)), (1, .int (Int32.ofInt x))]) (show cdA 312 1 = some (.istore_n 2, 1, 0, 0, 0) from rfl) (by decide) (fun _ h => h) ?_
  refine z_aload_n X (x := A 64) (show cdA 312 2 = some (.aload_n 0, 1, 0, 0, 0) from rfl) (List.Mem.tail _ (List.Mem.head _)) ?_
  refine z_alen X 64 (show cdA 312 3 = some (.arraylength, 1, 0, 0, 0) from rfl) (by decide) rfl rfl ?_
  refine z_store_n X (lv' := [(3, .int (Int32.ofInt 8)), (2, .int (Int32.ofInt 0)), (0, .ref (A 64)), (1, .int (Int32.ofInt x))]) (show cdA 312 4 = some (.istore_n 3, 1, 0, 0, 0) from rfl) (by decide) (fun _ h => h) ?_
  refine WS_lv (lv := [(0, .ref (A 64)), (1, .int (Int32.ofInt x)), (2, .int (Int32.ofInt 0)), (3, .int (Int32.ofInt 8))]) (List.forall_mem_cons.mpr ⟨(List.Mem.tail _ (List.Mem.tail _ (List.Mem.head _))), (List.forall_mem_cons.mpr ⟨(List.Mem.tail _ (List.Mem.tail _ (List.Mem.tail _ (List.Mem.head _)))), (List.forall_mem_cons.mpr ⟨(List.Mem.tail _ (List.Mem.head _)), (List.forall_mem_cons.mpr ⟨(List.Mem.head _), (fun q h => absurd h List.not_mem_nil)⟩)⟩)⟩)⟩) ?_
  refine L5 ((8 - 0 : Int).toNat + 1) s x 0 8 I F (by first | exact ⟨And.intro (p0.1) (p0.2), by decide, by decide, by decide⟩ | omega) (Nat.lt_succ_self _) ?_
  intro s1 x2 Is1 Fs1 hs1
  exact w_vret X.1 q hRt (ax_d X (show cdA 312 20 = some (.return_, 1, 0, 0, 0) from rfl)) (Nat.zero_le _) (Nat.zero_le _) ⟨_, rfl, Is1, Fs1, rfl, trivial⟩
set_option maxRecDepth 4000 in
theorem j_fill_65 (G : GX l s0 D tys a0 dT) (I : Bd s) {x : Int} (p0 : (-2147483648) ≤ x ∧ x ≤ 2147483647) : CT l s0 D A dT 312 (rmN 312) [.ref (A 65), .int (Int32.ofInt x)] s (fun o t => Bd t ∧ Fm [] [55] s t ∧ o = .inl none ∧ (True)) := by
  refine ct_ofX G (by decide) (Nat.le_of_ble_eq_true rfl) (fun k X E ET hRt hXt q => ?_)
  show WS k 0 [(0, .ref (A 65)), (1, .int (Int32.ofInt x))] [] _ 0 0
  have F : Fm [] [55] s s := fm_rf _ _ s
  have L5 : ∀ (n : Nat) (t : PS) (xv c ln : Int), Bd t → Fm [] [55] s t → (((-2147483648) ≤ xv ∧ xv ≤ 2147483647) ∧ ln = 8 ∧ 0 ≤ c ∧ c ≤ 8) → (8 - c : Int).toNat < n → (∀ (t' : PS) (c' : Int), Bd t' → Fm [] [55] s t' → (((-2147483648) ≤ xv ∧ xv ≤ 2147483647) ∧ ln = 8 ∧ 0 ≤ c' ∧ c' ≤ 8) → WS k 20 [(0, .ref (A 65)), (1, .int (Int32.ofInt xv)), (2, .int (Int32.ofInt c')), (3, .int (Int32.ofInt ln))] [] (Wd A dT t') 0 0) → WS k 5 [(0, .ref (A 65)), (1, .int (Int32.ofInt xv)), (2, .int (Int32.ofInt c)), (3, .int (Int32.ofInt ln))] [] (Wd A dT t) 0 0 := by
    intro n
    induction n with
    | zero =>
      intro t xv c ln I F hi hm kx
      exact absurd hm (Nat.not_lt_zero _)
    | succ n ih =>
      intro t xv c ln I F hi hm kx
      refine z_load_n X (x := c) (show cdA 312 5 = some (.iload_n 2, 1, 0, 0, 0) from rfl) (List.Mem.tail _ (List.Mem.tail _ (List.Mem.head _))) ?_
      refine z_load_n X (x := ln) (show cdA 312 6 = some (.iload_n 3, 1, 0, 0, 0) from rfl) (List.Mem.tail _ (List.Mem.tail _ (List.Mem.tail _ (List.Mem.head _)))) ?_
      refine z_icmp_ge X (t := 20) (show cdA 312 7 = some (.if_icmp .ge 13, 3, 3, 0, 0) from rfl) (by decide) ⟨by first | exact oq_fa4e5087 hi.2.2.1 | omega, by first | exact oq_d3f5d874 hi.2.2.2 | omega⟩ ⟨by first | exact oq_fc89a5e2 hi.2.1 | omega, by first | exact oq_105e271f hi.2.1 | omega⟩ (fun g1001 => ?_) (fun g1001 => ?_)
      ·
        refine WS_lv (lv := [(0, .ref (A 65)), (1, .int (Int32.ofInt xv)), (2, .int (Int32.ofInt c)), (3, .int (Int32.ofInt ln))]) (List.forall_mem_cons.mpr ⟨(List.Mem.head _), (List.forall_mem_cons.mpr ⟨(List.Mem.tail _ (List.Mem.head _)), (List.forall_mem_cons.mpr ⟨(List.Mem.tail _ (List.Mem.tail _ (List.Mem.head _))), (List.forall_mem_cons.mpr ⟨(List.Mem.tail _ (List.Mem.tail _ (List.Mem.tail _ (List.Mem.head _)))), (fun q h => absurd h List.not_mem_nil)⟩)⟩)⟩)⟩) ?_
        exact kx _ c I F (by first | exact ⟨And.intro (hi.1.1) (hi.1.2), hi.2.1, hi.2.2.1, hi.2.2.2⟩ | omega)
      ·
        refine z_aload_n X (x := A 65) (show cdA 312 10 = some (.aload_n 0, 1, 0, 0, 0) from rfl) (List.Mem.head _) ?_
        refine z_load_n X (x := c) (show cdA 312 11 = some (.iload_n 2, 1, 0, 0, 0) from rfl) (List.Mem.tail _ (List.Mem.tail _ (List.Mem.head _))) ?_
        refine z_load_n X (x := xv) (show cdA 312 12 = some (.iload_n 1, 1, 0, 0, 0) from rfl) (List.Mem.tail _ (List.Mem.head _)) ?_
        refine z_ast X 65 (show cdA 312 13 = some (.iastore, 1, 0, 0, 0) from rfl) (by decide) rfl (by first | exact hi.2.2.1 | omega) (show c < 8 by first | exact oq_9b5e226c g1001 hi.2.1 | omega) (by decide) ?_
        obtain ⟨s1002, hs1002⟩ : ∃ x0, x0 = uC t 55 (c).toNat (Int32.ofInt xv) := ⟨_, rfl⟩
        rw [← hs1002]
        have Is1002 : Bd s1002 := by rw [hs1002]; exact bd_C I (show ((-2147483648) : Int) ≤ xv ∧ xv ≤ 2147483647 by first | exact ⟨hi.1.1, hi.1.2⟩ | omega) ⟨by first | exact hi.1.1 | omega, by first | exact hi.1.2 | omega⟩
        have Fs1002 := fm_C (i := (c).toNat) (x := Int32.ofInt xv) F (show 55 ∈ _ by decide)
        rw [← hs1002] at Fs1002
        refine z_inc X (x := c) (lv' := [(2, .int (Int32.ofInt (c + 1))), (0, .ref (A 65)), (1, .int (Int32.ofInt xv)), (3, .int (Int32.ofInt ln))]) (show cdA 312 14 = some (.iinc 2 1, 3, 0, 0, 0) from rfl) (by decide) (List.Mem.tail _ (List.Mem.tail _ (List.Mem.head _))) (fun _ h => h) ?_
        refine z_goto X (t := 5) (show cdA 312 17 = some (.goto (-12), 3, 0, 0, 0) from rfl) (by decide) ?_
        refine WS_lv (lv := [(0, .ref (A 65)), (1, .int (Int32.ofInt xv)), (2, .int (Int32.ofInt (c + 1))), (3, .int (Int32.ofInt ln))]) (List.forall_mem_cons.mpr ⟨(List.Mem.tail _ (List.Mem.head _)), (List.forall_mem_cons.mpr ⟨(List.Mem.tail _ (List.Mem.tail _ (List.Mem.head _))), (List.forall_mem_cons.mpr ⟨(List.Mem.head _), (List.forall_mem_cons.mpr ⟨(List.Mem.tail _ (List.Mem.tail _ (List.Mem.tail _ (List.Mem.head _)))), (fun q h => absurd h List.not_mem_nil)⟩)⟩)⟩)⟩) ?_
        exact ih _ xv (c + 1) ln Is1002 Fs1002 (by first | exact ⟨And.intro (hi.1.1) (hi.1.2), hi.2.1, oq_54f49eb5 hi.2.2.1, oq_a1613568 g1001 hi.2.1⟩ | omega) (by first | exact qk_me hm (by decide) (oq_a2c770ba g1001 hi.2.1) | omega) kx
  refine z_const X (show cdA 312 0 = some (.iconst 0, 1, 0, 0, 0) from rfl) ?_
  refine z_store_n X (lv' := [(2, .int (Int32.ofInt 0)), (0, .ref (A 65)), (1, .int (Int32.ofInt x))]) (show cdA 312 1 = some (.istore_n 2, 1, 0, 0, 0) from rfl) (by decide) (fun _ h => h) ?_
  refine z_aload_n X (x := A 65) (show cdA 312 2 = some (.aload_n 0, 1, 0, 0, 0) from rfl) (List.Mem.tail _ (List.Mem.head _)) ?_
  refine z_alen X 65 (show cdA 312 3 = some (.arraylength, 1, 0, 0, 0) from rfl) (by decide) rfl rfl ?_
  refine z_store_n X (lv' := [(3, .int (Int32.ofInt 8)), (2, .int (Int32.ofInt 0)), (0, .ref (A 65)), (1, .int (Int32.ofInt x))]) (show cdA 312 4 = some (.istore_n 3, 1, 0, 0, 0) from rfl) (by decide) (fun _ h => h) ?_
  refine WS_lv (lv := [(0, .ref (A 65)), (1, .int (Int32.ofInt x)), (2, .int (Int32.ofInt 0)), (3, .int (Int32.ofInt 8))]) (List.forall_mem_cons.mpr ⟨(List.Mem.tail _ (List.Mem.tail _ (List.Mem.head _))), (List.forall_mem_cons.mpr ⟨(List.Mem.tail _ (List.Mem.tail _ (List.Mem.tail _ (List.Mem.head _)))), (List.forall_mem_cons.mpr ⟨(List.Mem.tail _ (List.Mem.head _)), (List.forall_mem_cons.mpr ⟨(List.Mem.head _), (fun q h => absurd h List.not_mem_nil)⟩)⟩)⟩)⟩) ?_
  refine L5 ((8 - 0 : Int).toNat + 1) s x 0 8 I F (by first | exact ⟨And.intro (p0.1) (p0.2), by decide, by decide, by decide⟩ | omega) (Nat.lt_succ_self _) ?_
  intro s1 x2 Is1 Fs1 hs1
  exact w_vret X.1 q hRt (ax_d X (show cdA 312 20 = some (.return_, 1, 0, 0, 0) from rfl)) (Nat.zero_le _) (Nat.zero_le _) ⟨_, rfl, Is1, Fs1, rfl, trivial⟩
set_option maxRecDepth 4000 in
theorem j_fill_89 (G : GX l s0 D tys a0 dT) (I : Bd s) {x : Int} (p0 : (-2147483648) ≤ x ∧ x ≤ 2147483647) : CT l s0 D A dT 312 (rmN 312) [.ref (A 89), .int (Int32.ofInt x)] s (fun o t => Bd t ∧ Fm [] [76] s t ∧ o = .inl none ∧ (True)) := by
  refine ct_ofX G (by decide) (Nat.le_of_ble_eq_true rfl) (fun k X E ET hRt hXt q => ?_)
  show WS k 0 [(0, .ref (A 89)), (1, .int (Int32.ofInt x))] [] _ 0 0
  have F : Fm [] [76] s s := fm_rf _ _ s
  have L5 : ∀ (n : Nat) (t : PS) (xv c ln : Int), Bd t → Fm [] [76] s t → (((-2147483648) ≤ xv ∧ xv ≤ 2147483647) ∧ ln = 256 ∧ 0 ≤ c ∧ c ≤ 256) → (256 - c : Int).toNat < n → (∀ (t' : PS) (c' : Int), Bd t' → Fm [] [76] s t' → (((-2147483648) ≤ xv ∧ xv ≤ 2147483647) ∧ ln = 256 ∧ 0 ≤ c' ∧ c' ≤ 256) → WS k 20 [(0, .ref (A 89)), (1, .int (Int32.ofInt xv)), (2, .int (Int32.ofInt c')), (3, .int (Int32.ofInt ln))] [] (Wd A dT t') 0 0) → WS k 5 [(0, .ref (A 89)), (1, .int (Int32.ofInt xv)), (2, .int (Int32.ofInt c)), (3, .int (Int32.ofInt ln))] [] (Wd A dT t) 0 0 := by
    intro n
    induction n with
    | zero =>
      intro t xv c ln I F hi hm kx
      exact absurd hm (Nat.not_lt_zero _)
    | succ n ih =>
      intro t xv c ln I F hi hm kx
      refine z_load_n X (x := c) (show cdA 312 5 = some (.iload_n 2, 1, 0, 0, 0) from rfl) (List.Mem.tail _ (List.Mem.tail _ (List.Mem.head _))) ?_
      refine z_load_n X (x := ln) (show cdA 312 6 = some (.iload_n 3, 1, 0, 0, 0) from rfl) (List.Mem.tail _ (List.Mem.tail _ (List.Mem.tail _ (List.Mem.head _)))) ?_
      refine z_icmp_ge X (t := 20) (show cdA 312 7 = some (.if_icmp .ge 13, 3, 3, 0, 0) from rfl) (by decide) ⟨by first | exact oq_fa4e5087 hi.2.2.1 | omega, by first | exact oq_09cd9fc1 hi.2.2.2 | omega⟩ ⟨by first | exact oq_836f9876 hi.2.1 | omega, by first | exact oq_4f2d3355 hi.2.1 | omega⟩ (fun g1001 => ?_) (fun g1001 => ?_)
      ·
        refine WS_lv (lv := [(0, .ref (A 89)), (1, .int (Int32.ofInt xv)), (2, .int (Int32.ofInt c)), (3, .int (Int32.ofInt ln))]) (List.forall_mem_cons.mpr ⟨(List.Mem.head _), (List.forall_mem_cons.mpr ⟨(List.Mem.tail _ (List.Mem.head _)), (List.forall_mem_cons.mpr ⟨(List.Mem.tail _ (List.Mem.tail _ (List.Mem.head _))), (List.forall_mem_cons.mpr ⟨(List.Mem.tail _ (List.Mem.tail _ (List.Mem.tail _ (List.Mem.head _)))), (fun q h => absurd h List.not_mem_nil)⟩)⟩)⟩)⟩) ?_
        exact kx _ c I F (by first | exact ⟨And.intro (hi.1.1) (hi.1.2), hi.2.1, hi.2.2.1, hi.2.2.2⟩ | omega)
      ·
        refine z_aload_n X (x := A 89) (show cdA 312 10 = some (.aload_n 0, 1, 0, 0, 0) from rfl) (List.Mem.head _) ?_
        refine z_load_n X (x := c) (show cdA 312 11 = some (.iload_n 2, 1, 0, 0, 0) from rfl) (List.Mem.tail _ (List.Mem.tail _ (List.Mem.head _))) ?_
        refine z_load_n X (x := xv) (show cdA 312 12 = some (.iload_n 1, 1, 0, 0, 0) from rfl) (List.Mem.tail _ (List.Mem.head _)) ?_
        refine z_ast X 89 (show cdA 312 13 = some (.iastore, 1, 0, 0, 0) from rfl) (by decide) rfl (by first | exact hi.2.2.1 | omega) (show c < 256 by first | exact oq_c879b548 g1001 hi.2.1 | omega) (by decide) ?_
        obtain ⟨s1002, hs1002⟩ : ∃ x0, x0 = uC t 76 (c).toNat (Int32.ofInt xv) := ⟨_, rfl⟩
        rw [← hs1002]
        have Is1002 : Bd s1002 := by rw [hs1002]; exact bd_C I (show ((-2147483648) : Int) ≤ xv ∧ xv ≤ 2147483647 by first | exact ⟨hi.1.1, hi.1.2⟩ | omega) ⟨by first | exact hi.1.1 | omega, by first | exact hi.1.2 | omega⟩
        have Fs1002 := fm_C (i := (c).toNat) (x := Int32.ofInt xv) F (show 76 ∈ _ by decide)
        rw [← hs1002] at Fs1002
        refine z_inc X (x := c) (lv' := [(2, .int (Int32.ofInt (c + 1))), (0, .ref (A 89)), (1, .int (Int32.ofInt xv)), (3, .int (Int32.ofInt ln))]) (show cdA 312 14 = some (.iinc 2 1, 3, 0, 0, 0) from rfl) (by decide) (List.Mem.tail _ (List.Mem.tail _ (List.Mem.head _))) (fun _ h => h) ?_
        refine z_goto X (t := 5) (show cdA 312 17 = some (.goto (-12), 3, 0, 0, 0) from rfl) (by decide) ?_
        refine WS_lv (lv := [(0, .ref (A 89)), (1, .int (Int32.ofInt xv)), (2, .int (Int32.ofInt (c + 1))), (3, .int (Int32.ofInt ln))]) (List.forall_mem_cons.mpr ⟨(List.Mem.tail _ (List.Mem.head _)), (List.forall_mem_cons.mpr ⟨(List.Mem.tail _ (List.Mem.tail _ (List.Mem.head _))), (List.forall_mem_cons.mpr ⟨(List.Mem.head _), (List.forall_mem_cons.mpr ⟨(List.Mem.tail _ (List.Mem.tail _ (List.Mem.tail _ (List.Mem.head _)))), (fun q h => absurd h List.not_mem_nil)⟩)⟩)⟩)⟩) ?_
        exact ih _ xv (c + 1) ln Is1002 Fs1002 (by first | exact ⟨And.intro (hi.1.1) (hi.1.2), hi.2.1, oq_54f49eb5 hi.2.2.1, oq_961868b5 g1001 hi.2.1⟩ | omega) (by first | exact qk_me hm (by decide) (oq_41a13d55 g1001 hi.2.1) | omega) kx
  refine z_const X (show cdA 312 0 = some (.iconst 0, 1, 0, 0, 0) from rfl) ?_
  refine z_store_n X (lv' := [(2, .int (Int32.ofInt 0)), (0, .ref (A 89)), (1, .int (Int32.ofInt x))]) (show cdA 312 1 = some (.istore_n 2, 1, 0, 0, 0) from rfl) (by decide) (fun _ h => h) ?_
  refine z_aload_n X (x := A 89) (show cdA 312 2 = some (.aload_n 0, 1, 0, 0, 0) from rfl) (List.Mem.tail _ (List.Mem.head _)) ?_
  refine z_alen X 89 (show cdA 312 3 = some (.arraylength, 1, 0, 0, 0) from rfl) (by decide) rfl rfl ?_
  refine z_store_n X (lv' := [(3, .int (Int32.ofInt 256)), (2, .int (Int32.ofInt 0)), (0, .ref (A 89)), (1, .int (Int32.ofInt x))]) (show cdA 312 4 = some (.istore_n 3, 1, 0, 0, 0) from rfl) (by decide) (fun _ h => h) ?_
  refine WS_lv (lv := [(0, .ref (A 89)), (1, .int (Int32.ofInt x)), (2, .int (Int32.ofInt 0)), (3, .int (Int32.ofInt 256))]) (List.forall_mem_cons.mpr ⟨(List.Mem.tail _ (List.Mem.tail _ (List.Mem.head _))), (List.forall_mem_cons.mpr ⟨(List.Mem.tail _ (List.Mem.tail _ (List.Mem.tail _ (List.Mem.head _)))), (List.forall_mem_cons.mpr ⟨(List.Mem.tail _ (List.Mem.head _)), (List.forall_mem_cons.mpr ⟨(List.Mem.head _), (fun q h => absurd h List.not_mem_nil)⟩)⟩)⟩)⟩) ?_
  refine L5 ((256 - 0 : Int).toNat + 1) s x 0 256 I F (by first | exact ⟨And.intro (p0.1) (p0.2), by decide, by decide, by decide⟩ | omega) (Nat.lt_succ_self _) ?_
  intro s1 x2 Is1 Fs1 hs1
  exact w_vret X.1 q hRt (ax_d X (show cdA 312 20 = some (.return_, 1, 0, 0, 0) from rfl)) (Nat.zero_le _) (Nat.zero_le _) ⟨_, rfl, Is1, Fs1, rfl, trivial⟩
set_option maxRecDepth 4000 in
theorem j_fill_90 (G : GX l s0 D tys a0 dT) (I : Bd s) {x : Int} (p0 : (-2147483648) ≤ x ∧ x ≤ 2147483647) : CT l s0 D A dT 312 (rmN 312) [.ref (A 90), .int (Int32.ofInt x)] s (fun o t => Bd t ∧ Fm [] [77] s t ∧ o = .inl none ∧ (True)) := by
  refine ct_ofX G (by decide) (Nat.le_of_ble_eq_true rfl) (fun k X E ET hRt hXt q => ?_)
  show WS k 0 [(0, .ref (A 90)), (1, .int (Int32.ofInt x))] [] _ 0 0
  have F : Fm [] [77] s s := fm_rf _ _ s
  have L5 : ∀ (n : Nat) (t : PS) (xv c ln : Int), Bd t → Fm [] [77] s t → (((-2147483648) ≤ xv ∧ xv ≤ 2147483647) ∧ ln = 128 ∧ 0 ≤ c ∧ c ≤ 128) → (128 - c : Int).toNat < n → (∀ (t' : PS) (c' : Int), Bd t' → Fm [] [77] s t' → (((-2147483648) ≤ xv ∧ xv ≤ 2147483647) ∧ ln = 128 ∧ 0 ≤ c' ∧ c' ≤ 128) → WS k 20 [(0, .ref (A 90)), (1, .int (Int32.ofInt xv)), (2, .int (Int32.ofInt c')), (3, .int (Int32.ofInt ln))] [] (Wd A dT t') 0 0) → WS k 5 [(0, .ref (A 90)), (1, .int (Int32.ofInt xv)), (2, .int (Int32.ofInt c)), (3, .int (Int32.ofInt ln))] [] (Wd A dT t) 0 0 := by
    intro n
    induction n with
    | zero =>
      intro t xv c ln I F hi hm kx
      exact absurd hm (Nat.not_lt_zero _)
    | succ n ih =>
      intro t xv c ln I F hi hm kx
      refine z_load_n X (x := c) (show cdA 312 5 = some (.iload_n 2, 1, 0, 0, 0) from rfl) (List.Mem.tail _ (List.Mem.tail _ (List.Mem.head _))) ?_
      refine z_load_n X (x := ln) (show cdA 312 6 = some (.iload_n 3, 1, 0, 0, 0) from rfl) (List.Mem.tail _ (List.Mem.tail _ (List.Mem.tail _ (List.Mem.head _)))) ?_
      refine z_icmp_ge X (t := 20) (show cdA 312 7 = some (.if_icmp .ge 13, 3, 3, 0, 0) from rfl) (by decide) ⟨by first | exact oq_fa4e5087 hi.2.2.1 | omega, by first | exact oq_4ee82282 hi.2.2.2 | omega⟩ ⟨by first | exact oq_b73d3f00 hi.2.1 | omega, by first | exact oq_5d97283a hi.2.1 | omega⟩ (fun g1001 => ?_) (fun g1001 => ?_)
      ·
        refine WS_lv (lv := [(0, .ref (A 90)), (1, .int (Int32.ofInt xv)), (2, .int (Int32.ofInt c)), (3, .int (Int32.ofInt ln))]) (List.forall_mem_cons.mpr ⟨(List.Mem.head _), (List.forall_mem_cons.mpr ⟨(List.Mem.tail _ (List.Mem.head _)), (List.forall_mem_cons.mpr ⟨(List.Mem.tail _ (List.Mem.tail _ (List.Mem.head _))), (List.forall_mem_cons.mpr ⟨(List.Mem.tail _ (List.Mem.tail _ (List.Mem.tail _ (List.Mem.head _)))), (fun q h => absurd h List.not_mem_nil)⟩)⟩)⟩)⟩) ?_
        exact kx _ c I F (by first | exact ⟨And.intro (hi.1.1) (hi.1.2), hi.2.1, hi.2.2.1, hi.2.2.2⟩ | omega)
      ·
        refine z_aload_n X (x := A 90) (show cdA 312 10 = some (.aload_n 0, 1, 0, 0, 0) from rfl) (List.Mem.head _) ?_
        refine z_load_n X (x := c) (show cdA 312 11 = some (.iload_n 2, 1, 0, 0, 0) from rfl) (List.Mem.tail _ (List.Mem.tail _ (List.Mem.head _))) ?_
        refine z_load_n X (x := xv) (show cdA 312 12 = some (.iload_n 1, 1, 0, 0, 0) from rfl) (List.Mem.tail _ (List.Mem.head _)) ?_
        refine z_ast X 90 (show cdA 312 13 = some (.iastore, 1, 0, 0, 0) from rfl) (by decide) rfl (by first | exact hi.2.2.1 | omega) (show c < 128 by first | exact oq_9ea9f5fe g1001 hi.2.1 | omega) (by decide) ?_
        obtain ⟨s1002, hs1002⟩ : ∃ x0, x0 = uC t 77 (c).toNat (Int32.ofInt xv) := ⟨_, rfl⟩
        rw [← hs1002]
        have Is1002 : Bd s1002 := by rw [hs1002]; exact bd_C I (show ((-2147483648) : Int) ≤ xv ∧ xv ≤ 2147483647 by first | exact ⟨hi.1.1, hi.1.2⟩ | omega) ⟨by first | exact hi.1.1 | omega, by first | exact hi.1.2 | omega⟩
        have Fs1002 := fm_C (i := (c).toNat) (x := Int32.ofInt xv) F (show 77 ∈ _ by decide)
        rw [← hs1002] at Fs1002
        refine z_inc X (x := c) (lv' := [(2, .int (Int32.ofInt (c + 1))), (0, .ref (A 90)), (1, .int (Int32.ofInt xv)), (3, .int (Int32.ofInt ln))]) (show cdA 312 14 = some (.iinc 2 1, 3, 0, 0, 0) from rfl) (by decide) (List.Mem.tail _ (List.Mem.tail _ (List.Mem.head _))) (fun _ h => h) ?_
        refine z_goto X (t := 5) (show cdA 312 17 = some (.goto (-12), 3, 0, 0, 0) from rfl) (by decide) ?_
        refine WS_lv (lv := [(0, .ref (A 90)), (1, .int (Int32.ofInt xv)), (2, .int (Int32.ofInt (c + 1))), (3, .int (Int32.ofInt ln))]) (List.forall_mem_cons.mpr ⟨(List.Mem.tail _ (List.Mem.head _)), (List.forall_mem_cons.mpr ⟨(List.Mem.tail _ (List.Mem.tail _ (List.Mem.head _))), (List.forall_mem_cons.mpr ⟨(List.Mem.head _), (List.forall_mem_cons.mpr ⟨(List.Mem.tail _ (List.Mem.tail _ (List.Mem.tail _ (List.Mem.head _)))), (fun q h => absurd h List.not_mem_nil)⟩)⟩)⟩)⟩) ?_
        exact ih _ xv (c + 1) ln Is1002 Fs1002 (by first | exact ⟨And.intro (hi.1.1) (hi.1.2), hi.2.1, oq_54f49eb5 hi.2.2.1, oq_b5166a24 g1001 hi.2.1⟩ | omega) (by first | exact qk_me hm (by decide) (oq_49db1926 g1001 hi.2.1) | omega) kx
  refine z_const X (show cdA 312 0 = some (.iconst 0, 1, 0, 0, 0) from rfl) ?_
  refine z_store_n X (lv' := [(2, .int (Int32.ofInt 0)), (0, .ref (A 90)), (1, .int (Int32.ofInt x))]) (show cdA 312 1 = some (.istore_n 2, 1, 0, 0, 0) from rfl) (by decide) (fun _ h => h) ?_
  refine z_aload_n X (x := A 90) (show cdA 312 2 = some (.aload_n 0, 1, 0, 0, 0) from rfl) (List.Mem.tail _ (List.Mem.head _)) ?_
  refine z_alen X 90 (show cdA 312 3 = some (.arraylength, 1, 0, 0, 0) from rfl) (by decide) rfl rfl ?_
  refine z_store_n X (lv' := [(3, .int (Int32.ofInt 128)), (2, .int (Int32.ofInt 0)), (0, .ref (A 90)), (1, .int (Int32.ofInt x))]) (show cdA 312 4 = some (.istore_n 3, 1, 0, 0, 0) from rfl) (by decide) (fun _ h => h) ?_
  refine WS_lv (lv := [(0, .ref (A 90)), (1, .int (Int32.ofInt x)), (2, .int (Int32.ofInt 0)), (3, .int (Int32.ofInt 128))]) (List.forall_mem_cons.mpr ⟨(List.Mem.tail _ (List.Mem.tail _ (List.Mem.head _))), (List.forall_mem_cons.mpr ⟨(List.Mem.tail _ (List.Mem.tail _ (List.Mem.tail _ (List.Mem.head _)))), (List.forall_mem_cons.mpr ⟨(List.Mem.tail _ (List.Mem.head _)), (List.forall_mem_cons.mpr ⟨(List.Mem.head _), (fun q h => absurd h List.not_mem_nil)⟩)⟩)⟩)⟩) ?_
  refine L5 ((128 - 0 : Int).toNat + 1) s x 0 128 I F (by first | exact ⟨And.intro (p0.1) (p0.2), by decide, by decide, by decide⟩ | omega) (Nat.lt_succ_self _) ?_
  intro s1 x2 Is1 Fs1 hs1
  exact w_vret X.1 q hRt (ax_d X (show cdA 312 20 = some (.return_, 1, 0, 0, 0) from rfl)) (Nat.zero_le _) (Nat.zero_le _) ⟨_, rfl, Is1, Fs1, rfl, trivial⟩
set_option maxRecDepth 4000 in
theorem j_fill_178 (G : GX l s0 D tys a0 dT) (I : Bd s) {x : Int} (p0 : (-2147483648) ≤ x ∧ x ≤ 2147483647) : CT l s0 D A dT 312 (rmN 312) [.ref (A 178), .int (Int32.ofInt x)] s (fun o t => Bd t ∧ Fm [] [156] s t ∧ o = .inl none ∧ (True)) := by
  refine ct_ofX G (by decide) (Nat.le_of_ble_eq_true rfl) (fun k X E ET hRt hXt q => ?_)
  show WS k 0 [(0, .ref (A 178)), (1, .int (Int32.ofInt x))] [] _ 0 0
  have F : Fm [] [156] s s := fm_rf _ _ s
  have L5 : ∀ (n : Nat) (t : PS) (xv c ln : Int), Bd t → Fm [] [156] s t → (((-2147483648) ≤ xv ∧ xv ≤ 2147483647) ∧ ln = 4 ∧ 0 ≤ c ∧ c ≤ 4) → (4 - c : Int).toNat < n → (∀ (t' : PS) (c' : Int), Bd t' → Fm [] [156] s t' → (((-2147483648) ≤ xv ∧ xv ≤ 2147483647) ∧ ln = 4 ∧ 0 ≤ c' ∧ c' ≤ 4) → WS k 20 [(0, .ref (A 178)), (1, .int (Int32.ofInt xv)), (2, .int (Int32.ofInt c')), (3, .int (Int32.ofInt ln))] [] (Wd A dT t') 0 0) → WS k 5 [(0, .ref (A 178)), (1, .int (Int32.ofInt xv)), (2, .int (Int32.ofInt c)), (3, .int (Int32.ofInt ln))] [] (Wd A dT t) 0 0 := by
    intro n
    induction n with
    | zero =>
      intro t xv c ln I F hi hm kx
      exact absurd hm (Nat.not_lt_zero _)
    | succ n ih =>
      intro t xv c ln I F hi hm kx
      refine z_load_n X (x := c) (show cdA 312 5 = some (.iload_n 2, 1, 0, 0, 0) from rfl) (List.Mem.tail _ (List.Mem.tail _ (List.Mem.head _))) ?_
      refine z_load_n X (x := ln) (show cdA 312 6 = some (.iload_n 3, 1, 0, 0, 0) from rfl) (List.Mem.tail _ (List.Mem.tail _ (List.Mem.tail _ (List.Mem.head _)))) ?_
      refine z_icmp_ge X (t := 20) (show cdA 312 7 = some (.if_icmp .ge 13, 3, 3, 0, 0) from rfl) (by decide) ⟨by first | exact oq_fa4e5087 hi.2.2.1 | omega, by first | exact oq_4a4414da hi.2.2.2 | omega⟩ ⟨by first | exact oq_92a22ab8 hi.2.1 | omega, by first | exact oq_422db60c hi.2.1 | omega⟩ (fun g1001 => ?_) (fun g1001 => ?_)
      ·
        refine WS_lv (lv := [(0, .ref (A 178)), (1, .int (Int32.ofInt xv)), (2, .int (Int32.ofInt c)), (3, .int (Int32.ofInt ln))]) (List.forall_mem_cons.mpr ⟨(List.Mem.head _), (List.forall_mem_cons.mpr ⟨(List.Mem.tail _ (List.Mem.head _)), (List.forall_mem_cons.mpr ⟨(List.Mem.tail _ (List.Mem.tail _ (List.Mem.head _))), (List.forall_mem_cons.mpr ⟨(List.Mem.tail _ (List.Mem.tail _ (List.Mem.tail _ (List.Mem.head _)))), (fun q h => absurd h List.not_mem_nil)⟩)⟩)⟩)⟩) ?_
        exact kx _ c I F (by first | exact ⟨And.intro (hi.1.1) (hi.1.2), hi.2.1, hi.2.2.1, hi.2.2.2⟩ | omega)
      ·
        refine z_aload_n X (x := A 178) (show cdA 312 10 = some (.aload_n 0, 1, 0, 0, 0) from rfl) (List.Mem.head _) ?_
        refine z_load_n X (x := c) (show cdA 312 11 = some (.iload_n 2, 1, 0, 0, 0) from rfl) (List.Mem.tail _ (List.Mem.tail _ (List.Mem.head _))) ?_
        refine z_load_n X (x := xv) (show cdA 312 12 = some (.iload_n 1, 1, 0, 0, 0) from rfl) (List.Mem.tail _ (List.Mem.head _)) ?_
        refine z_ast X 178 (show cdA 312 13 = some (.iastore, 1, 0, 0, 0) from rfl) (by decide) rfl (by first | exact hi.2.2.1 | omega) (show c < 4 by first | exact oq_8e4b0007 g1001 hi.2.1 | omega) (by decide) ?_
        obtain ⟨s1002, hs1002⟩ : ∃ x0, x0 = uC t 156 (c).toNat (Int32.ofInt xv) := ⟨_, rfl⟩
        rw [← hs1002]
        have Is1002 : Bd s1002 := by rw [hs1002]; exact bd_C I (show ((-2147483648) : Int) ≤ xv ∧ xv ≤ 2147483647 by first | exact ⟨hi.1.1, hi.1.2⟩ | omega) ⟨by first | exact hi.1.1 | omega, by first | exact hi.1.2 | omega⟩
        have Fs1002 := fm_C (i := (c).toNat) (x := Int32.ofInt xv) F (show 156 ∈ _ by decide)
        rw [← hs1002] at Fs1002
        refine z_inc X (x := c) (lv' := [(2, .int (Int32.ofInt (c + 1))), (0, .ref (A 178)), (1, .int (Int32.ofInt xv)), (3, .int (Int32.ofInt ln))]) (show cdA 312 14 = some (.iinc 2 1, 3, 0, 0, 0) from rfl) (by decide) (List.Mem.tail _ (List.Mem.tail _ (List.Mem.head _))) (fun _ h => h) ?_
        refine z_goto X (t := 5) (show cdA 312 17 = some (.goto (-12), 3, 0, 0, 0) from rfl) (by decide) ?_
        refine WS_lv (lv := [(0, .ref (A 178)), (1, .int (Int32.ofInt xv)), (2, .int (Int32.ofInt (c + 1))), (3, .int (Int32.ofInt ln))]) (List.forall_mem_cons.mpr ⟨(List.Mem.tail _ (List.Mem.head _)), (List.forall_mem_cons.mpr ⟨(List.Mem.tail _ (List.Mem.tail _ (List.Mem.head _))), (List.forall_mem_cons.mpr ⟨(List.Mem.head _), (List.forall_mem_cons.mpr ⟨(List.Mem.tail _ (List.Mem.tail _ (List.Mem.tail _ (List.Mem.head _)))), (fun q h => absurd h List.not_mem_nil)⟩)⟩)⟩)⟩) ?_
        exact ih _ xv (c + 1) ln Is1002 Fs1002 (by first | exact ⟨And.intro (hi.1.1) (hi.1.2), hi.2.1, oq_54f49eb5 hi.2.2.1, oq_e56bd98a g1001 hi.2.1⟩ | omega) (by first | exact qk_me hm (by decide) (oq_a6efd014 g1001 hi.2.1) | omega) kx
  refine z_const X (show cdA 312 0 = some (.iconst 0, 1, 0, 0, 0) from rfl) ?_
  refine z_store_n X (lv' := [(2, .int (Int32.ofInt 0)), (0, .ref (A 178)), (1, .int (Int32.ofInt x))]) (show cdA 312 1 = some (.istore_n 2, 1, 0, 0, 0) from rfl) (by decide) (fun _ h => h) ?_
  refine z_aload_n X (x := A 178) (show cdA 312 2 = some (.aload_n 0, 1, 0, 0, 0) from rfl) (List.Mem.tail _ (List.Mem.head _)) ?_
  refine z_alen X 178 (show cdA 312 3 = some (.arraylength, 1, 0, 0, 0) from rfl) (by decide) rfl rfl ?_
  refine z_store_n X (lv' := [(3, .int (Int32.ofInt 4)), (2, .int (Int32.ofInt 0)), (0, .ref (A 178)), (1, .int (Int32.ofInt x))]) (show cdA 312 4 = some (.istore_n 3, 1, 0, 0, 0) from rfl) (by decide) (fun _ h => h) ?_
  refine WS_lv (lv := [(0, .ref (A 178)), (1, .int (Int32.ofInt x)), (2, .int (Int32.ofInt 0)), (3, .int (Int32.ofInt 4))]) (List.forall_mem_cons.mpr ⟨(List.Mem.tail _ (List.Mem.tail _ (List.Mem.head _))), (List.forall_mem_cons.mpr ⟨(List.Mem.tail _ (List.Mem.tail _ (List.Mem.tail _ (List.Mem.head _)))), (List.forall_mem_cons.mpr ⟨(List.Mem.tail _ (List.Mem.head _)), (List.forall_mem_cons.mpr ⟨(List.Mem.head _), (fun q h => absurd h List.not_mem_nil)⟩)⟩)⟩)⟩) ?_
  refine L5 ((4 - 0 : Int).toNat + 1) s x 0 4 I F (by first | exact ⟨And.intro (p0.1) (p0.2), by decide, by decide, by decide⟩ | omega) (Nat.lt_succ_self _) ?_
  intro s1 x2 Is1 Fs1 hs1
  exact w_vret X.1 q hRt (ax_d X (show cdA 312 20 = some (.return_, 1, 0, 0, 0) from rfl)) (Nat.zero_le _) (Nat.zero_le _) ⟨_, rfl, Is1, Fs1, rfl, trivial⟩
set_option maxRecDepth 4000 in
theorem c10_take_1 (G : GX l s0 D tys a0 dT) (I : Bd s) {x : Int} (p0 : rng x) (p1 : iI s 0 ≤ 196) : CT l s0 D A dT 127 (rmN 127) [.ref (A 1), .int (Int32.ofInt x)] s (fun o t => Bd t ∧ Fm [0] [0] s t ∧ o = .inl none ∧ (iI t 0 = iI s 0 + 4)) := by
  refine ct_ofX G (by decide) (Nat.le_of_ble_eq_true rfl) (fun k X E ET hRt hXt q => ?_)
  show WS k 0 [(0, .ref (A 1)), (1, .int (Int32.ofInt x))] [] _ 0 0
  have F : Fm [0] [0] s s := fm_rf _ _ s
  have b1 : (0 : Int) ≤ iI s 0 ∧ iI s 0 ≤ 200 := I.1 0
  have L3 : ∀ (n : Nat) (t : PS) (xv sh : Int), Bd t → Fm [0] [0] s t → (rng xv ∧ -8 ≤ sh ∧ sh ≤ 24 ∧ 8 * (iI t 0 - iI s 0) = 24 - sh ∧ iI s 0 ≤ 196) → (sh + 8 : Int).toNat < n → (∀ (t' : PS) (sh' : Int), Bd t' → Fm [0] [0] s t' → (iI t' 0 = iI s 0 + 4) → WS k 49 [(0, .ref (A 1)), (1, .int (Int32.ofInt xv)), (2, .int (Int32.ofInt sh'))] [] (Wd A dT t') 0 0) → WS k 3 [(0, .ref (A 1)), (1, .int (Int32.ofInt xv)), (2, .int (Int32.ofInt sh))] [] (Wd A dT t) 0 0 := by
    intro n
    induction n with
    | zero =>
      intro t xv sh I F hi hm kx
      exact absurd hm (Nat.not_lt_zero _)
    | succ n ih =>
      intro t xv sh I F hi hm kx
      have b1001 : (0 : Int) ≤ iI t 0 ∧ iI t 0 ≤ 200 := I.1 0
      refine z_load_n X (x := sh) (show cdA 127 3 = some (.iload_n 2, 1, 0, 0, 0) from rfl) (List.Mem.tail _ (List.Mem.tail _ (List.Mem.head _))) ?_
      refine z_if_lt X (t := 49) (show cdA 127 4 = some (.ifCond .lt 45, 3, 2, 0, 0) from rfl) (by decide) ⟨by first | exact oq_cdc8ead0 hi.2.1 | omega, by first | exact oq_5bcd337f hi.2.2.1 | omega⟩ (fun g1002 => ?_) (fun g1002 => ?_)
      ·
        refine WS_lv (lv := [(0, .ref (A 1)), (1, .int (Int32.ofInt xv)), (2, .int (Int32.ofInt sh))]) (List.forall_mem_cons.mpr ⟨(List.Mem.head _), (List.forall_mem_cons.mpr ⟨(List.Mem.tail _ (List.Mem.head _)), (List.forall_mem_cons.mpr ⟨(List.Mem.tail _ (List.Mem.tail _ (List.Mem.head _))), (fun q h => absurd h List.not_mem_nil)⟩)⟩)⟩) ?_
        exact kx _ sh I F (by first | exact oq_29081f78 g1002 hi.2.2.2.1 hi.2.1 | omega)
      ·
        refine z_aload_n X (x := A 1) (show cdA 127 7 = some (.aload_n 0, 1, 0, 0, 0) from rfl) (List.Mem.head _) ?_
        refine z_getI X 1 (show cdA 127 8 = some (.getfield 19, 3, 10, 1, 0) from rfl) (by decide) rfl rfl ?_
        have b1003 : (0 : Int) ≤ iI t 0 ∧ iI t 0 ≤ 200 := I.1 0
        refine z_sipush X (show cdA 127 11 = some (.sipush 200, 3, 0, 0, 200) from rfl) ?_
        refine z_icmp_ge X (t := 49) (show cdA 127 14 = some (.if_icmp .ge 35, 3, 3, 0, 0) from rfl) (by decide) (rng_to _) (by decide) (fun g1004 => ?_) (fun g1004 => ?_)
        ·
          refine WS_lv (lv := [(0, .ref (A 1)), (1, .int (Int32.ofInt xv)), (2, .int (Int32.ofInt sh))]) (List.forall_mem_cons.mpr ⟨(List.Mem.head _), (List.forall_mem_cons.mpr ⟨(List.Mem.tail _ (List.Mem.head _)), (List.forall_mem_cons.mpr ⟨(List.Mem.tail _ (List.Mem.tail _ (List.Mem.head _))), (fun q h => absurd h List.not_mem_nil)⟩)⟩)⟩) ?_
          exact kx _ sh I F (by first | exact oq_df4503f1 g1004 g1002 hi.2.2.2.2 hi.2.2.2.1 | omega)
        ·
          refine z_aload_n X (x := A 1) (show cdA 127 17 = some (.aload_n 0, 1, 0, 0, 0) from rfl) (List.Mem.head _) ?_
          refine s_getR X 1 (show cdA 127 18 = some (.getfield 11, 3, 10, 0, 0) from rfl) (by decide) rfl rfl ?_
          refine z_aload_n X (x := A 1) (show cdA 127 21 = some (.aload_n 0, 1, 0, 0, 0) from rfl) (List.Mem.head _) ?_
          refine z_getI X 1 (show cdA 127 22 = some (.getfield 19, 3, 10, 1, 0) from rfl) (by decide) rfl rfl ?_
          have b1005 : (0 : Int) ≤ iI t 0 ∧ iI t 0 ≤ 200 := I.1 0
          refine z_load_n X (x := xv) (show cdA 127 25 = some (.iload_n 1, 1, 0, 0, 0) from rfl) (List.Mem.tail _ (List.Mem.head _)) ?_
          refine z_load_n X (x := sh) (show cdA 127 26 = some (.iload_n 2, 1, 0, 0, 0) from rfl) (List.Mem.tail _ (List.Mem.tail _ (List.Mem.head _))) ?_
          refine w_iushr X.1 (ax_d X (show cdA 127 27 = some (.iushr, 1, 0, 0, 0) from rfl)) ?_
          refine z_any (fun y1006 hy1006 => ?_)
          refine z_sipush X (show cdA 127 28 = some (.sipush 255, 3, 0, 0, 255) from rfl) ?_
          refine z_andm X (show cdA 127 31 = some (.iand, 1, 0, 0, 0) from rfl) (by decide) (by decide) (fun y1007 hy1007 gy1007 => ?_)
          refine z_ast X 2 (show cdA 127 32 = some (.iastore, 1, 0, 0, 0) from rfl) (by decide) rfl (by first | exact b1005.1 | omega) (show (iI t 0) < 200 by first | exact g1004 | omega) (by decide) ?_
          obtain ⟨s1008, hs1008⟩ : ∃ x0, x0 = uC t 0 ((iI t 0)).toNat (Int32.ofInt y1007) := ⟨_, rfl⟩
          rw [← hs1008]
          have Is1008 : Bd s1008 := by rw [hs1008]; exact bd_C I (show (0 : Int) ≤ y1007 ∧ y1007 ≤ 255 by first | exact ⟨hy1007, gy1007⟩ | omega) ⟨by first | exact oq_fa4e5087 hy1007 | omega, by first | exact oq_4567a937 gy1007 | omega⟩
          have Fs1008 := fm_C (i := ((iI t 0)).toNat) (x := Int32.ofInt y1007) F (show 0 ∈ _ by decide)
          rw [← hs1008] at Fs1008
          have ws1008_0 : iI s1008 0 = iI t 0 := by rw [hs1008]; rfl
          refine z_aload_n X (x := A 1) (show cdA 127 33 = some (.aload_n 0, 1, 0, 0, 0) from rfl) (List.Mem.head _) ?_
          refine w_dup X.1 (ax_d X (show cdA 127 34 = some (.dup, 1, 0, 0, 0) from rfl)) rfl ?_
          refine z_getI X 1 (show cdA 127 35 = some (.getfield 19, 3, 10, 1, 0) from rfl) (by decide) rfl rfl ?_
          have b1009 : (0 : Int) ≤ iI s1008 0 ∧ iI s1008 0 ≤ 200 := Is1008.1 0
          refine z_const X (show cdA 127 38 = some (.iconst 1, 1, 0, 0, 0) from rfl) ?_
          refine z_add X (show cdA 127 39 = some (.iadd, 1, 0, 0, 0) from rfl) ?_
          refine s_putI X 1 (show cdA 127 40 = some (.putfield 19, 3, 10, 1, 0) from rfl) (by decide) rfl rfl (by decide) rfl rfl rfl ?_
          obtain ⟨s1010, hs1010⟩ : ∃ x0, x0 = uI s1008 0 (Int32.ofInt ((iI s1008 0) + 1)) := ⟨_, rfl⟩
          rw [← hs1010]
          have Is1010 : Bd s1010 := by rw [hs1010]; exact bd_I Is1008 (show (0 : Int) ≤ ((iI s1008 0) + 1) ∧ ((iI s1008 0) + 1) ≤ 200 by first | exact ⟨oq_54f49eb5 b1009.1, oq_c35a0598 ws1008_0 g1004⟩ | omega) ⟨by first | exact oq_74de1e16 b1009.1 | omega, by first | exact oq_bb8d498d b1009.2 | omega⟩
          have Fs1010 := fm_I (x := Int32.ofInt ((iI s1008 0) + 1)) Fs1008 (show 0 ∈ _ by decide)
          rw [← hs1010] at Fs1010
          have vs1010 : iI s1010 0 = ((iI s1008 0) + 1) := by rw [hs1010]; exact iI_u ⟨by first | exact oq_74de1e16 b1009.1 | omega, by first | exact oq_bb8d498d b1009.2 | omega⟩
          refine z_inc X (x := sh) (lv' := [(2, .int (Int32.ofInt (sh + (-8)))), (0, .ref (A 1)), (1, .int (Int32.ofInt xv))]) (show cdA 127 43 = some (.iinc 2 (-8), 3, 0, 0, 0) from rfl) (by decide) (List.Mem.tail _ (List.Mem.tail _ (List.Mem.head _))) (fun _ h => h) ?_
          refine z_goto X (t := 3) (show cdA 127 46 = some (.goto (-43), 3, 0, 0, 0) from rfl) (by decide) ?_
          refine WS_lv (lv := [(0, .ref (A 1)), (1, .int (Int32.ofInt xv)), (2, .int (Int32.ofInt (sh + (-8))))]) (List.forall_mem_cons.mpr ⟨(List.Mem.tail _ (List.Mem.head _)), (List.forall_mem_cons.mpr ⟨(List.Mem.tail _ (List.Mem.tail _ (List.Mem.head _))), (List.forall_mem_cons.mpr ⟨(List.Mem.head _), (fun q h => absurd h List.not_mem_nil)⟩)⟩)⟩) ?_
          exact ih _ xv (sh + (-8)) Is1010 Fs1010 (by first | exact ⟨And.intro (hi.1.1) (hi.1.2), oq_3698b0a5 g1002, oq_9c9995fa hi.2.2.1, oq_a0330f4f vs1010 hi.2.2.2.1 ws1008_0, hi.2.2.2.2⟩ | omega) (by first | exact qk_me hm (by decide) (oq_8b83adc9 g1002) | omega) kx
  refine z_bipush X (show cdA 127 0 = some (.bipush 24, 2, 0, 0, 24) from rfl) ?_
  refine z_store_n X (lv' := [(2, .int (Int32.ofInt 24)), (0, .ref (A 1)), (1, .int (Int32.ofInt x))]) (show cdA 127 2 = some (.istore_n 2, 1, 0, 0, 0) from rfl) (by decide) (fun _ h => h) ?_
  refine WS_lv (lv := [(0, .ref (A 1)), (1, .int (Int32.ofInt x)), (2, .int (Int32.ofInt 24))]) (List.forall_mem_cons.mpr ⟨(List.Mem.tail _ (List.Mem.head _)), (List.forall_mem_cons.mpr ⟨(List.Mem.tail _ (List.Mem.tail _ (List.Mem.head _))), (List.forall_mem_cons.mpr ⟨(List.Mem.head _), (fun q h => absurd h List.not_mem_nil)⟩)⟩)⟩) ?_
  refine L3 ((24 + 8 : Int).toNat + 1) s x 24 I F (by first | exact ⟨And.intro (p0.1) (p0.2), by decide, by decide, by decide, p1⟩ | omega) (Nat.lt_succ_self _) ?_
  intro s2 x3 Is2 Fs2 hs2
  have b4 : (0 : Int) ≤ iI s2 0 ∧ iI s2 0 ≤ 200 := Is2.1 0
  exact w_vret X.1 q hRt (ax_d X (show cdA 127 49 = some (.return_, 1, 0, 0, 0) from rfl)) (Nat.zero_le _) (Nat.zero_le _) ⟨_, rfl, Is2, Fs2, rfl, by first | exact hs2 | omega⟩
set_option maxRecDepth 4000 in
theorem c10_takeAll_1 (G : GX l s0 D tys a0 dT) (I : Bd s) {x1 x2 x3 x4 x5 : Int} (p0 : rng x1) (p1 : rng x2) (p2 : rng x3) (p3 : rng x4) (p4 : rng x5) : CT l s0 D A dT 126 (rmN 126) [.ref (A 1), .int (Int32.ofInt x1), .int (Int32.ofInt x2), .int (Int32.ofInt x3), .int (Int32.ofInt x4), .int (Int32.ofInt x5)] s (fun o t => Bd t ∧ Fm [0] [0] s t ∧ ∃ e, o = .inl (some (.int (Int32.ofInt e))) ∧ rng e ∧ ((iI s 0 ≤ 180 ∧ iI t 0 = iI s 0 + 20 ∧ e = iI t 0) ∨ (180 < iI s 0 ∧ iI t 0 = iI s 0 ∧ e = -1))) := by
  refine ct_ofX G (by decide) (Nat.le_of_ble_eq_true rfl) (fun k X E ET hRt hXt q => ?_)
  show WS k 0 [(0, .ref (A 1)), (1, .int (Int32.ofInt x1)), (2, .int (Int32.ofInt x2)), (3, .int (Int32.ofInt x3)), (4, .int (Int32.ofInt x4)), (5, .int (Int32.ofInt x5))] [] _ 0 0
  have F : Fm [0] [0] s s := fm_rf _ _ s
  have b1 : (0 : Int) ≤ iI s 0 ∧ iI s 0 ≤ 200 := I.1 0
  refine z_aload_n X (x := A 1) (show cdA 126 0 = some (.aload_n 0, 1, 0, 0, 0) from rfl) (List.Mem.head _) ?_
  refine z_getI X 1 (show cdA 126 1 = some (.getfield 19, 3, 10, 1, 0) from rfl) (by decide) rfl rfl ?_
  have b2 : (0 : Int) ≤ iI s 0 ∧ iI s 0 ≤ 200 := I.1 0
  refine z_bipush X (show cdA 126 4 = some (.bipush 20, 2, 0, 0, 20) from rfl) ?_
  refine z_add X (show cdA 126 6 = some (.iadd, 1, 0, 0, 0) from rfl) ?_
  refine z_sipush X (show cdA 126 7 = some (.sipush 200, 3, 0, 0, 200) from rfl) ?_
  refine z_icmp_le X (t := 15) (show cdA 126 10 = some (.if_icmp .le 5, 3, 5, 0, 0) from rfl) (by decide) ⟨by first | exact oq_0de1c162 b2.1 | omega, by first | exact oq_ed776728 b2.2 | omega⟩ (by decide) (fun g3 => ?_) (fun g3 => ?_)
  ·
    refine z_aload_n X (x := A 1) (show cdA 126 15 = some (.aload_n 0, 1, 0, 0, 0) from rfl) (List.Mem.head _) ?_
    refine z_load_n X (x := x1) (show cdA 126 16 = some (.iload_n 1, 1, 0, 0, 0) from rfl) (List.Mem.tail _ (List.Mem.head _)) ?_
    refine z_callV X 1 (rm := rmN 127) (As := [.int (Int32.ofInt x1)]) (st := []) (show cdA 126 17 = some (.invokevirtual 22, 3, 127, 0, 0) from rfl) rfl (by decide) rfl (by rw [E.1, E.2.1, E.2.2.1]; exact c10_take_1 G I (by first | exact ⟨p0.1, p0.2⟩ | omega) (by first | exact oq_07cf5768 g3 | omega)) ⟨by rw [E.2.2.2]; exact (show (rmN 127).frames + 1 ≤ (rmN 126).frames by decide), by rw [E.2.2.2]; exact (show 8 + (mNL (miB 127) + 11) + (rmN 127).locals ≤ (rmN 126).locals by decide), by rw [E.2.2.2]; exact (show 0 + (rmN 127).cells ≤ (rmN 126).cells by decide), by rw [E.2.2.2]; exact (show 0 + (rmN 127).slots ≤ (rmN 126).slots by decide)⟩ (Nat.le_of_ble_eq_true rfl) (fun vv s4 hq => ?_) (fun ee s4 hq => ?_)
    rotate_left
    · obtain ⟨Is4, Fs4, hv, hps4⟩ := hq; cases hv
    obtain ⟨Is4, Fs4, hv, hps4⟩ := hq
    cases hv
    have Gs4 := fm_ts F Fs4 (by decide) (by decide)
    have b6 : (0 : Int) ≤ iI s4 0 ∧ iI s4 0 ≤ 200 := Is4.1 0
    show WS k 20 [(0, .ref (A 1)), (1, .int (Int32.ofInt x1)), (2, .int (Int32.ofInt x2)), (3, .int (Int32.ofInt x3)), (4, .int (Int32.ofInt x4)), (5, .int (Int32.ofInt x5))] [] (Wd A dT s4) 0 0
    refine z_aload_n X (x := A 1) (show cdA 126 20 = some (.aload_n 0, 1, 0, 0, 0) from rfl) (List.Mem.head _) ?_
    refine z_load_n X (x := x2) (show cdA 126 21 = some (.iload_n 2, 1, 0, 0, 0) from rfl) (List.Mem.tail _ (List.Mem.tail _ (List.Mem.head _))) ?_
    refine z_callV X 1 (rm := rmN 127) (As := [.int (Int32.ofInt x2)]) (st := []) (show cdA 126 22 = some (.invokevirtual 22, 3, 127, 0, 0) from rfl) rfl (by decide) rfl (by rw [E.1, E.2.1, E.2.2.1]; exact c10_take_1 G Is4 (by first | exact ⟨p1.1, p1.2⟩ | omega) (by first | exact oq_3dd1fc40 hps4 g3 | omega)) ⟨by rw [E.2.2.2]; exact (show (rmN 127).frames + 1 ≤ (rmN 126).frames by decide), by rw [E.2.2.2]; exact (show 8 + (mNL (miB 127) + 11) + (rmN 127).locals ≤ (rmN 126).locals by decide), by rw [E.2.2.2]; exact (show 0 + (rmN 127).cells ≤ (rmN 126).cells by decide), by rw [E.2.2.2]; exact (show 0 + (rmN 127).slots ≤ (rmN 126).slots by decide)⟩ (Nat.le_of_ble_eq_true rfl) (fun vv s7 hq => ?_) (fun ee s7 hq => ?_)
    rotate_left
    · obtain ⟨Is7, Fs7, hv, hps7⟩ := hq; cases hv
    obtain ⟨Is7, Fs7, hv, hps7⟩ := hq
    cases hv
    have Gs7 := fm_ts Gs4 Fs7 (by decide) (by decide)
    have b9 : (0 : Int) ≤ iI s7 0 ∧ iI s7 0 ≤ 200 := Is7.1 0
    show WS k 25 [(0, .ref (A 1)), (1, .int (Int32.ofInt x1)), (2, .int (Int32.ofInt x2)), (3, .int (Int32.ofInt x3)), (4, .int (Int32.ofInt x4)), (5, .int (Int32.ofInt x5))] [] (Wd A dT s7) 0 0
    refine z_aload_n X (x := A 1) (show cdA 126 25 = some (.aload_n 0, 1, 0, 0, 0) from rfl) (List.Mem.head _) ?_
    refine z_load_n X (x := x3) (show cdA 126 26 = some (.iload_n 3, 1, 0, 0, 0) from rfl) (List.Mem.tail _ (List.Mem.tail _ (List.Mem.tail _ (List.Mem.head _)))) ?_
    refine z_callV X 1 (rm := rmN 127) (As := [.int (Int32.ofInt x3)]) (st := []) (show cdA 126 27 = some (.invokevirtual 22, 3, 127, 0, 0) from rfl) rfl (by decide) rfl (by rw [E.1, E.2.1, E.2.2.1]; exact c10_take_1 G Is7 (by first | exact ⟨p2.1, p2.2⟩ | omega) (by first | exact oq_456275d4 hps7 hps4 g3 | omega)) ⟨by rw [E.2.2.2]; exact (show (rmN 127).frames + 1 ≤ (rmN 126).frames by decide), by rw [E.2.2.2]; exact (show 8 + (mNL (miB 127) + 11) + (rmN 127).locals ≤ (rmN 126).locals by decide), by rw [E.2.2.2]; exact (show 0 + (rmN 127).cells ≤ (rmN 126).cells by decide), by rw [E.2.2.2]; exact (show 0 + (rmN 127).slots ≤ (rmN 126).slots by decide)⟩ (Nat.le_of_ble_eq_true rfl) (fun vv s10 hq => ?_) (fun ee s10 hq => ?_)
    rotate_left
    · obtain ⟨Is10, Fs10, hv, hps10⟩ := hq; cases hv
    obtain ⟨Is10, Fs10, hv, hps10⟩ := hq
    cases hv
    have Gs10 := fm_ts Gs7 Fs10 (by decide) (by decide)
    have b12 : (0 : Int) ≤ iI s10 0 ∧ iI s10 0 ≤ 200 := Is10.1 0
    show WS k 30 [(0, .ref (A 1)), (1, .int (Int32.ofInt x1)), (2, .int (Int32.ofInt x2)), (3, .int (Int32.ofInt x3)), (4, .int (Int32.ofInt x4)), (5, .int (Int32.ofInt x5))] [] (Wd A dT s10) 0 0
    refine z_aload_n X (x := A 1) (show cdA 126 30 = some (.aload_n 0, 1, 0, 0, 0) from rfl) (List.Mem.head _) ?_
    refine z_load X (x := x4) (show cdA 126 31 = some (.iload 4, 2, 0, 0, 0) from rfl) (List.Mem.tail _ (List.Mem.tail _ (List.Mem.tail _ (List.Mem.tail _ (List.Mem.head _))))) ?_
    refine z_callV X 1 (rm := rmN 127) (As := [.int (Int32.ofInt x4)]) (st := []) (show cdA 126 33 = some (.invokevirtual 22, 3, 127, 0, 0) from rfl) rfl (by decide) rfl (by rw [E.1, E.2.1, E.2.2.1]; exact c10_take_1 G Is10 (by first | exact ⟨p3.1, p3.2⟩ | omega) (by first | exact oq_3237836e hps10 hps7 hps4 g3 | omega)) ⟨by rw [E.2.2.2]; exact (show (rmN 127).frames + 1 ≤ (rmN 126).frames by decide), by rw [E.2.2.2]; exact (show 8 + (mNL (miB 127) + 11) + (rmN 127).locals ≤ (rmN 126).locals by decide), by rw [E.2.2.2]; exact (show 0 + (rmN 127).cells ≤ (rmN 126).cells by decide), by rw [E.2.2.2]; exact (show 0 + (rmN 127).slots ≤ (rmN 126).slots by decide)⟩ (Nat.le_of_ble_eq_true rfl) (fun vv s13 hq => ?_) (fun ee s13 hq => ?_)
    rotate_left
    · obtain ⟨Is13, Fs13, hv, hps13⟩ := hq; cases hv
    obtain ⟨Is13, Fs13, hv, hps13⟩ := hq
    cases hv
    have Gs13 := fm_ts Gs10 Fs13 (by decide) (by decide)
    have b15 : (0 : Int) ≤ iI s13 0 ∧ iI s13 0 ≤ 200 := Is13.1 0
    show WS k 36 [(0, .ref (A 1)), (1, .int (Int32.ofInt x1)), (2, .int (Int32.ofInt x2)), (3, .int (Int32.ofInt x3)), (4, .int (Int32.ofInt x4)), (5, .int (Int32.ofInt x5))] [] (Wd A dT s13) 0 0
    refine z_aload_n X (x := A 1) (show cdA 126 36 = some (.aload_n 0, 1, 0, 0, 0) from rfl) (List.Mem.head _) ?_
    refine z_load X (x := x5) (show cdA 126 37 = some (.iload 5, 2, 0, 0, 0) from rfl) (List.Mem.tail _ (List.Mem.tail _ (List.Mem.tail _ (List.Mem.tail _ (List.Mem.tail _ (List.Mem.head _)))))) ?_
    refine z_callV X 1 (rm := rmN 127) (As := [.int (Int32.ofInt x5)]) (st := []) (show cdA 126 39 = some (.invokevirtual 22, 3, 127, 0, 0) from rfl) rfl (by decide) rfl (by rw [E.1, E.2.1, E.2.2.1]; exact c10_take_1 G Is13 (by first | exact ⟨p4.1, p4.2⟩ | omega) (by first | exact oq_b36db626 hps13 hps10 hps7 hps4 g3 | omega)) ⟨by rw [E.2.2.2]; exact (show (rmN 127).frames + 1 ≤ (rmN 126).frames by decide), by rw [E.2.2.2]; exact (show 8 + (mNL (miB 127) + 11) + (rmN 127).locals ≤ (rmN 126).locals by decide), by rw [E.2.2.2]; exact (show 0 + (rmN 127).cells ≤ (rmN 126).cells by decide), by rw [E.2.2.2]; exact (show 0 + (rmN 127).slots ≤ (rmN 126).slots by decide)⟩ (Nat.le_of_ble_eq_true rfl) (fun vv s16 hq => ?_) (fun ee s16 hq => ?_)
    rotate_left
    · obtain ⟨Is16, Fs16, hv, hps16⟩ := hq; cases hv
    obtain ⟨Is16, Fs16, hv, hps16⟩ := hq
    cases hv
    have Gs16 := fm_ts Gs13 Fs16 (by decide) (by decide)
    have b18 : (0 : Int) ≤ iI s16 0 ∧ iI s16 0 ≤ 200 := Is16.1 0
    show WS k 42 [(0, .ref (A 1)), (1, .int (Int32.ofInt x1)), (2, .int (Int32.ofInt x2)), (3, .int (Int32.ofInt x3)), (4, .int (Int32.ofInt x4)), (5, .int (Int32.ofInt x5))] [] (Wd A dT s16) 0 0
    refine z_aload_n X (x := A 1) (show cdA 126 42 = some (.aload_n 0, 1, 0, 0, 0) from rfl) (List.Mem.head _) ?_
    refine z_getI X 1 (show cdA 126 43 = some (.getfield 19, 3, 10, 1, 0) from rfl) (by decide) rfl rfl ?_
    have b19 : (0 : Int) ≤ iI s16 0 ∧ iI s16 0 ≤ 200 := Is16.1 0
    exact w_iret X.1 q hRt rfl (ax_d X (show cdA 126 46 = some (.ireturn, 1, 0, 0, 0) from rfl)) (Nat.zero_le _) (Nat.zero_le _) ⟨_, rfl, Is16, Gs16, (iI s16 0), rfl, (rng_to _), by first | exact Or.inl (And.intro (oq_f65ea7aa g3) (And.intro (oq_ce1aec54 hps4 hps16 hps7 hps13 hps10) (by decide))) | omega⟩
  ·
    refine z_const X (show cdA 126 13 = some (.iconst (-1), 1, 0, 0, 0) from rfl) ?_
    exact w_iret X.1 q hRt rfl (ax_d X (show cdA 126 14 = some (.ireturn, 1, 0, 0, 0) from rfl)) (Nat.zero_le _) (Nat.zero_le _) ⟨_, rfl, I, F, (-1), rfl, (by decide), by first | exact Or.inr (And.intro (oq_4a84d32d g3) (And.intro (by decide) (by decide))) | omega⟩
set_option maxRecDepth 4000 in
theorem c10_kindOf_1 (G : GX l s0 D tys a0 dT) (I : Bd s) {x : Int} (p0 : 0 ≤ x ∧ x ≤ 255) : CT l s0 D A dT 130 (rmN 130) [.ref (A 1), .int (Int32.ofInt x)] s (fun o t => s = t ∧ ∃ e, o = .inl (some (.int (Int32.ofInt e))) ∧ rng e ∧ (-3 ≤ e ∧ e ≤ 255 ∧ e ≠ -1 ∧ (e = -2 → 48 ≤ x ∧ x ≤ 57))) := by
  refine ct_ofX G (by decide) (Nat.le_of_ble_eq_true rfl) (fun k X E ET hRt hXt q => ?_)
  show WS k 0 [(0, .ref (A 1)), (1, .int (Int32.ofInt x))] [] _ 0 0
  have F : Fm [] [] s s := fm_rf _ _ s
  refine z_load_n X (x := x) (show cdA 130 0 = some (.iload_n 1, 1, 0, 0, 0) from rfl) (List.Mem.tail _ (List.Mem.head _)) ?_
  refine z_bipush X (show cdA 130 1 = some (.bipush 48, 2, 0, 0, 48) from rfl) ?_
  refine z_icmp_lt X (t := 15) (show cdA 130 3 = some (.if_icmp .lt 12, 3, 2, 0, 0) from rfl) (by decide) ⟨by first | exact oq_fa4e5087 p0.1 | omega, by first | exact oq_4567a937 p0.2 | omega⟩ (by decide) (fun g1 => ?_) (fun g1 => ?_)
  ·
    refine z_aload_n X (x := A 1) (show cdA 130 15 = some (.aload_n 0, 1, 0, 0, 0) from rfl) (List.Mem.head _) ?_
    refine z_getI X 1 (show cdA 130 16 = some (.getfield 32, 3, 10, 4, 0) from rfl) (by decide) rfl rfl ?_
    have b2 : (0 : Int) ≤ iI s 3 ∧ iI s 3 ≤ 1 := I.1 3
    have N3 : ∀ e4 : Int, ((((iI s 3) = 0) ∧ e4 = x) ∨ (((iI s 3) ≠ 0) ∧ (x < 97) ∧ e4 = x) ∨ (((iI s 3) ≠ 0) ∧ (97 ≤ x) ∧ (122 < x) ∧ e4 = x) ∨ (((iI s 3) ≠ 0) ∧ (97 ≤ x) ∧ (x ≤ 122) ∧ e4 = (-3))) → WS k 40 [(0, .ref (A 1)), (1, .int (Int32.ofInt x))] [.int (Int32.ofInt e4)] (Wd A dT s) 0 0 := by
      intro e4 he4
      exact w_iret X.1 q hRt rfl (ax_d X (show cdA 130 40 = some (.ireturn, 1, 0, 0, 0) from rfl)) (Nat.zero_le _) (Nat.zero_le _) ⟨_, rfl, rfl, e4, rfl, ⟨by first | exact oq_1ca04d49 he4 p0.1 | omega, by first | exact oq_6ba7703b he4 g1 | omega⟩, by first | exact ⟨oq_3728bb44 he4 g1 p0.1, oq_05e7d3d7 he4 g1, oq_5546b953 he4 g1 p0.1, oq_c4576c36 he4 g1 p0.1⟩ | omega⟩
    refine z_if_eq X (t := 39) (show cdA 130 19 = some (.ifCond .eq 20, 3, 0, 0, 0) from rfl) (by decide) (rng_to _) (fun g5 => ?_) (fun g5 => ?_)
    ·
      refine z_load_n X (x := x) (show cdA 130 39 = some (.iload_n 1, 1, 0, 0, 0) from rfl) (List.Mem.tail _ (List.Mem.head _)) ?_
      exact N3 _ (Or.inl ⟨g5, rfl⟩)
    ·
      refine z_load_n X (x := x) (show cdA 130 22 = some (.iload_n 1, 1, 0, 0, 0) from rfl) (List.Mem.tail _ (List.Mem.head _)) ?_
      refine z_bipush X (show cdA 130 23 = some (.bipush 97, 2, 0, 0, 97) from rfl) ?_
      refine z_icmp_lt X (t := 39) (show cdA 130 25 = some (.if_icmp .lt 14, 3, 2, 0, 0) from rfl) (by decide) ⟨by first | exact oq_fa4e5087 p0.1 | omega, by first | exact oq_a6687a98 g1 | omega⟩ (by decide) (fun g6 => ?_) (fun g6 => ?_)
      ·
        refine z_load_n X (x := x) (show cdA 130 39 = some (.iload_n 1, 1, 0, 0, 0) from rfl) (List.Mem.tail _ (List.Mem.head _)) ?_
        exact N3 _ (Or.inr (Or.inl ⟨g5, g6, rfl⟩))
      ·
        refine z_load_n X (x := x) (show cdA 130 28 = some (.iload_n 1, 1, 0, 0, 0) from rfl) (List.Mem.tail _ (List.Mem.head _)) ?_
        refine z_bipush X (show cdA 130 29 = some (.bipush 122, 2, 0, 0, 122) from rfl) ?_
        refine z_icmp_gt X (t := 39) (show cdA 130 31 = some (.if_icmp .gt 8, 3, 4, 0, 0) from rfl) (by decide) ⟨by first | exact oq_9ccaf4ac g6 | omega, by first | exact oq_a6687a98 g1 | omega⟩ (by decide) (fun g7 => ?_) (fun g7 => ?_)
        ·
          refine z_load_n X (x := x) (show cdA 130 39 = some (.iload_n 1, 1, 0, 0, 0) from rfl) (List.Mem.tail _ (List.Mem.head _)) ?_
          exact N3 _ (Or.inr (Or.inr (Or.inl ⟨g5, g6, g7, rfl⟩)))
        ·
          refine z_bipush X (show cdA 130 34 = some (.bipush (-3), 2, 0, 0, (-3)) from rfl) ?_
          refine z_goto X (t := 40) (show cdA 130 36 = some (.goto 4, 3, 0, 0, 0) from rfl) (by decide) ?_
          exact N3 _ (Or.inr (Or.inr (Or.inr (⟨g5, g6, g7, rfl⟩))))
  ·
    refine z_load_n X (x := x) (show cdA 130 6 = some (.iload_n 1, 1, 0, 0, 0) from rfl) (List.Mem.tail _ (List.Mem.head _)) ?_
    refine z_bipush X (show cdA 130 7 = some (.bipush 57, 2, 0, 0, 57) from rfl) ?_
    refine z_icmp_gt X (t := 15) (show cdA 130 9 = some (.if_icmp .gt 6, 3, 4, 0, 0) from rfl) (by decide) ⟨by first | exact oq_7e4cb212 g1 | omega, by first | exact oq_4567a937 p0.2 | omega⟩ (by decide) (fun g8 => ?_) (fun g8 => ?_)
    ·
      refine z_aload_n X (x := A 1) (show cdA 130 15 = some (.aload_n 0, 1, 0, 0, 0) from rfl) (List.Mem.head _) ?_
      refine z_getI X 1 (show cdA 130 16 = some (.getfield 32, 3, 10, 4, 0) from rfl) (by decide) rfl rfl ?_
      have b9 : (0 : Int) ≤ iI s 3 ∧ iI s 3 ≤ 1 := I.1 3
      have N10 : ∀ e11 : Int, ((((iI s 3) = 0) ∧ e11 = x) ∨ (((iI s 3) ≠ 0) ∧ (x < 97) ∧ e11 = x) ∨ (((iI s 3) ≠ 0) ∧ (97 ≤ x) ∧ (122 < x) ∧ e11 = x) ∨ (((iI s 3) ≠ 0) ∧ (97 ≤ x) ∧ (x ≤ 122) ∧ e11 = (-3))) → WS k 40 [(0, .ref (A 1)), (1, .int (Int32.ofInt x))] [.int (Int32.ofInt e11)] (Wd A dT s) 0 0 := by
        intro e11 he11
        exact w_iret X.1 q hRt rfl (ax_d X (show cdA 130 40 = some (.ireturn, 1, 0, 0, 0) from rfl)) (Nat.zero_le _) (Nat.zero_le _) ⟨_, rfl, rfl, e11, rfl, ⟨by first | exact oq_3fba5eee he11 g8 | omega, by first | exact oq_fc94949b he11 p0.2 | omega⟩, by first | exact ⟨oq_6de608c5 he11 g8, oq_6a0a01d3 he11 p0.2, oq_2234aa58 he11 g8, oq_4bfff900 he11 g8⟩ | omega⟩
      refine z_if_eq X (t := 39) (show cdA 130 19 = some (.ifCond .eq 20, 3, 0, 0, 0) from rfl) (by decide) (rng_to _) (fun g12 => ?_) (fun g12 => ?_)
      ·
        refine z_load_n X (x := x) (show cdA 130 39 = some (.iload_n 1, 1, 0, 0, 0) from rfl) (List.Mem.tail _ (List.Mem.head _)) ?_
        exact N10 _ (Or.inl ⟨g12, rfl⟩)
      ·
        refine z_load_n X (x := x) (show cdA 130 22 = some (.iload_n 1, 1, 0, 0, 0) from rfl) (List.Mem.tail _ (List.Mem.head _)) ?_
        refine z_bipush X (show cdA 130 23 = some (.bipush 97, 2, 0, 0, 97) from rfl) ?_
        refine z_icmp_lt X (t := 39) (show cdA 130 25 = some (.if_icmp .lt 14, 3, 2, 0, 0) from rfl) (by decide) ⟨by first | exact oq_eac89bd5 g8 | omega, by first | exact oq_4567a937 p0.2 | omega⟩ (by decide) (fun g13 => ?_) (fun g13 => ?_)
        ·
          refine z_load_n X (x := x) (show cdA 130 39 = some (.iload_n 1, 1, 0, 0, 0) from rfl) (List.Mem.tail _ (List.Mem.head _)) ?_
          exact N10 _ (Or.inr (Or.inl ⟨g12, g13, rfl⟩))
        ·
          refine z_load_n X (x := x) (show cdA 130 28 = some (.iload_n 1, 1, 0, 0, 0) from rfl) (List.Mem.tail _ (List.Mem.head _)) ?_
          refine z_bipush X (show cdA 130 29 = some (.bipush 122, 2, 0, 0, 122) from rfl) ?_
          refine z_icmp_gt X (t := 39) (show cdA 130 31 = some (.if_icmp .gt 8, 3, 4, 0, 0) from rfl) (by decide) ⟨by first | exact oq_9ccaf4ac g13 | omega, by first | exact oq_4567a937 p0.2 | omega⟩ (by decide) (fun g14 => ?_) (fun g14 => ?_)
          ·
            refine z_load_n X (x := x) (show cdA 130 39 = some (.iload_n 1, 1, 0, 0, 0) from rfl) (List.Mem.tail _ (List.Mem.head _)) ?_
            exact N10 _ (Or.inr (Or.inr (Or.inl ⟨g12, g13, g14, rfl⟩)))
          ·
            refine z_bipush X (show cdA 130 34 = some (.bipush (-3), 2, 0, 0, (-3)) from rfl) ?_
            refine z_goto X (t := 40) (show cdA 130 36 = some (.goto 4, 3, 0, 0, 0) from rfl) (by decide) ?_
            exact N10 _ (Or.inr (Or.inr (Or.inr (⟨g12, g13, g14, rfl⟩))))
    ·
      refine z_bipush X (show cdA 130 12 = some (.bipush (-2), 2, 0, 0, (-2)) from rfl) ?_
      exact w_iret X.1 q hRt rfl (ax_d X (show cdA 130 14 = some (.ireturn, 1, 0, 0, 0) from rfl)) (Nat.zero_le _) (Nat.zero_le _) ⟨_, rfl, rfl, (-2), rfl, (by decide), by first | exact ⟨by decide, by decide, oq_cef47423, oq_3bf62cb4 g8 g1⟩ | omega⟩
set_option maxRecDepth 4000 in
theorem c10_refuseAt_1 (G : GX l s0 D tys a0 dT) (I : Bd s) {x y : Int} (p0 : 1 ≤ x ∧ x ≤ 4) (p1 : 0 ≤ y ∧ y ≤ 200) : CT l s0 D A dT 133 (rmN 133) [.ref (A 1), .int (Int32.ofInt x), .int (Int32.ofInt y)] s (fun o t => Bd t ∧ Fm [7, 8] [] s t ∧ ∃ e, o = .inl (some (.int (Int32.ofInt e))) ∧ rng e ∧ (e = 0)) := by
  refine ct_ofX G (by decide) (Nat.le_of_ble_eq_true rfl) (fun k X E ET hRt hXt q => ?_)
  show WS k 0 [(0, .ref (A 1)), (1, .int (Int32.ofInt x)), (2, .int (Int32.ofInt y))] [] _ 0 0
  have F : Fm [7, 8] [] s s := fm_rf _ _ s
  refine z_aload_n X (x := A 1) (show cdA 133 0 = some (.aload_n 0, 1, 0, 0, 0) from rfl) (List.Mem.head _) ?_
  refine z_load_n X (x := x) (show cdA 133 1 = some (.iload_n 1, 1, 0, 0, 0) from rfl) (List.Mem.tail _ (List.Mem.head _)) ?_
  refine s_putI X 1 (show cdA 133 2 = some (.putfield 36, 3, 10, 8, 0) from rfl) (by decide) rfl rfl (by decide) rfl rfl rfl ?_
  obtain ⟨s1, hs1⟩ : ∃ x0, x0 = uI s 7 (Int32.ofInt x) := ⟨_, rfl⟩
  rw [← hs1]
  have Is1 : Bd s1 := by rw [hs1]; exact bd_I I (show (0 : Int) ≤ x ∧ x ≤ 9 by first | exact ⟨oq_2a6e3b50 p0.1, oq_aac78eb5 p0.2⟩ | omega) ⟨by first | exact oq_9462313e p0.1 | omega, by first | exact oq_4a4414da p0.2 | omega⟩
  have Fs1 := fm_I (x := Int32.ofInt x) F (show 7 ∈ _ by decide)
  rw [← hs1] at Fs1
  have vs1 : iI s1 7 = x := by rw [hs1]; exact iI_u ⟨by first | exact oq_9462313e p0.1 | omega, by first | exact oq_4a4414da p0.2 | omega⟩
  refine z_aload_n X (x := A 1) (show cdA 133 5 = some (.aload_n 0, 1, 0, 0, 0) from rfl) (List.Mem.head _) ?_
  refine z_load_n X (x := y) (show cdA 133 6 = some (.iload_n 2, 1, 0, 0, 0) from rfl) (List.Mem.tail _ (List.Mem.tail _ (List.Mem.head _))) ?_
  refine s_putI X 1 (show cdA 133 7 = some (.putfield 15, 3, 10, 9, 0) from rfl) (by decide) rfl rfl (by decide) rfl rfl rfl ?_
  obtain ⟨s2, hs2⟩ : ∃ x0, x0 = uI s1 8 (Int32.ofInt y) := ⟨_, rfl⟩
  rw [← hs2]
  have Is2 : Bd s2 := by rw [hs2]; exact bd_I Is1 (show ((-1) : Int) ≤ y ∧ y ≤ 200 by first | exact ⟨oq_ca54ea22 p1.1, p1.2⟩ | omega) ⟨by first | exact oq_fa4e5087 p1.1 | omega, by first | exact oq_52af2b96 p1.2 | omega⟩
  have Fs2 := fm_I (x := Int32.ofInt y) Fs1 (show 8 ∈ _ by decide)
  rw [← hs2] at Fs2
  have vs2 : iI s2 8 = y := by rw [hs2]; exact iI_u ⟨by first | exact oq_fa4e5087 p1.1 | omega, by first | exact oq_52af2b96 p1.2 | omega⟩
  refine z_const X (show cdA 133 10 = some (.iconst 0, 1, 0, 0, 0) from rfl) ?_
  exact w_iret X.1 q hRt (nar_ret (by first | exact Or.inl (by decide) | omega)) (ax_d X (show cdA 133 11 = some (.ireturn, 1, 0, 0, 0) from rfl)) (Nat.zero_le _) (Nat.zero_le _) ⟨_, rfl, Is2, Fs2, 0, rfl, (by decide), by decide⟩
set_option maxRecDepth 4000 in
theorem c10_refuse_1 (G : GX l s0 D tys a0 dT) (I : Bd s) {x : Int} (p0 : 1 ≤ x ∧ x ≤ 4) : CT l s0 D A dT 132 (rmN 132) [.ref (A 1), .int (Int32.ofInt x)] s (fun o t => Bd t ∧ Fm [7, 8] [] s t ∧ ∃ e, o = .inl (some (.int (Int32.ofInt e))) ∧ rng e ∧ (e = 0)) := by
  refine ct_ofX G (by decide) (Nat.le_of_ble_eq_true rfl) (fun k X E ET hRt hXt q => ?_)
  show WS k 0 [(0, .ref (A 1)), (1, .int (Int32.ofInt x))] [] _ 0 0
  have F : Fm [7, 8] [] s s := fm_rf _ _ s
  refine z_aload_n X (x := A 1) (show cdA 132 0 = some (.aload_n 0, 1, 0, 0, 0) from rfl) (List.Mem.head _) ?_
  refine z_load_n X (x := x) (show cdA 132 1 = some (.iload_n 1, 1, 0, 0, 0) from rfl) (List.Mem.tail _ (List.Mem.head _)) ?_
  refine z_aload_n X (x := A 1) (show cdA 132 2 = some (.aload_n 0, 1, 0, 0, 0) from rfl) (List.Mem.head _) ?_
  refine z_getI X 1 (show cdA 132 3 = some (.getfield 42, 3, 10, 5, 0) from rfl) (by decide) rfl rfl ?_
  have b1 : (0 : Int) ≤ iI s 4 ∧ iI s 4 ≤ 200 := I.1 4
  refine z_callV X 1 (rm := rmN 133) (As := [.int (Int32.ofInt x), .int (Int32.ofInt (iI s 4))]) (st := []) (show cdA 132 6 = some (.invokevirtual 72, 3, 133, 0, 0) from rfl) rfl (by decide) rfl (by rw [E.1, E.2.1, E.2.2.1]; exact c10_refuseAt_1 G I (by first | exact ⟨p0.1, p0.2⟩ | omega) (by first | exact ⟨b1.1, b1.2⟩ | omega)) ⟨by rw [E.2.2.2]; exact (show (rmN 133).frames + 1 ≤ (rmN 132).frames by decide), by rw [E.2.2.2]; exact (show 8 + (mNL (miB 133) + 11) + (rmN 133).locals ≤ (rmN 132).locals by decide), by rw [E.2.2.2]; exact (show 0 + (rmN 133).cells ≤ (rmN 132).cells by decide), by rw [E.2.2.2]; exact (show 0 + (rmN 133).slots ≤ (rmN 132).slots by decide)⟩ (Nat.le_of_ble_eq_true rfl) (fun vv s2 hq => ?_) (fun ee s2 hq => ?_)
  rotate_left
  · obtain ⟨Is2, Fs2, e3, hv, hrs2, hps2⟩ := hq; cases hv
  obtain ⟨Is2, Fs2, e3, hv, hrs2, hps2⟩ := hq
  cases hv
  have Gs2 := fm_ts F Fs2 (by decide) (by decide)
  show WS k 9 [(0, .ref (A 1)), (1, .int (Int32.ofInt x))] [.int (Int32.ofInt e3)] (Wd A dT s2) 0 0
  exact w_iret X.1 q hRt (nar_ret (by first | exact Or.inl (hps2) | omega)) (ax_d X (show cdA 132 9 = some (.ireturn, 1, 0, 0, 0) from rfl)) (Nat.zero_le _) (Nat.zero_le _) ⟨_, rfl, Is2, Gs2, e3, rfl, hrs2, by first | exact hps2 | omega⟩
set_option maxRecDepth 4000 in
theorem c10_step_1 (G : GX l s0 D tys a0 dT) (I : Bd s) (p0 : iI s 2 ≤ iI s 1) : CT l s0 D A dT 129 (rmN 129) [.ref (A 1)] s (fun o t => Bd t ∧ Fm [2, 4, 6, 5] [] s t ∧ o = .inl none ∧ (iI t 2 ≤ iI t 1 ∧ iI t 4 ≤ iI t 2)) := by
  refine ct_ofX G (by decide) (Nat.le_of_ble_eq_true rfl) (fun k X E ET hRt hXt q => ?_)
  show WS k 0 [(0, .ref (A 1))] [] _ 0 0
  have F : Fm [2, 4, 6, 5] [] s s := fm_rf _ _ s
  have b1 : (0 : Int) ≤ iI s 2 ∧ iI s 2 ≤ 200 := I.1 2
  have b2 : (0 : Int) ≤ iI s 1 ∧ iI s 1 ≤ 200 := I.1 1
  have b3 : (0 : Int) ≤ iI s 4 ∧ iI s 4 ≤ 200 := I.1 4
  have b4 : ((-3) : Int) ≤ iI s 5 ∧ iI s 5 ≤ 255 := I.1 5
  have b5 : (0 : Int) ≤ iI s 6 ∧ iI s 6 ≤ 100000 := I.1 6
  have L0 : ∀ (n : Nat) (t : PS), Bd t → Fm [2, 4, 6, 5] [] s t → (iI t 2 ≤ iI t 1) → (iI t 1 - iI t 2 : Int).toNat < n → (∀ (t' : PS), Bd t' → Fm [2, 4, 6, 5] [] s t' → (iI t' 2 ≤ iI t' 1) → WS k 38 [(0, .ref (A 1))] [] (Wd A dT t') 0 0) → WS k 0 [(0, .ref (A 1))] [] (Wd A dT t) 0 0 := by
    intro n
    induction n with
    | zero =>
      intro t  I F hi hm kx
      exact absurd hm (Nat.not_lt_zero _)
    | succ n ih =>
      intro t  I F hi hm kx
      have b1001 : (0 : Int) ≤ iI t 2 ∧ iI t 2 ≤ 200 := I.1 2
      have b1002 : (0 : Int) ≤ iI t 1 ∧ iI t 1 ≤ 200 := I.1 1
      have b1003 : (0 : Int) ≤ iI t 4 ∧ iI t 4 ≤ 200 := I.1 4
      have b1004 : ((-3) : Int) ≤ iI t 5 ∧ iI t 5 ≤ 255 := I.1 5
      have b1005 : (0 : Int) ≤ iI t 6 ∧ iI t 6 ≤ 100000 := I.1 6
      refine z_aload_n X (x := A 1) (show cdA 129 0 = some (.aload_n 0, 1, 0, 0, 0) from rfl) (List.Mem.head _) ?_
      refine z_getI X 1 (show cdA 129 1 = some (.getfield 29, 3, 10, 3, 0) from rfl) (by decide) rfl rfl ?_
      have b1006 : (0 : Int) ≤ iI t 2 ∧ iI t 2 ≤ 200 := I.1 2
      refine z_aload_n X (x := A 1) (show cdA 129 4 = some (.aload_n 0, 1, 0, 0, 0) from rfl) (List.Mem.head _) ?_
      refine z_getI X 1 (show cdA 129 5 = some (.getfield 26, 3, 10, 2, 0) from rfl) (by decide) rfl rfl ?_
      have b1007 : (0 : Int) ≤ iI t 1 ∧ iI t 1 ≤ 200 := I.1 1
      refine z_icmp_ge X (t := 38) (show cdA 129 8 = some (.if_icmp .ge 30, 3, 3, 0, 0) from rfl) (by decide) (rng_to _) (rng_to _) (fun g1008 => ?_) (fun g1008 => ?_)
      ·
        refine WS_lv (lv := [(0, .ref (A 1))]) (List.forall_mem_cons.mpr ⟨(List.Mem.head _), (fun q h => absurd h List.not_mem_nil)⟩) ?_
        exact kx _  I F (by first | exact hi | omega)
      ·
        refine z_aload_n X (x := A 1) (show cdA 129 11 = some (.aload_n 0, 1, 0, 0, 0) from rfl) (List.Mem.head _) ?_
        refine s_getR X 1 (show cdA 129 12 = some (.getfield 11, 3, 10, 0, 0) from rfl) (by decide) rfl rfl ?_
        refine z_aload_n X (x := A 1) (show cdA 129 15 = some (.aload_n 0, 1, 0, 0, 0) from rfl) (List.Mem.head _) ?_
        refine z_getI X 1 (show cdA 129 16 = some (.getfield 29, 3, 10, 3, 0) from rfl) (by decide) rfl rfl ?_
        have b1009 : (0 : Int) ≤ iI t 2 ∧ iI t 2 ≤ 200 := I.1 2
        refine z_ald X 2 (show cdA 129 19 = some (.iaload, 1, 0, 0, 0) from rfl) (by decide) rfl (by first | exact b1009.1 | omega) (show (iI t 2) < 200 by first | exact oq_6fca3d72 g1008 b1007.2 | omega) (by decide) ?_
        have b1010 : (0 : Int) ≤ iC t 0 ((iI t 2)).toNat ∧ iC t 0 ((iI t 2)).toNat ≤ 255 := I.2 0 _ (show ((iI t 2)).toNat < 200 by first | exact oq_b70289d5 g1008 b1007.2 | omega)
        refine z_bipush X (show cdA 129 20 = some (.bipush 32, 2, 0, 0, 32) from rfl) ?_
        refine z_icmp_ne X (t := 38) (show cdA 129 22 = some (.if_icmp .ne 16, 3, 1, 0, 0) from rfl) (by decide) (rng_to _) (by decide) (fun g1011 => ?_) (fun g1011 => ?_)
        ·
          refine WS_lv (lv := [(0, .ref (A 1))]) (List.forall_mem_cons.mpr ⟨(List.Mem.head _), (fun q h => absurd h List.not_mem_nil)⟩) ?_
          exact kx _  I F (by first | exact hi | omega)
        ·
          refine z_aload_n X (x := A 1) (show cdA 129 25 = some (.aload_n 0, 1, 0, 0, 0) from rfl) (List.Mem.head _) ?_
          refine w_dup X.1 (ax_d X (show cdA 129 26 = some (.dup, 1, 0, 0, 0) from rfl)) rfl ?_
          refine z_getI X 1 (show cdA 129 27 = some (.getfield 29, 3, 10, 3, 0) from rfl) (by decide) rfl rfl ?_
          have b1012 : (0 : Int) ≤ iI t 2 ∧ iI t 2 ≤ 200 := I.1 2
          refine z_const X (show cdA 129 30 = some (.iconst 1, 1, 0, 0, 0) from rfl) ?_
          refine z_add X (show cdA 129 31 = some (.iadd, 1, 0, 0, 0) from rfl) ?_
          refine s_putI X 1 (show cdA 129 32 = some (.putfield 29, 3, 10, 3, 0) from rfl) (by decide) rfl rfl (by decide) rfl rfl rfl ?_
          obtain ⟨s1013, hs1013⟩ : ∃ x0, x0 = uI t 2 (Int32.ofInt ((iI t 2) + 1)) := ⟨_, rfl⟩
          rw [← hs1013]
          have Is1013 : Bd s1013 := by rw [hs1013]; exact bd_I I (show (0 : Int) ≤ ((iI t 2) + 1) ∧ ((iI t 2) + 1) ≤ 200 by first | exact ⟨oq_54f49eb5 b1012.1, oq_228270fa g1008 b1007.2⟩ | omega) ⟨by first | exact oq_74de1e16 b1012.1 | omega, by first | exact oq_bb8d498d b1012.2 | omega⟩
          have Fs1013 := fm_I (x := Int32.ofInt ((iI t 2) + 1)) F (show 2 ∈ _ by decide)
          rw [← hs1013] at Fs1013
          have vs1013 : iI s1013 2 = ((iI t 2) + 1) := by rw [hs1013]; exact iI_u ⟨by first | exact oq_74de1e16 b1012.1 | omega, by first | exact oq_bb8d498d b1012.2 | omega⟩
          have ws1013_1 : iI s1013 1 = iI t 1 := by rw [hs1013]; rfl
          have ws1013_4 : iI s1013 4 = iI t 4 := by rw [hs1013]; rfl
          have ws1013_5 : iI s1013 5 = iI t 5 := by rw [hs1013]; rfl
          have ws1013_6 : iI s1013 6 = iI t 6 := by rw [hs1013]; rfl
          refine z_goto X (t := 0) (show cdA 129 35 = some (.goto (-35), 3, 0, 0, 0) from rfl) (by decide) ?_
          refine WS_lv (lv := [(0, .ref (A 1))]) (List.forall_mem_cons.mpr ⟨(List.Mem.head _), (fun q h => absurd h List.not_mem_nil)⟩) ?_
          exact ih _  Is1013 Fs1013 (by first | exact oq_61bfd4fa ws1013_1 vs1013 g1008 | omega) (by first | exact qk_me hm (oq_bf2569a2 ws1013_1 vs1013) (oq_901836cd g1008) | omega) kx
  have L92 : ∀ (n : Nat) (t : PS), Bd t → Fm [2, 4, 6, 5] [] s t → (iI t 2 ≤ iI t 1 ∧ iI t 4 ≤ iI t 2) → (iI t 1 - iI t 2 : Int).toNat < n → (∀ (t' : PS), Bd t' → Fm [2, 4, 6, 5] [] s t' → (iI t' 2 ≤ iI t' 1 ∧ iI t' 4 ≤ iI t' 2) → WS k 232 [(0, .ref (A 1))] [] (Wd A dT t') 0 0) → WS k 92 [(0, .ref (A 1))] [] (Wd A dT t) 0 0 := by
    intro n
    induction n with
    | zero =>
      intro t  I F hi hm kx
      exact absurd hm (Nat.not_lt_zero _)
    | succ n ih =>
      intro t  I F hi hm kx
      have b2001 : (0 : Int) ≤ iI t 2 ∧ iI t 2 ≤ 200 := I.1 2
      have b2002 : (0 : Int) ≤ iI t 1 ∧ iI t 1 ≤ 200 := I.1 1
      have b2003 : (0 : Int) ≤ iI t 4 ∧ iI t 4 ≤ 200 := I.1 4
      have b2004 : ((-3) : Int) ≤ iI t 5 ∧ iI t 5 ≤ 255 := I.1 5
      have b2005 : (0 : Int) ≤ iI t 6 ∧ iI t 6 ≤ 100000 := I.1 6
      refine z_aload_n X (x := A 1) (show cdA 129 92 = some (.aload_n 0, 1, 0, 0, 0) from rfl) (List.Mem.head _) ?_
      refine z_getI X 1 (show cdA 129 93 = some (.getfield 29, 3, 10, 3, 0) from rfl) (by decide) rfl rfl ?_
      have b2006 : (0 : Int) ≤ iI t 2 ∧ iI t 2 ≤ 200 := I.1 2
      refine z_aload_n X (x := A 1) (show cdA 129 96 = some (.aload_n 0, 1, 0, 0, 0) from rfl) (List.Mem.head _) ?_
      refine z_getI X 1 (show cdA 129 97 = some (.getfield 26, 3, 10, 2, 0) from rfl) (by decide) rfl rfl ?_
      have b2007 : (0 : Int) ≤ iI t 1 ∧ iI t 1 ≤ 200 := I.1 1
      refine z_icmp_ge X (t := 232) (show cdA 129 100 = some (.if_icmp .ge 132, 3, 3, 0, 0) from rfl) (by decide) (rng_to _) (rng_to _) (fun g2008 => ?_) (fun g2008 => ?_)
      ·
        refine WS_lv (lv := [(0, .ref (A 1))]) (List.forall_mem_cons.mpr ⟨(List.Mem.head _), (fun q h => absurd h List.not_mem_nil)⟩) ?_
        exact kx _  I F (by first | exact ⟨hi.1, hi.2⟩ | omega)
      ·
        refine z_aload_n X (x := A 1) (show cdA 129 103 = some (.aload_n 0, 1, 0, 0, 0) from rfl) (List.Mem.head _) ?_
        refine z_aload_n X (x := A 1) (show cdA 129 104 = some (.aload_n 0, 1, 0, 0, 0) from rfl) (List.Mem.head _) ?_
        refine s_getR X 1 (show cdA 129 105 = some (.getfield 11, 3, 10, 0, 0) from rfl) (by decide) rfl rfl ?_
        refine z_aload_n X (x := A 1) (show cdA 129 108 = some (.aload_n 0, 1, 0, 0, 0) from rfl) (List.Mem.head _) ?_
        refine z_getI X 1 (show cdA 129 109 = some (.getfield 29, 3, 10, 3, 0) from rfl) (by decide) rfl rfl ?_
        have b2009 : (0 : Int) ≤ iI t 2 ∧ iI t 2 ≤ 200 := I.1 2
        refine z_ald X 2 (show cdA 129 112 = some (.iaload, 1, 0, 0, 0) from rfl) (by decide) rfl (by first | exact b2009.1 | omega) (show (iI t 2) < 200 by first | exact oq_6fca3d72 g2008 b2007.2 | omega) (by decide) ?_
        have b2010 : (0 : Int) ≤ iC t 0 ((iI t 2)).toNat ∧ iC t 0 ((iI t 2)).toNat ≤ 255 := I.2 0 _ (show ((iI t 2)).toNat < 200 by first | exact oq_b70289d5 g2008 b2007.2 | omega)
        refine z_callV X 1 (rm := rmN 130) (As := [.int (Int32.ofInt (iC t 0 ((iI t 2)).toNat))]) (st := []) (show cdA 129 113 = some (.invokevirtual 48, 3, 130, 0, 0) from rfl) rfl (by decide) rfl (by rw [E.1, E.2.1, E.2.2.1]; exact c10_kindOf_1 G I (by first | exact ⟨b2010.1, b2010.2⟩ | omega)) ⟨by rw [E.2.2.2]; exact (show (rmN 130).frames + 1 ≤ (rmN 129).frames by decide), by rw [E.2.2.2]; exact (show 8 + (mNL (miB 130) + 11) + (rmN 130).locals ≤ (rmN 129).locals by decide), by rw [E.2.2.2]; exact (show 0 + (rmN 130).cells ≤ (rmN 129).cells by decide), by rw [E.2.2.2]; exact (show 0 + (rmN 130).slots ≤ (rmN 129).slots by decide)⟩ (Nat.le_of_ble_eq_true rfl) (fun vv s2011 hq => ?_) (fun ee s2011 hq => ?_)
        rotate_left
        · obtain ⟨rfl, e2012, hv, hrs2011, hps2011⟩ := hq; cases hv
        obtain ⟨rfl, e2012, hv, hrs2011, hps2011⟩ := hq
        cases hv
        show WS k 116 [(0, .ref (A 1))] [.int (Int32.ofInt e2012)] (Wd A dT t) 0 0
        refine z_bipush X (show cdA 129 116 = some (.bipush (-2), 2, 0, 0, (-2)) from rfl) ?_
        refine z_icmp_ne X (t := 232) (show cdA 129 118 = some (.if_icmp .ne 114, 3, 1, 0, 0) from rfl) (by decide) hrs2011 (by decide) (fun g2013 => ?_) (fun g2013 => ?_)
        ·
          refine WS_lv (lv := [(0, .ref (A 1))]) (List.forall_mem_cons.mpr ⟨(List.Mem.head _), (fun q h => absurd h List.not_mem_nil)⟩) ?_
          exact kx _  I F (by first | exact ⟨hi.1, hi.2⟩ | omega)
        ·
          refine z_aload_n X (x := A 1) (show cdA 129 121 = some (.aload_n 0, 1, 0, 0, 0) from rfl) (List.Mem.head _) ?_
          refine z_ldc X (show cdA 129 122 = some (.ldc 55, 2, 0, 0, 100000) from rfl) ?_
          refine z_aload_n X (x := A 1) (show cdA 129 124 = some (.aload_n 0, 1, 0, 0, 0) from rfl) (List.Mem.head _) ?_
          refine z_getI X 1 (show cdA 129 125 = some (.getfield 45, 3, 10, 7, 0) from rfl) (by decide) rfl rfl ?_
          have b2014 : (0 : Int) ≤ iI t 6 ∧ iI t 6 ≤ 100000 := I.1 6
          refine z_bipush X (show cdA 129 128 = some (.bipush 10, 2, 0, 0, 10) from rfl) ?_
          refine z_mul X (show cdA 129 130 = some (.imul, 1, 0, 0, 0) from rfl) ?_
          refine z_aload_n X (x := A 1) (show cdA 129 131 = some (.aload_n 0, 1, 0, 0, 0) from rfl) (List.Mem.head _) ?_
          refine s_getR X 1 (show cdA 129 132 = some (.getfield 11, 3, 10, 0, 0) from rfl) (by decide) rfl rfl ?_
          refine z_aload_n X (x := A 1) (show cdA 129 135 = some (.aload_n 0, 1, 0, 0, 0) from rfl) (List.Mem.head _) ?_
          refine z_getI X 1 (show cdA 129 136 = some (.getfield 29, 3, 10, 3, 0) from rfl) (by decide) rfl rfl ?_
          have b2015 : (0 : Int) ≤ iI t 2 ∧ iI t 2 ≤ 200 := I.1 2
          refine z_ald X 2 (show cdA 129 139 = some (.iaload, 1, 0, 0, 0) from rfl) (by decide) rfl (by first | exact b2015.1 | omega) (show (iI t 2) < 200 by first | exact oq_6fca3d72 g2008 b2007.2 | omega) (by decide) ?_
          have b2016 : (0 : Int) ≤ iC t 0 ((iI t 2)).toNat ∧ iC t 0 ((iI t 2)).toNat ≤ 255 := I.2 0 _ (show ((iI t 2)).toNat < 200 by first | exact oq_b70289d5 g2008 b2007.2 | omega)
          refine z_add X (show cdA 129 140 = some (.iadd, 1, 0, 0, 0) from rfl) ?_
          refine z_bipush X (show cdA 129 141 = some (.bipush 48, 2, 0, 0, 48) from rfl) ?_
          refine z_sub X (show cdA 129 143 = some (.isub, 1, 0, 0, 0) from rfl) ?_
          refine z_min X (show cdA 129 144 = some (.invokestatic 56, 3, 0, 8, 0) from rfl) (by decide) ⟨by first | exact oq_74ddc356 b2014.1 b2016.1 | omega, by first | exact oq_507881e8 b2014.2 b2016.2 | omega⟩ (by rw [E.2.2.2]; decide) (by rw [E.2.2.2]; exact Nat.le_of_ble_eq_true rfl) (Nat.zero_le _) (Nat.zero_le _) (fun e2017 he2017 => ?_)
          refine s_putI X 1 (show cdA 129 147 = some (.putfield 45, 3, 10, 7, 0) from rfl) (by decide) rfl rfl (by decide) rfl rfl rfl ?_
          obtain ⟨s2018, hs2018⟩ : ∃ x0, x0 = uI t 6 (Int32.ofInt e2017) := ⟨_, rfl⟩
          rw [← hs2018]
          have Is2018 : Bd s2018 := by rw [hs2018]; exact bd_I I (show (0 : Int) ≤ e2017 ∧ e2017 ≤ 100000 by first | exact ⟨oq_59a27eb6 he2017 b2014.1 g2013 hps2011.2.2.2, oq_111e13c5 he2017⟩ | omega) ⟨by first | exact oq_d5d8953a he2017 b2016.1 b2014.1 | omega, by first | exact oq_aae81add he2017 | omega⟩
          have Fs2018 := fm_I (x := Int32.ofInt e2017) F (show 6 ∈ _ by decide)
          rw [← hs2018] at Fs2018
          have vs2018 : iI s2018 6 = e2017 := by rw [hs2018]; exact iI_u ⟨by first | exact oq_d5d8953a he2017 b2016.1 b2014.1 | omega, by first | exact oq_aae81add he2017 | omega⟩
          have ws2018_2 : iI s2018 2 = iI t 2 := by rw [hs2018]; rfl
          have ws2018_1 : iI s2018 1 = iI t 1 := by rw [hs2018]; rfl
          have ws2018_4 : iI s2018 4 = iI t 4 := by rw [hs2018]; rfl
          have ws2018_5 : iI s2018 5 = iI t 5 := by rw [hs2018]; rfl
          refine z_aload_n X (x := A 1) (show cdA 129 150 = some (.aload_n 0, 1, 0, 0, 0) from rfl) (List.Mem.head _) ?_
          refine w_dup X.1 (ax_d X (show cdA 129 151 = some (.dup, 1, 0, 0, 0) from rfl)) rfl ?_
          refine z_getI X 1 (show cdA 129 152 = some (.getfield 29, 3, 10, 3, 0) from rfl) (by decide) rfl rfl ?_
          have b2019 : (0 : Int) ≤ iI s2018 2 ∧ iI s2018 2 ≤ 200 := Is2018.1 2
          refine z_const X (show cdA 129 155 = some (.iconst 1, 1, 0, 0, 0) from rfl) ?_
          refine z_add X (show cdA 129 156 = some (.iadd, 1, 0, 0, 0) from rfl) ?_
          refine s_putI X 1 (show cdA 129 157 = some (.putfield 29, 3, 10, 3, 0) from rfl) (by decide) rfl rfl (by decide) rfl rfl rfl ?_
          obtain ⟨s2020, hs2020⟩ : ∃ x0, x0 = uI s2018 2 (Int32.ofInt ((iI s2018 2) + 1)) := ⟨_, rfl⟩
          rw [← hs2020]
          have Is2020 : Bd s2020 := by rw [hs2020]; exact bd_I Is2018 (show (0 : Int) ≤ ((iI s2018 2) + 1) ∧ ((iI s2018 2) + 1) ≤ 200 by first | exact ⟨oq_54f49eb5 b2019.1, oq_ff985df0 ws2018_2 g2008 b2007.2⟩ | omega) ⟨by first | exact oq_74de1e16 b2019.1 | omega, by first | exact oq_bb8d498d b2019.2 | omega⟩
          have Fs2020 := fm_I (x := Int32.ofInt ((iI s2018 2) + 1)) Fs2018 (show 2 ∈ _ by decide)
          rw [← hs2020] at Fs2020
          have vs2020 : iI s2020 2 = ((iI s2018 2) + 1) := by rw [hs2020]; exact iI_u ⟨by first | exact oq_74de1e16 b2019.1 | omega, by first | exact oq_bb8d498d b2019.2 | omega⟩
          have ws2020_1 : iI s2020 1 = iI s2018 1 := by rw [hs2020]; rfl
          have ws2020_4 : iI s2020 4 = iI s2018 4 := by rw [hs2020]; rfl
          have ws2020_5 : iI s2020 5 = iI s2018 5 := by rw [hs2020]; rfl
          have ws2020_6 : iI s2020 6 = iI s2018 6 := by rw [hs2020]; rfl
          refine z_goto X (t := 92) (show cdA 129 160 = some (.goto (-68), 3, 0, 0, 0) from rfl) (by decide) ?_
          refine WS_lv (lv := [(0, .ref (A 1))]) (List.forall_mem_cons.mpr ⟨(List.Mem.head _), (fun q h => absurd h List.not_mem_nil)⟩) ?_
          exact ih _  Is2020 Fs2020 (by first | exact ⟨oq_499a7076 ws2020_1 vs2020 ws2018_1 ws2018_2 g2008, oq_552af53c vs2020 ws2020_4 ws2018_4 ws2018_2 hi.2⟩ | omega) (by first | exact qk_me hm (oq_956b687f ws2020_1 vs2020 ws2018_1 ws2018_2) (oq_901836cd g2008) | omega) kx
  have L172 : ∀ (n : Nat) (t : PS), Bd t → Fm [2, 4, 6, 5] [] s t → (iI t 2 ≤ iI t 1 ∧ iI t 4 ≤ iI t 2) → (iI t 1 - iI t 2 : Int).toNat < n → (∀ (t' : PS), Bd t' → Fm [2, 4, 6, 5] [] s t' → (iI t' 2 ≤ iI t' 1 ∧ iI t' 4 ≤ iI t' 2) → WS k 232 [(0, .ref (A 1))] [] (Wd A dT t') 0 0) → WS k 172 [(0, .ref (A 1))] [] (Wd A dT t) 0 0 := by
    intro n
    induction n with
    | zero =>
      intro t  I F hi hm kx
      exact absurd hm (Nat.not_lt_zero _)
    | succ n ih =>
      intro t  I F hi hm kx
      have b3001 : (0 : Int) ≤ iI t 2 ∧ iI t 2 ≤ 200 := I.1 2
      have b3002 : (0 : Int) ≤ iI t 1 ∧ iI t 1 ≤ 200 := I.1 1
      have b3003 : (0 : Int) ≤ iI t 4 ∧ iI t 4 ≤ 200 := I.1 4
      have b3004 : ((-3) : Int) ≤ iI t 5 ∧ iI t 5 ≤ 255 := I.1 5
      have b3005 : (0 : Int) ≤ iI t 6 ∧ iI t 6 ≤ 100000 := I.1 6
      refine z_aload_n X (x := A 1) (show cdA 129 172 = some (.aload_n 0, 1, 0, 0, 0) from rfl) (List.Mem.head _) ?_
      refine z_getI X 1 (show cdA 129 173 = some (.getfield 29, 3, 10, 3, 0) from rfl) (by decide) rfl rfl ?_
      have b3006 : (0 : Int) ≤ iI t 2 ∧ iI t 2 ≤ 200 := I.1 2
      refine z_aload_n X (x := A 1) (show cdA 129 176 = some (.aload_n 0, 1, 0, 0, 0) from rfl) (List.Mem.head _) ?_
      refine z_getI X 1 (show cdA 129 177 = some (.getfield 26, 3, 10, 2, 0) from rfl) (by decide) rfl rfl ?_
      have b3007 : (0 : Int) ≤ iI t 1 ∧ iI t 1 ≤ 200 := I.1 1
      refine z_icmp_ge X (t := 232) (show cdA 129 180 = some (.if_icmp .ge 52, 3, 3, 0, 0) from rfl) (by decide) (rng_to _) (rng_to _) (fun g3008 => ?_) (fun g3008 => ?_)
      ·
        refine WS_lv (lv := [(0, .ref (A 1))]) (List.forall_mem_cons.mpr ⟨(List.Mem.head _), (fun q h => absurd h List.not_mem_nil)⟩) ?_
        exact kx _  I F (by first | exact ⟨hi.1, hi.2⟩ | omega)
      ·
        refine z_aload_n X (x := A 1) (show cdA 129 183 = some (.aload_n 0, 1, 0, 0, 0) from rfl) (List.Mem.head _) ?_
        refine z_aload_n X (x := A 1) (show cdA 129 184 = some (.aload_n 0, 1, 0, 0, 0) from rfl) (List.Mem.head _) ?_
        refine s_getR X 1 (show cdA 129 185 = some (.getfield 11, 3, 10, 0, 0) from rfl) (by decide) rfl rfl ?_
        refine z_aload_n X (x := A 1) (show cdA 129 188 = some (.aload_n 0, 1, 0, 0, 0) from rfl) (List.Mem.head _) ?_
        refine z_getI X 1 (show cdA 129 189 = some (.getfield 29, 3, 10, 3, 0) from rfl) (by decide) rfl rfl ?_
        have b3009 : (0 : Int) ≤ iI t 2 ∧ iI t 2 ≤ 200 := I.1 2
        refine z_ald X 2 (show cdA 129 192 = some (.iaload, 1, 0, 0, 0) from rfl) (by decide) rfl (by first | exact b3009.1 | omega) (show (iI t 2) < 200 by first | exact oq_6fca3d72 g3008 b3007.2 | omega) (by decide) ?_
        have b3010 : (0 : Int) ≤ iC t 0 ((iI t 2)).toNat ∧ iC t 0 ((iI t 2)).toNat ≤ 255 := I.2 0 _ (show ((iI t 2)).toNat < 200 by first | exact oq_b70289d5 g3008 b3007.2 | omega)
        refine z_callV X 1 (rm := rmN 130) (As := [.int (Int32.ofInt (iC t 0 ((iI t 2)).toNat))]) (st := []) (show cdA 129 193 = some (.invokevirtual 48, 3, 130, 0, 0) from rfl) rfl (by decide) rfl (by rw [E.1, E.2.1, E.2.2.1]; exact c10_kindOf_1 G I (by first | exact ⟨b3010.1, b3010.2⟩ | omega)) ⟨by rw [E.2.2.2]; exact (show (rmN 130).frames + 1 ≤ (rmN 129).frames by decide), by rw [E.2.2.2]; exact (show 8 + (mNL (miB 130) + 11) + (rmN 130).locals ≤ (rmN 129).locals by decide), by rw [E.2.2.2]; exact (show 0 + (rmN 130).cells ≤ (rmN 129).cells by decide), by rw [E.2.2.2]; exact (show 0 + (rmN 130).slots ≤ (rmN 129).slots by decide)⟩ (Nat.le_of_ble_eq_true rfl) (fun vv s3011 hq => ?_) (fun ee s3011 hq => ?_)
        rotate_left
        · obtain ⟨rfl, e3012, hv, hrs3011, hps3011⟩ := hq; cases hv
        obtain ⟨rfl, e3012, hv, hrs3011, hps3011⟩ := hq
        cases hv
        show WS k 196 [(0, .ref (A 1))] [.int (Int32.ofInt e3012)] (Wd A dT t) 0 0
        refine z_bipush X (show cdA 129 196 = some (.bipush (-3), 2, 0, 0, (-3)) from rfl) ?_
        refine z_icmp_ne X (t := 232) (show cdA 129 198 = some (.if_icmp .ne 34, 3, 1, 0, 0) from rfl) (by decide) hrs3011 (by decide) (fun g3013 => ?_) (fun g3013 => ?_)
        ·
          refine WS_lv (lv := [(0, .ref (A 1))]) (List.forall_mem_cons.mpr ⟨(List.Mem.head _), (fun q h => absurd h List.not_mem_nil)⟩) ?_
          exact kx _  I F (by first | exact ⟨hi.1, hi.2⟩ | omega)
        ·
          refine z_aload_n X (x := A 1) (show cdA 129 201 = some (.aload_n 0, 1, 0, 0, 0) from rfl) (List.Mem.head _) ?_
          refine w_dup X.1 (ax_d X (show cdA 129 202 = some (.dup, 1, 0, 0, 0) from rfl)) rfl ?_
          refine z_getI X 1 (show cdA 129 203 = some (.getfield 29, 3, 10, 3, 0) from rfl) (by decide) rfl rfl ?_
          have b3014 : (0 : Int) ≤ iI t 2 ∧ iI t 2 ≤ 200 := I.1 2
          refine z_const X (show cdA 129 206 = some (.iconst 1, 1, 0, 0, 0) from rfl) ?_
          refine z_add X (show cdA 129 207 = some (.iadd, 1, 0, 0, 0) from rfl) ?_
          refine s_putI X 1 (show cdA 129 208 = some (.putfield 29, 3, 10, 3, 0) from rfl) (by decide) rfl rfl (by decide) rfl rfl rfl ?_
          obtain ⟨s3015, hs3015⟩ : ∃ x0, x0 = uI t 2 (Int32.ofInt ((iI t 2) + 1)) := ⟨_, rfl⟩
          rw [← hs3015]
          have Is3015 : Bd s3015 := by rw [hs3015]; exact bd_I I (show (0 : Int) ≤ ((iI t 2) + 1) ∧ ((iI t 2) + 1) ≤ 200 by first | exact ⟨oq_54f49eb5 b3014.1, oq_228270fa g3008 b3007.2⟩ | omega) ⟨by first | exact oq_74de1e16 b3014.1 | omega, by first | exact oq_bb8d498d b3014.2 | omega⟩
          have Fs3015 := fm_I (x := Int32.ofInt ((iI t 2) + 1)) F (show 2 ∈ _ by decide)
          rw [← hs3015] at Fs3015
          have vs3015 : iI s3015 2 = ((iI t 2) + 1) := by rw [hs3015]; exact iI_u ⟨by first | exact oq_74de1e16 b3014.1 | omega, by first | exact oq_bb8d498d b3014.2 | omega⟩
          have ws3015_1 : iI s3015 1 = iI t 1 := by rw [hs3015]; rfl
          have ws3015_4 : iI s3015 4 = iI t 4 := by rw [hs3015]; rfl
          have ws3015_5 : iI s3015 5 = iI t 5 := by rw [hs3015]; rfl
          have ws3015_6 : iI s3015 6 = iI t 6 := by rw [hs3015]; rfl
          refine z_goto X (t := 172) (show cdA 129 211 = some (.goto (-39), 3, 0, 0, 0) from rfl) (by decide) ?_
          refine WS_lv (lv := [(0, .ref (A 1))]) (List.forall_mem_cons.mpr ⟨(List.Mem.head _), (fun q h => absurd h List.not_mem_nil)⟩) ?_
          exact ih _  Is3015 Fs3015 (by first | exact ⟨oq_61bfd4fa ws3015_1 vs3015 g3008, oq_13269827 vs3015 ws3015_4 hi.2⟩ | omega) (by first | exact qk_me hm (oq_bf2569a2 ws3015_1 vs3015) (oq_901836cd g3008) | omega) kx
  refine WS_lv (lv := [(0, .ref (A 1))]) (List.forall_mem_cons.mpr ⟨(List.Mem.head _), (fun q h => absurd h List.not_mem_nil)⟩) ?_
  refine L0 ((iI s 1 - iI s 2 : Int).toNat + 1) s  I F (by first | exact p0 | omega) (Nat.lt_succ_self _) ?_
  intro s6  Is6 Fs6 hs6
  have b7 : (0 : Int) ≤ iI s6 2 ∧ iI s6 2 ≤ 200 := Is6.1 2
  have b8 : (0 : Int) ≤ iI s6 1 ∧ iI s6 1 ≤ 200 := Is6.1 1
  have b9 : (0 : Int) ≤ iI s6 4 ∧ iI s6 4 ≤ 200 := Is6.1 4
  have b10 : ((-3) : Int) ≤ iI s6 5 ∧ iI s6 5 ≤ 255 := Is6.1 5
  have b11 : (0 : Int) ≤ iI s6 6 ∧ iI s6 6 ≤ 100000 := Is6.1 6
  refine z_aload_n X (x := A 1) (show cdA 129 38 = some (.aload_n 0, 1, 0, 0, 0) from rfl) (List.Mem.head _) ?_
  refine z_aload_n X (x := A 1) (show cdA 129 39 = some (.aload_n 0, 1, 0, 0, 0) from rfl) (List.Mem.head _) ?_
  refine z_getI X 1 (show cdA 129 40 = some (.getfield 29, 3, 10, 3, 0) from rfl) (by decide) rfl rfl ?_
  have b12 : (0 : Int) ≤ iI s6 2 ∧ iI s6 2 ≤ 200 := Is6.1 2
  refine s_putI X 1 (show cdA 129 43 = some (.putfield 42, 3, 10, 5, 0) from rfl) (by decide) rfl rfl (by decide) rfl rfl rfl ?_
  obtain ⟨s13, hs13⟩ : ∃ x0, x0 = uI s6 4 (Int32.ofInt (iI s6 2)) := ⟨_, rfl⟩
  rw [← hs13]
  have Is13 : Bd s13 := by rw [hs13]; exact bd_I Is6 (show (0 : Int) ≤ (iI s6 2) ∧ (iI s6 2) ≤ 200 by first | exact ⟨b12.1, b12.2⟩ | omega) (rng_to _)
  have Fs13 := fm_I (x := Int32.ofInt (iI s6 2)) Fs6 (show 4 ∈ _ by decide)
  rw [← hs13] at Fs13
  have vs13 : iI s13 4 = (iI s6 2) := by rw [hs13]; exact iI_u (rng_to _)
  have ws13_2 : iI s13 2 = iI s6 2 := by rw [hs13]; rfl
  have ws13_1 : iI s13 1 = iI s6 1 := by rw [hs13]; rfl
  have ws13_5 : iI s13 5 = iI s6 5 := by rw [hs13]; rfl
  have ws13_6 : iI s13 6 = iI s6 6 := by rw [hs13]; rfl
  refine z_aload_n X (x := A 1) (show cdA 129 46 = some (.aload_n 0, 1, 0, 0, 0) from rfl) (List.Mem.head _) ?_
  refine z_const X (show cdA 129 47 = some (.iconst 0, 1, 0, 0, 0) from rfl) ?_
  refine s_putI X 1 (show cdA 129 48 = some (.putfield 45, 3, 10, 7, 0) from rfl) (by decide) rfl rfl (by decide) rfl rfl rfl ?_
  obtain ⟨s14, hs14⟩ : ∃ x0, x0 = uI s13 6 (Int32.ofInt 0) := ⟨_, rfl⟩
  rw [← hs14]
  have Is14 : Bd s14 := by rw [hs14]; exact bd_I Is13 (show (0 : Int) ≤ 0 ∧ 0 ≤ 100000 by first | exact ⟨by decide, by decide⟩ | omega) (by decide)
  have Fs14 := fm_I (x := Int32.ofInt 0) Fs13 (show 6 ∈ _ by decide)
  rw [← hs14] at Fs14
  have vs14 : iI s14 6 = 0 := by rw [hs14]; exact iI_u (by decide)
  have ws14_2 : iI s14 2 = iI s13 2 := by rw [hs14]; rfl
  have ws14_1 : iI s14 1 = iI s13 1 := by rw [hs14]; rfl
  have ws14_4 : iI s14 4 = iI s13 4 := by rw [hs14]; rfl
  have ws14_5 : iI s14 5 = iI s13 5 := by rw [hs14]; rfl
  refine z_aload_n X (x := A 1) (show cdA 129 51 = some (.aload_n 0, 1, 0, 0, 0) from rfl) (List.Mem.head _) ?_
  refine z_aload_n X (x := A 1) (show cdA 129 52 = some (.aload_n 0, 1, 0, 0, 0) from rfl) (List.Mem.head _) ?_
  refine z_getI X 1 (show cdA 129 53 = some (.getfield 29, 3, 10, 3, 0) from rfl) (by decide) rfl rfl ?_
  have b15 : (0 : Int) ≤ iI s14 2 ∧ iI s14 2 ≤ 200 := Is14.1 2
  refine z_aload_n X (x := A 1) (show cdA 129 56 = some (.aload_n 0, 1, 0, 0, 0) from rfl) (List.Mem.head _) ?_
  refine z_getI X 1 (show cdA 129 57 = some (.getfield 26, 3, 10, 2, 0) from rfl) (by decide) rfl rfl ?_
  have b16 : (0 : Int) ≤ iI s14 1 ∧ iI s14 1 ≤ 200 := Is14.1 1
  refine z_icmp_ge X (t := 79) (show cdA 129 60 = some (.if_icmp .ge 19, 3, 3, 0, 0) from rfl) (by decide) (rng_to _) (rng_to _) (fun g17 => ?_) (fun g17 => ?_)
  ·
    refine z_const X (show cdA 129 79 = some (.iconst (-1), 1, 0, 0, 0) from rfl) ?_
    refine s_putI X 1 (show cdA 129 80 = some (.putfield 52, 3, 10, 6, 0) from rfl) (by decide) rfl rfl (by decide) rfl rfl rfl ?_
    obtain ⟨s18, hs18⟩ : ∃ x0, x0 = uI s14 5 (Int32.ofInt (-1)) := ⟨_, rfl⟩
    rw [← hs18]
    have Is18 : Bd s18 := by rw [hs18]; exact bd_I Is14 (show ((-3) : Int) ≤ (-1) ∧ (-1) ≤ 255 by first | exact ⟨by decide, by decide⟩ | omega) (by decide)
    have Fs18 := fm_I (x := Int32.ofInt (-1)) Fs14 (show 5 ∈ _ by decide)
    rw [← hs18] at Fs18
    have vs18 : iI s18 5 = (-1) := by rw [hs18]; exact iI_u (by decide)
    have ws18_2 : iI s18 2 = iI s14 2 := by rw [hs18]; rfl
    have ws18_1 : iI s18 1 = iI s14 1 := by rw [hs18]; rfl
    have ws18_4 : iI s18 4 = iI s14 4 := by rw [hs18]; rfl
    have ws18_6 : iI s18 6 = iI s14 6 := by rw [hs18]; rfl
    refine z_aload_n X (x := A 1) (show cdA 129 83 = some (.aload_n 0, 1, 0, 0, 0) from rfl) (List.Mem.head _) ?_
    refine z_getI X 1 (show cdA 129 84 = some (.getfield 52, 3, 10, 6, 0) from rfl) (by decide) rfl rfl ?_
    have b19 : ((-3) : Int) ≤ iI s18 5 ∧ iI s18 5 ≤ 255 := Is18.1 5
    refine z_bipush X (show cdA 129 87 = some (.bipush (-2), 2, 0, 0, (-2)) from rfl) ?_
    refine z_icmp_ne X (t := 163) (show cdA 129 89 = some (.if_icmp .ne 74, 3, 1, 0, 0) from rfl) (by decide) (rng_to _) (by decide) (fun g20 => ?_) (fun g20 => ?_)
    ·
      refine z_aload_n X (x := A 1) (show cdA 129 163 = some (.aload_n 0, 1, 0, 0, 0) from rfl) (List.Mem.head _) ?_
      refine z_getI X 1 (show cdA 129 164 = some (.getfield 52, 3, 10, 6, 0) from rfl) (by decide) rfl rfl ?_
      have b21 : ((-3) : Int) ≤ iI s18 5 ∧ iI s18 5 ≤ 255 := Is18.1 5
      refine z_bipush X (show cdA 129 167 = some (.bipush (-3), 2, 0, 0, (-3)) from rfl) ?_
      refine z_icmp_ne X (t := 214) (show cdA 129 169 = some (.if_icmp .ne 45, 3, 1, 0, 0) from rfl) (by decide) (rng_to _) (by decide) (fun g22 => ?_) (fun g22 => ?_)
      ·
        refine z_aload_n X (x := A 1) (show cdA 129 214 = some (.aload_n 0, 1, 0, 0, 0) from rfl) (List.Mem.head _) ?_
        refine z_getI X 1 (show cdA 129 215 = some (.getfield 52, 3, 10, 6, 0) from rfl) (by decide) rfl rfl ?_
        have b23 : ((-3) : Int) ≤ iI s18 5 ∧ iI s18 5 ≤ 255 := Is18.1 5
        refine z_const X (show cdA 129 218 = some (.iconst (-1), 1, 0, 0, 0) from rfl) ?_
        refine z_icmp_eq X (t := 232) (show cdA 129 219 = some (.if_icmp .eq 13, 3, 0, 0, 0) from rfl) (by decide) (rng_to _) (by decide) (fun g24 => ?_) (fun g24 => ?_)
        ·
          exact w_vret X.1 q hRt (ax_d X (show cdA 129 232 = some (.return_, 1, 0, 0, 0) from rfl)) (Nat.zero_le _) (Nat.zero_le _) ⟨_, rfl, Is18, Fs18, rfl, by first | exact ⟨oq_72ebe5a4 ws18_1 ws18_2 ws14_1 ws14_2 ws13_1 ws13_2 hs6, oq_75f1f811 ws18_4 ws18_2 ws14_4 ws14_2 ws13_2 vs13⟩ | omega⟩
        ·
          refine z_aload_n X (x := A 1) (show cdA 129 222 = some (.aload_n 0, 1, 0, 0, 0) from rfl) (List.Mem.head _) ?_
          refine w_dup X.1 (ax_d X (show cdA 129 223 = some (.dup, 1, 0, 0, 0) from rfl)) rfl ?_
          refine z_getI X 1 (show cdA 129 224 = some (.getfield 29, 3, 10, 3, 0) from rfl) (by decide) rfl rfl ?_
          have b25 : (0 : Int) ≤ iI s18 2 ∧ iI s18 2 ≤ 200 := Is18.1 2
          refine z_const X (show cdA 129 227 = some (.iconst 1, 1, 0, 0, 0) from rfl) ?_
          refine z_add X (show cdA 129 228 = some (.iadd, 1, 0, 0, 0) from rfl) ?_
          refine s_putI X 1 (show cdA 129 229 = some (.putfield 29, 3, 10, 3, 0) from rfl) (by decide) rfl rfl (by decide) rfl rfl rfl ?_
          obtain ⟨s26, hs26⟩ : ∃ x0, x0 = uI s18 2 (Int32.ofInt ((iI s18 2) + 1)) := ⟨_, rfl⟩
          rw [← hs26]
          have Is26 : Bd s26 := by rw [hs26]; exact bd_I Is18 (show (0 : Int) ≤ ((iI s18 2) + 1) ∧ ((iI s18 2) + 1) ≤ 200 by first | exact ⟨oq_54f49eb5 b25.1, oq_3239b5cf g24 vs18⟩ | omega) ⟨by first | exact oq_74de1e16 b25.1 | omega, by first | exact oq_bb8d498d b25.2 | omega⟩
          have Fs26 := fm_I (x := Int32.ofInt ((iI s18 2) + 1)) Fs18 (show 2 ∈ _ by decide)
          rw [← hs26] at Fs26
          have vs26 : iI s26 2 = ((iI s18 2) + 1) := by rw [hs26]; exact iI_u ⟨by first | exact oq_74de1e16 b25.1 | omega, by first | exact oq_bb8d498d b25.2 | omega⟩
          have ws26_1 : iI s26 1 = iI s18 1 := by rw [hs26]; rfl
          have ws26_4 : iI s26 4 = iI s18 4 := by rw [hs26]; rfl
          have ws26_5 : iI s26 5 = iI s18 5 := by rw [hs26]; rfl
          have ws26_6 : iI s26 6 = iI s18 6 := by rw [hs26]; rfl
          exact w_vret X.1 q hRt (ax_d X (show cdA 129 232 = some (.return_, 1, 0, 0, 0) from rfl)) (Nat.zero_le _) (Nat.zero_le _) ⟨_, rfl, Is26, Fs26, rfl, by first | exact ⟨oq_92cb535d g24 vs18, oq_92f9996c ws26_4 vs26 ws18_4 ws18_2 ws14_4 ws14_2 ws13_2 vs13⟩ | omega⟩
      ·
        refine WS_lv (lv := [(0, .ref (A 1))]) (List.forall_mem_cons.mpr ⟨(List.Mem.head _), (fun q h => absurd h List.not_mem_nil)⟩) ?_
        refine L172 ((iI s18 1 - iI s18 2 : Int).toNat + 1) s18  Is18 Fs18 (by first | exact ⟨oq_6e4ffff9 g22 vs18, oq_6e4ffff9 g22 vs18⟩ | omega) (Nat.lt_succ_self _) ?_
        intro s27  Is27 Fs27 hs27
        have b28 : (0 : Int) ≤ iI s27 2 ∧ iI s27 2 ≤ 200 := Is27.1 2
        have b29 : (0 : Int) ≤ iI s27 1 ∧ iI s27 1 ≤ 200 := Is27.1 1
        have b30 : (0 : Int) ≤ iI s27 4 ∧ iI s27 4 ≤ 200 := Is27.1 4
        have b31 : ((-3) : Int) ≤ iI s27 5 ∧ iI s27 5 ≤ 255 := Is27.1 5
        have b32 : (0 : Int) ≤ iI s27 6 ∧ iI s27 6 ≤ 100000 := Is27.1 6
        exact w_vret X.1 q hRt (ax_d X (show cdA 129 232 = some (.return_, 1, 0, 0, 0) from rfl)) (Nat.zero_le _) (Nat.zero_le _) ⟨_, rfl, Is27, Fs27, rfl, by first | exact ⟨hs27.1, hs27.2⟩ | omega⟩
    ·
      refine WS_lv (lv := [(0, .ref (A 1))]) (List.forall_mem_cons.mpr ⟨(List.Mem.head _), (fun q h => absurd h List.not_mem_nil)⟩) ?_
      refine L92 ((iI s18 1 - iI s18 2 : Int).toNat + 1) s18  Is18 Fs18 (by first | exact ⟨oq_d948e2ba g20 vs18, oq_d948e2ba g20 vs18⟩ | omega) (Nat.lt_succ_self _) ?_
      intro s33  Is33 Fs33 hs33
      have b34 : (0 : Int) ≤ iI s33 2 ∧ iI s33 2 ≤ 200 := Is33.1 2
      have b35 : (0 : Int) ≤ iI s33 1 ∧ iI s33 1 ≤ 200 := Is33.1 1
      have b36 : (0 : Int) ≤ iI s33 4 ∧ iI s33 4 ≤ 200 := Is33.1 4
      have b37 : ((-3) : Int) ≤ iI s33 5 ∧ iI s33 5 ≤ 255 := Is33.1 5
      have b38 : (0 : Int) ≤ iI s33 6 ∧ iI s33 6 ≤ 100000 := Is33.1 6
      exact w_vret X.1 q hRt (ax_d X (show cdA 129 232 = some (.return_, 1, 0, 0, 0) from rfl)) (Nat.zero_le _) (Nat.zero_le _) ⟨_, rfl, Is33, Fs33, rfl, by first | exact ⟨hs33.1, hs33.2⟩ | omega⟩
  ·
    refine z_aload_n X (x := A 1) (show cdA 129 63 = some (.aload_n 0, 1, 0, 0, 0) from rfl) (List.Mem.head _) ?_
    refine z_aload_n X (x := A 1) (show cdA 129 64 = some (.aload_n 0, 1, 0, 0, 0) from rfl) (List.Mem.head _) ?_
    refine s_getR X 1 (show cdA 129 65 = some (.getfield 11, 3, 10, 0, 0) from rfl) (by decide) rfl rfl ?_
    refine z_aload_n X (x := A 1) (show cdA 129 68 = some (.aload_n 0, 1, 0, 0, 0) from rfl) (List.Mem.head _) ?_
    refine z_getI X 1 (show cdA 129 69 = some (.getfield 29, 3, 10, 3, 0) from rfl) (by decide) rfl rfl ?_
    have b39 : (0 : Int) ≤ iI s14 2 ∧ iI s14 2 ≤ 200 := Is14.1 2
    refine z_ald X 2 (show cdA 129 72 = some (.iaload, 1, 0, 0, 0) from rfl) (by decide) rfl (by first | exact b39.1 | omega) (show (iI s14 2) < 200 by first | exact oq_6fca3d72 g17 b16.2 | omega) (by decide) ?_
    have b40 : (0 : Int) ≤ iC s14 0 ((iI s14 2)).toNat ∧ iC s14 0 ((iI s14 2)).toNat ≤ 255 := Is14.2 0 _ (show ((iI s14 2)).toNat < 200 by first | exact oq_b70289d5 g17 b16.2 | omega)
    refine z_callV X 1 (rm := rmN 130) (As := [.int (Int32.ofInt (iC s14 0 ((iI s14 2)).toNat))]) (st := [.ref (A 1)]) (show cdA 129 73 = some (.invokevirtual 48, 3, 130, 0, 0) from rfl) rfl (by decide) rfl (by rw [E.1, E.2.1, E.2.2.1]; exact c10_kindOf_1 G Is14 (by first | exact ⟨b40.1, b40.2⟩ | omega)) ⟨by rw [E.2.2.2]; exact (show (rmN 130).frames + 1 ≤ (rmN 129).frames by decide), by rw [E.2.2.2]; exact (show 8 + (mNL (miB 130) + 11) + (rmN 130).locals ≤ (rmN 129).locals by decide), by rw [E.2.2.2]; exact (show 0 + (rmN 130).cells ≤ (rmN 129).cells by decide), by rw [E.2.2.2]; exact (show 0 + (rmN 130).slots ≤ (rmN 129).slots by decide)⟩ (Nat.le_of_ble_eq_true rfl) (fun vv s41 hq => ?_) (fun ee s41 hq => ?_)
    rotate_left
    · obtain ⟨rfl, e42, hv, hrs41, hps41⟩ := hq; cases hv
    obtain ⟨rfl, e42, hv, hrs41, hps41⟩ := hq
    cases hv
    show WS k 76 [(0, .ref (A 1))] [.int (Int32.ofInt e42), .ref (A 1)] (Wd A dT s14) 0 0
    refine z_goto X (t := 80) (show cdA 129 76 = some (.goto 4, 3, 0, 0, 0) from rfl) (by decide) ?_
    refine s_putI X 1 (show cdA 129 80 = some (.putfield 52, 3, 10, 6, 0) from rfl) (by decide) rfl rfl (by decide) rfl rfl rfl ?_
    obtain ⟨s43, hs43⟩ : ∃ x0, x0 = uI s14 5 (Int32.ofInt e42) := ⟨_, rfl⟩
    rw [← hs43]
    have Is43 : Bd s43 := by rw [hs43]; exact bd_I Is14 (show ((-3) : Int) ≤ e42 ∧ e42 ≤ 255 by first | exact ⟨hps41.1, hps41.2.1⟩ | omega) hrs41
    have Fs43 := fm_I (x := Int32.ofInt e42) Fs14 (show 5 ∈ _ by decide)
    rw [← hs43] at Fs43
    have vs43 : iI s43 5 = e42 := by rw [hs43]; exact iI_u hrs41
    have ws43_2 : iI s43 2 = iI s14 2 := by rw [hs43]; rfl
    have ws43_1 : iI s43 1 = iI s14 1 := by rw [hs43]; rfl
    have ws43_4 : iI s43 4 = iI s14 4 := by rw [hs43]; rfl
    have ws43_6 : iI s43 6 = iI s14 6 := by rw [hs43]; rfl
    refine z_aload_n X (x := A 1) (show cdA 129 83 = some (.aload_n 0, 1, 0, 0, 0) from rfl) (List.Mem.head _) ?_
    refine z_getI X 1 (show cdA 129 84 = some (.getfield 52, 3, 10, 6, 0) from rfl) (by decide) rfl rfl ?_
    have b44 : ((-3) : Int) ≤ iI s43 5 ∧ iI s43 5 ≤ 255 := Is43.1 5
    refine z_bipush X (show cdA 129 87 = some (.bipush (-2), 2, 0, 0, (-2)) from rfl) ?_
    refine z_icmp_ne X (t := 163) (show cdA 129 89 = some (.if_icmp .ne 74, 3, 1, 0, 0) from rfl) (by decide) (rng_to _) (by decide) (fun g45 => ?_) (fun g45 => ?_)
    ·
      refine z_aload_n X (x := A 1) (show cdA 129 163 = some (.aload_n 0, 1, 0, 0, 0) from rfl) (List.Mem.head _) ?_
      refine z_getI X 1 (show cdA 129 164 = some (.getfield 52, 3, 10, 6, 0) from rfl) (by decide) rfl rfl ?_
      have b46 : ((-3) : Int) ≤ iI s43 5 ∧ iI s43 5 ≤ 255 := Is43.1 5
      refine z_bipush X (show cdA 129 167 = some (.bipush (-3), 2, 0, 0, (-3)) from rfl) ?_
      refine z_icmp_ne X (t := 214) (show cdA 129 169 = some (.if_icmp .ne 45, 3, 1, 0, 0) from rfl) (by decide) (rng_to _) (by decide) (fun g47 => ?_) (fun g47 => ?_)
      ·
        refine z_aload_n X (x := A 1) (show cdA 129 214 = some (.aload_n 0, 1, 0, 0, 0) from rfl) (List.Mem.head _) ?_
        refine z_getI X 1 (show cdA 129 215 = some (.getfield 52, 3, 10, 6, 0) from rfl) (by decide) rfl rfl ?_
        have b48 : ((-3) : Int) ≤ iI s43 5 ∧ iI s43 5 ≤ 255 := Is43.1 5
        refine z_const X (show cdA 129 218 = some (.iconst (-1), 1, 0, 0, 0) from rfl) ?_
        refine z_icmp_eq X (t := 232) (show cdA 129 219 = some (.if_icmp .eq 13, 3, 0, 0, 0) from rfl) (by decide) (rng_to _) (by decide) (fun g49 => ?_) (fun g49 => ?_)
        ·
          exact w_vret X.1 q hRt (ax_d X (show cdA 129 232 = some (.return_, 1, 0, 0, 0) from rfl)) (Nat.zero_le _) (Nat.zero_le _) ⟨_, rfl, Is43, Fs43, rfl, by first | exact ⟨oq_51a58521 ws43_1 ws43_2 g17, oq_75f1f811 ws43_4 ws43_2 ws14_4 ws14_2 ws13_2 vs13⟩ | omega⟩
        ·
          refine z_aload_n X (x := A 1) (show cdA 129 222 = some (.aload_n 0, 1, 0, 0, 0) from rfl) (List.Mem.head _) ?_
          refine w_dup X.1 (ax_d X (show cdA 129 223 = some (.dup, 1, 0, 0, 0) from rfl)) rfl ?_
          refine z_getI X 1 (show cdA 129 224 = some (.getfield 29, 3, 10, 3, 0) from rfl) (by decide) rfl rfl ?_
          have b50 : (0 : Int) ≤ iI s43 2 ∧ iI s43 2 ≤ 200 := Is43.1 2
          refine z_const X (show cdA 129 227 = some (.iconst 1, 1, 0, 0, 0) from rfl) ?_
          refine z_add X (show cdA 129 228 = some (.iadd, 1, 0, 0, 0) from rfl) ?_
          refine s_putI X 1 (show cdA 129 229 = some (.putfield 29, 3, 10, 3, 0) from rfl) (by decide) rfl rfl (by decide) rfl rfl rfl ?_
          obtain ⟨s51, hs51⟩ : ∃ x0, x0 = uI s43 2 (Int32.ofInt ((iI s43 2) + 1)) := ⟨_, rfl⟩
          rw [← hs51]
          have Is51 : Bd s51 := by rw [hs51]; exact bd_I Is43 (show (0 : Int) ≤ ((iI s43 2) + 1) ∧ ((iI s43 2) + 1) ≤ 200 by first | exact ⟨oq_54f49eb5 b50.1, oq_ff985df0 ws43_2 g17 b16.2⟩ | omega) ⟨by first | exact oq_74de1e16 b50.1 | omega, by first | exact oq_bb8d498d b50.2 | omega⟩
          have Fs51 := fm_I (x := Int32.ofInt ((iI s43 2) + 1)) Fs43 (show 2 ∈ _ by decide)
          rw [← hs51] at Fs51
          have vs51 : iI s51 2 = ((iI s43 2) + 1) := by rw [hs51]; exact iI_u ⟨by first | exact oq_74de1e16 b50.1 | omega, by first | exact oq_bb8d498d b50.2 | omega⟩
          have ws51_1 : iI s51 1 = iI s43 1 := by rw [hs51]; rfl
          have ws51_4 : iI s51 4 = iI s43 4 := by rw [hs51]; rfl
          have ws51_5 : iI s51 5 = iI s43 5 := by rw [hs51]; rfl
          have ws51_6 : iI s51 6 = iI s43 6 := by rw [hs51]; rfl
          exact w_vret X.1 q hRt (ax_d X (show cdA 129 232 = some (.return_, 1, 0, 0, 0) from rfl)) (Nat.zero_le _) (Nat.zero_le _) ⟨_, rfl, Is51, Fs51, rfl, by first | exact ⟨oq_499a7076 ws51_1 vs51 ws43_1 ws43_2 g17, oq_92f9996c ws51_4 vs51 ws43_4 ws43_2 ws14_4 ws14_2 ws13_2 vs13⟩ | omega⟩
      ·
        refine WS_lv (lv := [(0, .ref (A 1))]) (List.forall_mem_cons.mpr ⟨(List.Mem.head _), (fun q h => absurd h List.not_mem_nil)⟩) ?_
        refine L172 ((iI s43 1 - iI s43 2 : Int).toNat + 1) s43  Is43 Fs43 (by first | exact ⟨oq_51a58521 ws43_1 ws43_2 g17, oq_75f1f811 ws43_4 ws43_2 ws14_4 ws14_2 ws13_2 vs13⟩ | omega) (Nat.lt_succ_self _) ?_
        intro s52  Is52 Fs52 hs52
        have b53 : (0 : Int) ≤ iI s52 2 ∧ iI s52 2 ≤ 200 := Is52.1 2
        have b54 : (0 : Int) ≤ iI s52 1 ∧ iI s52 1 ≤ 200 := Is52.1 1
        have b55 : (0 : Int) ≤ iI s52 4 ∧ iI s52 4 ≤ 200 := Is52.1 4
        have b56 : ((-3) : Int) ≤ iI s52 5 ∧ iI s52 5 ≤ 255 := Is52.1 5
        have b57 : (0 : Int) ≤ iI s52 6 ∧ iI s52 6 ≤ 100000 := Is52.1 6
        exact w_vret X.1 q hRt (ax_d X (show cdA 129 232 = some (.return_, 1, 0, 0, 0) from rfl)) (Nat.zero_le _) (Nat.zero_le _) ⟨_, rfl, Is52, Fs52, rfl, by first | exact ⟨hs52.1, hs52.2⟩ | omega⟩
    ·
      refine WS_lv (lv := [(0, .ref (A 1))]) (List.forall_mem_cons.mpr ⟨(List.Mem.head _), (fun q h => absurd h List.not_mem_nil)⟩) ?_
      refine L92 ((iI s43 1 - iI s43 2 : Int).toNat + 1) s43  Is43 Fs43 (by first | exact ⟨oq_51a58521 ws43_1 ws43_2 g17, oq_75f1f811 ws43_4 ws43_2 ws14_4 ws14_2 ws13_2 vs13⟩ | omega) (Nat.lt_succ_self _) ?_
      intro s58  Is58 Fs58 hs58
      have b59 : (0 : Int) ≤ iI s58 2 ∧ iI s58 2 ≤ 200 := Is58.1 2
      have b60 : (0 : Int) ≤ iI s58 1 ∧ iI s58 1 ≤ 200 := Is58.1 1
      have b61 : (0 : Int) ≤ iI s58 4 ∧ iI s58 4 ≤ 200 := Is58.1 4
      have b62 : ((-3) : Int) ≤ iI s58 5 ∧ iI s58 5 ≤ 255 := Is58.1 5
      have b63 : (0 : Int) ≤ iI s58 6 ∧ iI s58 6 ≤ 100000 := Is58.1 6
      exact w_vret X.1 q hRt (ax_d X (show cdA 129 232 = some (.return_, 1, 0, 0, 0) from rfl)) (Nat.zero_le _) (Nat.zero_le _) ⟨_, rfl, Is58, Fs58, rfl, by first | exact ⟨hs58.1, hs58.2⟩ | omega⟩
set_option maxRecDepth 4000 in
theorem c10_open_1 (G : GX l s0 D tys a0 dT) (I : Bd s) {x y : Int} (p0 : 0 ≤ x ∧ x ≤ 200) (p1 : y = 0 ∨ y = 1) : CT l s0 D A dT 128 (rmN 128) [.ref (A 1), .int (Int32.ofInt x), .int (Int32.ofInt y)] s (fun o t => Bd t ∧ Fm [2, 4, 6, 5, 1, 3, 0, 7, 8] [] s t ∧ o = .inl none ∧ (iI t 0 = 0 ∧ iI t 2 ≤ iI t 1 ∧ iI t 4 ≤ iI t 2)) := by
  refine ct_ofX G (by decide) (Nat.le_of_ble_eq_true rfl) (fun k X E ET hRt hXt q => ?_)
  show WS k 0 [(0, .ref (A 1)), (1, .int (Int32.ofInt x)), (2, .int (Int32.ofInt y))] [] _ 0 0
  have F : Fm [2, 4, 6, 5, 1, 3, 0, 7, 8] [] s s := fm_rf _ _ s
  have b1 : (0 : Int) ≤ iI s 0 ∧ iI s 0 ≤ 200 := I.1 0
  have b2 : (0 : Int) ≤ iI s 2 ∧ iI s 2 ≤ 200 := I.1 2
  have b3 : (0 : Int) ≤ iI s 1 ∧ iI s 1 ≤ 200 := I.1 1
  have b4 : (0 : Int) ≤ iI s 4 ∧ iI s 4 ≤ 200 := I.1 4
  refine z_aload_n X (x := A 1) (show cdA 128 0 = some (.aload_n 0, 1, 0, 0, 0) from rfl) (List.Mem.head _) ?_
  refine z_load_n X (x := x) (show cdA 128 1 = some (.iload_n 1, 1, 0, 0, 0) from rfl) (List.Mem.tail _ (List.Mem.head _)) ?_
  refine s_putI X 1 (show cdA 128 2 = some (.putfield 26, 3, 10, 2, 0) from rfl) (by decide) rfl rfl (by decide) rfl rfl rfl ?_
  obtain ⟨s5, hs5⟩ : ∃ x0, x0 = uI s 1 (Int32.ofInt x) := ⟨_, rfl⟩
  rw [← hs5]
  have Is5 : Bd s5 := by rw [hs5]; exact bd_I I (show (0 : Int) ≤ x ∧ x ≤ 200 by first | exact ⟨p0.1, p0.2⟩ | omega) ⟨by first | exact oq_fa4e5087 p0.1 | omega, by first | exact oq_52af2b96 p0.2 | omega⟩
  have Fs5 := fm_I (x := Int32.ofInt x) F (show 1 ∈ _ by decide)
  rw [← hs5] at Fs5
  have vs5 : iI s5 1 = x := by rw [hs5]; exact iI_u ⟨by first | exact oq_fa4e5087 p0.1 | omega, by first | exact oq_52af2b96 p0.2 | omega⟩
  have ws5_0 : iI s5 0 = iI s 0 := by rw [hs5]; rfl
  have ws5_2 : iI s5 2 = iI s 2 := by rw [hs5]; rfl
  have ws5_4 : iI s5 4 = iI s 4 := by rw [hs5]; rfl
  refine z_aload_n X (x := A 1) (show cdA 128 5 = some (.aload_n 0, 1, 0, 0, 0) from rfl) (List.Mem.head _) ?_
  refine z_const X (show cdA 128 6 = some (.iconst 0, 1, 0, 0, 0) from rfl) ?_
  refine s_putI X 1 (show cdA 128 7 = some (.putfield 29, 3, 10, 3, 0) from rfl) (by decide) rfl rfl (by decide) rfl rfl rfl ?_
  obtain ⟨s6, hs6⟩ : ∃ x0, x0 = uI s5 2 (Int32.ofInt 0) := ⟨_, rfl⟩
  rw [← hs6]
  have Is6 : Bd s6 := by rw [hs6]; exact bd_I Is5 (show (0 : Int) ≤ 0 ∧ 0 ≤ 200 by first | exact ⟨by decide, by decide⟩ | omega) (by decide)
  have Fs6 := fm_I (x := Int32.ofInt 0) Fs5 (show 2 ∈ _ by decide)
  rw [← hs6] at Fs6
  have vs6 : iI s6 2 = 0 := by rw [hs6]; exact iI_u (by decide)
  have ws6_0 : iI s6 0 = iI s5 0 := by rw [hs6]; rfl
  have ws6_1 : iI s6 1 = iI s5 1 := by rw [hs6]; rfl
  have ws6_4 : iI s6 4 = iI s5 4 := by rw [hs6]; rfl
  refine z_aload_n X (x := A 1) (show cdA 128 10 = some (.aload_n 0, 1, 0, 0, 0) from rfl) (List.Mem.head _) ?_
  refine z_load_n X (x := y) (show cdA 128 11 = some (.iload_n 2, 1, 0, 0, 0) from rfl) (List.Mem.tail _ (List.Mem.tail _ (List.Mem.head _))) ?_
  refine s_putI X 1 (show cdA 128 12 = some (.putfield 32, 3, 10, 4, 0) from rfl) (by decide) rfl rfl (by decide) (nar_ret (by omega)) (fit_z (by omega)) rfl ?_
  obtain ⟨s7, hs7⟩ : ∃ x0, x0 = uI s6 3 (Int32.ofInt y) := ⟨_, rfl⟩
  rw [← hs7]
  have Is7 : Bd s7 := by rw [hs7]; exact bd_I Is6 (show (0 : Int) ≤ y ∧ y ≤ 1 by first | exact ⟨oq_e4aca38c p1, oq_14617724 p1⟩ | omega) ⟨by first | exact oq_bde653e9 p1 | omega, by first | exact oq_4ad2cb8b p1 | omega⟩
  have Fs7 := fm_I (x := Int32.ofInt y) Fs6 (show 3 ∈ _ by decide)
  rw [← hs7] at Fs7
  have vs7 : iI s7 3 = y := by rw [hs7]; exact iI_u ⟨by first | exact oq_bde653e9 p1 | omega, by first | exact oq_4ad2cb8b p1 | omega⟩
  have ws7_0 : iI s7 0 = iI s6 0 := by rw [hs7]; rfl
  have ws7_2 : iI s7 2 = iI s6 2 := by rw [hs7]; rfl
  have ws7_1 : iI s7 1 = iI s6 1 := by rw [hs7]; rfl
  have ws7_4 : iI s7 4 = iI s6 4 := by rw [hs7]; rfl
  refine z_aload_n X (x := A 1) (show cdA 128 15 = some (.aload_n 0, 1, 0, 0, 0) from rfl) (List.Mem.head _) ?_
  refine z_const X (show cdA 128 16 = some (.iconst 0, 1, 0, 0, 0) from rfl) ?_
  refine s_putI X 1 (show cdA 128 17 = some (.putfield 19, 3, 10, 1, 0) from rfl) (by decide) rfl rfl (by decide) rfl rfl rfl ?_
  obtain ⟨s8, hs8⟩ : ∃ x0, x0 = uI s7 0 (Int32.ofInt 0) := ⟨_, rfl⟩
  rw [← hs8]
  have Is8 : Bd s8 := by rw [hs8]; exact bd_I Is7 (show (0 : Int) ≤ 0 ∧ 0 ≤ 200 by first | exact ⟨by decide, by decide⟩ | omega) (by decide)
  have Fs8 := fm_I (x := Int32.ofInt 0) Fs7 (show 0 ∈ _ by decide)
  rw [← hs8] at Fs8
  have vs8 : iI s8 0 = 0 := by rw [hs8]; exact iI_u (by decide)
  have ws8_2 : iI s8 2 = iI s7 2 := by rw [hs8]; rfl
  have ws8_1 : iI s8 1 = iI s7 1 := by rw [hs8]; rfl
  have ws8_4 : iI s8 4 = iI s7 4 := by rw [hs8]; rfl
  refine z_aload_n X (x := A 1) (show cdA 128 20 = some (.aload_n 0, 1, 0, 0, 0) from rfl) (List.Mem.head _) ?_
  refine z_const X (show cdA 128 21 = some (.iconst 0, 1, 0, 0, 0) from rfl) ?_
  refine s_putI X 1 (show cdA 128 22 = some (.putfield 36, 3, 10, 8, 0) from rfl) (by decide) rfl rfl (by decide) rfl rfl rfl ?_
  obtain ⟨s9, hs9⟩ : ∃ x0, x0 = uI s8 7 (Int32.ofInt 0) := ⟨_, rfl⟩
  rw [← hs9]
  have Is9 : Bd s9 := by rw [hs9]; exact bd_I Is8 (show (0 : Int) ≤ 0 ∧ 0 ≤ 9 by first | exact ⟨by decide, by decide⟩ | omega) (by decide)
  have Fs9 := fm_I (x := Int32.ofInt 0) Fs8 (show 7 ∈ _ by decide)
  rw [← hs9] at Fs9
  have vs9 : iI s9 7 = 0 := by rw [hs9]; exact iI_u (by decide)
  have ws9_0 : iI s9 0 = iI s8 0 := by rw [hs9]; rfl
  have ws9_2 : iI s9 2 = iI s8 2 := by rw [hs9]; rfl
  have ws9_1 : iI s9 1 = iI s8 1 := by rw [hs9]; rfl
  have ws9_4 : iI s9 4 = iI s8 4 := by rw [hs9]; rfl
  refine z_aload_n X (x := A 1) (show cdA 128 25 = some (.aload_n 0, 1, 0, 0, 0) from rfl) (List.Mem.head _) ?_
  refine z_const X (show cdA 128 26 = some (.iconst (-1), 1, 0, 0, 0) from rfl) ?_
  refine s_putI X 1 (show cdA 128 27 = some (.putfield 15, 3, 10, 9, 0) from rfl) (by decide) rfl rfl (by decide) rfl rfl rfl ?_
  obtain ⟨s10, hs10⟩ : ∃ x0, x0 = uI s9 8 (Int32.ofInt (-1)) := ⟨_, rfl⟩
  rw [← hs10]
  have Is10 : Bd s10 := by rw [hs10]; exact bd_I Is9 (show ((-1) : Int) ≤ (-1) ∧ (-1) ≤ 200 by first | exact ⟨by decide, by decide⟩ | omega) (by decide)
  have Fs10 := fm_I (x := Int32.ofInt (-1)) Fs9 (show 8 ∈ _ by decide)
  rw [← hs10] at Fs10
  have vs10 : iI s10 8 = (-1) := by rw [hs10]; exact iI_u (by decide)
  have ws10_0 : iI s10 0 = iI s9 0 := by rw [hs10]; rfl
  have ws10_2 : iI s10 2 = iI s9 2 := by rw [hs10]; rfl
  have ws10_1 : iI s10 1 = iI s9 1 := by rw [hs10]; rfl
  have ws10_4 : iI s10 4 = iI s9 4 := by rw [hs10]; rfl
  refine z_aload_n X (x := A 1) (show cdA 128 30 = some (.aload_n 0, 1, 0, 0, 0) from rfl) (List.Mem.head _) ?_
  refine z_callV X 1 (rm := rmN 129) (As := []) (st := []) (show cdA 128 31 = some (.invokevirtual 39, 3, 129, 0, 0) from rfl) rfl (by decide) rfl (by rw [E.1, E.2.1, E.2.2.1]; exact c10_step_1 G Is10 (by first | exact oq_c5d7b2c9 ws10_1 ws10_2 ws9_1 ws9_2 ws8_1 ws8_2 ws7_1 ws7_2 ws6_1 vs6 vs5 p0.1 | omega)) ⟨by rw [E.2.2.2]; exact (show (rmN 129).frames + 1 ≤ (rmN 128).frames by decide), by rw [E.2.2.2]; exact (show 8 + (mNL (miB 129) + 11) + (rmN 129).locals ≤ (rmN 128).locals by decide), by rw [E.2.2.2]; exact (show 0 + (rmN 129).cells ≤ (rmN 128).cells by decide), by rw [E.2.2.2]; exact (show 0 + (rmN 129).slots ≤ (rmN 128).slots by decide)⟩ (Nat.le_of_ble_eq_true rfl) (fun vv s11 hq => ?_) (fun ee s11 hq => ?_)
  rotate_left
  · obtain ⟨Is11, Fs11, hv, hps11⟩ := hq; cases hv
  obtain ⟨Is11, Fs11, hv, hps11⟩ := hq
  cases hv
  have Gs11 := fm_ts Fs10 Fs11 (by decide) (by decide)
  have ws11_0 : iI s11 0 = iI s10 0 := fm_i Fs11 (by decide)
  have b13 : (0 : Int) ≤ iI s11 2 ∧ iI s11 2 ≤ 200 := Is11.1 2
  have ws11_1 : iI s11 1 = iI s10 1 := fm_i Fs11 (by decide)
  have b14 : (0 : Int) ≤ iI s11 4 ∧ iI s11 4 ≤ 200 := Is11.1 4
  show WS k 34 [(0, .ref (A 1)), (1, .int (Int32.ofInt x)), (2, .int (Int32.ofInt y))] [] (Wd A dT s11) 0 0
  exact w_vret X.1 q hRt (ax_d X (show cdA 128 34 = some (.return_, 1, 0, 0, 0) from rfl)) (Nat.zero_le _) (Nat.zero_le _) ⟨_, rfl, Is11, Gs11, rfl, by first | exact ⟨oq_264718cb ws11_0 ws10_0 ws9_0 vs8, hps11.1, hps11.2⟩ | omega⟩
set_option maxRecDepth 4000 in
theorem c9_stepFrom (G : GX l s0 D tys a0 dT) (I : Bd s) {x y : Int} (p0 : 0 ≤ x ∧ x ≤ 127) (p1 : 0 ≤ y ∧ y ≤ 5) : CT l s0 D A dT 100 (rmN 100) [.int (Int32.ofInt x), .int (Int32.ofInt y)] s (fun o t => s = t ∧ ∃ e, o = .inl (some (.int (Int32.ofInt e))) ∧ rng e ∧ (-1 ≤ e ∧ e ≤ 127)) := by
  refine ct_ofX G (by decide) (Nat.le_of_ble_eq_true rfl) (fun k X E ET hRt hXt q => ?_)
  show WS k 0 [(0, .int (Int32.ofInt x)), (1, .int (Int32.ofInt y))] [] _ 0 0
  have F : Fm [] [] s s := fm_rf _ _ s
  refine z_load_n X (x := y) (show cdA 100 0 = some (.iload_n 1, 1, 0, 0, 0) from rfl) (List.Mem.tail _ (List.Mem.head _)) ?_
  rcases (show y = 0 ∨ y = 1 ∨ y = 2 ∨ y = 3 ∨ y = 4 ∨ y = 5 by omega) with gs | gs | gs | gs | gs | gs
  ·
    rw [gs]
    refine w_tabIn X.1 (dflt := 135) (lo := 0) (hi := 5) (offs := #[39, 56, 71, 89, 105, 120]) (len := 39) (off := 39) (t := 40) (ax_d X (show cdA 100 1 = some (.tableswitch 135 0 5 #[39, 56, 71, 89, 105, 120], 39, 0, 0, 0) from rfl)) (by decide) (by decide) (by decide) (by decide) ?_
    refine z_load_n X (x := x) (show cdA 100 40 = some (.iload_n 0, 1, 0, 0, 0) from rfl) (List.Mem.head _) ?_
    refine z_bipush X (show cdA 100 41 = some (.bipush 7, 2, 0, 0, 7) from rfl) ?_
    refine z_and7 X (show cdA 100 43 = some (.iand, 1, 0, 0, 0) from rfl) (by omega) ?_
    refine z_bipush X (show cdA 100 44 = some (.bipush 7, 2, 0, 0, 7) from rfl) ?_
    have N1 : ∀ e2 : Int, (((7 ≤ (x % 8)) ∧ e2 = (-1)) ∨ (((x % 8) < 7) ∧ e2 = (x + 1))) → WS k 56 [(0, .int (Int32.ofInt x)), (1, .int (Int32.ofInt 0))] [.int (Int32.ofInt e2)] (Wd A dT s) 0 0 := by
      intro e2 he2
      exact w_iret X.1 q hRt rfl (ax_d X (show cdA 100 56 = some (.ireturn, 1, 0, 0, 0) from rfl)) (Nat.zero_le _) (Nat.zero_le _) ⟨_, rfl, rfl, e2, rfl, ⟨by first | exact oq_3ac7fb06 he2 p0.1 | omega, by first | exact oq_df418479 he2 p0.2 | omega⟩, by first | exact ⟨oq_8655ee20 he2 p0.1, by omega⟩ | omega⟩
    refine z_icmp_ge X (t := 55) (show cdA 100 46 = some (.if_icmp .ge 9, 3, 3, 0, 0) from rfl) (by decide) ⟨by first | exact oq_e86162eb | omega, by first | exact oq_70086759 | omega⟩ (by decide) (fun g3 => ?_) (fun g3 => ?_)
    ·
      refine z_const X (show cdA 100 55 = some (.iconst (-1), 1, 0, 0, 0) from rfl) ?_
      exact N1 _ (Or.inl ⟨g3, rfl⟩)
    ·
      refine z_load_n X (x := x) (show cdA 100 49 = some (.iload_n 0, 1, 0, 0, 0) from rfl) (List.Mem.head _) ?_
      refine z_const X (show cdA 100 50 = some (.iconst 1, 1, 0, 0, 0) from rfl) ?_
      refine z_add X (show cdA 100 51 = some (.iadd, 1, 0, 0, 0) from rfl) ?_
      refine z_goto X (t := 56) (show cdA 100 52 = some (.goto 4, 3, 0, 0, 0) from rfl) (by decide) ?_
      exact N1 _ (Or.inr (⟨g3, rfl⟩))
  ·
    rw [gs]
    refine w_tabIn X.1 (dflt := 135) (lo := 0) (hi := 5) (offs := #[39, 56, 71, 89, 105, 120]) (len := 39) (off := 56) (t := 57) (ax_d X (show cdA 100 1 = some (.tableswitch 135 0 5 #[39, 56, 71, 89, 105, 120], 39, 0, 0, 0) from rfl)) (by decide) (by decide) (by decide) (by decide) ?_
    refine z_load_n X (x := x) (show cdA 100 57 = some (.iload_n 0, 1, 0, 0, 0) from rfl) (List.Mem.head _) ?_
    refine z_bipush X (show cdA 100 58 = some (.bipush 7, 2, 0, 0, 7) from rfl) ?_
    refine z_and7 X (show cdA 100 60 = some (.iand, 1, 0, 0, 0) from rfl) (by omega) ?_
    have N4 : ∀ e5 : Int, ((((x % 8) ≤ 0) ∧ e5 = (-1)) ∨ ((0 < (x % 8)) ∧ e5 = (x - 1))) → WS k 71 [(0, .int (Int32.ofInt x)), (1, .int (Int32.ofInt 1))] [.int (Int32.ofInt e5)] (Wd A dT s) 0 0 := by
      intro e5 he5
      exact w_iret X.1 q hRt rfl (ax_d X (show cdA 100 71 = some (.ireturn, 1, 0, 0, 0) from rfl)) (Nat.zero_le _) (Nat.zero_le _) ⟨_, rfl, rfl, e5, rfl, ⟨by first | exact oq_b7fd8e5d he5 p0.1 | omega, by first | exact oq_9d1ba81c he5 p0.2 | omega⟩, by first | exact ⟨oq_7e4871f0 he5 p0.1, oq_16d44b6a he5 p0.2⟩ | omega⟩
    refine z_if_le X (t := 70) (show cdA 100 61 = some (.ifCond .le 9, 3, 5, 0, 0) from rfl) (by decide) ⟨by first | exact oq_e86162eb | omega, by first | exact oq_70086759 | omega⟩ (fun g6 => ?_) (fun g6 => ?_)
    ·
      refine z_const X (show cdA 100 70 = some (.iconst (-1), 1, 0, 0, 0) from rfl) ?_
      exact N4 _ (Or.inl ⟨g6, rfl⟩)
    ·
      refine z_load_n X (x := x) (show cdA 100 64 = some (.iload_n 0, 1, 0, 0, 0) from rfl) (List.Mem.head _) ?_
      refine z_const X (show cdA 100 65 = some (.iconst 1, 1, 0, 0, 0) from rfl) ?_
      refine z_sub X (show cdA 100 66 = some (.isub, 1, 0, 0, 0) from rfl) ?_
      refine z_goto X (t := 71) (show cdA 100 67 = some (.goto 4, 3, 0, 0, 0) from rfl) (by decide) ?_
      exact N4 _ (Or.inr (⟨g6, rfl⟩))
  ·
    rw [gs]
    refine w_tabIn X.1 (dflt := 135) (lo := 0) (hi := 5) (offs := #[39, 56, 71, 89, 105, 120]) (len := 39) (off := 71) (t := 72) (ax_d X (show cdA 100 1 = some (.tableswitch 135 0 5 #[39, 56, 71, 89, 105, 120], 39, 0, 0, 0) from rfl)) (by decide) (by decide) (by decide) (by decide) ?_
    refine z_load_n X (x := x) (show cdA 100 72 = some (.iload_n 0, 1, 0, 0, 0) from rfl) (List.Mem.head _) ?_
    refine z_bipush X (show cdA 100 73 = some (.bipush 56, 2, 0, 0, 56) from rfl) ?_
    refine z_and56 X (show cdA 100 75 = some (.iand, 1, 0, 0, 0) from rfl) (by omega) ?_
    refine z_bipush X (show cdA 100 76 = some (.bipush 56, 2, 0, 0, 56) from rfl) ?_
    have N7 : ∀ e8 : Int, (((56 ≤ (x / 8 % 8 * 8)) ∧ e8 = (-1)) ∨ (((x / 8 % 8 * 8) < 56) ∧ e8 = (x + 8))) → WS k 89 [(0, .int (Int32.ofInt x)), (1, .int (Int32.ofInt 2))] [.int (Int32.ofInt e8)] (Wd A dT s) 0 0 := by
      intro e8 he8
      exact w_iret X.1 q hRt rfl (ax_d X (show cdA 100 89 = some (.ireturn, 1, 0, 0, 0) from rfl)) (Nat.zero_le _) (Nat.zero_le _) ⟨_, rfl, rfl, e8, rfl, ⟨by first | exact oq_7a2b650a he8 p0.1 | omega, by first | exact oq_f231750c he8 p0.2 | omega⟩, by first | exact ⟨oq_ad1df6ed he8 p0.1, by omega⟩ | omega⟩
    refine z_icmp_ge X (t := 88) (show cdA 100 78 = some (.if_icmp .ge 10, 3, 3, 0, 0) from rfl) (by decide) ⟨by first | exact oq_96d4763a | omega, by first | exact oq_4d664977 | omega⟩ (by decide) (fun g9 => ?_) (fun g9 => ?_)
    ·
      refine z_const X (show cdA 100 88 = some (.iconst (-1), 1, 0, 0, 0) from rfl) ?_
      exact N7 _ (Or.inl ⟨g9, rfl⟩)
    ·
      refine z_load_n X (x := x) (show cdA 100 81 = some (.iload_n 0, 1, 0, 0, 0) from rfl) (List.Mem.head _) ?_
      refine z_bipush X (show cdA 100 82 = some (.bipush 8, 2, 0, 0, 8) from rfl) ?_
      refine z_add X (show cdA 100 84 = some (.iadd, 1, 0, 0, 0) from rfl) ?_
      refine z_goto X (t := 89) (show cdA 100 85 = some (.goto 4, 3, 0, 0, 0) from rfl) (by decide) ?_
      exact N7 _ (Or.inr (⟨g9, rfl⟩))
  ·
    rw [gs]
    refine w_tabIn X.1 (dflt := 135) (lo := 0) (hi := 5) (offs := #[39, 56, 71, 89, 105, 120]) (len := 39) (off := 89) (t := 90) (ax_d X (show cdA 100 1 = some (.tableswitch 135 0 5 #[39, 56, 71, 89, 105, 120], 39, 0, 0, 0) from rfl)) (by decide) (by decide) (by decide) (by decide) ?_
    refine z_load_n X (x := x) (show cdA 100 90 = some (.iload_n 0, 1, 0, 0, 0) from rfl) (List.Mem.head _) ?_
    refine z_bipush X (show cdA 100 91 = some (.bipush 56, 2, 0, 0, 56) from rfl) ?_
    refine z_and56 X (show cdA 100 93 = some (.iand, 1, 0, 0, 0) from rfl) (by omega) ?_
    have N10 : ∀ e11 : Int, ((((x / 8 % 8 * 8) ≤ 0) ∧ e11 = (-1)) ∨ ((0 < (x / 8 % 8 * 8)) ∧ e11 = (x - 8))) → WS k 105 [(0, .int (Int32.ofInt x)), (1, .int (Int32.ofInt 3))] [.int (Int32.ofInt e11)] (Wd A dT s) 0 0 := by
      intro e11 he11
      exact w_iret X.1 q hRt rfl (ax_d X (show cdA 100 105 = some (.ireturn, 1, 0, 0, 0) from rfl)) (Nat.zero_le _) (Nat.zero_le _) ⟨_, rfl, rfl, e11, rfl, ⟨by first | exact oq_2d0dfc68 he11 p0.1 | omega, by first | exact oq_83fab6db he11 p0.2 | omega⟩, by first | exact ⟨by omega, oq_057900c8 he11 p0.2⟩ | omega⟩
    refine z_if_le X (t := 104) (show cdA 100 94 = some (.ifCond .le 10, 3, 5, 0, 0) from rfl) (by decide) ⟨by first | exact oq_96d4763a | omega, by first | exact oq_4d664977 | omega⟩ (fun g12 => ?_) (fun g12 => ?_)
    ·
      refine z_const X (show cdA 100 104 = some (.iconst (-1), 1, 0, 0, 0) from rfl) ?_
      exact N10 _ (Or.inl ⟨g12, rfl⟩)
    ·
      refine z_load_n X (x := x) (show cdA 100 97 = some (.iload_n 0, 1, 0, 0, 0) from rfl) (List.Mem.head _) ?_
      refine z_bipush X (show cdA 100 98 = some (.bipush 8, 2, 0, 0, 8) from rfl) ?_
      refine z_sub X (show cdA 100 100 = some (.isub, 1, 0, 0, 0) from rfl) ?_
      refine z_goto X (t := 105) (show cdA 100 101 = some (.goto 4, 3, 0, 0, 0) from rfl) (by decide) ?_
      exact N10 _ (Or.inr (⟨g12, rfl⟩))
  ·
    rw [gs]
    refine w_tabIn X.1 (dflt := 135) (lo := 0) (hi := 5) (offs := #[39, 56, 71, 89, 105, 120]) (len := 39) (off := 105) (t := 106) (ax_d X (show cdA 100 1 = some (.tableswitch 135 0 5 #[39, 56, 71, 89, 105, 120], 39, 0, 0, 0) from rfl)) (by decide) (by decide) (by decide) (by decide) ?_
    refine z_load_n X (x := x) (show cdA 100 106 = some (.iload_n 0, 1, 0, 0, 0) from rfl) (List.Mem.head _) ?_
    refine z_bipush X (show cdA 100 107 = some (.bipush 64, 2, 0, 0, 64) from rfl) ?_
    have N13 : ∀ e14 : Int, (((64 ≤ x) ∧ e14 = (-1)) ∨ ((x < 64) ∧ e14 = (x + 64))) → WS k 120 [(0, .int (Int32.ofInt x)), (1, .int (Int32.ofInt 4))] [.int (Int32.ofInt e14)] (Wd A dT s) 0 0 := by
      intro e14 he14
      exact w_iret X.1 q hRt rfl (ax_d X (show cdA 100 120 = some (.ireturn, 1, 0, 0, 0) from rfl)) (Nat.zero_le _) (Nat.zero_le _) ⟨_, rfl, rfl, e14, rfl, ⟨by first | exact oq_59c92683 he14 p0.1 | omega, by first | exact oq_f358200e he14 | omega⟩, by first | exact ⟨oq_201a3ceb he14 p0.1, oq_3594ddd9 he14⟩ | omega⟩
    refine z_icmp_ge X (t := 119) (show cdA 100 109 = some (.if_icmp .ge 10, 3, 3, 0, 0) from rfl) (by decide) ⟨by first | exact oq_fa4e5087 p0.1 | omega, by first | exact oq_07d346ce p0.2 | omega⟩ (by decide) (fun g15 => ?_) (fun g15 => ?_)
    ·
      refine z_const X (show cdA 100 119 = some (.iconst (-1), 1, 0, 0, 0) from rfl) ?_
      exact N13 _ (Or.inl ⟨g15, rfl⟩)
    ·
      refine z_load_n X (x := x) (show cdA 100 112 = some (.iload_n 0, 1, 0, 0, 0) from rfl) (List.Mem.head _) ?_
      refine z_bipush X (show cdA 100 113 = some (.bipush 64, 2, 0, 0, 64) from rfl) ?_
      refine z_add X (show cdA 100 115 = some (.iadd, 1, 0, 0, 0) from rfl) ?_
      refine z_goto X (t := 120) (show cdA 100 116 = some (.goto 4, 3, 0, 0, 0) from rfl) (by decide) ?_
      exact N13 _ (Or.inr (⟨g15, rfl⟩))
  ·
    rw [gs]
    refine w_tabIn X.1 (dflt := 135) (lo := 0) (hi := 5) (offs := #[39, 56, 71, 89, 105, 120]) (len := 39) (off := 120) (t := 121) (ax_d X (show cdA 100 1 = some (.tableswitch 135 0 5 #[39, 56, 71, 89, 105, 120], 39, 0, 0, 0) from rfl)) (by decide) (by decide) (by decide) (by decide) ?_
    refine z_load_n X (x := x) (show cdA 100 121 = some (.iload_n 0, 1, 0, 0, 0) from rfl) (List.Mem.head _) ?_
    refine z_bipush X (show cdA 100 122 = some (.bipush 64, 2, 0, 0, 64) from rfl) ?_
    have N16 : ∀ e17 : Int, (((x < 64) ∧ e17 = (-1)) ∨ ((64 ≤ x) ∧ e17 = (x - 64))) → WS k 135 [(0, .int (Int32.ofInt x)), (1, .int (Int32.ofInt 5))] [.int (Int32.ofInt e17)] (Wd A dT s) 0 0 := by
      intro e17 he17
      exact w_iret X.1 q hRt rfl (ax_d X (show cdA 100 135 = some (.ireturn, 1, 0, 0, 0) from rfl)) (Nat.zero_le _) (Nat.zero_le _) ⟨_, rfl, rfl, e17, rfl, ⟨by first | exact oq_241d06ca he17 | omega, by first | exact oq_b2c34735 he17 p0.2 | omega⟩, by first | exact ⟨oq_91d95e88 he17, oq_444e6966 he17 p0.2⟩ | omega⟩
    refine z_icmp_lt X (t := 134) (show cdA 100 124 = some (.if_icmp .lt 10, 3, 2, 0, 0) from rfl) (by decide) ⟨by first | exact oq_fa4e5087 p0.1 | omega, by first | exact oq_07d346ce p0.2 | omega⟩ (by decide) (fun g18 => ?_) (fun g18 => ?_)
    ·
      refine z_const X (show cdA 100 134 = some (.iconst (-1), 1, 0, 0, 0) from rfl) ?_
      exact N16 _ (Or.inl ⟨g18, rfl⟩)
    ·
      refine z_load_n X (x := x) (show cdA 100 127 = some (.iload_n 0, 1, 0, 0, 0) from rfl) (List.Mem.head _) ?_
      refine z_bipush X (show cdA 100 128 = some (.bipush 64, 2, 0, 0, 64) from rfl) ?_
      refine z_sub X (show cdA 100 130 = some (.isub, 1, 0, 0, 0) from rfl) ?_
      refine z_goto X (t := 135) (show cdA 100 131 = some (.goto 4, 3, 0, 0, 0) from rfl) (by decide) ?_
      exact N16 _ (Or.inr (⟨g18, rfl⟩))
set_option maxRecDepth 4000 in
theorem c9_goOf (G : GX l s0 D tys a0 dT) (I : Bd s) {x : Int} (p0 : -3 ≤ x ∧ x ≤ 255) : CT l s0 D A dT 101 (rmN 101) [.int (Int32.ofInt x)] s (fun o t => s = t ∧ ∃ e, o = .inl (some (.int (Int32.ofInt e))) ∧ rng e ∧ (-1 ≤ e ∧ e ≤ 5)) := by
  refine ct_ofX G (by decide) (Nat.le_of_ble_eq_true rfl) (fun k X E ET hRt hXt q => ?_)
  show WS k 0 [(0, .int (Int32.ofInt x))] [] _ 0 0
  have F : Fm [] [] s s := fm_rf _ _ s
  refine z_load_n X (x := x) (show cdA 101 0 = some (.iload_n 0, 1, 0, 0, 0) from rfl) (List.Mem.head _) ?_
  rcases (show x = 99 ∨ x = 100 ∨ x = 101 ∨ x = 102 ∨ x = 103 ∨ x = 104 ∨ x = 105 ∨ x = 106 ∨ x = 107 ∨ x = 108 ∨ x = 109 ∨ x = 110 ∨ x = 111 ∨ x = 112 ∨ x = 113 ∨ x = 114 ∨ x = 115 ∨ x = 116 ∨ x = 117 ∨ (x < 99 ∨ 117 < x) by omega) with gs | gs | gs | gs | gs | gs | gs | gs | gs | gs | gs | gs | gs | gs | gs | gs | gs | gs | gs | gs
  ·
    rw [gs]
    refine w_tabIn X.1 (dflt := 103) (lo := 99) (hi := 117) (offs := #[99, 95, 103, 103, 103, 103, 103, 103, 103, 93, 103, 103, 103, 103, 103, 91, 101, 103, 97]) (len := 91) (off := 99) (t := 100) (ax_d X (show cdA 101 1 = some (.tableswitch 103 99 117 #[99, 95, 103, 103, 103, 103, 103, 103, 103, 93, 103, 103, 103, 103, 103, 91, 101, 103, 97], 91, 0, 0, 0) from rfl)) (by decide) (by decide) (by decide) (by decide) ?_
    refine z_const X (show cdA 101 100 = some (.iconst 4, 1, 0, 0, 0) from rfl) ?_
    exact w_iret X.1 q hRt rfl (ax_d X (show cdA 101 101 = some (.ireturn, 1, 0, 0, 0) from rfl)) (Nat.zero_le _) (Nat.zero_le _) ⟨_, rfl, rfl, 4, rfl, (by decide), by first | exact ⟨by decide, by decide⟩ | omega⟩
  ·
    rw [gs]
    refine w_tabIn X.1 (dflt := 103) (lo := 99) (hi := 117) (offs := #[99, 95, 103, 103, 103, 103, 103, 103, 103, 93, 103, 103, 103, 103, 103, 91, 101, 103, 97]) (len := 91) (off := 95) (t := 96) (ax_d X (show cdA 101 1 = some (.tableswitch 103 99 117 #[99, 95, 103, 103, 103, 103, 103, 103, 103, 93, 103, 103, 103, 103, 103, 91, 101, 103, 97], 91, 0, 0, 0) from rfl)) (by decide) (by decide) (by decide) (by decide) ?_
    refine z_const X (show cdA 101 96 = some (.iconst 2, 1, 0, 0, 0) from rfl) ?_
    exact w_iret X.1 q hRt rfl (ax_d X (show cdA 101 97 = some (.ireturn, 1, 0, 0, 0) from rfl)) (Nat.zero_le _) (Nat.zero_le _) ⟨_, rfl, rfl, 2, rfl, (by decide), by first | exact ⟨by decide, by decide⟩ | omega⟩
  ·
    rw [gs]
    refine w_tabIn X.1 (dflt := 103) (lo := 99) (hi := 117) (offs := #[99, 95, 103, 103, 103, 103, 103, 103, 103, 93, 103, 103, 103, 103, 103, 91, 101, 103, 97]) (len := 91) (off := 103) (t := 104) (ax_d X (show cdA 101 1 = some (.tableswitch 103 99 117 #[99, 95, 103, 103, 103, 103, 103, 103, 103, 93, 103, 103, 103, 103, 103, 91, 101, 103, 97], 91, 0, 0, 0) from rfl)) (by decide) (by decide) (by decide) (by decide) ?_
    refine z_const X (show cdA 101 104 = some (.iconst (-1), 1, 0, 0, 0) from rfl) ?_
    exact w_iret X.1 q hRt rfl (ax_d X (show cdA 101 105 = some (.ireturn, 1, 0, 0, 0) from rfl)) (Nat.zero_le _) (Nat.zero_le _) ⟨_, rfl, rfl, (-1), rfl, (by decide), by first | exact ⟨by decide, by decide⟩ | omega⟩
  ·
    rw [gs]
    refine w_tabIn X.1 (dflt := 103) (lo := 99) (hi := 117) (offs := #[99, 95, 103, 103, 103, 103, 103, 103, 103, 93, 103, 103, 103, 103, 103, 91, 101, 103, 97]) (len := 91) (off := 103) (t := 104) (ax_d X (show cdA 101 1 = some (.tableswitch 103 99 117 #[99, 95, 103, 103, 103, 103, 103, 103, 103, 93, 103, 103, 103, 103, 103, 91, 101, 103, 97], 91, 0, 0, 0) from rfl)) (by decide) (by decide) (by decide) (by decide) ?_
    refine z_const X (show cdA 101 104 = some (.iconst (-1), 1, 0, 0, 0) from rfl) ?_
    exact w_iret X.1 q hRt rfl (ax_d X (show cdA 101 105 = some (.ireturn, 1, 0, 0, 0) from rfl)) (Nat.zero_le _) (Nat.zero_le _) ⟨_, rfl, rfl, (-1), rfl, (by decide), by first | exact ⟨by decide, by decide⟩ | omega⟩
  ·
    rw [gs]
    refine w_tabIn X.1 (dflt := 103) (lo := 99) (hi := 117) (offs := #[99, 95, 103, 103, 103, 103, 103, 103, 103, 93, 103, 103, 103, 103, 103, 91, 101, 103, 97]) (len := 91) (off := 103) (t := 104) (ax_d X (show cdA 101 1 = some (.tableswitch 103 99 117 #[99, 95, 103, 103, 103, 103, 103, 103, 103, 93, 103, 103, 103, 103, 103, 91, 101, 103, 97], 91, 0, 0, 0) from rfl)) (by decide) (by decide) (by decide) (by decide) ?_
    refine z_const X (show cdA 101 104 = some (.iconst (-1), 1, 0, 0, 0) from rfl) ?_
    exact w_iret X.1 q hRt rfl (ax_d X (show cdA 101 105 = some (.ireturn, 1, 0, 0, 0) from rfl)) (Nat.zero_le _) (Nat.zero_le _) ⟨_, rfl, rfl, (-1), rfl, (by decide), by first | exact ⟨by decide, by decide⟩ | omega⟩
  ·
    rw [gs]
    refine w_tabIn X.1 (dflt := 103) (lo := 99) (hi := 117) (offs := #[99, 95, 103, 103, 103, 103, 103, 103, 103, 93, 103, 103, 103, 103, 103, 91, 101, 103, 97]) (len := 91) (off := 103) (t := 104) (ax_d X (show cdA 101 1 = some (.tableswitch 103 99 117 #[99, 95, 103, 103, 103, 103, 103, 103, 103, 93, 103, 103, 103, 103, 103, 91, 101, 103, 97], 91, 0, 0, 0) from rfl)) (by decide) (by decide) (by decide) (by decide) ?_
    refine z_const X (show cdA 101 104 = some (.iconst (-1), 1, 0, 0, 0) from rfl) ?_
    exact w_iret X.1 q hRt rfl (ax_d X (show cdA 101 105 = some (.ireturn, 1, 0, 0, 0) from rfl)) (Nat.zero_le _) (Nat.zero_le _) ⟨_, rfl, rfl, (-1), rfl, (by decide), by first | exact ⟨by decide, by decide⟩ | omega⟩
  ·
    rw [gs]
    refine w_tabIn X.1 (dflt := 103) (lo := 99) (hi := 117) (offs := #[99, 95, 103, 103, 103, 103, 103, 103, 103, 93, 103, 103, 103, 103, 103, 91, 101, 103, 97]) (len := 91) (off := 103) (t := 104) (ax_d X (show cdA 101 1 = some (.tableswitch 103 99 117 #[99, 95, 103, 103, 103, 103, 103, 103, 103, 93, 103, 103, 103, 103, 103, 91, 101, 103, 97], 91, 0, 0, 0) from rfl)) (by decide) (by decide) (by decide) (by decide) ?_
    refine z_const X (show cdA 101 104 = some (.iconst (-1), 1, 0, 0, 0) from rfl) ?_
    exact w_iret X.1 q hRt rfl (ax_d X (show cdA 101 105 = some (.ireturn, 1, 0, 0, 0) from rfl)) (Nat.zero_le _) (Nat.zero_le _) ⟨_, rfl, rfl, (-1), rfl, (by decide), by first | exact ⟨by decide, by decide⟩ | omega⟩
  ·
    rw [gs]
    refine w_tabIn X.1 (dflt := 103) (lo := 99) (hi := 117) (offs := #[99, 95, 103, 103, 103, 103, 103, 103, 103, 93, 103, 103, 103, 103, 103, 91, 101, 103, 97]) (len := 91) (off := 103) (t := 104) (ax_d X (show cdA 101 1 = some (.tableswitch 103 99 117 #[99, 95, 103, 103, 103, 103, 103, 103, 103, 93, 103, 103, 103, 103, 103, 91, 101, 103, 97], 91, 0, 0, 0) from rfl)) (by decide) (by decide) (by decide) (by decide) ?_
    refine z_const X (show cdA 101 104 = some (.iconst (-1), 1, 0, 0, 0) from rfl) ?_
    exact w_iret X.1 q hRt rfl (ax_d X (show cdA 101 105 = some (.ireturn, 1, 0, 0, 0) from rfl)) (Nat.zero_le _) (Nat.zero_le _) ⟨_, rfl, rfl, (-1), rfl, (by decide), by first | exact ⟨by decide, by decide⟩ | omega⟩
  ·
    rw [gs]
    refine w_tabIn X.1 (dflt := 103) (lo := 99) (hi := 117) (offs := #[99, 95, 103, 103, 103, 103, 103, 103, 103, 93, 103, 103, 103, 103, 103, 91, 101, 103, 97]) (len := 91) (off := 103) (t := 104) (ax_d X (show cdA 101 1 = some (.tableswitch 103 99 117 #[99, 95, 103, 103, 103, 103, 103, 103, 103, 93, 103, 103, 103, 103, 103, 91, 101, 103, 97], 91, 0, 0, 0) from rfl)) (by decide) (by decide) (by decide) (by decide) ?_
    refine z_const X (show cdA 101 104 = some (.iconst (-1), 1, 0, 0, 0) from rfl) ?_
    exact w_iret X.1 q hRt rfl (ax_d X (show cdA 101 105 = some (.ireturn, 1, 0, 0, 0) from rfl)) (Nat.zero_le _) (Nat.zero_le _) ⟨_, rfl, rfl, (-1), rfl, (by decide), by first | exact ⟨by decide, by decide⟩ | omega⟩
  ·
    rw [gs]
    refine w_tabIn X.1 (dflt := 103) (lo := 99) (hi := 117) (offs := #[99, 95, 103, 103, 103, 103, 103, 103, 103, 93, 103, 103, 103, 103, 103, 91, 101, 103, 97]) (len := 91) (off := 93) (t := 94) (ax_d X (show cdA 101 1 = some (.tableswitch 103 99 117 #[99, 95, 103, 103, 103, 103, 103, 103, 103, 93, 103, 103, 103, 103, 103, 91, 101, 103, 97], 91, 0, 0, 0) from rfl)) (by decide) (by decide) (by decide) (by decide) ?_
    refine z_const X (show cdA 101 94 = some (.iconst 1, 1, 0, 0, 0) from rfl) ?_
    exact w_iret X.1 q hRt rfl (ax_d X (show cdA 101 95 = some (.ireturn, 1, 0, 0, 0) from rfl)) (Nat.zero_le _) (Nat.zero_le _) ⟨_, rfl, rfl, 1, rfl, (by decide), by first | exact ⟨by decide, by decide⟩ | omega⟩
  ·
    rw [gs]
    refine w_tabIn X.1 (dflt := 103) (lo := 99) (hi := 117) (offs := #[99, 95, 103, 103, 103, 103, 103, 103, 103, 93, 103, 103, 103, 103, 103, 91, 101, 103, 97]) (len := 91) (off := 103) (t := 104) (ax_d X (show cdA 101 1 = some (.tableswitch 103 99 117 #[99, 95, 103, 103, 103, 103, 103, 103, 103, 93, 103, 103, 103, 103, 103, 91, 101, 103, 97], 91, 0, 0, 0) from rfl)) (by decide) (by decide) (by decide) (by decide) ?_
    refine z_const X (show cdA 101 104 = some (.iconst (-1), 1, 0, 0, 0) from rfl) ?_
    exact w_iret X.1 q hRt rfl (ax_d X (show cdA 101 105 = some (.ireturn, 1, 0, 0, 0) from rfl)) (Nat.zero_le _) (Nat.zero_le _) ⟨_, rfl, rfl, (-1), rfl, (by decide), by first | exact ⟨by decide, by decide⟩ | omega⟩
  ·
    rw [gs]
    refine w_tabIn X.1 (dflt := 103) (lo := 99) (hi := 117) (offs := #[99, 95, 103, 103, 103, 103, 103, 103, 103, 93, 103, 103, 103, 103, 103, 91, 101, 103, 97]) (len := 91) (off := 103) (t := 104) (ax_d X (show cdA 101 1 = some (.tableswitch 103 99 117 #[99, 95, 103, 103, 103, 103, 103, 103, 103, 93, 103, 103, 103, 103, 103, 91, 101, 103, 97], 91, 0, 0, 0) from rfl)) (by decide) (by decide) (by decide) (by decide) ?_
    refine z_const X (show cdA 101 104 = some (.iconst (-1), 1, 0, 0, 0) from rfl) ?_
    exact w_iret X.1 q hRt rfl (ax_d X (show cdA 101 105 = some (.ireturn, 1, 0, 0, 0) from rfl)) (Nat.zero_le _) (Nat.zero_le _) ⟨_, rfl, rfl, (-1), rfl, (by decide), by first | exact ⟨by decide, by decide⟩ | omega⟩
  ·
    rw [gs]
    refine w_tabIn X.1 (dflt := 103) (lo := 99) (hi := 117) (offs := #[99, 95, 103, 103, 103, 103, 103, 103, 103, 93, 103, 103, 103, 103, 103, 91, 101, 103, 97]) (len := 91) (off := 103) (t := 104) (ax_d X (show cdA 101 1 = some (.tableswitch 103 99 117 #[99, 95, 103, 103, 103, 103, 103, 103, 103, 93, 103, 103, 103, 103, 103, 91, 101, 103, 97], 91, 0, 0, 0) from rfl)) (by decide) (by decide) (by decide) (by decide) ?_
    refine z_const X (show cdA 101 104 = some (.iconst (-1), 1, 0, 0, 0) from rfl) ?_
    exact w_iret X.1 q hRt rfl (ax_d X (show cdA 101 105 = some (.ireturn, 1, 0, 0, 0) from rfl)) (Nat.zero_le _) (Nat.zero_le _) ⟨_, rfl, rfl, (-1), rfl, (by decide), by first | exact ⟨by decide, by decide⟩ | omega⟩
  ·
    rw [gs]
    refine w_tabIn X.1 (dflt := 103) (lo := 99) (hi := 117) (offs := #[99, 95, 103, 103, 103, 103, 103, 103, 103, 93, 103, 103, 103, 103, 103, 91, 101, 103, 97]) (len := 91) (off := 103) (t := 104) (ax_d X (show cdA 101 1 = some (.tableswitch 103 99 117 #[99, 95, 103, 103, 103, 103, 103, 103, 103, 93, 103, 103, 103, 103, 103, 91, 101, 103, 97], 91, 0, 0, 0) from rfl)) (by decide) (by decide) (by decide) (by decide) ?_
    refine z_const X (show cdA 101 104 = some (.iconst (-1), 1, 0, 0, 0) from rfl) ?_
    exact w_iret X.1 q hRt rfl (ax_d X (show cdA 101 105 = some (.ireturn, 1, 0, 0, 0) from rfl)) (Nat.zero_le _) (Nat.zero_le _) ⟨_, rfl, rfl, (-1), rfl, (by decide), by first | exact ⟨by decide, by decide⟩ | omega⟩
  ·
    rw [gs]
    refine w_tabIn X.1 (dflt := 103) (lo := 99) (hi := 117) (offs := #[99, 95, 103, 103, 103, 103, 103, 103, 103, 93, 103, 103, 103, 103, 103, 91, 101, 103, 97]) (len := 91) (off := 103) (t := 104) (ax_d X (show cdA 101 1 = some (.tableswitch 103 99 117 #[99, 95, 103, 103, 103, 103, 103, 103, 103, 93, 103, 103, 103, 103, 103, 91, 101, 103, 97], 91, 0, 0, 0) from rfl)) (by decide) (by decide) (by decide) (by decide) ?_
    refine z_const X (show cdA 101 104 = some (.iconst (-1), 1, 0, 0, 0) from rfl) ?_
    exact w_iret X.1 q hRt rfl (ax_d X (show cdA 101 105 = some (.ireturn, 1, 0, 0, 0) from rfl)) (Nat.zero_le _) (Nat.zero_le _) ⟨_, rfl, rfl, (-1), rfl, (by decide), by first | exact ⟨by decide, by decide⟩ | omega⟩
  ·
    rw [gs]
    refine w_tabIn X.1 (dflt := 103) (lo := 99) (hi := 117) (offs := #[99, 95, 103, 103, 103, 103, 103, 103, 103, 93, 103, 103, 103, 103, 103, 91, 101, 103, 97]) (len := 91) (off := 91) (t := 92) (ax_d X (show cdA 101 1 = some (.tableswitch 103 99 117 #[99, 95, 103, 103, 103, 103, 103, 103, 103, 93, 103, 103, 103, 103, 103, 91, 101, 103, 97], 91, 0, 0, 0) from rfl)) (by decide) (by decide) (by decide) (by decide) ?_
    refine z_const X (show cdA 101 92 = some (.iconst 0, 1, 0, 0, 0) from rfl) ?_
    exact w_iret X.1 q hRt rfl (ax_d X (show cdA 101 93 = some (.ireturn, 1, 0, 0, 0) from rfl)) (Nat.zero_le _) (Nat.zero_le _) ⟨_, rfl, rfl, 0, rfl, (by decide), by first | exact ⟨by decide, by decide⟩ | omega⟩
  ·
    rw [gs]
    refine w_tabIn X.1 (dflt := 103) (lo := 99) (hi := 117) (offs := #[99, 95, 103, 103, 103, 103, 103, 103, 103, 93, 103, 103, 103, 103, 103, 91, 101, 103, 97]) (len := 91) (off := 101) (t := 102) (ax_d X (show cdA 101 1 = some (.tableswitch 103 99 117 #[99, 95, 103, 103, 103, 103, 103, 103, 103, 93, 103, 103, 103, 103, 103, 91, 101, 103, 97], 91, 0, 0, 0) from rfl)) (by decide) (by decide) (by decide) (by decide) ?_
    refine z_const X (show cdA 101 102 = some (.iconst 5, 1, 0, 0, 0) from rfl) ?_
    exact w_iret X.1 q hRt rfl (ax_d X (show cdA 101 103 = some (.ireturn, 1, 0, 0, 0) from rfl)) (Nat.zero_le _) (Nat.zero_le _) ⟨_, rfl, rfl, 5, rfl, (by decide), by first | exact ⟨by decide, by decide⟩ | omega⟩
  ·
    rw [gs]
    refine w_tabIn X.1 (dflt := 103) (lo := 99) (hi := 117) (offs := #[99, 95, 103, 103, 103, 103, 103, 103, 103, 93, 103, 103, 103, 103, 103, 91, 101, 103, 97]) (len := 91) (off := 103) (t := 104) (ax_d X (show cdA 101 1 = some (.tableswitch 103 99 117 #[99, 95, 103, 103, 103, 103, 103, 103, 103, 93, 103, 103, 103, 103, 103, 91, 101, 103, 97], 91, 0, 0, 0) from rfl)) (by decide) (by decide) (by decide) (by decide) ?_
    refine z_const X (show cdA 101 104 = some (.iconst (-1), 1, 0, 0, 0) from rfl) ?_
    exact w_iret X.1 q hRt rfl (ax_d X (show cdA 101 105 = some (.ireturn, 1, 0, 0, 0) from rfl)) (Nat.zero_le _) (Nat.zero_le _) ⟨_, rfl, rfl, (-1), rfl, (by decide), by first | exact ⟨by decide, by decide⟩ | omega⟩
  ·
    rw [gs]
    refine w_tabIn X.1 (dflt := 103) (lo := 99) (hi := 117) (offs := #[99, 95, 103, 103, 103, 103, 103, 103, 103, 93, 103, 103, 103, 103, 103, 91, 101, 103, 97]) (len := 91) (off := 97) (t := 98) (ax_d X (show cdA 101 1 = some (.tableswitch 103 99 117 #[99, 95, 103, 103, 103, 103, 103, 103, 103, 93, 103, 103, 103, 103, 103, 91, 101, 103, 97], 91, 0, 0, 0) from rfl)) (by decide) (by decide) (by decide) (by decide) ?_
    refine z_const X (show cdA 101 98 = some (.iconst 3, 1, 0, 0, 0) from rfl) ?_
    exact w_iret X.1 q hRt rfl (ax_d X (show cdA 101 99 = some (.ireturn, 1, 0, 0, 0) from rfl)) (Nat.zero_le _) (Nat.zero_le _) ⟨_, rfl, rfl, 3, rfl, (by decide), by first | exact ⟨by decide, by decide⟩ | omega⟩
  ·
    refine w_tabOut X.1 (dflt := 103) (lo := 99) (hi := 117) (offs := #[99, 95, 103, 103, 103, 103, 103, 103, 103, 93, 103, 103, 103, 103, 103, 91, 101, 103, 97]) (len := 91) (t := 104) (ax_d X (show cdA 101 1 = some (.tableswitch 103 99 117 #[99, 95, 103, 103, 103, 103, 103, 103, 103, 93, 103, 103, 103, 103, 103, 91, 101, 103, 97], 91, 0, 0, 0) from rfl)) (by rw [zi ⟨by omega, by omega⟩]; omega) (by decide) ?_
    refine z_const X (show cdA 101 104 = some (.iconst (-1), 1, 0, 0, 0) from rfl) ?_
    exact w_iret X.1 q hRt rfl (ax_d X (show cdA 101 105 = some (.ireturn, 1, 0, 0, 0) from rfl)) (Nat.zero_le _) (Nat.zero_le _) ⟨_, rfl, rfl, (-1), rfl, (by decide), by first | exact ⟨by decide, by decide⟩ | omega⟩
set_option maxRecDepth 4000 in
theorem c9_goBetween (G : GX l s0 D tys a0 dT) (I : Bd s) {x y : Int} (p0 : 0 ≤ x ∧ x ≤ 127) (p1 : 0 ≤ y ∧ y ≤ 127) : CT l s0 D A dT 102 (rmN 102) [.int (Int32.ofInt x), .int (Int32.ofInt y)] s (fun o t => s = t ∧ ∃ e, o = .inl (some (.int (Int32.ofInt e))) ∧ rng e ∧ (0 ≤ e ∧ e ≤ 5)) := by
  refine ct_ofX G (by decide) (Nat.le_of_ble_eq_true rfl) (fun k X E ET hRt hXt q => ?_)
  show WS k 0 [(0, .int (Int32.ofInt x)), (1, .int (Int32.ofInt y))] [] _ 0 0
  have F : Fm [] [] s s := fm_rf _ _ s
  refine z_load_n X (x := y) (show cdA 102 0 = some (.iload_n 1, 1, 0, 0, 0) from rfl) (List.Mem.tail _ (List.Mem.head _)) ?_
  refine z_load_n X (x := x) (show cdA 102 1 = some (.iload_n 0, 1, 0, 0, 0) from rfl) (List.Mem.head _) ?_
  refine z_sub X (show cdA 102 2 = some (.isub, 1, 0, 0, 0) from rfl) ?_
  rcases (show (y - x) = (-8) ∨ (y - x) = (-1) ∨ (y - x) = 1 ∨ (y - x) = 8 ∨ (y - x) = 64 ∨ ((y - x) ≠ (-8) ∧ (y - x) ≠ (-1) ∧ (y - x) ≠ 1 ∧ (y - x) ≠ 8 ∧ (y - x) ≠ 64) by omega) with gs | gs | gs | gs | gs | gs
  ·
    rw [gs]
    refine w_lookup X.1 (dflt := 59) (ps := #[((-8), 55), ((-1), 51), (1, 49), (8, 53), (64, 57)]) (len := 49) (off := 55) (t := 58) (by rw [X.2.1.1]; decide +kernel) (by decide) (by decide) (by decide) ?_
    refine z_const X (show cdA 102 58 = some (.iconst 3, 1, 0, 0, 0) from rfl) ?_
    exact w_iret X.1 q hRt rfl (ax_d X (show cdA 102 59 = some (.ireturn, 1, 0, 0, 0) from rfl)) (Nat.zero_le _) (Nat.zero_le _) ⟨_, rfl, rfl, 3, rfl, (by decide), by first | exact ⟨by decide, by decide⟩ | omega⟩
  ·
    rw [gs]
    refine w_lookup X.1 (dflt := 59) (ps := #[((-8), 55), ((-1), 51), (1, 49), (8, 53), (64, 57)]) (len := 49) (off := 51) (t := 54) (by rw [X.2.1.1]; decide +kernel) (by decide) (by decide) (by decide) ?_
    refine z_const X (show cdA 102 54 = some (.iconst 1, 1, 0, 0, 0) from rfl) ?_
    exact w_iret X.1 q hRt rfl (ax_d X (show cdA 102 55 = some (.ireturn, 1, 0, 0, 0) from rfl)) (Nat.zero_le _) (Nat.zero_le _) ⟨_, rfl, rfl, 1, rfl, (by decide), by first | exact ⟨by decide, by decide⟩ | omega⟩
  ·
    rw [gs]
    refine w_lookup X.1 (dflt := 59) (ps := #[((-8), 55), ((-1), 51), (1, 49), (8, 53), (64, 57)]) (len := 49) (off := 49) (t := 52) (by rw [X.2.1.1]; decide +kernel) (by decide) (by decide) (by decide) ?_
    refine z_const X (show cdA 102 52 = some (.iconst 0, 1, 0, 0, 0) from rfl) ?_
    exact w_iret X.1 q hRt rfl (ax_d X (show cdA 102 53 = some (.ireturn, 1, 0, 0, 0) from rfl)) (Nat.zero_le _) (Nat.zero_le _) ⟨_, rfl, rfl, 0, rfl, (by decide), by first | exact ⟨by decide, by decide⟩ | omega⟩
  ·
    rw [gs]
    refine w_lookup X.1 (dflt := 59) (ps := #[((-8), 55), ((-1), 51), (1, 49), (8, 53), (64, 57)]) (len := 49) (off := 53) (t := 56) (by rw [X.2.1.1]; decide +kernel) (by decide) (by decide) (by decide) ?_
    refine z_const X (show cdA 102 56 = some (.iconst 2, 1, 0, 0, 0) from rfl) ?_
    exact w_iret X.1 q hRt rfl (ax_d X (show cdA 102 57 = some (.ireturn, 1, 0, 0, 0) from rfl)) (Nat.zero_le _) (Nat.zero_le _) ⟨_, rfl, rfl, 2, rfl, (by decide), by first | exact ⟨by decide, by decide⟩ | omega⟩
  ·
    rw [gs]
    refine w_lookup X.1 (dflt := 59) (ps := #[((-8), 55), ((-1), 51), (1, 49), (8, 53), (64, 57)]) (len := 49) (off := 57) (t := 60) (by rw [X.2.1.1]; decide +kernel) (by decide) (by decide) (by decide) ?_
    refine z_const X (show cdA 102 60 = some (.iconst 4, 1, 0, 0, 0) from rfl) ?_
    exact w_iret X.1 q hRt rfl (ax_d X (show cdA 102 61 = some (.ireturn, 1, 0, 0, 0) from rfl)) (Nat.zero_le _) (Nat.zero_le _) ⟨_, rfl, rfl, 4, rfl, (by decide), by first | exact ⟨by decide, by decide⟩ | omega⟩
  ·
    refine w_lookup X.1 (dflt := 59) (ps := #[((-8), 55), ((-1), 51), (1, 49), (8, 53), (64, 57)]) (len := 49) (off := 59) (t := 62) (by rw [X.2.1.1]; decide +kernel) (by decide) (by rw [zi ⟨by omega, by omega⟩]; show Op.lookupswitch.offset [((-8), 55), ((-1), 51), (1, 49), (8, 53), (64, 57)] _ _ = _; rw [Op.lookupswitch.offset_cons, if_neg (by omega), Op.lookupswitch.offset_cons, if_neg (by omega), Op.lookupswitch.offset_cons, if_neg (by omega), Op.lookupswitch.offset_cons, if_neg (by omega), Op.lookupswitch.offset_cons, if_neg (by omega)]; rfl) (by decide) ?_
    refine z_const X (show cdA 102 62 = some (.iconst 5, 1, 0, 0, 0) from rfl) ?_
    exact w_iret X.1 q hRt rfl (ax_d X (show cdA 102 63 = some (.ireturn, 1, 0, 0, 0) from rfl)) (Nat.zero_le _) (Nat.zero_le _) ⟨_, rfl, rfl, 5, rfl, (by decide), by first | exact ⟨by decide, by decide⟩ | omega⟩
end M71
