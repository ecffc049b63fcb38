/-! The model: methods without loops -/
theorem fm_ts {L M L' M' : List Nat} {s t u : PS} (h : Fm L M s t) (g : Fm L' M' t u) (h1 : ∀ k ∈ L', k ∈ L) (h2 : ∀ k ∈ M', k ∈ M) : Fm L M s u :=
  ⟨fun k hk => (g.1 k (fun q => hk (h1 k q))).trans (h.1 k hk), fun a ha => (g.2.1 a (fun q => ha (h2 a q))).trans (h.2.1 a ha), g.2.2.1.trans h.2.2.1, fl_ts h.2.2.2 g.2.2.2 h1 h2⟩
section M31
variable {l : Launch} {s0 : State} {D : va_G} {tys : List (ClassId × FieldType)} {a0 : Array Value} {A : Nat → Nat} {dT : Nat → ClassId} {s : PS}
theorem k_in (G : GX l s0 D tys a0 dT) (I : Bd s) {x y z : Int} (p0 : rng x) (p1 : rng y) (p2 : rng z) : CT l s0 D A dT 188 (rmN 188) [.int (Int32.ofInt x), .int (Int32.ofInt y), .int (Int32.ofInt z)] s (fun o t => Bd t ∧ Fm [] [] s t ∧ ∃ e, o = .inl (some (.int (Int32.ofInt e))) ∧ rng e ∧ ((e = 1 ∧ y ≤ x ∧ x ≤ z) ∨ (e = 0 ∧ (x < y ∨ z < x)))) := by
  refine ct_of G (by decide) (Nat.le_of_ble_eq_true rfl) (fun k X E hRt hXt q => ?_)
  show WS k 0 [(0, .int (Int32.ofInt x)), (1, .int (Int32.ofInt y)), (2, .int (Int32.ofInt z))] [] _ 0 0
  have F : Fm [] [] s s := fm_rf _ _ s
  refine z_load_n X (x := x) (show cdA 188 0 = some (.iload_n 0, 1, 0, 0, 0) from rfl) (List.Mem.head _) ?_
  refine z_load_n X (x := y) (show cdA 188 1 = some (.iload_n 1, 1, 0, 0, 0) from rfl) (List.Mem.tail _ (List.Mem.head _)) ?_
  have N1 : ∀ e2 : Int, (((x < y) ∧ e2 = 0) ∨ ((y ≤ x) ∧ (z < x) ∧ e2 = 0) ∨ ((y ≤ x) ∧ (x ≤ z) ∧ e2 = 1)) → WS k 15 [(0, .int (Int32.ofInt x)), (1, .int (Int32.ofInt y)), (2, .int (Int32.ofInt z))] [.int (Int32.ofInt e2)] (Wd A dT s) 0 0 := by
    intro e2 he2
    have re2 : 0 ≤ e2 ∧ e2 ≤ 1 := by omega
    exact w_iret X.1 q hRt (nar_ret (by first | exact oq_31e518ae re2.2 re2.1 | omega)) (ax_d X (show cdA 188 15 = some (.ireturn, 1, 0, 0, 0) from rfl)) (Nat.zero_le _) (Nat.zero_le _) ⟨_, rfl, I, F, e2, rfl, ⟨by first | exact oq_fa4e5087 re2.1 | omega, by first | exact oq_22e1e6b0 re2.2 | omega⟩, by first | exact oq_eb048f71 re2.2 re2.1 he2 | omega⟩
  refine z_icmp_lt X (t := 14) (show cdA 188 2 = some (.if_icmp .lt 12, 3, 2, 0, 0) from rfl) (by decide) ⟨by first | exact p0.1 | omega, by first | exact p0.2 | omega⟩ ⟨by first | exact p1.1 | omega, by first | exact p1.2 | omega⟩ (fun g3 => ?_) (fun g3 => ?_)
  ·
    refine z_const X (show cdA 188 14 = some (.iconst 0, 1, 0, 0, 0) from rfl) ?_
    exact N1 _ (Or.inl ⟨g3, rfl⟩)
  ·
    refine z_load_n X (x := x) (show cdA 188 5 = some (.iload_n 0, 1, 0, 0, 0) from rfl) (List.Mem.head _) ?_
    refine z_load_n X (x := z) (show cdA 188 6 = some (.iload_n 2, 1, 0, 0, 0) from rfl) (List.Mem.tail _ (List.Mem.tail _ (List.Mem.head _))) ?_
    refine z_icmp_gt X (t := 14) (show cdA 188 7 = some (.if_icmp .gt 7, 3, 4, 0, 0) from rfl) (by decide) ⟨by first | exact p0.1 | omega, by first | exact p0.2 | omega⟩ ⟨by first | exact p2.1 | omega, by first | exact p2.2 | omega⟩ (fun g4 => ?_) (fun g4 => ?_)
    ·
      refine z_const X (show cdA 188 14 = some (.iconst 0, 1, 0, 0, 0) from rfl) ?_
      exact N1 _ (Or.inr (Or.inl ⟨g3, g4, rfl⟩))
    ·
      refine z_const X (show cdA 188 10 = some (.iconst 1, 1, 0, 0, 0) from rfl) ?_
      refine z_goto X (t := 15) (show cdA 188 11 = some (.goto 4, 3, 0, 0, 0) from rfl) (by decide) ?_
      exact N1 _ (Or.inr (Or.inr (⟨g3, g4, rfl⟩)))
theorem k_isDigit (G : GX l s0 D tys a0 dT) (I : Bd s) {x : Int} (p0 : rng x) : CT l s0 D A dT 195 (rmN 195) [.int (Int32.ofInt x)] s (fun o t => Bd t ∧ Fm [] [] s t ∧ ∃ e, o = .inl (some (.int (Int32.ofInt e))) ∧ rng e ∧ ((e = 1 ∧ 48 ≤ x ∧ x ≤ 57) ∨ (e = 0 ∧ (x < 48 ∨ 57 < x)))) := by
  refine ct_of G (by decide) (Nat.le_of_ble_eq_true rfl) (fun k X E hRt hXt q => ?_)
  show WS k 0 [(0, .int (Int32.ofInt x))] [] _ 0 0
  have F : Fm [] [] s s := fm_rf _ _ s
  refine z_load_n X (x := x) (show cdA 195 0 = some (.iload_n 0, 1, 0, 0, 0) from rfl) (List.Mem.head _) ?_
  refine z_bipush X (show cdA 195 1 = some (.bipush 48, 2, 0, 0, 48) from rfl) ?_
  have N1 : ∀ e2 : Int, (((x < 48) ∧ e2 = 0) ∨ ((48 ≤ x) ∧ (57 < x) ∧ e2 = 0) ∨ ((48 ≤ x) ∧ (x ≤ 57) ∧ e2 = 1)) → WS k 17 [(0, .int (Int32.ofInt x))] [.int (Int32.ofInt e2)] (Wd A dT s) 0 0 := by
    intro e2 he2
    have re2 : 0 ≤ e2 ∧ e2 ≤ 1 := by omega
    exact w_iret X.1 q hRt (nar_ret (by first | exact oq_31e518ae re2.2 re2.1 | omega)) (ax_d X (show cdA 195 17 = some (.ireturn, 1, 0, 0, 0) from rfl)) (Nat.zero_le _) (Nat.zero_le _) ⟨_, rfl, I, F, e2, rfl, ⟨by first | exact oq_fa4e5087 re2.1 | omega, by first | exact oq_22e1e6b0 re2.2 | omega⟩, by first | exact oq_08c8a296 re2.2 re2.1 he2 | omega⟩
  refine z_icmp_lt X (t := 16) (show cdA 195 3 = some (.if_icmp .lt 13, 3, 2, 0, 0) from rfl) (by decide) ⟨by first | exact p0.1 | omega, by first | exact p0.2 | omega⟩ (by decide) (fun g3 => ?_) (fun g3 => ?_)
  ·
    refine z_const X (show cdA 195 16 = some (.iconst 0, 1, 0, 0, 0) from rfl) ?_
    exact N1 _ (Or.inl ⟨g3, rfl⟩)
  ·
    refine z_load_n X (x := x) (show cdA 195 6 = some (.iload_n 0, 1, 0, 0, 0) from rfl) (List.Mem.head _) ?_
    refine z_bipush X (show cdA 195 7 = some (.bipush 57, 2, 0, 0, 57) from rfl) ?_
    refine z_icmp_gt X (t := 16) (show cdA 195 9 = some (.if_icmp .gt 7, 3, 4, 0, 0) from rfl) (by decide) ⟨by first | exact p0.1 | omega, by first | exact p0.2 | omega⟩ (by decide) (fun g4 => ?_) (fun g4 => ?_)
    ·
      refine z_const X (show cdA 195 16 = some (.iconst 0, 1, 0, 0, 0) from rfl) ?_
      exact N1 _ (Or.inr (Or.inl ⟨g3, g4, rfl⟩))
    ·
      refine z_const X (show cdA 195 12 = some (.iconst 1, 1, 0, 0, 0) from rfl) ?_
      refine z_goto X (t := 17) (show cdA 195 13 = some (.goto 4, 3, 0, 0, 0) from rfl) (by decide) ?_
      exact N1 _ (Or.inr (Or.inr (⟨g3, g4, rfl⟩)))
theorem k_bad (G : GX l s0 D tys a0 dT) (I : Bd s) {x y : Int} (p0 : x = 0 ∨ x = 1) (p1 : 1 ≤ y ∧ y ≤ 3) : CT l s0 D A dT 187 (rmN 187) [.ref (A 179), .int (Int32.ofInt x), .int (Int32.ofInt y)] s (fun o t => Bd t ∧ Fm [73] [] s t ∧ ∃ e, o = .inl (some (.int (Int32.ofInt e))) ∧ rng e ∧ (((e = 0 ∧ iI t 73 = 0) ∨ (e = 1 ∧ iI t 73 ≠ 0)) ∧ (x = 1 → e = 1) ∧ (x = 0 → iI t 73 = iI s 73))) := by
  refine ct_of G (by decide) (Nat.le_of_ble_eq_true rfl) (fun k X E hRt hXt q => ?_)
  show WS k 0 [(0, .ref (A 179)), (1, .int (Int32.ofInt x)), (2, .int (Int32.ofInt y))] [] _ 0 0
  have F : Fm [73] [] s s := fm_rf _ _ s
  have b1 : (0 : Int) ≤ iI s 73 ∧ iI s 73 ≤ 3 := I.1 73
  refine z_load_n X (x := x) (show cdA 187 0 = some (.iload_n 1, 1, 0, 0, 0) from rfl) (List.Mem.tail _ (List.Mem.head _)) ?_
  refine z_if_eq X (t := 16) (show cdA 187 1 = some (.ifCond .eq 15, 3, 0, 0, 0) from rfl) (by decide) ⟨by first | exact oq_bde653e9 p0 | omega, by first | exact oq_4ad2cb8b p0 | omega⟩ (fun g2 => ?_) (fun g2 => ?_)
  ·
    refine z_aload_n X (x := A 179) (show cdA 187 16 = some (.aload_n 0, 1, 0, 0, 0) from rfl) (List.Mem.head _) ?_
    refine z_getI X 179 (show cdA 187 17 = some (.getfield 172, 3, 12, 0, 0) from rfl) (by decide) rfl rfl ?_
    have b3 : (0 : Int) ≤ iI s 73 ∧ iI s 73 ≤ 3 := I.1 73
    have N4 : ∀ e5 : Int, ((((iI s 73) = 0) ∧ e5 = 0) ∨ (((iI s 73) ≠ 0) ∧ e5 = 1)) → WS k 28 [(0, .ref (A 179)), (1, .int (Int32.ofInt x)), (2, .int (Int32.ofInt y))] [.int (Int32.ofInt e5)] (Wd A dT s) 0 0 := by
      intro e5 he5
      have re5 : 0 ≤ e5 ∧ e5 ≤ 1 := by omega
      exact w_iret X.1 q hRt (nar_ret (by first | exact oq_31e518ae re5.2 re5.1 | omega)) (ax_d X (show cdA 187 28 = some (.ireturn, 1, 0, 0, 0) from rfl)) (Nat.zero_le _) (Nat.zero_le _) ⟨_, rfl, I, F, e5, rfl, ⟨by first | exact oq_fa4e5087 re5.1 | omega, by first | exact oq_22e1e6b0 re5.2 | omega⟩, by first | exact ⟨oq_eedb2150 re5.2 re5.1 he5 b3.1, oq_3734ab87 g2, oq_03aa4181⟩ | omega⟩
    refine z_if_eq X (t := 27) (show cdA 187 20 = some (.ifCond .eq 7, 3, 0, 0, 0) from rfl) (by decide) (rng_to _) (fun g6 => ?_) (fun g6 => ?_)
    ·
      refine z_const X (show cdA 187 27 = some (.iconst 0, 1, 0, 0, 0) from rfl) ?_
      exact N4 _ (Or.inl ⟨g6, rfl⟩)
    ·
      refine z_const X (show cdA 187 23 = some (.iconst 1, 1, 0, 0, 0) from rfl) ?_
      refine z_goto X (t := 28) (show cdA 187 24 = some (.goto 4, 3, 0, 0, 0) from rfl) (by decide) ?_
      exact N4 _ (Or.inr (⟨g6, rfl⟩))
  ·
    refine z_aload_n X (x := A 179) (show cdA 187 4 = some (.aload_n 0, 1, 0, 0, 0) from rfl) (List.Mem.head _) ?_
    refine z_getI X 179 (show cdA 187 5 = some (.getfield 172, 3, 12, 0, 0) from rfl) (by decide) rfl rfl ?_
    have b7 : (0 : Int) ≤ iI s 73 ∧ iI s 73 ≤ 3 := I.1 73
    refine z_if_ne X (t := 16) (show cdA 187 8 = some (.ifCond .ne 8, 3, 1, 0, 0) from rfl) (by decide) (rng_to _) (fun g8 => ?_) (fun g8 => ?_)
    ·
      refine z_aload_n X (x := A 179) (show cdA 187 16 = some (.aload_n 0, 1, 0, 0, 0) from rfl) (List.Mem.head _) ?_
      refine z_getI X 179 (show cdA 187 17 = some (.getfield 172, 3, 12, 0, 0) from rfl) (by decide) rfl rfl ?_
      have b9 : (0 : Int) ≤ iI s 73 ∧ iI s 73 ≤ 3 := I.1 73
      have N10 : ∀ e11 : Int, ((((iI s 73) = 0) ∧ e11 = 0) ∨ (((iI s 73) ≠ 0) ∧ e11 = 1)) → WS k 28 [(0, .ref (A 179)), (1, .int (Int32.ofInt x)), (2, .int (Int32.ofInt y))] [.int (Int32.ofInt e11)] (Wd A dT s) 0 0 := by
        intro e11 he11
        have re11 : 0 ≤ e11 ∧ e11 ≤ 1 := by omega
        exact w_iret X.1 q hRt (nar_ret (by first | exact oq_438aa68f re11.2 he11 b9.1 g8 | omega)) (ax_d X (show cdA 187 28 = some (.ireturn, 1, 0, 0, 0) from rfl)) (Nat.zero_le _) (Nat.zero_le _) ⟨_, rfl, I, F, e11, rfl, ⟨by first | exact oq_fa4e5087 re11.1 | omega, by first | exact oq_22e1e6b0 re11.2 | omega⟩, by first | exact ⟨oq_3ad403e6 re11.2 he11 b9.1 g8, oq_22e5e821 re11.2 he11 b9.1 g8, oq_0da2dd66 g2⟩ | omega⟩
      refine z_if_eq X (t := 27) (show cdA 187 20 = some (.ifCond .eq 7, 3, 0, 0, 0) from rfl) (by decide) (rng_to _) (fun g12 => ?_) (fun g12 => ?_)
      ·
        refine z_const X (show cdA 187 27 = some (.iconst 0, 1, 0, 0, 0) from rfl) ?_
        exact N10 _ (Or.inl ⟨g12, rfl⟩)
      ·
        refine z_const X (show cdA 187 23 = some (.iconst 1, 1, 0, 0, 0) from rfl) ?_
        refine z_goto X (t := 28) (show cdA 187 24 = some (.goto 4, 3, 0, 0, 0) from rfl) (by decide) ?_
        exact N10 _ (Or.inr (⟨g12, rfl⟩))
    ·
      refine z_aload_n X (x := A 179) (show cdA 187 11 = some (.aload_n 0, 1, 0, 0, 0) from rfl) (List.Mem.head _) ?_
      refine z_load_n X (x := y) (show cdA 187 12 = some (.iload_n 2, 1, 0, 0, 0) from rfl) (List.Mem.tail _ (List.Mem.tail _ (List.Mem.head _))) ?_
      refine s_putI X 179 (show cdA 187 13 = some (.putfield 172, 3, 12, 0, 0) from rfl) (by decide) rfl rfl (by decide) rfl rfl rfl ?_
      obtain ⟨s13, hs13⟩ : ∃ x0, x0 = uI s 73 (Int32.ofInt y) := ⟨_, rfl⟩
      rw [← hs13]
      have Is13 : Bd s13 := by rw [hs13]; exact bd_I I (show (0 : Int) ≤ y ∧ y ≤ 3 by first | exact ⟨oq_2a6e3b50 p1.1, p1.2⟩ | omega) ⟨by first | exact oq_9462313e p1.1 | omega, by first | exact oq_c5520c83 p1.2 | omega⟩
      have Fs13 := fm_I (x := Int32.ofInt y) F (show 73 ∈ _ by decide)
      rw [← hs13] at Fs13
      have vs13 : iI s13 73 = y := by rw [hs13]; exact iI_u ⟨by first | exact oq_9462313e p1.1 | omega, by first | exact oq_c5520c83 p1.2 | omega⟩
      refine z_aload_n X (x := A 179) (show cdA 187 16 = some (.aload_n 0, 1, 0, 0, 0) from rfl) (List.Mem.head _) ?_
      refine z_getI X 179 (show cdA 187 17 = some (.getfield 172, 3, 12, 0, 0) from rfl) (by decide) rfl rfl ?_
      have b14 : (0 : Int) ≤ iI s13 73 ∧ iI s13 73 ≤ 3 := Is13.1 73
      have N15 : ∀ e16 : Int, ((((iI s13 73) = 0) ∧ e16 = 0) ∨ (((iI s13 73) ≠ 0) ∧ e16 = 1)) → WS k 28 [(0, .ref (A 179)), (1, .int (Int32.ofInt x)), (2, .int (Int32.ofInt y))] [.int (Int32.ofInt e16)] (Wd A dT s13) 0 0 := by
        intro e16 he16
        have re16 : 0 ≤ e16 ∧ e16 ≤ 1 := by omega
        exact w_iret X.1 q hRt (nar_ret (by first | exact oq_4f030bbc re16.2 he16 vs13 p1.1 | omega)) (ax_d X (show cdA 187 28 = some (.ireturn, 1, 0, 0, 0) from rfl)) (Nat.zero_le _) (Nat.zero_le _) ⟨_, rfl, Is13, Fs13, e16, rfl, ⟨by first | exact oq_fa4e5087 re16.1 | omega, by first | exact oq_22e1e6b0 re16.2 | omega⟩, by first | exact ⟨oq_e232e10b re16.2 he16 vs13 p1.1, oq_b3466af9 re16.2 he16 vs13 p1.1, oq_6f3bd9cf g2⟩ | omega⟩
      refine z_if_eq X (t := 27) (show cdA 187 20 = some (.ifCond .eq 7, 3, 0, 0, 0) from rfl) (by decide) (rng_to _) (fun g17 => ?_) (fun g17 => ?_)
      ·
        refine z_const X (show cdA 187 27 = some (.iconst 0, 1, 0, 0, 0) from rfl) ?_
        exact N15 _ (Or.inl ⟨g17, rfl⟩)
      ·
        refine z_const X (show cdA 187 23 = some (.iconst 1, 1, 0, 0, 0) from rfl) ?_
        refine z_goto X (t := 28) (show cdA 187 24 = some (.goto 4, 3, 0, 0, 0) from rfl) (by decide) ?_
        exact N15 _ (Or.inr (⟨g17, rfl⟩))
theorem k_wrong (G : GX l s0 D tys a0 dT) (I : Bd s) {x y : Int} (p0 : 1 ≤ x ∧ x ≤ 9) (p1 : -1 ≤ y ∧ y ≤ 400) : CT l s0 D A dT 194 (rmN 194) [.ref (A 179), .int (Int32.ofInt x), .int (Int32.ofInt y)] s (fun o t => Bd t ∧ Fm [79, 80] [] s t ∧ o = .inl none ∧ (iI t 79 ≠ 0)) := by
  refine ct_of G (by decide) (Nat.le_of_ble_eq_true rfl) (fun k X E hRt hXt q => ?_)
  show WS k 0 [(0, .ref (A 179)), (1, .int (Int32.ofInt x)), (2, .int (Int32.ofInt y))] [] _ 0 0
  have F : Fm [79, 80] [] s s := fm_rf _ _ s
  have b1 : (0 : Int) ≤ iI s 79 ∧ iI s 79 ≤ 9 := I.1 79
  refine z_aload_n X (x := A 179) (show cdA 194 0 = some (.aload_n 0, 1, 0, 0, 0) from rfl) (List.Mem.head _) ?_
  refine z_getI X 179 (show cdA 194 1 = some (.getfield 191, 3, 12, 6, 0) from rfl) (by decide) rfl rfl ?_
  have b2 : (0 : Int) ≤ iI s 79 ∧ iI s 79 ≤ 9 := I.1 79
  refine z_if_ne X (t := 17) (show cdA 194 4 = some (.ifCond .ne 13, 3, 1, 0, 0) from rfl) (by decide) (rng_to _) (fun g3 => ?_) (fun g3 => ?_)
  ·
    exact w_vret X.1 q hRt (ax_d X (show cdA 194 17 = some (.return_, 1, 0, 0, 0) from rfl)) (Nat.zero_le _) (Nat.zero_le _) ⟨_, rfl, I, F, rfl, by first | exact g3 | omega⟩
  ·
    refine z_aload_n X (x := A 179) (show cdA 194 7 = some (.aload_n 0, 1, 0, 0, 0) from rfl) (List.Mem.head _) ?_
    refine z_load_n X (x := x) (show cdA 194 8 = some (.iload_n 1, 1, 0, 0, 0) from rfl) (List.Mem.tail _ (List.Mem.head _)) ?_
    refine s_putI X 179 (show cdA 194 9 = some (.putfield 191, 3, 12, 6, 0) from rfl) (by decide) rfl rfl (by decide) rfl rfl rfl ?_
    obtain ⟨s4, hs4⟩ : ∃ x0, x0 = uI s 79 (Int32.ofInt x) := ⟨_, rfl⟩
    rw [← hs4]
    have Is4 : Bd s4 := by rw [hs4]; exact bd_I I (show (0 : Int) ≤ x ∧ x ≤ 9 by first | exact ⟨oq_2a6e3b50 p0.1, p0.2⟩ | omega) ⟨by first | exact oq_9462313e p0.1 | omega, by first | exact oq_f7e7bb0e p0.2 | omega⟩
    have Fs4 := fm_I (x := Int32.ofInt x) F (show 79 ∈ _ by decide)
    rw [← hs4] at Fs4
    have vs4 : iI s4 79 = x := by rw [hs4]; exact iI_u ⟨by first | exact oq_9462313e p0.1 | omega, by first | exact oq_f7e7bb0e p0.2 | omega⟩
    refine z_aload_n X (x := A 179) (show cdA 194 12 = some (.aload_n 0, 1, 0, 0, 0) from rfl) (List.Mem.head _) ?_
    refine z_load_n X (x := y) (show cdA 194 13 = some (.iload_n 2, 1, 0, 0, 0) from rfl) (List.Mem.tail _ (List.Mem.tail _ (List.Mem.head _))) ?_
    refine s_putI X 179 (show cdA 194 14 = some (.putfield 194, 3, 12, 7, 0) from rfl) (by decide) rfl rfl (by decide) rfl rfl rfl ?_
    obtain ⟨s5, hs5⟩ : ∃ x0, x0 = uI s4 80 (Int32.ofInt y) := ⟨_, rfl⟩
    rw [← hs5]
    have Is5 : Bd s5 := by rw [hs5]; exact bd_I Is4 (show ((-1) : Int) ≤ y ∧ y ≤ 400 by first | exact ⟨p1.1, p1.2⟩ | omega) ⟨by first | exact oq_97ee2c2a p1.1 | omega, by first | exact oq_5a8480eb p1.2 | omega⟩
    have Fs5 := fm_I (x := Int32.ofInt y) Fs4 (show 80 ∈ _ by decide)
    rw [← hs5] at Fs5
    have vs5 : iI s5 80 = y := by rw [hs5]; exact iI_u ⟨by first | exact oq_97ee2c2a p1.1 | omega, by first | exact oq_5a8480eb p1.2 | omega⟩
    have ws5_79 : iI s5 79 = iI s4 79 := by rw [hs5]; rfl
    exact w_vret X.1 q hRt (ax_d X (show cdA 194 17 = some (.return_, 1, 0, 0, 0) from rfl)) (Nat.zero_le _) (Nat.zero_le _) ⟨_, rfl, Is5, Fs5, rfl, by first | exact oq_ed8779e6 ws5_79 vs4 p0.1 | omega⟩
theorem k_byteAt (G : GX l s0 D tys a0 dT) (I : Bd s) {x : Int} (p0 : 0 ≤ x ∧ x ≤ 2147483647) : CT l s0 D A dT 192 (rmN 192) [.ref (A 179), .int (Int32.ofInt x)] s (fun o t => Bd t ∧ Fm [] [] s t ∧ ∃ e, o = .inl (some (.int (Int32.ofInt e))) ∧ rng e ∧ ((iI s 75 ≤ x ∧ e = -1) ∨ (x < iI s 75 ∧ 0 ≤ e ∧ e ≤ 255))) := by
  refine ct_of G (by decide) (Nat.le_of_ble_eq_true rfl) (fun k X E hRt hXt q => ?_)
  show WS k 0 [(0, .ref (A 179)), (1, .int (Int32.ofInt x))] [] _ 0 0
  have F : Fm [] [] s s := fm_rf _ _ s
  have b1 : (0 : Int) ≤ iI s 75 ∧ iI s 75 ≤ 200 := I.1 75
  refine z_load_n X (x := x) (show cdA 192 0 = some (.iload_n 1, 1, 0, 0, 0) from rfl) (List.Mem.tail _ (List.Mem.head _)) ?_
  refine z_aload_n X (x := A 179) (show cdA 192 1 = some (.aload_n 0, 1, 0, 0, 0) from rfl) (List.Mem.head _) ?_
  refine z_getI X 179 (show cdA 192 2 = some (.getfield 178, 3, 12, 2, 0) from rfl) (by decide) rfl rfl ?_
  have b2 : (0 : Int) ≤ iI s 75 ∧ iI s 75 ≤ 200 := I.1 75
  have N3 : ∀ e4 : Int, (((x < (iI s 75)) ∧ ((0 : Int) ≤ iI s 81 ∧ iI s 81 ≤ 1) ∧ ((iI s 81) ≠ 0) ∧ ((0 : Int) ≤ iC s 158 (x).toNat ∧ iC s 158 (x).toNat ≤ 255) ∧ e4 = (iC s 158 (x).toNat)) ∨ ((x < (iI s 75)) ∧ ((0 : Int) ≤ iI s 81 ∧ iI s 81 ≤ 1) ∧ ((iI s 81) = 0) ∧ ((0 : Int) ≤ iC s 157 (x).toNat ∧ iC s 157 (x).toNat ≤ 255) ∧ e4 = (iC s 157 (x).toNat)) ∨ (((iI s 75) ≤ x) ∧ e4 = (-1))) → WS k 34 [(0, .ref (A 179)), (1, .int (Int32.ofInt x))] [.int (Int32.ofInt e4)] (Wd A dT s) 0 0 := by
    intro e4 he4
    exact w_iret X.1 q hRt rfl (ax_d X (show cdA 192 34 = some (.ireturn, 1, 0, 0, 0) from rfl)) (Nat.zero_le _) (Nat.zero_le _) ⟨_, rfl, I, F, e4, rfl, ⟨by first | exact oq_e9a2ed3a he4 | omega, by first | exact oq_bae66a67 he4 | omega⟩, by first | exact oq_736808e1 he4 | omega⟩
  refine z_icmp_lt X (t := 12) (show cdA 192 5 = some (.if_icmp .lt 7, 3, 2, 0, 0) from rfl) (by decide) ⟨by first | exact oq_fa4e5087 p0.1 | omega, by first | exact p0.2 | omega⟩ (rng_to _) (fun g5 => ?_) (fun g5 => ?_)
  ·
    refine z_aload_n X (x := A 179) (show cdA 192 12 = some (.aload_n 0, 1, 0, 0, 0) from rfl) (List.Mem.head _) ?_
    refine z_getI X 179 (show cdA 192 13 = some (.getfield 181, 3, 12, 8, 0) from rfl) (by decide) rfl rfl ?_
    have b6 : (0 : Int) ≤ iI s 81 ∧ iI s 81 ≤ 1 := I.1 81
    refine z_if_ne X (t := 28) (show cdA 192 16 = some (.ifCond .ne 12, 3, 1, 0, 0) from rfl) (by decide) (rng_to _) (fun g7 => ?_) (fun g7 => ?_)
    ·
      refine z_aload_n X (x := A 179) (show cdA 192 28 = some (.aload_n 0, 1, 0, 0, 0) from rfl) (List.Mem.head _) ?_
      refine s_getR X 179 (show cdA 192 29 = some (.getfield 17, 3, 12, 10, 0) from rfl) (by decide) rfl rfl ?_
      refine z_load_n X (x := x) (show cdA 192 32 = some (.iload_n 1, 1, 0, 0, 0) from rfl) (List.Mem.tail _ (List.Mem.head _)) ?_
      refine z_ald X 181 (show cdA 192 33 = some (.iaload, 1, 0, 0, 0) from rfl) (by decide) rfl (by first | exact p0.1 | omega) (show x < 200 by first | exact oq_6fca3d72 g5 b2.2 | omega) (by decide) ?_
      have b8 : (0 : Int) ≤ iC s 158 (x).toNat ∧ iC s 158 (x).toNat ≤ 255 := I.2 158 _ (show (x).toNat < 200 by first | exact oq_b70289d5 g5 b2.2 | omega)
      exact N3 _ (Or.inl ⟨g5, b6, g7, b8, rfl⟩)
    ·
      refine z_aload_n X (x := A 179) (show cdA 192 19 = some (.aload_n 0, 1, 0, 0, 0) from rfl) (List.Mem.head _) ?_
      refine s_getR X 179 (show cdA 192 20 = some (.getfield 13, 3, 12, 9, 0) from rfl) (by decide) rfl rfl ?_
      refine z_load_n X (x := x) (show cdA 192 23 = some (.iload_n 1, 1, 0, 0, 0) from rfl) (List.Mem.tail _ (List.Mem.head _)) ?_
      refine z_ald X 180 (show cdA 192 24 = some (.iaload, 1, 0, 0, 0) from rfl) (by decide) rfl (by first | exact p0.1 | omega) (show x < 200 by first | exact oq_6fca3d72 g5 b2.2 | omega) (by decide) ?_
      have b9 : (0 : Int) ≤ iC s 157 (x).toNat ∧ iC s 157 (x).toNat ≤ 255 := I.2 157 _ (show (x).toNat < 200 by first | exact oq_b70289d5 g5 b2.2 | omega)
      refine z_goto X (t := 34) (show cdA 192 25 = some (.goto 9, 3, 0, 0, 0) from rfl) (by decide) ?_
      exact N3 _ (Or.inr (Or.inl ⟨g5, b6, g7, b9, rfl⟩))
  ·
    refine z_const X (show cdA 192 8 = some (.iconst (-1), 1, 0, 0, 0) from rfl) ?_
    refine z_goto X (t := 34) (show cdA 192 9 = some (.goto 25, 3, 0, 0, 0) from rfl) (by decide) ?_
    exact N3 _ (Or.inr (Or.inr (⟨g5, rfl⟩)))
theorem k_beginText (G : GX l s0 D tys a0 dT) (I : Bd s) {x : Int} (p0 : 0 ≤ x ∧ x ≤ 200) : CT l s0 D A dT 197 (rmN 197) [.ref (A 179), .int (Int32.ofInt x)] s (fun o t => Bd t ∧ Fm [81, 75, 77, 78, 79, 80] [] s t ∧ o = .inl none ∧ (iI t 75 = x ∧ iI t 77 = 0 ∧ iI t 78 = 0 ∧ iI t 79 = 0)) := by
  refine ct_of G (by decide) (Nat.le_of_ble_eq_true rfl) (fun k X E hRt hXt q => ?_)
  show WS k 0 [(0, .ref (A 179)), (1, .int (Int32.ofInt x))] [] _ 0 0
  have F : Fm [81, 75, 77, 78, 79, 80] [] s s := fm_rf _ _ s
  have b1 : (0 : Int) ≤ iI s 75 ∧ iI s 75 ≤ 200 := I.1 75
  have b2 : (0 : Int) ≤ iI s 77 ∧ iI s 77 ≤ 400 := I.1 77
  have b3 : (0 : Int) ≤ iI s 78 ∧ iI s 78 ≤ 8 := I.1 78
  have b4 : (0 : Int) ≤ iI s 79 ∧ iI s 79 ≤ 9 := I.1 79
  refine z_aload_n X (x := A 179) (show cdA 197 0 = some (.aload_n 0, 1, 0, 0, 0) from rfl) (List.Mem.head _) ?_
  refine z_const X (show cdA 197 1 = some (.iconst 0, 1, 0, 0, 0) from rfl) ?_
  refine s_putI X 179 (show cdA 197 2 = some (.putfield 181, 3, 12, 8, 0) from rfl) (by decide) rfl rfl (by decide) rfl rfl rfl ?_
  obtain ⟨s5, hs5⟩ : ∃ x0, x0 = uI s 81 (Int32.ofInt 0) := ⟨_, rfl⟩
  rw [← hs5]
  have Is5 : Bd s5 := by rw [hs5]; exact bd_I I (show (0 : Int) ≤ 0 ∧ 0 ≤ 1 by first | exact ⟨by decide, by decide⟩ | omega) (by decide)
  have Fs5 := fm_I (x := Int32.ofInt 0) F (show 81 ∈ _ by decide)
  rw [← hs5] at Fs5
  have vs5 : iI s5 81 = 0 := by rw [hs5]; exact iI_u (by decide)
  have ws5_75 : iI s5 75 = iI s 75 := by rw [hs5]; rfl
  have ws5_77 : iI s5 77 = iI s 77 := by rw [hs5]; rfl
  have ws5_78 : iI s5 78 = iI s 78 := by rw [hs5]; rfl
  have ws5_79 : iI s5 79 = iI s 79 := by rw [hs5]; rfl
  refine z_aload_n X (x := A 179) (show cdA 197 5 = some (.aload_n 0, 1, 0, 0, 0) from rfl) (List.Mem.head _) ?_
  refine z_load_n X (x := x) (show cdA 197 6 = some (.iload_n 1, 1, 0, 0, 0) from rfl) (List.Mem.tail _ (List.Mem.head _)) ?_
  refine s_putI X 179 (show cdA 197 7 = some (.putfield 178, 3, 12, 2, 0) from rfl) (by decide) rfl rfl (by decide) rfl rfl rfl ?_
  obtain ⟨s6, hs6⟩ : ∃ x0, x0 = uI s5 75 (Int32.ofInt x) := ⟨_, rfl⟩
  rw [← hs6]
  have Is6 : Bd s6 := by rw [hs6]; exact bd_I Is5 (show (0 : Int) ≤ x ∧ x ≤ 200 by first | exact ⟨p0.1, p0.2⟩ | omega) ⟨by first | exact oq_fa4e5087 p0.1 | omega, by first | exact oq_52af2b96 p0.2 | omega⟩
  have Fs6 := fm_I (x := Int32.ofInt x) Fs5 (show 75 ∈ _ by decide)
  rw [← hs6] at Fs6
  have vs6 : iI s6 75 = x := by rw [hs6]; exact iI_u ⟨by first | exact oq_fa4e5087 p0.1 | omega, by first | exact oq_52af2b96 p0.2 | omega⟩
  have ws6_77 : iI s6 77 = iI s5 77 := by rw [hs6]; rfl
  have ws6_78 : iI s6 78 = iI s5 78 := by rw [hs6]; rfl
  have ws6_79 : iI s6 79 = iI s5 79 := by rw [hs6]; rfl
  refine z_aload_n X (x := A 179) (show cdA 197 10 = some (.aload_n 0, 1, 0, 0, 0) from rfl) (List.Mem.head _) ?_
  refine z_const X (show cdA 197 11 = some (.iconst 0, 1, 0, 0, 0) from rfl) ?_
  refine s_putI X 179 (show cdA 197 12 = some (.putfield 184, 3, 12, 4, 0) from rfl) (by decide) rfl rfl (by decide) rfl rfl rfl ?_
  obtain ⟨s7, hs7⟩ : ∃ x0, x0 = uI s6 77 (Int32.ofInt 0) := ⟨_, rfl⟩
  rw [← hs7]
  have Is7 : Bd s7 := by rw [hs7]; exact bd_I Is6 (show (0 : Int) ≤ 0 ∧ 0 ≤ 400 by first | exact ⟨by decide, by decide⟩ | omega) (by decide)
  have Fs7 := fm_I (x := Int32.ofInt 0) Fs6 (show 77 ∈ _ by decide)
  rw [← hs7] at Fs7
  have vs7 : iI s7 77 = 0 := by rw [hs7]; exact iI_u (by decide)
  have ws7_75 : iI s7 75 = iI s6 75 := by rw [hs7]; rfl
  have ws7_78 : iI s7 78 = iI s6 78 := by rw [hs7]; rfl
  have ws7_79 : iI s7 79 = iI s6 79 := by rw [hs7]; rfl
  refine z_aload_n X (x := A 179) (show cdA 197 15 = some (.aload_n 0, 1, 0, 0, 0) from rfl) (List.Mem.head _) ?_
  refine z_const X (show cdA 197 16 = some (.iconst 0, 1, 0, 0, 0) from rfl) ?_
  refine s_putI X 179 (show cdA 197 17 = some (.putfield 213, 3, 12, 5, 0) from rfl) (by decide) rfl rfl (by decide) rfl rfl rfl ?_
  obtain ⟨s8, hs8⟩ : ∃ x0, x0 = uI s7 78 (Int32.ofInt 0) := ⟨_, rfl⟩
  rw [← hs8]
  have Is8 : Bd s8 := by rw [hs8]; exact bd_I Is7 (show (0 : Int) ≤ 0 ∧ 0 ≤ 8 by first | exact ⟨by decide, by decide⟩ | omega) (by decide)
  have Fs8 := fm_I (x := Int32.ofInt 0) Fs7 (show 78 ∈ _ by decide)
  rw [← hs8] at Fs8
  have vs8 : iI s8 78 = 0 := by rw [hs8]; exact iI_u (by decide)
  have ws8_75 : iI s8 75 = iI s7 75 := by rw [hs8]; rfl
  have ws8_77 : iI s8 77 = iI s7 77 := by rw [hs8]; rfl
  have ws8_79 : iI s8 79 = iI s7 79 := by rw [hs8]; rfl
  refine z_aload_n X (x := A 179) (show cdA 197 20 = some (.aload_n 0, 1, 0, 0, 0) from rfl) (List.Mem.head _) ?_
  refine z_const X (show cdA 197 21 = some (.iconst 0, 1, 0, 0, 0) from rfl) ?_
  refine s_putI X 179 (show cdA 197 22 = some (.putfield 191, 3, 12, 6, 0) from rfl) (by decide) rfl rfl (by decide) rfl rfl rfl ?_
  obtain ⟨s9, hs9⟩ : ∃ x0, x0 = uI s8 79 (Int32.ofInt 0) := ⟨_, rfl⟩
  rw [← hs9]
  have Is9 : Bd s9 := by rw [hs9]; exact bd_I Is8 (show (0 : Int) ≤ 0 ∧ 0 ≤ 9 by first | exact ⟨by decide, by decide⟩ | omega) (by decide)
  have Fs9 := fm_I (x := Int32.ofInt 0) Fs8 (show 79 ∈ _ by decide)
  rw [← hs9] at Fs9
  have vs9 : iI s9 79 = 0 := by rw [hs9]; exact iI_u (by decide)
  have ws9_75 : iI s9 75 = iI s8 75 := by rw [hs9]; rfl
  have ws9_77 : iI s9 77 = iI s8 77 := by rw [hs9]; rfl
  have ws9_78 : iI s9 78 = iI s8 78 := by rw [hs9]; rfl
  refine z_aload_n X (x := A 179) (show cdA 197 25 = some (.aload_n 0, 1, 0, 0, 0) from rfl) (List.Mem.head _) ?_
  refine z_const X (show cdA 197 26 = some (.iconst (-1), 1, 0, 0, 0) from rfl) ?_
  refine s_putI X 179 (show cdA 197 27 = some (.putfield 194, 3, 12, 7, 0) from rfl) (by decide) rfl rfl (by decide) rfl rfl rfl ?_
  obtain ⟨s10, hs10⟩ : ∃ x0, x0 = uI s9 80 (Int32.ofInt (-1)) := ⟨_, rfl⟩
  rw [← hs10]
  have Is10 : Bd s10 := by rw [hs10]; exact bd_I Is9 (show ((-1) : Int) ≤ (-1) ∧ (-1) ≤ 400 by first | exact ⟨by decide, by decide⟩ | omega) (by decide)
  have Fs10 := fm_I (x := Int32.ofInt (-1)) Fs9 (show 80 ∈ _ by decide)
  rw [← hs10] at Fs10
  have vs10 : iI s10 80 = (-1) := by rw [hs10]; exact iI_u (by decide)
  have ws10_75 : iI s10 75 = iI s9 75 := by rw [hs10]; rfl
  have ws10_77 : iI s10 77 = iI s9 77 := by rw [hs10]; rfl
  have ws10_78 : iI s10 78 = iI s9 78 := by rw [hs10]; rfl
  have ws10_79 : iI s10 79 = iI s9 79 := by rw [hs10]; rfl
  exact w_vret X.1 q hRt (ax_d X (show cdA 197 30 = some (.return_, 1, 0, 0, 0) from rfl)) (Nat.zero_le _) (Nat.zero_le _) ⟨_, rfl, Is10, Fs10, rfl, by first | exact ⟨oq_d5af8cc9 ws10_75 vs6 ws9_75 ws7_75 ws8_75, oq_264718cb ws10_77 ws9_77 ws8_77 vs7, oq_cd9cbf39 ws10_78 ws9_78 vs8, oq_e5e5d3d6 ws10_79 vs9⟩ | omega⟩
theorem k_fault (G : GX l s0 D tys a0 dT) (I : Bd s)  : CT l s0 D A dT 215 (rmN 215) [.ref (A 179)] s (fun o t => Bd t ∧ Fm [73] [] s t ∧ ∃ e, o = .inl (some (.int (Int32.ofInt e))) ∧ rng e ∧ (True)) := by
  refine ct_of G (by decide) (Nat.le_of_ble_eq_true rfl) (fun k X E hRt hXt q => ?_)
  show WS k 0 [(0, .ref (A 179))] [] _ 0 0
  have F : Fm [73] [] s s := fm_rf _ _ s
  refine z_aload_n X (x := A 179) (show cdA 215 0 = some (.aload_n 0, 1, 0, 0, 0) from rfl) (List.Mem.head _) ?_
  refine z_const X (show cdA 215 1 = some (.iconst 0, 1, 0, 0, 0) from rfl) ?_
  refine s_putI X 179 (show cdA 215 2 = some (.putfield 172, 3, 12, 0, 0) from rfl) (by decide) rfl rfl (by decide) rfl rfl rfl ?_
  obtain ⟨s1, hs1⟩ : ∃ x0, x0 = uI s 73 (Int32.ofInt 0) := ⟨_, rfl⟩
  rw [← hs1]
  have Is1 : Bd s1 := by rw [hs1]; exact bd_I I (show (0 : Int) ≤ 0 ∧ 0 ≤ 3 by first | exact ⟨by decide, by decide⟩ | omega) (by decide)
  have Fs1 := fm_I (x := Int32.ofInt 0) F (show 73 ∈ _ by decide)
  rw [← hs1] at Fs1
  have vs1 : iI s1 73 = 0 := by rw [hs1]; exact iI_u (by decide)
  refine z_aload_n X (x := A 179) (show cdA 215 5 = some (.aload_n 0, 1, 0, 0, 0) from rfl) (List.Mem.head _) ?_
  refine z_getI X 179 (show cdA 215 6 = some (.getfield 9, 3, 12, 3, 0) from rfl) (by decide) rfl rfl ?_
  have b2 : ((-1) : Int) ≤ iI s1 76 ∧ iI s1 76 ≤ 400 := Is1.1 76
  exact w_iret X.1 q hRt rfl (ax_d X (show cdA 215 9 = some (.ireturn, 1, 0, 0, 0) from rfl)) (Nat.zero_le _) (Nat.zero_le _) ⟨_, rfl, Is1, Fs1, (iI s1 76), rfl, (rng_to _), trivial⟩
theorem k_busy (G : GX l s0 D tys a0 dT) (I : Bd s) {x : Int} (p0 : rng x) : CT l s0 D A dT 268 (rmN 268) [.ref (A 179), .int (Int32.ofInt x)] s (fun o t => Bd t ∧ Fm [73, 96] [] s t ∧ ∃ e, o = .inl (some (.int (Int32.ofInt e))) ∧ rng e ∧ (True)) := by
  refine ct_of G (by decide) (Nat.le_of_ble_eq_true rfl) (fun k X E hRt hXt q => ?_)
  show WS k 0 [(0, .ref (A 179)), (1, .int (Int32.ofInt x))] [] _ 0 0
  have F : Fm [73, 96] [] s s := fm_rf _ _ s
  have b1 : (0 : Int) ≤ iI s 73 ∧ iI s 73 ≤ 3 := I.1 73
  refine z_aload_n X (x := A 179) (show cdA 268 0 = some (.aload_n 0, 1, 0, 0, 0) from rfl) (List.Mem.head _) ?_
  refine z_const X (show cdA 268 1 = some (.iconst 0, 1, 0, 0, 0) from rfl) ?_
  refine s_putI X 179 (show cdA 268 2 = some (.putfield 172, 3, 12, 0, 0) from rfl) (by decide) rfl rfl (by decide) rfl rfl rfl ?_
  obtain ⟨s2, hs2⟩ : ∃ x0, x0 = uI s 73 (Int32.ofInt 0) := ⟨_, rfl⟩
  rw [← hs2]
  have Is2 : Bd s2 := by rw [hs2]; exact bd_I I (show (0 : Int) ≤ 0 ∧ 0 ≤ 3 by first | exact ⟨by decide, by decide⟩ | omega) (by decide)
  have Fs2 := fm_I (x := Int32.ofInt 0) F (show 73 ∈ _ by decide)
  rw [← hs2] at Fs2
  have vs2 : iI s2 73 = 0 := by rw [hs2]; exact iI_u (by decide)
  refine z_aload_n X (x := A 179) (show cdA 268 5 = some (.aload_n 0, 1, 0, 0, 0) from rfl) (List.Mem.head _) ?_
  refine z_load_n X (x := x) (show cdA 268 6 = some (.iload_n 1, 1, 0, 0, 0) from rfl) (List.Mem.tail _ (List.Mem.head _)) ?_
  refine z_const X (show cdA 268 7 = some (.iconst 0, 1, 0, 0, 0) from rfl) ?_
  refine z_ldc X (show cdA 268 8 = some (.ldc 208, 2, 0, 0, 100000) from rfl) ?_
  refine z_callS X (rm := rmN 188) (As := [.int (Int32.ofInt x), .int (Int32.ofInt 0), .int (Int32.ofInt 100000)]) (st := [.ref (A 179)]) (show cdA 268 10 = some (.invokestatic 209, 3, 188, 1, 0) from rfl) rfl (by rw [E.1, E.2.1, E.2.2.1]; exact k_in G Is2 (by first | exact ⟨p0.1, p0.2⟩ | omega) (by first | exact ⟨by decide, by decide⟩ | omega) (by first | exact ⟨by decide, by decide⟩ | omega)) ⟨by rw [E.2.2.2]; exact (show (rmN 188).frames + 1 ≤ (rmN 268).frames by decide), by rw [E.2.2.2]; exact (show 8 + (mNL (miB 188) + 11) + (rmN 188).locals ≤ (rmN 268).locals by decide), by rw [E.2.2.2]; exact (show 0 + (rmN 188).cells ≤ (rmN 268).cells by decide), by rw [E.2.2.2]; exact (show 0 + (rmN 188).slots ≤ (rmN 268).slots by decide)⟩ (Nat.le_of_ble_eq_true rfl) (fun vv s3 hq => ?_) (fun ee s3 hq => ?_)
  rotate_left
  · obtain ⟨Is3, Fs3, e4, hv, hrs3, hps3⟩ := hq; cases hv
  obtain ⟨Is3, Fs3, e4, hv, hrs3, hps3⟩ := hq
  cases hv
  have Gs3 := fm_ts Fs2 Fs3 (by decide) (by decide)
  have ws3_73 : iI s3 73 = iI s2 73 := fm_i Fs3 (by decide)
  show WS k 13 [(0, .ref (A 179)), (1, .int (Int32.ofInt x))] [.int (Int32.ofInt e4), .ref (A 179)] (Wd A dT s3) 0 0
  have N5 : ∀ e6 : Int, (((e4 ≠ 0) ∧ e6 = 0) ∨ ((e4 = 0) ∧ e6 = 1)) → WS k 21 [(0, .ref (A 179)), (1, .int (Int32.ofInt x))] [.int (Int32.ofInt e6), .ref (A 179)] (Wd A dT s3) 0 0 := by
    intro e6 he6
    have re6 : 0 ≤ e6 ∧ e6 ≤ 1 := by omega
    refine z_const X (show cdA 268 21 = some (.iconst 1, 1, 0, 0, 0) from rfl) ?_
    refine z_callV X 179 (rm := rmN 187) (As := [.int (Int32.ofInt e6), .int (Int32.ofInt 1)]) (st := []) (show cdA 268 22 = some (.invokevirtual 229, 3, 187, 0, 0) from rfl) rfl (by decide) rfl (by rw [E.1, E.2.1, E.2.2.1]; exact k_bad G Is3 (by first | exact oq_31e518ae re6.2 re6.1 | omega) (by first | exact ⟨by decide, by decide⟩ | omega)) ⟨by rw [E.2.2.2]; exact (show (rmN 187).frames + 1 ≤ (rmN 268).frames by decide), by rw [E.2.2.2]; exact (show 8 + (mNL (miB 187) + 11) + (rmN 187).locals ≤ (rmN 268).locals by decide), by rw [E.2.2.2]; exact (show 0 + (rmN 187).cells ≤ (rmN 268).cells by decide), by rw [E.2.2.2]; exact (show 0 + (rmN 187).slots ≤ (rmN 268).slots by decide)⟩ (Nat.le_of_ble_eq_true rfl) (fun vv s7 hq => ?_) (fun ee s7 hq => ?_)
    rotate_left
    · obtain ⟨Is7, Fs7, e8, hv, hrs7, hps7⟩ := hq; cases hv
    obtain ⟨Is7, Fs7, e8, hv, hrs7, hps7⟩ := hq
    cases hv
    have Gs7 := fm_ts Gs3 Fs7 (by decide) (by decide)
    have b9 : (0 : Int) ≤ iI s7 73 ∧ iI s7 73 ≤ 3 := Is7.1 73
    show WS k 25 [(0, .ref (A 179)), (1, .int (Int32.ofInt x))] [.int (Int32.ofInt e8)] (Wd A dT s7) 0 0
    refine z_if_eq X (t := 30) (show cdA 268 25 = some (.ifCond .eq 5, 3, 0, 0, 0) from rfl) (by decide) hrs7 (fun g10 => ?_) (fun g10 => ?_)
    ·
      refine z_aload_n X (x := A 179) (show cdA 268 30 = some (.aload_n 0, 1, 0, 0, 0) from rfl) (List.Mem.head _) ?_
      refine z_getI X 179 (show cdA 268 31 = some (.getfield 89, 3, 12, 45, 0) from rfl) (by decide) rfl rfl ?_
      have b11 : (0 : Int) ≤ iI s7 96 ∧ iI s7 96 ≤ 100000 := Is7.1 96
      refine z_store_n X (lv' := [(2, .int (Int32.ofInt (iI s7 96))), (0, .ref (A 179)), (1, .int (Int32.ofInt x))]) (show cdA 268 34 = some (.istore_n 2, 1, 0, 0, 0) from rfl) (by decide) (fun _ h => h) ?_
      refine z_aload_n X (x := A 179) (show cdA 268 35 = some (.aload_n 0, 1, 0, 0, 0) from rfl) (List.Mem.tail _ (List.Mem.head _)) ?_
      refine z_load_n X (x := x) (show cdA 268 36 = some (.iload_n 1, 1, 0, 0, 0) from rfl) (List.Mem.tail _ (List.Mem.tail _ (List.Mem.head _))) ?_
      refine s_putI X 179 (show cdA 268 37 = some (.putfield 89, 3, 12, 45, 0) from rfl) (by decide) rfl rfl (by decide) rfl rfl rfl ?_
      obtain ⟨s12, hs12⟩ : ∃ x0, x0 = uI s7 96 (Int32.ofInt x) := ⟨_, rfl⟩
      rw [← hs12]
      have Is12 : Bd s12 := by rw [hs12]; exact bd_I Is7 (show (0 : Int) ≤ x ∧ x ≤ 100000 by first | exact ⟨oq_0d446a69 g10 hps7.2.1 re6.2 he6 hps3, oq_b2047f00 g10 hps7.2.1 re6.2 he6 hps3⟩ | omega) ⟨by first | exact p0.1 | omega, by first | exact p0.2 | omega⟩
      have Fs12 := fm_I (x := Int32.ofInt x) Gs7 (show 96 ∈ _ by decide)
      rw [← hs12] at Fs12
      have vs12 : iI s12 96 = x := by rw [hs12]; exact iI_u ⟨by first | exact p0.1 | omega, by first | exact p0.2 | omega⟩
      have ws12_73 : iI s12 73 = iI s7 73 := by rw [hs12]; rfl
      refine z_load_n X (x := (iI s7 96)) (show cdA 268 40 = some (.iload_n 2, 1, 0, 0, 0) from rfl) (List.Mem.head _) ?_
      exact w_iret X.1 q hRt rfl (ax_d X (show cdA 268 41 = some (.ireturn, 1, 0, 0, 0) from rfl)) (Nat.zero_le _) (Nat.zero_le _) ⟨_, rfl, Is12, Fs12, (iI s7 96), rfl, (rng_to _), trivial⟩
    ·
      refine z_const X (show cdA 268 28 = some (.iconst 0, 1, 0, 0, 0) from rfl) ?_
      exact w_iret X.1 q hRt rfl (ax_d X (show cdA 268 29 = some (.ireturn, 1, 0, 0, 0) from rfl)) (Nat.zero_le _) (Nat.zero_le _) ⟨_, rfl, Is7, Gs7, 0, rfl, (by decide), trivial⟩
  refine z_if_ne X (t := 20) (show cdA 268 13 = some (.ifCond .ne 7, 3, 1, 0, 0) from rfl) (by decide) hrs3 (fun g13 => ?_) (fun g13 => ?_)
  ·
    refine z_const X (show cdA 268 20 = some (.iconst 0, 1, 0, 0, 0) from rfl) ?_
    exact N5 _ (Or.inl ⟨g13, rfl⟩)
  ·
    refine z_const X (show cdA 268 16 = some (.iconst 1, 1, 0, 0, 0) from rfl) ?_
    refine z_goto X (t := 21) (show cdA 268 17 = some (.goto 4, 3, 0, 0, 0) from rfl) (by decide) ?_
    exact N5 _ (Or.inr (⟨g13, rfl⟩))
theorem k_length (G : GX l s0 D tys a0 dT) (I : Bd s) {x : Int} (p0 : rng x) : CT l s0 D A dT 244 (rmN 244) [.ref (A 179), .int (Int32.ofInt x)] s (fun o t => Bd t ∧ Fm [73, 95] [] s t ∧ ∃ e, o = .inl (some (.int (Int32.ofInt e))) ∧ rng e ∧ (True)) := by
  refine ct_of G (by decide) (Nat.le_of_ble_eq_true rfl) (fun k X E hRt hXt q => ?_)
  show WS k 0 [(0, .ref (A 179)), (1, .int (Int32.ofInt x))] [] _ 0 0
  have F : Fm [73, 95] [] s s := fm_rf _ _ s
  have b1 : (0 : Int) ≤ iI s 73 ∧ iI s 73 ≤ 3 := I.1 73
  refine z_aload_n X (x := A 179) (show cdA 244 0 = some (.aload_n 0, 1, 0, 0, 0) from rfl) (List.Mem.head _) ?_
  refine z_const X (show cdA 244 1 = some (.iconst 0, 1, 0, 0, 0) from rfl) ?_
  refine s_putI X 179 (show cdA 244 2 = some (.putfield 172, 3, 12, 0, 0) from rfl) (by decide) rfl rfl (by decide) rfl rfl rfl ?_
  obtain ⟨s2, hs2⟩ : ∃ x0, x0 = uI s 73 (Int32.ofInt 0) := ⟨_, rfl⟩
  rw [← hs2]
  have Is2 : Bd s2 := by rw [hs2]; exact bd_I I (show (0 : Int) ≤ 0 ∧ 0 ≤ 3 by first | exact ⟨by decide, by decide⟩ | omega) (by decide)
  have Fs2 := fm_I (x := Int32.ofInt 0) F (show 73 ∈ _ by decide)
  rw [← hs2] at Fs2
  have vs2 : iI s2 73 = 0 := by rw [hs2]; exact iI_u (by decide)
  refine z_aload_n X (x := A 179) (show cdA 244 5 = some (.aload_n 0, 1, 0, 0, 0) from rfl) (List.Mem.head _) ?_
  refine z_load_n X (x := x) (show cdA 244 6 = some (.iload_n 1, 1, 0, 0, 0) from rfl) (List.Mem.tail _ (List.Mem.head _)) ?_
  refine z_const X (show cdA 244 7 = some (.iconst 0, 1, 0, 0, 0) from rfl) ?_
  refine z_bipush X (show cdA 244 8 = some (.bipush 9, 2, 0, 0, 9) from rfl) ?_
  refine z_callS X (rm := rmN 188) (As := [.int (Int32.ofInt x), .int (Int32.ofInt 0), .int (Int32.ofInt 9)]) (st := [.ref (A 179)]) (show cdA 244 10 = some (.invokestatic 209, 3, 188, 1, 0) from rfl) rfl (by rw [E.1, E.2.1, E.2.2.1]; exact k_in G Is2 (by first | exact ⟨p0.1, p0.2⟩ | omega) (by first | exact ⟨by decide, by decide⟩ | omega) (by first | exact ⟨by decide, by decide⟩ | omega)) ⟨by rw [E.2.2.2]; exact (show (rmN 188).frames + 1 ≤ (rmN 244).frames by decide), by rw [E.2.2.2]; exact (show 8 + (mNL (miB 188) + 11) + (rmN 188).locals ≤ (rmN 244).locals by decide), by rw [E.2.2.2]; exact (show 0 + (rmN 188).cells ≤ (rmN 244).cells by decide), by rw [E.2.2.2]; exact (show 0 + (rmN 188).slots ≤ (rmN 244).slots by decide)⟩ (Nat.le_of_ble_eq_true rfl) (fun vv s3 hq => ?_) (fun ee s3 hq => ?_)
  rotate_left
  · obtain ⟨Is3, Fs3, e4, hv, hrs3, hps3⟩ := hq; cases hv
  obtain ⟨Is3, Fs3, e4, hv, hrs3, hps3⟩ := hq
  cases hv
  have Gs3 := fm_ts Fs2 Fs3 (by decide) (by decide)
  have ws3_73 : iI s3 73 = iI s2 73 := fm_i Fs3 (by decide)
  show WS k 13 [(0, .ref (A 179)), (1, .int (Int32.ofInt x))] [.int (Int32.ofInt e4), .ref (A 179)] (Wd A dT s3) 0 0
  have N5 : ∀ e6 : Int, (((e4 ≠ 0) ∧ e6 = 0) ∨ ((e4 = 0) ∧ e6 = 1)) → WS k 21 [(0, .ref (A 179)), (1, .int (Int32.ofInt x))] [.int (Int32.ofInt e6), .ref (A 179)] (Wd A dT s3) 0 0 := by
    intro e6 he6
    have re6 : 0 ≤ e6 ∧ e6 ≤ 1 := by omega
    refine z_const X (show cdA 244 21 = some (.iconst 1, 1, 0, 0, 0) from rfl) ?_
    refine z_callV X 179 (rm := rmN 187) (As := [.int (Int32.ofInt e6), .int (Int32.ofInt 1)]) (st := []) (show cdA 244 22 = some (.invokevirtual 229, 3, 187, 0, 0) from rfl) rfl (by decide) rfl (by rw [E.1, E.2.1, E.2.2.1]; exact k_bad G Is3 (by first | exact oq_31e518ae re6.2 re6.1 | omega) (by first | exact ⟨by decide, by decide⟩ | omega)) ⟨by rw [E.2.2.2]; exact (show (rmN 187).frames + 1 ≤ (rmN 244).frames by decide), by rw [E.2.2.2]; exact (show 8 + (mNL (miB 187) + 11) + (rmN 187).locals ≤ (rmN 244).locals by decide), by rw [E.2.2.2]; exact (show 0 + (rmN 187).cells ≤ (rmN 244).cells by decide), by rw [E.2.2.2]; exact (show 0 + (rmN 187).slots ≤ (rmN 244).slots by decide)⟩ (Nat.le_of_ble_eq_true rfl) (fun vv s7 hq => ?_) (fun ee s7 hq => ?_)
    rotate_left
    · obtain ⟨Is7, Fs7, e8, hv, hrs7, hps7⟩ := hq; cases hv
    obtain ⟨Is7, Fs7, e8, hv, hrs7, hps7⟩ := hq
    cases hv
    have Gs7 := fm_ts Gs3 Fs7 (by decide) (by decide)
    have b9 : (0 : Int) ≤ iI s7 73 ∧ iI s7 73 ≤ 3 := Is7.1 73
    show WS k 25 [(0, .ref (A 179)), (1, .int (Int32.ofInt x))] [.int (Int32.ofInt e8)] (Wd A dT s7) 0 0
    refine z_if_eq X (t := 30) (show cdA 244 25 = some (.ifCond .eq 5, 3, 0, 0, 0) from rfl) (by decide) hrs7 (fun g10 => ?_) (fun g10 => ?_)
    ·
      refine z_aload_n X (x := A 179) (show cdA 244 30 = some (.aload_n 0, 1, 0, 0, 0) from rfl) (List.Mem.head _) ?_
      refine z_getI X 179 (show cdA 244 31 = some (.getfield 345, 3, 12, 44, 0) from rfl) (by decide) rfl rfl ?_
      have b11 : (0 : Int) ≤ iI s7 95 ∧ iI s7 95 ≤ 9 := Is7.1 95
      refine z_store_n X (lv' := [(2, .int (Int32.ofInt (iI s7 95))), (0, .ref (A 179)), (1, .int (Int32.ofInt x))]) (show cdA 244 34 = some (.istore_n 2, 1, 0, 0, 0) from rfl) (by decide) (fun _ h => h) ?_
      refine z_aload_n X (x := A 179) (show cdA 244 35 = some (.aload_n 0, 1, 0, 0, 0) from rfl) (List.Mem.tail _ (List.Mem.head _)) ?_
      refine z_load_n X (x := x) (show cdA 244 36 = some (.iload_n 1, 1, 0, 0, 0) from rfl) (List.Mem.tail _ (List.Mem.tail _ (List.Mem.head _))) ?_
      refine s_putI X 179 (show cdA 244 37 = some (.putfield 345, 3, 12, 44, 0) from rfl) (by decide) rfl rfl (by decide) rfl rfl rfl ?_
      obtain ⟨s12, hs12⟩ : ∃ x0, x0 = uI s7 95 (Int32.ofInt x) := ⟨_, rfl⟩
      rw [← hs12]
      have Is12 : Bd s12 := by rw [hs12]; exact bd_I Is7 (show (0 : Int) ≤ x ∧ x ≤ 9 by first | exact ⟨oq_63ad3ecb g10 hps7.2.1 re6.2 he6 hps3, oq_98d377b2 g10 hps7.2.1 re6.2 he6 hps3⟩ | omega) ⟨by first | exact p0.1 | omega, by first | exact p0.2 | omega⟩
      have Fs12 := fm_I (x := Int32.ofInt x) Gs7 (show 95 ∈ _ by decide)
      rw [← hs12] at Fs12
      have vs12 : iI s12 95 = x := by rw [hs12]; exact iI_u ⟨by first | exact p0.1 | omega, by first | exact p0.2 | omega⟩
      have ws12_73 : iI s12 73 = iI s7 73 := by rw [hs12]; rfl
      refine z_load_n X (x := (iI s7 95)) (show cdA 244 40 = some (.iload_n 2, 1, 0, 0, 0) from rfl) (List.Mem.head _) ?_
      exact w_iret X.1 q hRt rfl (ax_d X (show cdA 244 41 = some (.ireturn, 1, 0, 0, 0) from rfl)) (Nat.zero_le _) (Nat.zero_le _) ⟨_, rfl, Is12, Fs12, (iI s7 95), rfl, (rng_to _), trivial⟩
    ·
      refine z_const X (show cdA 244 28 = some (.iconst 0, 1, 0, 0, 0) from rfl) ?_
      exact w_iret X.1 q hRt rfl (ax_d X (show cdA 244 29 = some (.ireturn, 1, 0, 0, 0) from rfl)) (Nat.zero_le _) (Nat.zero_le _) ⟨_, rfl, Is7, Gs7, 0, rfl, (by decide), trivial⟩
  refine z_if_ne X (t := 20) (show cdA 244 13 = some (.ifCond .ne 7, 3, 1, 0, 0) from rfl) (by decide) hrs3 (fun g13 => ?_) (fun g13 => ?_)
  ·
    refine z_const X (show cdA 244 20 = some (.iconst 0, 1, 0, 0, 0) from rfl) ?_
    exact N5 _ (Or.inl ⟨g13, rfl⟩)
  ·
    refine z_const X (show cdA 244 16 = some (.iconst 1, 1, 0, 0, 0) from rfl) ?_
    refine z_goto X (t := 21) (show cdA 244 17 = some (.goto 4, 3, 0, 0, 0) from rfl) (by decide) ?_
    exact N5 _ (Or.inr (⟨g13, rfl⟩))
theorem k_clear (G : GX l s0 D tys a0 dT) (I : Bd s)  : CT l s0 D A dT 259 (rmN 259) [.ref (A 179)] s (fun o t => Bd t ∧ Fm [73, 97] [] s t ∧ ∃ e, o = .inl (some (.int (Int32.ofInt e))) ∧ rng e ∧ (True)) := by
  refine ct_of G (by decide) (Nat.le_of_ble_eq_true rfl) (fun k X E hRt hXt q => ?_)
  show WS k 0 [(0, .ref (A 179))] [] _ 0 0
  have F : Fm [73, 97] [] s s := fm_rf _ _ s
  have b1 : (0 : Int) ≤ iI s 73 ∧ iI s 73 ≤ 3 := I.1 73
  refine z_aload_n X (x := A 179) (show cdA 259 0 = some (.aload_n 0, 1, 0, 0, 0) from rfl) (List.Mem.head _) ?_
  refine z_const X (show cdA 259 1 = some (.iconst 0, 1, 0, 0, 0) from rfl) ?_
  refine s_putI X 179 (show cdA 259 2 = some (.putfield 172, 3, 12, 0, 0) from rfl) (by decide) rfl rfl (by decide) rfl rfl rfl ?_
  obtain ⟨s2, hs2⟩ : ∃ x0, x0 = uI s 73 (Int32.ofInt 0) := ⟨_, rfl⟩
  rw [← hs2]
  have Is2 : Bd s2 := by rw [hs2]; exact bd_I I (show (0 : Int) ≤ 0 ∧ 0 ≤ 3 by first | exact ⟨by decide, by decide⟩ | omega) (by decide)
  have Fs2 := fm_I (x := Int32.ofInt 0) F (show 73 ∈ _ by decide)
  rw [← hs2] at Fs2
  have vs2 : iI s2 73 = 0 := by rw [hs2]; exact iI_u (by decide)
  refine z_aload_n X (x := A 179) (show cdA 259 5 = some (.aload_n 0, 1, 0, 0, 0) from rfl) (List.Mem.head _) ?_
  refine z_getI X 179 (show cdA 259 6 = some (.getfield 384, 3, 12, 46, 0) from rfl) (by decide) rfl rfl ?_
  have b3 : (0 : Int) ≤ iI s2 97 ∧ iI s2 97 ≤ 8 := Is2.1 97
  refine z_store_n X (lv' := [(1, .int (Int32.ofInt (iI s2 97))), (0, .ref (A 179))]) (show cdA 259 9 = some (.istore_n 1, 1, 0, 0, 0) from rfl) (by decide) (fun _ h => h) ?_
  refine z_aload_n X (x := A 179) (show cdA 259 10 = some (.aload_n 0, 1, 0, 0, 0) from rfl) (List.Mem.tail _ (List.Mem.head _)) ?_
  refine z_const X (show cdA 259 11 = some (.iconst 0, 1, 0, 0, 0) from rfl) ?_
  refine s_putI X 179 (show cdA 259 12 = some (.putfield 384, 3, 12, 46, 0) from rfl) (by decide) rfl rfl (by decide) rfl rfl rfl ?_
  obtain ⟨s4, hs4⟩ : ∃ x0, x0 = uI s2 97 (Int32.ofInt 0) := ⟨_, rfl⟩
  rw [← hs4]
  have Is4 : Bd s4 := by rw [hs4]; exact bd_I Is2 (show (0 : Int) ≤ 0 ∧ 0 ≤ 8 by first | exact ⟨by decide, by decide⟩ | omega) (by decide)
  have Fs4 := fm_I (x := Int32.ofInt 0) Fs2 (show 97 ∈ _ by decide)
  rw [← hs4] at Fs4
  have vs4 : iI s4 97 = 0 := by rw [hs4]; exact iI_u (by decide)
  have ws4_73 : iI s4 73 = iI s2 73 := by rw [hs4]; rfl
  refine z_load_n X (x := (iI s2 97)) (show cdA 259 15 = some (.iload_n 1, 1, 0, 0, 0) from rfl) (List.Mem.head _) ?_
  exact w_iret X.1 q hRt rfl (ax_d X (show cdA 259 16 = some (.ireturn, 1, 0, 0, 0) from rfl)) (Nat.zero_le _) (Nat.zero_le _) ⟨_, rfl, Is4, Fs4, (iI s2 97), rfl, (rng_to _), trivial⟩
theorem k_assign (G : GX l s0 D tys a0 dT) (I : Bd s) {x y : Int} (p0 : rng x) (p1 : rng y) : CT l s0 D A dT 234 (rmN 234) [.ref (A 179), .int (Int32.ofInt x), .int (Int32.ofInt y)] s (fun o t => Bd t ∧ Fm [73] [228] s t ∧ ∃ e, o = .inl (some (.int (Int32.ofInt e))) ∧ rng e ∧ (True)) := by
  refine ct_of G (by decide) (Nat.le_of_ble_eq_true rfl) (fun k X E hRt hXt q => ?_)
  show WS k 0 [(0, .ref (A 179)), (1, .int (Int32.ofInt x)), (2, .int (Int32.ofInt y))] [] _ 0 0
  have F : Fm [73] [228] s s := fm_rf _ _ s
  have b1 : (0 : Int) ≤ iI s 73 ∧ iI s 73 ≤ 3 := I.1 73
  refine z_aload_n X (x := A 179) (show cdA 234 0 = some (.aload_n 0, 1, 0, 0, 0) from rfl) (List.Mem.head _) ?_
  refine z_const X (show cdA 234 1 = some (.iconst 0, 1, 0, 0, 0) from rfl) ?_
  refine s_putI X 179 (show cdA 234 2 = some (.putfield 172, 3, 12, 0, 0) from rfl) (by decide) rfl rfl (by decide) rfl rfl rfl ?_
  obtain ⟨s2, hs2⟩ : ∃ x0, x0 = uI s 73 (Int32.ofInt 0) := ⟨_, rfl⟩
  rw [← hs2]
  have Is2 : Bd s2 := by rw [hs2]; exact bd_I I (show (0 : Int) ≤ 0 ∧ 0 ≤ 3 by first | exact ⟨by decide, by decide⟩ | omega) (by decide)
  have Fs2 := fm_I (x := Int32.ofInt 0) F (show 73 ∈ _ by decide)
  rw [← hs2] at Fs2
  have vs2 : iI s2 73 = 0 := by rw [hs2]; exact iI_u (by decide)
  refine z_aload_n X (x := A 179) (show cdA 234 5 = some (.aload_n 0, 1, 0, 0, 0) from rfl) (List.Mem.head _) ?_
  refine z_load_n X (x := x) (show cdA 234 6 = some (.iload_n 1, 1, 0, 0, 0) from rfl) (List.Mem.tail _ (List.Mem.head _)) ?_
  refine z_const X (show cdA 234 7 = some (.iconst 0, 1, 0, 0, 0) from rfl) ?_
  refine z_bipush X (show cdA 234 8 = some (.bipush 127, 2, 0, 0, 127) from rfl) ?_
  refine z_callS X (rm := rmN 188) (As := [.int (Int32.ofInt x), .int (Int32.ofInt 0), .int (Int32.ofInt 127)]) (st := [.ref (A 179)]) (show cdA 234 10 = some (.invokestatic 209, 3, 188, 1, 0) from rfl) rfl (by rw [E.1, E.2.1, E.2.2.1]; exact k_in G Is2 (by first | exact ⟨p0.1, p0.2⟩ | omega) (by first | exact ⟨by decide, by decide⟩ | omega) (by first | exact ⟨by decide, by decide⟩ | omega)) ⟨by rw [E.2.2.2]; exact (show (rmN 188).frames + 1 ≤ (rmN 234).frames by decide), by rw [E.2.2.2]; exact (show 8 + (mNL (miB 188) + 11) + (rmN 188).locals ≤ (rmN 234).locals by decide), by rw [E.2.2.2]; exact (show 0 + (rmN 188).cells ≤ (rmN 234).cells by decide), by rw [E.2.2.2]; exact (show 0 + (rmN 188).slots ≤ (rmN 234).slots by decide)⟩ (Nat.le_of_ble_eq_true rfl) (fun vv s3 hq => ?_) (fun ee s3 hq => ?_)
  rotate_left
  · obtain ⟨Is3, Fs3, e4, hv, hrs3, hps3⟩ := hq; cases hv
  obtain ⟨Is3, Fs3, e4, hv, hrs3, hps3⟩ := hq
  cases hv
  have Gs3 := fm_ts Fs2 Fs3 (by decide) (by decide)
  have ws3_73 : iI s3 73 = iI s2 73 := fm_i Fs3 (by decide)
  show WS k 13 [(0, .ref (A 179)), (1, .int (Int32.ofInt x)), (2, .int (Int32.ofInt y))] [.int (Int32.ofInt e4), .ref (A 179)] (Wd A dT s3) 0 0
  have N5 : ∀ e6 : Int, (((e4 ≠ 0) ∧ e6 = 0) ∨ ((e4 = 0) ∧ e6 = 1)) → WS k 21 [(0, .ref (A 179)), (1, .int (Int32.ofInt x)), (2, .int (Int32.ofInt y))] [.int (Int32.ofInt e6), .ref (A 179)] (Wd A dT s3) 0 0 := by
    intro e6 he6
    have re6 : 0 ≤ e6 ∧ e6 ≤ 1 := by omega
    refine z_const X (show cdA 234 21 = some (.iconst 1, 1, 0, 0, 0) from rfl) ?_
    refine z_callV X 179 (rm := rmN 187) (As := [.int (Int32.ofInt e6), .int (Int32.ofInt 1)]) (st := []) (show cdA 234 22 = some (.invokevirtual 229, 3, 187, 0, 0) from rfl) rfl (by decide) rfl (by rw [E.1, E.2.1, E.2.2.1]; exact k_bad G Is3 (by first | exact oq_31e518ae re6.2 re6.1 | omega) (by first | exact ⟨by decide, by decide⟩ | omega)) ⟨by rw [E.2.2.2]; exact (show (rmN 187).frames + 1 ≤ (rmN 234).frames by decide), by rw [E.2.2.2]; exact (show 8 + (mNL (miB 187) + 11) + (rmN 187).locals ≤ (rmN 234).locals by decide), by rw [E.2.2.2]; exact (show 0 + (rmN 187).cells ≤ (rmN 234).cells by decide), by rw [E.2.2.2]; exact (show 0 + (rmN 187).slots ≤ (rmN 234).slots by decide)⟩ (Nat.le_of_ble_eq_true rfl) (fun vv s7 hq => ?_) (fun ee s7 hq => ?_)
    rotate_left
    · obtain ⟨Is7, Fs7, e8, hv, hrs7, hps7⟩ := hq; cases hv
    obtain ⟨Is7, Fs7, e8, hv, hrs7, hps7⟩ := hq
    cases hv
    have Gs7 := fm_ts Gs3 Fs7 (by decide) (by decide)
    have b9 : (0 : Int) ≤ iI s7 73 ∧ iI s7 73 ≤ 3 := Is7.1 73
    show WS k 25 [(0, .ref (A 179)), (1, .int (Int32.ofInt x)), (2, .int (Int32.ofInt y))] [.int (Int32.ofInt e8)] (Wd A dT s7) 0 0
    refine z_if_ne X (t := 51) (show cdA 234 25 = some (.ifCond .ne 26, 3, 1, 0, 0) from rfl) (by decide) hrs7 (fun g10 => ?_) (fun g10 => ?_)
    ·
      refine z_const X (show cdA 234 51 = some (.iconst 0, 1, 0, 0, 0) from rfl) ?_
      exact w_iret X.1 q hRt rfl (ax_d X (show cdA 234 52 = some (.ireturn, 1, 0, 0, 0) from rfl)) (Nat.zero_le _) (Nat.zero_le _) ⟨_, rfl, Is7, Gs7, 0, rfl, (by decide), trivial⟩
    ·
      refine z_aload_n X (x := A 179) (show cdA 234 28 = some (.aload_n 0, 1, 0, 0, 0) from rfl) (List.Mem.head _) ?_
      refine z_load_n X (x := y) (show cdA 234 29 = some (.iload_n 2, 1, 0, 0, 0) from rfl) (List.Mem.tail _ (List.Mem.tail _ (List.Mem.head _))) ?_
      refine z_const X (show cdA 234 30 = some (.iconst (-1), 1, 0, 0, 0) from rfl) ?_
      refine z_bipush X (show cdA 234 31 = some (.bipush 7, 2, 0, 0, 7) from rfl) ?_
      refine z_callS X (rm := rmN 188) (As := [.int (Int32.ofInt y), .int (Int32.ofInt (-1)), .int (Int32.ofInt 7)]) (st := [.ref (A 179)]) (show cdA 234 33 = some (.invokestatic 209, 3, 188, 1, 0) from rfl) rfl (by rw [E.1, E.2.1, E.2.2.1]; exact k_in G Is7 (by first | exact ⟨p1.1, p1.2⟩ | omega) (by first | exact ⟨by decide, by decide⟩ | omega) (by first | exact ⟨by decide, by decide⟩ | omega)) ⟨by rw [E.2.2.2]; exact (show (rmN 188).frames + 1 ≤ (rmN 234).frames by decide), by rw [E.2.2.2]; exact (show 8 + (mNL (miB 188) + 11) + (rmN 188).locals ≤ (rmN 234).locals by decide), by rw [E.2.2.2]; exact (show 0 + (rmN 188).cells ≤ (rmN 234).cells by decide), by rw [E.2.2.2]; exact (show 0 + (rmN 188).slots ≤ (rmN 234).slots by decide)⟩ (Nat.le_of_ble_eq_true rfl) (fun vv s11 hq => ?_) (fun ee s11 hq => ?_)
      rotate_left
      · obtain ⟨Is11, Fs11, e12, hv, hrs11, hps11⟩ := hq; cases hv
      obtain ⟨Is11, Fs11, e12, hv, hrs11, hps11⟩ := hq
      cases hv
      have Gs11 := fm_ts Gs7 Fs11 (by decide) (by decide)
      have ws11_73 : iI s11 73 = iI s7 73 := fm_i Fs11 (by decide)
      show WS k 36 [(0, .ref (A 179)), (1, .int (Int32.ofInt x)), (2, .int (Int32.ofInt y))] [.int (Int32.ofInt e12), .ref (A 179)] (Wd A dT s11) 0 0
      have N13 : ∀ e14 : Int, (((e12 ≠ 0) ∧ e14 = 0) ∨ ((e12 = 0) ∧ e14 = 1)) → WS k 44 [(0, .ref (A 179)), (1, .int (Int32.ofInt x)), (2, .int (Int32.ofInt y))] [.int (Int32.ofInt e14), .ref (A 179)] (Wd A dT s11) 0 0 := by
        intro e14 he14
        have re14 : 0 ≤ e14 ∧ e14 ≤ 1 := by omega
        refine z_const X (show cdA 234 44 = some (.iconst 2, 1, 0, 0, 0) from rfl) ?_
        refine z_callV X 179 (rm := rmN 187) (As := [.int (Int32.ofInt e14), .int (Int32.ofInt 2)]) (st := []) (show cdA 234 45 = some (.invokevirtual 229, 3, 187, 0, 0) from rfl) rfl (by decide) rfl (by rw [E.1, E.2.1, E.2.2.1]; exact k_bad G Is11 (by first | exact oq_31e518ae re14.2 re14.1 | omega) (by first | exact ⟨by decide, by decide⟩ | omega)) ⟨by rw [E.2.2.2]; exact (show (rmN 187).frames + 1 ≤ (rmN 234).frames by decide), by rw [E.2.2.2]; exact (show 8 + (mNL (miB 187) + 11) + (rmN 187).locals ≤ (rmN 234).locals by decide), by rw [E.2.2.2]; exact (show 0 + (rmN 187).cells ≤ (rmN 234).cells by decide), by rw [E.2.2.2]; exact (show 0 + (rmN 187).slots ≤ (rmN 234).slots by decide)⟩ (Nat.le_of_ble_eq_true rfl) (fun vv s15 hq => ?_) (fun ee s15 hq => ?_)
        rotate_left
        · obtain ⟨Is15, Fs15, e16, hv, hrs15, hps15⟩ := hq; cases hv
        obtain ⟨Is15, Fs15, e16, hv, hrs15, hps15⟩ := hq
        cases hv
        have Gs15 := fm_ts Gs11 Fs15 (by decide) (by decide)
        have b17 : (0 : Int) ≤ iI s15 73 ∧ iI s15 73 ≤ 3 := Is15.1 73
        show WS k 48 [(0, .ref (A 179)), (1, .int (Int32.ofInt x)), (2, .int (Int32.ofInt y))] [.int (Int32.ofInt e16)] (Wd A dT s15) 0 0
        refine z_if_eq X (t := 53) (show cdA 234 48 = some (.ifCond .eq 5, 3, 0, 0, 0) from rfl) (by decide) hrs15 (fun g18 => ?_) (fun g18 => ?_)
        ·
          refine z_aload_n X (x := A 179) (show cdA 234 53 = some (.aload_n 0, 1, 0, 0, 0) from rfl) (List.Mem.head _) ?_
          refine s_getR X 179 (show cdA 234 54 = some (.getfield 70, 3, 12, 35, 0) from rfl) (by decide) rfl rfl ?_
          refine z_load_n X (x := x) (show cdA 234 57 = some (.iload_n 1, 1, 0, 0, 0) from rfl) (List.Mem.tail _ (List.Mem.head _)) ?_
          refine z_ald X 256 (show cdA 234 58 = some (.iaload, 1, 0, 0, 0) from rfl) (by decide) rfl (by first | exact oq_d2f74293 g10 hps7.2.1 re6.2 he6 hps3 | omega) (show x < 128 by first | exact oq_bb641c4c g10 hps7.2.1 re6.2 he6 hps3 | omega) (by decide) ?_
          have b19 : ((-1) : Int) ≤ iC s15 228 (x).toNat ∧ iC s15 228 (x).toNat ≤ 7 := Is15.2 228 _ (show (x).toNat < 128 by first | exact oq_48be0e30 g10 hps7.2.1 re6.2 he6 hps3 | omega)
          refine z_store_n X (lv' := [(3, .int (Int32.ofInt (iC s15 228 (x).toNat))), (0, .ref (A 179)), (1, .int (Int32.ofInt x)), (2, .int (Int32.ofInt y))]) (show cdA 234 59 = some (.istore_n 3, 1, 0, 0, 0) from rfl) (by decide) (fun _ h => h) ?_
          refine z_aload_n X (x := A 179) (show cdA 234 60 = some (.aload_n 0, 1, 0, 0, 0) from rfl) (List.Mem.tail _ (List.Mem.head _)) ?_
          refine s_getR X 179 (show cdA 234 61 = some (.getfield 70, 3, 12, 35, 0) from rfl) (by decide) rfl rfl ?_
          refine z_load_n X (x := x) (show cdA 234 64 = some (.iload_n 1, 1, 0, 0, 0) from rfl) (List.Mem.tail _ (List.Mem.tail _ (List.Mem.head _))) ?_
          refine z_load_n X (x := y) (show cdA 234 65 = some (.iload_n 2, 1, 0, 0, 0) from rfl) (List.Mem.tail _ (List.Mem.tail _ (List.Mem.tail _ (List.Mem.head _)))) ?_
          refine z_ast X 256 (show cdA 234 66 = some (.iastore, 1, 0, 0, 0) from rfl) (by decide) rfl (by first | exact oq_d2f74293 g10 hps7.2.1 re6.2 he6 hps3 | omega) (show x < 128 by first | exact oq_bb641c4c g10 hps7.2.1 re6.2 he6 hps3 | omega) (by decide) ?_
          obtain ⟨s20, hs20⟩ : ∃ x0, x0 = uC s15 228 (x).toNat (Int32.ofInt y) := ⟨_, rfl⟩
          rw [← hs20]
          have Is20 : Bd s20 := by rw [hs20]; exact bd_C Is15 (show ((-1) : Int) ≤ y ∧ y ≤ 7 by first | exact ⟨oq_795abf63 g18 hps15.2.1 re14.2 he14 hps11, oq_9178a95c g18 hps15.2.1 re14.2 he14 hps11⟩ | omega) ⟨by first | exact p1.1 | omega, by first | exact p1.2 | omega⟩
          have Fs20 := fm_C (i := (x).toNat) (x := Int32.ofInt y) Gs15 (show 228 ∈ _ by decide)
          rw [← hs20] at Fs20
          have ws20_73 : iI s20 73 = iI s15 73 := by rw [hs20]; rfl
          refine z_load_n X (x := (iC s15 228 (x).toNat)) (show cdA 234 67 = some (.iload_n 3, 1, 0, 0, 0) from rfl) (List.Mem.head _) ?_
          exact w_iret X.1 q hRt rfl (ax_d X (show cdA 234 68 = some (.ireturn, 1, 0, 0, 0) from rfl)) (Nat.zero_le _) (Nat.zero_le _) ⟨_, rfl, Is20, Fs20, (iC s15 228 (x).toNat), rfl, (rng_to _), trivial⟩
        ·
          refine z_const X (show cdA 234 51 = some (.iconst 0, 1, 0, 0, 0) from rfl) ?_
          exact w_iret X.1 q hRt rfl (ax_d X (show cdA 234 52 = some (.ireturn, 1, 0, 0, 0) from rfl)) (Nat.zero_le _) (Nat.zero_le _) ⟨_, rfl, Is15, Gs15, 0, rfl, (by decide), trivial⟩
      refine z_if_ne X (t := 43) (show cdA 234 36 = some (.ifCond .ne 7, 3, 1, 0, 0) from rfl) (by decide) hrs11 (fun g21 => ?_) (fun g21 => ?_)
      ·
        refine z_const X (show cdA 234 43 = some (.iconst 0, 1, 0, 0, 0) from rfl) ?_
        exact N13 _ (Or.inl ⟨g21, rfl⟩)
      ·
        refine z_const X (show cdA 234 39 = some (.iconst 1, 1, 0, 0, 0) from rfl) ?_
        refine z_goto X (t := 44) (show cdA 234 40 = some (.goto 4, 3, 0, 0, 0) from rfl) (by decide) ?_
        exact N13 _ (Or.inr (⟨g21, rfl⟩))
  refine z_if_ne X (t := 20) (show cdA 234 13 = some (.ifCond .ne 7, 3, 1, 0, 0) from rfl) (by decide) hrs3 (fun g22 => ?_) (fun g22 => ?_)
  ·
    refine z_const X (show cdA 234 20 = some (.iconst 0, 1, 0, 0, 0) from rfl) ?_
    exact N5 _ (Or.inl ⟨g22, rfl⟩)
  ·
    refine z_const X (show cdA 234 16 = some (.iconst 1, 1, 0, 0, 0) from rfl) ?_
    refine z_goto X (t := 21) (show cdA 234 17 = some (.goto 4, 3, 0, 0, 0) from rfl) (by decide) ?_
    exact N5 _ (Or.inr (⟨g22, rfl⟩))
theorem k_limit (G : GX l s0 D tys a0 dT) (I : Bd s) {x y : Int} (p0 : rng x) (p1 : rng y) : CT l s0 D A dT 236 (rmN 236) [.ref (A 179), .int (Int32.ofInt x), .int (Int32.ofInt y)] s (fun o t => Bd t ∧ Fm [73] [229] s t ∧ ∃ e, o = .inl (some (.int (Int32.ofInt e))) ∧ rng e ∧ (True)) := by
  refine ct_of G (by decide) (Nat.le_of_ble_eq_true rfl) (fun k X E hRt hXt q => ?_)
  show WS k 0 [(0, .ref (A 179)), (1, .int (Int32.ofInt x)), (2, .int (Int32.ofInt y))] [] _ 0 0
  have F : Fm [73] [229] s s := fm_rf _ _ s
  have b1 : (0 : Int) ≤ iI s 73 ∧ iI s 73 ≤ 3 := I.1 73
  refine z_aload_n X (x := A 179) (show cdA 236 0 = some (.aload_n 0, 1, 0, 0, 0) from rfl) (List.Mem.head _) ?_
  refine z_const X (show cdA 236 1 = some (.iconst 0, 1, 0, 0, 0) from rfl) ?_
  refine s_putI X 179 (show cdA 236 2 = some (.putfield 172, 3, 12, 0, 0) from rfl) (by decide) rfl rfl (by decide) rfl rfl rfl ?_
  obtain ⟨s2, hs2⟩ : ∃ x0, x0 = uI s 73 (Int32.ofInt 0) := ⟨_, rfl⟩
  rw [← hs2]
  have Is2 : Bd s2 := by rw [hs2]; exact bd_I I (show (0 : Int) ≤ 0 ∧ 0 ≤ 3 by first | exact ⟨by decide, by decide⟩ | omega) (by decide)
  have Fs2 := fm_I (x := Int32.ofInt 0) F (show 73 ∈ _ by decide)
  rw [← hs2] at Fs2
  have vs2 : iI s2 73 = 0 := by rw [hs2]; exact iI_u (by decide)
  refine z_aload_n X (x := A 179) (show cdA 236 5 = some (.aload_n 0, 1, 0, 0, 0) from rfl) (List.Mem.head _) ?_
  refine z_load_n X (x := x) (show cdA 236 6 = some (.iload_n 1, 1, 0, 0, 0) from rfl) (List.Mem.tail _ (List.Mem.head _)) ?_
  refine z_const X (show cdA 236 7 = some (.iconst 0, 1, 0, 0, 0) from rfl) ?_
  refine z_bipush X (show cdA 236 8 = some (.bipush 7, 2, 0, 0, 7) from rfl) ?_
  refine z_callS X (rm := rmN 188) (As := [.int (Int32.ofInt x), .int (Int32.ofInt 0), .int (Int32.ofInt 7)]) (st := [.ref (A 179)]) (show cdA 236 10 = some (.invokestatic 209, 3, 188, 1, 0) from rfl) rfl (by rw [E.1, E.2.1, E.2.2.1]; exact k_in G Is2 (by first | exact ⟨p0.1, p0.2⟩ | omega) (by first | exact ⟨by decide, by decide⟩ | omega) (by first | exact ⟨by decide, by decide⟩ | omega)) ⟨by rw [E.2.2.2]; exact (show (rmN 188).frames + 1 ≤ (rmN 236).frames by decide), by rw [E.2.2.2]; exact (show 8 + (mNL (miB 188) + 11) + (rmN 188).locals ≤ (rmN 236).locals by decide), by rw [E.2.2.2]; exact (show 0 + (rmN 188).cells ≤ (rmN 236).cells by decide), by rw [E.2.2.2]; exact (show 0 + (rmN 188).slots ≤ (rmN 236).slots by decide)⟩ (Nat.le_of_ble_eq_true rfl) (fun vv s3 hq => ?_) (fun ee s3 hq => ?_)
  rotate_left
  · obtain ⟨Is3, Fs3, e4, hv, hrs3, hps3⟩ := hq; cases hv
  obtain ⟨Is3, Fs3, e4, hv, hrs3, hps3⟩ := hq
  cases hv
  have Gs3 := fm_ts Fs2 Fs3 (by decide) (by decide)
  have ws3_73 : iI s3 73 = iI s2 73 := fm_i Fs3 (by decide)
  show WS k 13 [(0, .ref (A 179)), (1, .int (Int32.ofInt x)), (2, .int (Int32.ofInt y))] [.int (Int32.ofInt e4), .ref (A 179)] (Wd A dT s3) 0 0
  refine z_if_eq X (t := 27) (show cdA 236 13 = some (.ifCond .eq 14, 3, 0, 0, 0) from rfl) (by decide) hrs3 (fun g5 => ?_) (fun g5 => ?_)
  ·
    refine z_const X (show cdA 236 27 = some (.iconst 1, 1, 0, 0, 0) from rfl) ?_
    refine z_goto X (t := 32) (show cdA 236 28 = some (.goto 4, 3, 0, 0, 0) from rfl) (by decide) ?_
    refine z_const X (show cdA 236 32 = some (.iconst 1, 1, 0, 0, 0) from rfl) ?_
    refine z_callV X 179 (rm := rmN 187) (As := [.int (Int32.ofInt 1), .int (Int32.ofInt 1)]) (st := []) (show cdA 236 33 = some (.invokevirtual 229, 3, 187, 0, 0) from rfl) rfl (by decide) rfl (by rw [E.1, E.2.1, E.2.2.1]; exact k_bad G Is3 (by first | exact Or.inr (by decide) | omega) (by first | exact ⟨by decide, by decide⟩ | omega)) ⟨by rw [E.2.2.2]; exact (show (rmN 187).frames + 1 ≤ (rmN 236).frames by decide), by rw [E.2.2.2]; exact (show 8 + (mNL (miB 187) + 11) + (rmN 187).locals ≤ (rmN 236).locals by decide), by rw [E.2.2.2]; exact (show 0 + (rmN 187).cells ≤ (rmN 236).cells by decide), by rw [E.2.2.2]; exact (show 0 + (rmN 187).slots ≤ (rmN 236).slots by decide)⟩ (Nat.le_of_ble_eq_true rfl) (fun vv s6 hq => ?_) (fun ee s6 hq => ?_)
    rotate_left
    · obtain ⟨Is6, Fs6, e7, hv, hrs6, hps6⟩ := hq; cases hv
    obtain ⟨Is6, Fs6, e7, hv, hrs6, hps6⟩ := hq
    cases hv
    have Gs6 := fm_ts Gs3 Fs6 (by decide) (by decide)
    have b8 : (0 : Int) ≤ iI s6 73 ∧ iI s6 73 ≤ 3 := Is6.1 73
    show WS k 36 [(0, .ref (A 179)), (1, .int (Int32.ofInt x)), (2, .int (Int32.ofInt y))] [.int (Int32.ofInt e7)] (Wd A dT s6) 0 0
    refine z_if_eq X (t := 41) (show cdA 236 36 = some (.ifCond .eq 5, 3, 0, 0, 0) from rfl) (by decide) hrs6 (fun g9 => ?_) (fun g9 => ?_)
    ·
      refine z_aload_n X (x := A 179) (show cdA 236 41 = some (.aload_n 0, 1, 0, 0, 0) from rfl) (List.Mem.head _) ?_
      refine s_getR X 179 (show cdA 236 42 = some (.getfield 73, 3, 12, 36, 0) from rfl) (by decide) rfl rfl ?_
      refine z_load_n X (x := x) (show cdA 236 45 = some (.iload_n 1, 1, 0, 0, 0) from rfl) (List.Mem.tail _ (List.Mem.head _)) ?_
      refine z_ald X 257 (show cdA 236 46 = some (.iaload, 1, 0, 0, 0) from rfl) (by decide) rfl (by first | exact oq_65cab3da g9 hps6.2.1 | omega) (show x < 8 by first | exact oq_33083efa g9 hps6.2.1 | omega) (by decide) ?_
      have b10 : (0 : Int) ≤ iC s6 229 (x).toNat ∧ iC s6 229 (x).toNat ≤ 9999 := Is6.2 229 _ (show (x).toNat < 8 by first | exact oq_af85b43c g9 hps6.2.1 | omega)
      refine z_store_n X (lv' := [(3, .int (Int32.ofInt (iC s6 229 (x).toNat))), (0, .ref (A 179)), (1, .int (Int32.ofInt x)), (2, .int (Int32.ofInt y))]) (show cdA 236 47 = some (.istore_n 3, 1, 0, 0, 0) from rfl) (by decide) (fun _ h => h) ?_
      refine z_aload_n X (x := A 179) (show cdA 236 48 = some (.aload_n 0, 1, 0, 0, 0) from rfl) (List.Mem.tail _ (List.Mem.head _)) ?_
      refine s_getR X 179 (show cdA 236 49 = some (.getfield 73, 3, 12, 36, 0) from rfl) (by decide) rfl rfl ?_
      refine z_load_n X (x := x) (show cdA 236 52 = some (.iload_n 1, 1, 0, 0, 0) from rfl) (List.Mem.tail _ (List.Mem.tail _ (List.Mem.head _))) ?_
      refine z_load_n X (x := y) (show cdA 236 53 = some (.iload_n 2, 1, 0, 0, 0) from rfl) (List.Mem.tail _ (List.Mem.tail _ (List.Mem.tail _ (List.Mem.head _)))) ?_
      refine z_ast X 257 (show cdA 236 54 = some (.iastore, 1, 0, 0, 0) from rfl) (by decide) rfl (by first | exact oq_65cab3da g9 hps6.2.1 | omega) (show x < 8 by first | exact oq_33083efa g9 hps6.2.1 | omega) (by decide) ?_
      obtain ⟨s11, hs11⟩ : ∃ x0, x0 = uC s6 229 (x).toNat (Int32.ofInt y) := ⟨_, rfl⟩
      rw [← hs11]
      have Is11 : Bd s11 := by rw [hs11]; exact bd_C Is6 (show (0 : Int) ≤ y ∧ y ≤ 9999 by first | exact ⟨oq_65cab3da g9 hps6.2.1, oq_f62b10da g9 hps6.2.1⟩ | omega) ⟨by first | exact p1.1 | omega, by first | exact p1.2 | omega⟩
      have Fs11 := fm_C (i := (x).toNat) (x := Int32.ofInt y) Gs6 (show 229 ∈ _ by decide)
      rw [← hs11] at Fs11
      have ws11_73 : iI s11 73 = iI s6 73 := by rw [hs11]; rfl
      refine z_load_n X (x := (iC s6 229 (x).toNat)) (show cdA 236 55 = some (.iload_n 3, 1, 0, 0, 0) from rfl) (List.Mem.head _) ?_
      exact w_iret X.1 q hRt rfl (ax_d X (show cdA 236 56 = some (.ireturn, 1, 0, 0, 0) from rfl)) (Nat.zero_le _) (Nat.zero_le _) ⟨_, rfl, Is11, Fs11, (iC s6 229 (x).toNat), rfl, (rng_to _), trivial⟩
    ·
      refine z_const X (show cdA 236 39 = some (.iconst 0, 1, 0, 0, 0) from rfl) ?_
      exact w_iret X.1 q hRt rfl (ax_d X (show cdA 236 40 = some (.ireturn, 1, 0, 0, 0) from rfl)) (Nat.zero_le _) (Nat.zero_le _) ⟨_, rfl, Is6, Gs6, 0, rfl, (by decide), trivial⟩
  ·
    refine z_load_n X (x := y) (show cdA 236 16 = some (.iload_n 2, 1, 0, 0, 0) from rfl) (List.Mem.tail _ (List.Mem.tail _ (List.Mem.head _))) ?_
    refine z_const X (show cdA 236 17 = some (.iconst 0, 1, 0, 0, 0) from rfl) ?_
    refine z_sipush X (show cdA 236 18 = some (.sipush 9999, 3, 0, 0, 9999) from rfl) ?_
    refine z_callS X (rm := rmN 188) (As := [.int (Int32.ofInt y), .int (Int32.ofInt 0), .int (Int32.ofInt 9999)]) (st := [.ref (A 179)]) (show cdA 236 21 = some (.invokestatic 209, 3, 188, 1, 0) from rfl) rfl (by rw [E.1, E.2.1, E.2.2.1]; exact k_in G Is3 (by first | exact ⟨p1.1, p1.2⟩ | omega) (by first | exact ⟨by decide, by decide⟩ | omega) (by first | exact ⟨by decide, by decide⟩ | omega)) ⟨by rw [E.2.2.2]; exact (show (rmN 188).frames + 1 ≤ (rmN 236).frames by decide), by rw [E.2.2.2]; exact (show 8 + (mNL (miB 188) + 11) + (rmN 188).locals ≤ (rmN 236).locals by decide), by rw [E.2.2.2]; exact (show 0 + (rmN 188).cells ≤ (rmN 236).cells by decide), by rw [E.2.2.2]; exact (show 0 + (rmN 188).slots ≤ (rmN 236).slots by decide)⟩ (Nat.le_of_ble_eq_true rfl) (fun vv s12 hq => ?_) (fun ee s12 hq => ?_)
    rotate_left
    · obtain ⟨Is12, Fs12, e13, hv, hrs12, hps12⟩ := hq; cases hv
    obtain ⟨Is12, Fs12, e13, hv, hrs12, hps12⟩ := hq
    cases hv
    have Gs12 := fm_ts Gs3 Fs12 (by decide) (by decide)
    have ws12_73 : iI s12 73 = iI s3 73 := fm_i Fs12 (by decide)
    show WS k 24 [(0, .ref (A 179)), (1, .int (Int32.ofInt x)), (2, .int (Int32.ofInt y))] [.int (Int32.ofInt e13), .ref (A 179)] (Wd A dT s12) 0 0
    have N14 : ∀ e15 : Int, (((e13 ≠ 0) ∧ e15 = 0) ∨ ((e13 = 0) ∧ e15 = 1)) → WS k 32 [(0, .ref (A 179)), (1, .int (Int32.ofInt x)), (2, .int (Int32.ofInt y))] [.int (Int32.ofInt e15), .ref (A 179)] (Wd A dT s12) 0 0 := by
      intro e15 he15
      have re15 : 0 ≤ e15 ∧ e15 ≤ 1 := by omega
      refine z_const X (show cdA 236 32 = some (.iconst 1, 1, 0, 0, 0) from rfl) ?_
      refine z_callV X 179 (rm := rmN 187) (As := [.int (Int32.ofInt e15), .int (Int32.ofInt 1)]) (st := []) (show cdA 236 33 = some (.invokevirtual 229, 3, 187, 0, 0) from rfl) rfl (by decide) rfl (by rw [E.1, E.2.1, E.2.2.1]; exact k_bad G Is12 (by first | exact oq_31e518ae re15.2 re15.1 | omega) (by first | exact ⟨by decide, by decide⟩ | omega)) ⟨by rw [E.2.2.2]; exact (show (rmN 187).frames + 1 ≤ (rmN 236).frames by decide), by rw [E.2.2.2]; exact (show 8 + (mNL (miB 187) + 11) + (rmN 187).locals ≤ (rmN 236).locals by decide), by rw [E.2.2.2]; exact (show 0 + (rmN 187).cells ≤ (rmN 236).cells by decide), by rw [E.2.2.2]; exact (show 0 + (rmN 187).slots ≤ (rmN 236).slots by decide)⟩ (Nat.le_of_ble_eq_true rfl) (fun vv s16 hq => ?_) (fun ee s16 hq => ?_)
      rotate_left
      · obtain ⟨Is16, Fs16, e17, hv, hrs16, hps16⟩ := hq; cases hv
      obtain ⟨Is16, Fs16, e17, hv, hrs16, hps16⟩ := hq
      cases hv
      have Gs16 := fm_ts Gs12 Fs16 (by decide) (by decide)
      have b18 : (0 : Int) ≤ iI s16 73 ∧ iI s16 73 ≤ 3 := Is16.1 73
      show WS k 36 [(0, .ref (A 179)), (1, .int (Int32.ofInt x)), (2, .int (Int32.ofInt y))] [.int (Int32.ofInt e17)] (Wd A dT s16) 0 0
      refine z_if_eq X (t := 41) (show cdA 236 36 = some (.ifCond .eq 5, 3, 0, 0, 0) from rfl) (by decide) hrs16 (fun g19 => ?_) (fun g19 => ?_)
      ·
        refine z_aload_n X (x := A 179) (show cdA 236 41 = some (.aload_n 0, 1, 0, 0, 0) from rfl) (List.Mem.head _) ?_
        refine s_getR X 179 (show cdA 236 42 = some (.getfield 73, 3, 12, 36, 0) from rfl) (by decide) rfl rfl ?_
        refine z_load_n X (x := x) (show cdA 236 45 = some (.iload_n 1, 1, 0, 0, 0) from rfl) (List.Mem.tail _ (List.Mem.head _)) ?_
        refine z_ald X 257 (show cdA 236 46 = some (.iaload, 1, 0, 0, 0) from rfl) (by decide) rfl (by first | exact oq_28d92795 g5 hps3 | omega) (show x < 8 by first | exact oq_246a8e49 g5 hps3 | omega) (by decide) ?_
        have b20 : (0 : Int) ≤ iC s16 229 (x).toNat ∧ iC s16 229 (x).toNat ≤ 9999 := Is16.2 229 _ (show (x).toNat < 8 by first | exact oq_9a20133a g5 hps3 | omega)
        refine z_store_n X (lv' := [(3, .int (Int32.ofInt (iC s16 229 (x).toNat))), (0, .ref (A 179)), (1, .int (Int32.ofInt x)), (2, .int (Int32.ofInt y))]) (show cdA 236 47 = some (.istore_n 3, 1, 0, 0, 0) from rfl) (by decide) (fun _ h => h) ?_
        refine z_aload_n X (x := A 179) (show cdA 236 48 = some (.aload_n 0, 1, 0, 0, 0) from rfl) (List.Mem.tail _ (List.Mem.head _)) ?_
        refine s_getR X 179 (show cdA 236 49 = some (.getfield 73, 3, 12, 36, 0) from rfl) (by decide) rfl rfl ?_
        refine z_load_n X (x := x) (show cdA 236 52 = some (.iload_n 1, 1, 0, 0, 0) from rfl) (List.Mem.tail _ (List.Mem.tail _ (List.Mem.head _))) ?_
        refine z_load_n X (x := y) (show cdA 236 53 = some (.iload_n 2, 1, 0, 0, 0) from rfl) (List.Mem.tail _ (List.Mem.tail _ (List.Mem.tail _ (List.Mem.head _)))) ?_
        refine z_ast X 257 (show cdA 236 54 = some (.iastore, 1, 0, 0, 0) from rfl) (by decide) rfl (by first | exact oq_28d92795 g5 hps3 | omega) (show x < 8 by first | exact oq_246a8e49 g5 hps3 | omega) (by decide) ?_
        obtain ⟨s21, hs21⟩ : ∃ x0, x0 = uC s16 229 (x).toNat (Int32.ofInt y) := ⟨_, rfl⟩
        rw [← hs21]
        have Is21 : Bd s21 := by rw [hs21]; exact bd_C Is16 (show (0 : Int) ≤ y ∧ y ≤ 9999 by first | exact ⟨oq_6a816dcc g19 hps16.2.1 re15.2 he15 hps12, oq_e6516afd g19 hps16.2.1 re15.2 he15 hps12⟩ | omega) ⟨by first | exact p1.1 | omega, by first | exact p1.2 | omega⟩
        have Fs21 := fm_C (i := (x).toNat) (x := Int32.ofInt y) Gs16 (show 229 ∈ _ by decide)
        rw [← hs21] at Fs21
        have ws21_73 : iI s21 73 = iI s16 73 := by rw [hs21]; rfl
        refine z_load_n X (x := (iC s16 229 (x).toNat)) (show cdA 236 55 = some (.iload_n 3, 1, 0, 0, 0) from rfl) (List.Mem.head _) ?_
        exact w_iret X.1 q hRt rfl (ax_d X (show cdA 236 56 = some (.ireturn, 1, 0, 0, 0) from rfl)) (Nat.zero_le _) (Nat.zero_le _) ⟨_, rfl, Is21, Fs21, (iC s16 229 (x).toNat), rfl, (rng_to _), trivial⟩
      ·
        refine z_const X (show cdA 236 39 = some (.iconst 0, 1, 0, 0, 0) from rfl) ?_
        exact w_iret X.1 q hRt rfl (ax_d X (show cdA 236 40 = some (.ireturn, 1, 0, 0, 0) from rfl)) (Nat.zero_le _) (Nat.zero_le _) ⟨_, rfl, Is16, Gs16, 0, rfl, (by decide), trivial⟩
    refine z_if_ne X (t := 31) (show cdA 236 24 = some (.ifCond .ne 7, 3, 1, 0, 0) from rfl) (by decide) hrs12 (fun g22 => ?_) (fun g22 => ?_)
    ·
      refine z_const X (show cdA 236 31 = some (.iconst 0, 1, 0, 0, 0) from rfl) ?_
      exact N14 _ (Or.inl ⟨g22, rfl⟩)
    ·
      refine z_const X (show cdA 236 27 = some (.iconst 1, 1, 0, 0, 0) from rfl) ?_
      refine z_goto X (t := 32) (show cdA 236 28 = some (.goto 4, 3, 0, 0, 0) from rfl) (by decide) ?_
      exact N14 _ (Or.inr (⟨g22, rfl⟩))
theorem k_ill (G : GX l s0 D tys a0 dT) (I : Bd s) {x y : Int} (p0 : rng x) (p1 : rng y) : CT l s0 D A dT 274 (rmN 274) [.ref (A 179), .int (Int32.ofInt x), .int (Int32.ofInt y)] s (fun o t => Bd t ∧ Fm [73] [398] s t ∧ ∃ e, o = .inl (some (.int (Int32.ofInt e))) ∧ rng e ∧ (True)) := by
  refine ct_of G (by decide) (Nat.le_of_ble_eq_true rfl) (fun k X E hRt hXt q => ?_)
  show WS k 0 [(0, .ref (A 179)), (1, .int (Int32.ofInt x)), (2, .int (Int32.ofInt y))] [] _ 0 0
  have F : Fm [73] [398] s s := fm_rf _ _ s
  have b1 : (0 : Int) ≤ iI s 73 ∧ iI s 73 ≤ 3 := I.1 73
  refine z_aload_n X (x := A 179) (show cdA 274 0 = some (.aload_n 0, 1, 0, 0, 0) from rfl) (List.Mem.head _) ?_
  refine z_const X (show cdA 274 1 = some (.iconst 0, 1, 0, 0, 0) from rfl) ?_
  refine s_putI X 179 (show cdA 274 2 = some (.putfield 172, 3, 12, 0, 0) from rfl) (by decide) rfl rfl (by decide) rfl rfl rfl ?_
  obtain ⟨s2, hs2⟩ : ∃ x0, x0 = uI s 73 (Int32.ofInt 0) := ⟨_, rfl⟩
  rw [← hs2]
  have Is2 : Bd s2 := by rw [hs2]; exact bd_I I (show (0 : Int) ≤ 0 ∧ 0 ≤ 3 by first | exact ⟨by decide, by decide⟩ | omega) (by decide)
  have Fs2 := fm_I (x := Int32.ofInt 0) F (show 73 ∈ _ by decide)
  rw [← hs2] at Fs2
  have vs2 : iI s2 73 = 0 := by rw [hs2]; exact iI_u (by decide)
  refine z_aload_n X (x := A 179) (show cdA 274 5 = some (.aload_n 0, 1, 0, 0, 0) from rfl) (List.Mem.head _) ?_
  refine z_load_n X (x := x) (show cdA 274 6 = some (.iload_n 1, 1, 0, 0, 0) from rfl) (List.Mem.tail _ (List.Mem.head _)) ?_
  refine z_const X (show cdA 274 7 = some (.iconst 0, 1, 0, 0, 0) from rfl) ?_
  refine z_bipush X (show cdA 274 8 = some (.bipush 7, 2, 0, 0, 7) from rfl) ?_
  refine z_callS X (rm := rmN 188) (As := [.int (Int32.ofInt x), .int (Int32.ofInt 0), .int (Int32.ofInt 7)]) (st := [.ref (A 179)]) (show cdA 274 10 = some (.invokestatic 209, 3, 188, 1, 0) from rfl) rfl (by rw [E.1, E.2.1, E.2.2.1]; exact k_in G Is2 (by first | exact ⟨p0.1, p0.2⟩ | omega) (by first | exact ⟨by decide, by decide⟩ | omega) (by first | exact ⟨by decide, by decide⟩ | omega)) ⟨by rw [E.2.2.2]; exact (show (rmN 188).frames + 1 ≤ (rmN 274).frames by decide), by rw [E.2.2.2]; exact (show 8 + (mNL (miB 188) + 11) + (rmN 188).locals ≤ (rmN 274).locals by decide), by rw [E.2.2.2]; exact (show 0 + (rmN 188).cells ≤ (rmN 274).cells by decide), by rw [E.2.2.2]; exact (show 0 + (rmN 188).slots ≤ (rmN 274).slots by decide)⟩ (Nat.le_of_ble_eq_true rfl) (fun vv s3 hq => ?_) (fun ee s3 hq => ?_)
  rotate_left
  · obtain ⟨Is3, Fs3, e4, hv, hrs3, hps3⟩ := hq; cases hv
  obtain ⟨Is3, Fs3, e4, hv, hrs3, hps3⟩ := hq
  cases hv
  have Gs3 := fm_ts Fs2 Fs3 (by decide) (by decide)
  have ws3_73 : iI s3 73 = iI s2 73 := fm_i Fs3 (by decide)
  show WS k 13 [(0, .ref (A 179)), (1, .int (Int32.ofInt x)), (2, .int (Int32.ofInt y))] [.int (Int32.ofInt e4), .ref (A 179)] (Wd A dT s3) 0 0
  have N5 : ∀ e6 : Int, (((e4 ≠ 0) ∧ e6 = 0) ∨ ((e4 = 0) ∧ e6 = 1)) → WS k 21 [(0, .ref (A 179)), (1, .int (Int32.ofInt x)), (2, .int (Int32.ofInt y))] [.int (Int32.ofInt e6), .ref (A 179)] (Wd A dT s3) 0 0 := by
    intro e6 he6
    have re6 : 0 ≤ e6 ∧ e6 ≤ 1 := by omega
    refine z_const X (show cdA 274 21 = some (.iconst 1, 1, 0, 0, 0) from rfl) ?_
    refine z_callV X 179 (rm := rmN 187) (As := [.int (Int32.ofInt e6), .int (Int32.ofInt 1)]) (st := []) (show cdA 274 22 = some (.invokevirtual 229, 3, 187, 0, 0) from rfl) rfl (by decide) rfl (by rw [E.1, E.2.1, E.2.2.1]; exact k_bad G Is3 (by first | exact oq_31e518ae re6.2 re6.1 | omega) (by first | exact ⟨by decide, by decide⟩ | omega)) ⟨by rw [E.2.2.2]; exact (show (rmN 187).frames + 1 ≤ (rmN 274).frames by decide), by rw [E.2.2.2]; exact (show 8 + (mNL (miB 187) + 11) + (rmN 187).locals ≤ (rmN 274).locals by decide), by rw [E.2.2.2]; exact (show 0 + (rmN 187).cells ≤ (rmN 274).cells by decide), by rw [E.2.2.2]; exact (show 0 + (rmN 187).slots ≤ (rmN 274).slots by decide)⟩ (Nat.le_of_ble_eq_true rfl) (fun vv s7 hq => ?_) (fun ee s7 hq => ?_)
    rotate_left
    · obtain ⟨Is7, Fs7, e8, hv, hrs7, hps7⟩ := hq; cases hv
    obtain ⟨Is7, Fs7, e8, hv, hrs7, hps7⟩ := hq
    cases hv
    have Gs7 := fm_ts Gs3 Fs7 (by decide) (by decide)
    have b9 : (0 : Int) ≤ iI s7 73 ∧ iI s7 73 ≤ 3 := Is7.1 73
    show WS k 25 [(0, .ref (A 179)), (1, .int (Int32.ofInt x)), (2, .int (Int32.ofInt y))] [.int (Int32.ofInt e8)] (Wd A dT s7) 0 0
    refine z_if_ne X (t := 51) (show cdA 274 25 = some (.ifCond .ne 26, 3, 1, 0, 0) from rfl) (by decide) hrs7 (fun g10 => ?_) (fun g10 => ?_)
    ·
      refine z_const X (show cdA 274 51 = some (.iconst 0, 1, 0, 0, 0) from rfl) ?_
      exact w_iret X.1 q hRt rfl (ax_d X (show cdA 274 52 = some (.ireturn, 1, 0, 0, 0) from rfl)) (Nat.zero_le _) (Nat.zero_le _) ⟨_, rfl, Is7, Gs7, 0, rfl, (by decide), trivial⟩
    ·
      refine z_aload_n X (x := A 179) (show cdA 274 28 = some (.aload_n 0, 1, 0, 0, 0) from rfl) (List.Mem.head _) ?_
      refine z_load_n X (x := y) (show cdA 274 29 = some (.iload_n 2, 1, 0, 0, 0) from rfl) (List.Mem.tail _ (List.Mem.tail _ (List.Mem.head _))) ?_
      refine z_const X (show cdA 274 30 = some (.iconst 0, 1, 0, 0, 0) from rfl) ?_
      refine z_bipush X (show cdA 274 31 = some (.bipush 24, 2, 0, 0, 24) from rfl) ?_
      refine z_callS X (rm := rmN 188) (As := [.int (Int32.ofInt y), .int (Int32.ofInt 0), .int (Int32.ofInt 24)]) (st := [.ref (A 179)]) (show cdA 274 33 = some (.invokestatic 209, 3, 188, 1, 0) from rfl) rfl (by rw [E.1, E.2.1, E.2.2.1]; exact k_in G Is7 (by first | exact ⟨p1.1, p1.2⟩ | omega) (by first | exact ⟨by decide, by decide⟩ | omega) (by first | exact ⟨by decide, by decide⟩ | omega)) ⟨by rw [E.2.2.2]; exact (show (rmN 188).frames + 1 ≤ (rmN 274).frames by decide), by rw [E.2.2.2]; exact (show 8 + (mNL (miB 188) + 11) + (rmN 188).locals ≤ (rmN 274).locals by decide), by rw [E.2.2.2]; exact (show 0 + (rmN 188).cells ≤ (rmN 274).cells by decide), by rw [E.2.2.2]; exact (show 0 + (rmN 188).slots ≤ (rmN 274).slots by decide)⟩ (Nat.le_of_ble_eq_true rfl) (fun vv s11 hq => ?_) (fun ee s11 hq => ?_)
      rotate_left
      · obtain ⟨Is11, Fs11, e12, hv, hrs11, hps11⟩ := hq; cases hv
      obtain ⟨Is11, Fs11, e12, hv, hrs11, hps11⟩ := hq
      cases hv
      have Gs11 := fm_ts Gs7 Fs11 (by decide) (by decide)
      have ws11_73 : iI s11 73 = iI s7 73 := fm_i Fs11 (by decide)
      show WS k 36 [(0, .ref (A 179)), (1, .int (Int32.ofInt x)), (2, .int (Int32.ofInt y))] [.int (Int32.ofInt e12), .ref (A 179)] (Wd A dT s11) 0 0
      have N13 : ∀ e14 : Int, (((e12 ≠ 0) ∧ e14 = 0) ∨ ((e12 = 0) ∧ e14 = 1)) → WS k 44 [(0, .ref (A 179)), (1, .int (Int32.ofInt x)), (2, .int (Int32.ofInt y))] [.int (Int32.ofInt e14), .ref (A 179)] (Wd A dT s11) 0 0 := by
        intro e14 he14
        have re14 : 0 ≤ e14 ∧ e14 ≤ 1 := by omega
        refine z_const X (show cdA 274 44 = some (.iconst 2, 1, 0, 0, 0) from rfl) ?_
        refine z_callV X 179 (rm := rmN 187) (As := [.int (Int32.ofInt e14), .int (Int32.ofInt 2)]) (st := []) (show cdA 274 45 = some (.invokevirtual 229, 3, 187, 0, 0) from rfl) rfl (by decide) rfl (by rw [E.1, E.2.1, E.2.2.1]; exact k_bad G Is11 (by first | exact oq_31e518ae re14.2 re14.1 | omega) (by first | exact ⟨by decide, by decide⟩ | omega)) ⟨by rw [E.2.2.2]; exact (show (rmN 187).frames + 1 ≤ (rmN 274).frames by decide), by rw [E.2.2.2]; exact (show 8 + (mNL (miB 187) + 11) + (rmN 187).locals ≤ (rmN 274).locals by decide), by rw [E.2.2.2]; exact (show 0 + (rmN 187).cells ≤ (rmN 274).cells by decide), by rw [E.2.2.2]; exact (show 0 + (rmN 187).slots ≤ (rmN 274).slots by decide)⟩ (Nat.le_of_ble_eq_true rfl) (fun vv s15 hq => ?_) (fun ee s15 hq => ?_)
        rotate_left
        · obtain ⟨Is15, Fs15, e16, hv, hrs15, hps15⟩ := hq; cases hv
        obtain ⟨Is15, Fs15, e16, hv, hrs15, hps15⟩ := hq
        cases hv
        have Gs15 := fm_ts Gs11 Fs15 (by decide) (by decide)
        have b17 : (0 : Int) ≤ iI s15 73 ∧ iI s15 73 ≤ 3 := Is15.1 73
        show WS k 48 [(0, .ref (A 179)), (1, .int (Int32.ofInt x)), (2, .int (Int32.ofInt y))] [.int (Int32.ofInt e16)] (Wd A dT s15) 0 0
        refine z_if_eq X (t := 53) (show cdA 274 48 = some (.ifCond .eq 5, 3, 0, 0, 0) from rfl) (by decide) hrs15 (fun g18 => ?_) (fun g18 => ?_)
        ·
          refine z_aload_n X (x := A 179) (show cdA 274 53 = some (.aload_n 0, 1, 0, 0, 0) from rfl) (List.Mem.head _) ?_
          refine s_getR X 179 (show cdA 274 54 = some (.getfield 136, 3, 12, 66, 0) from rfl) (by decide) rfl rfl ?_
          refine z_load_n X (x := x) (show cdA 274 57 = some (.iload_n 1, 1, 0, 0, 0) from rfl) (List.Mem.tail _ (List.Mem.head _)) ?_
          refine z_ald X 453 (show cdA 274 58 = some (.iaload, 1, 0, 0, 0) from rfl) (by decide) rfl (by first | exact oq_859d1a00 g10 hps7.2.1 re6.2 he6 hps3 | omega) (show x < 8 by first | exact oq_dcc08218 g10 hps7.2.1 re6.2 he6 hps3 | omega) (by decide) ?_
          have b19 : (0 : Int) ≤ iC s15 398 (x).toNat ∧ iC s15 398 (x).toNat ≤ 24 := Is15.2 398 _ (show (x).toNat < 8 by first | exact oq_6129a798 g10 hps7.2.1 re6.2 he6 hps3 | omega)
          refine z_store_n X (lv' := [(3, .int (Int32.ofInt (iC s15 398 (x).toNat))), (0, .ref (A 179)), (1, .int (Int32.ofInt x)), (2, .int (Int32.ofInt y))]) (show cdA 274 59 = some (.istore_n 3, 1, 0, 0, 0) from rfl) (by decide) (fun _ h => h) ?_
          refine z_aload_n X (x := A 179) (show cdA 274 60 = some (.aload_n 0, 1, 0, 0, 0) from rfl) (List.Mem.tail _ (List.Mem.head _)) ?_
          refine s_getR X 179 (show cdA 274 61 = some (.getfield 136, 3, 12, 66, 0) from rfl) (by decide) rfl rfl ?_
          refine z_load_n X (x := x) (show cdA 274 64 = some (.iload_n 1, 1, 0, 0, 0) from rfl) (List.Mem.tail _ (List.Mem.tail _ (List.Mem.head _))) ?_
          refine z_load_n X (x := y) (show cdA 274 65 = some (.iload_n 2, 1, 0, 0, 0) from rfl) (List.Mem.tail _ (List.Mem.tail _ (List.Mem.tail _ (List.Mem.head _)))) ?_
          refine z_ast X 453 (show cdA 274 66 = some (.iastore, 1, 0, 0, 0) from rfl) (by decide) rfl (by first | exact oq_859d1a00 g10 hps7.2.1 re6.2 he6 hps3 | omega) (show x < 8 by first | exact oq_dcc08218 g10 hps7.2.1 re6.2 he6 hps3 | omega) (by decide) ?_
          obtain ⟨s20, hs20⟩ : ∃ x0, x0 = uC s15 398 (x).toNat (Int32.ofInt y) := ⟨_, rfl⟩
          rw [← hs20]
          have Is20 : Bd s20 := by rw [hs20]; exact bd_C Is15 (show (0 : Int) ≤ y ∧ y ≤ 24 by first | exact ⟨oq_b7ca64e0 g18 hps15.2.1 re14.2 he14 hps11, oq_240b5d14 g18 hps15.2.1 re14.2 he14 hps11⟩ | omega) ⟨by first | exact p1.1 | omega, by first | exact p1.2 | omega⟩
          have Fs20 := fm_C (i := (x).toNat) (x := Int32.ofInt y) Gs15 (show 398 ∈ _ by decide)
          rw [← hs20] at Fs20
          have ws20_73 : iI s20 73 = iI s15 73 := by rw [hs20]; rfl
          refine z_load_n X (x := (iC s15 398 (x).toNat)) (show cdA 274 67 = some (.iload_n 3, 1, 0, 0, 0) from rfl) (List.Mem.head _) ?_
          exact w_iret X.1 q hRt rfl (ax_d X (show cdA 274 68 = some (.ireturn, 1, 0, 0, 0) from rfl)) (Nat.zero_le _) (Nat.zero_le _) ⟨_, rfl, Is20, Fs20, (iC s15 398 (x).toNat), rfl, (rng_to _), trivial⟩
        ·
          refine z_const X (show cdA 274 51 = some (.iconst 0, 1, 0, 0, 0) from rfl) ?_
          exact w_iret X.1 q hRt rfl (ax_d X (show cdA 274 52 = some (.ireturn, 1, 0, 0, 0) from rfl)) (Nat.zero_le _) (Nat.zero_le _) ⟨_, rfl, Is15, Gs15, 0, rfl, (by decide), trivial⟩
      refine z_if_ne X (t := 43) (show cdA 274 36 = some (.ifCond .ne 7, 3, 1, 0, 0) from rfl) (by decide) hrs11 (fun g21 => ?_) (fun g21 => ?_)
      ·
        refine z_const X (show cdA 274 43 = some (.iconst 0, 1, 0, 0, 0) from rfl) ?_
        exact N13 _ (Or.inl ⟨g21, rfl⟩)
      ·
        refine z_const X (show cdA 274 39 = some (.iconst 1, 1, 0, 0, 0) from rfl) ?_
        refine z_goto X (t := 44) (show cdA 274 40 = some (.goto 4, 3, 0, 0, 0) from rfl) (by decide) ?_
        exact N13 _ (Or.inr (⟨g21, rfl⟩))
  refine z_if_ne X (t := 20) (show cdA 274 13 = some (.ifCond .ne 7, 3, 1, 0, 0) from rfl) (by decide) hrs3 (fun g22 => ?_) (fun g22 => ?_)
  ·
    refine z_const X (show cdA 274 20 = some (.iconst 0, 1, 0, 0, 0) from rfl) ?_
    exact N5 _ (Or.inl ⟨g22, rfl⟩)
  ·
    refine z_const X (show cdA 274 16 = some (.iconst 1, 1, 0, 0, 0) from rfl) ?_
    refine z_goto X (t := 21) (show cdA 274 17 = some (.goto 4, 3, 0, 0, 0) from rfl) (by decide) ?_
    exact N5 _ (Or.inr (⟨g22, rfl⟩))
theorem k_hours (G : GX l s0 D tys a0 dT) (I : Bd s) {x y : Int} (p0 : rng x) (p1 : rng y) : CT l s0 D A dT 273 (rmN 273) [.ref (A 179), .int (Int32.ofInt x), .int (Int32.ofInt y)] s (fun o t => Bd t ∧ Fm [73, 102, 103] [] s t ∧ ∃ e, o = .inl (some (.int (Int32.ofInt e))) ∧ rng e ∧ (True)) := by
  refine ct_of G (by decide) (Nat.le_of_ble_eq_true rfl) (fun k X E hRt hXt q => ?_)
  show WS k 0 [(0, .ref (A 179)), (1, .int (Int32.ofInt x)), (2, .int (Int32.ofInt y))] [] _ 0 0
  have F : Fm [73, 102, 103] [] s s := fm_rf _ _ s
  have b1 : (0 : Int) ≤ iI s 73 ∧ iI s 73 ≤ 3 := I.1 73
  refine z_aload_n X (x := A 179) (show cdA 273 0 = some (.aload_n 0, 1, 0, 0, 0) from rfl) (List.Mem.head _) ?_
  refine z_const X (show cdA 273 1 = some (.iconst 0, 1, 0, 0, 0) from rfl) ?_
  refine s_putI X 179 (show cdA 273 2 = some (.putfield 172, 3, 12, 0, 0) from rfl) (by decide) rfl rfl (by decide) rfl rfl rfl ?_
  obtain ⟨s2, hs2⟩ : ∃ x0, x0 = uI s 73 (Int32.ofInt 0) := ⟨_, rfl⟩
  rw [← hs2]
  have Is2 : Bd s2 := by rw [hs2]; exact bd_I I (show (0 : Int) ≤ 0 ∧ 0 ≤ 3 by first | exact ⟨by decide, by decide⟩ | omega) (by decide)
  have Fs2 := fm_I (x := Int32.ofInt 0) F (show 73 ∈ _ by decide)
  rw [← hs2] at Fs2
  have vs2 : iI s2 73 = 0 := by rw [hs2]; exact iI_u (by decide)
  refine z_aload_n X (x := A 179) (show cdA 273 5 = some (.aload_n 0, 1, 0, 0, 0) from rfl) (List.Mem.head _) ?_
  refine z_load_n X (x := x) (show cdA 273 6 = some (.iload_n 1, 1, 0, 0, 0) from rfl) (List.Mem.tail _ (List.Mem.head _)) ?_
  refine z_const X (show cdA 273 7 = some (.iconst 0, 1, 0, 0, 0) from rfl) ?_
  refine z_const X (show cdA 273 8 = some (.iconst 1, 1, 0, 0, 0) from rfl) ?_
  refine z_callS X (rm := rmN 188) (As := [.int (Int32.ofInt x), .int (Int32.ofInt 0), .int (Int32.ofInt 1)]) (st := [.ref (A 179)]) (show cdA 273 9 = some (.invokestatic 209, 3, 188, 1, 0) from rfl) rfl (by rw [E.1, E.2.1, E.2.2.1]; exact k_in G Is2 (by first | exact ⟨p0.1, p0.2⟩ | omega) (by first | exact ⟨by decide, by decide⟩ | omega) (by first | exact ⟨by decide, by decide⟩ | omega)) ⟨by rw [E.2.2.2]; exact (show (rmN 188).frames + 1 ≤ (rmN 273).frames by decide), by rw [E.2.2.2]; exact (show 8 + (mNL (miB 188) + 11) + (rmN 188).locals ≤ (rmN 273).locals by decide), by rw [E.2.2.2]; exact (show 0 + (rmN 188).cells ≤ (rmN 273).cells by decide), by rw [E.2.2.2]; exact (show 0 + (rmN 188).slots ≤ (rmN 273).slots by decide)⟩ (Nat.le_of_ble_eq_true rfl) (fun vv s3 hq => ?_) (fun ee s3 hq => ?_)
  rotate_left
  · obtain ⟨Is3, Fs3, e4, hv, hrs3, hps3⟩ := hq; cases hv
  obtain ⟨Is3, Fs3, e4, hv, hrs3, hps3⟩ := hq
  cases hv
  have Gs3 := fm_ts Fs2 Fs3 (by decide) (by decide)
  have ws3_73 : iI s3 73 = iI s2 73 := fm_i Fs3 (by decide)
  show WS k 12 [(0, .ref (A 179)), (1, .int (Int32.ofInt x)), (2, .int (Int32.ofInt y))] [.int (Int32.ofInt e4), .ref (A 179)] (Wd A dT s3) 0 0
  refine z_if_eq X (t := 34) (show cdA 273 12 = some (.ifCond .eq 22, 3, 0, 0, 0) from rfl) (by decide) hrs3 (fun g5 => ?_) (fun g5 => ?_)
  ·
    refine z_const X (show cdA 273 34 = some (.iconst 1, 1, 0, 0, 0) from rfl) ?_
    refine z_goto X (t := 39) (show cdA 273 35 = some (.goto 4, 3, 0, 0, 0) from rfl) (by decide) ?_
    refine z_const X (show cdA 273 39 = some (.iconst 1, 1, 0, 0, 0) from rfl) ?_
    refine z_callV X 179 (rm := rmN 187) (As := [.int (Int32.ofInt 1), .int (Int32.ofInt 1)]) (st := []) (show cdA 273 40 = some (.invokevirtual 229, 3, 187, 0, 0) from rfl) rfl (by decide) rfl (by rw [E.1, E.2.1, E.2.2.1]; exact k_bad G Is3 (by first | exact Or.inr (by decide) | omega) (by first | exact ⟨by decide, by decide⟩ | omega)) ⟨by rw [E.2.2.2]; exact (show (rmN 187).frames + 1 ≤ (rmN 273).frames by decide), by rw [E.2.2.2]; exact (show 8 + (mNL (miB 187) + 11) + (rmN 187).locals ≤ (rmN 273).locals by decide), by rw [E.2.2.2]; exact (show 0 + (rmN 187).cells ≤ (rmN 273).cells by decide), by rw [E.2.2.2]; exact (show 0 + (rmN 187).slots ≤ (rmN 273).slots by decide)⟩ (Nat.le_of_ble_eq_true rfl) (fun vv s6 hq => ?_) (fun ee s6 hq => ?_)
    rotate_left
    · obtain ⟨Is6, Fs6, e7, hv, hrs6, hps6⟩ := hq; cases hv
    obtain ⟨Is6, Fs6, e7, hv, hrs6, hps6⟩ := hq
    cases hv
    have Gs6 := fm_ts Gs3 Fs6 (by decide) (by decide)
    have b8 : (0 : Int) ≤ iI s6 73 ∧ iI s6 73 ≤ 3 := Is6.1 73
    show WS k 43 [(0, .ref (A 179)), (1, .int (Int32.ofInt x)), (2, .int (Int32.ofInt y))] [.int (Int32.ofInt e7)] (Wd A dT s6) 0 0
    refine z_if_eq X (t := 48) (show cdA 273 43 = some (.ifCond .eq 5, 3, 0, 0, 0) from rfl) (by decide) hrs6 (fun g9 => ?_) (fun g9 => ?_)
    ·
      refine z_load_n X (x := x) (show cdA 273 48 = some (.iload_n 1, 1, 0, 0, 0) from rfl) (List.Mem.tail _ (List.Mem.head _)) ?_
      have N10 : ∀ e11 : Int, (((x ≠ 0) ∧ ((1 : Int) ≤ iI s6 103 ∧ iI s6 103 ≤ 8) ∧ e11 = (iI s6 103)) ∨ ((x = 0) ∧ ((1 : Int) ≤ iI s6 102 ∧ iI s6 102 ≤ 24) ∧ e11 = (iI s6 102))) → WS k 63 [(0, .ref (A 179)), (1, .int (Int32.ofInt x)), (2, .int (Int32.ofInt y))] [.int (Int32.ofInt e11)] (Wd A dT s6) 0 0 := by
        intro e11 he11
        refine z_store_n X (lv' := [(3, .int (Int32.ofInt e11)), (0, .ref (A 179)), (1, .int (Int32.ofInt x)), (2, .int (Int32.ofInt y))]) (show cdA 273 63 = some (.istore_n 3, 1, 0, 0, 0) from rfl) (by decide) (fun _ h => h) ?_
        refine z_load_n X (x := x) (show cdA 273 64 = some (.iload_n 1, 1, 0, 0, 0) from rfl) (List.Mem.tail _ (List.Mem.tail _ (List.Mem.head _))) ?_
        refine z_if_ne X (t := 76) (show cdA 273 65 = some (.ifCond .ne 11, 3, 1, 0, 0) from rfl) (by decide) ⟨by first | exact p0.1 | omega, by first | exact p0.2 | omega⟩ (fun g12 => ?_) (fun g12 => ?_)
        ·
          refine z_aload_n X (x := A 179) (show cdA 273 76 = some (.aload_n 0, 1, 0, 0, 0) from rfl) (List.Mem.tail _ (List.Mem.head _)) ?_
          refine z_load_n X (x := y) (show cdA 273 77 = some (.iload_n 2, 1, 0, 0, 0) from rfl) (List.Mem.tail _ (List.Mem.tail _ (List.Mem.tail _ (List.Mem.head _)))) ?_
          refine s_putI X 179 (show cdA 273 78 = some (.putfield 133, 3, 12, 64, 0) from rfl) (by decide) rfl rfl (by decide) rfl rfl rfl ?_
          obtain ⟨s13, hs13⟩ : ∃ x0, x0 = uI s6 103 (Int32.ofInt y) := ⟨_, rfl⟩
          rw [← hs13]
          have Is13 : Bd s13 := by rw [hs13]; exact bd_I Is6 (show (1 : Int) ≤ y ∧ y ≤ 8 by first | exact ⟨oq_c74211cc g9 hps6.2.1, oq_3ff45f06 g9 hps6.2.1⟩ | omega) ⟨by first | exact p1.1 | omega, by first | exact p1.2 | omega⟩
          have Fs13 := fm_I (x := Int32.ofInt y) Gs6 (show 103 ∈ _ by decide)
          rw [← hs13] at Fs13
          have vs13 : iI s13 103 = y := by rw [hs13]; exact iI_u ⟨by first | exact p1.1 | omega, by first | exact p1.2 | omega⟩
          have ws13_73 : iI s13 73 = iI s6 73 := by rw [hs13]; rfl
          refine z_load_n X (x := e11) (show cdA 273 81 = some (.iload_n 3, 1, 0, 0, 0) from rfl) (List.Mem.head _) ?_
          exact w_iret X.1 q hRt rfl (ax_d X (show cdA 273 82 = some (.ireturn, 1, 0, 0, 0) from rfl)) (Nat.zero_le _) (Nat.zero_le _) ⟨_, rfl, Is13, Fs13, e11, rfl, ⟨by first | exact oq_62abe554 he11 | omega, by first | exact oq_c46c61bd he11 | omega⟩, trivial⟩
        ·
          refine z_aload_n X (x := A 179) (show cdA 273 68 = some (.aload_n 0, 1, 0, 0, 0) from rfl) (List.Mem.tail _ (List.Mem.head _)) ?_
          refine z_load_n X (x := y) (show cdA 273 69 = some (.iload_n 2, 1, 0, 0, 0) from rfl) (List.Mem.tail _ (List.Mem.tail _ (List.Mem.tail _ (List.Mem.head _)))) ?_
          refine s_putI X 179 (show cdA 273 70 = some (.putfield 130, 3, 12, 63, 0) from rfl) (by decide) rfl rfl (by decide) rfl rfl rfl ?_
          obtain ⟨s14, hs14⟩ : ∃ x0, x0 = uI s6 102 (Int32.ofInt y) := ⟨_, rfl⟩
          rw [← hs14]
          have Is14 : Bd s14 := by rw [hs14]; exact bd_I Is6 (show (1 : Int) ≤ y ∧ y ≤ 24 by first | exact ⟨oq_7a39abe9 g12 g5 hps3, oq_fc8cbade g12 g5 hps3⟩ | omega) ⟨by first | exact p1.1 | omega, by first | exact p1.2 | omega⟩
          have Fs14 := fm_I (x := Int32.ofInt y) Gs6 (show 102 ∈ _ by decide)
          rw [← hs14] at Fs14
          have vs14 : iI s14 102 = y := by rw [hs14]; exact iI_u ⟨by first | exact p1.1 | omega, by first | exact p1.2 | omega⟩
          have ws14_73 : iI s14 73 = iI s6 73 := by rw [hs14]; rfl
          refine z_goto X (t := 81) (show cdA 273 73 = some (.goto 8, 3, 0, 0, 0) from rfl) (by decide) ?_
          refine z_load_n X (x := e11) (show cdA 273 81 = some (.iload_n 3, 1, 0, 0, 0) from rfl) (List.Mem.head _) ?_
          exact w_iret X.1 q hRt rfl (ax_d X (show cdA 273 82 = some (.ireturn, 1, 0, 0, 0) from rfl)) (Nat.zero_le _) (Nat.zero_le _) ⟨_, rfl, Is14, Fs14, e11, rfl, ⟨by first | exact oq_62abe554 he11 | omega, by first | exact oq_c46c61bd he11 | omega⟩, trivial⟩
      refine z_if_ne X (t := 59) (show cdA 273 49 = some (.ifCond .ne 10, 3, 1, 0, 0) from rfl) (by decide) ⟨by first | exact p0.1 | omega, by first | exact p0.2 | omega⟩ (fun g15 => ?_) (fun g15 => ?_)
      ·
        refine z_aload_n X (x := A 179) (show cdA 273 59 = some (.aload_n 0, 1, 0, 0, 0) from rfl) (List.Mem.head _) ?_
        refine z_getI X 179 (show cdA 273 60 = some (.getfield 133, 3, 12, 64, 0) from rfl) (by decide) rfl rfl ?_
        have b16 : (1 : Int) ≤ iI s6 103 ∧ iI s6 103 ≤ 8 := Is6.1 103
        exact N10 _ (Or.inl ⟨g15, b16, rfl⟩)
      ·
        refine z_aload_n X (x := A 179) (show cdA 273 52 = some (.aload_n 0, 1, 0, 0, 0) from rfl) (List.Mem.head _) ?_
        refine z_getI X 179 (show cdA 273 53 = some (.getfield 130, 3, 12, 63, 0) from rfl) (by decide) rfl rfl ?_
        have b17 : (1 : Int) ≤ iI s6 102 ∧ iI s6 102 ≤ 24 := Is6.1 102
        refine z_goto X (t := 63) (show cdA 273 56 = some (.goto 7, 3, 0, 0, 0) from rfl) (by decide) ?_
        exact N10 _ (Or.inr (⟨g15, b17, rfl⟩))
    ·
      refine z_const X (show cdA 273 46 = some (.iconst 0, 1, 0, 0, 0) from rfl) ?_
      exact w_iret X.1 q hRt rfl (ax_d X (show cdA 273 47 = some (.ireturn, 1, 0, 0, 0) from rfl)) (Nat.zero_le _) (Nat.zero_le _) ⟨_, rfl, Is6, Gs6, 0, rfl, (by decide), trivial⟩
  ·
    refine z_load_n X (x := y) (show cdA 273 15 = some (.iload_n 2, 1, 0, 0, 0) from rfl) (List.Mem.tail _ (List.Mem.tail _ (List.Mem.head _))) ?_
    refine z_const X (show cdA 273 16 = some (.iconst 1, 1, 0, 0, 0) from rfl) ?_
    refine z_load_n X (x := x) (show cdA 273 17 = some (.iload_n 1, 1, 0, 0, 0) from rfl) (List.Mem.tail _ (List.Mem.head _)) ?_
    have N18 : ∀ e19 : Int, (((x ≠ 0) ∧ e19 = 8) ∨ ((x = 0) ∧ e19 = 24)) → WS k 28 [(0, .ref (A 179)), (1, .int (Int32.ofInt x)), (2, .int (Int32.ofInt y))] [.int (Int32.ofInt e19), .int (Int32.ofInt 1), .int (Int32.ofInt y), .ref (A 179)] (Wd A dT s3) 0 0 := by
      intro e19 he19
      have re19 : 8 ≤ e19 ∧ e19 ≤ 24 := by omega
      refine z_callS X (rm := rmN 188) (As := [.int (Int32.ofInt y), .int (Int32.ofInt 1), .int (Int32.ofInt e19)]) (st := [.ref (A 179)]) (show cdA 273 28 = some (.invokestatic 209, 3, 188, 1, 0) from rfl) rfl (by rw [E.1, E.2.1, E.2.2.1]; exact k_in G Is3 (by first | exact ⟨p1.1, p1.2⟩ | omega) (by first | exact ⟨by decide, by decide⟩ | omega) (by first | exact ⟨oq_ebc40354 re19.1, oq_5bcd337f re19.2⟩ | omega)) ⟨by rw [E.2.2.2]; exact (show (rmN 188).frames + 1 ≤ (rmN 273).frames by decide), by rw [E.2.2.2]; exact (show 8 + (mNL (miB 188) + 11) + (rmN 188).locals ≤ (rmN 273).locals by decide), by rw [E.2.2.2]; exact (show 0 + (rmN 188).cells ≤ (rmN 273).cells by decide), by rw [E.2.2.2]; exact (show 0 + (rmN 188).slots ≤ (rmN 273).slots by decide)⟩ (Nat.le_of_ble_eq_true rfl) (fun vv s20 hq => ?_) (fun ee s20 hq => ?_)
      rotate_left
      · obtain ⟨Is20, Fs20, e21, hv, hrs20, hps20⟩ := hq; cases hv
      obtain ⟨Is20, Fs20, e21, hv, hrs20, hps20⟩ := hq
      cases hv
      have Gs20 := fm_ts Gs3 Fs20 (by decide) (by decide)
      have ws20_73 : iI s20 73 = iI s3 73 := fm_i Fs20 (by decide)
      show WS k 31 [(0, .ref (A 179)), (1, .int (Int32.ofInt x)), (2, .int (Int32.ofInt y))] [.int (Int32.ofInt e21), .ref (A 179)] (Wd A dT s20) 0 0
      have N22 : ∀ e23 : Int, (((e21 ≠ 0) ∧ e23 = 0) ∨ ((e21 = 0) ∧ e23 = 1)) → WS k 39 [(0, .ref (A 179)), (1, .int (Int32.ofInt x)), (2, .int (Int32.ofInt y))] [.int (Int32.ofInt e23), .ref (A 179)] (Wd A dT s20) 0 0 := by
        intro e23 he23
        have re23 : 0 ≤ e23 ∧ e23 ≤ 1 := by omega
        refine z_const X (show cdA 273 39 = some (.iconst 1, 1, 0, 0, 0) from rfl) ?_
        refine z_callV X 179 (rm := rmN 187) (As := [.int (Int32.ofInt e23), .int (Int32.ofInt 1)]) (st := []) (show cdA 273 40 = some (.invokevirtual 229, 3, 187, 0, 0) from rfl) rfl (by decide) rfl (by rw [E.1, E.2.1, E.2.2.1]; exact k_bad G Is20 (by first | exact oq_31e518ae re23.2 re23.1 | omega) (by first | exact ⟨by decide, by decide⟩ | omega)) ⟨by rw [E.2.2.2]; exact (show (rmN 187).frames + 1 ≤ (rmN 273).frames by decide), by rw [E.2.2.2]; exact (show 8 + (mNL (miB 187) + 11) + (rmN 187).locals ≤ (rmN 273).locals by decide), by rw [E.2.2.2]; exact (show 0 + (rmN 187).cells ≤ (rmN 273).cells by decide), by rw [E.2.2.2]; exact (show 0 + (rmN 187).slots ≤ (rmN 273).slots by decide)⟩ (Nat.le_of_ble_eq_true rfl) (fun vv s24 hq => ?_) (fun ee s24 hq => ?_)
        rotate_left
        · obtain ⟨Is24, Fs24, e25, hv, hrs24, hps24⟩ := hq; cases hv
        obtain ⟨Is24, Fs24, e25, hv, hrs24, hps24⟩ := hq
        cases hv
        have Gs24 := fm_ts Gs20 Fs24 (by decide) (by decide)
        have b26 : (0 : Int) ≤ iI s24 73 ∧ iI s24 73 ≤ 3 := Is24.1 73
        show WS k 43 [(0, .ref (A 179)), (1, .int (Int32.ofInt x)), (2, .int (Int32.ofInt y))] [.int (Int32.ofInt e25)] (Wd A dT s24) 0 0
        refine z_if_eq X (t := 48) (show cdA 273 43 = some (.ifCond .eq 5, 3, 0, 0, 0) from rfl) (by decide) hrs24 (fun g27 => ?_) (fun g27 => ?_)
        ·
          refine z_load_n X (x := x) (show cdA 273 48 = some (.iload_n 1, 1, 0, 0, 0) from rfl) (List.Mem.tail _ (List.Mem.head _)) ?_
          have N28 : ∀ e29 : Int, (((x ≠ 0) ∧ ((1 : Int) ≤ iI s24 103 ∧ iI s24 103 ≤ 8) ∧ e29 = (iI s24 103)) ∨ ((x = 0) ∧ ((1 : Int) ≤ iI s24 102 ∧ iI s24 102 ≤ 24) ∧ e29 = (iI s24 102))) → WS k 63 [(0, .ref (A 179)), (1, .int (Int32.ofInt x)), (2, .int (Int32.ofInt y))] [.int (Int32.ofInt e29)] (Wd A dT s24) 0 0 := by
            intro e29 he29
            refine z_store_n X (lv' := [(3, .int (Int32.ofInt e29)), (0, .ref (A 179)), (1, .int (Int32.ofInt x)), (2, .int (Int32.ofInt y))]) (show cdA 273 63 = some (.istore_n 3, 1, 0, 0, 0) from rfl) (by decide) (fun _ h => h) ?_
            refine z_load_n X (x := x) (show cdA 273 64 = some (.iload_n 1, 1, 0, 0, 0) from rfl) (List.Mem.tail _ (List.Mem.tail _ (List.Mem.head _))) ?_
            refine z_if_ne X (t := 76) (show cdA 273 65 = some (.ifCond .ne 11, 3, 1, 0, 0) from rfl) (by decide) ⟨by first | exact p0.1 | omega, by first | exact p0.2 | omega⟩ (fun g30 => ?_) (fun g30 => ?_)
            ·
              refine z_aload_n X (x := A 179) (show cdA 273 76 = some (.aload_n 0, 1, 0, 0, 0) from rfl) (List.Mem.tail _ (List.Mem.head _)) ?_
              refine z_load_n X (x := y) (show cdA 273 77 = some (.iload_n 2, 1, 0, 0, 0) from rfl) (List.Mem.tail _ (List.Mem.tail _ (List.Mem.tail _ (List.Mem.head _)))) ?_
              refine s_putI X 179 (show cdA 273 78 = some (.putfield 133, 3, 12, 64, 0) from rfl) (by decide) rfl rfl (by decide) rfl rfl rfl ?_
              obtain ⟨s31, hs31⟩ : ∃ x0, x0 = uI s24 103 (Int32.ofInt y) := ⟨_, rfl⟩
              rw [← hs31]
              have Is31 : Bd s31 := by rw [hs31]; exact bd_I Is24 (show (1 : Int) ≤ y ∧ y ≤ 8 by first | exact ⟨oq_e8d47ac5 g27 hps24.2.1 re23.2 he23 hps20, by omega⟩ | omega) ⟨by first | exact p1.1 | omega, by first | exact p1.2 | omega⟩
              have Fs31 := fm_I (x := Int32.ofInt y) Gs24 (show 103 ∈ _ by decide)
              rw [← hs31] at Fs31
              have vs31 : iI s31 103 = y := by rw [hs31]; exact iI_u ⟨by first | exact p1.1 | omega, by first | exact p1.2 | omega⟩
              have ws31_73 : iI s31 73 = iI s24 73 := by rw [hs31]; rfl
              refine z_load_n X (x := e29) (show cdA 273 81 = some (.iload_n 3, 1, 0, 0, 0) from rfl) (List.Mem.head _) ?_
              exact w_iret X.1 q hRt rfl (ax_d X (show cdA 273 82 = some (.ireturn, 1, 0, 0, 0) from rfl)) (Nat.zero_le _) (Nat.zero_le _) ⟨_, rfl, Is31, Fs31, e29, rfl, ⟨by first | exact oq_62abe554 he29 | omega, by first | exact oq_c46c61bd he29 | omega⟩, trivial⟩
            ·
              refine z_aload_n X (x := A 179) (show cdA 273 68 = some (.aload_n 0, 1, 0, 0, 0) from rfl) (List.Mem.tail _ (List.Mem.head _)) ?_
              refine z_load_n X (x := y) (show cdA 273 69 = some (.iload_n 2, 1, 0, 0, 0) from rfl) (List.Mem.tail _ (List.Mem.tail _ (List.Mem.tail _ (List.Mem.head _)))) ?_
              refine s_putI X 179 (show cdA 273 70 = some (.putfield 130, 3, 12, 63, 0) from rfl) (by decide) rfl rfl (by decide) rfl rfl rfl ?_
              obtain ⟨s32, hs32⟩ : ∃ x0, x0 = uI s24 102 (Int32.ofInt y) := ⟨_, rfl⟩
              rw [← hs32]
              have Is32 : Bd s32 := by rw [hs32]; exact bd_I Is24 (show (1 : Int) ≤ y ∧ y ≤ 24 by first | exact ⟨oq_e8d47ac5 g27 hps24.2.1 re23.2 he23 hps20, oq_71db95f9 g27 hps24.2.1 re23.2 he23 hps20 re19.2⟩ | omega) ⟨by first | exact p1.1 | omega, by first | exact p1.2 | omega⟩
              have Fs32 := fm_I (x := Int32.ofInt y) Gs24 (show 102 ∈ _ by decide)
              rw [← hs32] at Fs32
              have vs32 : iI s32 102 = y := by rw [hs32]; exact iI_u ⟨by first | exact p1.1 | omega, by first | exact p1.2 | omega⟩
              have ws32_73 : iI s32 73 = iI s24 73 := by rw [hs32]; rfl
              refine z_goto X (t := 81) (show cdA 273 73 = some (.goto 8, 3, 0, 0, 0) from rfl) (by decide) ?_
              refine z_load_n X (x := e29) (show cdA 273 81 = some (.iload_n 3, 1, 0, 0, 0) from rfl) (List.Mem.head _) ?_
              exact w_iret X.1 q hRt rfl (ax_d X (show cdA 273 82 = some (.ireturn, 1, 0, 0, 0) from rfl)) (Nat.zero_le _) (Nat.zero_le _) ⟨_, rfl, Is32, Fs32, e29, rfl, ⟨by first | exact oq_62abe554 he29 | omega, by first | exact oq_c46c61bd he29 | omega⟩, trivial⟩
          refine z_if_ne X (t := 59) (show cdA 273 49 = some (.ifCond .ne 10, 3, 1, 0, 0) from rfl) (by decide) ⟨by first | exact p0.1 | omega, by first | exact p0.2 | omega⟩ (fun g33 => ?_) (fun g33 => ?_)
          ·
            refine z_aload_n X (x := A 179) (show cdA 273 59 = some (.aload_n 0, 1, 0, 0, 0) from rfl) (List.Mem.head _) ?_
            refine z_getI X 179 (show cdA 273 60 = some (.getfield 133, 3, 12, 64, 0) from rfl) (by decide) rfl rfl ?_
            have b34 : (1 : Int) ≤ iI s24 103 ∧ iI s24 103 ≤ 8 := Is24.1 103
            exact N28 _ (Or.inl ⟨g33, b34, rfl⟩)
          ·
            refine z_aload_n X (x := A 179) (show cdA 273 52 = some (.aload_n 0, 1, 0, 0, 0) from rfl) (List.Mem.head _) ?_
            refine z_getI X 179 (show cdA 273 53 = some (.getfield 130, 3, 12, 63, 0) from rfl) (by decide) rfl rfl ?_
            have b35 : (1 : Int) ≤ iI s24 102 ∧ iI s24 102 ≤ 24 := Is24.1 102
            refine z_goto X (t := 63) (show cdA 273 56 = some (.goto 7, 3, 0, 0, 0) from rfl) (by decide) ?_
            exact N28 _ (Or.inr (⟨g33, b35, rfl⟩))
        ·
          refine z_const X (show cdA 273 46 = some (.iconst 0, 1, 0, 0, 0) from rfl) ?_
          exact w_iret X.1 q hRt rfl (ax_d X (show cdA 273 47 = some (.ireturn, 1, 0, 0, 0) from rfl)) (Nat.zero_le _) (Nat.zero_le _) ⟨_, rfl, Is24, Gs24, 0, rfl, (by decide), trivial⟩
      refine z_if_ne X (t := 38) (show cdA 273 31 = some (.ifCond .ne 7, 3, 1, 0, 0) from rfl) (by decide) hrs20 (fun g36 => ?_) (fun g36 => ?_)
      ·
        refine z_const X (show cdA 273 38 = some (.iconst 0, 1, 0, 0, 0) from rfl) ?_
        exact N22 _ (Or.inl ⟨g36, rfl⟩)
      ·
        refine z_const X (show cdA 273 34 = some (.iconst 1, 1, 0, 0, 0) from rfl) ?_
        refine z_goto X (t := 39) (show cdA 273 35 = some (.goto 4, 3, 0, 0, 0) from rfl) (by decide) ?_
        exact N22 _ (Or.inr (⟨g36, rfl⟩))
    refine z_if_ne X (t := 26) (show cdA 273 18 = some (.ifCond .ne 8, 3, 1, 0, 0) from rfl) (by decide) ⟨by first | exact p0.1 | omega, by first | exact p0.2 | omega⟩ (fun g37 => ?_) (fun g37 => ?_)
    ·
      refine z_bipush X (show cdA 273 26 = some (.bipush 8, 2, 0, 0, 8) from rfl) ?_
      exact N18 _ (Or.inl ⟨g37, rfl⟩)
    ·
      refine z_bipush X (show cdA 273 21 = some (.bipush 24, 2, 0, 0, 24) from rfl) ?_
      refine z_goto X (t := 28) (show cdA 273 23 = some (.goto 5, 3, 0, 0, 0) from rfl) (by decide) ?_
      exact N18 _ (Or.inr (⟨g37, rfl⟩))
theorem k_storm (G : GX l s0 D tys a0 dT) (I : Bd s) {x y : Int} (p0 : rng x) (p1 : y = 0 ∨ y = 1) : CT l s0 D A dT 279 (rmN 279) [.ref (A 179), .int (Int32.ofInt x), .int (Int32.ofInt y)] s (fun o t => Bd t ∧ Fm [73] [399] s t ∧ ∃ e, o = .inl (some (.int (Int32.ofInt e))) ∧ rng e ∧ (True)) := by
  refine ct_of G (by decide) (Nat.le_of_ble_eq_true rfl) (fun k X E hRt hXt q => ?_)
  show WS k 0 [(0, .ref (A 179)), (1, .int (Int32.ofInt x)), (2, .int (Int32.ofInt y))] [] _ 0 0
  have F : Fm [73] [399] s s := fm_rf _ _ s
  have b1 : (0 : Int) ≤ iI s 73 ∧ iI s 73 ≤ 3 := I.1 73
  refine z_aload_n X (x := A 179) (show cdA 279 0 = some (.aload_n 0, 1, 0, 0, 0) from rfl) (List.Mem.head _) ?_
  refine z_const X (show cdA 279 1 = some (.iconst 0, 1, 0, 0, 0) from rfl) ?_
  refine s_putI X 179 (show cdA 279 2 = some (.putfield 172, 3, 12, 0, 0) from rfl) (by decide) rfl rfl (by decide) rfl rfl rfl ?_
  obtain ⟨s2, hs2⟩ : ∃ x0, x0 = uI s 73 (Int32.ofInt 0) := ⟨_, rfl⟩
  rw [← hs2]
  have Is2 : Bd s2 := by rw [hs2]; exact bd_I I (show (0 : Int) ≤ 0 ∧ 0 ≤ 3 by first | exact ⟨by decide, by decide⟩ | omega) (by decide)
  have Fs2 := fm_I (x := Int32.ofInt 0) F (show 73 ∈ _ by decide)
  rw [← hs2] at Fs2
  have vs2 : iI s2 73 = 0 := by rw [hs2]; exact iI_u (by decide)
  refine z_aload_n X (x := A 179) (show cdA 279 5 = some (.aload_n 0, 1, 0, 0, 0) from rfl) (List.Mem.head _) ?_
  refine z_load_n X (x := x) (show cdA 279 6 = some (.iload_n 1, 1, 0, 0, 0) from rfl) (List.Mem.tail _ (List.Mem.head _)) ?_
  refine z_const X (show cdA 279 7 = some (.iconst 0, 1, 0, 0, 0) from rfl) ?_
  refine z_bipush X (show cdA 279 8 = some (.bipush 127, 2, 0, 0, 127) from rfl) ?_
  refine z_callS X (rm := rmN 188) (As := [.int (Int32.ofInt x), .int (Int32.ofInt 0), .int (Int32.ofInt 127)]) (st := [.ref (A 179)]) (show cdA 279 10 = some (.invokestatic 209, 3, 188, 1, 0) from rfl) rfl (by rw [E.1, E.2.1, E.2.2.1]; exact k_in G Is2 (by first | exact ⟨p0.1, p0.2⟩ | omega) (by first | exact ⟨by decide, by decide⟩ | omega) (by first | exact ⟨by decide, by decide⟩ | omega)) ⟨by rw [E.2.2.2]; exact (show (rmN 188).frames + 1 ≤ (rmN 279).frames by decide), by rw [E.2.2.2]; exact (show 8 + (mNL (miB 188) + 11) + (rmN 188).locals ≤ (rmN 279).locals by decide), by rw [E.2.2.2]; exact (show 0 + (rmN 188).cells ≤ (rmN 279).cells by decide), by rw [E.2.2.2]; exact (show 0 + (rmN 188).slots ≤ (rmN 279).slots by decide)⟩ (Nat.le_of_ble_eq_true rfl) (fun vv s3 hq => ?_) (fun ee s3 hq => ?_)
  rotate_left
  · obtain ⟨Is3, Fs3, e4, hv, hrs3, hps3⟩ := hq; cases hv
  obtain ⟨Is3, Fs3, e4, hv, hrs3, hps3⟩ := hq
  cases hv
  have Gs3 := fm_ts Fs2 Fs3 (by decide) (by decide)
  have ws3_73 : iI s3 73 = iI s2 73 := fm_i Fs3 (by decide)
  show WS k 13 [(0, .ref (A 179)), (1, .int (Int32.ofInt x)), (2, .int (Int32.ofInt y))] [.int (Int32.ofInt e4), .ref (A 179)] (Wd A dT s3) 0 0
  have N5 : ∀ e6 : Int, (((e4 ≠ 0) ∧ e6 = 0) ∨ ((e4 = 0) ∧ e6 = 1)) → WS k 21 [(0, .ref (A 179)), (1, .int (Int32.ofInt x)), (2, .int (Int32.ofInt y))] [.int (Int32.ofInt e6), .ref (A 179)] (Wd A dT s3) 0 0 := by
    intro e6 he6
    have re6 : 0 ≤ e6 ∧ e6 ≤ 1 := by omega
    refine z_const X (show cdA 279 21 = some (.iconst 1, 1, 0, 0, 0) from rfl) ?_
    refine z_callV X 179 (rm := rmN 187) (As := [.int (Int32.ofInt e6), .int (Int32.ofInt 1)]) (st := []) (show cdA 279 22 = some (.invokevirtual 229, 3, 187, 0, 0) from rfl) rfl (by decide) rfl (by rw [E.1, E.2.1, E.2.2.1]; exact k_bad G Is3 (by first | exact oq_31e518ae re6.2 re6.1 | omega) (by first | exact ⟨by decide, by decide⟩ | omega)) ⟨by rw [E.2.2.2]; exact (show (rmN 187).frames + 1 ≤ (rmN 279).frames by decide), by rw [E.2.2.2]; exact (show 8 + (mNL (miB 187) + 11) + (rmN 187).locals ≤ (rmN 279).locals by decide), by rw [E.2.2.2]; exact (show 0 + (rmN 187).cells ≤ (rmN 279).cells by decide), by rw [E.2.2.2]; exact (show 0 + (rmN 187).slots ≤ (rmN 279).slots by decide)⟩ (Nat.le_of_ble_eq_true rfl) (fun vv s7 hq => ?_) (fun ee s7 hq => ?_)
    rotate_left
    · obtain ⟨Is7, Fs7, e8, hv, hrs7, hps7⟩ := hq; cases hv
    obtain ⟨Is7, Fs7, e8, hv, hrs7, hps7⟩ := hq
    cases hv
    have Gs7 := fm_ts Gs3 Fs7 (by decide) (by decide)
    have b9 : (0 : Int) ≤ iI s7 73 ∧ iI s7 73 ≤ 3 := Is7.1 73
    show WS k 25 [(0, .ref (A 179)), (1, .int (Int32.ofInt x)), (2, .int (Int32.ofInt y))] [.int (Int32.ofInt e8)] (Wd A dT s7) 0 0
    refine z_if_eq X (t := 30) (show cdA 279 25 = some (.ifCond .eq 5, 3, 0, 0, 0) from rfl) (by decide) hrs7 (fun g10 => ?_) (fun g10 => ?_)
    ·
      refine z_aload_n X (x := A 179) (show cdA 279 30 = some (.aload_n 0, 1, 0, 0, 0) from rfl) (List.Mem.head _) ?_
      refine s_getR X 179 (show cdA 279 31 = some (.getfield 139, 3, 12, 67, 0) from rfl) (by decide) rfl rfl ?_
      refine z_load_n X (x := x) (show cdA 279 34 = some (.iload_n 1, 1, 0, 0, 0) from rfl) (List.Mem.tail _ (List.Mem.head _)) ?_
      refine z_zald X 454 (show cdA 279 35 = some (.baload, 1, 0, 0, 0) from rfl) (by decide) rfl (by first | exact oq_d2f74293 g10 hps7.2.1 re6.2 he6 hps3 | omega) (show x < 128 by first | exact oq_bb641c4c g10 hps7.2.1 re6.2 he6 hps3 | omega) (by decide) ?_
      have b11 : (0 : Int) ≤ iC s7 399 (x).toNat ∧ iC s7 399 (x).toNat ≤ 1 := Is7.2 399 _ (show (x).toNat < 128 by first | exact oq_48be0e30 g10 hps7.2.1 re6.2 he6 hps3 | omega)
      refine z_store_n X (lv' := [(3, .int (Int32.ofInt (iC s7 399 (x).toNat))), (0, .ref (A 179)), (1, .int (Int32.ofInt x)), (2, .int (Int32.ofInt y))]) (show cdA 279 36 = some (.istore_n 3, 1, 0, 0, 0) from rfl) (by decide) (fun _ h => h) ?_
      refine z_aload_n X (x := A 179) (show cdA 279 37 = some (.aload_n 0, 1, 0, 0, 0) from rfl) (List.Mem.tail _ (List.Mem.head _)) ?_
      refine s_getR X 179 (show cdA 279 38 = some (.getfield 139, 3, 12, 67, 0) from rfl) (by decide) rfl rfl ?_
      refine z_load_n X (x := x) (show cdA 279 41 = some (.iload_n 1, 1, 0, 0, 0) from rfl) (List.Mem.tail _ (List.Mem.tail _ (List.Mem.head _))) ?_
      refine z_load_n X (x := y) (show cdA 279 42 = some (.iload_n 2, 1, 0, 0, 0) from rfl) (List.Mem.tail _ (List.Mem.tail _ (List.Mem.tail _ (List.Mem.head _)))) ?_
      refine z_zast X 454 (show cdA 279 43 = some (.bastore, 1, 0, 0, 0) from rfl) (by decide) rfl (by first | exact oq_d2f74293 g10 hps7.2.1 re6.2 he6 hps3 | omega) (show x < 128 by first | exact oq_bb641c4c g10 hps7.2.1 re6.2 he6 hps3 | omega) (by decide) (by first | exact p1 | omega) ?_
      obtain ⟨s12, hs12⟩ : ∃ x0, x0 = uC s7 399 (x).toNat (Int32.ofInt y) := ⟨_, rfl⟩
      rw [← hs12]
      have Is12 : Bd s12 := by rw [hs12]; exact bd_C Is7 (show (0 : Int) ≤ y ∧ y ≤ 1 by first | exact ⟨oq_e4aca38c p1, oq_14617724 p1⟩ | omega) ⟨by first | exact oq_bde653e9 p1 | omega, by first | exact oq_4ad2cb8b p1 | omega⟩
      have Fs12 := fm_C (i := (x).toNat) (x := Int32.ofInt y) Gs7 (show 399 ∈ _ by decide)
      rw [← hs12] at Fs12
      have ws12_73 : iI s12 73 = iI s7 73 := by rw [hs12]; rfl
      refine z_load_n X (x := (iC s7 399 (x).toNat)) (show cdA 279 44 = some (.iload_n 3, 1, 0, 0, 0) from rfl) (List.Mem.head _) ?_
      exact w_iret X.1 q hRt (nar_ret (by first | exact oq_31e518ae b11.2 b11.1 | omega)) (ax_d X (show cdA 279 45 = some (.ireturn, 1, 0, 0, 0) from rfl)) (Nat.zero_le _) (Nat.zero_le _) ⟨_, rfl, Is12, Fs12, (iC s7 399 (x).toNat), rfl, (rng_to _), trivial⟩
    ·
      refine z_const X (show cdA 279 28 = some (.iconst 0, 1, 0, 0, 0) from rfl) ?_
      exact w_iret X.1 q hRt (nar_ret (by first | exact Or.inl (by decide) | omega)) (ax_d X (show cdA 279 29 = some (.ireturn, 1, 0, 0, 0) from rfl)) (Nat.zero_le _) (Nat.zero_le _) ⟨_, rfl, Is7, Gs7, 0, rfl, (by decide), trivial⟩
  refine z_if_ne X (t := 20) (show cdA 279 13 = some (.ifCond .ne 7, 3, 1, 0, 0) from rfl) (by decide) hrs3 (fun g13 => ?_) (fun g13 => ?_)
  ·
    refine z_const X (show cdA 279 20 = some (.iconst 0, 1, 0, 0, 0) from rfl) ?_
    exact N5 _ (Or.inl ⟨g13, rfl⟩)
  ·
    refine z_const X (show cdA 279 16 = some (.iconst 1, 1, 0, 0, 0) from rfl) ?_
    refine z_goto X (t := 21) (show cdA 279 17 = some (.goto 4, 3, 0, 0, 0) from rfl) (by decide) ?_
    exact N5 _ (Or.inr (⟨g13, rfl⟩))
theorem k_configure (G : GX l s0 D tys a0 dT) (I : Bd s) {x : Int} (p0 : rng x) : CT l s0 D A dT 264 (rmN 264) [.ref (A 179), .int (Int32.ofInt x)] s (fun o t => Bd t ∧ Fm [73, 99] [237] s t ∧ ∃ e, o = .inl (some (.int (Int32.ofInt e))) ∧ rng e ∧ (True)) := by
  refine ct_of G (by decide) (Nat.le_of_ble_eq_true rfl) (fun k X E hRt hXt q => ?_)
  show WS k 0 [(0, .ref (A 179)), (1, .int (Int32.ofInt x))] [] _ 0 0
  have F : Fm [73, 99] [237] s s := fm_rf _ _ s
  have b1 : (0 : Int) ≤ iI s 73 ∧ iI s 73 ≤ 3 := I.1 73
  have b2 : (0 : Int) ≤ iI s 99 ∧ iI s 99 ≤ 6 := I.1 99
  refine z_aload_n X (x := A 179) (show cdA 264 0 = some (.aload_n 0, 1, 0, 0, 0) from rfl) (List.Mem.head _) ?_
  refine z_const X (show cdA 264 1 = some (.iconst 0, 1, 0, 0, 0) from rfl) ?_
  refine s_putI X 179 (show cdA 264 2 = some (.putfield 172, 3, 12, 0, 0) from rfl) (by decide) rfl rfl (by decide) rfl rfl rfl ?_
  obtain ⟨s3, hs3⟩ : ∃ x0, x0 = uI s 73 (Int32.ofInt 0) := ⟨_, rfl⟩
  rw [← hs3]
  have Is3 : Bd s3 := by rw [hs3]; exact bd_I I (show (0 : Int) ≤ 0 ∧ 0 ≤ 3 by first | exact ⟨by decide, by decide⟩ | omega) (by decide)
  have Fs3 := fm_I (x := Int32.ofInt 0) F (show 73 ∈ _ by decide)
  rw [← hs3] at Fs3
  have vs3 : iI s3 73 = 0 := by rw [hs3]; exact iI_u (by decide)
  have ws3_99 : iI s3 99 = iI s 99 := by rw [hs3]; rfl
  refine z_aload_n X (x := A 179) (show cdA 264 5 = some (.aload_n 0, 1, 0, 0, 0) from rfl) (List.Mem.head _) ?_
  refine z_load_n X (x := x) (show cdA 264 6 = some (.iload_n 1, 1, 0, 0, 0) from rfl) (List.Mem.tail _ (List.Mem.head _)) ?_
  refine z_if_lt X (t := 17) (show cdA 264 7 = some (.ifCond .lt 10, 3, 2, 0, 0) from rfl) (by decide) ⟨by first | exact p0.1 | omega, by first | exact p0.2 | omega⟩ (fun g4 => ?_) (fun g4 => ?_)
  ·
    refine z_const X (show cdA 264 17 = some (.iconst 1, 1, 0, 0, 0) from rfl) ?_
    refine z_goto X (t := 22) (show cdA 264 18 = some (.goto 4, 3, 0, 0, 0) from rfl) (by decide) ?_
    refine z_const X (show cdA 264 22 = some (.iconst 1, 1, 0, 0, 0) from rfl) ?_
    refine z_callV X 179 (rm := rmN 187) (As := [.int (Int32.ofInt 1), .int (Int32.ofInt 1)]) (st := []) (show cdA 264 23 = some (.invokevirtual 229, 3, 187, 0, 0) from rfl) rfl (by decide) rfl (by rw [E.1, E.2.1, E.2.2.1]; exact k_bad G Is3 (by first | exact Or.inr (by decide) | omega) (by first | exact ⟨by decide, by decide⟩ | omega)) ⟨by rw [E.2.2.2]; exact (show (rmN 187).frames + 1 ≤ (rmN 264).frames by decide), by rw [E.2.2.2]; exact (show 8 + (mNL (miB 187) + 11) + (rmN 187).locals ≤ (rmN 264).locals by decide), by rw [E.2.2.2]; exact (show 0 + (rmN 187).cells ≤ (rmN 264).cells by decide), by rw [E.2.2.2]; exact (show 0 + (rmN 187).slots ≤ (rmN 264).slots by decide)⟩ (Nat.le_of_ble_eq_true rfl) (fun vv s5 hq => ?_) (fun ee s5 hq => ?_)
    rotate_left
    · obtain ⟨Is5, Fs5, e6, hv, hrs5, hps5⟩ := hq; cases hv
    obtain ⟨Is5, Fs5, e6, hv, hrs5, hps5⟩ := hq
    cases hv
    have Gs5 := fm_ts Fs3 Fs5 (by decide) (by decide)
    have b7 : (0 : Int) ≤ iI s5 73 ∧ iI s5 73 ≤ 3 := Is5.1 73
    have ws5_99 : iI s5 99 = iI s3 99 := fm_i Fs5 (by decide)
    show WS k 26 [(0, .ref (A 179)), (1, .int (Int32.ofInt x))] [.int (Int32.ofInt e6)] (Wd A dT s5) 0 0
    refine z_if_eq X (t := 31) (show cdA 264 26 = some (.ifCond .eq 5, 3, 0, 0, 0) from rfl) (by decide) hrs5 (fun g8 => ?_) (fun g8 => ?_)
    ·
      refine z_aload_n X (x := A 179) (show cdA 264 31 = some (.aload_n 0, 1, 0, 0, 0) from rfl) (List.Mem.head _) ?_
      refine z_getI X 179 (show cdA 264 32 = some (.getfield 404, 3, 12, 48, 0) from rfl) (by decide) rfl rfl ?_
      have b9 : (0 : Int) ≤ iI s5 99 ∧ iI s5 99 ≤ 6 := Is5.1 99
      refine z_bipush X (show cdA 264 35 = some (.bipush 6, 2, 0, 0, 6) from rfl) ?_
      refine z_icmp_ne X (t := 42) (show cdA 264 37 = some (.if_icmp .ne 5, 3, 1, 0, 0) from rfl) (by decide) (rng_to _) (by decide) (fun g10 => ?_) (fun g10 => ?_)
      ·
        refine z_aload_n X (x := A 179) (show cdA 264 42 = some (.aload_n 0, 1, 0, 0, 0) from rfl) (List.Mem.head _) ?_
        refine s_getR X 179 (show cdA 264 43 = some (.getfield 101, 3, 12, 52, 0) from rfl) (by decide) rfl rfl ?_
        refine z_aload_n X (x := A 179) (show cdA 264 46 = some (.aload_n 0, 1, 0, 0, 0) from rfl) (List.Mem.head _) ?_
        refine z_getI X 179 (show cdA 264 47 = some (.getfield 404, 3, 12, 48, 0) from rfl) (by decide) rfl rfl ?_
        have b11 : (0 : Int) ≤ iI s5 99 ∧ iI s5 99 ≤ 6 := Is5.1 99
        refine z_load_n X (x := x) (show cdA 264 50 = some (.iload_n 1, 1, 0, 0, 0) from rfl) (List.Mem.tail _ (List.Mem.head _)) ?_
        refine z_ast X 265 (show cdA 264 51 = some (.iastore, 1, 0, 0, 0) from rfl) (by decide) rfl (by first | exact b11.1 | omega) (show (iI s5 99) < 6 by first | exact oq_fac8de0c b11.2 g10 | omega) (by decide) ?_
        obtain ⟨s12, hs12⟩ : ∃ x0, x0 = uC s5 237 ((iI s5 99)).toNat (Int32.ofInt x) := ⟨_, rfl⟩
        rw [← hs12]
        have Is12 : Bd s12 := by rw [hs12]; exact bd_C Is5 (show (0 : Int) ≤ x ∧ x ≤ 16777215 by first | exact ⟨oq_65cab3da g8 hps5.2.1, oq_c2c3ef0b g4⟩ | omega) ⟨by first | exact p0.1 | omega, by first | exact p0.2 | omega⟩
        have Fs12 := fm_C (i := ((iI s5 99)).toNat) (x := Int32.ofInt x) Gs5 (show 237 ∈ _ by decide)
        rw [← hs12] at Fs12
        have ws12_73 : iI s12 73 = iI s5 73 := by rw [hs12]; rfl
        have ws12_99 : iI s12 99 = iI s5 99 := by rw [hs12]; rfl
        refine z_aload_n X (x := A 179) (show cdA 264 52 = some (.aload_n 0, 1, 0, 0, 0) from rfl) (List.Mem.head _) ?_
        refine w_dup X.1 (ax_d X (show cdA 264 53 = some (.dup, 1, 0, 0, 0) from rfl)) rfl ?_
        refine z_getI X 179 (show cdA 264 54 = some (.getfield 404, 3, 12, 48, 0) from rfl) (by decide) rfl rfl ?_
        have b13 : (0 : Int) ≤ iI s12 99 ∧ iI s12 99 ≤ 6 := Is12.1 99
        refine z_const X (show cdA 264 57 = some (.iconst 1, 1, 0, 0, 0) from rfl) ?_
        refine z_add X (show cdA 264 58 = some (.iadd, 1, 0, 0, 0) from rfl) ?_
        refine s_putI X 179 (show cdA 264 59 = some (.putfield 404, 3, 12, 48, 0) from rfl) (by decide) rfl rfl (by decide) rfl rfl rfl ?_
        obtain ⟨s14, hs14⟩ : ∃ x0, x0 = uI s12 99 (Int32.ofInt ((iI s12 99) + 1)) := ⟨_, rfl⟩
        rw [← hs14]
        have Is14 : Bd s14 := by rw [hs14]; exact bd_I Is12 (show (0 : Int) ≤ ((iI s12 99) + 1) ∧ ((iI s12 99) + 1) ≤ 6 by first | exact ⟨oq_54f49eb5 b13.1, oq_6c19c907 ws12_99 b11.2 g10⟩ | omega) ⟨by first | exact oq_74de1e16 b13.1 | omega, by first | exact oq_5fe14c36 b13.2 | omega⟩
        have Fs14 := fm_I (x := Int32.ofInt ((iI s12 99) + 1)) Fs12 (show 99 ∈ _ by decide)
        rw [← hs14] at Fs14
        have vs14 : iI s14 99 = ((iI s12 99) + 1) := by rw [hs14]; exact iI_u ⟨by first | exact oq_74de1e16 b13.1 | omega, by first | exact oq_5fe14c36 b13.2 | omega⟩
        have ws14_73 : iI s14 73 = iI s12 73 := by rw [hs14]; rfl
        refine z_aload_n X (x := A 179) (show cdA 264 62 = some (.aload_n 0, 1, 0, 0, 0) from rfl) (List.Mem.head _) ?_
        refine z_getI X 179 (show cdA 264 63 = some (.getfield 404, 3, 12, 48, 0) from rfl) (by decide) rfl rfl ?_
        have b15 : (0 : Int) ≤ iI s14 99 ∧ iI s14 99 ≤ 6 := Is14.1 99
        refine z_const X (show cdA 264 66 = some (.iconst 1, 1, 0, 0, 0) from rfl) ?_
        refine z_sub X (show cdA 264 67 = some (.isub, 1, 0, 0, 0) from rfl) ?_
        exact w_iret X.1 q hRt rfl (ax_d X (show cdA 264 68 = some (.ireturn, 1, 0, 0, 0) from rfl)) (Nat.zero_le _) (Nat.zero_le _) ⟨_, rfl, Is14, Fs14, ((iI s14 99) - 1), rfl, ⟨by first | exact oq_c1e961c7 b15.1 | omega, by first | exact oq_b383b26c b15.2 | omega⟩, trivial⟩
      ·
        refine z_const X (show cdA 264 40 = some (.iconst (-1), 1, 0, 0, 0) from rfl) ?_
        exact w_iret X.1 q hRt rfl (ax_d X (show cdA 264 41 = some (.ireturn, 1, 0, 0, 0) from rfl)) (Nat.zero_le _) (Nat.zero_le _) ⟨_, rfl, Is5, Gs5, (-1), rfl, (by decide), trivial⟩
    ·
      refine z_const X (show cdA 264 29 = some (.iconst 0, 1, 0, 0, 0) from rfl) ?_
      exact w_iret X.1 q hRt rfl (ax_d X (show cdA 264 30 = some (.ireturn, 1, 0, 0, 0) from rfl)) (Nat.zero_le _) (Nat.zero_le _) ⟨_, rfl, Is5, Gs5, 0, rfl, (by decide), trivial⟩
  ·
    refine z_load_n X (x := x) (show cdA 264 10 = some (.iload_n 1, 1, 0, 0, 0) from rfl) (List.Mem.tail _ (List.Mem.head _)) ?_
    refine z_ldcw X (show cdA 264 11 = some (.ldc_w 403, 3, 0, 0, 16777216) from rfl) ?_
    have N16 : ∀ e17 : Int, (((x < 16777216) ∧ e17 = 0) ∨ ((16777216 ≤ x) ∧ e17 = 1)) → WS k 22 [(0, .ref (A 179)), (1, .int (Int32.ofInt x))] [.int (Int32.ofInt e17), .ref (A 179)] (Wd A dT s3) 0 0 := by
      intro e17 he17
      have re17 : 0 ≤ e17 ∧ e17 ≤ 1 := by omega
      refine z_const X (show cdA 264 22 = some (.iconst 1, 1, 0, 0, 0) from rfl) ?_
      refine z_callV X 179 (rm := rmN 187) (As := [.int (Int32.ofInt e17), .int (Int32.ofInt 1)]) (st := []) (show cdA 264 23 = some (.invokevirtual 229, 3, 187, 0, 0) from rfl) rfl (by decide) rfl (by rw [E.1, E.2.1, E.2.2.1]; exact k_bad G Is3 (by first | exact oq_31e518ae re17.2 re17.1 | omega) (by first | exact ⟨by decide, by decide⟩ | omega)) ⟨by rw [E.2.2.2]; exact (show (rmN 187).frames + 1 ≤ (rmN 264).frames by decide), by rw [E.2.2.2]; exact (show 8 + (mNL (miB 187) + 11) + (rmN 187).locals ≤ (rmN 264).locals by decide), by rw [E.2.2.2]; exact (show 0 + (rmN 187).cells ≤ (rmN 264).cells by decide), by rw [E.2.2.2]; exact (show 0 + (rmN 187).slots ≤ (rmN 264).slots by decide)⟩ (Nat.le_of_ble_eq_true rfl) (fun vv s18 hq => ?_) (fun ee s18 hq => ?_)
      rotate_left
      · obtain ⟨Is18, Fs18, e19, hv, hrs18, hps18⟩ := hq; cases hv
      obtain ⟨Is18, Fs18, e19, hv, hrs18, hps18⟩ := hq
      cases hv
      have Gs18 := fm_ts Fs3 Fs18 (by decide) (by decide)
      have b20 : (0 : Int) ≤ iI s18 73 ∧ iI s18 73 ≤ 3 := Is18.1 73
      have ws18_99 : iI s18 99 = iI s3 99 := fm_i Fs18 (by decide)
      show WS k 26 [(0, .ref (A 179)), (1, .int (Int32.ofInt x))] [.int (Int32.ofInt e19)] (Wd A dT s18) 0 0
      refine z_if_eq X (t := 31) (show cdA 264 26 = some (.ifCond .eq 5, 3, 0, 0, 0) from rfl) (by decide) hrs18 (fun g21 => ?_) (fun g21 => ?_)
      ·
        refine z_aload_n X (x := A 179) (show cdA 264 31 = some (.aload_n 0, 1, 0, 0, 0) from rfl) (List.Mem.head _) ?_
        refine z_getI X 179 (show cdA 264 32 = some (.getfield 404, 3, 12, 48, 0) from rfl) (by decide) rfl rfl ?_
        have b22 : (0 : Int) ≤ iI s18 99 ∧ iI s18 99 ≤ 6 := Is18.1 99
        refine z_bipush X (show cdA 264 35 = some (.bipush 6, 2, 0, 0, 6) from rfl) ?_
        refine z_icmp_ne X (t := 42) (show cdA 264 37 = some (.if_icmp .ne 5, 3, 1, 0, 0) from rfl) (by decide) (rng_to _) (by decide) (fun g23 => ?_) (fun g23 => ?_)
        ·
          refine z_aload_n X (x := A 179) (show cdA 264 42 = some (.aload_n 0, 1, 0, 0, 0) from rfl) (List.Mem.head _) ?_
          refine s_getR X 179 (show cdA 264 43 = some (.getfield 101, 3, 12, 52, 0) from rfl) (by decide) rfl rfl ?_
          refine z_aload_n X (x := A 179) (show cdA 264 46 = some (.aload_n 0, 1, 0, 0, 0) from rfl) (List.Mem.head _) ?_
          refine z_getI X 179 (show cdA 264 47 = some (.getfield 404, 3, 12, 48, 0) from rfl) (by decide) rfl rfl ?_
          have b24 : (0 : Int) ≤ iI s18 99 ∧ iI s18 99 ≤ 6 := Is18.1 99
          refine z_load_n X (x := x) (show cdA 264 50 = some (.iload_n 1, 1, 0, 0, 0) from rfl) (List.Mem.tail _ (List.Mem.head _)) ?_
          refine z_ast X 265 (show cdA 264 51 = some (.iastore, 1, 0, 0, 0) from rfl) (by decide) rfl (by first | exact b24.1 | omega) (show (iI s18 99) < 6 by first | exact oq_fac8de0c b24.2 g23 | omega) (by decide) ?_
          obtain ⟨s25, hs25⟩ : ∃ x0, x0 = uC s18 237 ((iI s18 99)).toNat (Int32.ofInt x) := ⟨_, rfl⟩
          rw [← hs25]
          have Is25 : Bd s25 := by rw [hs25]; exact bd_C Is18 (show (0 : Int) ≤ x ∧ x ≤ 16777215 by first | exact ⟨g4, oq_a8b2581c g21 hps18.2.1 re17.2 he17⟩ | omega) ⟨by first | exact p0.1 | omega, by first | exact p0.2 | omega⟩
          have Fs25 := fm_C (i := ((iI s18 99)).toNat) (x := Int32.ofInt x) Gs18 (show 237 ∈ _ by decide)
          rw [← hs25] at Fs25
          have ws25_73 : iI s25 73 = iI s18 73 := by rw [hs25]; rfl
          have ws25_99 : iI s25 99 = iI s18 99 := by rw [hs25]; rfl
          refine z_aload_n X (x := A 179) (show cdA 264 52 = some (.aload_n 0, 1, 0, 0, 0) from rfl) (List.Mem.head _) ?_
          refine w_dup X.1 (ax_d X (show cdA 264 53 = some (.dup, 1, 0, 0, 0) from rfl)) rfl ?_
          refine z_getI X 179 (show cdA 264 54 = some (.getfield 404, 3, 12, 48, 0) from rfl) (by decide) rfl rfl ?_
          have b26 : (0 : Int) ≤ iI s25 99 ∧ iI s25 99 ≤ 6 := Is25.1 99
          refine z_const X (show cdA 264 57 = some (.iconst 1, 1, 0, 0, 0) from rfl) ?_
          refine z_add X (show cdA 264 58 = some (.iadd, 1, 0, 0, 0) from rfl) ?_
          refine s_putI X 179 (show cdA 264 59 = some (.putfield 404, 3, 12, 48, 0) from rfl) (by decide) rfl rfl (by decide) rfl rfl rfl ?_
          obtain ⟨s27, hs27⟩ : ∃ x0, x0 = uI s25 99 (Int32.ofInt ((iI s25 99) + 1)) := ⟨_, rfl⟩
          rw [← hs27]
          have Is27 : Bd s27 := by rw [hs27]; exact bd_I Is25 (show (0 : Int) ≤ ((iI s25 99) + 1) ∧ ((iI s25 99) + 1) ≤ 6 by first | exact ⟨oq_54f49eb5 b26.1, oq_6c19c907 ws25_99 b24.2 g23⟩ | omega) ⟨by first | exact oq_74de1e16 b26.1 | omega, by first | exact oq_5fe14c36 b26.2 | omega⟩
          have Fs27 := fm_I (x := Int32.ofInt ((iI s25 99) + 1)) Fs25 (show 99 ∈ _ by decide)
          rw [← hs27] at Fs27
          have vs27 : iI s27 99 = ((iI s25 99) + 1) := by rw [hs27]; exact iI_u ⟨by first | exact oq_74de1e16 b26.1 | omega, by first | exact oq_5fe14c36 b26.2 | omega⟩
          have ws27_73 : iI s27 73 = iI s25 73 := by rw [hs27]; rfl
          refine z_aload_n X (x := A 179) (show cdA 264 62 = some (.aload_n 0, 1, 0, 0, 0) from rfl) (List.Mem.head _) ?_
          refine z_getI X 179 (show cdA 264 63 = some (.getfield 404, 3, 12, 48, 0) from rfl) (by decide) rfl rfl ?_
          have b28 : (0 : Int) ≤ iI s27 99 ∧ iI s27 99 ≤ 6 := Is27.1 99
          refine z_const X (show cdA 264 66 = some (.iconst 1, 1, 0, 0, 0) from rfl) ?_
          refine z_sub X (show cdA 264 67 = some (.isub, 1, 0, 0, 0) from rfl) ?_
          exact w_iret X.1 q hRt rfl (ax_d X (show cdA 264 68 = some (.ireturn, 1, 0, 0, 0) from rfl)) (Nat.zero_le _) (Nat.zero_le _) ⟨_, rfl, Is27, Fs27, ((iI s27 99) - 1), rfl, ⟨by first | exact oq_c1e961c7 b28.1 | omega, by first | exact oq_b383b26c b28.2 | omega⟩, trivial⟩
        ·
          refine z_const X (show cdA 264 40 = some (.iconst (-1), 1, 0, 0, 0) from rfl) ?_
          exact w_iret X.1 q hRt rfl (ax_d X (show cdA 264 41 = some (.ireturn, 1, 0, 0, 0) from rfl)) (Nat.zero_le _) (Nat.zero_le _) ⟨_, rfl, Is18, Gs18, (-1), rfl, (by decide), trivial⟩
      ·
        refine z_const X (show cdA 264 29 = some (.iconst 0, 1, 0, 0, 0) from rfl) ?_
        exact w_iret X.1 q hRt rfl (ax_d X (show cdA 264 30 = some (.ireturn, 1, 0, 0, 0) from rfl)) (Nat.zero_le _) (Nat.zero_le _) ⟨_, rfl, Is18, Gs18, 0, rfl, (by decide), trivial⟩
    refine z_icmp_lt X (t := 21) (show cdA 264 14 = some (.if_icmp .lt 7, 3, 2, 0, 0) from rfl) (by decide) ⟨by first | exact p0.1 | omega, by first | exact p0.2 | omega⟩ (by decide) (fun g29 => ?_) (fun g29 => ?_)
    ·
      refine z_const X (show cdA 264 21 = some (.iconst 0, 1, 0, 0, 0) from rfl) ?_
      exact N16 _ (Or.inl ⟨g29, rfl⟩)
    ·
      refine z_const X (show cdA 264 17 = some (.iconst 1, 1, 0, 0, 0) from rfl) ?_
      refine z_goto X (t := 22) (show cdA 264 18 = some (.goto 4, 3, 0, 0, 0) from rfl) (by decide) ?_
      exact N16 _ (Or.inr (⟨g29, rfl⟩))
end M31
