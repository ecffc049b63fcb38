/-! Determined: the small ones -/
section M41
variable {l : Launch} {s0 : State} {D : va_G} {tys : List (ClassId × FieldType)} {a0 : Array Value} {A : Nat → Nat} {dT : Nat → ClassId} {s : PS}
set_option maxHeartbeats 16000000 in
theorem d_in (G : GX l s0 D tys a0 dT) (I : Bd s) {x y z : Int} (p0 : rng x) (p1 : rng y) (p2 : rng z) {T : TT} (hti : ∀ q ∈ ([] : List Nat), T.1 q) (hta : ∀ a ∈ ([] : List Nat), ∀ j, j < (bA a).2.2 → T.2 a j) : CD l s0 D A dT 188 (rmN 188) [] [] T (T) [.int (Int32.ofInt x), .int (Int32.ofInt y), .int (Int32.ofInt z)] s (fun o t => Bd t ∧ Fm [] [] s t ∧ ∃ e, o = .inl (some (.int (Int32.ofInt e))) ∧ rng e ∧ ((e = 1 ∧ y ≤ x ∧ x ≤ z) ∨ (e = 0 ∧ (x < y ∨ z < x)))) := by
  refine cd_of G (by decide) (Nat.le_of_ble_eq_true rfl) (fun Q hQ => ?_)
  have I0 := I
  show DS l s0 D A dT 188 (rmN 188) [] [] (T) Q (T) 0 [(0, .int (Int32.ofInt x)), (1, .int (Int32.ofInt y)), (2, .int (Int32.ofInt z))] [] s
  have F : Fm [] [] s s := fm_rf _ _ s
  refine d_lift (fun k ws X h => z_load_n X (x := x) (show cdA 188 0 = some (.iload_n 0, 1, 0, 0, 0) from rfl) (List.Mem.head _) h) ?_
  refine d_lift (fun k ws X h => z_load_n X (x := y) (show cdA 188 1 = some (.iload_n 1, 1, 0, 0, 0) from rfl) (List.Mem.tail _ (List.Mem.head _)) h) ?_
  have N1 : ∀ e2 : Int, (((x < y) ∧ e2 = 0) ∨ ((y ≤ x) ∧ (z < x) ∧ e2 = 0) ∨ ((y ≤ x) ∧ (x ≤ z) ∧ e2 = 1)) → DS l s0 D A dT 188 (rmN 188) [] [] (T) Q (T) 15 [(0, .int (Int32.ofInt x)), (1, .int (Int32.ofInt y)), (2, .int (Int32.ofInt z))] [.int (Int32.ofInt e2)] s := by
    intro e2 he2
    have re2 : 0 ≤ e2 ∧ e2 ≤ 1 := by omega
    exact d_iret rfl (nar_ret (by first | exact oq_31e518ae re2.2 re2.1 | omega)) (Or.inr rfl) (show cdA 188 15 = some (.ireturn, 1, 0, 0, 0) from rfl) (fun _ h => h) (hQ _ _ ⟨I, F, e2, rfl, ⟨by first | exact oq_fa4e5087 re2.1 | omega, by first | exact oq_22e1e6b0 re2.2 | omega⟩, by first | exact oq_eb048f71 re2.2 re2.1 he2 | omega⟩)
  refine d_br (bo_lt _ _) bx_lt (fun k ws X h1 h2 => z_icmp_lt X (t := 14) (show cdA 188 2 = some (.if_icmp .lt 12, 3, 2, 0, 0) from rfl) (by decide) ⟨by first | exact p0.1 | omega, by first | exact p0.2 | omega⟩ ⟨by first | exact p1.1 | omega, by first | exact p1.2 | omega⟩ h1 h2) (fun g3 => ?_) (fun g3 => ?_)
  ·
    refine d_lift (fun k ws X h => z_const X (show cdA 188 14 = some (.iconst 0, 1, 0, 0, 0) from rfl) h) ?_
    exact N1 _ (Or.inl ⟨g3, rfl⟩)
  ·
    refine d_lift (fun k ws X h => z_load_n X (x := x) (show cdA 188 5 = some (.iload_n 0, 1, 0, 0, 0) from rfl) (List.Mem.head _) h) ?_
    refine d_lift (fun k ws X h => z_load_n X (x := z) (show cdA 188 6 = some (.iload_n 2, 1, 0, 0, 0) from rfl) (List.Mem.tail _ (List.Mem.tail _ (List.Mem.head _))) h) ?_
    refine d_br (bo_gt _ _) bx_gt (fun k ws X h1 h2 => z_icmp_gt X (t := 14) (show cdA 188 7 = some (.if_icmp .gt 7, 3, 4, 0, 0) from rfl) (by decide) ⟨by first | exact p0.1 | omega, by first | exact p0.2 | omega⟩ ⟨by first | exact p2.1 | omega, by first | exact p2.2 | omega⟩ h1 h2) (fun g4 => ?_) (fun g4 => ?_)
    ·
      refine d_lift (fun k ws X h => z_const X (show cdA 188 14 = some (.iconst 0, 1, 0, 0, 0) from rfl) h) ?_
      exact N1 _ (Or.inr (Or.inl ⟨g3, g4, rfl⟩))
    ·
      refine d_lift (fun k ws X h => z_const X (show cdA 188 10 = some (.iconst 1, 1, 0, 0, 0) from rfl) h) ?_
      refine d_lift (fun k ws X h => z_goto X (t := 15) (show cdA 188 11 = some (.goto 4, 3, 0, 0, 0) from rfl) (by decide) h) ?_
      exact N1 _ (Or.inr (Or.inr (⟨g3, g4, rfl⟩)))
set_option maxHeartbeats 16000000 in
theorem d_isDigit (G : GX l s0 D tys a0 dT) (I : Bd s) {x : Int} (p0 : rng x) {T : TT} (hti : ∀ q ∈ ([] : List Nat), T.1 q) (hta : ∀ a ∈ ([] : List Nat), ∀ j, j < (bA a).2.2 → T.2 a j) : CD l s0 D A dT 195 (rmN 195) [] [] T (T) [.int (Int32.ofInt x)] s (fun o t => Bd t ∧ Fm [] [] s t ∧ ∃ e, o = .inl (some (.int (Int32.ofInt e))) ∧ rng e ∧ ((e = 1 ∧ 48 ≤ x ∧ x ≤ 57) ∨ (e = 0 ∧ (x < 48 ∨ 57 < x)))) := by
  refine cd_of G (by decide) (Nat.le_of_ble_eq_true rfl) (fun Q hQ => ?_)
  have I0 := I
  show DS l s0 D A dT 195 (rmN 195) [] [] (T) Q (T) 0 [(0, .int (Int32.ofInt x))] [] s
  have F : Fm [] [] s s := fm_rf _ _ s
  refine d_lift (fun k ws X h => z_load_n X (x := x) (show cdA 195 0 = some (.iload_n 0, 1, 0, 0, 0) from rfl) (List.Mem.head _) h) ?_
  refine d_lift (fun k ws X h => z_bipush X (show cdA 195 1 = some (.bipush 48, 2, 0, 0, 48) from rfl) h) ?_
  have N1 : ∀ e2 : Int, (((x < 48) ∧ e2 = 0) ∨ ((48 ≤ x) ∧ (57 < x) ∧ e2 = 0) ∨ ((48 ≤ x) ∧ (x ≤ 57) ∧ e2 = 1)) → DS l s0 D A dT 195 (rmN 195) [] [] (T) Q (T) 17 [(0, .int (Int32.ofInt x))] [.int (Int32.ofInt e2)] s := by
    intro e2 he2
    have re2 : 0 ≤ e2 ∧ e2 ≤ 1 := by omega
    exact d_iret rfl (nar_ret (by first | exact oq_31e518ae re2.2 re2.1 | omega)) (Or.inr rfl) (show cdA 195 17 = some (.ireturn, 1, 0, 0, 0) from rfl) (fun _ h => h) (hQ _ _ ⟨I, F, e2, rfl, ⟨by first | exact oq_fa4e5087 re2.1 | omega, by first | exact oq_22e1e6b0 re2.2 | omega⟩, by first | exact oq_08c8a296 re2.2 re2.1 he2 | omega⟩)
  refine d_br (bo_lt _ _) bx_lt (fun k ws X h1 h2 => z_icmp_lt X (t := 16) (show cdA 195 3 = some (.if_icmp .lt 13, 3, 2, 0, 0) from rfl) (by decide) ⟨by first | exact p0.1 | omega, by first | exact p0.2 | omega⟩ (by decide) h1 h2) (fun g3 => ?_) (fun g3 => ?_)
  ·
    refine d_lift (fun k ws X h => z_const X (show cdA 195 16 = some (.iconst 0, 1, 0, 0, 0) from rfl) h) ?_
    exact N1 _ (Or.inl ⟨g3, rfl⟩)
  ·
    refine d_lift (fun k ws X h => z_load_n X (x := x) (show cdA 195 6 = some (.iload_n 0, 1, 0, 0, 0) from rfl) (List.Mem.head _) h) ?_
    refine d_lift (fun k ws X h => z_bipush X (show cdA 195 7 = some (.bipush 57, 2, 0, 0, 57) from rfl) h) ?_
    refine d_br (bo_gt _ _) bx_gt (fun k ws X h1 h2 => z_icmp_gt X (t := 16) (show cdA 195 9 = some (.if_icmp .gt 7, 3, 4, 0, 0) from rfl) (by decide) ⟨by first | exact p0.1 | omega, by first | exact p0.2 | omega⟩ (by decide) h1 h2) (fun g4 => ?_) (fun g4 => ?_)
    ·
      refine d_lift (fun k ws X h => z_const X (show cdA 195 16 = some (.iconst 0, 1, 0, 0, 0) from rfl) h) ?_
      exact N1 _ (Or.inr (Or.inl ⟨g3, g4, rfl⟩))
    ·
      refine d_lift (fun k ws X h => z_const X (show cdA 195 12 = some (.iconst 1, 1, 0, 0, 0) from rfl) h) ?_
      refine d_lift (fun k ws X h => z_goto X (t := 17) (show cdA 195 13 = some (.goto 4, 3, 0, 0, 0) from rfl) (by decide) h) ?_
      exact N1 _ (Or.inr (Or.inr (⟨g3, g4, rfl⟩)))
set_option maxHeartbeats 16000000 in
theorem d_word (G : GX l s0 D tys a0 dT) (I : Bd s) {x1 x2 x3 x4 x5 x6 : Int} (p0 : 1 ≤ x1 ∧ x1 ≤ 27) (p1 : 0 ≤ x2 ∧ x2 ≤ 27) (p2 : 0 ≤ x3 ∧ x3 ≤ 27) (p3 : 0 ≤ x4 ∧ x4 ≤ 27) (p4 : 0 ≤ x5 ∧ x5 ≤ 27) (p5 : 0 ≤ x6 ∧ x6 ≤ 27) {T : TT} (hti : ∀ q ∈ ([] : List Nat), T.1 q) (hta : ∀ a ∈ ([] : List Nat), ∀ j, j < (bA a).2.2 → T.2 a j) : CD l s0 D A dT 202 (rmN 202) [] [] T (T) [.int (Int32.ofInt x1), .int (Int32.ofInt x2), .int (Int32.ofInt x3), .int (Int32.ofInt x4), .int (Int32.ofInt x5), .int (Int32.ofInt x6)] s (fun o t => Bd t ∧ Fm [] [] s t ∧ ∃ e, o = .inl (some (.int (Int32.ofInt e))) ∧ rng e ∧ (1 ≤ e)) := by
  refine cd_of G (by decide) (Nat.le_of_ble_eq_true rfl) (fun Q hQ => ?_)
  have I0 := I
  show DS l s0 D A dT 202 (rmN 202) [] [] (T) Q (T) 0 [(0, .int (Int32.ofInt x1)), (1, .int (Int32.ofInt x2)), (2, .int (Int32.ofInt x3)), (3, .int (Int32.ofInt x4)), (4, .int (Int32.ofInt x5)), (5, .int (Int32.ofInt x6))] [] s
  have F : Fm [] [] s s := fm_rf _ _ s
  refine d_lift (fun k ws X h => z_bipush X (show cdA 202 0 = some (.bipush 27, 2, 0, 0, 27) from rfl) h) ?_
  refine d_lift (fun k ws X h => z_load_n X (x := x1) (show cdA 202 2 = some (.iload_n 0, 1, 0, 0, 0) from rfl) (List.Mem.head _) h) ?_
  refine d_lift (fun k ws X h => z_mul X (show cdA 202 3 = some (.imul, 1, 0, 0, 0) from rfl) h) ?_
  refine d_lift (fun k ws X h => z_load_n X (x := x2) (show cdA 202 4 = some (.iload_n 1, 1, 0, 0, 0) from rfl) (List.Mem.tail _ (List.Mem.head _)) h) ?_
  refine d_lift (fun k ws X h => z_add X (show cdA 202 5 = some (.iadd, 1, 0, 0, 0) from rfl) h) ?_
  refine d_lift (fun k ws X h => z_store X (lv' := [(6, .int (Int32.ofInt ((27 * x1) + x2))), (0, .int (Int32.ofInt x1)), (1, .int (Int32.ofInt x2)), (2, .int (Int32.ofInt x3)), (3, .int (Int32.ofInt x4)), (4, .int (Int32.ofInt x5)), (5, .int (Int32.ofInt x6))]) (show cdA 202 6 = some (.istore 6, 2, 0, 0, 0) from rfl) (by decide) (fun _ h => h) h) ?_
  refine d_lift (fun k ws X h => z_load_n X (x := x3) (show cdA 202 8 = some (.iload_n 2, 1, 0, 0, 0) from rfl) (List.Mem.tail _ (List.Mem.tail _ (List.Mem.tail _ (List.Mem.head _)))) h) ?_
  have N1 : ∀ e2 : Int, (((x3 ≠ 0) ∧ e2 = ((27 * ((27 * x1) + x2)) + x3)) ∨ ((x3 = 0) ∧ e2 = ((27 * x1) + x2))) → DS l s0 D A dT 202 (rmN 202) [] [] (T) Q (T) 24 [(6, .int (Int32.ofInt ((27 * x1) + x2))), (0, .int (Int32.ofInt x1)), (1, .int (Int32.ofInt x2)), (2, .int (Int32.ofInt x3)), (3, .int (Int32.ofInt x4)), (4, .int (Int32.ofInt x5)), (5, .int (Int32.ofInt x6))] [.int (Int32.ofInt e2)] s := by
    intro e2 he2
    refine d_lift (fun k ws X h => z_store X (lv' := [(6, .int (Int32.ofInt e2)), (0, .int (Int32.ofInt x1)), (1, .int (Int32.ofInt x2)), (2, .int (Int32.ofInt x3)), (3, .int (Int32.ofInt x4)), (4, .int (Int32.ofInt x5)), (5, .int (Int32.ofInt x6))]) (show cdA 202 24 = some (.istore 6, 2, 0, 0, 0) from rfl) (by decide) (fun _ h => h) h) ?_
    refine d_lift (fun k ws X h => z_load_n X (x := x4) (show cdA 202 26 = some (.iload_n 3, 1, 0, 0, 0) from rfl) (List.Mem.tail _ (List.Mem.tail _ (List.Mem.tail _ (List.Mem.tail _ (List.Mem.head _))))) h) ?_
    have N3 : ∀ e4 : Int, (((x4 ≠ 0) ∧ e4 = ((27 * e2) + x4)) ∨ ((x4 = 0) ∧ e4 = e2)) → DS l s0 D A dT 202 (rmN 202) [] [] (T) Q (T) 42 [(6, .int (Int32.ofInt e2)), (0, .int (Int32.ofInt x1)), (1, .int (Int32.ofInt x2)), (2, .int (Int32.ofInt x3)), (3, .int (Int32.ofInt x4)), (4, .int (Int32.ofInt x5)), (5, .int (Int32.ofInt x6))] [.int (Int32.ofInt e4)] s := by
      intro e4 he4
      refine d_lift (fun k ws X h => z_store X (lv' := [(6, .int (Int32.ofInt e4)), (0, .int (Int32.ofInt x1)), (1, .int (Int32.ofInt x2)), (2, .int (Int32.ofInt x3)), (3, .int (Int32.ofInt x4)), (4, .int (Int32.ofInt x5)), (5, .int (Int32.ofInt x6))]) (show cdA 202 42 = some (.istore 6, 2, 0, 0, 0) from rfl) (by decide) (fun _ h => h) h) ?_
      refine d_lift (fun k ws X h => z_load X (x := x5) (show cdA 202 44 = some (.iload 4, 2, 0, 0, 0) from rfl) (List.Mem.tail _ (List.Mem.tail _ (List.Mem.tail _ (List.Mem.tail _ (List.Mem.tail _ (List.Mem.head _)))))) h) ?_
      have N5 : ∀ e6 : Int, (((x5 ≠ 0) ∧ e6 = ((27 * e4) + x5)) ∨ ((x5 = 0) ∧ e6 = e4)) → DS l s0 D A dT 202 (rmN 202) [] [] (T) Q (T) 62 [(6, .int (Int32.ofInt e4)), (0, .int (Int32.ofInt x1)), (1, .int (Int32.ofInt x2)), (2, .int (Int32.ofInt x3)), (3, .int (Int32.ofInt x4)), (4, .int (Int32.ofInt x5)), (5, .int (Int32.ofInt x6))] [.int (Int32.ofInt e6)] s := by
        intro e6 he6
        refine d_lift (fun k ws X h => z_store X (lv' := [(6, .int (Int32.ofInt e6)), (0, .int (Int32.ofInt x1)), (1, .int (Int32.ofInt x2)), (2, .int (Int32.ofInt x3)), (3, .int (Int32.ofInt x4)), (4, .int (Int32.ofInt x5)), (5, .int (Int32.ofInt x6))]) (show cdA 202 62 = some (.istore 6, 2, 0, 0, 0) from rfl) (by decide) (fun _ h => h) h) ?_
        refine d_lift (fun k ws X h => z_load X (x := x6) (show cdA 202 64 = some (.iload 5, 2, 0, 0, 0) from rfl) (List.Mem.tail _ (List.Mem.tail _ (List.Mem.tail _ (List.Mem.tail _ (List.Mem.tail _ (List.Mem.tail _ (List.Mem.head _))))))) h) ?_
        have N7 : ∀ e8 : Int, (((x6 ≠ 0) ∧ e8 = ((27 * e6) + x6)) ∨ ((x6 = 0) ∧ e8 = e6)) → DS l s0 D A dT 202 (rmN 202) [] [] (T) Q (T) 82 [(6, .int (Int32.ofInt e6)), (0, .int (Int32.ofInt x1)), (1, .int (Int32.ofInt x2)), (2, .int (Int32.ofInt x3)), (3, .int (Int32.ofInt x4)), (4, .int (Int32.ofInt x5)), (5, .int (Int32.ofInt x6))] [.int (Int32.ofInt e8)] s := by
          intro e8 he8
          exact d_iret rfl rfl (Or.inl rfl) (show cdA 202 82 = some (.ireturn, 1, 0, 0, 0) from rfl) (fun _ h => h) (hQ _ _ ⟨I, F, e8, rfl, ⟨by first | exact oq_ecd050b7 he8 he6 he4 he2 p5.1 p4.1 p3.1 p2.1 p1.1 p0.1 | omega, by first | exact oq_5f3f93de he8 he6 he4 he2 p5.2 p4.2 p3.2 p2.2 p1.2 p0.2 | omega⟩, by first | exact oq_66594a1b he8 he6 he4 he2 p5.1 p4.1 p3.1 p2.1 p1.1 p0.1 | omega⟩)
        refine d_br (bo_ne _ _) bx_ne (fun k ws X h1 h2 => z_if_ne X (t := 74) (show cdA 202 66 = some (.ifCond .ne 8, 3, 1, 0, 0) from rfl) (by decide) ⟨by first | exact oq_fa4e5087 p5.1 | omega, by first | exact oq_e977c44f p5.2 | omega⟩ h1 h2) (fun g9 => ?_) (fun g9 => ?_)
        ·
          refine d_lift (fun k ws X h => z_bipush X (show cdA 202 74 = some (.bipush 27, 2, 0, 0, 27) from rfl) h) ?_
          refine d_lift (fun k ws X h => z_load X (x := e6) (show cdA 202 76 = some (.iload 6, 2, 0, 0, 0) from rfl) (List.Mem.head _) h) ?_
          refine d_lift (fun k ws X h => z_mul X (show cdA 202 78 = some (.imul, 1, 0, 0, 0) from rfl) h) ?_
          refine d_lift (fun k ws X h => z_load X (x := x6) (show cdA 202 79 = some (.iload 5, 2, 0, 0, 0) from rfl) (List.Mem.tail _ (List.Mem.tail _ (List.Mem.tail _ (List.Mem.tail _ (List.Mem.tail _ (List.Mem.tail _ (List.Mem.head _))))))) h) ?_
          refine d_lift (fun k ws X h => z_add X (show cdA 202 81 = some (.iadd, 1, 0, 0, 0) from rfl) h) ?_
          exact N7 _ (Or.inl ⟨g9, rfl⟩)
        ·
          refine d_lift (fun k ws X h => z_load X (x := e6) (show cdA 202 69 = some (.iload 6, 2, 0, 0, 0) from rfl) (List.Mem.head _) h) ?_
          refine d_lift (fun k ws X h => z_goto X (t := 82) (show cdA 202 71 = some (.goto 11, 3, 0, 0, 0) from rfl) (by decide) h) ?_
          exact N7 _ (Or.inr (⟨g9, rfl⟩))
      refine d_br (bo_ne _ _) bx_ne (fun k ws X h1 h2 => z_if_ne X (t := 54) (show cdA 202 46 = some (.ifCond .ne 8, 3, 1, 0, 0) from rfl) (by decide) ⟨by first | exact oq_fa4e5087 p4.1 | omega, by first | exact oq_e977c44f p4.2 | omega⟩ h1 h2) (fun g10 => ?_) (fun g10 => ?_)
      ·
        refine d_lift (fun k ws X h => z_bipush X (show cdA 202 54 = some (.bipush 27, 2, 0, 0, 27) from rfl) h) ?_
        refine d_lift (fun k ws X h => z_load X (x := e4) (show cdA 202 56 = some (.iload 6, 2, 0, 0, 0) from rfl) (List.Mem.head _) h) ?_
        refine d_lift (fun k ws X h => z_mul X (show cdA 202 58 = some (.imul, 1, 0, 0, 0) from rfl) h) ?_
        refine d_lift (fun k ws X h => z_load X (x := x5) (show cdA 202 59 = some (.iload 4, 2, 0, 0, 0) from rfl) (List.Mem.tail _ (List.Mem.tail _ (List.Mem.tail _ (List.Mem.tail _ (List.Mem.tail _ (List.Mem.head _)))))) h) ?_
        refine d_lift (fun k ws X h => z_add X (show cdA 202 61 = some (.iadd, 1, 0, 0, 0) from rfl) h) ?_
        exact N5 _ (Or.inl ⟨g10, rfl⟩)
      ·
        refine d_lift (fun k ws X h => z_load X (x := e4) (show cdA 202 49 = some (.iload 6, 2, 0, 0, 0) from rfl) (List.Mem.head _) h) ?_
        refine d_lift (fun k ws X h => z_goto X (t := 62) (show cdA 202 51 = some (.goto 11, 3, 0, 0, 0) from rfl) (by decide) h) ?_
        exact N5 _ (Or.inr (⟨g10, rfl⟩))
    refine d_br (bo_ne _ _) bx_ne (fun k ws X h1 h2 => z_if_ne X (t := 35) (show cdA 202 27 = some (.ifCond .ne 8, 3, 1, 0, 0) from rfl) (by decide) ⟨by first | exact oq_fa4e5087 p3.1 | omega, by first | exact oq_e977c44f p3.2 | omega⟩ h1 h2) (fun g11 => ?_) (fun g11 => ?_)
    ·
      refine d_lift (fun k ws X h => z_bipush X (show cdA 202 35 = some (.bipush 27, 2, 0, 0, 27) from rfl) h) ?_
      refine d_lift (fun k ws X h => z_load X (x := e2) (show cdA 202 37 = some (.iload 6, 2, 0, 0, 0) from rfl) (List.Mem.head _) h) ?_
      refine d_lift (fun k ws X h => z_mul X (show cdA 202 39 = some (.imul, 1, 0, 0, 0) from rfl) h) ?_
      refine d_lift (fun k ws X h => z_load_n X (x := x4) (show cdA 202 40 = some (.iload_n 3, 1, 0, 0, 0) from rfl) (List.Mem.tail _ (List.Mem.tail _ (List.Mem.tail _ (List.Mem.tail _ (List.Mem.head _))))) h) ?_
      refine d_lift (fun k ws X h => z_add X (show cdA 202 41 = some (.iadd, 1, 0, 0, 0) from rfl) h) ?_
      exact N3 _ (Or.inl ⟨g11, rfl⟩)
    ·
      refine d_lift (fun k ws X h => z_load X (x := e2) (show cdA 202 30 = some (.iload 6, 2, 0, 0, 0) from rfl) (List.Mem.head _) h) ?_
      refine d_lift (fun k ws X h => z_goto X (t := 42) (show cdA 202 32 = some (.goto 10, 3, 0, 0, 0) from rfl) (by decide) h) ?_
      exact N3 _ (Or.inr (⟨g11, rfl⟩))
  refine d_br (bo_ne _ _) bx_ne (fun k ws X h1 h2 => z_if_ne X (t := 17) (show cdA 202 9 = some (.ifCond .ne 8, 3, 1, 0, 0) from rfl) (by decide) ⟨by first | exact oq_fa4e5087 p2.1 | omega, by first | exact oq_e977c44f p2.2 | omega⟩ h1 h2) (fun g12 => ?_) (fun g12 => ?_)
  ·
    refine d_lift (fun k ws X h => z_bipush X (show cdA 202 17 = some (.bipush 27, 2, 0, 0, 27) from rfl) h) ?_
    refine d_lift (fun k ws X h => z_load X (x := ((27 * x1) + x2)) (show cdA 202 19 = some (.iload 6, 2, 0, 0, 0) from rfl) (List.Mem.head _) h) ?_
    refine d_lift (fun k ws X h => z_mul X (show cdA 202 21 = some (.imul, 1, 0, 0, 0) from rfl) h) ?_
    refine d_lift (fun k ws X h => z_load_n X (x := x3) (show cdA 202 22 = some (.iload_n 2, 1, 0, 0, 0) from rfl) (List.Mem.tail _ (List.Mem.tail _ (List.Mem.tail _ (List.Mem.head _)))) h) ?_
    refine d_lift (fun k ws X h => z_add X (show cdA 202 23 = some (.iadd, 1, 0, 0, 0) from rfl) h) ?_
    exact N1 _ (Or.inl ⟨g12, rfl⟩)
  ·
    refine d_lift (fun k ws X h => z_load X (x := ((27 * x1) + x2)) (show cdA 202 12 = some (.iload 6, 2, 0, 0, 0) from rfl) (List.Mem.head _) h) ?_
    refine d_lift (fun k ws X h => z_goto X (t := 24) (show cdA 202 14 = some (.goto 10, 3, 0, 0, 0) from rfl) (by decide) h) ?_
    exact N1 _ (Or.inr (⟨g12, rfl⟩))
set_option maxHeartbeats 16000000 in
theorem d_stepOf (G : GX l s0 D tys a0 dT) (I : Bd s) {x y : Int} (p0 : 0 ≤ x ∧ x ≤ 127) (p1 : 0 ≤ y ∧ y ≤ 127) {T : TT} (hti : ∀ q ∈ ([] : List Nat), T.1 q) (hta : ∀ a ∈ ([] : List Nat), ∀ j, j < (bA a).2.2 → T.2 a j) : CD l s0 D A dT 225 (rmN 225) [] [] T (T) [.int (Int32.ofInt x), .int (Int32.ofInt y)] s (fun o t => Bd t ∧ Fm [] [] s t ∧ ∃ e, o = .inl (some (.int (Int32.ofInt e))) ∧ rng e ∧ (0 ≤ e ∧ e ≤ 5)) := by
  refine cd_of G (by decide) (Nat.le_of_ble_eq_true rfl) (fun Q hQ => ?_)
  have I0 := I
  show DS l s0 D A dT 225 (rmN 225) [] [] (T) Q (T) 0 [(0, .int (Int32.ofInt x)), (1, .int (Int32.ofInt y))] [] s
  have F : Fm [] [] s s := fm_rf _ _ s
  refine d_lift (fun k ws X h => z_load_n X (x := y) (show cdA 225 0 = some (.iload_n 1, 1, 0, 0, 0) from rfl) (List.Mem.tail _ (List.Mem.head _)) h) ?_
  refine d_lift (fun k ws X h => z_load_n X (x := x) (show cdA 225 1 = some (.iload_n 0, 1, 0, 0, 0) from rfl) (List.Mem.head _) h) ?_
  refine d_lift (fun k ws X h => z_sub X (show cdA 225 2 = some (.isub, 1, 0, 0, 0) from rfl) h) ?_
  refine d_lift (fun k ws X h => z_const X (show cdA 225 3 = some (.iconst 1, 1, 0, 0, 0) from rfl) h) ?_
  have N1 : ∀ e2 : Int, (0 ≤ e2 ∧ e2 ≤ 5) → DS l s0 D A dT 225 (rmN 225) [] [] (T) Q (T) 59 [(0, .int (Int32.ofInt x)), (1, .int (Int32.ofInt y))] [.int (Int32.ofInt e2)] s := by
    intro e2 he2
    exact d_iret rfl rfl (Or.inl rfl) (show cdA 225 59 = some (.ireturn, 1, 0, 0, 0) from rfl) (fun _ h => h) (hQ _ _ ⟨I, F, e2, rfl, ⟨by first | exact oq_fa4e5087 he2.1 | omega, by first | exact oq_a3dd55e5 he2.2 | omega⟩, by first | exact ⟨he2.1, he2.2⟩ | omega⟩)
  refine d_br (bo_ne _ _) bx_ne (fun k ws X h1 h2 => z_icmp_ne X (t := 11) (show cdA 225 4 = some (.if_icmp .ne 7, 3, 1, 0, 0) from rfl) (by decide) ⟨by first | exact oq_449d3e35 p1.1 p0.2 | omega, by first | exact oq_ad754bc3 p1.2 p0.1 | omega⟩ (by decide) h1 h2) (fun g3 => ?_) (fun g3 => ?_)
  ·
    refine d_lift (fun k ws X h => z_load_n X (x := y) (show cdA 225 11 = some (.iload_n 1, 1, 0, 0, 0) from rfl) (List.Mem.tail _ (List.Mem.head _)) h) ?_
    refine d_lift (fun k ws X h => z_load_n X (x := x) (show cdA 225 12 = some (.iload_n 0, 1, 0, 0, 0) from rfl) (List.Mem.head _) h) ?_
    refine d_lift (fun k ws X h => z_sub X (show cdA 225 13 = some (.isub, 1, 0, 0, 0) from rfl) h) ?_
    refine d_lift (fun k ws X h => z_const X (show cdA 225 14 = some (.iconst (-1), 1, 0, 0, 0) from rfl) h) ?_
    refine d_br (bo_ne _ _) bx_ne (fun k ws X h1 h2 => z_icmp_ne X (t := 22) (show cdA 225 15 = some (.if_icmp .ne 7, 3, 1, 0, 0) from rfl) (by decide) ⟨by first | exact oq_449d3e35 p1.1 p0.2 | omega, by first | exact oq_ad754bc3 p1.2 p0.1 | omega⟩ (by decide) h1 h2) (fun g4 => ?_) (fun g4 => ?_)
    ·
      refine d_lift (fun k ws X h => z_load_n X (x := y) (show cdA 225 22 = some (.iload_n 1, 1, 0, 0, 0) from rfl) (List.Mem.tail _ (List.Mem.head _)) h) ?_
      refine d_lift (fun k ws X h => z_load_n X (x := x) (show cdA 225 23 = some (.iload_n 0, 1, 0, 0, 0) from rfl) (List.Mem.head _) h) ?_
      refine d_lift (fun k ws X h => z_sub X (show cdA 225 24 = some (.isub, 1, 0, 0, 0) from rfl) h) ?_
      refine d_lift (fun k ws X h => z_bipush X (show cdA 225 25 = some (.bipush 8, 2, 0, 0, 8) from rfl) h) ?_
      refine d_br (bo_ne _ _) bx_ne (fun k ws X h1 h2 => z_icmp_ne X (t := 34) (show cdA 225 27 = some (.if_icmp .ne 7, 3, 1, 0, 0) from rfl) (by decide) ⟨by first | exact oq_449d3e35 p1.1 p0.2 | omega, by first | exact oq_ad754bc3 p1.2 p0.1 | omega⟩ (by decide) h1 h2) (fun g5 => ?_) (fun g5 => ?_)
      ·
        refine d_lift (fun k ws X h => z_load_n X (x := y) (show cdA 225 34 = some (.iload_n 1, 1, 0, 0, 0) from rfl) (List.Mem.tail _ (List.Mem.head _)) h) ?_
        refine d_lift (fun k ws X h => z_load_n X (x := x) (show cdA 225 35 = some (.iload_n 0, 1, 0, 0, 0) from rfl) (List.Mem.head _) h) ?_
        refine d_lift (fun k ws X h => z_sub X (show cdA 225 36 = some (.isub, 1, 0, 0, 0) from rfl) h) ?_
        refine d_lift (fun k ws X h => z_bipush X (show cdA 225 37 = some (.bipush (-8), 2, 0, 0, (-8)) from rfl) h) ?_
        refine d_br (bo_ne _ _) bx_ne (fun k ws X h1 h2 => z_icmp_ne X (t := 46) (show cdA 225 39 = some (.if_icmp .ne 7, 3, 1, 0, 0) from rfl) (by decide) ⟨by first | exact oq_449d3e35 p1.1 p0.2 | omega, by first | exact oq_ad754bc3 p1.2 p0.1 | omega⟩ (by decide) h1 h2) (fun g6 => ?_) (fun g6 => ?_)
        ·
          refine d_lift (fun k ws X h => z_load_n X (x := y) (show cdA 225 46 = some (.iload_n 1, 1, 0, 0, 0) from rfl) (List.Mem.tail _ (List.Mem.head _)) h) ?_
          refine d_lift (fun k ws X h => z_load_n X (x := x) (show cdA 225 47 = some (.iload_n 0, 1, 0, 0, 0) from rfl) (List.Mem.head _) h) ?_
          refine d_lift (fun k ws X h => z_sub X (show cdA 225 48 = some (.isub, 1, 0, 0, 0) from rfl) h) ?_
          refine d_lift (fun k ws X h => z_bipush X (show cdA 225 49 = some (.bipush 64, 2, 0, 0, 64) from rfl) h) ?_
          refine d_br (bo_ne _ _) bx_ne (fun k ws X h1 h2 => z_icmp_ne X (t := 58) (show cdA 225 51 = some (.if_icmp .ne 7, 3, 1, 0, 0) from rfl) (by decide) ⟨by first | exact oq_449d3e35 p1.1 p0.2 | omega, by first | exact oq_ad754bc3 p1.2 p0.1 | omega⟩ (by decide) h1 h2) (fun g7 => ?_) (fun g7 => ?_)
          ·
            refine d_lift (fun k ws X h => z_const X (show cdA 225 58 = some (.iconst 5, 1, 0, 0, 0) from rfl) h) ?_
            exact N1 _ (by omega)
          ·
            refine d_lift (fun k ws X h => z_const X (show cdA 225 54 = some (.iconst 4, 1, 0, 0, 0) from rfl) h) ?_
            refine d_lift (fun k ws X h => z_goto X (t := 59) (show cdA 225 55 = some (.goto 4, 3, 0, 0, 0) from rfl) (by decide) h) ?_
            exact N1 _ (by omega)
        ·
          refine d_lift (fun k ws X h => z_const X (show cdA 225 42 = some (.iconst 3, 1, 0, 0, 0) from rfl) h) ?_
          refine d_lift (fun k ws X h => z_goto X (t := 59) (show cdA 225 43 = some (.goto 16, 3, 0, 0, 0) from rfl) (by decide) h) ?_
          exact N1 _ (by omega)
      ·
        refine d_lift (fun k ws X h => z_const X (show cdA 225 30 = some (.iconst 2, 1, 0, 0, 0) from rfl) h) ?_
        refine d_lift (fun k ws X h => z_goto X (t := 59) (show cdA 225 31 = some (.goto 28, 3, 0, 0, 0) from rfl) (by decide) h) ?_
        exact N1 _ (by omega)
    ·
      refine d_lift (fun k ws X h => z_const X (show cdA 225 18 = some (.iconst 1, 1, 0, 0, 0) from rfl) h) ?_
      refine d_lift (fun k ws X h => z_goto X (t := 59) (show cdA 225 19 = some (.goto 40, 3, 0, 0, 0) from rfl) (by decide) h) ?_
      exact N1 _ (by omega)
  ·
    refine d_lift (fun k ws X h => z_const X (show cdA 225 7 = some (.iconst 0, 1, 0, 0, 0) from rfl) h) ?_
    refine d_lift (fun k ws X h => z_goto X (t := 59) (show cdA 225 8 = some (.goto 51, 3, 0, 0, 0) from rfl) (by decide) h) ?_
    exact N1 _ (by omega)
set_option maxHeartbeats 16000000 in
theorem d_byteAt (G : GX l s0 D tys a0 dT) (I : Bd s) {x : Int} (p0 : 0 ≤ x ∧ x ≤ 2147483647) {T : TT} (hti : ∀ q ∈ ([75, 81] : List Nat), T.1 q) (hta : ∀ a ∈ ([157, 158] : List Nat), ∀ j, j < (bA a).2.2 → T.2 a j) : CD l s0 D A dT 192 (rmN 192) [] [] T (T) [.ref (A 179), .int (Int32.ofInt x)] s (fun o t => Bd t ∧ Fm [] [] s t ∧ ∃ e, o = .inl (some (.int (Int32.ofInt e))) ∧ rng e ∧ ((iI s 75 ≤ x ∧ e = -1) ∨ (x < iI s 75 ∧ 0 ≤ e ∧ e ≤ 255))) := by
  refine cd_of G (by decide) (Nat.le_of_ble_eq_true rfl) (fun Q hQ => ?_)
  have I0 := I
  show DS l s0 D A dT 192 (rmN 192) [] [] (T) Q (T) 0 [(0, .ref (A 179)), (1, .int (Int32.ofInt x))] [] s
  have F : Fm [] [] s s := fm_rf _ _ s
  have b1 : (0 : Int) ≤ iI s 75 ∧ iI s 75 ≤ 200 := I.1 75
  refine d_lift (fun k ws X h => z_load_n X (x := x) (show cdA 192 0 = some (.iload_n 1, 1, 0, 0, 0) from rfl) (List.Mem.tail _ (List.Mem.head _)) h) ?_
  refine d_lift (fun k ws X h => z_aload_n X (x := A 179) (show cdA 192 1 = some (.aload_n 0, 1, 0, 0, 0) from rfl) (List.Mem.head _) h) ?_
  refine d_getI 179 (show cdA 192 2 = some (.getfield 178, 3, 12, 2, 0) from rfl) (by decide) rfl rfl (hti 75 (by decide)) ?_
  have b2 : (0 : Int) ≤ iI s 75 ∧ iI s 75 ≤ 200 := I.1 75
  have N3 : ∀ e4 : Int, (((x < (iI s 75)) ∧ ((0 : Int) ≤ iI s 81 ∧ iI s 81 ≤ 1) ∧ ((iI s 81) ≠ 0) ∧ ((0 : Int) ≤ iC s 158 (x).toNat ∧ iC s 158 (x).toNat ≤ 255) ∧ e4 = (iC s 158 (x).toNat)) ∨ ((x < (iI s 75)) ∧ ((0 : Int) ≤ iI s 81 ∧ iI s 81 ≤ 1) ∧ ((iI s 81) = 0) ∧ ((0 : Int) ≤ iC s 157 (x).toNat ∧ iC s 157 (x).toNat ≤ 255) ∧ e4 = (iC s 157 (x).toNat)) ∨ (((iI s 75) ≤ x) ∧ e4 = (-1))) → DS l s0 D A dT 192 (rmN 192) [] [] (T) Q (T) 34 [(0, .ref (A 179)), (1, .int (Int32.ofInt x))] [.int (Int32.ofInt e4)] s := by
    intro e4 he4
    exact d_iret rfl rfl (Or.inl rfl) (show cdA 192 34 = some (.ireturn, 1, 0, 0, 0) from rfl) (fun _ h => h) (hQ _ _ ⟨I, F, e4, rfl, ⟨by first | exact oq_e9a2ed3a he4 | omega, by first | exact oq_bae66a67 he4 | omega⟩, by first | exact oq_736808e1 he4 | omega⟩)
  refine d_br (bo_lt _ _) bx_lt (fun k ws X h1 h2 => z_icmp_lt X (t := 12) (show cdA 192 5 = some (.if_icmp .lt 7, 3, 2, 0, 0) from rfl) (by decide) ⟨by first | exact oq_fa4e5087 p0.1 | omega, by first | exact p0.2 | omega⟩ (rng_to _) h1 h2) (fun g5 => ?_) (fun g5 => ?_)
  ·
    refine d_lift (fun k ws X h => z_aload_n X (x := A 179) (show cdA 192 12 = some (.aload_n 0, 1, 0, 0, 0) from rfl) (List.Mem.head _) h) ?_
    refine d_getI 179 (show cdA 192 13 = some (.getfield 181, 3, 12, 8, 0) from rfl) (by decide) rfl rfl (hti 81 (by decide)) ?_
    have b6 : (0 : Int) ≤ iI s 81 ∧ iI s 81 ≤ 1 := I.1 81
    refine d_br (bo_ne _ _) bx_ne (fun k ws X h1 h2 => z_if_ne X (t := 28) (show cdA 192 16 = some (.ifCond .ne 12, 3, 1, 0, 0) from rfl) (by decide) (rng_to _) h1 h2) (fun g7 => ?_) (fun g7 => ?_)
    ·
      refine d_lift (fun k ws X h => z_aload_n X (x := A 179) (show cdA 192 28 = some (.aload_n 0, 1, 0, 0, 0) from rfl) (List.Mem.head _) h) ?_
      refine d_liftS (fun k s X h => s_getR X 179 (show cdA 192 29 = some (.getfield 17, 3, 12, 10, 0) from rfl) (by decide) rfl rfl h) ?_
      refine d_lift (fun k ws X h => z_load_n X (x := x) (show cdA 192 32 = some (.iload_n 1, 1, 0, 0, 0) from rfl) (List.Mem.tail _ (List.Mem.head _)) h) ?_
      refine d_ald 181 (show cdA 192 33 = some (.iaload, 1, 0, 0, 0) from rfl) (by decide) rfl (by first | exact p0.1 | omega) (show x < 200 by first | exact oq_6fca3d72 g5 b2.2 | omega) (by decide) (hta 158 (by decide) _ (show (x).toNat < 200 by first | exact oq_b70289d5 g5 b2.2 | omega)) ?_
      have b8 : (0 : Int) ≤ iC s 158 (x).toNat ∧ iC s 158 (x).toNat ≤ 255 := I.2 158 _ (show (x).toNat < 200 by first | exact oq_b70289d5 g5 b2.2 | omega)
      exact N3 _ (Or.inl ⟨g5, b6, g7, b8, rfl⟩)
    ·
      refine d_lift (fun k ws X h => z_aload_n X (x := A 179) (show cdA 192 19 = some (.aload_n 0, 1, 0, 0, 0) from rfl) (List.Mem.head _) h) ?_
      refine d_liftS (fun k s X h => s_getR X 179 (show cdA 192 20 = some (.getfield 13, 3, 12, 9, 0) from rfl) (by decide) rfl rfl h) ?_
      refine d_lift (fun k ws X h => z_load_n X (x := x) (show cdA 192 23 = some (.iload_n 1, 1, 0, 0, 0) from rfl) (List.Mem.tail _ (List.Mem.head _)) h) ?_
      refine d_ald 180 (show cdA 192 24 = some (.iaload, 1, 0, 0, 0) from rfl) (by decide) rfl (by first | exact p0.1 | omega) (show x < 200 by first | exact oq_6fca3d72 g5 b2.2 | omega) (by decide) (hta 157 (by decide) _ (show (x).toNat < 200 by first | exact oq_b70289d5 g5 b2.2 | omega)) ?_
      have b9 : (0 : Int) ≤ iC s 157 (x).toNat ∧ iC s 157 (x).toNat ≤ 255 := I.2 157 _ (show (x).toNat < 200 by first | exact oq_b70289d5 g5 b2.2 | omega)
      refine d_lift (fun k ws X h => z_goto X (t := 34) (show cdA 192 25 = some (.goto 9, 3, 0, 0, 0) from rfl) (by decide) h) ?_
      exact N3 _ (Or.inr (Or.inl ⟨g5, b6, g7, b9, rfl⟩))
  ·
    refine d_lift (fun k ws X h => z_const X (show cdA 192 8 = some (.iconst (-1), 1, 0, 0, 0) from rfl) h) ?_
    refine d_lift (fun k ws X h => z_goto X (t := 34) (show cdA 192 9 = some (.goto 25, 3, 0, 0, 0) from rfl) (by decide) h) ?_
    exact N3 _ (Or.inr (Or.inr (⟨g5, rfl⟩)))
set_option maxHeartbeats 16000000 in
theorem d_wrong (G : GX l s0 D tys a0 dT) (I : Bd s) {x y : Int} (p0 : 1 ≤ x ∧ x ≤ 9) (p1 : -1 ≤ y ∧ y ≤ 400) {T : TT} (hti : ∀ q ∈ ([79] : List Nat), T.1 q) (hta : ∀ a ∈ ([] : List Nat), ∀ j, j < (bA a).2.2 → T.2 a j) : CD l s0 D A dT 194 (rmN 194) [79, 80] [] T (T) [.ref (A 179), .int (Int32.ofInt x), .int (Int32.ofInt y)] s (fun o t => Bd t ∧ Fm [79, 80] [] s t ∧ o = .inl none ∧ (iI t 79 ≠ 0)) := by
  refine cd_of G (by decide) (Nat.le_of_ble_eq_true rfl) (fun Q hQ => ?_)
  have I0 := I
  show DS l s0 D A dT 194 (rmN 194) [79, 80] [] (T) Q (T) 0 [(0, .ref (A 179)), (1, .int (Int32.ofInt x)), (2, .int (Int32.ofInt y))] [] s
  have F : Fm [79, 80] [] s s := fm_rf _ _ s
  have b1 : (0 : Int) ≤ iI s 79 ∧ iI s 79 ≤ 9 := I.1 79
  refine d_lift (fun k ws X h => z_aload_n X (x := A 179) (show cdA 194 0 = some (.aload_n 0, 1, 0, 0, 0) from rfl) (List.Mem.head _) h) ?_
  refine d_getI 179 (show cdA 194 1 = some (.getfield 191, 3, 12, 6, 0) from rfl) (by decide) rfl rfl (hti 79 (by decide)) ?_
  have b2 : (0 : Int) ≤ iI s 79 ∧ iI s 79 ≤ 9 := I.1 79
  refine d_br (bo_ne _ _) bx_ne (fun k ws X h1 h2 => z_if_ne X (t := 17) (show cdA 194 4 = some (.ifCond .ne 13, 3, 1, 0, 0) from rfl) (by decide) (rng_to _) h1 h2) (fun g3 => ?_) (fun g3 => ?_)
  ·
    exact d_vret rfl (show cdA 194 17 = some (.return_, 1, 0, 0, 0) from rfl) (fun _ h => h) (hQ _ _ ⟨I, F, rfl, by first | exact g3 | omega⟩)
  ·
    refine d_lift (fun k ws X h => z_aload_n X (x := A 179) (show cdA 194 7 = some (.aload_n 0, 1, 0, 0, 0) from rfl) (List.Mem.head _) h) ?_
    refine d_lift (fun k ws X h => z_load_n X (x := x) (show cdA 194 8 = some (.iload_n 1, 1, 0, 0, 0) from rfl) (List.Mem.tail _ (List.Mem.head _)) h) ?_
    refine d_putI 179 (show cdA 194 9 = some (.putfield 191, 3, 12, 6, 0) from rfl) (by decide) rfl rfl (by decide) rfl rfl rfl (show 79 ∈ _ by decide) (show (0 : Int) ≤ x ∧ x ≤ 9 by first | exact ⟨oq_2a6e3b50 p0.1, p0.2⟩ | omega) ⟨by first | exact oq_9462313e p0.1 | omega, by first | exact oq_f7e7bb0e p0.2 | omega⟩ ?_
    refine d_mono (T' := T) (fun _ h => Or.inr h) (fun _ _ h => h) ?_
    obtain ⟨s4, hs4⟩ : ∃ x0, x0 = uI s 79 (Int32.ofInt x) := ⟨_, rfl⟩
    rw [← hs4]
    have Is4 : Bd s4 := by rw [hs4]; exact bd_I I (show (0 : Int) ≤ x ∧ x ≤ 9 by first | exact ⟨oq_2a6e3b50 p0.1, p0.2⟩ | omega) ⟨by first | exact oq_9462313e p0.1 | omega, by first | exact oq_f7e7bb0e p0.2 | omega⟩
    have Fs4 := fm_I (x := Int32.ofInt x) F (show 79 ∈ _ by decide)
    rw [← hs4] at Fs4
    have vs4 : iI s4 79 = x := by rw [hs4]; exact iI_u ⟨by first | exact oq_9462313e p0.1 | omega, by first | exact oq_f7e7bb0e p0.2 | omega⟩
    refine d_lift (fun k ws X h => z_aload_n X (x := A 179) (show cdA 194 12 = some (.aload_n 0, 1, 0, 0, 0) from rfl) (List.Mem.head _) h) ?_
    refine d_lift (fun k ws X h => z_load_n X (x := y) (show cdA 194 13 = some (.iload_n 2, 1, 0, 0, 0) from rfl) (List.Mem.tail _ (List.Mem.tail _ (List.Mem.head _))) h) ?_
    refine d_putI 179 (show cdA 194 14 = some (.putfield 194, 3, 12, 7, 0) from rfl) (by decide) rfl rfl (by decide) rfl rfl rfl (show 80 ∈ _ by decide) (show ((-1) : Int) ≤ y ∧ y ≤ 400 by first | exact ⟨p1.1, p1.2⟩ | omega) ⟨by first | exact oq_97ee2c2a p1.1 | omega, by first | exact oq_5a8480eb p1.2 | omega⟩ ?_
    refine d_mono (T' := T) (fun _ h => Or.inr h) (fun _ _ h => h) ?_
    obtain ⟨s5, hs5⟩ : ∃ x0, x0 = uI s4 80 (Int32.ofInt y) := ⟨_, rfl⟩
    rw [← hs5]
    have Is5 : Bd s5 := by rw [hs5]; exact bd_I Is4 (show ((-1) : Int) ≤ y ∧ y ≤ 400 by first | exact ⟨p1.1, p1.2⟩ | omega) ⟨by first | exact oq_97ee2c2a p1.1 | omega, by first | exact oq_5a8480eb p1.2 | omega⟩
    have Fs5 := fm_I (x := Int32.ofInt y) Fs4 (show 80 ∈ _ by decide)
    rw [← hs5] at Fs5
    have vs5 : iI s5 80 = y := by rw [hs5]; exact iI_u ⟨by first | exact oq_97ee2c2a p1.1 | omega, by first | exact oq_5a8480eb p1.2 | omega⟩
    have ws5_79 : iI s5 79 = iI s4 79 := by rw [hs5]; rfl
    exact d_vret rfl (show cdA 194 17 = some (.return_, 1, 0, 0, 0) from rfl) (fun _ h => h) (hQ _ _ ⟨Is5, Fs5, rfl, by first | exact oq_ed8779e6 ws5_79 vs4 p0.1 | omega⟩)
end M41
