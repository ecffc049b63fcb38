/-! Determined: the small ones -/
section M41
variable {l : Launch} {s0 : State} {D : va_G} {tys : List (ClassId × FieldType)} {a0 : Array Value} {A : Nat → Nat} {dT : Nat → ClassId} {s : PS}
set_option maxHeartbeats 16000000 in
theorem d_in (G : GX l s0 D tys a0 dT) (I : Bd s) {x y z : Int} (p0 : rng x) (p1 : rng y) (p2 : rng z) {T : TT} (hti : ∀ q ∈ ([] : List Nat), T.1 q) (hta : ∀ a ∈ ([] : List Nat), ∀ j, j < (bA a).2.2 → T.2 a j) : CD l s0 D A dT 188 (rmN 188) [] [] T (T) [.int (Int32.ofInt x), .int (Int32.ofInt y), .int (Int32.ofInt z)] s (fun o t => Bd t ∧ Fm [] [] s t ∧ ∃ e, o = .inl (some (.int (Int32.ofInt e))) ∧ rng e ∧ ((e = 1 ∧ y ≤ x ∧ x ≤ z) ∨ (e = 0 ∧ (x < y ∨ z < x)))) := by
  refine cd_of G (by decide) (Nat.le_of_ble_eq_true rfl) (fun Q hQ => ?_)
  have I0 := I
  show DS l s0 D A dT 188 (rmN 188) [] [] (T) Q (T) 0 [(0, .int (Int32.ofInt x)), (1, .int (Int32.ofInt y)), (2, .int (Int32.ofInt z))] [] s
  have F : Fm [] [] s s := fm_rf _ _ s
  refine d_lift (fun k ws X h => z_load_n X (x := x) rfl (List.Mem.head _) h) (d_lift (fun k ws X h => z_load_n X (x := y) rfl (List.Mem.tail _ (List.Mem.head _)) h) ?_)
  have N1 : ∀ e2 : Int, (((x < y) ∧ e2 = 0) ∨ ((y ≤ x) ∧ (z < x) ∧ e2 = 0) ∨ ((y ≤ x) ∧ (x ≤ z) ∧ e2 = 1)) → DS l s0 D A dT 188 (rmN 188) [] [] (T) Q (T) 15 [(0, .int (Int32.ofInt x)), (1, .int (Int32.ofInt y)), (2, .int (Int32.ofInt z))] [.int (Int32.ofInt e2)] s := by
    intro e2 he2
    have re2 : 0 ≤ e2 ∧ e2 ≤ 1 := by first | (clear he2; omega) | omega
    exact d_iret rfl (nar_ret (by first | exact oq_31e518ae re2.2 re2.1 | omega)) (Or.inr rfl) rfl (fun _ h => h) (hQ _ _ ⟨I, F, e2, rfl, ⟨by first | exact oq_fa4e5087 re2.1 | omega, by first | exact oq_22e1e6b0 re2.2 | omega⟩, by first | exact oq_eb048f71 re2.2 re2.1 he2 | omega⟩)
  refine d_br (bo_lt _ _) bx_lt (fun k ws X h1 h2 => z_icmp_lt X (t := 14) rfl (by decide) ⟨by first | exact p0.1 | omega, by first | exact p0.2 | omega⟩ ⟨by first | exact p1.1 | omega, by first | exact p1.2 | omega⟩ h1 h2) (fun g3 => ?_) (fun g3 => ?_)
  ·
    exact d_lift (fun k ws X h => z_const X rfl h) (N1 _ (Or.inl ⟨g3, rfl⟩))
  ·
    refine d_lift (fun k ws X h => z_load_n X (x := x) rfl (List.Mem.head _) h) (d_lift (fun k ws X h => z_load_n X (x := z) rfl (List.Mem.tail _ (List.Mem.tail _ (List.Mem.head _))) h) (d_br (bo_gt _ _) bx_gt (fun k ws X h1 h2 => z_icmp_gt X (t := 14) rfl (by decide) ⟨by first | exact p0.1 | omega, by first | exact p0.2 | omega⟩ ⟨by first | exact p2.1 | omega, by first | exact p2.2 | omega⟩ h1 h2) (fun g4 => ?_) (fun g4 => ?_)))
    ·
      exact d_lift (fun k ws X h => z_const X rfl h) (N1 _ (Or.inr (Or.inl ⟨g3, g4, rfl⟩)))
    ·
      exact d_lift (fun k ws X h => z_const X rfl h) (d_lift (fun k ws X h => z_goto X (t := 15) rfl (by decide) h) (N1 _ (Or.inr (Or.inr (⟨g3, g4, rfl⟩)))))
set_option maxHeartbeats 16000000 in
theorem d_isDigit (G : GX l s0 D tys a0 dT) (I : Bd s) {x : Int} (p0 : rng x) {T : TT} (hti : ∀ q ∈ ([] : List Nat), T.1 q) (hta : ∀ a ∈ ([] : List Nat), ∀ j, j < (bA a).2.2 → T.2 a j) : CD l s0 D A dT 195 (rmN 195) [] [] T (T) [.int (Int32.ofInt x)] s (fun o t => Bd t ∧ Fm [] [] s t ∧ ∃ e, o = .inl (some (.int (Int32.ofInt e))) ∧ rng e ∧ ((e = 1 ∧ 48 ≤ x ∧ x ≤ 57) ∨ (e = 0 ∧ (x < 48 ∨ 57 < x)))) := by
  refine cd_of G (by decide) (Nat.le_of_ble_eq_true rfl) (fun Q hQ => ?_)
  have I0 := I
  show DS l s0 D A dT 195 (rmN 195) [] [] (T) Q (T) 0 [(0, .int (Int32.ofInt x))] [] s
  have F : Fm [] [] s s := fm_rf _ _ s
  refine d_lift (fun k ws X h => z_load_n X (x := x) rfl (List.Mem.head _) h) (d_lift (fun k ws X h => z_bipush X rfl h) ?_)
  have N1 : ∀ e2 : Int, (((x < 48) ∧ e2 = 0) ∨ ((48 ≤ x) ∧ (57 < x) ∧ e2 = 0) ∨ ((48 ≤ x) ∧ (x ≤ 57) ∧ e2 = 1)) → DS l s0 D A dT 195 (rmN 195) [] [] (T) Q (T) 17 [(0, .int (Int32.ofInt x))] [.int (Int32.ofInt e2)] s := by
    intro e2 he2
    have re2 : 0 ≤ e2 ∧ e2 ≤ 1 := by first | (clear he2; omega) | omega
    exact d_iret rfl (nar_ret (by first | exact oq_31e518ae re2.2 re2.1 | omega)) (Or.inr rfl) rfl (fun _ h => h) (hQ _ _ ⟨I, F, e2, rfl, ⟨by first | exact oq_fa4e5087 re2.1 | omega, by first | exact oq_22e1e6b0 re2.2 | omega⟩, by first | exact oq_08c8a296 re2.2 re2.1 he2 | omega⟩)
  refine d_br (bo_lt _ _) bx_lt (fun k ws X h1 h2 => z_icmp_lt X (t := 16) rfl (by decide) ⟨by first | exact p0.1 | omega, by first | exact p0.2 | omega⟩ (by decide) h1 h2) (fun g3 => ?_) (fun g3 => ?_)
  ·
    exact d_lift (fun k ws X h => z_const X rfl h) (N1 _ (Or.inl ⟨g3, rfl⟩))
  ·
    refine d_lift (fun k ws X h => z_load_n X (x := x) rfl (List.Mem.head _) h) (d_lift (fun k ws X h => z_bipush X rfl h) (d_br (bo_gt _ _) bx_gt (fun k ws X h1 h2 => z_icmp_gt X (t := 16) rfl (by decide) ⟨by first | exact p0.1 | omega, by first | exact p0.2 | omega⟩ (by decide) h1 h2) (fun g4 => ?_) (fun g4 => ?_)))
    ·
      exact d_lift (fun k ws X h => z_const X rfl h) (N1 _ (Or.inr (Or.inl ⟨g3, g4, rfl⟩)))
    ·
      exact d_lift (fun k ws X h => z_const X rfl h) (d_lift (fun k ws X h => z_goto X (t := 17) rfl (by decide) h) (N1 _ (Or.inr (Or.inr (⟨g3, g4, rfl⟩)))))
set_option maxHeartbeats 16000000 in
theorem d_word (G : GX l s0 D tys a0 dT) (I : Bd s) {x1 x2 x3 x4 x5 x6 : Int} (p0 : 1 ≤ x1 ∧ x1 ≤ 27) (p1 : 0 ≤ x2 ∧ x2 ≤ 27) (p2 : 0 ≤ x3 ∧ x3 ≤ 27) (p3 : 0 ≤ x4 ∧ x4 ≤ 27) (p4 : 0 ≤ x5 ∧ x5 ≤ 27) (p5 : 0 ≤ x6 ∧ x6 ≤ 27) {T : TT} (hti : ∀ q ∈ ([] : List Nat), T.1 q) (hta : ∀ a ∈ ([] : List Nat), ∀ j, j < (bA a).2.2 → T.2 a j) : CD l s0 D A dT 202 (rmN 202) [] [] T (T) [.int (Int32.ofInt x1), .int (Int32.ofInt x2), .int (Int32.ofInt x3), .int (Int32.ofInt x4), .int (Int32.ofInt x5), .int (Int32.ofInt x6)] s (fun o t => Bd t ∧ Fm [] [] s t ∧ ∃ e, o = .inl (some (.int (Int32.ofInt e))) ∧ rng e ∧ (1 ≤ e)) := by
  refine cd_of G (by decide) (Nat.le_of_ble_eq_true rfl) (fun Q hQ => ?_)
  have I0 := I
  show DS l s0 D A dT 202 (rmN 202) [] [] (T) Q (T) 0 [(0, .int (Int32.ofInt x1)), (1, .int (Int32.ofInt x2)), (2, .int (Int32.ofInt x3)), (3, .int (Int32.ofInt x4)), (4, .int (Int32.ofInt x5)), (5, .int (Int32.ofInt x6))] [] s
  have F : Fm [] [] s s := fm_rf _ _ s
  refine d_lift (fun k ws X h => z_bipush X rfl h) (d_lift (fun k ws X h => z_load_n X (x := x1) rfl (List.Mem.head _) h) (d_lift (fun k ws X h => z_mul X rfl h) (d_lift (fun k ws X h => z_load_n X (x := x2) rfl (List.Mem.tail _ (List.Mem.head _)) h) (d_lift (fun k ws X h => z_add X rfl h) (d_lift (fun k ws X h => z_store X (lv' := [(6, .int (Int32.ofInt ((27 * x1) + x2))), (0, .int (Int32.ofInt x1)), (1, .int (Int32.ofInt x2)), (2, .int (Int32.ofInt x3)), (3, .int (Int32.ofInt x4)), (4, .int (Int32.ofInt x5)), (5, .int (Int32.ofInt x6))]) rfl (by decide) (fun _ h => h) h) (d_lift (fun k ws X h => z_load_n X (x := x3) rfl (List.Mem.tail _ (List.Mem.tail _ (List.Mem.tail _ (List.Mem.head _)))) h) ?_))))))
  have N1 : ∀ e2 : Int, (((x3 ≠ 0) ∧ e2 = ((27 * ((27 * x1) + x2)) + x3)) ∨ ((x3 = 0) ∧ e2 = ((27 * x1) + x2))) → DS l s0 D A dT 202 (rmN 202) [] [] (T) Q (T) 24 [(6, .int (Int32.ofInt ((27 * x1) + x2))), (0, .int (Int32.ofInt x1)), (1, .int (Int32.ofInt x2)), (2, .int (Int32.ofInt x3)), (3, .int (Int32.ofInt x4)), (4, .int (Int32.ofInt x5)), (5, .int (Int32.ofInt x6))] [.int (Int32.ofInt e2)] s := by
    intro e2 he2
    refine d_lift (fun k ws X h => z_store X (lv' := [(6, .int (Int32.ofInt e2)), (0, .int (Int32.ofInt x1)), (1, .int (Int32.ofInt x2)), (2, .int (Int32.ofInt x3)), (3, .int (Int32.ofInt x4)), (4, .int (Int32.ofInt x5)), (5, .int (Int32.ofInt x6))]) rfl (by decide) (fun _ h => h) h) (d_lift (fun k ws X h => z_load_n X (x := x4) rfl (List.Mem.tail _ (List.Mem.tail _ (List.Mem.tail _ (List.Mem.tail _ (List.Mem.head _))))) h) ?_)
    have N3 : ∀ e4 : Int, (((x4 ≠ 0) ∧ e4 = ((27 * e2) + x4)) ∨ ((x4 = 0) ∧ e4 = e2)) → DS l s0 D A dT 202 (rmN 202) [] [] (T) Q (T) 42 [(6, .int (Int32.ofInt e2)), (0, .int (Int32.ofInt x1)), (1, .int (Int32.ofInt x2)), (2, .int (Int32.ofInt x3)), (3, .int (Int32.ofInt x4)), (4, .int (Int32.ofInt x5)), (5, .int (Int32.ofInt x6))] [.int (Int32.ofInt e4)] s := by
      intro e4 he4
      refine d_lift (fun k ws X h => z_store X (lv' := [(6, .int (Int32.ofInt e4)), (0, .int (Int32.ofInt x1)), (1, .int (Int32.ofInt x2)), (2, .int (Int32.ofInt x3)), (3, .int (Int32.ofInt x4)), (4, .int (Int32.ofInt x5)), (5, .int (Int32.ofInt x6))]) rfl (by decide) (fun _ h => h) h) (d_lift (fun k ws X h => z_load X (x := x5) rfl (List.Mem.tail _ (List.Mem.tail _ (List.Mem.tail _ (List.Mem.tail _ (List.Mem.tail _ (List.Mem.head _)))))) h) ?_)
      have N5 : ∀ e6 : Int, (((x5 ≠ 0) ∧ e6 = ((27 * e4) + x5)) ∨ ((x5 = 0) ∧ e6 = e4)) → DS l s0 D A dT 202 (rmN 202) [] [] (T) Q (T) 62 [(6, .int (Int32.ofInt e4)), (0, .int (Int32.ofInt x1)), (1, .int (Int32.ofInt x2)), (2, .int (Int32.ofInt x3)), (3, .int (Int32.ofInt x4)), (4, .int (Int32.ofInt x5)), (5, .int (Int32.ofInt x6))] [.int (Int32.ofInt e6)] s := by
        intro e6 he6
        refine d_lift (fun k ws X h => z_store X (lv' := [(6, .int (Int32.ofInt e6)), (0, .int (Int32.ofInt x1)), (1, .int (Int32.ofInt x2)), (2, .int (Int32.ofInt x3)), (3, .int (Int32.ofInt x4)), (4, .int (Int32.ofInt x5)), (5, .int (Int32.ofInt x6))]) rfl (by decide) (fun _ h => h) h) (d_lift (fun k ws X h => z_load X (x := x6) rfl (List.Mem.tail _ (List.Mem.tail _ (List.Mem.tail _ (List.Mem.tail _ (List.Mem.tail _ (List.Mem.tail _ (List.Mem.head _))))))) h) ?_)
        have N7 : ∀ e8 : Int, (((x6 ≠ 0) ∧ e8 = ((27 * e6) + x6)) ∨ ((x6 = 0) ∧ e8 = e6)) → DS l s0 D A dT 202 (rmN 202) [] [] (T) Q (T) 82 [(6, .int (Int32.ofInt e6)), (0, .int (Int32.ofInt x1)), (1, .int (Int32.ofInt x2)), (2, .int (Int32.ofInt x3)), (3, .int (Int32.ofInt x4)), (4, .int (Int32.ofInt x5)), (5, .int (Int32.ofInt x6))] [.int (Int32.ofInt e8)] s := by
          intro e8 he8
          exact d_iret rfl rfl (Or.inl rfl) rfl (fun _ h => h) (hQ _ _ ⟨I, F, e8, rfl, ⟨by first | exact oq_ecd050b7 he8 he6 he4 he2 p5.1 p4.1 p3.1 p2.1 p1.1 p0.1 | omega, by first | exact oq_5f3f93de he8 he6 he4 he2 p5.2 p4.2 p3.2 p2.2 p1.2 p0.2 | omega⟩, by first | exact oq_66594a1b he8 he6 he4 he2 p5.1 p4.1 p3.1 p2.1 p1.1 p0.1 | omega⟩)
        refine d_br (bo_ne _ _) bx_ne (fun k ws X h1 h2 => z_if_ne X (t := 74) rfl (by decide) ⟨by first | exact oq_fa4e5087 p5.1 | omega, by first | exact oq_e977c44f p5.2 | omega⟩ h1 h2) (fun g9 => ?_) (fun g9 => ?_)
        ·
          exact d_lift (fun k ws X h => z_bipush X rfl h) (d_lift (fun k ws X h => z_load X (x := e6) rfl (List.Mem.head _) h) (d_lift (fun k ws X h => z_mul X rfl h) (d_lift (fun k ws X h => z_load X (x := x6) rfl (List.Mem.tail _ (List.Mem.tail _ (List.Mem.tail _ (List.Mem.tail _ (List.Mem.tail _ (List.Mem.tail _ (List.Mem.head _))))))) h) (d_lift (fun k ws X h => z_add X rfl h) (N7 _ (Or.inl ⟨g9, rfl⟩))))))
        ·
          exact d_lift (fun k ws X h => z_load X (x := e6) rfl (List.Mem.head _) h) (d_lift (fun k ws X h => z_goto X (t := 82) rfl (by decide) h) (N7 _ (Or.inr (⟨g9, rfl⟩))))
      refine d_br (bo_ne _ _) bx_ne (fun k ws X h1 h2 => z_if_ne X (t := 54) rfl (by decide) ⟨by first | exact oq_fa4e5087 p4.1 | omega, by first | exact oq_e977c44f p4.2 | omega⟩ h1 h2) (fun g10 => ?_) (fun g10 => ?_)
      ·
        exact d_lift (fun k ws X h => z_bipush X rfl h) (d_lift (fun k ws X h => z_load X (x := e4) rfl (List.Mem.head _) h) (d_lift (fun k ws X h => z_mul X rfl h) (d_lift (fun k ws X h => z_load X (x := x5) rfl (List.Mem.tail _ (List.Mem.tail _ (List.Mem.tail _ (List.Mem.tail _ (List.Mem.tail _ (List.Mem.head _)))))) h) (d_lift (fun k ws X h => z_add X rfl h) (N5 _ (Or.inl ⟨g10, rfl⟩))))))
      ·
        exact d_lift (fun k ws X h => z_load X (x := e4) rfl (List.Mem.head _) h) (d_lift (fun k ws X h => z_goto X (t := 62) rfl (by decide) h) (N5 _ (Or.inr (⟨g10, rfl⟩))))
    refine d_br (bo_ne _ _) bx_ne (fun k ws X h1 h2 => z_if_ne X (t := 35) rfl (by decide) ⟨by first | exact oq_fa4e5087 p3.1 | omega, by first | exact oq_e977c44f p3.2 | omega⟩ h1 h2) (fun g11 => ?_) (fun g11 => ?_)
    ·
      exact d_lift (fun k ws X h => z_bipush X rfl h) (d_lift (fun k ws X h => z_load X (x := e2) rfl (List.Mem.head _) h) (d_lift (fun k ws X h => z_mul X rfl h) (d_lift (fun k ws X h => z_load_n X (x := x4) rfl (List.Mem.tail _ (List.Mem.tail _ (List.Mem.tail _ (List.Mem.tail _ (List.Mem.head _))))) h) (d_lift (fun k ws X h => z_add X rfl h) (N3 _ (Or.inl ⟨g11, rfl⟩))))))
    ·
      exact d_lift (fun k ws X h => z_load X (x := e2) rfl (List.Mem.head _) h) (d_lift (fun k ws X h => z_goto X (t := 42) rfl (by decide) h) (N3 _ (Or.inr (⟨g11, rfl⟩))))
  refine d_br (bo_ne _ _) bx_ne (fun k ws X h1 h2 => z_if_ne X (t := 17) rfl (by decide) ⟨by first | exact oq_fa4e5087 p2.1 | omega, by first | exact oq_e977c44f p2.2 | omega⟩ h1 h2) (fun g12 => ?_) (fun g12 => ?_)
  ·
    exact d_lift (fun k ws X h => z_bipush X rfl h) (d_lift (fun k ws X h => z_load X (x := ((27 * x1) + x2)) rfl (List.Mem.head _) h) (d_lift (fun k ws X h => z_mul X rfl h) (d_lift (fun k ws X h => z_load_n X (x := x3) rfl (List.Mem.tail _ (List.Mem.tail _ (List.Mem.tail _ (List.Mem.head _)))) h) (d_lift (fun k ws X h => z_add X rfl h) (N1 _ (Or.inl ⟨g12, rfl⟩))))))
  ·
    exact d_lift (fun k ws X h => z_load X (x := ((27 * x1) + x2)) rfl (List.Mem.head _) h) (d_lift (fun k ws X h => z_goto X (t := 24) rfl (by decide) h) (N1 _ (Or.inr (⟨g12, rfl⟩))))
set_option maxHeartbeats 16000000 in
theorem d_stepOf (G : GX l s0 D tys a0 dT) (I : Bd s) {x y : Int} (p0 : 0 ≤ x ∧ x ≤ 127) (p1 : 0 ≤ y ∧ y ≤ 127) {T : TT} (hti : ∀ q ∈ ([] : List Nat), T.1 q) (hta : ∀ a ∈ ([] : List Nat), ∀ j, j < (bA a).2.2 → T.2 a j) : CD l s0 D A dT 225 (rmN 225) [] [] T (T) [.int (Int32.ofInt x), .int (Int32.ofInt y)] s (fun o t => Bd t ∧ Fm [] [] s t ∧ ∃ e, o = .inl (some (.int (Int32.ofInt e))) ∧ rng e ∧ (0 ≤ e ∧ e ≤ 5)) := by
  refine cd_of G (by decide) (Nat.le_of_ble_eq_true rfl) (fun Q hQ => ?_)
  have I0 := I
  show DS l s0 D A dT 225 (rmN 225) [] [] (T) Q (T) 0 [(0, .int (Int32.ofInt x)), (1, .int (Int32.ofInt y))] [] s
  have F : Fm [] [] s s := fm_rf _ _ s
  refine d_lift (fun k ws X h => z_load_n X (x := y) rfl (List.Mem.tail _ (List.Mem.head _)) h) (d_lift (fun k ws X h => z_load_n X (x := x) rfl (List.Mem.head _) h) (d_lift (fun k ws X h => z_sub X rfl h) (d_lift (fun k ws X h => z_const X rfl h) ?_)))
  have N1 : ∀ e2 : Int, (0 ≤ e2 ∧ e2 ≤ 5) → DS l s0 D A dT 225 (rmN 225) [] [] (T) Q (T) 59 [(0, .int (Int32.ofInt x)), (1, .int (Int32.ofInt y))] [.int (Int32.ofInt e2)] s := by
    intro e2 he2
    exact d_iret rfl rfl (Or.inl rfl) rfl (fun _ h => h) (hQ _ _ ⟨I, F, e2, rfl, ⟨by first | exact oq_fa4e5087 he2.1 | omega, by first | exact oq_a3dd55e5 he2.2 | omega⟩, by first | exact ⟨he2.1, he2.2⟩ | omega⟩)
  refine d_br (bo_ne _ _) bx_ne (fun k ws X h1 h2 => z_icmp_ne X (t := 11) rfl (by decide) ⟨by first | exact oq_449d3e35 p1.1 p0.2 | omega, by first | exact oq_ad754bc3 p1.2 p0.1 | omega⟩ (by decide) h1 h2) (fun g3 => ?_) (fun g3 => ?_)
  ·
    refine d_lift (fun k ws X h => z_load_n X (x := y) rfl (List.Mem.tail _ (List.Mem.head _)) h) (d_lift (fun k ws X h => z_load_n X (x := x) rfl (List.Mem.head _) h) (d_lift (fun k ws X h => z_sub X rfl h) (d_lift (fun k ws X h => z_const X rfl h) (d_br (bo_ne _ _) bx_ne (fun k ws X h1 h2 => z_icmp_ne X (t := 22) rfl (by decide) ⟨by first | exact oq_449d3e35 p1.1 p0.2 | omega, by first | exact oq_ad754bc3 p1.2 p0.1 | omega⟩ (by decide) h1 h2) (fun g4 => ?_) (fun g4 => ?_)))))
    ·
      refine d_lift (fun k ws X h => z_load_n X (x := y) rfl (List.Mem.tail _ (List.Mem.head _)) h) (d_lift (fun k ws X h => z_load_n X (x := x) rfl (List.Mem.head _) h) (d_lift (fun k ws X h => z_sub X rfl h) (d_lift (fun k ws X h => z_bipush X rfl h) (d_br (bo_ne _ _) bx_ne (fun k ws X h1 h2 => z_icmp_ne X (t := 34) rfl (by decide) ⟨by first | exact oq_449d3e35 p1.1 p0.2 | omega, by first | exact oq_ad754bc3 p1.2 p0.1 | omega⟩ (by decide) h1 h2) (fun g5 => ?_) (fun g5 => ?_)))))
      ·
        refine d_lift (fun k ws X h => z_load_n X (x := y) rfl (List.Mem.tail _ (List.Mem.head _)) h) (d_lift (fun k ws X h => z_load_n X (x := x) rfl (List.Mem.head _) h) (d_lift (fun k ws X h => z_sub X rfl h) (d_lift (fun k ws X h => z_bipush X rfl h) (d_br (bo_ne _ _) bx_ne (fun k ws X h1 h2 => z_icmp_ne X (t := 46) rfl (by decide) ⟨by first | exact oq_449d3e35 p1.1 p0.2 | omega, by first | exact oq_ad754bc3 p1.2 p0.1 | omega⟩ (by decide) h1 h2) (fun g6 => ?_) (fun g6 => ?_)))))
        ·
          refine d_lift (fun k ws X h => z_load_n X (x := y) rfl (List.Mem.tail _ (List.Mem.head _)) h) (d_lift (fun k ws X h => z_load_n X (x := x) rfl (List.Mem.head _) h) (d_lift (fun k ws X h => z_sub X rfl h) (d_lift (fun k ws X h => z_bipush X rfl h) (d_br (bo_ne _ _) bx_ne (fun k ws X h1 h2 => z_icmp_ne X (t := 58) rfl (by decide) ⟨by first | exact oq_449d3e35 p1.1 p0.2 | omega, by first | exact oq_ad754bc3 p1.2 p0.1 | omega⟩ (by decide) h1 h2) (fun g7 => ?_) (fun g7 => ?_)))))
          ·
            refine d_lift (fun k ws X h => z_const X rfl h) ?_
            exact N1 _ (by first | (clear g7 g6 g5 g4 g3; omega) | (clear g6 g5 g4 g3; omega) | omega)
          ·
            refine d_lift (fun k ws X h => z_const X rfl h) (d_lift (fun k ws X h => z_goto X (t := 59) rfl (by decide) h) ?_)
            exact N1 _ (by first | (clear g6 g5 g4 g3; omega) | (clear g5 g4 g3; omega) | omega)
        ·
          refine d_lift (fun k ws X h => z_const X rfl h) (d_lift (fun k ws X h => z_goto X (t := 59) rfl (by decide) h) ?_)
          exact N1 _ (by first | (clear g5 g4 g3; omega) | (clear g4 g3; omega) | omega)
      ·
        refine d_lift (fun k ws X h => z_const X rfl h) (d_lift (fun k ws X h => z_goto X (t := 59) rfl (by decide) h) ?_)
        exact N1 _ (by first | (clear g4 g3; omega) | (clear g3; omega) | omega)
    ·
      refine d_lift (fun k ws X h => z_const X rfl h) (d_lift (fun k ws X h => z_goto X (t := 59) rfl (by decide) h) ?_)
      exact N1 _ (by first | (clear g3; omega) | omega)
  ·
    refine d_lift (fun k ws X h => z_const X rfl h) (d_lift (fun k ws X h => z_goto X (t := 59) rfl (by decide) h) ?_)
    exact N1 _ (by omega)
set_option maxHeartbeats 16000000 in
theorem d_byteAt (G : GX l s0 D tys a0 dT) (I : Bd s) {x : Int} (p0 : 0 ≤ x ∧ x ≤ 2147483647) {T : TT} (hti : ∀ q ∈ ([75, 81] : List Nat), T.1 q) (hta : ∀ a ∈ ([157, 158] : List Nat), ∀ j, j < (bA a).2.2 → T.2 a j) : CD l s0 D A dT 192 (rmN 192) [] [] T (T) [.ref (A 179), .int (Int32.ofInt x)] s (fun o t => Bd t ∧ Fm [] [] s t ∧ ∃ e, o = .inl (some (.int (Int32.ofInt e))) ∧ rng e ∧ ((iI s 75 ≤ x ∧ e = -1) ∨ (x < iI s 75 ∧ 0 ≤ e ∧ e ≤ 255))) := by
  refine cd_of G (by decide) (Nat.le_of_ble_eq_true rfl) (fun Q hQ => ?_)
  have I0 := I
  show DS l s0 D A dT 192 (rmN 192) [] [] (T) Q (T) 0 [(0, .ref (A 179)), (1, .int (Int32.ofInt x))] [] s
  have F : Fm [] [] s s := fm_rf _ _ s
  have b1 := bi_75 I
  refine d_lift (fun k ws X h => z_load_n X (x := x) rfl (List.Mem.tail _ (List.Mem.head _)) h) (d_lift (fun k ws X h => z_aload_n X (x := A 179) rfl (List.Mem.head _) h) (d_getI 179 rfl (by decide) rfl rfl (hti 75 (by decide)) ?_))
  have b2 := bi_75 I
  have N3 : ∀ e4 : Int, (((x < (iI s 75)) ∧ ((0 : Int) ≤ iI s 81 ∧ iI s 81 ≤ 1) ∧ ((iI s 81) ≠ 0) ∧ ((0 : Int) ≤ iC s 158 (x).toNat ∧ iC s 158 (x).toNat ≤ 255) ∧ e4 = (iC s 158 (x).toNat)) ∨ ((x < (iI s 75)) ∧ ((0 : Int) ≤ iI s 81 ∧ iI s 81 ≤ 1) ∧ ((iI s 81) = 0) ∧ ((0 : Int) ≤ iC s 157 (x).toNat ∧ iC s 157 (x).toNat ≤ 255) ∧ e4 = (iC s 157 (x).toNat)) ∨ (((iI s 75) ≤ x) ∧ e4 = (-1))) → DS l s0 D A dT 192 (rmN 192) [] [] (T) Q (T) 34 [(0, .ref (A 179)), (1, .int (Int32.ofInt x))] [.int (Int32.ofInt e4)] s := by
    intro e4 he4
    exact d_iret rfl rfl (Or.inl rfl) rfl (fun _ h => h) (hQ _ _ ⟨I, F, e4, rfl, ⟨by first | exact oq_e9a2ed3a he4 | omega, by first | exact oq_bae66a67 he4 | omega⟩, by first | exact oq_736808e1 he4 | omega⟩)
  refine d_br (bo_lt _ _) bx_lt (fun k ws X h1 h2 => z_icmp_lt X (t := 12) rfl (by decide) ⟨by first | exact oq_fa4e5087 p0.1 | omega, by first | exact p0.2 | omega⟩ (rng_to _) h1 h2) (fun g5 => ?_) (fun g5 => ?_)
  ·
    refine d_lift (fun k ws X h => z_aload_n X (x := A 179) rfl (List.Mem.head _) h) (d_getI 179 rfl (by decide) rfl rfl (hti 81 (by decide)) ?_)
    have b6 := bi_81 I
    refine d_br (bo_ne _ _) bx_ne (fun k ws X h1 h2 => z_if_ne X (t := 28) rfl (by decide) (rng_to _) h1 h2) (fun g7 => ?_) (fun g7 => ?_)
    ·
      refine d_lift (fun k ws X h => z_aload_n X (x := A 179) rfl (List.Mem.head _) h) (d_liftS (fun k s X h => s_getR X 179 rfl (by decide) rfl rfl h) (d_lift (fun k ws X h => z_load_n X (x := x) rfl (List.Mem.tail _ (List.Mem.head _)) h) (d_ald 181 rfl (by decide) rfl (by first | exact p0.1 | omega) (show x < 200 by first | exact oq_6fca3d72 g5 b2.2 | omega) (by decide) (hta 158 (by decide) _ (show (x).toNat < 200 by first | exact oq_b70289d5 g5 b2.2 | omega)) ?_)))
      have b8 := bc_158 I (show (x).toNat < 200 by first | exact oq_b70289d5 g5 b2.2 | omega)
      exact N3 _ (Or.inl ⟨g5, b6, g7, b8, rfl⟩)
    ·
      refine d_lift (fun k ws X h => z_aload_n X (x := A 179) rfl (List.Mem.head _) h) (d_liftS (fun k s X h => s_getR X 179 rfl (by decide) rfl rfl h) (d_lift (fun k ws X h => z_load_n X (x := x) rfl (List.Mem.tail _ (List.Mem.head _)) h) (d_ald 180 rfl (by decide) rfl (by first | exact p0.1 | omega) (show x < 200 by first | exact oq_6fca3d72 g5 b2.2 | omega) (by decide) (hta 157 (by decide) _ (show (x).toNat < 200 by first | exact oq_b70289d5 g5 b2.2 | omega)) ?_)))
      have b9 := bc_157 I (show (x).toNat < 200 by first | exact oq_b70289d5 g5 b2.2 | omega)
      exact d_lift (fun k ws X h => z_goto X (t := 34) rfl (by decide) h) (N3 _ (Or.inr (Or.inl ⟨g5, b6, g7, b9, rfl⟩)))
  ·
    exact d_lift (fun k ws X h => z_const X rfl h) (d_lift (fun k ws X h => z_goto X (t := 34) rfl (by decide) h) (N3 _ (Or.inr (Or.inr (⟨g5, rfl⟩)))))
set_option maxHeartbeats 16000000 in
theorem d_wrong (G : GX l s0 D tys a0 dT) (I : Bd s) {x y : Int} (p0 : 1 ≤ x ∧ x ≤ 9) (p1 : -1 ≤ y ∧ y ≤ 400) {T : TT} (hti : ∀ q ∈ ([79] : List Nat), T.1 q) (hta : ∀ a ∈ ([] : List Nat), ∀ j, j < (bA a).2.2 → T.2 a j) : CD l s0 D A dT 194 (rmN 194) [79, 80] [] T (T) [.ref (A 179), .int (Int32.ofInt x), .int (Int32.ofInt y)] s (fun o t => Bd t ∧ Fm [79, 80] [] s t ∧ o = .inl none ∧ (iI t 79 ≠ 0)) := by
  refine cd_of G (by decide) (Nat.le_of_ble_eq_true rfl) (fun Q hQ => ?_)
  have I0 := I
  show DS l s0 D A dT 194 (rmN 194) [79, 80] [] (T) Q (T) 0 [(0, .ref (A 179)), (1, .int (Int32.ofInt x)), (2, .int (Int32.ofInt y))] [] s
  have F : Fm [79, 80] [] s s := fm_rf _ _ s
  have b1 := bi_79 I
  refine d_lift (fun k ws X h => z_aload_n X (x := A 179) rfl (List.Mem.head _) h) (d_getI 179 rfl (by decide) rfl rfl (hti 79 (by decide)) ?_)
  have b2 := bi_79 I
  refine d_br (bo_ne _ _) bx_ne (fun k ws X h1 h2 => z_if_ne X (t := 17) rfl (by decide) (rng_to _) h1 h2) (fun g3 => ?_) (fun g3 => ?_)
  ·
    exact d_vret rfl rfl (fun _ h => h) (hQ _ _ ⟨I, F, rfl, by first | exact g3 | omega⟩)
  ·
    refine d_lift (fun k ws X h => z_aload_n X (x := A 179) rfl (List.Mem.head _) h) (d_lift (fun k ws X h => z_load_n X (x := x) rfl (List.Mem.tail _ (List.Mem.head _)) h) (d_putI 179 rfl (by decide) rfl rfl (by decide) rfl rfl rfl (show 79 ∈ _ by decide) (show (0 : Int) ≤ x ∧ x ≤ 9 by first | exact ⟨oq_2a6e3b50 p0.1, p0.2⟩ | omega) ⟨by first | exact oq_9462313e p0.1 | omega, by first | exact oq_f7e7bb0e p0.2 | omega⟩ (d_mono (T' := T) (fun _ h => Or.inr h) (fun _ _ h => h) (ds_gen (fun s4 hs4 => ?_)))))
    have Is4 : Bd s4 := eqB hs4 (bd_I I (show (0 : Int) ≤ x ∧ x ≤ 9 by first | exact ⟨oq_2a6e3b50 p0.1, p0.2⟩ | omega) ⟨by first | exact oq_9462313e p0.1 | omega, by first | exact oq_f7e7bb0e p0.2 | omega⟩)
    have Fs4 := eqF hs4 (fm_I F (inl_ok (a := 79) rfl))
    have vs4 : iI s4 79 = x := eqI hs4 (iI_u ⟨by first | exact oq_9462313e p0.1 | omega, by first | exact oq_f7e7bb0e p0.2 | omega⟩)
    refine d_lift (fun k ws X h => z_aload_n X (x := A 179) rfl (List.Mem.head _) h) (d_lift (fun k ws X h => z_load_n X (x := y) rfl (List.Mem.tail _ (List.Mem.tail _ (List.Mem.head _))) h) (d_putI 179 rfl (by decide) rfl rfl (by decide) rfl rfl rfl (show 80 ∈ _ by decide) (show ((-1) : Int) ≤ y ∧ y ≤ 400 by first | exact ⟨p1.1, p1.2⟩ | omega) ⟨by first | exact oq_97ee2c2a p1.1 | omega, by first | exact oq_5a8480eb p1.2 | omega⟩ (d_mono (T' := T) (fun _ h => Or.inr h) (fun _ _ h => h) (ds_gen (fun s5 hs5 => ?_)))))
    have Is5 : Bd s5 := eqB hs5 (bd_I Is4 (show ((-1) : Int) ≤ y ∧ y ≤ 400 by first | exact ⟨p1.1, p1.2⟩ | omega) ⟨by first | exact oq_97ee2c2a p1.1 | omega, by first | exact oq_5a8480eb p1.2 | omega⟩)
    have Fs5 := eqF hs5 (fm_I Fs4 (inl_ok (a := 80) rfl))
    have vs5 : iI s5 80 = y := eqI hs5 (iI_u ⟨by first | exact oq_97ee2c2a p1.1 | omega, by first | exact oq_5a8480eb p1.2 | omega⟩)
    have ws5_79 : iI s5 79 = iI s4 79 := eqI hs5 rfl
    exact d_vret rfl rfl (fun _ h => h) (hQ _ _ ⟨Is5, Fs5, rfl, by first | exact oq_ed8779e6 ws5_79 vs4 p0.1 | omega⟩)
end M41
