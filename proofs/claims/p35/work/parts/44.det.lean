/-! Determined: tests -/
section M44
variable {l : Launch} {s0 : State} {D : va_G} {tys : List (ClassId × FieldType)} {a0 : Array Value} {A : Nat → Nat} {dT : Nat → ClassId} {s : PS}
set_option maxHeartbeats 16000000 in
theorem d_test0 (G : GX l s0 D tys a0 dT) (I : Bd s) (p0 : iI s 77 ≤ 203) (p1 : iI s 78 + ((0 : Nat) : Int) = 7) (p2 : iI s 78 = 7 → iI s 79 ≠ 0) (p3 : iI s 79 = 0 → iI s 77 ≤ 202) {T : TT} (hti : ∀ q ∈ ([77, 75, 78, 79, 81] : List Nat), T.1 q) (hta : ∀ a ∈ ([157, 158, 161] : List Nat), ∀ j, j < (bA a).2.2 → T.2 a j) : CD l s0 D A dT 210 (rkR (24 + 3 * (0))) [77, 79, 80, 78] [] T (T) [.ref (A 179)] s (fun o t => Bd t ∧ Fm [77, 79, 80, 78] [] s t ∧ ∃ e, o = .inl (some (.int (Int32.ofInt e))) ∧ rng e ∧ (iI t 78 = iI s 78 ∧ iI s 77 ≤ iI t 77 ∧ (iI t 77 = iI s 77 ∨ iI t 77 ≤ 203) ∧ (iI s 79 ≠ 0 → iI t 79 ≠ 0) ∧ (iI t 79 = 0 → iI t 77 ≤ iI s 75) ∧ (iI s 79 = 0 → iI s 77 < iI t 77) ∧ (e = 0 ∨ e = 1))) := by
  refine cd_of G (by decide) (Nat.le_of_ble_eq_true rfl) (fun Q hQ => ?_)
  have I0 := I
  show DS l s0 D A dT 210 (rkR (24 + 3 * (0))) [77, 79, 80, 78] [] (T) Q (T) 0 [(0, .ref (A 179))] [] s
  have F : Fm [77, 79, 80, 78] [] s s := fm_rf _ _ s
  have b1 : (0 : Int) ≤ iI s 77 ∧ iI s 77 ≤ 400 := I.1 77
  have b2 : (0 : Int) ≤ iI s 75 ∧ iI s 75 ≤ 200 := I.1 75
  have b3 : (0 : Int) ≤ iI s 79 ∧ iI s 79 ≤ 9 := I.1 79
  have b4 : (0 : Int) ≤ iI s 78 ∧ iI s 78 ≤ 8 := I.1 78
  refine d_lift (fun k ws X h => z_aload_n X (x := A 179) (show cdA 210 0 = some (.aload_n 0, 1, 0, 0, 0) from rfl) (List.Mem.head _) h) ?_
  refine d_getI 179 (show cdA 210 1 = some (.getfield 191, 3, 12, 6, 0) from rfl) (by decide) rfl rfl (hti 79 (by decide)) ?_
  have b5 : (0 : Int) ≤ iI s 79 ∧ iI s 79 ≤ 9 := I.1 79
  refine d_br (bo_eq _ _) bx_eq (fun k ws X h1 h2 => z_if_eq X (t := 9) (show cdA 210 4 = some (.ifCond .eq 5, 3, 0, 0, 0) from rfl) (by decide) (rng_to _) h1 h2) (fun g6 => ?_) (fun g6 => ?_)
  ·
    exfalso
    omega
  ·
    refine d_lift (fun k ws X h => z_const X (show cdA 210 7 = some (.iconst 0, 1, 0, 0, 0) from rfl) h) ?_
    exact d_iret rfl (nar_ret (by first | exact Or.inl (by decide) | omega)) (Or.inr rfl) (show cdA 210 8 = some (.ireturn, 1, 0, 0, 0) from rfl) (fun _ h => h) (hQ _ _ ⟨I, F, 0, rfl, (by decide), by first | exact ⟨by decide, by decide, Or.inl (by decide), oq_4bed1c3e g6 b5.1, oq_6a3c9b31 g6 b5.1, oq_a49e6adf g6 b5.1, Or.inl (by decide)⟩ | omega⟩)
set_option maxHeartbeats 16000000 in
theorem d_testS (G : GX l s0 D tys a0 dT) {r : Nat} (hT : ∀ {s : PS} {T : TT}, Bd s → (iI s 77 ≤ 203) → (iI s 78 + ((r : Nat) : Int) = 7) → (iI s 78 = 7 → iI s 79 ≠ 0) → (iI s 79 = 0 → iI s 77 ≤ 202) → (∀ q ∈ ([77, 75, 78, 79, 81] : List Nat), T.1 q) → (∀ a ∈ ([157, 158, 161] : List Nat), ∀ j, j < (bA a).2.2 → T.2 a j) → CD l s0 D A dT 210 (rkR (24 + 3 * (r))) [77, 79, 80, 78] [] T T [.ref (A 179)] s (fun o t => Bd t ∧ Fm [77, 79, 80, 78] [] s t ∧ ∃ e, o = .inl (some (.int (Int32.ofInt e))) ∧ rng e ∧ (iI t 78 = iI s 78 ∧ iI s 77 ≤ iI t 77 ∧ (iI t 77 = iI s 77 ∨ iI t 77 ≤ 203) ∧ (iI s 79 ≠ 0 → iI t 79 ≠ 0) ∧ (iI t 79 = 0 → iI t 77 ≤ iI s 75) ∧ (iI s 79 = 0 → iI s 77 < iI t 77) ∧ (e = 0 ∨ e = 1)))) (hO : ∀ {s : PS} {T : TT}, Bd s → (iI s 77 ≤ 203) → (iI s 78 + ((r : Nat) : Int) = 7) → (iI s 78 = 7 → iI s 79 ≠ 0) → (iI s 79 = 0 → iI s 77 ≤ 202) → (∀ q ∈ ([77, 75, 78, 79, 81] : List Nat), T.1 q) → (∀ a ∈ ([157, 158, 161] : List Nat), ∀ j, j < (bA a).2.2 → T.2 a j) → CD l s0 D A dT 212 (rkR (24 + 3 * (r) + 2)) [77, 79, 80, 78] [] T T [.ref (A 179)] s (fun o t => Bd t ∧ Fm [77, 79, 80, 78] [] s t ∧ ∃ e, o = .inl (some (.int (Int32.ofInt e))) ∧ rng e ∧ (iI t 78 = iI s 78 ∧ iI s 77 ≤ iI t 77 ∧ (iI t 77 = iI s 77 ∨ iI t 77 ≤ 203) ∧ (iI s 79 ≠ 0 → iI t 79 ≠ 0) ∧ (iI t 79 = 0 → iI t 77 ≤ iI s 75) ∧ (iI s 79 = 0 → iI s 77 < iI t 77) ∧ (e = 0 ∨ e = 1)))) (I : Bd s) (p0 : iI s 77 ≤ 203) (p1 : iI s 78 + ((r + 1 : Nat) : Int) = 7) (p2 : iI s 78 = 7 → iI s 79 ≠ 0) (p3 : iI s 79 = 0 → iI s 77 ≤ 202) {T : TT} (hti : ∀ q ∈ ([77, 75, 78, 79, 81] : List Nat), T.1 q) (hta : ∀ a ∈ ([157, 158, 161] : List Nat), ∀ j, j < (bA a).2.2 → T.2 a j) : CD l s0 D A dT 210 (rkR (24 + 3 * (r + 1))) [77, 79, 80, 78] [] T (T) [.ref (A 179)] s (fun o t => Bd t ∧ Fm [77, 79, 80, 78] [] s t ∧ ∃ e, o = .inl (some (.int (Int32.ofInt e))) ∧ rng e ∧ (iI t 78 = iI s 78 ∧ iI s 77 ≤ iI t 77 ∧ (iI t 77 = iI s 77 ∨ iI t 77 ≤ 203) ∧ (iI s 79 ≠ 0 → iI t 79 ≠ 0) ∧ (iI t 79 = 0 → iI t 77 ≤ iI s 75) ∧ (iI s 79 = 0 → iI s 77 < iI t 77) ∧ (e = 0 ∨ e = 1))) := by
  refine cd_of G (by decide) (Nat.le_of_ble_eq_true rfl) (fun Q hQ => ?_)
  have I0 := I
  show DS l s0 D A dT 210 (rkR (24 + 3 * (r + 1))) [77, 79, 80, 78] [] (T) Q (T) 0 [(0, .ref (A 179))] [] s
  have F : Fm [77, 79, 80, 78] [] s s := fm_rf _ _ s
  have b1 : (0 : Int) ≤ iI s 77 ∧ iI s 77 ≤ 400 := I.1 77
  have b2 : (0 : Int) ≤ iI s 75 ∧ iI s 75 ≤ 200 := I.1 75
  have b3 : (0 : Int) ≤ iI s 79 ∧ iI s 79 ≤ 9 := I.1 79
  have b4 : (0 : Int) ≤ iI s 78 ∧ iI s 78 ≤ 8 := I.1 78
  have L159 : ∀ (t : PS) (a c b : Int), Bd t → Fm [77, 79, 80, 78] [] s t → (iI t 78 = iI s 78 ∧ iI s 77 ≤ iI t 77 ∧ (iI t 77 = iI s 77 ∨ iI t 77 ≤ 203) ∧ (iI s 79 ≠ 0 → iI t 79 ≠ 0) ∧ (iI t 79 = 0 → iI t 77 ≤ iI s 75) ∧ (iI s 79 = 0 → iI s 77 < iI t 77) ∧ rng a ∧ (-1 ≤ c ∧ c ≤ 255) ∧ rng b) → DS l s0 D A dT 210 (rkR (24 + 3 * (r + 1))) [77, 79, 80, 78] [] (T) Q (T) 159 [(0, .ref (A 179)), (1, .int (Int32.ofInt a)), (2, .int (Int32.ofInt c)), (3, .int (Int32.ofInt b))] [] t := by
    intro t a c b I F hi
    have b1001 : (0 : Int) ≤ iI t 77 ∧ iI t 77 ≤ 400 := I.1 77
    have b1002 : (0 : Int) ≤ iI t 75 ∧ iI t 75 ≤ 200 := I.1 75
    have b1003 : (0 : Int) ≤ iI t 79 ∧ iI t 79 ≤ 9 := I.1 79
    have b1004 : (0 : Int) ≤ iI t 78 ∧ iI t 78 ≤ 8 := I.1 78
    refine d_lift (fun k ws X h => z_load_n X (x := c) (show cdA 210 159 = some (.iload_n 2, 1, 0, 0, 0) from rfl) (List.Mem.tail _ (List.Mem.tail _ (List.Mem.head _))) h) ?_
    refine d_lift (fun k ws X h => z_bipush X (show cdA 210 160 = some (.bipush 60, 2, 0, 0, 60) from rfl) h) ?_
    have N1005 : ∀ e1006 : Int, (((c ≠ 60) ∧ (c ≠ 62) ∧ (a ≠ b) ∧ e1006 = 0) ∨ ((c ≠ 60) ∧ (c ≠ 62) ∧ (a = b) ∧ e1006 = 1) ∨ ((c ≠ 60) ∧ (c = 62) ∧ (a ≤ b) ∧ e1006 = 0) ∨ ((c ≠ 60) ∧ (c = 62) ∧ (b < a) ∧ e1006 = 1) ∨ ((c = 60) ∧ (b ≤ a) ∧ e1006 = 0) ∨ ((c = 60) ∧ (a < b) ∧ e1006 = 1)) → DS l s0 D A dT 210 (rkR (24 + 3 * (r + 1))) [77, 79, 80, 78] [] (T) Q (T) 207 [(0, .ref (A 179)), (1, .int (Int32.ofInt a)), (2, .int (Int32.ofInt c)), (3, .int (Int32.ofInt b))] [.int (Int32.ofInt e1006)] t := by
      intro e1006 he1006
      have re1006 : 0 ≤ e1006 ∧ e1006 ≤ 1 := by omega
      exact d_iret rfl (nar_ret (by first | exact oq_31e518ae re1006.2 re1006.1 | omega)) (Or.inr rfl) (show cdA 210 207 = some (.ireturn, 1, 0, 0, 0) from rfl) (fun _ h => h) (hQ _ _ ⟨I, F, e1006, rfl, ⟨by first | exact oq_fa4e5087 re1006.1 | omega, by first | exact oq_22e1e6b0 re1006.2 | omega⟩, by first | exact ⟨hi.1, hi.2.1, hi.2.2.1, hi.2.2.2.1, hi.2.2.2.2.1, hi.2.2.2.2.2.1, oq_31e518ae re1006.2 re1006.1⟩ | omega⟩)
    refine d_br (bo_ne _ _) bx_ne (fun k ws X h1 h2 => z_icmp_ne X (t := 178) (show cdA 210 162 = some (.if_icmp .ne 16, 3, 1, 0, 0) from rfl) (by decide) ⟨by first | exact oq_97ee2c2a hi.2.2.2.2.2.2.2.1.1 | omega, by first | exact oq_4567a937 hi.2.2.2.2.2.2.2.1.2 | omega⟩ (by decide) h1 h2) (fun g1007 => ?_) (fun g1007 => ?_)
    ·
      refine d_lift (fun k ws X h => z_load_n X (x := c) (show cdA 210 178 = some (.iload_n 2, 1, 0, 0, 0) from rfl) (List.Mem.tail _ (List.Mem.tail _ (List.Mem.head _))) h) ?_
      refine d_lift (fun k ws X h => z_bipush X (show cdA 210 179 = some (.bipush 62, 2, 0, 0, 62) from rfl) h) ?_
      refine d_br (bo_ne _ _) bx_ne (fun k ws X h1 h2 => z_icmp_ne X (t := 197) (show cdA 210 181 = some (.if_icmp .ne 16, 3, 1, 0, 0) from rfl) (by decide) ⟨by first | exact oq_97ee2c2a hi.2.2.2.2.2.2.2.1.1 | omega, by first | exact oq_4567a937 hi.2.2.2.2.2.2.2.1.2 | omega⟩ (by decide) h1 h2) (fun g1008 => ?_) (fun g1008 => ?_)
      ·
        refine d_lift (fun k ws X h => z_load_n X (x := a) (show cdA 210 197 = some (.iload_n 1, 1, 0, 0, 0) from rfl) (List.Mem.tail _ (List.Mem.head _)) h) ?_
        refine d_lift (fun k ws X h => z_load_n X (x := b) (show cdA 210 198 = some (.iload_n 3, 1, 0, 0, 0) from rfl) (List.Mem.tail _ (List.Mem.tail _ (List.Mem.tail _ (List.Mem.head _)))) h) ?_
        refine d_br (bo_ne _ _) bx_ne (fun k ws X h1 h2 => z_icmp_ne X (t := 206) (show cdA 210 199 = some (.if_icmp .ne 7, 3, 1, 0, 0) from rfl) (by decide) ⟨by first | exact hi.2.2.2.2.2.2.1.1 | omega, by first | exact hi.2.2.2.2.2.2.1.2 | omega⟩ ⟨by first | exact hi.2.2.2.2.2.2.2.2.1 | omega, by first | exact hi.2.2.2.2.2.2.2.2.2 | omega⟩ h1 h2) (fun g1009 => ?_) (fun g1009 => ?_)
        ·
          refine d_lift (fun k ws X h => z_const X (show cdA 210 206 = some (.iconst 0, 1, 0, 0, 0) from rfl) h) ?_
          exact N1005 _ (Or.inl ⟨g1007, g1008, g1009, rfl⟩)
        ·
          refine d_lift (fun k ws X h => z_const X (show cdA 210 202 = some (.iconst 1, 1, 0, 0, 0) from rfl) h) ?_
          refine d_lift (fun k ws X h => z_goto X (t := 207) (show cdA 210 203 = some (.goto 4, 3, 0, 0, 0) from rfl) (by decide) h) ?_
          exact N1005 _ (Or.inr (Or.inl ⟨g1007, g1008, g1009, rfl⟩))
      ·
        refine d_lift (fun k ws X h => z_load_n X (x := a) (show cdA 210 184 = some (.iload_n 1, 1, 0, 0, 0) from rfl) (List.Mem.tail _ (List.Mem.head _)) h) ?_
        refine d_lift (fun k ws X h => z_load_n X (x := b) (show cdA 210 185 = some (.iload_n 3, 1, 0, 0, 0) from rfl) (List.Mem.tail _ (List.Mem.tail _ (List.Mem.tail _ (List.Mem.head _)))) h) ?_
        refine d_br (bo_le _ _) bx_le (fun k ws X h1 h2 => z_icmp_le X (t := 193) (show cdA 210 186 = some (.if_icmp .le 7, 3, 5, 0, 0) from rfl) (by decide) ⟨by first | exact hi.2.2.2.2.2.2.1.1 | omega, by first | exact hi.2.2.2.2.2.2.1.2 | omega⟩ ⟨by first | exact hi.2.2.2.2.2.2.2.2.1 | omega, by first | exact hi.2.2.2.2.2.2.2.2.2 | omega⟩ h1 h2) (fun g1010 => ?_) (fun g1010 => ?_)
        ·
          refine d_lift (fun k ws X h => z_const X (show cdA 210 193 = some (.iconst 0, 1, 0, 0, 0) from rfl) h) ?_
          refine d_lift (fun k ws X h => z_goto X (t := 207) (show cdA 210 194 = some (.goto 13, 3, 0, 0, 0) from rfl) (by decide) h) ?_
          exact N1005 _ (Or.inr (Or.inr (Or.inl ⟨g1007, g1008, g1010, rfl⟩)))
        ·
          refine d_lift (fun k ws X h => z_const X (show cdA 210 189 = some (.iconst 1, 1, 0, 0, 0) from rfl) h) ?_
          refine d_lift (fun k ws X h => z_goto X (t := 207) (show cdA 210 190 = some (.goto 17, 3, 0, 0, 0) from rfl) (by decide) h) ?_
          exact N1005 _ (Or.inr (Or.inr (Or.inr (Or.inl ⟨g1007, g1008, g1010, rfl⟩))))
    ·
      refine d_lift (fun k ws X h => z_load_n X (x := a) (show cdA 210 165 = some (.iload_n 1, 1, 0, 0, 0) from rfl) (List.Mem.tail _ (List.Mem.head _)) h) ?_
      refine d_lift (fun k ws X h => z_load_n X (x := b) (show cdA 210 166 = some (.iload_n 3, 1, 0, 0, 0) from rfl) (List.Mem.tail _ (List.Mem.tail _ (List.Mem.tail _ (List.Mem.head _)))) h) ?_
      refine d_br (bo_ge _ _) bx_ge (fun k ws X h1 h2 => z_icmp_ge X (t := 174) (show cdA 210 167 = some (.if_icmp .ge 7, 3, 3, 0, 0) from rfl) (by decide) ⟨by first | exact hi.2.2.2.2.2.2.1.1 | omega, by first | exact hi.2.2.2.2.2.2.1.2 | omega⟩ ⟨by first | exact hi.2.2.2.2.2.2.2.2.1 | omega, by first | exact hi.2.2.2.2.2.2.2.2.2 | omega⟩ h1 h2) (fun g1011 => ?_) (fun g1011 => ?_)
      ·
        refine d_lift (fun k ws X h => z_const X (show cdA 210 174 = some (.iconst 0, 1, 0, 0, 0) from rfl) h) ?_
        refine d_lift (fun k ws X h => z_goto X (t := 207) (show cdA 210 175 = some (.goto 32, 3, 0, 0, 0) from rfl) (by decide) h) ?_
        exact N1005 _ (Or.inr (Or.inr (Or.inr (Or.inr (Or.inl ⟨g1007, g1011, rfl⟩)))))
      ·
        refine d_lift (fun k ws X h => z_const X (show cdA 210 170 = some (.iconst 1, 1, 0, 0, 0) from rfl) h) ?_
        refine d_lift (fun k ws X h => z_goto X (t := 207) (show cdA 210 171 = some (.goto 36, 3, 0, 0, 0) from rfl) (by decide) h) ?_
        exact N1005 _ (Or.inr (Or.inr (Or.inr (Or.inr (Or.inr (⟨g1007, g1011, rfl⟩))))))
  have L144 : ∀ (t : PS) (a c : Int), Bd t → Fm [77, 79, 80, 78] [] s t → (iI t 78 = iI s 78 ∧ iI s 77 ≤ iI t 77 ∧ (iI t 77 = iI s 77 ∨ iI t 77 ≤ 202) ∧ (iI s 79 ≠ 0 → iI t 79 ≠ 0) ∧ (iI t 79 = 0 → iI t 77 ≤ iI s 75) ∧ iI s 79 = 0 ∧ iI t 75 = iI s 75 ∧ rng a ∧ (-1 ≤ c ∧ c ≤ 255)) → DS l s0 D A dT 210 (rkR (24 + 3 * (r + 1))) [77, 79, 80, 78] [] (T) Q (T) 144 [(0, .ref (A 179)), (1, .int (Int32.ofInt a)), (2, .int (Int32.ofInt c))] [] t := by
    intro t a c I F hi
    have b2001 : (0 : Int) ≤ iI t 77 ∧ iI t 77 ≤ 400 := I.1 77
    have b2002 : (0 : Int) ≤ iI t 75 ∧ iI t 75 ≤ 200 := I.1 75
    have b2003 : (0 : Int) ≤ iI t 79 ∧ iI t 79 ≤ 9 := I.1 79
    have b2004 : (0 : Int) ≤ iI t 78 ∧ iI t 78 ≤ 8 := I.1 78
    refine d_lift (fun k ws X h => z_aload_n X (x := A 179) (show cdA 210 144 = some (.aload_n 0, 1, 0, 0, 0) from rfl) (List.Mem.head _) h) ?_
    refine d_lift (fun k ws X h => w_dup X.1 (ax_d X (show cdA 210 145 = some (.dup, 1, 0, 0, 0) from rfl)) rfl h) ?_
    refine d_getI 179 (show cdA 210 146 = some (.getfield 184, 3, 12, 4, 0) from rfl) (by decide) rfl rfl (hti 77 (by decide)) ?_
    have b2005 : (0 : Int) ≤ iI t 77 ∧ iI t 77 ≤ 400 := I.1 77
    refine d_lift (fun k ws X h => z_const X (show cdA 210 149 = some (.iconst 1, 1, 0, 0, 0) from rfl) h) ?_
    refine d_lift (fun k ws X h => z_add X (show cdA 210 150 = some (.iadd, 1, 0, 0, 0) from rfl) h) ?_
    refine d_putI 179 (show cdA 210 151 = some (.putfield 184, 3, 12, 4, 0) from rfl) (by decide) rfl rfl (by decide) rfl rfl rfl (show 77 ∈ _ by decide) (show (0 : Int) ≤ ((iI t 77) + 1) ∧ ((iI t 77) + 1) ≤ 400 by first | exact ⟨oq_54f49eb5 b2005.1, oq_886c3d04 hi.2.2.1 p0⟩ | omega) ⟨by first | exact oq_74de1e16 b2005.1 | omega, by first | exact oq_964ce197 b2005.2 | omega⟩ ?_
    refine d_mono (T' := T) (fun _ h => Or.inr h) (fun _ _ h => h) ?_
    obtain ⟨s2006, hs2006⟩ : ∃ x0, x0 = uI t 77 (Int32.ofInt ((iI t 77) + 1)) := ⟨_, rfl⟩
    rw [← hs2006]
    have Is2006 : Bd s2006 := by rw [hs2006]; exact bd_I I (show (0 : Int) ≤ ((iI t 77) + 1) ∧ ((iI t 77) + 1) ≤ 400 by first | exact ⟨oq_54f49eb5 b2005.1, oq_886c3d04 hi.2.2.1 p0⟩ | omega) ⟨by first | exact oq_74de1e16 b2005.1 | omega, by first | exact oq_964ce197 b2005.2 | omega⟩
    have Fs2006 := fm_I (x := Int32.ofInt ((iI t 77) + 1)) F (show 77 ∈ _ by decide)
    rw [← hs2006] at Fs2006
    have vs2006 : iI s2006 77 = ((iI t 77) + 1) := by rw [hs2006]; exact iI_u ⟨by first | exact oq_74de1e16 b2005.1 | omega, by first | exact oq_964ce197 b2005.2 | omega⟩
    have ws2006_75 : iI s2006 75 = iI t 75 := by rw [hs2006]; rfl
    have ws2006_79 : iI s2006 79 = iI t 79 := by rw [hs2006]; rfl
    have ws2006_78 : iI s2006 78 = iI t 78 := by rw [hs2006]; rfl
    refine d_lift (fun k ws X h => z_aload_n X (x := A 179) (show cdA 210 154 = some (.aload_n 0, 1, 0, 0, 0) from rfl) (List.Mem.head _) h) ?_
    refine d_callV 179 (As := []) (st := []) (show cdA 210 155 = some (.invokevirtual 260, 3, 209, 0, 0) from rfl) rfl (by decide) rfl ((d_sumr G (r + 1)).2.2 Is2006 (by first | exact oq_bc84bd0b vs2006 hi.2.2.2.2.2.1 hi.2.2.1 p3 | omega) (by first | exact oq_82f073b0 ws2006_78 p1 hi.1 | omega) (by first | exact oq_4d33fe7c ws2006_78 hi.2.2.2.2.2.1 hi.1 p2 | omega) (fun q h => hti q ((by decide : ∀ q ∈ ([77, 75, 78, 79, 81] : List Nat), q ∈ ([77, 75, 78, 79, 81] : List Nat)) q h)) (fun a h => hta a ((by decide : ∀ q ∈ ([157, 158, 161] : List Nat), q ∈ ([157, 158, 161] : List Nat)) a h))) ⟨rfl, rfl⟩ ⟨(show (12 + (3 * (r + 1) + 2)) + 1 ≤ (12 + (24 + 3 * (r + 1))) from oq_78548c36 r), (show 8 + (mNL (miB 209) + 11) + (500 + 45 * (3 * (r + 1) + 2)) ≤ (500 + 45 * (24 + 3 * (r + 1))) from oq_7957a5e4 r)⟩ (Nat.le_of_ble_eq_true rfl) (by decide) (by decide) (fun ee s2007 hq => ?_) (fun vv s2007 hq => ?_)
    · obtain ⟨Is2007, Fs2007, e2008, hv, hrs2007, hps2007⟩ := hq; cases hv
    obtain ⟨Is2007, Fs2007, e2008, hv, hrs2007, hps2007⟩ := hq
    cases hv
    have Gs2007 := fm_ts Fs2006 Fs2007 (by decide) (by decide)
    have b2009 : (0 : Int) ≤ iI s2007 77 ∧ iI s2007 77 ≤ 400 := Is2007.1 77
    have ws2007_75 : iI s2007 75 = iI s2006 75 := fm_i Fs2007 (by decide)
    have b2010 : (0 : Int) ≤ iI s2007 79 ∧ iI s2007 79 ≤ 9 := Is2007.1 79
    have b2011 : (0 : Int) ≤ iI s2007 78 ∧ iI s2007 78 ≤ 8 := Is2007.1 78
    show DS l s0 D A dT 210 (rkR (24 + 3 * (r + 1))) [77, 79, 80, 78] [] (T) Q (T) 158 [(0, .ref (A 179)), (1, .int (Int32.ofInt a)), (2, .int (Int32.ofInt c))] [.int (Int32.ofInt e2008)] s2007
    refine d_lift (fun k ws X h => z_store_n X (lv' := [(3, .int (Int32.ofInt e2008)), (0, .ref (A 179)), (1, .int (Int32.ofInt a)), (2, .int (Int32.ofInt c))]) (show cdA 210 158 = some (.istore_n 3, 1, 0, 0, 0) from rfl) (by decide) (fun _ h => h) h) ?_
    refine d_lvs (lv := [(0, .ref (A 179)), (1, .int (Int32.ofInt a)), (2, .int (Int32.ofInt c)), (3, .int (Int32.ofInt e2008))]) (List.forall_mem_cons.mpr ⟨(List.Mem.tail _ (List.Mem.head _)), (List.forall_mem_cons.mpr ⟨(List.Mem.tail _ (List.Mem.tail _ (List.Mem.head _))), (List.forall_mem_cons.mpr ⟨(List.Mem.tail _ (List.Mem.tail _ (List.Mem.tail _ (List.Mem.head _)))), (List.forall_mem_cons.mpr ⟨(List.Mem.head _), (fun q h => absurd h List.not_mem_nil)⟩)⟩)⟩)⟩) ?_
    exact L159 _ a c e2008 Is2007 Gs2007 (by first | exact ⟨oq_878618b1 hps2007.1 ws2006_78 hi.1, oq_ed635da4 hps2007.2.1 vs2006 hi.2.1, oq_300ee640 hps2007.2.2.1 vs2006 hi.2.2.2.2.2.1 hi.2.2.1 p3, oq_e013ad0f hi.2.2.2.2.2.1, oq_70dd041d b2010.1 hps2007.2.2.2.2 ws2006_75 hi.2.2.2.2.2.2.1, oq_bed11c68 hps2007.2.1 vs2006 hi.2.1, And.intro (hi.2.2.2.2.2.2.2.1.1) (hi.2.2.2.2.2.2.2.1.2), And.intro (hi.2.2.2.2.2.2.2.2.1) (hi.2.2.2.2.2.2.2.2.2), hrs2007.1, hrs2007.2⟩ | omega)
  have L104 : ∀ (t : PS) (a : Int), Bd t → Fm [77, 79, 80, 78] [] s t → (iI t 78 = iI s 78 ∧ iI s 77 ≤ iI t 77 ∧ (iI t 77 = iI s 77 ∨ iI t 77 ≤ 202) ∧ (iI s 79 ≠ 0 → iI t 79 ≠ 0) ∧ (iI t 79 = 0 → iI t 77 ≤ iI s 75) ∧ iI s 79 = 0 ∧ iI t 75 = iI s 75 ∧ rng a) → DS l s0 D A dT 210 (rkR (24 + 3 * (r + 1))) [77, 79, 80, 78] [] (T) Q (T) 104 [(0, .ref (A 179)), (1, .int (Int32.ofInt a))] [] t := by
    intro t a I F hi
    have b3001 : (0 : Int) ≤ iI t 77 ∧ iI t 77 ≤ 400 := I.1 77
    have b3002 : (0 : Int) ≤ iI t 75 ∧ iI t 75 ≤ 200 := I.1 75
    have b3003 : (0 : Int) ≤ iI t 79 ∧ iI t 79 ≤ 9 := I.1 79
    have b3004 : (0 : Int) ≤ iI t 78 ∧ iI t 78 ≤ 8 := I.1 78
    refine d_lift (fun k ws X h => z_aload_n X (x := A 179) (show cdA 210 104 = some (.aload_n 0, 1, 0, 0, 0) from rfl) (List.Mem.head _) h) ?_
    refine d_callV 179 (As := []) (st := []) (show cdA 210 105 = some (.invokevirtual 197, 3, 193, 0, 0) from rfl) rfl (by decide) rfl (d_blanks G I (by first | exact oq_299765ef hi.2.2.1 p0 | omega) (fun q h => hti q ((by decide : ∀ q ∈ ([77, 75, 78, 79, 81] : List Nat), q ∈ ([77, 75, 78, 79, 81] : List Nat)) q h)) (fun a h => hta a ((by decide : ∀ q ∈ ([157, 158, 161] : List Nat), q ∈ ([157, 158, 161] : List Nat)) a h))) ⟨rfl, rfl⟩ ⟨(show 7 + 1 ≤ (12 + (24 + 3 * (r + 1))) from oq_36eaf53c r), (show 8 + (mNL (miB 193) + 11) + 121 ≤ (500 + 45 * (24 + 3 * (r + 1))) from oq_a27e1a18 r)⟩ (Nat.le_of_ble_eq_true rfl) (by decide) (by decide) (fun ee s3005 hq => ?_) (fun vv s3005 hq => ?_)
    · obtain ⟨Is3005, Fs3005, hv, hps3005⟩ := hq; cases hv
    obtain ⟨Is3005, Fs3005, hv, hps3005⟩ := hq
    cases hv
    have Gs3005 := fm_ts F Fs3005 (by decide) (by decide)
    have b3007 : (0 : Int) ≤ iI s3005 77 ∧ iI s3005 77 ≤ 400 := Is3005.1 77
    have ws3005_75 : iI s3005 75 = iI t 75 := fm_i Fs3005 (by decide)
    have ws3005_79 : iI s3005 79 = iI t 79 := fm_i Fs3005 (by decide)
    have ws3005_78 : iI s3005 78 = iI t 78 := fm_i Fs3005 (by decide)
    show DS l s0 D A dT 210 (rkR (24 + 3 * (r + 1))) [77, 79, 80, 78] [] (T) Q (T) 108 [(0, .ref (A 179)), (1, .int (Int32.ofInt a))] [] s3005
    refine d_lift (fun k ws X h => z_aload_n X (x := A 179) (show cdA 210 108 = some (.aload_n 0, 1, 0, 0, 0) from rfl) (List.Mem.head _) h) ?_
    refine d_lift (fun k ws X h => z_aload_n X (x := A 179) (show cdA 210 109 = some (.aload_n 0, 1, 0, 0, 0) from rfl) (List.Mem.head _) h) ?_
    refine d_getI 179 (show cdA 210 110 = some (.getfield 184, 3, 12, 4, 0) from rfl) (by decide) rfl rfl (hti 77 (by decide)) ?_
    have b3008 : (0 : Int) ≤ iI s3005 77 ∧ iI s3005 77 ≤ 400 := Is3005.1 77
    refine d_callV 179 (As := [.int (Int32.ofInt (iI s3005 77))]) (st := []) (show cdA 210 113 = some (.invokevirtual 187, 3, 192, 0, 0) from rfl) rfl (by decide) rfl (d_byteAt G Is3005 (by first | exact ⟨b3008.1, oq_5a8480eb b3008.2⟩ | omega) (fun q h => hti q ((by decide : ∀ q ∈ ([75, 81] : List Nat), q ∈ ([77, 75, 78, 79, 81] : List Nat)) q h)) (fun a h => hta a ((by decide : ∀ q ∈ ([157, 158] : List Nat), q ∈ ([157, 158, 161] : List Nat)) a h))) ⟨rfl, rfl⟩ ⟨(show 6 + 1 ≤ (12 + (24 + 3 * (r + 1))) from oq_51b017a3 r), (show 8 + (mNL (miB 192) + 11) + 100 ≤ (500 + 45 * (24 + 3 * (r + 1))) from oq_e45c9306 r)⟩ (Nat.le_of_ble_eq_true rfl) (by decide) (by decide) (fun ee s3009 hq => ?_) (fun vv s3009 hq => ?_)
    · obtain ⟨Is3009, Fs3009, e3010, hv, hrs3009, hps3009⟩ := hq; cases hv
    obtain ⟨Is3009, Fs3009, e3010, hv, hrs3009, hps3009⟩ := hq
    cases hv
    have Gs3009 := fm_ts Gs3005 Fs3009 (by decide) (by decide)
    have ws3009_77 : iI s3009 77 = iI s3005 77 := fm_i Fs3009 (by decide)
    have ws3009_75 : iI s3009 75 = iI s3005 75 := fm_i Fs3009 (by decide)
    have ws3009_79 : iI s3009 79 = iI s3005 79 := fm_i Fs3009 (by decide)
    have ws3009_78 : iI s3009 78 = iI s3005 78 := fm_i Fs3009 (by decide)
    show DS l s0 D A dT 210 (rkR (24 + 3 * (r + 1))) [77, 79, 80, 78] [] (T) Q (T) 116 [(0, .ref (A 179)), (1, .int (Int32.ofInt a))] [.int (Int32.ofInt e3010)] s3009
    refine d_lift (fun k ws X h => z_store_n X (lv' := [(2, .int (Int32.ofInt e3010)), (0, .ref (A 179)), (1, .int (Int32.ofInt a))]) (show cdA 210 116 = some (.istore_n 2, 1, 0, 0, 0) from rfl) (by decide) (fun _ h => h) h) ?_
    refine d_lift (fun k ws X h => z_load_n X (x := e3010) (show cdA 210 117 = some (.iload_n 2, 1, 0, 0, 0) from rfl) (List.Mem.head _) h) ?_
    refine d_lift (fun k ws X h => z_bipush X (show cdA 210 118 = some (.bipush 60, 2, 0, 0, 60) from rfl) h) ?_
    refine d_br (bo_eq _ _) bx_eq (fun k ws X h1 h2 => z_icmp_eq X (t := 144) (show cdA 210 120 = some (.if_icmp .eq 24, 3, 0, 0, 0) from rfl) (by decide) hrs3009 (by decide) h1 h2) (fun g3011 => ?_) (fun g3011 => ?_)
    ·
      refine d_lvs (lv := [(0, .ref (A 179)), (1, .int (Int32.ofInt a)), (2, .int (Int32.ofInt e3010))]) (List.forall_mem_cons.mpr ⟨(List.Mem.tail _ (List.Mem.head _)), (List.forall_mem_cons.mpr ⟨(List.Mem.tail _ (List.Mem.tail _ (List.Mem.head _))), (List.forall_mem_cons.mpr ⟨(List.Mem.head _), (fun q h => absurd h List.not_mem_nil)⟩)⟩)⟩) ?_
      exact L144 _ a e3010 Is3009 Gs3009 (by first | exact ⟨oq_878618b1 ws3009_78 ws3005_78 hi.1, oq_6f31d0da ws3009_77 hi.2.1 hps3005.1, oq_948351f9 g3011 ws3009_77 hps3009 ws3005_75 b3002.2, oq_e013ad0f hi.2.2.2.2.2.1, oq_26d29cd1 g3011 ws3009_77 hps3009 ws3005_75 hi.2.2.2.2.2.2.1, hi.2.2.2.2.2.1, oq_d0d2714e ws3009_75 hi.2.2.2.2.2.2.1 ws3005_75, And.intro (hi.2.2.2.2.2.2.2.1) (hi.2.2.2.2.2.2.2.2), oq_48ee4ea2 g3011, oq_dd8e5557 g3011⟩ | omega)
    ·
      refine d_lift (fun k ws X h => z_load_n X (x := e3010) (show cdA 210 123 = some (.iload_n 2, 1, 0, 0, 0) from rfl) (List.Mem.head _) h) ?_
      refine d_lift (fun k ws X h => z_bipush X (show cdA 210 124 = some (.bipush 62, 2, 0, 0, 62) from rfl) h) ?_
      refine d_br (bo_eq _ _) bx_eq (fun k ws X h1 h2 => z_icmp_eq X (t := 144) (show cdA 210 126 = some (.if_icmp .eq 18, 3, 0, 0, 0) from rfl) (by decide) hrs3009 (by decide) h1 h2) (fun g3012 => ?_) (fun g3012 => ?_)
      ·
        refine d_lvs (lv := [(0, .ref (A 179)), (1, .int (Int32.ofInt a)), (2, .int (Int32.ofInt e3010))]) (List.forall_mem_cons.mpr ⟨(List.Mem.tail _ (List.Mem.head _)), (List.forall_mem_cons.mpr ⟨(List.Mem.tail _ (List.Mem.tail _ (List.Mem.head _))), (List.forall_mem_cons.mpr ⟨(List.Mem.head _), (fun q h => absurd h List.not_mem_nil)⟩)⟩)⟩) ?_
        exact L144 _ a e3010 Is3009 Gs3009 (by first | exact ⟨oq_878618b1 ws3009_78 ws3005_78 hi.1, oq_6f31d0da ws3009_77 hi.2.1 hps3005.1, oq_754fcaa6 g3012 ws3009_77 hps3009 ws3005_75 b3002.2, oq_e013ad0f hi.2.2.2.2.2.1, oq_20e35830 g3012 ws3009_77 hps3009 ws3005_75 hi.2.2.2.2.2.2.1, hi.2.2.2.2.2.1, oq_d0d2714e ws3009_75 hi.2.2.2.2.2.2.1 ws3005_75, And.intro (hi.2.2.2.2.2.2.2.1) (hi.2.2.2.2.2.2.2.2), oq_1aa2d2e5 g3012, oq_68b13569 g3012⟩ | omega)
      ·
        refine d_lift (fun k ws X h => z_load_n X (x := e3010) (show cdA 210 129 = some (.iload_n 2, 1, 0, 0, 0) from rfl) (List.Mem.head _) h) ?_
        refine d_lift (fun k ws X h => z_bipush X (show cdA 210 130 = some (.bipush 61, 2, 0, 0, 61) from rfl) h) ?_
        refine d_br (bo_eq _ _) bx_eq (fun k ws X h1 h2 => z_icmp_eq X (t := 144) (show cdA 210 132 = some (.if_icmp .eq 12, 3, 0, 0, 0) from rfl) (by decide) hrs3009 (by decide) h1 h2) (fun g3013 => ?_) (fun g3013 => ?_)
        ·
          refine d_lvs (lv := [(0, .ref (A 179)), (1, .int (Int32.ofInt a)), (2, .int (Int32.ofInt e3010))]) (List.forall_mem_cons.mpr ⟨(List.Mem.tail _ (List.Mem.head _)), (List.forall_mem_cons.mpr ⟨(List.Mem.tail _ (List.Mem.tail _ (List.Mem.head _))), (List.forall_mem_cons.mpr ⟨(List.Mem.head _), (fun q h => absurd h List.not_mem_nil)⟩)⟩)⟩) ?_
          exact L144 _ a e3010 Is3009 Gs3009 (by first | exact ⟨oq_878618b1 ws3009_78 ws3005_78 hi.1, oq_6f31d0da ws3009_77 hi.2.1 hps3005.1, oq_7afbd850 g3013 ws3009_77 hps3009 ws3005_75 b3002.2, oq_e013ad0f hi.2.2.2.2.2.1, oq_1142ea38 g3013 ws3009_77 hps3009 ws3005_75 hi.2.2.2.2.2.2.1, hi.2.2.2.2.2.1, oq_d0d2714e ws3009_75 hi.2.2.2.2.2.2.1 ws3005_75, And.intro (hi.2.2.2.2.2.2.2.1) (hi.2.2.2.2.2.2.2.2), oq_3f06b504 g3013, oq_83a663bc g3013⟩ | omega)
        ·
          refine d_lift (fun k ws X h => z_aload_n X (x := A 179) (show cdA 210 135 = some (.aload_n 0, 1, 0, 0, 0) from rfl) (List.Mem.tail _ (List.Mem.head _)) h) ?_
          refine d_lift (fun k ws X h => z_const X (show cdA 210 136 = some (.iconst 1, 1, 0, 0, 0) from rfl) h) ?_
          refine d_lift (fun k ws X h => z_aload_n X (x := A 179) (show cdA 210 137 = some (.aload_n 0, 1, 0, 0, 0) from rfl) (List.Mem.tail _ (List.Mem.head _)) h) ?_
          refine d_getI 179 (show cdA 210 138 = some (.getfield 184, 3, 12, 4, 0) from rfl) (by decide) rfl rfl (hti 77 (by decide)) ?_
          have b3014 : (0 : Int) ≤ iI s3009 77 ∧ iI s3009 77 ≤ 400 := Is3009.1 77
          refine d_callV 179 (As := [.int (Int32.ofInt 1), .int (Int32.ofInt (iI s3009 77))]) (st := []) (show cdA 210 141 = some (.invokevirtual 204, 3, 194, 0, 0) from rfl) rfl (by decide) rfl (d_wrong G Is3009 (by first | exact ⟨by decide, by decide⟩ | omega) (by first | exact ⟨oq_ca54ea22 b3014.1, b3014.2⟩ | omega) (fun q h => hti q ((by decide : ∀ q ∈ ([79] : List Nat), q ∈ ([77, 75, 78, 79, 81] : List Nat)) q h)) (fun a h => hta a ((by decide : ∀ q ∈ ([] : List Nat), q ∈ ([157, 158, 161] : List Nat)) a h))) ⟨rfl, rfl⟩ ⟨(show 6 + 1 ≤ (12 + (24 + 3 * (r + 1))) from oq_51b017a3 r), (show 8 + (mNL (miB 194) + 11) + 100 ≤ (500 + 45 * (24 + 3 * (r + 1))) from oq_53e0fa7a r)⟩ (Nat.le_of_ble_eq_true rfl) (by decide) (by decide) (fun ee s3015 hq => ?_) (fun vv s3015 hq => ?_)
          · obtain ⟨Is3015, Fs3015, hv, hps3015⟩ := hq; cases hv
          obtain ⟨Is3015, Fs3015, hv, hps3015⟩ := hq
          cases hv
          have Gs3015 := fm_ts Gs3009 Fs3015 (by decide) (by decide)
          have ws3015_77 : iI s3015 77 = iI s3009 77 := fm_i Fs3015 (by decide)
          have ws3015_75 : iI s3015 75 = iI s3009 75 := fm_i Fs3015 (by decide)
          have b3017 : (0 : Int) ≤ iI s3015 79 ∧ iI s3015 79 ≤ 9 := Is3015.1 79
          have ws3015_78 : iI s3015 78 = iI s3009 78 := fm_i Fs3015 (by decide)
          show DS l s0 D A dT 210 (rkR (24 + 3 * (r + 1))) [77, 79, 80, 78] [] (T) Q (T) 144 [(2, .int (Int32.ofInt e3010)), (0, .ref (A 179)), (1, .int (Int32.ofInt a))] [] s3015
          refine d_lvs (lv := [(0, .ref (A 179)), (1, .int (Int32.ofInt a)), (2, .int (Int32.ofInt e3010))]) (List.forall_mem_cons.mpr ⟨(List.Mem.tail _ (List.Mem.head _)), (List.forall_mem_cons.mpr ⟨(List.Mem.tail _ (List.Mem.tail _ (List.Mem.head _))), (List.forall_mem_cons.mpr ⟨(List.Mem.head _), (fun q h => absurd h List.not_mem_nil)⟩)⟩)⟩) ?_
          exact L144 _ a e3010 Is3015 Gs3015 (by first | exact ⟨oq_ac0e91e1 ws3015_78 ws3009_78 ws3005_78 hi.1, oq_c430b533 ws3015_77 hi.2.1 hps3005.1 ws3009_77, oq_0b99daf3 ws3015_77 ws3009_77 hps3005.2 b3002.2 hi.2.2.1 p0, oq_5071f1ab b3017.1 hps3015, oq_efa70c27 b3017.1 hps3015, hi.2.2.2.2.2.1, oq_45b593e3 ws3015_75 hi.2.2.2.2.2.2.1 ws3009_75 ws3005_75, And.intro (hi.2.2.2.2.2.2.2.1) (hi.2.2.2.2.2.2.2.2), oq_47a75eb0 hps3009, oq_47d561e4 hps3009⟩ | omega)
  refine d_lift (fun k ws X h => z_aload_n X (x := A 179) (show cdA 210 0 = some (.aload_n 0, 1, 0, 0, 0) from rfl) (List.Mem.head _) h) ?_
  refine d_getI 179 (show cdA 210 1 = some (.getfield 191, 3, 12, 6, 0) from rfl) (by decide) rfl rfl (hti 79 (by decide)) ?_
  have b5 : (0 : Int) ≤ iI s 79 ∧ iI s 79 ≤ 9 := I.1 79
  refine d_br (bo_eq _ _) bx_eq (fun k ws X h1 h2 => z_if_eq X (t := 9) (show cdA 210 4 = some (.ifCond .eq 5, 3, 0, 0, 0) from rfl) (by decide) (rng_to _) h1 h2) (fun g6 => ?_) (fun g6 => ?_)
  ·
    refine d_lift (fun k ws X h => z_aload_n X (x := A 179) (show cdA 210 9 = some (.aload_n 0, 1, 0, 0, 0) from rfl) (List.Mem.head _) h) ?_
    refine d_callV 179 (As := []) (st := []) (show cdA 210 10 = some (.invokevirtual 243, 3, 201, 0, 0) from rfl) rfl (by decide) rfl (d_wordHere G I (by first | exact oq_2ebc9f52 p0 | omega) (fun q h => hti q ((by decide : ∀ q ∈ ([77, 75, 78, 79, 81] : List Nat), q ∈ ([77, 75, 78, 79, 81] : List Nat)) q h)) (fun a h => hta a ((by decide : ∀ q ∈ ([157, 158, 161] : List Nat), q ∈ ([157, 158, 161] : List Nat)) a h))) ⟨rfl, rfl⟩ ⟨(show 8 + 1 ≤ (12 + (24 + 3 * (r + 1))) from oq_91dbadf4 r), (show 8 + (mNL (miB 201) + 11) + 141 ≤ (500 + 45 * (24 + 3 * (r + 1))) from oq_2d8c6e6c r)⟩ (Nat.le_of_ble_eq_true rfl) (by decide) (by decide) (fun ee s7 hq => ?_) (fun vv s7 hq => ?_)
    · obtain ⟨Is7, Fs7, e8, hv, hrs7, hps7⟩ := hq; cases hv
    obtain ⟨Is7, Fs7, e8, hv, hrs7, hps7⟩ := hq
    cases hv
    have Gs7 := fm_ts F Fs7 (by decide) (by decide)
    have b9 : (0 : Int) ≤ iI s7 77 ∧ iI s7 77 ≤ 400 := Is7.1 77
    have ws7_75 : iI s7 75 = iI s 75 := fm_i Fs7 (by decide)
    have ws7_79 : iI s7 79 = iI s 79 := fm_i Fs7 (by decide)
    have ws7_78 : iI s7 78 = iI s 78 := fm_i Fs7 (by decide)
    show DS l s0 D A dT 210 (rkR (24 + 3 * (r + 1))) [77, 79, 80, 78] [] (T) Q (T) 13 [(0, .ref (A 179))] [.int (Int32.ofInt e8)] s7
    refine d_lift (fun k ws X h => z_bipush X (show cdA 210 13 = some (.bipush 14, 2, 0, 0, 14) from rfl) h) ?_
    refine d_lift (fun k ws X h => z_bipush X (show cdA 210 15 = some (.bipush 15, 2, 0, 0, 15) from rfl) h) ?_
    refine d_lift (fun k ws X h => z_bipush X (show cdA 210 17 = some (.bipush 20, 2, 0, 0, 20) from rfl) h) ?_
    refine d_lift (fun k ws X h => z_const X (show cdA 210 19 = some (.iconst 0, 1, 0, 0, 0) from rfl) h) ?_
    refine d_lift (fun k ws X h => z_const X (show cdA 210 20 = some (.iconst 0, 1, 0, 0, 0) from rfl) h) ?_
    refine d_lift (fun k ws X h => z_const X (show cdA 210 21 = some (.iconst 0, 1, 0, 0, 0) from rfl) h) ?_
    refine d_callT (As := [.int (Int32.ofInt 14), .int (Int32.ofInt 15), .int (Int32.ofInt 20), .int (Int32.ofInt 0), .int (Int32.ofInt 0), .int (Int32.ofInt 0)]) (st := [.int (Int32.ofInt e8)]) (show cdA 210 22 = some (.invokestatic 247, 3, 202, 1, 0) from rfl) rfl (d_word G Is7 (by first | exact ⟨by decide, by decide⟩ | omega) (by first | exact ⟨by decide, by decide⟩ | omega) (by first | exact ⟨by decide, by decide⟩ | omega) (by first | exact ⟨by decide, by decide⟩ | omega) (by first | exact ⟨by decide, by decide⟩ | omega) (by first | exact ⟨by decide, by decide⟩ | omega) (fun q h => hti q ((by decide : ∀ q ∈ ([] : List Nat), q ∈ ([77, 75, 78, 79, 81] : List Nat)) q h)) (fun a h => hta a ((by decide : ∀ q ∈ ([] : List Nat), q ∈ ([157, 158, 161] : List Nat)) a h))) ⟨rfl, rfl⟩ ⟨(show 6 + 1 ≤ (12 + (24 + 3 * (r + 1))) from oq_51b017a3 r), (show 8 + (mNL (miB 202) + 11) + 100 ≤ (500 + 45 * (24 + 3 * (r + 1))) from oq_22dfea8e r)⟩ (Nat.le_of_ble_eq_true rfl) (by decide) (by decide) (fun ee s10 hq => ?_) (fun vv s10 hq => ?_)
    · obtain ⟨Is10, Fs10, e11, hv, hrs10, hps10⟩ := hq; cases hv
    obtain ⟨Is10, Fs10, e11, hv, hrs10, hps10⟩ := hq
    cases hv
    have Gs10 := fm_ts Gs7 Fs10 (by decide) (by decide)
    have ws10_77 : iI s10 77 = iI s7 77 := fm_i Fs10 (by decide)
    have ws10_75 : iI s10 75 = iI s7 75 := fm_i Fs10 (by decide)
    have ws10_79 : iI s10 79 = iI s7 79 := fm_i Fs10 (by decide)
    have ws10_78 : iI s10 78 = iI s7 78 := fm_i Fs10 (by decide)
    show DS l s0 D A dT 210 (rkR (24 + 3 * (r + 1))) [77, 79, 80, 78] [] (T) Q (T) 25 [(0, .ref (A 179))] [.int (Int32.ofInt e11), .int (Int32.ofInt e8)] s10
    refine d_br (bo_ne _ _) bx_ne (fun k ws X h1 h2 => z_icmp_ne X (t := 58) (show cdA 210 25 = some (.if_icmp .ne 33, 3, 1, 0, 0) from rfl) (by decide) hrs7 hrs10 h1 h2) (fun g12 => ?_) (fun g12 => ?_)
    ·
      refine d_lift (fun k ws X h => z_aload_n X (x := A 179) (show cdA 210 58 = some (.aload_n 0, 1, 0, 0, 0) from rfl) (List.Mem.head _) h) ?_
      refine d_lift (fun k ws X h => z_aload_n X (x := A 179) (show cdA 210 59 = some (.aload_n 0, 1, 0, 0, 0) from rfl) (List.Mem.head _) h) ?_
      refine d_getI 179 (show cdA 210 60 = some (.getfield 184, 3, 12, 4, 0) from rfl) (by decide) rfl rfl (hti 77 (by decide)) ?_
      have b13 : (0 : Int) ≤ iI s10 77 ∧ iI s10 77 ≤ 400 := Is10.1 77
      refine d_callV 179 (As := [.int (Int32.ofInt (iI s10 77))]) (st := []) (show cdA 210 63 = some (.invokevirtual 187, 3, 192, 0, 0) from rfl) rfl (by decide) rfl (d_byteAt G Is10 (by first | exact ⟨b13.1, oq_5a8480eb b13.2⟩ | omega) (fun q h => hti q ((by decide : ∀ q ∈ ([75, 81] : List Nat), q ∈ ([77, 75, 78, 79, 81] : List Nat)) q h)) (fun a h => hta a ((by decide : ∀ q ∈ ([157, 158] : List Nat), q ∈ ([157, 158, 161] : List Nat)) a h))) ⟨rfl, rfl⟩ ⟨(show 6 + 1 ≤ (12 + (24 + 3 * (r + 1))) from oq_51b017a3 r), (show 8 + (mNL (miB 192) + 11) + 100 ≤ (500 + 45 * (24 + 3 * (r + 1))) from oq_e45c9306 r)⟩ (Nat.le_of_ble_eq_true rfl) (by decide) (by decide) (fun ee s14 hq => ?_) (fun vv s14 hq => ?_)
      · obtain ⟨Is14, Fs14, e15, hv, hrs14, hps14⟩ := hq; cases hv
      obtain ⟨Is14, Fs14, e15, hv, hrs14, hps14⟩ := hq
      cases hv
      have Gs14 := fm_ts Gs10 Fs14 (by decide) (by decide)
      have ws14_77 : iI s14 77 = iI s10 77 := fm_i Fs14 (by decide)
      have ws14_75 : iI s14 75 = iI s10 75 := fm_i Fs14 (by decide)
      have ws14_79 : iI s14 79 = iI s10 79 := fm_i Fs14 (by decide)
      have ws14_78 : iI s14 78 = iI s10 78 := fm_i Fs14 (by decide)
      show DS l s0 D A dT 210 (rkR (24 + 3 * (r + 1))) [77, 79, 80, 78] [] (T) Q (T) 66 [(0, .ref (A 179))] [.int (Int32.ofInt e15)] s14
      refine d_lift (fun k ws X h => z_bipush X (show cdA 210 66 = some (.bipush 91, 2, 0, 0, 91) from rfl) h) ?_
      refine d_br (bo_ne _ _) bx_ne (fun k ws X h1 h2 => z_icmp_ne X (t := 99) (show cdA 210 68 = some (.if_icmp .ne 31, 3, 1, 0, 0) from rfl) (by decide) hrs14 (by decide) h1 h2) (fun g16 => ?_) (fun g16 => ?_)
      ·
        refine d_lift (fun k ws X h => z_aload_n X (x := A 179) (show cdA 210 99 = some (.aload_n 0, 1, 0, 0, 0) from rfl) (List.Mem.head _) h) ?_
        refine d_callV 179 (As := []) (st := []) (show cdA 210 100 = some (.invokevirtual 260, 3, 209, 0, 0) from rfl) rfl (by decide) rfl ((d_sumr G (r + 1)).2.2 Is14 (by first | exact oq_f296b76d ws14_77 ws10_77 hps7.2.1 b2.2 p0 | omega) (by first | exact oq_f71ce2a5 ws14_78 p1 ws10_78 ws7_78 | omega) (by first | exact oq_f1a73c9d ws14_78 ws10_78 ws7_78 g6 p2 | omega) (fun q h => hti q ((by decide : ∀ q ∈ ([77, 75, 78, 79, 81] : List Nat), q ∈ ([77, 75, 78, 79, 81] : List Nat)) q h)) (fun a h => hta a ((by decide : ∀ q ∈ ([157, 158, 161] : List Nat), q ∈ ([157, 158, 161] : List Nat)) a h))) ⟨rfl, rfl⟩ ⟨(show (12 + (3 * (r + 1) + 2)) + 1 ≤ (12 + (24 + 3 * (r + 1))) from oq_78548c36 r), (show 8 + (mNL (miB 209) + 11) + (500 + 45 * (3 * (r + 1) + 2)) ≤ (500 + 45 * (24 + 3 * (r + 1))) from oq_7957a5e4 r)⟩ (Nat.le_of_ble_eq_true rfl) (by decide) (by decide) (fun ee s17 hq => ?_) (fun vv s17 hq => ?_)
        · obtain ⟨Is17, Fs17, e18, hv, hrs17, hps17⟩ := hq; cases hv
        obtain ⟨Is17, Fs17, e18, hv, hrs17, hps17⟩ := hq
        cases hv
        have Gs17 := fm_ts Gs14 Fs17 (by decide) (by decide)
        have b19 : (0 : Int) ≤ iI s17 77 ∧ iI s17 77 ≤ 400 := Is17.1 77
        have ws17_75 : iI s17 75 = iI s14 75 := fm_i Fs17 (by decide)
        have b20 : (0 : Int) ≤ iI s17 79 ∧ iI s17 79 ≤ 9 := Is17.1 79
        have b21 : (0 : Int) ≤ iI s17 78 ∧ iI s17 78 ≤ 8 := Is17.1 78
        show DS l s0 D A dT 210 (rkR (24 + 3 * (r + 1))) [77, 79, 80, 78] [] (T) Q (T) 103 [(0, .ref (A 179))] [.int (Int32.ofInt e18)] s17
        refine d_lift (fun k ws X h => z_store_n X (lv' := [(1, .int (Int32.ofInt e18)), (0, .ref (A 179))]) (show cdA 210 103 = some (.istore_n 1, 1, 0, 0, 0) from rfl) (by decide) (fun _ h => h) h) ?_
        refine d_lvs (lv := [(0, .ref (A 179)), (1, .int (Int32.ofInt e18))]) (List.forall_mem_cons.mpr ⟨(List.Mem.tail _ (List.Mem.head _)), (List.forall_mem_cons.mpr ⟨(List.Mem.head _), (fun q h => absurd h List.not_mem_nil)⟩)⟩) ?_
        exact L104 _ e18 Is17 Gs17 (by first | exact ⟨oq_ac0e91e1 hps17.1 ws14_78 ws10_78 ws7_78, oq_904c728b hps17.2.1 ws14_77 hps7.1 ws10_77, oq_1659f388 hps17.2.2.1 ws14_77 ws10_77 hps7.2.1 b2.2 p0, oq_e013ad0f g6, oq_cfa0a9a6 b20.1 hps17.2.2.2.2 ws14_75 ws10_75 ws7_75, g6, oq_45b593e3 ws17_75 ws7_75 ws14_75 ws10_75, hrs17.1, hrs17.2⟩ | omega)
      ·
        refine d_lift (fun k ws X h => z_aload_n X (x := A 179) (show cdA 210 71 = some (.aload_n 0, 1, 0, 0, 0) from rfl) (List.Mem.head _) h) ?_
        refine d_lift (fun k ws X h => z_const X (show cdA 210 72 = some (.iconst 1, 1, 0, 0, 0) from rfl) h) ?_
        refine d_callV 179 (As := [.int (Int32.ofInt 1)]) (st := []) (show cdA 210 73 = some (.invokevirtual 257, 3, 205, 0, 0) from rfl) rfl (by decide) rfl (d_opens G Is14 (by first | exact ⟨by decide, by decide⟩ | omega) (by first | exact oq_06057f8f g16 ws14_77 hps14 ws10_75 ws7_75 b2.2 | omega) (by omega) (fun q h => hti q ((by decide : ∀ q ∈ ([77, 75, 78, 79, 81] : List Nat), q ∈ ([77, 75, 78, 79, 81] : List Nat)) q h)) (fun a h => hta a ((by decide : ∀ q ∈ ([157, 158, 161] : List Nat), q ∈ ([157, 158, 161] : List Nat)) a h))) ⟨rfl, rfl⟩ ⟨(show 7 + 1 ≤ (12 + (24 + 3 * (r + 1))) from oq_36eaf53c r), (show 8 + (mNL (miB 205) + 11) + 122 ≤ (500 + 45 * (24 + 3 * (r + 1))) from oq_2520a5c5 r)⟩ (Nat.le_of_ble_eq_true rfl) (by decide) (by decide) (fun ee s22 hq => ?_) (fun vv s22 hq => ?_)
        · obtain ⟨Is22, Fs22, hv, hps22⟩ := hq; cases hv
        obtain ⟨Is22, Fs22, hv, hps22⟩ := hq
        cases hv
        have Gs22 := fm_ts Gs14 Fs22 (by decide) (by decide)
        have b24 : (0 : Int) ≤ iI s22 77 ∧ iI s22 77 ≤ 400 := Is22.1 77
        have ws22_75 : iI s22 75 = iI s14 75 := fm_i Fs22 (by decide)
        have b25 : (0 : Int) ≤ iI s22 79 ∧ iI s22 79 ≤ 9 := Is22.1 79
        have b26 : (0 : Int) ≤ iI s22 78 ∧ iI s22 78 ≤ 8 := Is22.1 78
        show DS l s0 D A dT 210 (rkR (24 + 3 * (r + 1))) [77, 79, 80, 78] [] (T) Q (T) 76 [(0, .ref (A 179))] [] s22
        refine d_lift (fun k ws X h => z_aload_n X (x := A 179) (show cdA 210 76 = some (.aload_n 0, 1, 0, 0, 0) from rfl) (List.Mem.head _) h) ?_
        refine d_callV 179 (As := []) (st := []) (show cdA 210 77 = some (.invokevirtual 276, 3, 212, 0, 0) from rfl) rfl (by decide) rfl (hO Is22 (by first | exact oq_abf741e9 hps22.1 g16 ws14_77 hps14 ws10_75 ws7_75 b2.2 | omega) (by first | exact oq_eba1d630 p1 hps22.2.1 ws14_78 ws10_78 ws7_78 | omega) (by first | exact oq_6b35565f b25.1 hps22.2.2.2 hps22.2.1 | omega) (by first | exact oq_f5a67a2f hps22.1 g16 ws14_77 hps14 ws10_75 ws7_75 b2.2 | omega) (fun q h => hti q ((by decide : ∀ q ∈ ([77, 75, 78, 79, 81] : List Nat), q ∈ ([77, 75, 78, 79, 81] : List Nat)) q h)) (fun a h => hta a ((by decide : ∀ q ∈ ([157, 158, 161] : List Nat), q ∈ ([157, 158, 161] : List Nat)) a h))) ⟨rfl, rfl⟩ ⟨(show (12 + (24 + 3 * (r) + 2)) + 1 ≤ (12 + (24 + 3 * (r + 1))) from oq_853f7f04 r), (show 8 + (mNL (miB 212) + 11) + (500 + 45 * (24 + 3 * (r) + 2)) ≤ (500 + 45 * (24 + 3 * (r + 1))) from oq_4ce40754 r)⟩ (Nat.le_of_ble_eq_true rfl) (by decide) (by decide) (fun ee s27 hq => ?_) (fun vv s27 hq => ?_)
        · obtain ⟨Is27, Fs27, e28, hv, hrs27, hps27⟩ := hq; cases hv
        obtain ⟨Is27, Fs27, e28, hv, hrs27, hps27⟩ := hq
        cases hv
        have Gs27 := fm_ts Gs22 Fs27 (by decide) (by decide)
        have b29 : (0 : Int) ≤ iI s27 77 ∧ iI s27 77 ≤ 400 := Is27.1 77
        have ws27_75 : iI s27 75 = iI s22 75 := fm_i Fs27 (by decide)
        have b30 : (0 : Int) ≤ iI s27 79 ∧ iI s27 79 ≤ 9 := Is27.1 79
        have b31 : (0 : Int) ≤ iI s27 78 ∧ iI s27 78 ≤ 8 := Is27.1 78
        show DS l s0 D A dT 210 (rkR (24 + 3 * (r + 1))) [77, 79, 80, 78] [] (T) Q (T) 80 [(0, .ref (A 179))] [.int (Int32.ofInt e28)] s27
        refine d_lift (fun k ws X h => z_store_n X (lv' := [(1, .int (Int32.ofInt e28)), (0, .ref (A 179))]) (show cdA 210 80 = some (.istore_n 1, 1, 0, 0, 0) from rfl) (by decide) (fun _ h => h) h) ?_
        refine d_lift (fun k ws X h => z_aload_n X (x := A 179) (show cdA 210 81 = some (.aload_n 0, 1, 0, 0, 0) from rfl) (List.Mem.tail _ (List.Mem.head _)) h) ?_
        refine d_lift (fun k ws X h => z_bipush X (show cdA 210 82 = some (.bipush 93, 2, 0, 0, 93) from rfl) h) ?_
        refine d_callV 179 (As := [.int (Int32.ofInt 93)]) (st := []) (show cdA 210 84 = some (.invokevirtual 263, 3, 204, 0, 0) from rfl) rfl (by decide) rfl (d_sign G Is27 (by first | exact ⟨by decide, by decide⟩ | omega) (by first | exact oq_b8da2b9d hps27.2.2.1 hps22.1 g16 ws14_77 hps14 ws10_75 ws7_75 b2.2 | omega) (fun q h => hti q ((by decide : ∀ q ∈ ([77, 75, 78, 79, 81] : List Nat), q ∈ ([77, 75, 78, 79, 81] : List Nat)) q h)) (fun a h => hta a ((by decide : ∀ q ∈ ([157, 158, 161] : List Nat), q ∈ ([157, 158, 161] : List Nat)) a h))) ⟨rfl, rfl⟩ ⟨(show 8 + 1 ≤ (12 + (24 + 3 * (r + 1))) from oq_91dbadf4 r), (show 8 + (mNL (miB 204) + 11) + 141 ≤ (500 + 45 * (24 + 3 * (r + 1))) from oq_da5feea9 r)⟩ (Nat.le_of_ble_eq_true rfl) (by decide) (by decide) (fun ee s32 hq => ?_) (fun vv s32 hq => ?_)
        · obtain ⟨Is32, Fs32, hv, hps32⟩ := hq; cases hv
        obtain ⟨Is32, Fs32, hv, hps32⟩ := hq
        cases hv
        have Gs32 := fm_ts Gs27 Fs32 (by decide) (by decide)
        have b34 : (0 : Int) ≤ iI s32 77 ∧ iI s32 77 ≤ 400 := Is32.1 77
        have ws32_75 : iI s32 75 = iI s27 75 := fm_i Fs32 (by decide)
        have b35 : (0 : Int) ≤ iI s32 79 ∧ iI s32 79 ≤ 9 := Is32.1 79
        have ws32_78 : iI s32 78 = iI s27 78 := fm_i Fs32 (by decide)
        show DS l s0 D A dT 210 (rkR (24 + 3 * (r + 1))) [77, 79, 80, 78] [] (T) Q (T) 87 [(1, .int (Int32.ofInt e28)), (0, .ref (A 179))] [] s32
        refine d_lift (fun k ws X h => z_aload_n X (x := A 179) (show cdA 210 87 = some (.aload_n 0, 1, 0, 0, 0) from rfl) (List.Mem.tail _ (List.Mem.head _)) h) ?_
        refine d_lift (fun k ws X h => w_dup X.1 (ax_d X (show cdA 210 88 = some (.dup, 1, 0, 0, 0) from rfl)) rfl h) ?_
        refine d_getI 179 (show cdA 210 89 = some (.getfield 213, 3, 12, 5, 0) from rfl) (by decide) rfl rfl (hti 78 (by decide)) ?_
        have b36 : (0 : Int) ≤ iI s32 78 ∧ iI s32 78 ≤ 8 := Is32.1 78
        refine d_lift (fun k ws X h => z_const X (show cdA 210 92 = some (.iconst 1, 1, 0, 0, 0) from rfl) h) ?_
        refine d_lift (fun k ws X h => z_sub X (show cdA 210 93 = some (.isub, 1, 0, 0, 0) from rfl) h) ?_
        refine d_putI 179 (show cdA 210 94 = some (.putfield 213, 3, 12, 5, 0) from rfl) (by decide) rfl rfl (by decide) rfl rfl rfl (show 78 ∈ _ by decide) (show (0 : Int) ≤ ((iI s32 78) - 1) ∧ ((iI s32 78) - 1) ≤ 8 by first | exact ⟨oq_534c96f9 ws32_78 hps27.1 hps22.2.1 ws14_78 ws10_78 ws7_78 b4.1, oq_d7fe5c3c b36.2⟩ | omega) ⟨by first | exact oq_c1e961c7 b36.1 | omega, by first | exact oq_22bc6706 b36.2 | omega⟩ ?_
        refine d_mono (T' := T) (fun _ h => Or.inr h) (fun _ _ h => h) ?_
        obtain ⟨s37, hs37⟩ : ∃ x0, x0 = uI s32 78 (Int32.ofInt ((iI s32 78) - 1)) := ⟨_, rfl⟩
        rw [← hs37]
        have Is37 : Bd s37 := by rw [hs37]; exact bd_I Is32 (show (0 : Int) ≤ ((iI s32 78) - 1) ∧ ((iI s32 78) - 1) ≤ 8 by first | exact ⟨oq_534c96f9 ws32_78 hps27.1 hps22.2.1 ws14_78 ws10_78 ws7_78 b4.1, oq_d7fe5c3c b36.2⟩ | omega) ⟨by first | exact oq_c1e961c7 b36.1 | omega, by first | exact oq_22bc6706 b36.2 | omega⟩
        have Fs37 := fm_I (x := Int32.ofInt ((iI s32 78) - 1)) Gs32 (show 78 ∈ _ by decide)
        rw [← hs37] at Fs37
        have vs37 : iI s37 78 = ((iI s32 78) - 1) := by rw [hs37]; exact iI_u ⟨by first | exact oq_c1e961c7 b36.1 | omega, by first | exact oq_22bc6706 b36.2 | omega⟩
        have ws37_77 : iI s37 77 = iI s32 77 := by rw [hs37]; rfl
        have ws37_75 : iI s37 75 = iI s32 75 := by rw [hs37]; rfl
        have ws37_79 : iI s37 79 = iI s32 79 := by rw [hs37]; rfl
        refine d_lift (fun k ws X h => z_load_n X (x := e28) (show cdA 210 97 = some (.iload_n 1, 1, 0, 0, 0) from rfl) (List.Mem.head _) h) ?_
        exact d_iret rfl (nar_ret (by first | exact hps27.2.2.2.2.2.2 | omega)) (Or.inr rfl) (show cdA 210 98 = some (.ireturn, 1, 0, 0, 0) from rfl) (fun _ h => h) (hQ _ _ ⟨Is37, Fs37, e28, rfl, hrs27, by first | exact ⟨oq_9391e35d vs37 ws32_78 hps27.1 hps22.2.1 ws14_78 ws10_78 ws7_78, oq_35525f1f ws37_77 hps32.1 hps27.2.1 hps22.1 ws14_77 ws10_77 hps7.1, oq_c0a6dc61 ws37_77 hps32.2.1 ws27_75 hps27.2.2.1 ws22_75 hps22.1 g16 ws14_75 ws14_77 hps14 ws10_75 ws7_75 b2.2, oq_e013ad0f g6, oq_9a0e9129 ws37_79 ws37_77 b35.1 hps32.2.2.2 hps32.2.1 ws27_75 ws22_75 ws14_75 ws10_75 ws7_75, oq_196cd904 ws37_77 hps32.1 hps27.2.1 hps22.1 ws14_77 ws10_77 hps7.1, hps27.2.2.2.2.2.2⟩ | omega⟩)
    ·
      refine d_lift (fun k ws X h => z_aload_n X (x := A 179) (show cdA 210 28 = some (.aload_n 0, 1, 0, 0, 0) from rfl) (List.Mem.head _) h) ?_
      refine d_lift (fun k ws X h => z_const X (show cdA 210 29 = some (.iconst 3, 1, 0, 0, 0) from rfl) h) ?_
      refine d_callV 179 (As := [.int (Int32.ofInt 3)]) (st := []) (show cdA 210 30 = some (.invokevirtual 257, 3, 205, 0, 0) from rfl) rfl (by decide) rfl (d_opens G Is10 (by first | exact ⟨by decide, by decide⟩ | omega) (by first | exact oq_69c1a7bc g12 ws10_77 hps10 hps7.2.2 b2.2 | omega) (by omega) (fun q h => hti q ((by decide : ∀ q ∈ ([77, 75, 78, 79, 81] : List Nat), q ∈ ([77, 75, 78, 79, 81] : List Nat)) q h)) (fun a h => hta a ((by decide : ∀ q ∈ ([157, 158, 161] : List Nat), q ∈ ([157, 158, 161] : List Nat)) a h))) ⟨rfl, rfl⟩ ⟨(show 7 + 1 ≤ (12 + (24 + 3 * (r + 1))) from oq_36eaf53c r), (show 8 + (mNL (miB 205) + 11) + 122 ≤ (500 + 45 * (24 + 3 * (r + 1))) from oq_2520a5c5 r)⟩ (Nat.le_of_ble_eq_true rfl) (by decide) (by decide) (fun ee s38 hq => ?_) (fun vv s38 hq => ?_)
      · obtain ⟨Is38, Fs38, hv, hps38⟩ := hq; cases hv
      obtain ⟨Is38, Fs38, hv, hps38⟩ := hq
      cases hv
      have Gs38 := fm_ts Gs10 Fs38 (by decide) (by decide)
      have b40 : (0 : Int) ≤ iI s38 77 ∧ iI s38 77 ≤ 400 := Is38.1 77
      have ws38_75 : iI s38 75 = iI s10 75 := fm_i Fs38 (by decide)
      have b41 : (0 : Int) ≤ iI s38 79 ∧ iI s38 79 ≤ 9 := Is38.1 79
      have b42 : (0 : Int) ≤ iI s38 78 ∧ iI s38 78 ≤ 8 := Is38.1 78
      show DS l s0 D A dT 210 (rkR (24 + 3 * (r + 1))) [77, 79, 80, 78] [] (T) Q (T) 33 [(0, .ref (A 179))] [] s38
      refine d_lift (fun k ws X h => z_aload_n X (x := A 179) (show cdA 210 33 = some (.aload_n 0, 1, 0, 0, 0) from rfl) (List.Mem.head _) h) ?_
      refine d_callV 179 (As := []) (st := []) (show cdA 210 34 = some (.invokevirtual 272, 3, 210, 0, 0) from rfl) rfl (by decide) rfl (hT Is38 (by first | exact oq_fb308048 hps38.1 g12 ws10_77 hps10 hps7.2.2 b2.2 | omega) (by first | exact oq_e6a9dcd2 p1 hps38.2.1 ws10_78 ws7_78 | omega) (by first | exact oq_6b35565f b41.1 hps38.2.2.2 hps38.2.1 | omega) (by first | exact oq_f26382f6 hps38.1 g12 ws10_77 hps10 hps7.2.2 b2.2 | omega) (fun q h => hti q ((by decide : ∀ q ∈ ([77, 75, 78, 79, 81] : List Nat), q ∈ ([77, 75, 78, 79, 81] : List Nat)) q h)) (fun a h => hta a ((by decide : ∀ q ∈ ([157, 158, 161] : List Nat), q ∈ ([157, 158, 161] : List Nat)) a h))) ⟨rfl, rfl⟩ ⟨(show (12 + (24 + 3 * (r))) + 1 ≤ (12 + (24 + 3 * (r + 1))) from oq_02269255 r), (show 8 + (mNL (miB 210) + 11) + (500 + 45 * (24 + 3 * (r))) ≤ (500 + 45 * (24 + 3 * (r + 1))) from oq_bcf847ad r)⟩ (Nat.le_of_ble_eq_true rfl) (by decide) (by decide) (fun ee s43 hq => ?_) (fun vv s43 hq => ?_)
      · obtain ⟨Is43, Fs43, e44, hv, hrs43, hps43⟩ := hq; cases hv
      obtain ⟨Is43, Fs43, e44, hv, hrs43, hps43⟩ := hq
      cases hv
      have Gs43 := fm_ts Gs38 Fs43 (by decide) (by decide)
      have b45 : (0 : Int) ≤ iI s43 77 ∧ iI s43 77 ≤ 400 := Is43.1 77
      have ws43_75 : iI s43 75 = iI s38 75 := fm_i Fs43 (by decide)
      have b46 : (0 : Int) ≤ iI s43 79 ∧ iI s43 79 ≤ 9 := Is43.1 79
      have b47 : (0 : Int) ≤ iI s43 78 ∧ iI s43 78 ≤ 8 := Is43.1 78
      show DS l s0 D A dT 210 (rkR (24 + 3 * (r + 1))) [77, 79, 80, 78] [] (T) Q (T) 37 [(0, .ref (A 179))] [.int (Int32.ofInt e44)] s43
      have N48 : ∀ e49 : Int, (((e44 ≠ 0) ∧ e49 = 0) ∨ ((e44 = 0) ∧ e49 = 1)) → DS l s0 D A dT 210 (rkR (24 + 3 * (r + 1))) [77, 79, 80, 78] [] (T) Q (T) 45 [(0, .ref (A 179))] [.int (Int32.ofInt e49)] s43 := by
        intro e49 he49
        have re49 : 0 ≤ e49 ∧ e49 ≤ 1 := by omega
        refine d_lift (fun k ws X h => z_store_n X (lv' := [(1, .int (Int32.ofInt e49)), (0, .ref (A 179))]) (show cdA 210 45 = some (.istore_n 1, 1, 0, 0, 0) from rfl) (by decide) (fun _ h => h) h) ?_
        refine d_lift (fun k ws X h => z_aload_n X (x := A 179) (show cdA 210 46 = some (.aload_n 0, 1, 0, 0, 0) from rfl) (List.Mem.tail _ (List.Mem.head _)) h) ?_
        refine d_lift (fun k ws X h => w_dup X.1 (ax_d X (show cdA 210 47 = some (.dup, 1, 0, 0, 0) from rfl)) rfl h) ?_
        refine d_getI 179 (show cdA 210 48 = some (.getfield 213, 3, 12, 5, 0) from rfl) (by decide) rfl rfl (hti 78 (by decide)) ?_
        have b50 : (0 : Int) ≤ iI s43 78 ∧ iI s43 78 ≤ 8 := Is43.1 78
        refine d_lift (fun k ws X h => z_const X (show cdA 210 51 = some (.iconst 1, 1, 0, 0, 0) from rfl) h) ?_
        refine d_lift (fun k ws X h => z_sub X (show cdA 210 52 = some (.isub, 1, 0, 0, 0) from rfl) h) ?_
        refine d_putI 179 (show cdA 210 53 = some (.putfield 213, 3, 12, 5, 0) from rfl) (by decide) rfl rfl (by decide) rfl rfl rfl (show 78 ∈ _ by decide) (show (0 : Int) ≤ ((iI s43 78) - 1) ∧ ((iI s43 78) - 1) ≤ 8 by first | exact ⟨oq_4cec3bfa hps43.1 hps38.2.1 ws10_78 ws7_78 b4.1, oq_d7fe5c3c b50.2⟩ | omega) ⟨by first | exact oq_c1e961c7 b50.1 | omega, by first | exact oq_22bc6706 b50.2 | omega⟩ ?_
        refine d_mono (T' := T) (fun _ h => Or.inr h) (fun _ _ h => h) ?_
        obtain ⟨s51, hs51⟩ : ∃ x0, x0 = uI s43 78 (Int32.ofInt ((iI s43 78) - 1)) := ⟨_, rfl⟩
        rw [← hs51]
        have Is51 : Bd s51 := by rw [hs51]; exact bd_I Is43 (show (0 : Int) ≤ ((iI s43 78) - 1) ∧ ((iI s43 78) - 1) ≤ 8 by first | exact ⟨oq_4cec3bfa hps43.1 hps38.2.1 ws10_78 ws7_78 b4.1, oq_d7fe5c3c b50.2⟩ | omega) ⟨by first | exact oq_c1e961c7 b50.1 | omega, by first | exact oq_22bc6706 b50.2 | omega⟩
        have Fs51 := fm_I (x := Int32.ofInt ((iI s43 78) - 1)) Gs43 (show 78 ∈ _ by decide)
        rw [← hs51] at Fs51
        have vs51 : iI s51 78 = ((iI s43 78) - 1) := by rw [hs51]; exact iI_u ⟨by first | exact oq_c1e961c7 b50.1 | omega, by first | exact oq_22bc6706 b50.2 | omega⟩
        have ws51_77 : iI s51 77 = iI s43 77 := by rw [hs51]; rfl
        have ws51_75 : iI s51 75 = iI s43 75 := by rw [hs51]; rfl
        have ws51_79 : iI s51 79 = iI s43 79 := by rw [hs51]; rfl
        refine d_lift (fun k ws X h => z_load_n X (x := e49) (show cdA 210 56 = some (.iload_n 1, 1, 0, 0, 0) from rfl) (List.Mem.head _) h) ?_
        exact d_iret rfl (nar_ret (by first | exact oq_78ade64d re49.2 re49.1 he49 | omega)) (Or.inr rfl) (show cdA 210 57 = some (.ireturn, 1, 0, 0, 0) from rfl) (fun _ h => h) (hQ _ _ ⟨Is51, Fs51, e49, rfl, ⟨by first | exact oq_fa4e5087 re49.1 | omega, by first | exact oq_22e1e6b0 re49.2 | omega⟩, by first | exact ⟨oq_2ae1798d vs51 ws7_78 ws10_78 hps38.2.1 hps43.1, oq_ebda117e ws51_77 hps7.1 ws10_77 hps38.1 hps43.2.1, oq_db6a6d1e ws51_77 hps43.2.2.1 hps38.1 g12 ws10_77 hps10 hps7.2.2 b2.2, oq_e013ad0f g6, oq_97db85d0 ws51_79 ws51_77 b46.1 hps43.2.2.2.2.1 ws38_75 ws10_75 ws7_75, oq_4fd60e17 ws51_77 hps43.2.1 hps38.1 ws10_77 hps7.1, oq_78ade64d re49.2 re49.1 he49⟩ | omega⟩)
      refine d_br (bo_ne _ _) bx_ne (fun k ws X h1 h2 => z_if_ne X (t := 44) (show cdA 210 37 = some (.ifCond .ne 7, 3, 1, 0, 0) from rfl) (by decide) hrs43 h1 h2) (fun g52 => ?_) (fun g52 => ?_)
      ·
        refine d_lift (fun k ws X h => z_const X (show cdA 210 44 = some (.iconst 0, 1, 0, 0, 0) from rfl) h) ?_
        exact N48 _ (Or.inl ⟨g52, rfl⟩)
      ·
        refine d_lift (fun k ws X h => z_const X (show cdA 210 40 = some (.iconst 1, 1, 0, 0, 0) from rfl) h) ?_
        refine d_lift (fun k ws X h => z_goto X (t := 45) (show cdA 210 41 = some (.goto 4, 3, 0, 0, 0) from rfl) (by decide) h) ?_
        exact N48 _ (Or.inr (⟨g52, rfl⟩))
  ·
    refine d_lift (fun k ws X h => z_const X (show cdA 210 7 = some (.iconst 0, 1, 0, 0, 0) from rfl) h) ?_
    exact d_iret rfl (nar_ret (by first | exact Or.inl (by decide) | omega)) (Or.inr rfl) (show cdA 210 8 = some (.ireturn, 1, 0, 0, 0) from rfl) (fun _ h => h) (hQ _ _ ⟨I, F, 0, rfl, (by decide), by first | exact ⟨by decide, by decide, Or.inl (by decide), oq_4bed1c3e g6 b5.1, oq_6a3c9b31 g6 b5.1, oq_a49e6adf g6 b5.1, Or.inl (by decide)⟩ | omega⟩)
set_option maxHeartbeats 16000000 in
theorem d_andsS (G : GX l s0 D tys a0 dT) {r : Nat} (hT : ∀ {s : PS} {T : TT}, Bd s → (iI s 77 ≤ 203) → (iI s 78 + ((r : Nat) : Int) = 7) → (iI s 78 = 7 → iI s 79 ≠ 0) → (iI s 79 = 0 → iI s 77 ≤ 202) → (∀ q ∈ ([77, 75, 78, 79, 81] : List Nat), T.1 q) → (∀ a ∈ ([157, 158, 161] : List Nat), ∀ j, j < (bA a).2.2 → T.2 a j) → CD l s0 D A dT 210 (rkR (24 + 3 * (r))) [77, 79, 80, 78] [] T T [.ref (A 179)] s (fun o t => Bd t ∧ Fm [77, 79, 80, 78] [] s t ∧ ∃ e, o = .inl (some (.int (Int32.ofInt e))) ∧ rng e ∧ (iI t 78 = iI s 78 ∧ iI s 77 ≤ iI t 77 ∧ (iI t 77 = iI s 77 ∨ iI t 77 ≤ 203) ∧ (iI s 79 ≠ 0 → iI t 79 ≠ 0) ∧ (iI t 79 = 0 → iI t 77 ≤ iI s 75) ∧ (iI s 79 = 0 → iI s 77 < iI t 77) ∧ (e = 0 ∨ e = 1)))) (I : Bd s) (p0 : iI s 77 ≤ 203) (p1 : iI s 78 + ((r : Nat) : Int) = 7) (p2 : iI s 78 = 7 → iI s 79 ≠ 0) (p3 : iI s 79 = 0 → iI s 77 ≤ 202) {T : TT} (hti : ∀ q ∈ ([77, 75, 78, 79, 81] : List Nat), T.1 q) (hta : ∀ a ∈ ([157, 158, 161] : List Nat), ∀ j, j < (bA a).2.2 → T.2 a j) : CD l s0 D A dT 211 (rkR (24 + 3 * (r) + 1)) [77, 79, 80, 78] [] T (T) [.ref (A 179)] s (fun o t => Bd t ∧ Fm [77, 79, 80, 78] [] s t ∧ ∃ e, o = .inl (some (.int (Int32.ofInt e))) ∧ rng e ∧ (iI t 78 = iI s 78 ∧ iI s 77 ≤ iI t 77 ∧ (iI t 77 = iI s 77 ∨ iI t 77 ≤ 203) ∧ (iI s 79 ≠ 0 → iI t 79 ≠ 0) ∧ (iI t 79 = 0 → iI t 77 ≤ iI s 75) ∧ (iI s 79 = 0 → iI s 77 < iI t 77) ∧ (e = 0 ∨ e = 1))) := by
  refine cd_of G (by decide) (Nat.le_of_ble_eq_true rfl) (fun Q hQ => ?_)
  have I0 := I
  show DS l s0 D A dT 211 (rkR (24 + 3 * (r) + 1)) [77, 79, 80, 78] [] (T) Q (T) 0 [(0, .ref (A 179))] [] s
  have F : Fm [77, 79, 80, 78] [] s s := fm_rf _ _ s
  have b1 : (0 : Int) ≤ iI s 77 ∧ iI s 77 ≤ 400 := I.1 77
  have b2 : (0 : Int) ≤ iI s 75 ∧ iI s 75 ≤ 200 := I.1 75
  have b3 : (0 : Int) ≤ iI s 79 ∧ iI s 79 ≤ 9 := I.1 79
  have b4 : (0 : Int) ≤ iI s 78 ∧ iI s 78 ≤ 8 := I.1 78
  have L5 : ∀ (n : Nat) (t : PS) (v : Int), Bd t → Fm [77, 79, 80, 78] [] s t → (iI t 78 = iI s 78 ∧ iI s 77 ≤ iI t 77 ∧ (iI t 77 = iI s 77 ∨ iI t 77 ≤ 203) ∧ (iI s 79 ≠ 0 → iI t 79 ≠ 0) ∧ (iI t 79 = 0 → iI t 77 ≤ iI s 75) ∧ (iI s 79 = 0 → iI s 77 < iI t 77) ∧ iI t 75 = iI s 75 ∧ (v = 0 ∨ v = 1)) → (iI t 75 - iI t 77 : Int).toNat < n → (∀ (t' : PS) (v' : Int), Bd t' → Fm [77, 79, 80, 78] [] s t' → (iI t' 78 = iI s 78 ∧ iI s 77 ≤ iI t' 77 ∧ (iI t' 77 = iI s 77 ∨ iI t' 77 ≤ 203) ∧ (iI s 79 ≠ 0 → iI t' 79 ≠ 0) ∧ (iI t' 79 = 0 → iI t' 77 ≤ iI s 75) ∧ (iI s 79 = 0 → iI s 77 < iI t' 77) ∧ iI t' 75 = iI s 75 ∧ (v' = 0 ∨ v' = 1)) → DS l s0 D A dT 211 (rkR (24 + 3 * (r) + 1)) [77, 79, 80, 78] [] (T) Q (T) 55 [(0, .ref (A 179)), (1, .int (Int32.ofInt v'))] [] t') → DS l s0 D A dT 211 (rkR (24 + 3 * (r) + 1)) [77, 79, 80, 78] [] (T) Q (T) 5 [(0, .ref (A 179)), (1, .int (Int32.ofInt v))] [] t := by
    intro n
    induction n with
    | zero =>
      intro t v I F hi hm kx
      exact absurd hm (Nat.not_lt_zero _)
    | succ n ih =>
      intro t v I F hi hm kx
      have b1001 : (0 : Int) ≤ iI t 77 ∧ iI t 77 ≤ 400 := I.1 77
      have b1002 : (0 : Int) ≤ iI t 75 ∧ iI t 75 ≤ 200 := I.1 75
      have b1003 : (0 : Int) ≤ iI t 79 ∧ iI t 79 ≤ 9 := I.1 79
      have b1004 : (0 : Int) ≤ iI t 78 ∧ iI t 78 ≤ 8 := I.1 78
      refine d_lift (fun k ws X h => z_aload_n X (x := A 179) (show cdA 211 5 = some (.aload_n 0, 1, 0, 0, 0) from rfl) (List.Mem.head _) h) ?_
      refine d_getI 179 (show cdA 211 6 = some (.getfield 191, 3, 12, 6, 0) from rfl) (by decide) rfl rfl (hti 79 (by decide)) ?_
      have b1005 : (0 : Int) ≤ iI t 79 ∧ iI t 79 ≤ 9 := I.1 79
      refine d_br (bo_ne _ _) bx_ne (fun k ws X h1 h2 => z_if_ne X (t := 55) (show cdA 211 9 = some (.ifCond .ne 46, 3, 1, 0, 0) from rfl) (by decide) (rng_to _) h1 h2) (fun g1006 => ?_) (fun g1006 => ?_)
      ·
        refine d_lvs (lv := [(0, .ref (A 179)), (1, .int (Int32.ofInt v))]) (List.forall_mem_cons.mpr ⟨(List.Mem.head _), (List.forall_mem_cons.mpr ⟨(List.Mem.tail _ (List.Mem.head _)), (fun q h => absurd h List.not_mem_nil)⟩)⟩) ?_
        exact kx _ v I F (by first | exact ⟨hi.1, hi.2.1, hi.2.2.1, hi.2.2.2.1, hi.2.2.2.2.1, hi.2.2.2.2.2.1, hi.2.2.2.2.2.2.1, hi.2.2.2.2.2.2.2⟩ | omega)
      ·
        refine d_lift (fun k ws X h => z_aload_n X (x := A 179) (show cdA 211 12 = some (.aload_n 0, 1, 0, 0, 0) from rfl) (List.Mem.head _) h) ?_
        refine d_callV 179 (As := []) (st := []) (show cdA 211 13 = some (.invokevirtual 243, 3, 201, 0, 0) from rfl) rfl (by decide) rfl (d_wordHere G I (by first | exact oq_179d6548 hi.2.2.1 p0 | omega) (fun q h => hti q ((by decide : ∀ q ∈ ([77, 75, 78, 79, 81] : List Nat), q ∈ ([77, 75, 78, 79, 81] : List Nat)) q h)) (fun a h => hta a ((by decide : ∀ q ∈ ([157, 158, 161] : List Nat), q ∈ ([157, 158, 161] : List Nat)) a h))) ⟨rfl, rfl⟩ ⟨(show 8 + 1 ≤ (12 + (24 + 3 * (r) + 1)) from oq_39e70b4f r), (show 8 + (mNL (miB 201) + 11) + 141 ≤ (500 + 45 * (24 + 3 * (r) + 1)) from oq_c22861ba r)⟩ (Nat.le_of_ble_eq_true rfl) (by decide) (by decide) (fun ee s1007 hq => ?_) (fun vv s1007 hq => ?_)
        · obtain ⟨Is1007, Fs1007, e1008, hv, hrs1007, hps1007⟩ := hq; cases hv
        obtain ⟨Is1007, Fs1007, e1008, hv, hrs1007, hps1007⟩ := hq
        cases hv
        have Gs1007 := fm_ts F Fs1007 (by decide) (by decide)
        have b1009 : (0 : Int) ≤ iI s1007 77 ∧ iI s1007 77 ≤ 400 := Is1007.1 77
        have ws1007_75 : iI s1007 75 = iI t 75 := fm_i Fs1007 (by decide)
        have ws1007_79 : iI s1007 79 = iI t 79 := fm_i Fs1007 (by decide)
        have ws1007_78 : iI s1007 78 = iI t 78 := fm_i Fs1007 (by decide)
        show DS l s0 D A dT 211 (rkR (24 + 3 * (r) + 1)) [77, 79, 80, 78] [] (T) Q (T) 16 [(0, .ref (A 179)), (1, .int (Int32.ofInt v))] [.int (Int32.ofInt e1008)] s1007
        refine d_lift (fun k ws X h => z_const X (show cdA 211 16 = some (.iconst 1, 1, 0, 0, 0) from rfl) h) ?_
        refine d_lift (fun k ws X h => z_bipush X (show cdA 211 17 = some (.bipush 14, 2, 0, 0, 14) from rfl) h) ?_
        refine d_lift (fun k ws X h => z_const X (show cdA 211 19 = some (.iconst 4, 1, 0, 0, 0) from rfl) h) ?_
        refine d_lift (fun k ws X h => z_const X (show cdA 211 20 = some (.iconst 0, 1, 0, 0, 0) from rfl) h) ?_
        refine d_lift (fun k ws X h => z_const X (show cdA 211 21 = some (.iconst 0, 1, 0, 0, 0) from rfl) h) ?_
        refine d_lift (fun k ws X h => z_const X (show cdA 211 22 = some (.iconst 0, 1, 0, 0, 0) from rfl) h) ?_
        refine d_callT (As := [.int (Int32.ofInt 1), .int (Int32.ofInt 14), .int (Int32.ofInt 4), .int (Int32.ofInt 0), .int (Int32.ofInt 0), .int (Int32.ofInt 0)]) (st := [.int (Int32.ofInt e1008)]) (show cdA 211 23 = some (.invokestatic 247, 3, 202, 1, 0) from rfl) rfl (d_word G Is1007 (by first | exact ⟨by decide, by decide⟩ | omega) (by first | exact ⟨by decide, by decide⟩ | omega) (by first | exact ⟨by decide, by decide⟩ | omega) (by first | exact ⟨by decide, by decide⟩ | omega) (by first | exact ⟨by decide, by decide⟩ | omega) (by first | exact ⟨by decide, by decide⟩ | omega) (fun q h => hti q ((by decide : ∀ q ∈ ([] : List Nat), q ∈ ([77, 75, 78, 79, 81] : List Nat)) q h)) (fun a h => hta a ((by decide : ∀ q ∈ ([] : List Nat), q ∈ ([157, 158, 161] : List Nat)) a h))) ⟨rfl, rfl⟩ ⟨(show 6 + 1 ≤ (12 + (24 + 3 * (r) + 1)) from oq_daac07eb r), (show 8 + (mNL (miB 202) + 11) + 100 ≤ (500 + 45 * (24 + 3 * (r) + 1)) from oq_40ed5dd2 r)⟩ (Nat.le_of_ble_eq_true rfl) (by decide) (by decide) (fun ee s1010 hq => ?_) (fun vv s1010 hq => ?_)
        · obtain ⟨Is1010, Fs1010, e1011, hv, hrs1010, hps1010⟩ := hq; cases hv
        obtain ⟨Is1010, Fs1010, e1011, hv, hrs1010, hps1010⟩ := hq
        cases hv
        have Gs1010 := fm_ts Gs1007 Fs1010 (by decide) (by decide)
        have ws1010_77 : iI s1010 77 = iI s1007 77 := fm_i Fs1010 (by decide)
        have ws1010_75 : iI s1010 75 = iI s1007 75 := fm_i Fs1010 (by decide)
        have ws1010_79 : iI s1010 79 = iI s1007 79 := fm_i Fs1010 (by decide)
        have ws1010_78 : iI s1010 78 = iI s1007 78 := fm_i Fs1010 (by decide)
        show DS l s0 D A dT 211 (rkR (24 + 3 * (r) + 1)) [77, 79, 80, 78] [] (T) Q (T) 26 [(0, .ref (A 179)), (1, .int (Int32.ofInt v))] [.int (Int32.ofInt e1011), .int (Int32.ofInt e1008)] s1010
        refine d_br (bo_ne _ _) bx_ne (fun k ws X h1 h2 => z_icmp_ne X (t := 55) (show cdA 211 26 = some (.if_icmp .ne 29, 3, 1, 0, 0) from rfl) (by decide) hrs1007 hrs1010 h1 h2) (fun g1012 => ?_) (fun g1012 => ?_)
        ·
          refine d_lvs (lv := [(0, .ref (A 179)), (1, .int (Int32.ofInt v))]) (List.forall_mem_cons.mpr ⟨(List.Mem.head _), (List.forall_mem_cons.mpr ⟨(List.Mem.tail _ (List.Mem.head _)), (fun q h => absurd h List.not_mem_nil)⟩)⟩) ?_
          exact kx _ v Is1010 Gs1010 (by first | exact ⟨oq_878618b1 ws1010_78 ws1007_78 hi.1, oq_6f31d0da ws1010_77 hi.2.1 hps1007.1, oq_4d38c61b ws1010_77 hps1007.2.1 b1002.2 hi.2.2.1 p0, oq_67b737cd g1006 hi.2.2.2.1 b3.1, oq_613e077a ws1010_77 hps1007.2.1 g1006 hi.2.2.2.2.2.2.1 hi.2.2.2.2.1, oq_f8cf8f83 ws1010_77 hps1007.1 hi.2.2.2.2.2.1 b3.1, oq_d0d2714e ws1010_75 hi.2.2.2.2.2.2.1 ws1007_75, hi.2.2.2.2.2.2.2⟩ | omega)
        ·
          refine d_lift (fun k ws X h => z_aload_n X (x := A 179) (show cdA 211 29 = some (.aload_n 0, 1, 0, 0, 0) from rfl) (List.Mem.head _) h) ?_
          refine d_callV 179 (As := []) (st := []) (show cdA 211 30 = some (.invokevirtual 254, 3, 203, 0, 0) from rfl) rfl (by decide) rfl (d_skipWord G Is1010 (by first | exact oq_853b39fa g1012 ws1010_77 hps1010 hps1007.2.2 b1002.2 | omega) (fun q h => hti q ((by decide : ∀ q ∈ ([77, 75, 78, 79, 81] : List Nat), q ∈ ([77, 75, 78, 79, 81] : List Nat)) q h)) (fun a h => hta a ((by decide : ∀ q ∈ ([157, 158, 161] : List Nat), q ∈ ([157, 158, 161] : List Nat)) a h))) ⟨rfl, rfl⟩ ⟨(show 7 + 1 ≤ (12 + (24 + 3 * (r) + 1)) from oq_ede76fc4 r), (show 8 + (mNL (miB 203) + 11) + 121 ≤ (500 + 45 * (24 + 3 * (r) + 1)) from oq_71ab51d5 r)⟩ (Nat.le_of_ble_eq_true rfl) (by decide) (by decide) (fun ee s1013 hq => ?_) (fun vv s1013 hq => ?_)
          · obtain ⟨Is1013, Fs1013, hv, hps1013⟩ := hq; cases hv
          obtain ⟨Is1013, Fs1013, hv, hps1013⟩ := hq
          cases hv
          have Gs1013 := fm_ts Gs1010 Fs1013 (by decide) (by decide)
          have b1015 : (0 : Int) ≤ iI s1013 77 ∧ iI s1013 77 ≤ 400 := Is1013.1 77
          have ws1013_75 : iI s1013 75 = iI s1010 75 := fm_i Fs1013 (by decide)
          have ws1013_79 : iI s1013 79 = iI s1010 79 := fm_i Fs1013 (by decide)
          have ws1013_78 : iI s1013 78 = iI s1010 78 := fm_i Fs1013 (by decide)
          show DS l s0 D A dT 211 (rkR (24 + 3 * (r) + 1)) [77, 79, 80, 78] [] (T) Q (T) 33 [(0, .ref (A 179)), (1, .int (Int32.ofInt v))] [] s1013
          refine d_lift (fun k ws X h => z_aload_n X (x := A 179) (show cdA 211 33 = some (.aload_n 0, 1, 0, 0, 0) from rfl) (List.Mem.head _) h) ?_
          refine d_callV 179 (As := []) (st := []) (show cdA 211 34 = some (.invokevirtual 272, 3, 210, 0, 0) from rfl) rfl (by decide) rfl (hT Is1013 (by first | exact oq_aed112bd hps1013.2 g1012 ws1010_75 ws1010_77 hps1010 ws1007_75 hps1007.2.2 b1002.2 | omega) (by first | exact oq_c128dca8 ws1013_78 p1 ws1010_78 ws1007_78 hi.1 | omega) (by first | exact oq_022cbb1f ws1013_78 ws1010_78 ws1007_78 g1006 hi.2.2.2.1 hi.1 b3.1 p2 | omega) (by first | exact oq_7df43967 hps1013.2 g1012 ws1010_75 ws1010_77 hps1010 ws1007_75 hps1007.2.2 b1002.2 | omega) (fun q h => hti q ((by decide : ∀ q ∈ ([77, 75, 78, 79, 81] : List Nat), q ∈ ([77, 75, 78, 79, 81] : List Nat)) q h)) (fun a h => hta a ((by decide : ∀ q ∈ ([157, 158, 161] : List Nat), q ∈ ([157, 158, 161] : List Nat)) a h))) ⟨rfl, rfl⟩ ⟨(show (12 + (24 + 3 * (r))) + 1 ≤ (12 + (24 + 3 * (r) + 1)) from oq_03e50da9 r), (show 8 + (mNL (miB 210) + 11) + (500 + 45 * (24 + 3 * (r))) ≤ (500 + 45 * (24 + 3 * (r) + 1)) from oq_cc4dfda7 r)⟩ (Nat.le_of_ble_eq_true rfl) (by decide) (by decide) (fun ee s1016 hq => ?_) (fun vv s1016 hq => ?_)
          · obtain ⟨Is1016, Fs1016, e1017, hv, hrs1016, hps1016⟩ := hq; cases hv
          obtain ⟨Is1016, Fs1016, e1017, hv, hrs1016, hps1016⟩ := hq
          cases hv
          have Gs1016 := fm_ts Gs1013 Fs1016 (by decide) (by decide)
          have b1018 : (0 : Int) ≤ iI s1016 77 ∧ iI s1016 77 ≤ 400 := Is1016.1 77
          have ws1016_75 : iI s1016 75 = iI s1013 75 := fm_i Fs1016 (by decide)
          have b1019 : (0 : Int) ≤ iI s1016 79 ∧ iI s1016 79 ≤ 9 := Is1016.1 79
          have b1020 : (0 : Int) ≤ iI s1016 78 ∧ iI s1016 78 ≤ 8 := Is1016.1 78
          show DS l s0 D A dT 211 (rkR (24 + 3 * (r) + 1)) [77, 79, 80, 78] [] (T) Q (T) 37 [(0, .ref (A 179)), (1, .int (Int32.ofInt v))] [.int (Int32.ofInt e1017)] s1016
          refine d_lift (fun k ws X h => z_store_n X (lv' := [(2, .int (Int32.ofInt e1017)), (0, .ref (A 179)), (1, .int (Int32.ofInt v))]) (show cdA 211 37 = some (.istore_n 2, 1, 0, 0, 0) from rfl) (by decide) (fun _ h => h) h) ?_
          refine d_lift (fun k ws X h => z_load_n X (x := v) (show cdA 211 38 = some (.iload_n 1, 1, 0, 0, 0) from rfl) (List.Mem.tail _ (List.Mem.tail _ (List.Mem.head _))) h) ?_
          have N1021 : ∀ e1022 : Int, (((v = 0) ∧ e1022 = 0) ∨ ((v ≠ 0) ∧ (e1017 = 0) ∧ e1022 = 0) ∨ ((v ≠ 0) ∧ (e1017 ≠ 0) ∧ e1022 = 1)) → DS l s0 D A dT 211 (rkR (24 + 3 * (r) + 1)) [77, 79, 80, 78] [] (T) Q (T) 51 [(2, .int (Int32.ofInt e1017)), (0, .ref (A 179)), (1, .int (Int32.ofInt v))] [.int (Int32.ofInt e1022)] s1016 := by
            intro e1022 he1022
            have re1022 : 0 ≤ e1022 ∧ e1022 ≤ 1 := by omega
            refine d_lift (fun k ws X h => z_store_n X (lv' := [(1, .int (Int32.ofInt e1022)), (2, .int (Int32.ofInt e1017)), (0, .ref (A 179))]) (show cdA 211 51 = some (.istore_n 1, 1, 0, 0, 0) from rfl) (by decide) (fun _ h => h) h) ?_
            refine d_lift (fun k ws X h => z_goto X (t := 5) (show cdA 211 52 = some (.goto (-47), 3, 0, 0, 0) from rfl) (by decide) h) ?_
            refine d_lvs (lv := [(0, .ref (A 179)), (1, .int (Int32.ofInt e1022))]) (List.forall_mem_cons.mpr ⟨(List.Mem.tail _ (List.Mem.tail _ (List.Mem.head _))), (List.forall_mem_cons.mpr ⟨(List.Mem.head _), (fun q h => absurd h List.not_mem_nil)⟩)⟩) ?_
            exact ih _ e1022 Is1016 Gs1016 (by first | exact ⟨oq_469c7eaf hps1016.1 ws1013_78 ws1010_78 ws1007_78 hi.1, oq_df567ab1 hps1016.2.1 hps1013.1 ws1010_77 hi.2.1 hps1007.1, oq_fe8590e8 hps1016.2.2.1 hps1013.2 g1012 ws1010_75 ws1010_77 hps1010 ws1007_75 hps1007.2.2 b1002.2, oq_67b737cd g1006 hi.2.2.2.1 b3.1, oq_0a04dc49 b1019.1 hps1016.2.2.2.2.1 ws1013_75 ws1010_75 ws1007_75 hi.2.2.2.2.2.2.1, oq_2a02c81e hps1016.2.2.2.2.2.1 ws1013_79 hps1013.1 ws1010_79 ws1010_77 ws1007_79 hps1007.1 g1006 hi.2.1, oq_b4d295d9 ws1016_75 hi.2.2.2.2.2.2.1 ws1013_75 ws1010_75 ws1007_75, oq_31e518ae re1022.2 re1022.1⟩ | omega) (by first | exact qk_me hm (oq_3d279f51 ws1016_75 hps1016.2.2.2.2.2.1 ws1013_79 ws1013_75 hps1013.1 ws1010_79 ws1010_75 ws1010_77 ws1007_79 ws1007_75 hps1007.1 g1006) (oq_32b967f2 g1012 hps1010 hps1007.2.2 hps1007.1) | omega) kx
          refine d_br (bo_eq _ _) bx_eq (fun k ws X h1 h2 => z_if_eq X (t := 50) (show cdA 211 39 = some (.ifCond .eq 11, 3, 0, 0, 0) from rfl) (by decide) ⟨by first | exact oq_bde653e9 hi.2.2.2.2.2.2.2 | omega, by first | exact oq_4ad2cb8b hi.2.2.2.2.2.2.2 | omega⟩ h1 h2) (fun g1023 => ?_) (fun g1023 => ?_)
          ·
            refine d_lift (fun k ws X h => z_const X (show cdA 211 50 = some (.iconst 0, 1, 0, 0, 0) from rfl) h) ?_
            exact N1021 _ (Or.inl ⟨g1023, rfl⟩)
          ·
            refine d_lift (fun k ws X h => z_load_n X (x := e1017) (show cdA 211 42 = some (.iload_n 2, 1, 0, 0, 0) from rfl) (List.Mem.head _) h) ?_
            refine d_br (bo_eq _ _) bx_eq (fun k ws X h1 h2 => z_if_eq X (t := 50) (show cdA 211 43 = some (.ifCond .eq 7, 3, 0, 0, 0) from rfl) (by decide) hrs1016 h1 h2) (fun g1024 => ?_) (fun g1024 => ?_)
            ·
              refine d_lift (fun k ws X h => z_const X (show cdA 211 50 = some (.iconst 0, 1, 0, 0, 0) from rfl) h) ?_
              exact N1021 _ (Or.inr (Or.inl ⟨g1023, g1024, rfl⟩))
            ·
              refine d_lift (fun k ws X h => z_const X (show cdA 211 46 = some (.iconst 1, 1, 0, 0, 0) from rfl) h) ?_
              refine d_lift (fun k ws X h => z_goto X (t := 51) (show cdA 211 47 = some (.goto 4, 3, 0, 0, 0) from rfl) (by decide) h) ?_
              exact N1021 _ (Or.inr (Or.inr (⟨g1023, g1024, rfl⟩)))
  refine d_lift (fun k ws X h => z_aload_n X (x := A 179) (show cdA 211 0 = some (.aload_n 0, 1, 0, 0, 0) from rfl) (List.Mem.head _) h) ?_
  refine d_callV 179 (As := []) (st := []) (show cdA 211 1 = some (.invokevirtual 272, 3, 210, 0, 0) from rfl) rfl (by decide) rfl (hT I (by first | exact p0 | omega) (by first | exact p1 | omega) (by first | exact p2 | omega) (by first | exact p3 | omega) (fun q h => hti q ((by decide : ∀ q ∈ ([77, 75, 78, 79, 81] : List Nat), q ∈ ([77, 75, 78, 79, 81] : List Nat)) q h)) (fun a h => hta a ((by decide : ∀ q ∈ ([157, 158, 161] : List Nat), q ∈ ([157, 158, 161] : List Nat)) a h))) ⟨rfl, rfl⟩ ⟨(show (12 + (24 + 3 * (r))) + 1 ≤ (12 + (24 + 3 * (r) + 1)) from oq_03e50da9 r), (show 8 + (mNL (miB 210) + 11) + (500 + 45 * (24 + 3 * (r))) ≤ (500 + 45 * (24 + 3 * (r) + 1)) from oq_cc4dfda7 r)⟩ (Nat.le_of_ble_eq_true rfl) (by decide) (by decide) (fun ee s5 hq => ?_) (fun vv s5 hq => ?_)
  · obtain ⟨Is5, Fs5, e6, hv, hrs5, hps5⟩ := hq; cases hv
  obtain ⟨Is5, Fs5, e6, hv, hrs5, hps5⟩ := hq
  cases hv
  have Gs5 := fm_ts F Fs5 (by decide) (by decide)
  have b7 : (0 : Int) ≤ iI s5 77 ∧ iI s5 77 ≤ 400 := Is5.1 77
  have ws5_75 : iI s5 75 = iI s 75 := fm_i Fs5 (by decide)
  have b8 : (0 : Int) ≤ iI s5 79 ∧ iI s5 79 ≤ 9 := Is5.1 79
  have b9 : (0 : Int) ≤ iI s5 78 ∧ iI s5 78 ≤ 8 := Is5.1 78
  show DS l s0 D A dT 211 (rkR (24 + 3 * (r) + 1)) [77, 79, 80, 78] [] (T) Q (T) 4 [(0, .ref (A 179))] [.int (Int32.ofInt e6)] s5
  refine d_lift (fun k ws X h => z_store_n X (lv' := [(1, .int (Int32.ofInt e6)), (0, .ref (A 179))]) (show cdA 211 4 = some (.istore_n 1, 1, 0, 0, 0) from rfl) (by decide) (fun _ h => h) h) ?_
  refine d_lvs (lv := [(0, .ref (A 179)), (1, .int (Int32.ofInt e6))]) (List.forall_mem_cons.mpr ⟨(List.Mem.tail _ (List.Mem.head _)), (List.forall_mem_cons.mpr ⟨(List.Mem.head _), (fun q h => absurd h List.not_mem_nil)⟩)⟩) ?_
  refine L5 ((iI s5 75 - iI s5 77 : Int).toNat + 1) s5 e6 Is5 Gs5 (by first | exact ⟨hps5.1, hps5.2.1, hps5.2.2.1, hps5.2.2.2.1, hps5.2.2.2.2.1, hps5.2.2.2.2.2.1, ws5_75, hps5.2.2.2.2.2.2⟩ | omega) (Nat.lt_succ_self _) ?_
  intro s10 x11 Is10 Fs10 hs10
  have b12 : (0 : Int) ≤ iI s10 77 ∧ iI s10 77 ≤ 400 := Is10.1 77
  have b13 : (0 : Int) ≤ iI s10 75 ∧ iI s10 75 ≤ 200 := Is10.1 75
  have b14 : (0 : Int) ≤ iI s10 79 ∧ iI s10 79 ≤ 9 := Is10.1 79
  have b15 : (0 : Int) ≤ iI s10 78 ∧ iI s10 78 ≤ 8 := Is10.1 78
  refine d_lift (fun k ws X h => z_load_n X (x := x11) (show cdA 211 55 = some (.iload_n 1, 1, 0, 0, 0) from rfl) (List.Mem.tail _ (List.Mem.head _)) h) ?_
  exact d_iret rfl (nar_ret (by first | exact hs10.2.2.2.2.2.2.2 | omega)) (Or.inr rfl) (show cdA 211 56 = some (.ireturn, 1, 0, 0, 0) from rfl) (fun _ h => h) (hQ _ _ ⟨Is10, Fs10, x11, rfl, ⟨by first | exact oq_bde653e9 hs10.2.2.2.2.2.2.2 | omega, by first | exact oq_4ad2cb8b hs10.2.2.2.2.2.2.2 | omega⟩, by first | exact ⟨hs10.1, hs10.2.1, hs10.2.2.1, hs10.2.2.2.1, hs10.2.2.2.2.1, hs10.2.2.2.2.2.1, hs10.2.2.2.2.2.2.2⟩ | omega⟩)
set_option maxHeartbeats 16000000 in
theorem d_orsS (G : GX l s0 D tys a0 dT) {r : Nat} (hA : ∀ {s : PS} {T : TT}, Bd s → (iI s 77 ≤ 203) → (iI s 78 + ((r : Nat) : Int) = 7) → (iI s 78 = 7 → iI s 79 ≠ 0) → (iI s 79 = 0 → iI s 77 ≤ 202) → (∀ q ∈ ([77, 75, 78, 79, 81] : List Nat), T.1 q) → (∀ a ∈ ([157, 158, 161] : List Nat), ∀ j, j < (bA a).2.2 → T.2 a j) → CD l s0 D A dT 211 (rkR (24 + 3 * (r) + 1)) [77, 79, 80, 78] [] T T [.ref (A 179)] s (fun o t => Bd t ∧ Fm [77, 79, 80, 78] [] s t ∧ ∃ e, o = .inl (some (.int (Int32.ofInt e))) ∧ rng e ∧ (iI t 78 = iI s 78 ∧ iI s 77 ≤ iI t 77 ∧ (iI t 77 = iI s 77 ∨ iI t 77 ≤ 203) ∧ (iI s 79 ≠ 0 → iI t 79 ≠ 0) ∧ (iI t 79 = 0 → iI t 77 ≤ iI s 75) ∧ (iI s 79 = 0 → iI s 77 < iI t 77) ∧ (e = 0 ∨ e = 1)))) (I : Bd s) (p0 : iI s 77 ≤ 203) (p1 : iI s 78 + ((r : Nat) : Int) = 7) (p2 : iI s 78 = 7 → iI s 79 ≠ 0) (p3 : iI s 79 = 0 → iI s 77 ≤ 202) {T : TT} (hti : ∀ q ∈ ([77, 75, 78, 79, 81] : List Nat), T.1 q) (hta : ∀ a ∈ ([157, 158, 161] : List Nat), ∀ j, j < (bA a).2.2 → T.2 a j) : CD l s0 D A dT 212 (rkR (24 + 3 * (r) + 2)) [77, 79, 80, 78] [] T (T) [.ref (A 179)] s (fun o t => Bd t ∧ Fm [77, 79, 80, 78] [] s t ∧ ∃ e, o = .inl (some (.int (Int32.ofInt e))) ∧ rng e ∧ (iI t 78 = iI s 78 ∧ iI s 77 ≤ iI t 77 ∧ (iI t 77 = iI s 77 ∨ iI t 77 ≤ 203) ∧ (iI s 79 ≠ 0 → iI t 79 ≠ 0) ∧ (iI t 79 = 0 → iI t 77 ≤ iI s 75) ∧ (iI s 79 = 0 → iI s 77 < iI t 77) ∧ (e = 0 ∨ e = 1))) := by
  refine cd_of G (by decide) (Nat.le_of_ble_eq_true rfl) (fun Q hQ => ?_)
  have I0 := I
  show DS l s0 D A dT 212 (rkR (24 + 3 * (r) + 2)) [77, 79, 80, 78] [] (T) Q (T) 0 [(0, .ref (A 179))] [] s
  have F : Fm [77, 79, 80, 78] [] s s := fm_rf _ _ s
  have b1 : (0 : Int) ≤ iI s 77 ∧ iI s 77 ≤ 400 := I.1 77
  have b2 : (0 : Int) ≤ iI s 75 ∧ iI s 75 ≤ 200 := I.1 75
  have b3 : (0 : Int) ≤ iI s 79 ∧ iI s 79 ≤ 9 := I.1 79
  have b4 : (0 : Int) ≤ iI s 78 ∧ iI s 78 ≤ 8 := I.1 78
  have L5 : ∀ (n : Nat) (t : PS) (v : Int), Bd t → Fm [77, 79, 80, 78] [] s t → (iI t 78 = iI s 78 ∧ iI s 77 ≤ iI t 77 ∧ (iI t 77 = iI s 77 ∨ iI t 77 ≤ 203) ∧ (iI s 79 ≠ 0 → iI t 79 ≠ 0) ∧ (iI t 79 = 0 → iI t 77 ≤ iI s 75) ∧ (iI s 79 = 0 → iI s 77 < iI t 77) ∧ iI t 75 = iI s 75 ∧ (v = 0 ∨ v = 1)) → (iI t 75 - iI t 77 : Int).toNat < n → (∀ (t' : PS) (v' : Int), Bd t' → Fm [77, 79, 80, 78] [] s t' → (iI t' 78 = iI s 78 ∧ iI s 77 ≤ iI t' 77 ∧ (iI t' 77 = iI s 77 ∨ iI t' 77 ≤ 203) ∧ (iI s 79 ≠ 0 → iI t' 79 ≠ 0) ∧ (iI t' 79 = 0 → iI t' 77 ≤ iI s 75) ∧ (iI s 79 = 0 → iI s 77 < iI t' 77) ∧ iI t' 75 = iI s 75 ∧ (v' = 0 ∨ v' = 1)) → DS l s0 D A dT 212 (rkR (24 + 3 * (r) + 2)) [77, 79, 80, 78] [] (T) Q (T) 56 [(0, .ref (A 179)), (1, .int (Int32.ofInt v'))] [] t') → DS l s0 D A dT 212 (rkR (24 + 3 * (r) + 2)) [77, 79, 80, 78] [] (T) Q (T) 5 [(0, .ref (A 179)), (1, .int (Int32.ofInt v))] [] t := by
    intro n
    induction n with
    | zero =>
      intro t v I F hi hm kx
      exact absurd hm (Nat.not_lt_zero _)
    | succ n ih =>
      intro t v I F hi hm kx
      have b1001 : (0 : Int) ≤ iI t 77 ∧ iI t 77 ≤ 400 := I.1 77
      have b1002 : (0 : Int) ≤ iI t 75 ∧ iI t 75 ≤ 200 := I.1 75
      have b1003 : (0 : Int) ≤ iI t 79 ∧ iI t 79 ≤ 9 := I.1 79
      have b1004 : (0 : Int) ≤ iI t 78 ∧ iI t 78 ≤ 8 := I.1 78
      refine d_lift (fun k ws X h => z_aload_n X (x := A 179) (show cdA 212 5 = some (.aload_n 0, 1, 0, 0, 0) from rfl) (List.Mem.head _) h) ?_
      refine d_getI 179 (show cdA 212 6 = some (.getfield 191, 3, 12, 6, 0) from rfl) (by decide) rfl rfl (hti 79 (by decide)) ?_
      have b1005 : (0 : Int) ≤ iI t 79 ∧ iI t 79 ≤ 9 := I.1 79
      refine d_br (bo_ne _ _) bx_ne (fun k ws X h1 h2 => z_if_ne X (t := 56) (show cdA 212 9 = some (.ifCond .ne 47, 3, 1, 0, 0) from rfl) (by decide) (rng_to _) h1 h2) (fun g1006 => ?_) (fun g1006 => ?_)
      ·
        refine d_lvs (lv := [(0, .ref (A 179)), (1, .int (Int32.ofInt v))]) (List.forall_mem_cons.mpr ⟨(List.Mem.head _), (List.forall_mem_cons.mpr ⟨(List.Mem.tail _ (List.Mem.head _)), (fun q h => absurd h List.not_mem_nil)⟩)⟩) ?_
        exact kx _ v I F (by first | exact ⟨hi.1, hi.2.1, hi.2.2.1, hi.2.2.2.1, hi.2.2.2.2.1, hi.2.2.2.2.2.1, hi.2.2.2.2.2.2.1, hi.2.2.2.2.2.2.2⟩ | omega)
      ·
        refine d_lift (fun k ws X h => z_aload_n X (x := A 179) (show cdA 212 12 = some (.aload_n 0, 1, 0, 0, 0) from rfl) (List.Mem.head _) h) ?_
        refine d_callV 179 (As := []) (st := []) (show cdA 212 13 = some (.invokevirtual 243, 3, 201, 0, 0) from rfl) rfl (by decide) rfl (d_wordHere G I (by first | exact oq_179d6548 hi.2.2.1 p0 | omega) (fun q h => hti q ((by decide : ∀ q ∈ ([77, 75, 78, 79, 81] : List Nat), q ∈ ([77, 75, 78, 79, 81] : List Nat)) q h)) (fun a h => hta a ((by decide : ∀ q ∈ ([157, 158, 161] : List Nat), q ∈ ([157, 158, 161] : List Nat)) a h))) ⟨rfl, rfl⟩ ⟨(show 8 + 1 ≤ (12 + (24 + 3 * (r) + 2)) from oq_b9f2246e r), (show 8 + (mNL (miB 201) + 11) + 141 ≤ (500 + 45 * (24 + 3 * (r) + 2)) from oq_ae9e04d0 r)⟩ (Nat.le_of_ble_eq_true rfl) (by decide) (by decide) (fun ee s1007 hq => ?_) (fun vv s1007 hq => ?_)
        · obtain ⟨Is1007, Fs1007, e1008, hv, hrs1007, hps1007⟩ := hq; cases hv
        obtain ⟨Is1007, Fs1007, e1008, hv, hrs1007, hps1007⟩ := hq
        cases hv
        have Gs1007 := fm_ts F Fs1007 (by decide) (by decide)
        have b1009 : (0 : Int) ≤ iI s1007 77 ∧ iI s1007 77 ≤ 400 := Is1007.1 77
        have ws1007_75 : iI s1007 75 = iI t 75 := fm_i Fs1007 (by decide)
        have ws1007_79 : iI s1007 79 = iI t 79 := fm_i Fs1007 (by decide)
        have ws1007_78 : iI s1007 78 = iI t 78 := fm_i Fs1007 (by decide)
        show DS l s0 D A dT 212 (rkR (24 + 3 * (r) + 2)) [77, 79, 80, 78] [] (T) Q (T) 16 [(0, .ref (A 179)), (1, .int (Int32.ofInt v))] [.int (Int32.ofInt e1008)] s1007
        refine d_lift (fun k ws X h => z_bipush X (show cdA 212 16 = some (.bipush 15, 2, 0, 0, 15) from rfl) h) ?_
        refine d_lift (fun k ws X h => z_bipush X (show cdA 212 18 = some (.bipush 18, 2, 0, 0, 18) from rfl) h) ?_
        refine d_lift (fun k ws X h => z_const X (show cdA 212 20 = some (.iconst 0, 1, 0, 0, 0) from rfl) h) ?_
        refine d_lift (fun k ws X h => z_const X (show cdA 212 21 = some (.iconst 0, 1, 0, 0, 0) from rfl) h) ?_
        refine d_lift (fun k ws X h => z_const X (show cdA 212 22 = some (.iconst 0, 1, 0, 0, 0) from rfl) h) ?_
        refine d_lift (fun k ws X h => z_const X (show cdA 212 23 = some (.iconst 0, 1, 0, 0, 0) from rfl) h) ?_
        refine d_callT (As := [.int (Int32.ofInt 15), .int (Int32.ofInt 18), .int (Int32.ofInt 0), .int (Int32.ofInt 0), .int (Int32.ofInt 0), .int (Int32.ofInt 0)]) (st := [.int (Int32.ofInt e1008)]) (show cdA 212 24 = some (.invokestatic 247, 3, 202, 1, 0) from rfl) rfl (d_word G Is1007 (by first | exact ⟨by decide, by decide⟩ | omega) (by first | exact ⟨by decide, by decide⟩ | omega) (by first | exact ⟨by decide, by decide⟩ | omega) (by first | exact ⟨by decide, by decide⟩ | omega) (by first | exact ⟨by decide, by decide⟩ | omega) (by first | exact ⟨by decide, by decide⟩ | omega) (fun q h => hti q ((by decide : ∀ q ∈ ([] : List Nat), q ∈ ([77, 75, 78, 79, 81] : List Nat)) q h)) (fun a h => hta a ((by decide : ∀ q ∈ ([] : List Nat), q ∈ ([157, 158, 161] : List Nat)) a h))) ⟨rfl, rfl⟩ ⟨(show 6 + 1 ≤ (12 + (24 + 3 * (r) + 2)) from oq_4491863e r), (show 8 + (mNL (miB 202) + 11) + 100 ≤ (500 + 45 * (24 + 3 * (r) + 2)) from oq_c822b081 r)⟩ (Nat.le_of_ble_eq_true rfl) (by decide) (by decide) (fun ee s1010 hq => ?_) (fun vv s1010 hq => ?_)
        · obtain ⟨Is1010, Fs1010, e1011, hv, hrs1010, hps1010⟩ := hq; cases hv
        obtain ⟨Is1010, Fs1010, e1011, hv, hrs1010, hps1010⟩ := hq
        cases hv
        have Gs1010 := fm_ts Gs1007 Fs1010 (by decide) (by decide)
        have ws1010_77 : iI s1010 77 = iI s1007 77 := fm_i Fs1010 (by decide)
        have ws1010_75 : iI s1010 75 = iI s1007 75 := fm_i Fs1010 (by decide)
        have ws1010_79 : iI s1010 79 = iI s1007 79 := fm_i Fs1010 (by decide)
        have ws1010_78 : iI s1010 78 = iI s1007 78 := fm_i Fs1010 (by decide)
        show DS l s0 D A dT 212 (rkR (24 + 3 * (r) + 2)) [77, 79, 80, 78] [] (T) Q (T) 27 [(0, .ref (A 179)), (1, .int (Int32.ofInt v))] [.int (Int32.ofInt e1011), .int (Int32.ofInt e1008)] s1010
        refine d_br (bo_ne _ _) bx_ne (fun k ws X h1 h2 => z_icmp_ne X (t := 56) (show cdA 212 27 = some (.if_icmp .ne 29, 3, 1, 0, 0) from rfl) (by decide) hrs1007 hrs1010 h1 h2) (fun g1012 => ?_) (fun g1012 => ?_)
        ·
          refine d_lvs (lv := [(0, .ref (A 179)), (1, .int (Int32.ofInt v))]) (List.forall_mem_cons.mpr ⟨(List.Mem.head _), (List.forall_mem_cons.mpr ⟨(List.Mem.tail _ (List.Mem.head _)), (fun q h => absurd h List.not_mem_nil)⟩)⟩) ?_
          exact kx _ v Is1010 Gs1010 (by first | exact ⟨oq_878618b1 ws1010_78 ws1007_78 hi.1, oq_6f31d0da ws1010_77 hi.2.1 hps1007.1, oq_4d38c61b ws1010_77 hps1007.2.1 b1002.2 hi.2.2.1 p0, oq_67b737cd g1006 hi.2.2.2.1 b3.1, oq_613e077a ws1010_77 hps1007.2.1 g1006 hi.2.2.2.2.2.2.1 hi.2.2.2.2.1, oq_f8cf8f83 ws1010_77 hps1007.1 hi.2.2.2.2.2.1 b3.1, oq_d0d2714e ws1010_75 hi.2.2.2.2.2.2.1 ws1007_75, hi.2.2.2.2.2.2.2⟩ | omega)
        ·
          refine d_lift (fun k ws X h => z_aload_n X (x := A 179) (show cdA 212 30 = some (.aload_n 0, 1, 0, 0, 0) from rfl) (List.Mem.head _) h) ?_
          refine d_callV 179 (As := []) (st := []) (show cdA 212 31 = some (.invokevirtual 254, 3, 203, 0, 0) from rfl) rfl (by decide) rfl (d_skipWord G Is1010 (by first | exact oq_853b39fa g1012 ws1010_77 hps1010 hps1007.2.2 b1002.2 | omega) (fun q h => hti q ((by decide : ∀ q ∈ ([77, 75, 78, 79, 81] : List Nat), q ∈ ([77, 75, 78, 79, 81] : List Nat)) q h)) (fun a h => hta a ((by decide : ∀ q ∈ ([157, 158, 161] : List Nat), q ∈ ([157, 158, 161] : List Nat)) a h))) ⟨rfl, rfl⟩ ⟨(show 7 + 1 ≤ (12 + (24 + 3 * (r) + 2)) from oq_9f278ef5 r), (show 8 + (mNL (miB 203) + 11) + 121 ≤ (500 + 45 * (24 + 3 * (r) + 2)) from oq_6c94e1da r)⟩ (Nat.le_of_ble_eq_true rfl) (by decide) (by decide) (fun ee s1013 hq => ?_) (fun vv s1013 hq => ?_)
          · obtain ⟨Is1013, Fs1013, hv, hps1013⟩ := hq; cases hv
          obtain ⟨Is1013, Fs1013, hv, hps1013⟩ := hq
          cases hv
          have Gs1013 := fm_ts Gs1010 Fs1013 (by decide) (by decide)
          have b1015 : (0 : Int) ≤ iI s1013 77 ∧ iI s1013 77 ≤ 400 := Is1013.1 77
          have ws1013_75 : iI s1013 75 = iI s1010 75 := fm_i Fs1013 (by decide)
          have ws1013_79 : iI s1013 79 = iI s1010 79 := fm_i Fs1013 (by decide)
          have ws1013_78 : iI s1013 78 = iI s1010 78 := fm_i Fs1013 (by decide)
          show DS l s0 D A dT 212 (rkR (24 + 3 * (r) + 2)) [77, 79, 80, 78] [] (T) Q (T) 34 [(0, .ref (A 179)), (1, .int (Int32.ofInt v))] [] s1013
          refine d_lift (fun k ws X h => z_aload_n X (x := A 179) (show cdA 212 34 = some (.aload_n 0, 1, 0, 0, 0) from rfl) (List.Mem.head _) h) ?_
          refine d_callV 179 (As := []) (st := []) (show cdA 212 35 = some (.invokevirtual 279, 3, 211, 0, 0) from rfl) rfl (by decide) rfl (hA Is1013 (by first | exact oq_aed112bd hps1013.2 g1012 ws1010_75 ws1010_77 hps1010 ws1007_75 hps1007.2.2 b1002.2 | omega) (by first | exact oq_c128dca8 ws1013_78 p1 ws1010_78 ws1007_78 hi.1 | omega) (by first | exact oq_022cbb1f ws1013_78 ws1010_78 ws1007_78 g1006 hi.2.2.2.1 hi.1 b3.1 p2 | omega) (by first | exact oq_7df43967 hps1013.2 g1012 ws1010_75 ws1010_77 hps1010 ws1007_75 hps1007.2.2 b1002.2 | omega) (fun q h => hti q ((by decide : ∀ q ∈ ([77, 75, 78, 79, 81] : List Nat), q ∈ ([77, 75, 78, 79, 81] : List Nat)) q h)) (fun a h => hta a ((by decide : ∀ q ∈ ([157, 158, 161] : List Nat), q ∈ ([157, 158, 161] : List Nat)) a h))) ⟨rfl, rfl⟩ ⟨(show (12 + (24 + 3 * (r) + 1)) + 1 ≤ (12 + (24 + 3 * (r) + 2)) from oq_137d3732 r), (show 8 + (mNL (miB 211) + 11) + (500 + 45 * (24 + 3 * (r) + 1)) ≤ (500 + 45 * (24 + 3 * (r) + 2)) from oq_58b847aa r)⟩ (Nat.le_of_ble_eq_true rfl) (by decide) (by decide) (fun ee s1016 hq => ?_) (fun vv s1016 hq => ?_)
          · obtain ⟨Is1016, Fs1016, e1017, hv, hrs1016, hps1016⟩ := hq; cases hv
          obtain ⟨Is1016, Fs1016, e1017, hv, hrs1016, hps1016⟩ := hq
          cases hv
          have Gs1016 := fm_ts Gs1013 Fs1016 (by decide) (by decide)
          have b1018 : (0 : Int) ≤ iI s1016 77 ∧ iI s1016 77 ≤ 400 := Is1016.1 77
          have ws1016_75 : iI s1016 75 = iI s1013 75 := fm_i Fs1016 (by decide)
          have b1019 : (0 : Int) ≤ iI s1016 79 ∧ iI s1016 79 ≤ 9 := Is1016.1 79
          have b1020 : (0 : Int) ≤ iI s1016 78 ∧ iI s1016 78 ≤ 8 := Is1016.1 78
          show DS l s0 D A dT 212 (rkR (24 + 3 * (r) + 2)) [77, 79, 80, 78] [] (T) Q (T) 38 [(0, .ref (A 179)), (1, .int (Int32.ofInt v))] [.int (Int32.ofInt e1017)] s1016
          refine d_lift (fun k ws X h => z_store_n X (lv' := [(2, .int (Int32.ofInt e1017)), (0, .ref (A 179)), (1, .int (Int32.ofInt v))]) (show cdA 212 38 = some (.istore_n 2, 1, 0, 0, 0) from rfl) (by decide) (fun _ h => h) h) ?_
          refine d_lift (fun k ws X h => z_load_n X (x := v) (show cdA 212 39 = some (.iload_n 1, 1, 0, 0, 0) from rfl) (List.Mem.tail _ (List.Mem.tail _ (List.Mem.head _))) h) ?_
          have N1021 : ∀ e1022 : Int, (((v ≠ 0) ∧ e1022 = 1) ∨ ((v = 0) ∧ (e1017 = 0) ∧ e1022 = 0) ∨ ((v = 0) ∧ (e1017 ≠ 0) ∧ e1022 = 1)) → DS l s0 D A dT 212 (rkR (24 + 3 * (r) + 2)) [77, 79, 80, 78] [] (T) Q (T) 52 [(2, .int (Int32.ofInt e1017)), (0, .ref (A 179)), (1, .int (Int32.ofInt v))] [.int (Int32.ofInt e1022)] s1016 := by
            intro e1022 he1022
            have re1022 : 0 ≤ e1022 ∧ e1022 ≤ 1 := by omega
            refine d_lift (fun k ws X h => z_store_n X (lv' := [(1, .int (Int32.ofInt e1022)), (2, .int (Int32.ofInt e1017)), (0, .ref (A 179))]) (show cdA 212 52 = some (.istore_n 1, 1, 0, 0, 0) from rfl) (by decide) (fun _ h => h) h) ?_
            refine d_lift (fun k ws X h => z_goto X (t := 5) (show cdA 212 53 = some (.goto (-48), 3, 0, 0, 0) from rfl) (by decide) h) ?_
            refine d_lvs (lv := [(0, .ref (A 179)), (1, .int (Int32.ofInt e1022))]) (List.forall_mem_cons.mpr ⟨(List.Mem.tail _ (List.Mem.tail _ (List.Mem.head _))), (List.forall_mem_cons.mpr ⟨(List.Mem.head _), (fun q h => absurd h List.not_mem_nil)⟩)⟩) ?_
            exact ih _ e1022 Is1016 Gs1016 (by first | exact ⟨oq_469c7eaf hps1016.1 ws1013_78 ws1010_78 ws1007_78 hi.1, oq_df567ab1 hps1016.2.1 hps1013.1 ws1010_77 hi.2.1 hps1007.1, oq_fe8590e8 hps1016.2.2.1 hps1013.2 g1012 ws1010_75 ws1010_77 hps1010 ws1007_75 hps1007.2.2 b1002.2, oq_67b737cd g1006 hi.2.2.2.1 b3.1, oq_0a04dc49 b1019.1 hps1016.2.2.2.2.1 ws1013_75 ws1010_75 ws1007_75 hi.2.2.2.2.2.2.1, oq_2a02c81e hps1016.2.2.2.2.2.1 ws1013_79 hps1013.1 ws1010_79 ws1010_77 ws1007_79 hps1007.1 g1006 hi.2.1, oq_b4d295d9 ws1016_75 hi.2.2.2.2.2.2.1 ws1013_75 ws1010_75 ws1007_75, oq_31e518ae re1022.2 re1022.1⟩ | omega) (by first | exact qk_me hm (oq_3d279f51 ws1016_75 hps1016.2.2.2.2.2.1 ws1013_79 ws1013_75 hps1013.1 ws1010_79 ws1010_75 ws1010_77 ws1007_79 ws1007_75 hps1007.1 g1006) (oq_32b967f2 g1012 hps1010 hps1007.2.2 hps1007.1) | omega) kx
          refine d_br (bo_ne _ _) bx_ne (fun k ws X h1 h2 => z_if_ne X (t := 47) (show cdA 212 40 = some (.ifCond .ne 7, 3, 1, 0, 0) from rfl) (by decide) ⟨by first | exact oq_bde653e9 hi.2.2.2.2.2.2.2 | omega, by first | exact oq_4ad2cb8b hi.2.2.2.2.2.2.2 | omega⟩ h1 h2) (fun g1023 => ?_) (fun g1023 => ?_)
          ·
            refine d_lift (fun k ws X h => z_const X (show cdA 212 47 = some (.iconst 1, 1, 0, 0, 0) from rfl) h) ?_
            refine d_lift (fun k ws X h => z_goto X (t := 52) (show cdA 212 48 = some (.goto 4, 3, 0, 0, 0) from rfl) (by decide) h) ?_
            exact N1021 _ (Or.inl ⟨g1023, rfl⟩)
          ·
            refine d_lift (fun k ws X h => z_load_n X (x := e1017) (show cdA 212 43 = some (.iload_n 2, 1, 0, 0, 0) from rfl) (List.Mem.head _) h) ?_
            refine d_br (bo_eq _ _) bx_eq (fun k ws X h1 h2 => z_if_eq X (t := 51) (show cdA 212 44 = some (.ifCond .eq 7, 3, 0, 0, 0) from rfl) (by decide) hrs1016 h1 h2) (fun g1024 => ?_) (fun g1024 => ?_)
            ·
              refine d_lift (fun k ws X h => z_const X (show cdA 212 51 = some (.iconst 0, 1, 0, 0, 0) from rfl) h) ?_
              exact N1021 _ (Or.inr (Or.inl ⟨g1023, g1024, rfl⟩))
            ·
              refine d_lift (fun k ws X h => z_const X (show cdA 212 47 = some (.iconst 1, 1, 0, 0, 0) from rfl) h) ?_
              refine d_lift (fun k ws X h => z_goto X (t := 52) (show cdA 212 48 = some (.goto 4, 3, 0, 0, 0) from rfl) (by decide) h) ?_
              exact N1021 _ (Or.inr (Or.inr (⟨g1023, g1024, rfl⟩)))
  refine d_lift (fun k ws X h => z_aload_n X (x := A 179) (show cdA 212 0 = some (.aload_n 0, 1, 0, 0, 0) from rfl) (List.Mem.head _) h) ?_
  refine d_callV 179 (As := []) (st := []) (show cdA 212 1 = some (.invokevirtual 279, 3, 211, 0, 0) from rfl) rfl (by decide) rfl (hA I (by first | exact p0 | omega) (by first | exact p1 | omega) (by first | exact p2 | omega) (by first | exact p3 | omega) (fun q h => hti q ((by decide : ∀ q ∈ ([77, 75, 78, 79, 81] : List Nat), q ∈ ([77, 75, 78, 79, 81] : List Nat)) q h)) (fun a h => hta a ((by decide : ∀ q ∈ ([157, 158, 161] : List Nat), q ∈ ([157, 158, 161] : List Nat)) a h))) ⟨rfl, rfl⟩ ⟨(show (12 + (24 + 3 * (r) + 1)) + 1 ≤ (12 + (24 + 3 * (r) + 2)) from oq_137d3732 r), (show 8 + (mNL (miB 211) + 11) + (500 + 45 * (24 + 3 * (r) + 1)) ≤ (500 + 45 * (24 + 3 * (r) + 2)) from oq_58b847aa r)⟩ (Nat.le_of_ble_eq_true rfl) (by decide) (by decide) (fun ee s5 hq => ?_) (fun vv s5 hq => ?_)
  · obtain ⟨Is5, Fs5, e6, hv, hrs5, hps5⟩ := hq; cases hv
  obtain ⟨Is5, Fs5, e6, hv, hrs5, hps5⟩ := hq
  cases hv
  have Gs5 := fm_ts F Fs5 (by decide) (by decide)
  have b7 : (0 : Int) ≤ iI s5 77 ∧ iI s5 77 ≤ 400 := Is5.1 77
  have ws5_75 : iI s5 75 = iI s 75 := fm_i Fs5 (by decide)
  have b8 : (0 : Int) ≤ iI s5 79 ∧ iI s5 79 ≤ 9 := Is5.1 79
  have b9 : (0 : Int) ≤ iI s5 78 ∧ iI s5 78 ≤ 8 := Is5.1 78
  show DS l s0 D A dT 212 (rkR (24 + 3 * (r) + 2)) [77, 79, 80, 78] [] (T) Q (T) 4 [(0, .ref (A 179))] [.int (Int32.ofInt e6)] s5
  refine d_lift (fun k ws X h => z_store_n X (lv' := [(1, .int (Int32.ofInt e6)), (0, .ref (A 179))]) (show cdA 212 4 = some (.istore_n 1, 1, 0, 0, 0) from rfl) (by decide) (fun _ h => h) h) ?_
  refine d_lvs (lv := [(0, .ref (A 179)), (1, .int (Int32.ofInt e6))]) (List.forall_mem_cons.mpr ⟨(List.Mem.tail _ (List.Mem.head _)), (List.forall_mem_cons.mpr ⟨(List.Mem.head _), (fun q h => absurd h List.not_mem_nil)⟩)⟩) ?_
  refine L5 ((iI s5 75 - iI s5 77 : Int).toNat + 1) s5 e6 Is5 Gs5 (by first | exact ⟨hps5.1, hps5.2.1, hps5.2.2.1, hps5.2.2.2.1, hps5.2.2.2.2.1, hps5.2.2.2.2.2.1, ws5_75, hps5.2.2.2.2.2.2⟩ | omega) (Nat.lt_succ_self _) ?_
  intro s10 x11 Is10 Fs10 hs10
  have b12 : (0 : Int) ≤ iI s10 77 ∧ iI s10 77 ≤ 400 := Is10.1 77
  have b13 : (0 : Int) ≤ iI s10 75 ∧ iI s10 75 ≤ 200 := Is10.1 75
  have b14 : (0 : Int) ≤ iI s10 79 ∧ iI s10 79 ≤ 9 := Is10.1 79
  have b15 : (0 : Int) ≤ iI s10 78 ∧ iI s10 78 ≤ 8 := Is10.1 78
  refine d_lift (fun k ws X h => z_load_n X (x := x11) (show cdA 212 56 = some (.iload_n 1, 1, 0, 0, 0) from rfl) (List.Mem.tail _ (List.Mem.head _)) h) ?_
  exact d_iret rfl (nar_ret (by first | exact hs10.2.2.2.2.2.2.2 | omega)) (Or.inr rfl) (show cdA 212 57 = some (.ireturn, 1, 0, 0, 0) from rfl) (fun _ h => h) (hQ _ _ ⟨Is10, Fs10, x11, rfl, ⟨by first | exact oq_bde653e9 hs10.2.2.2.2.2.2.2 | omega, by first | exact oq_4ad2cb8b hs10.2.2.2.2.2.2.2 | omega⟩, by first | exact ⟨hs10.1, hs10.2.1, hs10.2.2.1, hs10.2.2.2.1, hs10.2.2.2.2.1, hs10.2.2.2.2.2.1, hs10.2.2.2.2.2.2.2⟩ | omega⟩)
theorem d_orsr (G : GX l s0 D tys a0 dT) (r : Nat) : (∀ {s : PS} {T : TT}, Bd s → (iI s 77 ≤ 203) → (iI s 78 + ((r : Nat) : Int) = 7) → (iI s 78 = 7 → iI s 79 ≠ 0) → (iI s 79 = 0 → iI s 77 ≤ 202) → (∀ q ∈ ([77, 75, 78, 79, 81] : List Nat), T.1 q) → (∀ a ∈ ([157, 158, 161] : List Nat), ∀ j, j < (bA a).2.2 → T.2 a j) → CD l s0 D A dT 210 (rkR (24 + 3 * (r))) [77, 79, 80, 78] [] T T [.ref (A 179)] s (fun o t => Bd t ∧ Fm [77, 79, 80, 78] [] s t ∧ ∃ e, o = .inl (some (.int (Int32.ofInt e))) ∧ rng e ∧ (iI t 78 = iI s 78 ∧ iI s 77 ≤ iI t 77 ∧ (iI t 77 = iI s 77 ∨ iI t 77 ≤ 203) ∧ (iI s 79 ≠ 0 → iI t 79 ≠ 0) ∧ (iI t 79 = 0 → iI t 77 ≤ iI s 75) ∧ (iI s 79 = 0 → iI s 77 < iI t 77) ∧ (e = 0 ∨ e = 1)))) ∧ (∀ {s : PS} {T : TT}, Bd s → (iI s 77 ≤ 203) → (iI s 78 + ((r : Nat) : Int) = 7) → (iI s 78 = 7 → iI s 79 ≠ 0) → (iI s 79 = 0 → iI s 77 ≤ 202) → (∀ q ∈ ([77, 75, 78, 79, 81] : List Nat), T.1 q) → (∀ a ∈ ([157, 158, 161] : List Nat), ∀ j, j < (bA a).2.2 → T.2 a j) → CD l s0 D A dT 211 (rkR (24 + 3 * (r) + 1)) [77, 79, 80, 78] [] T T [.ref (A 179)] s (fun o t => Bd t ∧ Fm [77, 79, 80, 78] [] s t ∧ ∃ e, o = .inl (some (.int (Int32.ofInt e))) ∧ rng e ∧ (iI t 78 = iI s 78 ∧ iI s 77 ≤ iI t 77 ∧ (iI t 77 = iI s 77 ∨ iI t 77 ≤ 203) ∧ (iI s 79 ≠ 0 → iI t 79 ≠ 0) ∧ (iI t 79 = 0 → iI t 77 ≤ iI s 75) ∧ (iI s 79 = 0 → iI s 77 < iI t 77) ∧ (e = 0 ∨ e = 1)))) ∧ (∀ {s : PS} {T : TT}, Bd s → (iI s 77 ≤ 203) → (iI s 78 + ((r : Nat) : Int) = 7) → (iI s 78 = 7 → iI s 79 ≠ 0) → (iI s 79 = 0 → iI s 77 ≤ 202) → (∀ q ∈ ([77, 75, 78, 79, 81] : List Nat), T.1 q) → (∀ a ∈ ([157, 158, 161] : List Nat), ∀ j, j < (bA a).2.2 → T.2 a j) → CD l s0 D A dT 212 (rkR (24 + 3 * (r) + 2)) [77, 79, 80, 78] [] T T [.ref (A 179)] s (fun o t => Bd t ∧ Fm [77, 79, 80, 78] [] s t ∧ ∃ e, o = .inl (some (.int (Int32.ofInt e))) ∧ rng e ∧ (iI t 78 = iI s 78 ∧ iI s 77 ≤ iI t 77 ∧ (iI t 77 = iI s 77 ∨ iI t 77 ≤ 203) ∧ (iI s 79 ≠ 0 → iI t 79 ≠ 0) ∧ (iI t 79 = 0 → iI t 77 ≤ iI s 75) ∧ (iI s 79 = 0 → iI s 77 < iI t 77) ∧ (e = 0 ∨ e = 1)))) := by
  induction r with
  | zero =>
    have hU : ∀ {s : PS} {T : TT}, Bd s → (iI s 77 ≤ 203) → (iI s 78 + ((0 : Nat) : Int) = 7) → (iI s 78 = 7 → iI s 79 ≠ 0) → (iI s 79 = 0 → iI s 77 ≤ 202) → (∀ q ∈ ([77, 75, 78, 79, 81] : List Nat), T.1 q) → (∀ a ∈ ([157, 158, 161] : List Nat), ∀ j, j < (bA a).2.2 → T.2 a j) → CD l s0 D A dT 210 (rkR (24 + 3 * (0))) [77, 79, 80, 78] [] T T [.ref (A 179)] s (fun o t => Bd t ∧ Fm [77, 79, 80, 78] [] s t ∧ ∃ e, o = .inl (some (.int (Int32.ofInt e))) ∧ rng e ∧ (iI t 78 = iI s 78 ∧ iI s 77 ≤ iI t 77 ∧ (iI t 77 = iI s 77 ∨ iI t 77 ≤ 203) ∧ (iI s 79 ≠ 0 → iI t 79 ≠ 0) ∧ (iI t 79 = 0 → iI t 77 ≤ iI s 75) ∧ (iI s 79 = 0 → iI s 77 < iI t 77) ∧ (e = 0 ∨ e = 1))) := fun {_ _} I p0 p1 p2 p3 hti hta => d_test0 G I p0 p1 p2 p3 hti hta
    have hP : ∀ {s : PS} {T : TT}, Bd s → (iI s 77 ≤ 203) → (iI s 78 + ((0 : Nat) : Int) = 7) → (iI s 78 = 7 → iI s 79 ≠ 0) → (iI s 79 = 0 → iI s 77 ≤ 202) → (∀ q ∈ ([77, 75, 78, 79, 81] : List Nat), T.1 q) → (∀ a ∈ ([157, 158, 161] : List Nat), ∀ j, j < (bA a).2.2 → T.2 a j) → CD l s0 D A dT 211 (rkR (24 + 3 * (0) + 1)) [77, 79, 80, 78] [] T T [.ref (A 179)] s (fun o t => Bd t ∧ Fm [77, 79, 80, 78] [] s t ∧ ∃ e, o = .inl (some (.int (Int32.ofInt e))) ∧ rng e ∧ (iI t 78 = iI s 78 ∧ iI s 77 ≤ iI t 77 ∧ (iI t 77 = iI s 77 ∨ iI t 77 ≤ 203) ∧ (iI s 79 ≠ 0 → iI t 79 ≠ 0) ∧ (iI t 79 = 0 → iI t 77 ≤ iI s 75) ∧ (iI s 79 = 0 → iI s 77 < iI t 77) ∧ (e = 0 ∨ e = 1))) := fun {_ _} I p0 p1 p2 p3 hti hta => d_andsS G hU I p0 p1 p2 p3 hti hta
    exact ⟨hU, hP, fun {_ _} I p0 p1 p2 p3 hti hta => d_orsS G hP I p0 p1 p2 p3 hti hta⟩
  | succ r ih =>
    have hU : ∀ {s : PS} {T : TT}, Bd s → (iI s 77 ≤ 203) → (iI s 78 + ((r + 1 : Nat) : Int) = 7) → (iI s 78 = 7 → iI s 79 ≠ 0) → (iI s 79 = 0 → iI s 77 ≤ 202) → (∀ q ∈ ([77, 75, 78, 79, 81] : List Nat), T.1 q) → (∀ a ∈ ([157, 158, 161] : List Nat), ∀ j, j < (bA a).2.2 → T.2 a j) → CD l s0 D A dT 210 (rkR (24 + 3 * (r + 1))) [77, 79, 80, 78] [] T T [.ref (A 179)] s (fun o t => Bd t ∧ Fm [77, 79, 80, 78] [] s t ∧ ∃ e, o = .inl (some (.int (Int32.ofInt e))) ∧ rng e ∧ (iI t 78 = iI s 78 ∧ iI s 77 ≤ iI t 77 ∧ (iI t 77 = iI s 77 ∨ iI t 77 ≤ 203) ∧ (iI s 79 ≠ 0 → iI t 79 ≠ 0) ∧ (iI t 79 = 0 → iI t 77 ≤ iI s 75) ∧ (iI s 79 = 0 → iI s 77 < iI t 77) ∧ (e = 0 ∨ e = 1))) := fun {_ _} I p0 p1 p2 p3 hti hta => d_testS G ih.1 ih.2.2 I p0 p1 p2 p3 hti hta
    have hP : ∀ {s : PS} {T : TT}, Bd s → (iI s 77 ≤ 203) → (iI s 78 + ((r + 1 : Nat) : Int) = 7) → (iI s 78 = 7 → iI s 79 ≠ 0) → (iI s 79 = 0 → iI s 77 ≤ 202) → (∀ q ∈ ([77, 75, 78, 79, 81] : List Nat), T.1 q) → (∀ a ∈ ([157, 158, 161] : List Nat), ∀ j, j < (bA a).2.2 → T.2 a j) → CD l s0 D A dT 211 (rkR (24 + 3 * (r + 1) + 1)) [77, 79, 80, 78] [] T T [.ref (A 179)] s (fun o t => Bd t ∧ Fm [77, 79, 80, 78] [] s t ∧ ∃ e, o = .inl (some (.int (Int32.ofInt e))) ∧ rng e ∧ (iI t 78 = iI s 78 ∧ iI s 77 ≤ iI t 77 ∧ (iI t 77 = iI s 77 ∨ iI t 77 ≤ 203) ∧ (iI s 79 ≠ 0 → iI t 79 ≠ 0) ∧ (iI t 79 = 0 → iI t 77 ≤ iI s 75) ∧ (iI s 79 = 0 → iI s 77 < iI t 77) ∧ (e = 0 ∨ e = 1))) := fun {_ _} I p0 p1 p2 p3 hti hta => d_andsS G hU I p0 p1 p2 p3 hti hta
    exact ⟨hU, hP, fun {_ _} I p0 p1 p2 p3 hti hta => d_orsS G hP I p0 p1 p2 p3 hti hta⟩
end M44
