/-! Determined: pairs, busy -/
section M49
variable {l : Launch} {s0 : State} {D : va_G} {tys : List (ClassId × FieldType)} {a0 : Array Value} {A : Nat → Nat} {dT : Nat → ClassId} {s : PS}
set_option maxHeartbeats 16000000 in
theorem d_pairsOf (G : GX l s0 D tys a0 dT) (I : Bd s) (jNW : NW s) {x : Int} (p0 : 0 ≤ x ∧ x ≤ 5) {T : TT} (hti : ∀ q ∈ ([90, 89, 85, 82, 84] : List Nat), T.1 q) (hta : ∀ a ∈ ([228, 237, 229, 157, 158, 159] : List Nat), ∀ j, j < (bA a).2.2 → T.2 a j) (htn : OKN T s) : CD l s0 D A dT 266 (rmN 266) [77, 75, 78, 79, 80, 81, 89] [161, 230] T (T) [.ref (A 179), .int (Int32.ofInt x)] s (fun o t => Bd t ∧ Fm [77, 75, 78, 79, 80, 81, 89] [161, 230] s t ∧ NW t ∧ ∃ e, o = .inl (some (.int (Int32.ofInt e))) ∧ rng e ∧ (-1 ≤ e ∧ e ≤ 8 ∧ (iI s 89 = 1 → iI t 89 = 1))) := by
  refine cd_of G (by decide) (Nat.le_of_ble_eq_true rfl) (fun Q hQ => ?_)
  have I0 := I
  show DS l s0 D A dT 266 (rmN 266) [77, 75, 78, 79, 80, 81, 89] [161, 230] (T) Q (T) 0 [(0, .ref (A 179)), (1, .int (Int32.ofInt x))] [] s
  have F : Fm [77, 75, 78, 79, 80, 81, 89] [161, 230] s s := fm_rf _ _ s
  have b1 : (1 : Int) ≤ iI s 89 ∧ iI s 89 ≤ 8 := I.1 89
  have L19 : ∀ (n : Nat) (t : PS) (cf pr gg le pc c : Int), Bd t → Fm [77, 75, 78, 79, 80, 81, 89] [161, 230] s t → NW t → ((0 ≤ cf ∧ cf ≤ 5) ∧ (0 ≤ pr ∧ pr ≤ gg) ∧ (0 ≤ gg ∧ gg ≤ 7) ∧ (-1 ≤ le ∧ le ≤ 7) ∧ 0 ≤ pc ∧ (pc = 0 ∨ 0 ≤ le) ∧ pc = 0 ∧ 0 ≤ c ∧ c ≤ 128 ∧ (iI s 89 = 1 → iI t 89 = 1)) → (128 - c : Int).toNat < n → (∀ (t' : PS) (c' : Int), Bd t' → Fm [77, 75, 78, 79, 80, 81, 89] [161, 230] s t' → NW t' → ((0 ≤ cf ∧ cf ≤ 5) ∧ (0 ≤ pr ∧ pr ≤ gg) ∧ (0 ≤ gg ∧ gg ≤ 7) ∧ (-1 ≤ le ∧ le ≤ 7) ∧ 0 ≤ pc ∧ (pc = 0 ∨ 0 ≤ le) ∧ pc = 0 ∧ 128 ≤ c' ∧ (iI s 89 = 1 → iI t' 89 = 1)) → DS l s0 D A dT 266 (rmN 266) [77, 75, 78, 79, 80, 81, 89] [161, 230] (T) Q (TU T 230 c') 41 [(0, .ref (A 179)), (1, .int (Int32.ofInt cf)), (2, .int (Int32.ofInt pr)), (3, .int (Int32.ofInt gg)), (4, .int (Int32.ofInt le)), (5, .int (Int32.ofInt pc)), (6, .int (Int32.ofInt c'))] [] t') → DS l s0 D A dT 266 (rmN 266) [77, 75, 78, 79, 80, 81, 89] [161, 230] (T) Q (TU T 230 c) 19 [(0, .ref (A 179)), (1, .int (Int32.ofInt cf)), (2, .int (Int32.ofInt pr)), (3, .int (Int32.ofInt gg)), (4, .int (Int32.ofInt le)), (5, .int (Int32.ofInt pc)), (6, .int (Int32.ofInt c))] [] t := by
    intro n
    induction n with
    | zero =>
      intro t cf pr gg le pc c I F jjNW hi hm kx
      exact absurd hm (Nat.not_lt_zero _)
    | succ n ih =>
      intro t cf pr gg le pc c I F jjNW hi hm kx
      have b1001 : (1 : Int) ≤ iI t 89 ∧ iI t 89 ≤ 8 := I.1 89
      refine d_lift (fun k ws X h => z_load X (x := c) (show cdA 266 19 = some (.iload 6, 2, 0, 0, 0) from rfl) (List.Mem.tail _ (List.Mem.tail _ (List.Mem.tail _ (List.Mem.tail _ (List.Mem.tail _ (List.Mem.tail _ (List.Mem.head _))))))) h) ?_
      refine d_lift (fun k ws X h => z_sipush X (show cdA 266 21 = some (.sipush 128, 3, 0, 0, 128) from rfl) h) ?_
      refine d_br (bo_ge _ _) bx_ge (fun k ws X h1 h2 => z_icmp_ge X (t := 41) (show cdA 266 24 = some (.if_icmp .ge 17, 3, 3, 0, 0) from rfl) (by decide) ⟨by first | exact oq_fa4e5087 hi.2.2.2.2.2.2.2.1 | omega, by first | exact oq_4ee82282 hi.2.2.2.2.2.2.2.2.1 | omega⟩ (by decide) h1 h2) (fun g1002 => ?_) (fun g1002 => ?_)
      ·
        refine d_lvs (lv := [(0, .ref (A 179)), (1, .int (Int32.ofInt cf)), (2, .int (Int32.ofInt pr)), (3, .int (Int32.ofInt gg)), (4, .int (Int32.ofInt le)), (5, .int (Int32.ofInt pc)), (6, .int (Int32.ofInt c))]) (List.forall_mem_cons.mpr ⟨(List.Mem.head _), (List.forall_mem_cons.mpr ⟨(List.Mem.tail _ (List.Mem.head _)), (List.forall_mem_cons.mpr ⟨(List.Mem.tail _ (List.Mem.tail _ (List.Mem.head _))), (List.forall_mem_cons.mpr ⟨(List.Mem.tail _ (List.Mem.tail _ (List.Mem.tail _ (List.Mem.head _)))), (List.forall_mem_cons.mpr ⟨(List.Mem.tail _ (List.Mem.tail _ (List.Mem.tail _ (List.Mem.tail _ (List.Mem.head _))))), (List.forall_mem_cons.mpr ⟨(List.Mem.tail _ (List.Mem.tail _ (List.Mem.tail _ (List.Mem.tail _ (List.Mem.tail _ (List.Mem.head _)))))), (List.forall_mem_cons.mpr ⟨(List.Mem.tail _ (List.Mem.tail _ (List.Mem.tail _ (List.Mem.tail _ (List.Mem.tail _ (List.Mem.tail _ (List.Mem.head _))))))), (fun q h => absurd h List.not_mem_nil)⟩)⟩)⟩)⟩)⟩)⟩)⟩) ?_
        exact kx _ c I F jjNW (by first | exact ⟨And.intro (hi.1.1) (hi.1.2), And.intro (hi.2.1.1) (hi.2.1.2), And.intro (hi.2.2.1.1) (hi.2.2.1.2), And.intro (hi.2.2.2.1.1) (hi.2.2.2.1.2), hi.2.2.2.2.1, hi.2.2.2.2.2.1, hi.2.2.2.2.2.2.1, g1002, hi.2.2.2.2.2.2.2.2.2⟩ | omega)
      ·
        refine d_lift (fun k ws X h => z_aload_n X (x := A 179) (show cdA 266 27 = some (.aload_n 0, 1, 0, 0, 0) from rfl) (List.Mem.head _) h) ?_
        refine d_liftS (fun k s X h => s_getR X 179 (show cdA 266 28 = some (.getfield 76, 3, 12, 37, 0) from rfl) (by decide) rfl rfl h) ?_
        refine d_lift (fun k ws X h => z_load X (x := c) (show cdA 266 31 = some (.iload 6, 2, 0, 0, 0) from rfl) (List.Mem.tail _ (List.Mem.tail _ (List.Mem.tail _ (List.Mem.tail _ (List.Mem.tail _ (List.Mem.tail _ (List.Mem.head _))))))) h) ?_
        refine d_lift (fun k ws X h => z_const X (show cdA 266 33 = some (.iconst 0, 1, 0, 0, 0) from rfl) h) ?_
        refine d_zast 258 (show cdA 266 34 = some (.bastore, 1, 0, 0, 0) from rfl) (by decide) rfl (by first | exact hi.2.2.2.2.2.2.2.1 | omega) (show c < 128 by first | exact g1002 | omega) (by decide) (by first | exact Or.inl (by decide) | omega) (show 230 ∈ _ by decide) (show (0 : Int) ≤ 0 ∧ 0 ≤ 1 by first | exact ⟨by decide, by decide⟩ | omega) (by decide) ?_
        obtain ⟨s1003, hs1003⟩ : ∃ x0, x0 = uC t 230 (c).toNat (Int32.ofInt 0) := ⟨_, rfl⟩
        rw [← hs1003]
        have Is1003 : Bd s1003 := by rw [hs1003]; exact bd_C I (show (0 : Int) ≤ 0 ∧ 0 ≤ 1 by first | exact ⟨by decide, by decide⟩ | omega) (by decide)
        have Fs1003 := fm_C (i := (c).toNat) (x := Int32.ofInt 0) F (show 230 ∈ _ by decide)
        rw [← hs1003] at Fs1003
        have ws1003_89 : iI s1003 89 = iI t 89 := by rw [hs1003]; rfl
        have fs1003 : Fm [] [230] t s1003 := by rw [hs1003]; exact fm_C (fm_rf _ _ _) (show 230 ∈ _ by decide)
        have JNW_s1003 : NW s1003 := NW_fm fs1003 (by decide) jjNW
        refine d_lift (fun k ws X h => z_inc X (x := c) (lv' := [(6, .int (Int32.ofInt (c + 1))), (0, .ref (A 179)), (1, .int (Int32.ofInt cf)), (2, .int (Int32.ofInt pr)), (3, .int (Int32.ofInt gg)), (4, .int (Int32.ofInt le)), (5, .int (Int32.ofInt pc))]) (show cdA 266 35 = some (.iinc 6 1, 3, 0, 0, 0) from rfl) (by decide) (List.Mem.tail _ (List.Mem.tail _ (List.Mem.tail _ (List.Mem.tail _ (List.Mem.tail _ (List.Mem.tail _ (List.Mem.head _))))))) (fun _ h => h) h) ?_
        refine d_lift (fun k ws X h => z_goto X (t := 19) (show cdA 266 38 = some (.goto (-19), 3, 0, 0, 0) from rfl) (by decide) h) ?_
        refine d_lvs (lv := [(0, .ref (A 179)), (1, .int (Int32.ofInt cf)), (2, .int (Int32.ofInt pr)), (3, .int (Int32.ofInt gg)), (4, .int (Int32.ofInt le)), (5, .int (Int32.ofInt pc)), (6, .int (Int32.ofInt (c + 1)))]) (List.forall_mem_cons.mpr ⟨(List.Mem.tail _ (List.Mem.head _)), (List.forall_mem_cons.mpr ⟨(List.Mem.tail _ (List.Mem.tail _ (List.Mem.head _))), (List.forall_mem_cons.mpr ⟨(List.Mem.tail _ (List.Mem.tail _ (List.Mem.tail _ (List.Mem.head _)))), (List.forall_mem_cons.mpr ⟨(List.Mem.tail _ (List.Mem.tail _ (List.Mem.tail _ (List.Mem.tail _ (List.Mem.head _))))), (List.forall_mem_cons.mpr ⟨(List.Mem.tail _ (List.Mem.tail _ (List.Mem.tail _ (List.Mem.tail _ (List.Mem.tail _ (List.Mem.head _)))))), (List.forall_mem_cons.mpr ⟨(List.Mem.tail _ (List.Mem.tail _ (List.Mem.tail _ (List.Mem.tail _ (List.Mem.tail _ (List.Mem.tail _ (List.Mem.head _))))))), (List.forall_mem_cons.mpr ⟨(List.Mem.head _), (fun q h => absurd h List.not_mem_nil)⟩)⟩)⟩)⟩)⟩)⟩)⟩) ?_
        refine d_mono (T' := TU T 230 (c + 1)) (fun _ h => h) (TU_s (by omega)) ?_
        exact ih _ cf pr gg le pc (c + 1) Is1003 Fs1003 JNW_s1003 (by first | exact ⟨And.intro (hi.1.1) (hi.1.2), And.intro (hi.2.1.1) (hi.2.1.2), And.intro (hi.2.2.1.1) (hi.2.2.1.2), And.intro (hi.2.2.2.1.1) (hi.2.2.2.1.2), hi.2.2.2.2.1, hi.2.2.2.2.2.1, hi.2.2.2.2.2.2.1, oq_54f49eb5 hi.2.2.2.2.2.2.2.1, oq_d2afb425 g1002, oq_147d8d9e ws1003_89 b1001.1 hi.2.2.2.2.2.2.2.2.2 b1.1⟩ | omega) (by first | exact qk_me hm (by decide) (oq_c268b7bd g1002) | omega) kx
  have L83 : ∀ (n : Nat) (t : PS) (cf pr gg le pc p c : Int), Bd t → Fm [77, 75, 78, 79, 80, 81, 89] [161, 230] s t → NW t → ((0 ≤ cf ∧ cf ≤ 5) ∧ (0 ≤ pr ∧ pr ≤ gg) ∧ (0 ≤ gg ∧ gg ≤ 7) ∧ (-1 ≤ le ∧ le ≤ 7) ∧ 0 ≤ pc ∧ (pc = 0 ∨ 0 ≤ le) ∧ (0 ≤ p ∧ p ≤ 7) ∧ pc ≤ 8 - p ∧ 0 ≤ c ∧ c ≤ 128 ∧ (iI s 89 = 1 → iI t 89 = 1)) → (128 - c : Int).toNat < n → (∀ (t' : PS) (c' : Int), Bd t' → Fm [77, 75, 78, 79, 80, 81, 89] [161, 230] s t' → NW t' → ((0 ≤ cf ∧ cf ≤ 5) ∧ (0 ≤ pr ∧ pr ≤ gg) ∧ (0 ≤ gg ∧ gg ≤ 7) ∧ (-1 ≤ le ∧ le ≤ 7) ∧ 0 ≤ pc ∧ (pc = 0 ∨ 0 ≤ le) ∧ (0 ≤ p ∧ p ≤ 7) ∧ pc ≤ 8 - p ∧ 0 ≤ c' ∧ c' ≤ 128 ∧ (iI s 89 = 1 → iI t' 89 = 1)) → DS l s0 D A dT 266 (rmN 266) [77, 75, 78, 79, 80, 81, 89] [161, 230] (T) Q (TU T 230 128) 131 [(0, .ref (A 179)), (1, .int (Int32.ofInt cf)), (2, .int (Int32.ofInt pr)), (3, .int (Int32.ofInt gg)), (4, .int (Int32.ofInt le)), (5, .int (Int32.ofInt pc)), (6, .int (Int32.ofInt p)), (7, .int (Int32.ofInt c'))] [] t') → DS l s0 D A dT 266 (rmN 266) [77, 75, 78, 79, 80, 81, 89] [161, 230] (T) Q (TU T 230 128) 83 [(0, .ref (A 179)), (1, .int (Int32.ofInt cf)), (2, .int (Int32.ofInt pr)), (3, .int (Int32.ofInt gg)), (4, .int (Int32.ofInt le)), (5, .int (Int32.ofInt pc)), (6, .int (Int32.ofInt p)), (7, .int (Int32.ofInt c))] [] t := by
    intro n
    induction n with
    | zero =>
      intro t cf pr gg le pc p c I F jjNW hi hm kx
      exact absurd hm (Nat.not_lt_zero _)
    | succ n ih =>
      intro t cf pr gg le pc p c I F jjNW hi hm kx
      have b2001 : (1 : Int) ≤ iI t 89 ∧ iI t 89 ≤ 8 := I.1 89
      have hta2002 : ∀ a ∈ ([230, 228, 237, 229, 157, 158, 159] : List Nat), ∀ j, j < (bA a).2.2 → (TU T 230 128).2 a j := hta_g hta (by decide)
      refine d_lift (fun k ws X h => z_load X (x := c) (show cdA 266 83 = some (.iload 7, 2, 0, 0, 0) from rfl) (List.Mem.tail _ (List.Mem.tail _ (List.Mem.tail _ (List.Mem.tail _ (List.Mem.tail _ (List.Mem.tail _ (List.Mem.tail _ (List.Mem.head _)))))))) h) ?_
      refine d_lift (fun k ws X h => z_sipush X (show cdA 266 85 = some (.sipush 128, 3, 0, 0, 128) from rfl) h) ?_
      refine d_br (bo_ge _ _) bx_ge (fun k ws X h1 h2 => z_icmp_ge X (t := 131) (show cdA 266 88 = some (.if_icmp .ge 43, 3, 3, 0, 0) from rfl) (by decide) ⟨by first | exact oq_fa4e5087 hi.2.2.2.2.2.2.2.2.1 | omega, by first | exact oq_4ee82282 hi.2.2.2.2.2.2.2.2.2.1 | omega⟩ (by decide) h1 h2) (fun g2003 => ?_) (fun g2003 => ?_)
      ·
        refine d_lvs (lv := [(0, .ref (A 179)), (1, .int (Int32.ofInt cf)), (2, .int (Int32.ofInt pr)), (3, .int (Int32.ofInt gg)), (4, .int (Int32.ofInt le)), (5, .int (Int32.ofInt pc)), (6, .int (Int32.ofInt p)), (7, .int (Int32.ofInt c))]) (List.forall_mem_cons.mpr ⟨(List.Mem.head _), (List.forall_mem_cons.mpr ⟨(List.Mem.tail _ (List.Mem.head _)), (List.forall_mem_cons.mpr ⟨(List.Mem.tail _ (List.Mem.tail _ (List.Mem.head _))), (List.forall_mem_cons.mpr ⟨(List.Mem.tail _ (List.Mem.tail _ (List.Mem.tail _ (List.Mem.head _)))), (List.forall_mem_cons.mpr ⟨(List.Mem.tail _ (List.Mem.tail _ (List.Mem.tail _ (List.Mem.tail _ (List.Mem.head _))))), (List.forall_mem_cons.mpr ⟨(List.Mem.tail _ (List.Mem.tail _ (List.Mem.tail _ (List.Mem.tail _ (List.Mem.tail _ (List.Mem.head _)))))), (List.forall_mem_cons.mpr ⟨(List.Mem.tail _ (List.Mem.tail _ (List.Mem.tail _ (List.Mem.tail _ (List.Mem.tail _ (List.Mem.tail _ (List.Mem.head _))))))), (List.forall_mem_cons.mpr ⟨(List.Mem.tail _ (List.Mem.tail _ (List.Mem.tail _ (List.Mem.tail _ (List.Mem.tail _ (List.Mem.tail _ (List.Mem.tail _ (List.Mem.head _)))))))), (fun q h => absurd h List.not_mem_nil)⟩)⟩)⟩)⟩)⟩)⟩)⟩)⟩) ?_
        exact kx _ c I F jjNW (by first | exact ⟨And.intro (hi.1.1) (hi.1.2), And.intro (hi.2.1.1) (hi.2.1.2), And.intro (hi.2.2.1.1) (hi.2.2.1.2), And.intro (hi.2.2.2.1.1) (hi.2.2.2.1.2), hi.2.2.2.2.1, hi.2.2.2.2.2.1, And.intro (hi.2.2.2.2.2.2.1.1) (hi.2.2.2.2.2.2.1.2), hi.2.2.2.2.2.2.2.1, hi.2.2.2.2.2.2.2.2.1, hi.2.2.2.2.2.2.2.2.2.1, hi.2.2.2.2.2.2.2.2.2.2⟩ | omega)
      ·
        refine d_lift (fun k ws X h => z_aload_n X (x := A 179) (show cdA 266 91 = some (.aload_n 0, 1, 0, 0, 0) from rfl) (List.Mem.head _) h) ?_
        refine d_liftS (fun k s X h => s_getR X 179 (show cdA 266 92 = some (.getfield 76, 3, 12, 37, 0) from rfl) (by decide) rfl rfl h) ?_
        refine d_lift (fun k ws X h => z_load X (x := c) (show cdA 266 95 = some (.iload 7, 2, 0, 0, 0) from rfl) (List.Mem.tail _ (List.Mem.tail _ (List.Mem.tail _ (List.Mem.tail _ (List.Mem.tail _ (List.Mem.tail _ (List.Mem.tail _ (List.Mem.head _)))))))) h) ?_
        refine d_lift (fun k ws X h => z_aload_n X (x := A 179) (show cdA 266 97 = some (.aload_n 0, 1, 0, 0, 0) from rfl) (List.Mem.head _) h) ?_
        refine d_liftS (fun k s X h => s_getR X 179 (show cdA 266 98 = some (.getfield 76, 3, 12, 37, 0) from rfl) (by decide) rfl rfl h) ?_
        refine d_lift (fun k ws X h => z_load X (x := c) (show cdA 266 101 = some (.iload 7, 2, 0, 0, 0) from rfl) (List.Mem.tail _ (List.Mem.tail _ (List.Mem.tail _ (List.Mem.tail _ (List.Mem.tail _ (List.Mem.tail _ (List.Mem.tail _ (List.Mem.head _)))))))) h) ?_
        refine d_zald 258 (show cdA 266 103 = some (.baload, 1, 0, 0, 0) from rfl) (by decide) rfl (by first | exact hi.2.2.2.2.2.2.2.2.1 | omega) (show c < 128 by first | exact g2003 | omega) (by decide) (hta2002 230 (by decide) _ (show (c).toNat < 128 by first | exact oq_afb89947 g2003 | omega)) ?_
        have b2004 : (0 : Int) ≤ iC t 230 (c).toNat ∧ iC t 230 (c).toNat ≤ 1 := I.2 230 _ (show (c).toNat < 128 by first | exact oq_afb89947 g2003 | omega)
        have N2005 : ∀ e2006 : Int, ((((iC t 230 (c).toNat) ≠ 0) ∧ e2006 = 1) ∨ (((iC t 230 (c).toNat) = 0) ∧ (((-1) : Int) ≤ iC t 228 (c).toNat ∧ iC t 228 (c).toNat ≤ 7) ∧ ((iC t 228 (c).toNat) ≠ p) ∧ e2006 = 0) ∨ (((iC t 230 (c).toNat) = 0) ∧ (((-1) : Int) ≤ iC t 228 (c).toNat ∧ iC t 228 (c).toNat ≤ 7) ∧ ((iC t 228 (c).toNat) = p) ∧ e2006 = 1)) → DS l s0 D A dT 266 (rmN 266) [77, 75, 78, 79, 80, 81, 89] [161, 230] (T) Q (TU T 230 128) 124 [(0, .ref (A 179)), (1, .int (Int32.ofInt cf)), (2, .int (Int32.ofInt pr)), (3, .int (Int32.ofInt gg)), (4, .int (Int32.ofInt le)), (5, .int (Int32.ofInt pc)), (6, .int (Int32.ofInt p)), (7, .int (Int32.ofInt c))] [.int (Int32.ofInt e2006), .int (Int32.ofInt c), .ref (A 258)] t := by
          intro e2006 he2006
          have re2006 : 0 ≤ e2006 ∧ e2006 ≤ 1 := by omega
          refine d_zast 258 (show cdA 266 124 = some (.bastore, 1, 0, 0, 0) from rfl) (by decide) rfl (by first | exact hi.2.2.2.2.2.2.2.2.1 | omega) (show c < 128 by first | exact g2003 | omega) (by decide) (by first | exact oq_31e518ae re2006.2 re2006.1 | omega) (show 230 ∈ _ by decide) (show (0 : Int) ≤ e2006 ∧ e2006 ≤ 1 by first | exact ⟨re2006.1, re2006.2⟩ | omega) ⟨by first | exact oq_fa4e5087 re2006.1 | omega, by first | exact oq_22e1e6b0 re2006.2 | omega⟩ ?_
          refine d_mono (T' := TU T 230 128) (fun _ h => h) (fun _ _ h => Or.inr h) ?_
          obtain ⟨s2007, hs2007⟩ : ∃ x0, x0 = uC t 230 (c).toNat (Int32.ofInt e2006) := ⟨_, rfl⟩
          rw [← hs2007]
          have Is2007 : Bd s2007 := by rw [hs2007]; exact bd_C I (show (0 : Int) ≤ e2006 ∧ e2006 ≤ 1 by first | exact ⟨re2006.1, re2006.2⟩ | omega) ⟨by first | exact oq_fa4e5087 re2006.1 | omega, by first | exact oq_22e1e6b0 re2006.2 | omega⟩
          have Fs2007 := fm_C (i := (c).toNat) (x := Int32.ofInt e2006) F (show 230 ∈ _ by decide)
          rw [← hs2007] at Fs2007
          have ws2007_89 : iI s2007 89 = iI t 89 := by rw [hs2007]; rfl
          have fs2007 : Fm [] [230] t s2007 := by rw [hs2007]; exact fm_C (fm_rf _ _ _) (show 230 ∈ _ by decide)
          have JNW_s2007 : NW s2007 := NW_fm fs2007 (by decide) jjNW
          refine d_lift (fun k ws X h => z_inc X (x := c) (lv' := [(7, .int (Int32.ofInt (c + 1))), (0, .ref (A 179)), (1, .int (Int32.ofInt cf)), (2, .int (Int32.ofInt pr)), (3, .int (Int32.ofInt gg)), (4, .int (Int32.ofInt le)), (5, .int (Int32.ofInt pc)), (6, .int (Int32.ofInt p))]) (show cdA 266 125 = some (.iinc 7 1, 3, 0, 0, 0) from rfl) (by decide) (List.Mem.tail _ (List.Mem.tail _ (List.Mem.tail _ (List.Mem.tail _ (List.Mem.tail _ (List.Mem.tail _ (List.Mem.tail _ (List.Mem.head _)))))))) (fun _ h => h) h) ?_
          refine d_lift (fun k ws X h => z_goto X (t := 83) (show cdA 266 128 = some (.goto (-45), 3, 0, 0, 0) from rfl) (by decide) h) ?_
          refine d_lvs (lv := [(0, .ref (A 179)), (1, .int (Int32.ofInt cf)), (2, .int (Int32.ofInt pr)), (3, .int (Int32.ofInt gg)), (4, .int (Int32.ofInt le)), (5, .int (Int32.ofInt pc)), (6, .int (Int32.ofInt p)), (7, .int (Int32.ofInt (c + 1)))]) (List.forall_mem_cons.mpr ⟨(List.Mem.tail _ (List.Mem.head _)), (List.forall_mem_cons.mpr ⟨(List.Mem.tail _ (List.Mem.tail _ (List.Mem.head _))), (List.forall_mem_cons.mpr ⟨(List.Mem.tail _ (List.Mem.tail _ (List.Mem.tail _ (List.Mem.head _)))), (List.forall_mem_cons.mpr ⟨(List.Mem.tail _ (List.Mem.tail _ (List.Mem.tail _ (List.Mem.tail _ (List.Mem.head _))))), (List.forall_mem_cons.mpr ⟨(List.Mem.tail _ (List.Mem.tail _ (List.Mem.tail _ (List.Mem.tail _ (List.Mem.tail _ (List.Mem.head _)))))), (List.forall_mem_cons.mpr ⟨(List.Mem.tail _ (List.Mem.tail _ (List.Mem.tail _ (List.Mem.tail _ (List.Mem.tail _ (List.Mem.tail _ (List.Mem.head _))))))), (List.forall_mem_cons.mpr ⟨(List.Mem.tail _ (List.Mem.tail _ (List.Mem.tail _ (List.Mem.tail _ (List.Mem.tail _ (List.Mem.tail _ (List.Mem.tail _ (List.Mem.head _)))))))), (List.forall_mem_cons.mpr ⟨(List.Mem.head _), (fun q h => absurd h List.not_mem_nil)⟩)⟩)⟩)⟩)⟩)⟩)⟩)⟩) ?_
          exact ih _ cf pr gg le pc p (c + 1) Is2007 Fs2007 JNW_s2007 (by first | exact ⟨And.intro (hi.1.1) (hi.1.2), And.intro (hi.2.1.1) (hi.2.1.2), And.intro (hi.2.2.1.1) (hi.2.2.1.2), And.intro (hi.2.2.2.1.1) (hi.2.2.2.1.2), hi.2.2.2.2.1, hi.2.2.2.2.2.1, And.intro (hi.2.2.2.2.2.2.1.1) (hi.2.2.2.2.2.2.1.2), hi.2.2.2.2.2.2.2.1, oq_54f49eb5 hi.2.2.2.2.2.2.2.2.1, oq_d2afb425 g2003, oq_147d8d9e ws2007_89 b2001.1 hi.2.2.2.2.2.2.2.2.2.2 b1.1⟩ | omega) (by first | exact qk_me hm (by decide) (oq_c268b7bd g2003) | omega) kx
        refine d_br (bo_ne _ _) bx_ne (fun k ws X h1 h2 => z_if_ne X (t := 119) (show cdA 266 104 = some (.ifCond .ne 15, 3, 1, 0, 0) from rfl) (by decide) (rng_to _) h1 h2) (fun g2008 => ?_) (fun g2008 => ?_)
        ·
          refine d_lift (fun k ws X h => z_const X (show cdA 266 119 = some (.iconst 1, 1, 0, 0, 0) from rfl) h) ?_
          refine d_lift (fun k ws X h => z_goto X (t := 124) (show cdA 266 120 = some (.goto 4, 3, 0, 0, 0) from rfl) (by decide) h) ?_
          exact N2005 _ (Or.inl ⟨g2008, rfl⟩)
        ·
          refine d_lift (fun k ws X h => z_aload_n X (x := A 179) (show cdA 266 107 = some (.aload_n 0, 1, 0, 0, 0) from rfl) (List.Mem.head _) h) ?_
          refine d_liftS (fun k s X h => s_getR X 179 (show cdA 266 108 = some (.getfield 70, 3, 12, 35, 0) from rfl) (by decide) rfl rfl h) ?_
          refine d_lift (fun k ws X h => z_load X (x := c) (show cdA 266 111 = some (.iload 7, 2, 0, 0, 0) from rfl) (List.Mem.tail _ (List.Mem.tail _ (List.Mem.tail _ (List.Mem.tail _ (List.Mem.tail _ (List.Mem.tail _ (List.Mem.tail _ (List.Mem.head _)))))))) h) ?_
          refine d_ald 256 (show cdA 266 113 = some (.iaload, 1, 0, 0, 0) from rfl) (by decide) rfl (by first | exact hi.2.2.2.2.2.2.2.2.1 | omega) (show c < 128 by first | exact g2003 | omega) (by decide) (hta2002 228 (by decide) _ (show (c).toNat < 128 by first | exact oq_afb89947 g2003 | omega)) ?_
          have b2009 : ((-1) : Int) ≤ iC t 228 (c).toNat ∧ iC t 228 (c).toNat ≤ 7 := I.2 228 _ (show (c).toNat < 128 by first | exact oq_afb89947 g2003 | omega)
          refine d_lift (fun k ws X h => z_load X (x := p) (show cdA 266 114 = some (.iload 6, 2, 0, 0, 0) from rfl) (List.Mem.tail _ (List.Mem.tail _ (List.Mem.tail _ (List.Mem.tail _ (List.Mem.tail _ (List.Mem.tail _ (List.Mem.head _))))))) h) ?_
          refine d_br (bo_ne _ _) bx_ne (fun k ws X h1 h2 => z_icmp_ne X (t := 123) (show cdA 266 116 = some (.if_icmp .ne 7, 3, 1, 0, 0) from rfl) (by decide) (rng_to _) ⟨by first | exact oq_fa4e5087 hi.2.2.2.2.2.2.1.1 | omega, by first | exact oq_0e78ca7d hi.2.2.2.2.2.2.1.2 | omega⟩ h1 h2) (fun g2010 => ?_) (fun g2010 => ?_)
          ·
            refine d_lift (fun k ws X h => z_const X (show cdA 266 123 = some (.iconst 0, 1, 0, 0, 0) from rfl) h) ?_
            exact N2005 _ (Or.inr (Or.inl ⟨g2008, b2009, g2010, rfl⟩))
          ·
            refine d_lift (fun k ws X h => z_const X (show cdA 266 119 = some (.iconst 1, 1, 0, 0, 0) from rfl) h) ?_
            refine d_lift (fun k ws X h => z_goto X (t := 124) (show cdA 266 120 = some (.goto 4, 3, 0, 0, 0) from rfl) (by decide) h) ?_
            exact N2005 _ (Or.inr (Or.inr (⟨g2008, b2009, g2010, rfl⟩)))
  have L45 : ∀ (n : Nat) (t : PS) (cf pr gg le pc p : Int), Bd t → Fm [77, 75, 78, 79, 80, 81, 89] [161, 230] s t → NW t → ((0 ≤ cf ∧ cf ≤ 5) ∧ (0 ≤ pr ∧ pr ≤ gg) ∧ (0 ≤ gg ∧ gg ≤ 7) ∧ (-1 ≤ le ∧ le ≤ 7) ∧ 0 ≤ pc ∧ (pc = 0 ∨ 0 ≤ le) ∧ (-1 ≤ p ∧ p ≤ 7) ∧ pc ≤ 7 - p ∧ (iI s 89 = 1 → iI t 89 = 1)) → (p + 1 : Int).toNat < n → (∀ (t' : PS) (le' pc' p' : Int), Bd t' → Fm [77, 75, 78, 79, 80, 81, 89] [161, 230] s t' → NW t' → ((0 ≤ cf ∧ cf ≤ 5) ∧ (0 ≤ pr ∧ pr ≤ gg) ∧ (0 ≤ gg ∧ gg ≤ 7) ∧ (-1 ≤ le' ∧ le' ≤ 7) ∧ 0 ≤ pc' ∧ (pc' = 0 ∨ 0 ≤ le') ∧ (-1 ≤ p' ∧ p' ≤ 7) ∧ pc' ≤ 7 - p' ∧ (iI s 89 = 1 → iI t' 89 = 1)) → DS l s0 D A dT 266 (rmN 266) [77, 75, 78, 79, 80, 81, 89] [161, 230] (T) Q (TU T 230 128) 137 [(0, .ref (A 179)), (1, .int (Int32.ofInt cf)), (2, .int (Int32.ofInt pr)), (3, .int (Int32.ofInt gg)), (4, .int (Int32.ofInt le')), (5, .int (Int32.ofInt pc')), (6, .int (Int32.ofInt p'))] [] t') → DS l s0 D A dT 266 (rmN 266) [77, 75, 78, 79, 80, 81, 89] [161, 230] (T) Q (TU T 230 128) 45 [(0, .ref (A 179)), (1, .int (Int32.ofInt cf)), (2, .int (Int32.ofInt pr)), (3, .int (Int32.ofInt gg)), (4, .int (Int32.ofInt le)), (5, .int (Int32.ofInt pc)), (6, .int (Int32.ofInt p))] [] t := by
    intro n
    induction n with
    | zero =>
      intro t cf pr gg le pc p I F jjNW hi hm kx
      exact absurd hm (Nat.not_lt_zero _)
    | succ n ih =>
      intro t cf pr gg le pc p I F jjNW hi hm kx
      have b3001 : (1 : Int) ≤ iI t 89 ∧ iI t 89 ≤ 8 := I.1 89
      have hta3002 : ∀ a ∈ ([230, 228, 237, 229, 157, 158, 159] : List Nat), ∀ j, j < (bA a).2.2 → (TU T 230 128).2 a j := hta_g hta (by decide)
      refine d_lift (fun k ws X h => z_load X (x := p) (show cdA 266 45 = some (.iload 6, 2, 0, 0, 0) from rfl) (List.Mem.tail _ (List.Mem.tail _ (List.Mem.tail _ (List.Mem.tail _ (List.Mem.tail _ (List.Mem.tail _ (List.Mem.head _))))))) h) ?_
      refine d_br (bo_lt _ _) bx_lt (fun k ws X h1 h2 => z_if_lt X (t := 137) (show cdA 266 47 = some (.ifCond .lt 90, 3, 2, 0, 0) from rfl) (by decide) ⟨by first | exact oq_97ee2c2a hi.2.2.2.2.2.2.1.1 | omega, by first | exact oq_0e78ca7d hi.2.2.2.2.2.2.1.2 | omega⟩ h1 h2) (fun g3003 => ?_) (fun g3003 => ?_)
      ·
        refine d_lvs (lv := [(0, .ref (A 179)), (1, .int (Int32.ofInt cf)), (2, .int (Int32.ofInt pr)), (3, .int (Int32.ofInt gg)), (4, .int (Int32.ofInt le)), (5, .int (Int32.ofInt pc)), (6, .int (Int32.ofInt p))]) (List.forall_mem_cons.mpr ⟨(List.Mem.head _), (List.forall_mem_cons.mpr ⟨(List.Mem.tail _ (List.Mem.head _)), (List.forall_mem_cons.mpr ⟨(List.Mem.tail _ (List.Mem.tail _ (List.Mem.head _))), (List.forall_mem_cons.mpr ⟨(List.Mem.tail _ (List.Mem.tail _ (List.Mem.tail _ (List.Mem.head _)))), (List.forall_mem_cons.mpr ⟨(List.Mem.tail _ (List.Mem.tail _ (List.Mem.tail _ (List.Mem.tail _ (List.Mem.head _))))), (List.forall_mem_cons.mpr ⟨(List.Mem.tail _ (List.Mem.tail _ (List.Mem.tail _ (List.Mem.tail _ (List.Mem.tail _ (List.Mem.head _)))))), (List.forall_mem_cons.mpr ⟨(List.Mem.tail _ (List.Mem.tail _ (List.Mem.tail _ (List.Mem.tail _ (List.Mem.tail _ (List.Mem.tail _ (List.Mem.head _))))))), (fun q h => absurd h List.not_mem_nil)⟩)⟩)⟩)⟩)⟩)⟩)⟩) ?_
        exact kx _ le pc p I F jjNW (by first | exact ⟨And.intro (hi.1.1) (hi.1.2), And.intro (hi.2.1.1) (hi.2.1.2), And.intro (hi.2.2.1.1) (hi.2.2.1.2), And.intro (hi.2.2.2.1.1) (hi.2.2.2.1.2), hi.2.2.2.2.1, hi.2.2.2.2.2.1, And.intro (hi.2.2.2.2.2.2.1.1) (hi.2.2.2.2.2.2.1.2), hi.2.2.2.2.2.2.2.1, hi.2.2.2.2.2.2.2.2⟩ | omega)
      ·
        refine d_lift (fun k ws X h => z_aload_n X (x := A 179) (show cdA 266 50 = some (.aload_n 0, 1, 0, 0, 0) from rfl) (List.Mem.head _) h) ?_
        refine d_lift (fun k ws X h => z_load_n X (x := cf) (show cdA 266 51 = some (.iload_n 1, 1, 0, 0, 0) from rfl) (List.Mem.tail _ (List.Mem.head _)) h) ?_
        refine d_lift (fun k ws X h => z_load X (x := p) (show cdA 266 52 = some (.iload 6, 2, 0, 0, 0) from rfl) (List.Mem.tail _ (List.Mem.tail _ (List.Mem.tail _ (List.Mem.tail _ (List.Mem.tail _ (List.Mem.tail _ (List.Mem.head _))))))) h) ?_
        refine d_callV 179 (As := [.int (Int32.ofInt cf), .int (Int32.ofInt p)]) (st := []) (show cdA 266 54 = some (.invokevirtual 407, 3, 265, 0, 0) from rfl) rfl (by decide) rfl (d_groupOf (T := TU T 230 128) G I (by first | exact ⟨hi.1.1, hi.1.2⟩ | omega) (by first | exact ⟨g3003, hi.2.2.2.2.2.2.1.2⟩ | omega) (fun q h => hti q ((by decide : ∀ q ∈ ([] : List Nat), q ∈ ([90, 89, 85, 82, 84] : List Nat)) q h)) (fun a h => hta3002 a ((by decide : ∀ q ∈ ([237] : List Nat), q ∈ ([230, 228, 237, 229, 157, 158, 159] : List Nat)) a h))) ⟨rfl, rfl⟩ ⟨(show 6 + 1 ≤ 61 from oq_8b088299), (show 8 + (mNL (miB 265) + 11) + 100 ≤ 2659 from oq_0694cc6c)⟩ (Nat.le_of_ble_eq_true rfl) (by decide) (by decide) (fun ee s3004 hq => ?_) (fun vv s3004 hq => ?_)
        · obtain ⟨Is3004, Fs3004, e3005, hv, hrs3004, hps3004⟩ := hq; cases hv
        obtain ⟨Is3004, Fs3004, e3005, hv, hrs3004, hps3004⟩ := hq
        cases hv
        have Gs3004 := fm_ts F Fs3004 (by decide) (by decide)
        have JNW_s3004 : NW s3004 := NW_fm Fs3004 (by decide) jjNW
        have ws3004_89 : iI s3004 89 = iI t 89 := fm_i Fs3004 (by decide)
        show DS l s0 D A dT 266 (rmN 266) [77, 75, 78, 79, 80, 81, 89] [161, 230] (T) Q (TU T 230 128) 57 [(0, .ref (A 179)), (1, .int (Int32.ofInt cf)), (2, .int (Int32.ofInt pr)), (3, .int (Int32.ofInt gg)), (4, .int (Int32.ofInt le)), (5, .int (Int32.ofInt pc)), (6, .int (Int32.ofInt p))] [.int (Int32.ofInt e3005)] s3004
        refine d_lift (fun k ws X h => z_load_n X (x := gg) (show cdA 266 57 = some (.iload_n 3, 1, 0, 0, 0) from rfl) (List.Mem.tail _ (List.Mem.tail _ (List.Mem.tail _ (List.Mem.head _)))) h) ?_
        refine d_br (bo_ne _ _) bx_ne (fun k ws X h1 h2 => z_icmp_ne X (t := 131) (show cdA 266 58 = some (.if_icmp .ne 73, 3, 1, 0, 0) from rfl) (by decide) hrs3004 ⟨by first | exact oq_fa4e5087 hi.2.2.1.1 | omega, by first | exact oq_0e78ca7d hi.2.2.1.2 | omega⟩ h1 h2) (fun g3006 => ?_) (fun g3006 => ?_)
        ·
          refine d_lift (fun k ws X h => z_inc X (x := p) (lv' := [(6, .int (Int32.ofInt (p + (-1)))), (0, .ref (A 179)), (1, .int (Int32.ofInt cf)), (2, .int (Int32.ofInt pr)), (3, .int (Int32.ofInt gg)), (4, .int (Int32.ofInt le)), (5, .int (Int32.ofInt pc))]) (show cdA 266 131 = some (.iinc 6 (-1), 3, 0, 0, 0) from rfl) (by decide) (List.Mem.tail _ (List.Mem.tail _ (List.Mem.tail _ (List.Mem.tail _ (List.Mem.tail _ (List.Mem.tail _ (List.Mem.head _))))))) (fun _ h => h) h) ?_
          refine d_lift (fun k ws X h => z_goto X (t := 45) (show cdA 266 134 = some (.goto (-89), 3, 0, 0, 0) from rfl) (by decide) h) ?_
          refine d_lvs (lv := [(0, .ref (A 179)), (1, .int (Int32.ofInt cf)), (2, .int (Int32.ofInt pr)), (3, .int (Int32.ofInt gg)), (4, .int (Int32.ofInt le)), (5, .int (Int32.ofInt pc)), (6, .int (Int32.ofInt (p + (-1))))]) (List.forall_mem_cons.mpr ⟨(List.Mem.tail _ (List.Mem.head _)), (List.forall_mem_cons.mpr ⟨(List.Mem.tail _ (List.Mem.tail _ (List.Mem.head _))), (List.forall_mem_cons.mpr ⟨(List.Mem.tail _ (List.Mem.tail _ (List.Mem.tail _ (List.Mem.head _)))), (List.forall_mem_cons.mpr ⟨(List.Mem.tail _ (List.Mem.tail _ (List.Mem.tail _ (List.Mem.tail _ (List.Mem.head _))))), (List.forall_mem_cons.mpr ⟨(List.Mem.tail _ (List.Mem.tail _ (List.Mem.tail _ (List.Mem.tail _ (List.Mem.tail _ (List.Mem.head _)))))), (List.forall_mem_cons.mpr ⟨(List.Mem.tail _ (List.Mem.tail _ (List.Mem.tail _ (List.Mem.tail _ (List.Mem.tail _ (List.Mem.tail _ (List.Mem.head _))))))), (List.forall_mem_cons.mpr ⟨(List.Mem.head _), (fun q h => absurd h List.not_mem_nil)⟩)⟩)⟩)⟩)⟩)⟩)⟩) ?_
          exact ih _ cf pr gg le pc (p + (-1)) Is3004 Gs3004 JNW_s3004 (by first | exact ⟨And.intro (hi.1.1) (hi.1.2), And.intro (hi.2.1.1) (hi.2.1.2), And.intro (hi.2.2.1.1) (hi.2.2.1.2), And.intro (hi.2.2.2.1.1) (hi.2.2.2.1.2), hi.2.2.2.2.1, hi.2.2.2.2.2.1, And.intro (oq_285ed02d g3003) (oq_40e69522 hi.2.2.2.2.2.2.1.2), oq_256ac20b hi.2.2.2.2.2.2.2.1, oq_147d8d9e ws3004_89 b3001.1 hi.2.2.2.2.2.2.2.2 b1.1⟩ | omega) (by first | exact qk_me hm (by decide) (oq_7a276f11 g3003) | omega) kx
        ·
          refine d_lift (fun k ws X h => z_aload_n X (x := A 179) (show cdA 266 61 = some (.aload_n 0, 1, 0, 0, 0) from rfl) (List.Mem.head _) h) ?_
          refine d_lift (fun k ws X h => z_load X (x := p) (show cdA 266 62 = some (.iload 6, 2, 0, 0, 0) from rfl) (List.Mem.tail _ (List.Mem.tail _ (List.Mem.tail _ (List.Mem.tail _ (List.Mem.tail _ (List.Mem.tail _ (List.Mem.head _))))))) h) ?_
          refine d_callV 179 (As := [.int (Int32.ofInt p)]) (st := []) (show cdA 266 64 = some (.invokevirtual 351, 3, 233, 0, 0) from rfl) rfl (by decide) rfl (d_hasCells (T := TU T 230 128) G Is3004 (by first | exact ⟨oq_fa4e5087 g3003, oq_0e78ca7d hi.2.2.2.2.2.2.1.2⟩ | omega) (fun q h => hti q ((by decide : ∀ q ∈ ([] : List Nat), q ∈ ([90, 89, 85, 82, 84] : List Nat)) q h)) (fun a h => hta3002 a ((by decide : ∀ q ∈ ([228] : List Nat), q ∈ ([230, 228, 237, 229, 157, 158, 159] : List Nat)) a h))) ⟨rfl, rfl⟩ ⟨(show 6 + 1 ≤ 61 from oq_8b088299), (show 8 + (mNL (miB 233) + 11) + 100 ≤ 2659 from oq_0694cc6c)⟩ (Nat.le_of_ble_eq_true rfl) (by decide) (by decide) (fun ee s3007 hq => ?_) (fun vv s3007 hq => ?_)
          · obtain ⟨Is3007, Fs3007, e3008, hv, hrs3007, hps3007⟩ := hq; cases hv
          obtain ⟨Is3007, Fs3007, e3008, hv, hrs3007, hps3007⟩ := hq
          cases hv
          have Gs3007 := fm_ts Gs3004 Fs3007 (by decide) (by decide)
          have JNW_s3007 : NW s3007 := NW_fm Fs3007 (by decide) JNW_s3004
          have ws3007_89 : iI s3007 89 = iI s3004 89 := fm_i Fs3007 (by decide)
          show DS l s0 D A dT 266 (rmN 266) [77, 75, 78, 79, 80, 81, 89] [161, 230] (T) Q (TU T 230 128) 67 [(0, .ref (A 179)), (1, .int (Int32.ofInt cf)), (2, .int (Int32.ofInt pr)), (3, .int (Int32.ofInt gg)), (4, .int (Int32.ofInt le)), (5, .int (Int32.ofInt pc)), (6, .int (Int32.ofInt p))] [.int (Int32.ofInt e3008)] s3007
          refine d_br (bo_ne _ _) bx_ne (fun k ws X h1 h2 => z_if_ne X (t := 73) (show cdA 266 67 = some (.ifCond .ne 6, 3, 1, 0, 0) from rfl) (by decide) hrs3007 h1 h2) (fun g3009 => ?_) (fun g3009 => ?_)
          ·
            refine d_lift (fun k ws X h => z_load X (x := p) (show cdA 266 73 = some (.iload 6, 2, 0, 0, 0) from rfl) (List.Mem.tail _ (List.Mem.tail _ (List.Mem.tail _ (List.Mem.tail _ (List.Mem.tail _ (List.Mem.tail _ (List.Mem.head _))))))) h) ?_
            refine d_lift (fun k ws X h => z_store X (lv' := [(4, .int (Int32.ofInt p)), (0, .ref (A 179)), (1, .int (Int32.ofInt cf)), (2, .int (Int32.ofInt pr)), (3, .int (Int32.ofInt gg)), (5, .int (Int32.ofInt pc)), (6, .int (Int32.ofInt p))]) (show cdA 266 75 = some (.istore 4, 2, 0, 0, 0) from rfl) (by decide) (fun _ h => h) h) ?_
            refine d_lift (fun k ws X h => z_inc X (x := pc) (lv' := [(5, .int (Int32.ofInt (pc + 1))), (4, .int (Int32.ofInt p)), (0, .ref (A 179)), (1, .int (Int32.ofInt cf)), (2, .int (Int32.ofInt pr)), (3, .int (Int32.ofInt gg)), (6, .int (Int32.ofInt p))]) (show cdA 266 77 = some (.iinc 5 1, 3, 0, 0, 0) from rfl) (by decide) (List.Mem.tail _ (List.Mem.tail _ (List.Mem.tail _ (List.Mem.tail _ (List.Mem.tail _ (List.Mem.head _)))))) (fun _ h => h) h) ?_
            refine d_lift (fun k ws X h => z_const X (show cdA 266 80 = some (.iconst 0, 1, 0, 0, 0) from rfl) h) ?_
            refine d_lift (fun k ws X h => z_store X (lv' := [(7, .int (Int32.ofInt 0)), (5, .int (Int32.ofInt (pc + 1))), (4, .int (Int32.ofInt p)), (0, .ref (A 179)), (1, .int (Int32.ofInt cf)), (2, .int (Int32.ofInt pr)), (3, .int (Int32.ofInt gg)), (6, .int (Int32.ofInt p))]) (show cdA 266 81 = some (.istore 7, 2, 0, 0, 0) from rfl) (by decide) (fun _ h => h) h) ?_
            refine d_lvs (lv := [(0, .ref (A 179)), (1, .int (Int32.ofInt cf)), (2, .int (Int32.ofInt pr)), (3, .int (Int32.ofInt gg)), (4, .int (Int32.ofInt p)), (5, .int (Int32.ofInt (pc + 1))), (6, .int (Int32.ofInt p)), (7, .int (Int32.ofInt 0))]) (List.forall_mem_cons.mpr ⟨(List.Mem.tail _ (List.Mem.tail _ (List.Mem.tail _ (List.Mem.head _)))), (List.forall_mem_cons.mpr ⟨(List.Mem.tail _ (List.Mem.tail _ (List.Mem.tail _ (List.Mem.tail _ (List.Mem.head _))))), (List.forall_mem_cons.mpr ⟨(List.Mem.tail _ (List.Mem.tail _ (List.Mem.tail _ (List.Mem.tail _ (List.Mem.tail _ (List.Mem.head _)))))), (List.forall_mem_cons.mpr ⟨(List.Mem.tail _ (List.Mem.tail _ (List.Mem.tail _ (List.Mem.tail _ (List.Mem.tail _ (List.Mem.tail _ (List.Mem.head _))))))), (List.forall_mem_cons.mpr ⟨(List.Mem.tail _ (List.Mem.tail _ (List.Mem.head _))), (List.forall_mem_cons.mpr ⟨(List.Mem.tail _ (List.Mem.head _)), (List.forall_mem_cons.mpr ⟨(List.Mem.tail _ (List.Mem.tail _ (List.Mem.tail _ (List.Mem.tail _ (List.Mem.tail _ (List.Mem.tail _ (List.Mem.tail _ (List.Mem.head _)))))))), (List.forall_mem_cons.mpr ⟨(List.Mem.head _), (fun q h => absurd h List.not_mem_nil)⟩)⟩)⟩)⟩)⟩)⟩)⟩)⟩) ?_
            refine L83 ((128 - 0 : Int).toNat + 1) s3007 cf pr gg p (pc + 1) p 0 Is3007 Gs3007 JNW_s3007 (by first | exact ⟨And.intro (hi.1.1) (hi.1.2), And.intro (hi.2.1.1) (hi.2.1.2), And.intro (hi.2.2.1.1) (hi.2.2.1.2), And.intro (hi.2.2.2.2.2.2.1.1) (hi.2.2.2.2.2.2.1.2), oq_54f49eb5 hi.2.2.2.2.1, Or.inr (g3003), And.intro (g3003) (hi.2.2.2.2.2.2.1.2), oq_67a5ea2f hi.2.2.2.2.2.2.2.1, by decide, by decide, oq_a1779426 ws3007_89 ws3004_89 b3001.1 hi.2.2.2.2.2.2.2.2 b1.1⟩ | omega) (Nat.lt_succ_self _) ?_
            intro s3010 x3011 Is3010 Fs3010 JNW_s3010 hs3010
            have b3012 : (1 : Int) ≤ iI s3010 89 ∧ iI s3010 89 ≤ 8 := Is3010.1 89
            have hta3013 : ∀ a ∈ ([230, 228, 237, 229, 157, 158, 159] : List Nat), ∀ j, j < (bA a).2.2 → (TU T 230 128).2 a j := hta_g hta (by decide)
            refine d_lift (fun k ws X h => z_inc X (x := p) (lv' := [(6, .int (Int32.ofInt (p + (-1)))), (0, .ref (A 179)), (1, .int (Int32.ofInt cf)), (2, .int (Int32.ofInt pr)), (3, .int (Int32.ofInt gg)), (4, .int (Int32.ofInt p)), (5, .int (Int32.ofInt (pc + 1))), (7, .int (Int32.ofInt x3011))]) (show cdA 266 131 = some (.iinc 6 (-1), 3, 0, 0, 0) from rfl) (by decide) (List.Mem.tail _ (List.Mem.tail _ (List.Mem.tail _ (List.Mem.tail _ (List.Mem.tail _ (List.Mem.tail _ (List.Mem.head _))))))) (fun _ h => h) h) ?_
            refine d_lift (fun k ws X h => z_goto X (t := 45) (show cdA 266 134 = some (.goto (-89), 3, 0, 0, 0) from rfl) (by decide) h) ?_
            refine d_lvs (lv := [(0, .ref (A 179)), (1, .int (Int32.ofInt cf)), (2, .int (Int32.ofInt pr)), (3, .int (Int32.ofInt gg)), (4, .int (Int32.ofInt p)), (5, .int (Int32.ofInt (pc + 1))), (6, .int (Int32.ofInt (p + (-1))))]) (List.forall_mem_cons.mpr ⟨(List.Mem.tail _ (List.Mem.head _)), (List.forall_mem_cons.mpr ⟨(List.Mem.tail _ (List.Mem.tail _ (List.Mem.head _))), (List.forall_mem_cons.mpr ⟨(List.Mem.tail _ (List.Mem.tail _ (List.Mem.tail _ (List.Mem.head _)))), (List.forall_mem_cons.mpr ⟨(List.Mem.tail _ (List.Mem.tail _ (List.Mem.tail _ (List.Mem.tail _ (List.Mem.head _))))), (List.forall_mem_cons.mpr ⟨(List.Mem.tail _ (List.Mem.tail _ (List.Mem.tail _ (List.Mem.tail _ (List.Mem.tail _ (List.Mem.head _)))))), (List.forall_mem_cons.mpr ⟨(List.Mem.tail _ (List.Mem.tail _ (List.Mem.tail _ (List.Mem.tail _ (List.Mem.tail _ (List.Mem.tail _ (List.Mem.head _))))))), (List.forall_mem_cons.mpr ⟨(List.Mem.head _), (fun q h => absurd h List.not_mem_nil)⟩)⟩)⟩)⟩)⟩)⟩)⟩) ?_
            exact ih _ cf pr gg p (pc + 1) (p + (-1)) Is3010 Fs3010 JNW_s3010 (by first | exact ⟨And.intro (hs3010.1.1) (hs3010.1.2), And.intro (hs3010.2.1.1) (hs3010.2.1.2), And.intro (hs3010.2.2.1.1) (hs3010.2.2.1.2), And.intro (hs3010.2.2.2.1.1) (hs3010.2.2.2.2.2.2.1.2), hs3010.2.2.2.2.1, hs3010.2.2.2.2.2.1, And.intro (oq_285ed02d hs3010.2.2.2.2.2.2.1.1) (oq_40e69522 hs3010.2.2.2.2.2.2.1.2), oq_53cad2b6 hs3010.2.2.2.2.2.2.2.1, hs3010.2.2.2.2.2.2.2.2.2.2⟩ | omega) (by first | exact qk_me hm (by decide) (oq_7a276f11 hs3010.2.2.2.2.2.2.1.1) | omega) kx
          ·
            refine d_lift (fun k ws X h => z_goto X (t := 131) (show cdA 266 70 = some (.goto 61, 3, 0, 0, 0) from rfl) (by decide) h) ?_
            refine d_lift (fun k ws X h => z_inc X (x := p) (lv' := [(6, .int (Int32.ofInt (p + (-1)))), (0, .ref (A 179)), (1, .int (Int32.ofInt cf)), (2, .int (Int32.ofInt pr)), (3, .int (Int32.ofInt gg)), (4, .int (Int32.ofInt le)), (5, .int (Int32.ofInt pc))]) (show cdA 266 131 = some (.iinc 6 (-1), 3, 0, 0, 0) from rfl) (by decide) (List.Mem.tail _ (List.Mem.tail _ (List.Mem.tail _ (List.Mem.tail _ (List.Mem.tail _ (List.Mem.tail _ (List.Mem.head _))))))) (fun _ h => h) h) ?_
            refine d_lift (fun k ws X h => z_goto X (t := 45) (show cdA 266 134 = some (.goto (-89), 3, 0, 0, 0) from rfl) (by decide) h) ?_
            refine d_lvs (lv := [(0, .ref (A 179)), (1, .int (Int32.ofInt cf)), (2, .int (Int32.ofInt pr)), (3, .int (Int32.ofInt gg)), (4, .int (Int32.ofInt le)), (5, .int (Int32.ofInt pc)), (6, .int (Int32.ofInt (p + (-1))))]) (List.forall_mem_cons.mpr ⟨(List.Mem.tail _ (List.Mem.head _)), (List.forall_mem_cons.mpr ⟨(List.Mem.tail _ (List.Mem.tail _ (List.Mem.head _))), (List.forall_mem_cons.mpr ⟨(List.Mem.tail _ (List.Mem.tail _ (List.Mem.tail _ (List.Mem.head _)))), (List.forall_mem_cons.mpr ⟨(List.Mem.tail _ (List.Mem.tail _ (List.Mem.tail _ (List.Mem.tail _ (List.Mem.head _))))), (List.forall_mem_cons.mpr ⟨(List.Mem.tail _ (List.Mem.tail _ (List.Mem.tail _ (List.Mem.tail _ (List.Mem.tail _ (List.Mem.head _)))))), (List.forall_mem_cons.mpr ⟨(List.Mem.tail _ (List.Mem.tail _ (List.Mem.tail _ (List.Mem.tail _ (List.Mem.tail _ (List.Mem.tail _ (List.Mem.head _))))))), (List.forall_mem_cons.mpr ⟨(List.Mem.head _), (fun q h => absurd h List.not_mem_nil)⟩)⟩)⟩)⟩)⟩)⟩)⟩) ?_
            exact ih _ cf pr gg le pc (p + (-1)) Is3007 Gs3007 JNW_s3007 (by first | exact ⟨And.intro (hi.1.1) (hi.1.2), And.intro (hi.2.1.1) (hi.2.1.2), And.intro (hi.2.2.1.1) (hi.2.2.1.2), And.intro (hi.2.2.2.1.1) (hi.2.2.2.1.2), hi.2.2.2.2.1, hi.2.2.2.2.2.1, And.intro (oq_285ed02d g3003) (oq_40e69522 hi.2.2.2.2.2.2.1.2), oq_256ac20b hi.2.2.2.2.2.2.2.1, oq_a1779426 ws3007_89 ws3004_89 b3001.1 hi.2.2.2.2.2.2.2.2 b1.1⟩ | omega) (by first | exact qk_me hm (by decide) (oq_7a276f11 g3003) | omega) kx
  have L4 : ∀ (n : Nat) (t : PS) (cf pr gg : Int), Bd t → Fm [77, 75, 78, 79, 80, 81, 89] [161, 230] s t → NW t → ((0 ≤ cf ∧ cf ≤ 5) ∧ (0 ≤ pr ∧ pr ≤ gg) ∧ (0 ≤ gg ∧ gg ≤ 8) ∧ (iI s 89 = 1 → iI t 89 = 1)) → (8 - gg : Int).toNat < n → (∀ (t' : PS) (pr' gg' : Int), Bd t' → Fm [77, 75, 78, 79, 80, 81, 89] [161, 230] s t' → NW t' → ((0 ≤ cf ∧ cf ≤ 5) ∧ (0 ≤ pr' ∧ pr' ≤ gg') ∧ (0 ≤ gg' ∧ gg' ≤ 8) ∧ (iI s 89 = 1 → iI t' 89 = 1)) → DS l s0 D A dT 266 (rmN 266) [77, 75, 78, 79, 80, 81, 89] [161, 230] (T) Q (T) 206 [(0, .ref (A 179)), (1, .int (Int32.ofInt cf)), (2, .int (Int32.ofInt pr')), (3, .int (Int32.ofInt gg'))] [] t') → DS l s0 D A dT 266 (rmN 266) [77, 75, 78, 79, 80, 81, 89] [161, 230] (T) Q (T) 4 [(0, .ref (A 179)), (1, .int (Int32.ofInt cf)), (2, .int (Int32.ofInt pr)), (3, .int (Int32.ofInt gg))] [] t := by
    intro n
    induction n with
    | zero =>
      intro t cf pr gg I F jjNW hi hm kx
      exact absurd hm (Nat.not_lt_zero _)
    | succ n ih =>
      intro t cf pr gg I F jjNW hi hm kx
      have b4001 : (1 : Int) ≤ iI t 89 ∧ iI t 89 ≤ 8 := I.1 89
      refine d_lift (fun k ws X h => z_load_n X (x := gg) (show cdA 266 4 = some (.iload_n 3, 1, 0, 0, 0) from rfl) (List.Mem.tail _ (List.Mem.tail _ (List.Mem.tail _ (List.Mem.head _)))) h) ?_
      refine d_lift (fun k ws X h => z_bipush X (show cdA 266 5 = some (.bipush 8, 2, 0, 0, 8) from rfl) h) ?_
      refine d_br (bo_ge _ _) bx_ge (fun k ws X h1 h2 => z_icmp_ge X (t := 206) (show cdA 266 7 = some (.if_icmp .ge 199, 3, 3, 0, 0) from rfl) (by decide) ⟨by first | exact oq_fa4e5087 hi.2.2.1.1 | omega, by first | exact oq_d3f5d874 hi.2.2.1.2 | omega⟩ (by decide) h1 h2) (fun g4002 => ?_) (fun g4002 => ?_)
      ·
        refine d_lvs (lv := [(0, .ref (A 179)), (1, .int (Int32.ofInt cf)), (2, .int (Int32.ofInt pr)), (3, .int (Int32.ofInt gg))]) (List.forall_mem_cons.mpr ⟨(List.Mem.head _), (List.forall_mem_cons.mpr ⟨(List.Mem.tail _ (List.Mem.head _)), (List.forall_mem_cons.mpr ⟨(List.Mem.tail _ (List.Mem.tail _ (List.Mem.head _))), (List.forall_mem_cons.mpr ⟨(List.Mem.tail _ (List.Mem.tail _ (List.Mem.tail _ (List.Mem.head _)))), (fun q h => absurd h List.not_mem_nil)⟩)⟩)⟩)⟩) ?_
        exact kx _ pr gg I F jjNW (by first | exact ⟨And.intro (hi.1.1) (hi.1.2), And.intro (hi.2.1.1) (hi.2.1.2), And.intro (hi.2.2.1.1) (hi.2.2.1.2), hi.2.2.2⟩ | omega)
      ·
        refine d_lift (fun k ws X h => z_const X (show cdA 266 10 = some (.iconst (-1), 1, 0, 0, 0) from rfl) h) ?_
        refine d_lift (fun k ws X h => z_store X (lv' := [(4, .int (Int32.ofInt (-1))), (0, .ref (A 179)), (1, .int (Int32.ofInt cf)), (2, .int (Int32.ofInt pr)), (3, .int (Int32.ofInt gg))]) (show cdA 266 11 = some (.istore 4, 2, 0, 0, 0) from rfl) (by decide) (fun _ h => h) h) ?_
        refine d_lift (fun k ws X h => z_const X (show cdA 266 13 = some (.iconst 0, 1, 0, 0, 0) from rfl) h) ?_
        refine d_lift (fun k ws X h => z_store X (lv' := [(5, .int (Int32.ofInt 0)), (4, .int (Int32.ofInt (-1))), (0, .ref (A 179)), (1, .int (Int32.ofInt cf)), (2, .int (Int32.ofInt pr)), (3, .int (Int32.ofInt gg))]) (show cdA 266 14 = some (.istore 5, 2, 0, 0, 0) from rfl) (by decide) (fun _ h => h) h) ?_
        refine d_lift (fun k ws X h => z_const X (show cdA 266 16 = some (.iconst 0, 1, 0, 0, 0) from rfl) h) ?_
        refine d_lift (fun k ws X h => z_store X (lv' := [(6, .int (Int32.ofInt 0)), (5, .int (Int32.ofInt 0)), (4, .int (Int32.ofInt (-1))), (0, .ref (A 179)), (1, .int (Int32.ofInt cf)), (2, .int (Int32.ofInt pr)), (3, .int (Int32.ofInt gg))]) (show cdA 266 17 = some (.istore 6, 2, 0, 0, 0) from rfl) (by decide) (fun _ h => h) h) ?_
        refine d_lvs (lv := [(0, .ref (A 179)), (1, .int (Int32.ofInt cf)), (2, .int (Int32.ofInt pr)), (3, .int (Int32.ofInt gg)), (4, .int (Int32.ofInt (-1))), (5, .int (Int32.ofInt 0)), (6, .int (Int32.ofInt 0))]) (List.forall_mem_cons.mpr ⟨(List.Mem.tail _ (List.Mem.tail _ (List.Mem.tail _ (List.Mem.head _)))), (List.forall_mem_cons.mpr ⟨(List.Mem.tail _ (List.Mem.tail _ (List.Mem.tail _ (List.Mem.tail _ (List.Mem.head _))))), (List.forall_mem_cons.mpr ⟨(List.Mem.tail _ (List.Mem.tail _ (List.Mem.tail _ (List.Mem.tail _ (List.Mem.tail _ (List.Mem.head _)))))), (List.forall_mem_cons.mpr ⟨(List.Mem.tail _ (List.Mem.tail _ (List.Mem.tail _ (List.Mem.tail _ (List.Mem.tail _ (List.Mem.tail _ (List.Mem.head _))))))), (List.forall_mem_cons.mpr ⟨(List.Mem.tail _ (List.Mem.tail _ (List.Mem.head _))), (List.forall_mem_cons.mpr ⟨(List.Mem.tail _ (List.Mem.head _)), (List.forall_mem_cons.mpr ⟨(List.Mem.head _), (fun q h => absurd h List.not_mem_nil)⟩)⟩)⟩)⟩)⟩)⟩)⟩) ?_
        refine d_mono (T' := TU T 230 0) (fun _ h => h) (TU_0 (by omega)) ?_
        refine L19 ((128 - 0 : Int).toNat + 1) t cf pr gg (-1) 0 0 I F jjNW (by first | exact ⟨And.intro (hi.1.1) (hi.1.2), And.intro (hi.2.1.1) (hi.2.1.2), And.intro (hi.2.2.1.1) (oq_78c639ed g4002), And.intro (by decide) (by decide), by decide, Or.inl (by decide), by decide, by decide, by decide, hi.2.2.2⟩ | omega) (Nat.lt_succ_self _) ?_
        intro s4003 x4004 Is4003 Fs4003 JNW_s4003 hs4003
        have b4005 : (1 : Int) ≤ iI s4003 89 ∧ iI s4003 89 ≤ 8 := Is4003.1 89
        refine d_mono (T' := TU T 230 128) (fun _ h => h) (TU_le (by omega)) ?_
        have hta4006 : ∀ a ∈ ([230, 228, 237, 229, 157, 158, 159] : List Nat), ∀ j, j < (bA a).2.2 → (TU T 230 128).2 a j := hta_g hta (by decide)
        refine d_lift (fun k ws X h => z_bipush X (show cdA 266 41 = some (.bipush 7, 2, 0, 0, 7) from rfl) h) ?_
        refine d_lift (fun k ws X h => z_store X (lv' := [(6, .int (Int32.ofInt 7)), (0, .ref (A 179)), (1, .int (Int32.ofInt cf)), (2, .int (Int32.ofInt pr)), (3, .int (Int32.ofInt gg)), (4, .int (Int32.ofInt (-1))), (5, .int (Int32.ofInt 0))]) (show cdA 266 43 = some (.istore 6, 2, 0, 0, 0) from rfl) (by decide) (fun _ h => h) h) ?_
        refine d_lvs (lv := [(0, .ref (A 179)), (1, .int (Int32.ofInt cf)), (2, .int (Int32.ofInt pr)), (3, .int (Int32.ofInt gg)), (4, .int (Int32.ofInt (-1))), (5, .int (Int32.ofInt 0)), (6, .int (Int32.ofInt 7))]) (List.forall_mem_cons.mpr ⟨(List.Mem.tail _ (List.Mem.head _)), (List.forall_mem_cons.mpr ⟨(List.Mem.tail _ (List.Mem.tail _ (List.Mem.head _))), (List.forall_mem_cons.mpr ⟨(List.Mem.tail _ (List.Mem.tail _ (List.Mem.tail _ (List.Mem.head _)))), (List.forall_mem_cons.mpr ⟨(List.Mem.tail _ (List.Mem.tail _ (List.Mem.tail _ (List.Mem.tail _ (List.Mem.head _))))), (List.forall_mem_cons.mpr ⟨(List.Mem.tail _ (List.Mem.tail _ (List.Mem.tail _ (List.Mem.tail _ (List.Mem.tail _ (List.Mem.head _)))))), (List.forall_mem_cons.mpr ⟨(List.Mem.tail _ (List.Mem.tail _ (List.Mem.tail _ (List.Mem.tail _ (List.Mem.tail _ (List.Mem.tail _ (List.Mem.head _))))))), (List.forall_mem_cons.mpr ⟨(List.Mem.head _), (fun q h => absurd h List.not_mem_nil)⟩)⟩)⟩)⟩)⟩)⟩)⟩) ?_
        refine L45 ((7 + 1 : Int).toNat + 1) s4003 cf pr gg (-1) 0 7 Is4003 Fs4003 JNW_s4003 (by first | exact ⟨And.intro (hs4003.1.1) (hs4003.1.2), And.intro (hs4003.2.1.1) (hs4003.2.1.2), And.intro (hs4003.2.2.1.1) (hs4003.2.2.1.2), And.intro (by decide) (by decide), by decide, hs4003.2.2.2.2.2.1, And.intro (by decide) (by decide), by decide, hs4003.2.2.2.2.2.2.2.2⟩ | omega) (Nat.lt_succ_self _) ?_
        intro s4007 x4008 x4009 x4010 Is4007 Fs4007 JNW_s4007 hs4007
        have b4011 : (1 : Int) ≤ iI s4007 89 ∧ iI s4007 89 ≤ 8 := Is4007.1 89
        have hta4012 : ∀ a ∈ ([230, 228, 237, 229, 157, 158, 159] : List Nat), ∀ j, j < (bA a).2.2 → (TU T 230 128).2 a j := hta_g hta (by decide)
        refine d_lift (fun k ws X h => z_load X (x := x4009) (show cdA 266 137 = some (.iload 5, 2, 0, 0, 0) from rfl) (List.Mem.tail _ (List.Mem.tail _ (List.Mem.tail _ (List.Mem.tail _ (List.Mem.tail _ (List.Mem.head _)))))) h) ?_
        refine d_br (bo_ne _ _) bx_ne (fun k ws X h1 h2 => z_if_ne X (t := 145) (show cdA 266 139 = some (.ifCond .ne 6, 3, 1, 0, 0) from rfl) (by decide) ⟨by first | exact oq_fa4e5087 hs4007.2.2.2.2.1 | omega, by first | exact oq_6d3b9c21 hs4007.2.2.2.2.2.2.2.1 hs4007.2.2.2.2.2.2.1.1 | omega⟩ h1 h2) (fun g4013 => ?_) (fun g4013 => ?_)
        ·
          refine d_lift (fun k ws X h => z_aload_n X (x := A 179) (show cdA 266 145 = some (.aload_n 0, 1, 0, 0, 0) from rfl) (List.Mem.head _) h) ?_
          refine d_lift (fun k ws X h => z_load X (x := x4009) (show cdA 266 146 = some (.iload 5, 2, 0, 0, 0) from rfl) (List.Mem.tail _ (List.Mem.tail _ (List.Mem.tail _ (List.Mem.tail _ (List.Mem.tail _ (List.Mem.head _)))))) h) ?_
          refine d_putI 179 (show cdA 266 148 = some (.putfield 26, 3, 12, 19, 0) from rfl) (by decide) rfl rfl (by decide) rfl rfl rfl (show 89 ∈ _ by decide) (show (1 : Int) ≤ x4009 ∧ x4009 ≤ 8 by first | exact ⟨oq_e4db2d1b g4013 hs4007.2.2.2.2.1, oq_2a65de14 hs4007.2.2.2.2.2.2.2.1 hs4007.2.2.2.2.2.2.1.1⟩ | omega) ⟨by first | exact oq_fa4e5087 hs4007.2.2.2.2.1 | omega, by first | exact oq_6d3b9c21 hs4007.2.2.2.2.2.2.2.1 hs4007.2.2.2.2.2.2.1.1 | omega⟩ ?_
          refine d_mono (T' := TU T 230 128) (fun _ h => Or.inr h) (fun _ _ h => h) ?_
          obtain ⟨s4014, hs4014⟩ : ∃ x0, x0 = uI s4007 89 (Int32.ofInt x4009) := ⟨_, rfl⟩
          rw [← hs4014]
          have Is4014 : Bd s4014 := by rw [hs4014]; exact bd_I Is4007 (show (1 : Int) ≤ x4009 ∧ x4009 ≤ 8 by first | exact ⟨oq_e4db2d1b g4013 hs4007.2.2.2.2.1, oq_2a65de14 hs4007.2.2.2.2.2.2.2.1 hs4007.2.2.2.2.2.2.1.1⟩ | omega) ⟨by first | exact oq_fa4e5087 hs4007.2.2.2.2.1 | omega, by first | exact oq_6d3b9c21 hs4007.2.2.2.2.2.2.2.1 hs4007.2.2.2.2.2.2.1.1 | omega⟩
          have Fs4014 := fm_I (x := Int32.ofInt x4009) Fs4007 (show 89 ∈ _ by decide)
          rw [← hs4014] at Fs4014
          have vs4014 : iI s4014 89 = x4009 := by rw [hs4014]; exact iI_u ⟨by first | exact oq_fa4e5087 hs4007.2.2.2.2.1 | omega, by first | exact oq_6d3b9c21 hs4007.2.2.2.2.2.2.2.1 hs4007.2.2.2.2.2.2.1.1 | omega⟩
          have fs4014 : Fm [89] [] s4007 s4014 := by rw [hs4014]; exact fm_I (fm_rf _ _ _) (show 89 ∈ _ by decide)
          have JNW_s4014 : NW s4014 := NW_fm fs4014 (by decide) JNW_s4007
          refine d_lift (fun k ws X h => z_aload_n X (x := A 179) (show cdA 266 151 = some (.aload_n 0, 1, 0, 0, 0) from rfl) (List.Mem.head _) h) ?_
          refine d_callV 179 (As := []) (st := []) (show cdA 266 152 = some (.invokevirtual 324, 3, 228, 0, 0) from rfl) rfl (by decide) rfl (d_load (T := TU T 230 128) G Is4014 JNW_s4014  (fun q h => hti q ((by decide : ∀ q ∈ ([90, 89, 85, 82] : List Nat), q ∈ ([90, 89, 85, 82, 84] : List Nat)) q h)) (fun a h => hta4012 a ((by decide : ∀ q ∈ ([230, 157, 158] : List Nat), q ∈ ([230, 228, 237, 229, 157, 158, 159] : List Nat)) a h)) (OKN_fm Fs4014 (by decide) (OKN_mono htn (fun _ _ h => (Or.inr (h)))))) ⟨rfl, rfl⟩ ⟨(show 36 + 1 ≤ 61 from oq_840a72cf), (show 8 + (mNL (miB 228) + 11) + 1558 ≤ 2659 from oq_63c40a27)⟩ (Nat.le_of_ble_eq_true rfl) (by decide) (by decide) (fun ee s4015 hq => ?_) (fun vv s4015 hq => ?_)
          · obtain ⟨Is4015, Fs4015, JNW_s4015, e4016, hv, hrs4015, hps4015⟩ := hq; cases hv
          obtain ⟨Is4015, Fs4015, JNW_s4015, e4016, hv, hrs4015, hps4015⟩ := hq
          cases hv
          have hta4017 : ∀ a ∈ ([161, 230, 228, 237, 229, 157, 158, 159] : List Nat), ∀ j, j < (bA a).2.2 → (TU (TU T 230 128) 161 7).2 a j := hta_g hta4012 (by decide)
          have Gs4015 := fm_ts Fs4014 Fs4015 (by decide) (by decide)
          have JNW_s4015 : NW s4015 := NW_fm Fs4015 (by decide) JNW_s4014
          have ws4015_89 : iI s4015 89 = iI s4014 89 := fm_i Fs4015 (by decide)
          show DS l s0 D A dT 266 (rmN 266) [77, 75, 78, 79, 80, 81, 89] [161, 230] (T) Q (TU (TU T 230 128) 161 7) 155 [(0, .ref (A 179)), (1, .int (Int32.ofInt cf)), (2, .int (Int32.ofInt pr)), (3, .int (Int32.ofInt gg)), (4, .int (Int32.ofInt x4008)), (5, .int (Int32.ofInt x4009)), (6, .int (Int32.ofInt x4010))] [.int (Int32.ofInt e4016)] s4015
          refine d_lift (fun k ws X h => z_aload_n X (x := A 179) (show cdA 266 155 = some (.aload_n 0, 1, 0, 0, 0) from rfl) (List.Mem.head _) h) ?_
          refine d_liftS (fun k s X h => s_getR X 179 (show cdA 266 156 = some (.getfield 73, 3, 12, 36, 0) from rfl) (by decide) rfl rfl h) ?_
          refine d_lift (fun k ws X h => z_load X (x := x4008) (show cdA 266 159 = some (.iload 4, 2, 0, 0, 0) from rfl) (List.Mem.tail _ (List.Mem.tail _ (List.Mem.tail _ (List.Mem.tail _ (List.Mem.head _))))) h) ?_
          refine d_ald 257 (show cdA 266 161 = some (.iaload, 1, 0, 0, 0) from rfl) (by decide) rfl (by first | exact oq_62f1e318 g4013 hs4007.2.2.2.2.2.1 hs4007.2.2.2.2.1 | omega) (show x4008 < 8 by first | exact oq_aaea290e hs4007.2.2.2.1.2 | omega) (by decide) (hta4017 229 (by decide) _ (show (x4008).toNat < 8 by first | exact oq_c19a3aae hs4007.2.2.2.1.2 | omega)) ?_
          have b4018 : (0 : Int) ≤ iC s4015 229 (x4008).toNat ∧ iC s4015 229 (x4008).toNat ≤ 9999 := Is4015.2 229 _ (show (x4008).toNat < 8 by first | exact oq_c19a3aae hs4007.2.2.2.1.2 | omega)
          refine d_br (bo_gt _ _) bx_gt (fun k ws X h1 h2 => z_icmp_gt X (t := 182) (show cdA 266 162 = some (.if_icmp .gt 20, 3, 4, 0, 0) from rfl) (by decide) hrs4015 (rng_to _) h1 h2) (fun g4019 => ?_) (fun g4019 => ?_)
          ·
            refine d_lift (fun k ws X h => z_const X (show cdA 266 182 = some (.iconst 0, 1, 0, 0, 0) from rfl) h) ?_
            refine d_lift (fun k ws X h => z_store X (lv' := [(6, .int (Int32.ofInt 0)), (0, .ref (A 179)), (1, .int (Int32.ofInt cf)), (2, .int (Int32.ofInt pr)), (3, .int (Int32.ofInt gg)), (4, .int (Int32.ofInt x4008)), (5, .int (Int32.ofInt x4009))]) (show cdA 266 183 = some (.istore 6, 2, 0, 0, 0) from rfl) (by decide) (fun _ h => h) h) ?_
            refine d_lift (fun k ws X h => z_aload_n X (x := A 179) (show cdA 266 185 = some (.aload_n 0, 1, 0, 0, 0) from rfl) (List.Mem.tail _ (List.Mem.head _)) h) ?_
            refine d_lift (fun k ws X h => z_const X (show cdA 266 186 = some (.iconst 1, 1, 0, 0, 0) from rfl) h) ?_
            refine d_putI 179 (show cdA 266 187 = some (.putfield 26, 3, 12, 19, 0) from rfl) (by decide) rfl rfl (by decide) rfl rfl rfl (show 89 ∈ _ by decide) (show (1 : Int) ≤ 1 ∧ 1 ≤ 8 by first | exact ⟨by decide, by decide⟩ | omega) (by decide) ?_
            refine d_mono (T' := TU (TU T 230 128) 161 7) (fun _ h => Or.inr h) (fun _ _ h => h) ?_
            obtain ⟨s4020, hs4020⟩ : ∃ x0, x0 = uI s4015 89 (Int32.ofInt 1) := ⟨_, rfl⟩
            rw [← hs4020]
            have Is4020 : Bd s4020 := by rw [hs4020]; exact bd_I Is4015 (show (1 : Int) ≤ 1 ∧ 1 ≤ 8 by first | exact ⟨by decide, by decide⟩ | omega) (by decide)
            have Fs4020 := fm_I (x := Int32.ofInt 1) Gs4015 (show 89 ∈ _ by decide)
            rw [← hs4020] at Fs4020
            have vs4020 : iI s4020 89 = 1 := by rw [hs4020]; exact iI_u (by decide)
            have fs4020 : Fm [89] [] s4015 s4020 := by rw [hs4020]; exact fm_I (fm_rf _ _ _) (show 89 ∈ _ by decide)
            have JNW_s4020 : NW s4020 := NW_fm fs4020 (by decide) JNW_s4015
            refine d_lift (fun k ws X h => z_load X (x := 0) (show cdA 266 190 = some (.iload 6, 2, 0, 0, 0) from rfl) (List.Mem.head _) h) ?_
            refine d_br (bo_ne _ _) bx_ne (fun k ws X h1 h2 => z_if_ne X (t := 197) (show cdA 266 192 = some (.ifCond .ne 5, 3, 1, 0, 0) from rfl) (by decide) (by decide) h1 h2) (fun g4021 => ?_) (fun g4021 => ?_)
            ·
              refine d_lift (fun k ws X h => z_inc X (x := pr) (lv' := [(2, .int (Int32.ofInt (pr + 1))), (6, .int (Int32.ofInt 0)), (0, .ref (A 179)), (1, .int (Int32.ofInt cf)), (3, .int (Int32.ofInt gg)), (4, .int (Int32.ofInt x4008)), (5, .int (Int32.ofInt x4009))]) (show cdA 266 197 = some (.iinc 2 1, 3, 0, 0, 0) from rfl) (by decide) (List.Mem.tail _ (List.Mem.tail _ (List.Mem.tail _ (List.Mem.head _)))) (fun _ h => h) h) ?_
              refine d_lift (fun k ws X h => z_inc X (x := gg) (lv' := [(3, .int (Int32.ofInt (gg + 1))), (2, .int (Int32.ofInt (pr + 1))), (6, .int (Int32.ofInt 0)), (0, .ref (A 179)), (1, .int (Int32.ofInt cf)), (4, .int (Int32.ofInt x4008)), (5, .int (Int32.ofInt x4009))]) (show cdA 266 200 = some (.iinc 3 1, 3, 0, 0, 0) from rfl) (by decide) (List.Mem.tail _ (List.Mem.tail _ (List.Mem.tail _ (List.Mem.tail _ (List.Mem.head _))))) (fun _ h => h) h) ?_
              refine d_lift (fun k ws X h => z_goto X (t := 4) (show cdA 266 203 = some (.goto (-199), 3, 0, 0, 0) from rfl) (by decide) h) ?_
              refine d_lvs (lv := [(0, .ref (A 179)), (1, .int (Int32.ofInt cf)), (2, .int (Int32.ofInt (pr + 1))), (3, .int (Int32.ofInt (gg + 1)))]) (List.forall_mem_cons.mpr ⟨(List.Mem.tail _ (List.Mem.tail _ (List.Mem.tail _ (List.Mem.head _)))), (List.forall_mem_cons.mpr ⟨(List.Mem.tail _ (List.Mem.tail _ (List.Mem.tail _ (List.Mem.tail _ (List.Mem.head _))))), (List.forall_mem_cons.mpr ⟨(List.Mem.tail _ (List.Mem.head _)), (List.forall_mem_cons.mpr ⟨(List.Mem.head _), (fun q h => absurd h List.not_mem_nil)⟩)⟩)⟩)⟩) ?_
              refine d_mono (T' := T) (fun _ h => h) (fun _ _ h => Or.inr (Or.inr (h))) ?_
              exact ih _ cf (pr + 1) (gg + 1) Is4020 Fs4020 JNW_s4020 (by first | exact ⟨And.intro (hs4007.1.1) (hs4007.1.2), And.intro (oq_54f49eb5 hs4007.2.1.1) (oq_8d48a029 hs4007.2.1.2), And.intro (oq_54f49eb5 hs4007.2.2.1.1) (oq_18969492 hs4007.2.2.1.2), oq_efffca1e g4021⟩ | omega) (by first | exact qk_me hm (by decide) (oq_6bd25173 hs4007.2.2.1.2) | omega) kx
            ·
              refine d_lift (fun k ws X h => z_const X (show cdA 266 195 = some (.iconst (-1), 1, 0, 0, 0) from rfl) h) ?_
              exact d_iret rfl rfl (Or.inl rfl) (show cdA 266 196 = some (.ireturn, 1, 0, 0, 0) from rfl) (fun _ h => AGr_mono h (fun _ h => h) (fun _ _ h => Or.inr (Or.inr (h)))) (hQ _ _ ⟨Is4020, Fs4020, JNW_s4020, (-1), rfl, (by decide), by first | exact ⟨by decide, by decide, oq_ffb8fa02 vs4020⟩ | omega⟩)
          ·
            refine d_lift (fun k ws X h => z_load X (x := x4009) (show cdA 266 165 = some (.iload 5, 2, 0, 0, 0) from rfl) (List.Mem.tail _ (List.Mem.tail _ (List.Mem.tail _ (List.Mem.tail _ (List.Mem.tail _ (List.Mem.head _)))))) h) ?_
            refine d_lift (fun k ws X h => z_const X (show cdA 266 167 = some (.iconst 1, 1, 0, 0, 0) from rfl) h) ?_
            refine d_br (bo_eq _ _) bx_eq (fun k ws X h1 h2 => z_icmp_eq X (t := 178) (show cdA 266 168 = some (.if_icmp .eq 10, 3, 0, 0, 0) from rfl) (by decide) ⟨by first | exact oq_fa4e5087 hs4007.2.2.2.2.1 | omega, by first | exact oq_6d3b9c21 hs4007.2.2.2.2.2.2.2.1 hs4007.2.2.2.2.2.2.1.1 | omega⟩ (by decide) h1 h2) (fun g4022 => ?_) (fun g4022 => ?_)
            ·
              refine d_lift (fun k ws X h => z_const X (show cdA 266 178 = some (.iconst 1, 1, 0, 0, 0) from rfl) h) ?_
              refine d_lift (fun k ws X h => z_goto X (t := 183) (show cdA 266 179 = some (.goto 4, 3, 0, 0, 0) from rfl) (by decide) h) ?_
              refine d_lift (fun k ws X h => z_store X (lv' := [(6, .int (Int32.ofInt 1)), (0, .ref (A 179)), (1, .int (Int32.ofInt cf)), (2, .int (Int32.ofInt pr)), (3, .int (Int32.ofInt gg)), (4, .int (Int32.ofInt x4008)), (5, .int (Int32.ofInt x4009))]) (show cdA 266 183 = some (.istore 6, 2, 0, 0, 0) from rfl) (by decide) (fun _ h => h) h) ?_
              refine d_lift (fun k ws X h => z_aload_n X (x := A 179) (show cdA 266 185 = some (.aload_n 0, 1, 0, 0, 0) from rfl) (List.Mem.tail _ (List.Mem.head _)) h) ?_
              refine d_lift (fun k ws X h => z_const X (show cdA 266 186 = some (.iconst 1, 1, 0, 0, 0) from rfl) h) ?_
              refine d_putI 179 (show cdA 266 187 = some (.putfield 26, 3, 12, 19, 0) from rfl) (by decide) rfl rfl (by decide) rfl rfl rfl (show 89 ∈ _ by decide) (show (1 : Int) ≤ 1 ∧ 1 ≤ 8 by first | exact ⟨by decide, by decide⟩ | omega) (by decide) ?_
              refine d_mono (T' := TU (TU T 230 128) 161 7) (fun _ h => Or.inr h) (fun _ _ h => h) ?_
              obtain ⟨s4023, hs4023⟩ : ∃ x0, x0 = uI s4015 89 (Int32.ofInt 1) := ⟨_, rfl⟩
              rw [← hs4023]
              have Is4023 : Bd s4023 := by rw [hs4023]; exact bd_I Is4015 (show (1 : Int) ≤ 1 ∧ 1 ≤ 8 by first | exact ⟨by decide, by decide⟩ | omega) (by decide)
              have Fs4023 := fm_I (x := Int32.ofInt 1) Gs4015 (show 89 ∈ _ by decide)
              rw [← hs4023] at Fs4023
              have vs4023 : iI s4023 89 = 1 := by rw [hs4023]; exact iI_u (by decide)
              have fs4023 : Fm [89] [] s4015 s4023 := by rw [hs4023]; exact fm_I (fm_rf _ _ _) (show 89 ∈ _ by decide)
              have JNW_s4023 : NW s4023 := NW_fm fs4023 (by decide) JNW_s4015
              refine d_lift (fun k ws X h => z_load X (x := 1) (show cdA 266 190 = some (.iload 6, 2, 0, 0, 0) from rfl) (List.Mem.head _) h) ?_
              refine d_br (bo_ne _ _) bx_ne (fun k ws X h1 h2 => z_if_ne X (t := 197) (show cdA 266 192 = some (.ifCond .ne 5, 3, 1, 0, 0) from rfl) (by decide) (by decide) h1 h2) (fun g4024 => ?_) (fun g4024 => ?_)
              ·
                refine d_lift (fun k ws X h => z_inc X (x := pr) (lv' := [(2, .int (Int32.ofInt (pr + 1))), (6, .int (Int32.ofInt 1)), (0, .ref (A 179)), (1, .int (Int32.ofInt cf)), (3, .int (Int32.ofInt gg)), (4, .int (Int32.ofInt x4008)), (5, .int (Int32.ofInt x4009))]) (show cdA 266 197 = some (.iinc 2 1, 3, 0, 0, 0) from rfl) (by decide) (List.Mem.tail _ (List.Mem.tail _ (List.Mem.tail _ (List.Mem.head _)))) (fun _ h => h) h) ?_
                refine d_lift (fun k ws X h => z_inc X (x := gg) (lv' := [(3, .int (Int32.ofInt (gg + 1))), (2, .int (Int32.ofInt (pr + 1))), (6, .int (Int32.ofInt 1)), (0, .ref (A 179)), (1, .int (Int32.ofInt cf)), (4, .int (Int32.ofInt x4008)), (5, .int (Int32.ofInt x4009))]) (show cdA 266 200 = some (.iinc 3 1, 3, 0, 0, 0) from rfl) (by decide) (List.Mem.tail _ (List.Mem.tail _ (List.Mem.tail _ (List.Mem.tail _ (List.Mem.head _))))) (fun _ h => h) h) ?_
                refine d_lift (fun k ws X h => z_goto X (t := 4) (show cdA 266 203 = some (.goto (-199), 3, 0, 0, 0) from rfl) (by decide) h) ?_
                refine d_lvs (lv := [(0, .ref (A 179)), (1, .int (Int32.ofInt cf)), (2, .int (Int32.ofInt (pr + 1))), (3, .int (Int32.ofInt (gg + 1)))]) (List.forall_mem_cons.mpr ⟨(List.Mem.tail _ (List.Mem.tail _ (List.Mem.tail _ (List.Mem.head _)))), (List.forall_mem_cons.mpr ⟨(List.Mem.tail _ (List.Mem.tail _ (List.Mem.tail _ (List.Mem.tail _ (List.Mem.head _))))), (List.forall_mem_cons.mpr ⟨(List.Mem.tail _ (List.Mem.head _)), (List.forall_mem_cons.mpr ⟨(List.Mem.head _), (fun q h => absurd h List.not_mem_nil)⟩)⟩)⟩)⟩) ?_
                refine d_mono (T' := T) (fun _ h => h) (fun _ _ h => Or.inr (Or.inr (h))) ?_
                exact ih _ cf (pr + 1) (gg + 1) Is4023 Fs4023 JNW_s4023 (by first | exact ⟨And.intro (hs4007.1.1) (hs4007.1.2), And.intro (oq_54f49eb5 hs4007.2.1.1) (oq_8d48a029 hs4007.2.1.2), And.intro (oq_54f49eb5 hs4007.2.2.1.1) (oq_18969492 hs4007.2.2.1.2), oq_ffb8fa02 vs4023⟩ | omega) (by first | exact qk_me hm (by decide) (oq_6bd25173 hs4007.2.2.1.2) | omega) kx
              ·
                refine d_lift (fun k ws X h => z_const X (show cdA 266 195 = some (.iconst (-1), 1, 0, 0, 0) from rfl) h) ?_
                exact d_iret rfl rfl (Or.inl rfl) (show cdA 266 196 = some (.ireturn, 1, 0, 0, 0) from rfl) (fun _ h => AGr_mono h (fun _ h => h) (fun _ _ h => Or.inr (Or.inr (h)))) (hQ _ _ ⟨Is4023, Fs4023, JNW_s4023, (-1), rfl, (by decide), by first | exact ⟨by decide, by decide, oq_ffb8fa02 vs4023⟩ | omega⟩)
            ·
              refine d_lift (fun k ws X h => z_aload_n X (x := A 179) (show cdA 266 171 = some (.aload_n 0, 1, 0, 0, 0) from rfl) (List.Mem.head _) h) ?_
              refine d_callV 179 (As := []) (st := []) (show cdA 266 172 = some (.invokevirtual 410, 3, 229, 0, 0) from rfl) rfl (by decide) rfl (d_joinsHold (T := TU (TU T 230 128) 161 7) G Is4015  (fun q h => hti q ((by decide : ∀ q ∈ ([84, 82] : List Nat), q ∈ ([90, 89, 85, 82, 84] : List Nat)) q h)) (fun a h => hta4017 a ((by decide : ∀ q ∈ ([159, 157, 158, 161] : List Nat), q ∈ ([161, 230, 228, 237, 229, 157, 158, 159] : List Nat)) a h))) ⟨rfl, rfl⟩ ⟨(show 60 + 1 ≤ 61 from oq_d11633bd), (show 8 + (mNL (miB 229) + 11) + 2637 ≤ 2659 from oq_24016029)⟩ (Nat.le_of_ble_eq_true rfl) (by decide) (by decide) (fun ee s4025 hq => ?_) (fun vv s4025 hq => ?_)
              · obtain ⟨Is4025, Fs4025, e4026, hv, hrs4025, hps4025⟩ := hq; cases hv
              obtain ⟨Is4025, Fs4025, e4026, hv, hrs4025, hps4025⟩ := hq
              cases hv
              have Gs4025 := fm_ts Gs4015 Fs4025 (by decide) (by decide)
              have JNW_s4025 : NW s4025 := NW_fm Fs4025 (by decide) JNW_s4015
              have ws4025_89 : iI s4025 89 = iI s4015 89 := fm_i Fs4025 (by decide)
              show DS l s0 D A dT 266 (rmN 266) [77, 75, 78, 79, 80, 81, 89] [161, 230] (T) Q (TU (TU T 230 128) 161 7) 175 [(0, .ref (A 179)), (1, .int (Int32.ofInt cf)), (2, .int (Int32.ofInt pr)), (3, .int (Int32.ofInt gg)), (4, .int (Int32.ofInt x4008)), (5, .int (Int32.ofInt x4009)), (6, .int (Int32.ofInt x4010))] [.int (Int32.ofInt e4026)] s4025
              have N4027 : ∀ e4028 : Int, (((e4026 = 0) ∧ e4028 = 0) ∨ ((e4026 ≠ 0) ∧ e4028 = 1)) → DS l s0 D A dT 266 (rmN 266) [77, 75, 78, 79, 80, 81, 89] [161, 230] (T) Q (TU (TU T 230 128) 161 7) 183 [(0, .ref (A 179)), (1, .int (Int32.ofInt cf)), (2, .int (Int32.ofInt pr)), (3, .int (Int32.ofInt gg)), (4, .int (Int32.ofInt x4008)), (5, .int (Int32.ofInt x4009)), (6, .int (Int32.ofInt x4010))] [.int (Int32.ofInt e4028)] s4025 := by
                intro e4028 he4028
                have re4028 : 0 ≤ e4028 ∧ e4028 ≤ 1 := by omega
                refine d_lift (fun k ws X h => z_store X (lv' := [(6, .int (Int32.ofInt e4028)), (0, .ref (A 179)), (1, .int (Int32.ofInt cf)), (2, .int (Int32.ofInt pr)), (3, .int (Int32.ofInt gg)), (4, .int (Int32.ofInt x4008)), (5, .int (Int32.ofInt x4009))]) (show cdA 266 183 = some (.istore 6, 2, 0, 0, 0) from rfl) (by decide) (fun _ h => h) h) ?_
                refine d_lift (fun k ws X h => z_aload_n X (x := A 179) (show cdA 266 185 = some (.aload_n 0, 1, 0, 0, 0) from rfl) (List.Mem.tail _ (List.Mem.head _)) h) ?_
                refine d_lift (fun k ws X h => z_const X (show cdA 266 186 = some (.iconst 1, 1, 0, 0, 0) from rfl) h) ?_
                refine d_putI 179 (show cdA 266 187 = some (.putfield 26, 3, 12, 19, 0) from rfl) (by decide) rfl rfl (by decide) rfl rfl rfl (show 89 ∈ _ by decide) (show (1 : Int) ≤ 1 ∧ 1 ≤ 8 by first | exact ⟨by decide, by decide⟩ | omega) (by decide) ?_
                refine d_mono (T' := TU (TU T 230 128) 161 7) (fun _ h => Or.inr h) (fun _ _ h => h) ?_
                obtain ⟨s4029, hs4029⟩ : ∃ x0, x0 = uI s4025 89 (Int32.ofInt 1) := ⟨_, rfl⟩
                rw [← hs4029]
                have Is4029 : Bd s4029 := by rw [hs4029]; exact bd_I Is4025 (show (1 : Int) ≤ 1 ∧ 1 ≤ 8 by first | exact ⟨by decide, by decide⟩ | omega) (by decide)
                have Fs4029 := fm_I (x := Int32.ofInt 1) Gs4025 (show 89 ∈ _ by decide)
                rw [← hs4029] at Fs4029
                have vs4029 : iI s4029 89 = 1 := by rw [hs4029]; exact iI_u (by decide)
                have fs4029 : Fm [89] [] s4025 s4029 := by rw [hs4029]; exact fm_I (fm_rf _ _ _) (show 89 ∈ _ by decide)
                have JNW_s4029 : NW s4029 := NW_fm fs4029 (by decide) JNW_s4025
                refine d_lift (fun k ws X h => z_load X (x := e4028) (show cdA 266 190 = some (.iload 6, 2, 0, 0, 0) from rfl) (List.Mem.head _) h) ?_
                refine d_br (bo_ne _ _) bx_ne (fun k ws X h1 h2 => z_if_ne X (t := 197) (show cdA 266 192 = some (.ifCond .ne 5, 3, 1, 0, 0) from rfl) (by decide) ⟨by first | exact oq_fa4e5087 re4028.1 | omega, by first | exact oq_22e1e6b0 re4028.2 | omega⟩ h1 h2) (fun g4030 => ?_) (fun g4030 => ?_)
                ·
                  refine d_lift (fun k ws X h => z_inc X (x := pr) (lv' := [(2, .int (Int32.ofInt (pr + 1))), (6, .int (Int32.ofInt e4028)), (0, .ref (A 179)), (1, .int (Int32.ofInt cf)), (3, .int (Int32.ofInt gg)), (4, .int (Int32.ofInt x4008)), (5, .int (Int32.ofInt x4009))]) (show cdA 266 197 = some (.iinc 2 1, 3, 0, 0, 0) from rfl) (by decide) (List.Mem.tail _ (List.Mem.tail _ (List.Mem.tail _ (List.Mem.head _)))) (fun _ h => h) h) ?_
                  refine d_lift (fun k ws X h => z_inc X (x := gg) (lv' := [(3, .int (Int32.ofInt (gg + 1))), (2, .int (Int32.ofInt (pr + 1))), (6, .int (Int32.ofInt e4028)), (0, .ref (A 179)), (1, .int (Int32.ofInt cf)), (4, .int (Int32.ofInt x4008)), (5, .int (Int32.ofInt x4009))]) (show cdA 266 200 = some (.iinc 3 1, 3, 0, 0, 0) from rfl) (by decide) (List.Mem.tail _ (List.Mem.tail _ (List.Mem.tail _ (List.Mem.tail _ (List.Mem.head _))))) (fun _ h => h) h) ?_
                  refine d_lift (fun k ws X h => z_goto X (t := 4) (show cdA 266 203 = some (.goto (-199), 3, 0, 0, 0) from rfl) (by decide) h) ?_
                  refine d_lvs (lv := [(0, .ref (A 179)), (1, .int (Int32.ofInt cf)), (2, .int (Int32.ofInt (pr + 1))), (3, .int (Int32.ofInt (gg + 1)))]) (List.forall_mem_cons.mpr ⟨(List.Mem.tail _ (List.Mem.tail _ (List.Mem.tail _ (List.Mem.head _)))), (List.forall_mem_cons.mpr ⟨(List.Mem.tail _ (List.Mem.tail _ (List.Mem.tail _ (List.Mem.tail _ (List.Mem.head _))))), (List.forall_mem_cons.mpr ⟨(List.Mem.tail _ (List.Mem.head _)), (List.forall_mem_cons.mpr ⟨(List.Mem.head _), (fun q h => absurd h List.not_mem_nil)⟩)⟩)⟩)⟩) ?_
                  refine d_mono (T' := T) (fun _ h => h) (fun _ _ h => Or.inr (Or.inr (h))) ?_
                  exact ih _ cf (pr + 1) (gg + 1) Is4029 Fs4029 JNW_s4029 (by first | exact ⟨And.intro (hs4007.1.1) (hs4007.1.2), And.intro (oq_54f49eb5 hs4007.2.1.1) (oq_8d48a029 hs4007.2.1.2), And.intro (oq_54f49eb5 hs4007.2.2.1.1) (oq_18969492 hs4007.2.2.1.2), oq_ffb8fa02 vs4029⟩ | omega) (by first | exact qk_me hm (by decide) (oq_6bd25173 hs4007.2.2.1.2) | omega) kx
                ·
                  refine d_lift (fun k ws X h => z_const X (show cdA 266 195 = some (.iconst (-1), 1, 0, 0, 0) from rfl) h) ?_
                  exact d_iret rfl rfl (Or.inl rfl) (show cdA 266 196 = some (.ireturn, 1, 0, 0, 0) from rfl) (fun _ h => AGr_mono h (fun _ h => h) (fun _ _ h => Or.inr (Or.inr (h)))) (hQ _ _ ⟨Is4029, Fs4029, JNW_s4029, (-1), rfl, (by decide), by first | exact ⟨by decide, by decide, oq_ffb8fa02 vs4029⟩ | omega⟩)
              refine d_br (bo_eq _ _) bx_eq (fun k ws X h1 h2 => z_if_eq X (t := 182) (show cdA 266 175 = some (.ifCond .eq 7, 3, 0, 0, 0) from rfl) (by decide) hrs4025 h1 h2) (fun g4031 => ?_) (fun g4031 => ?_)
              ·
                refine d_lift (fun k ws X h => z_const X (show cdA 266 182 = some (.iconst 0, 1, 0, 0, 0) from rfl) h) ?_
                exact N4027 _ (Or.inl ⟨g4031, rfl⟩)
              ·
                refine d_lift (fun k ws X h => z_const X (show cdA 266 178 = some (.iconst 1, 1, 0, 0, 0) from rfl) h) ?_
                refine d_lift (fun k ws X h => z_goto X (t := 183) (show cdA 266 179 = some (.goto 4, 3, 0, 0, 0) from rfl) (by decide) h) ?_
                exact N4027 _ (Or.inr (⟨g4031, rfl⟩))
        ·
          refine d_lift (fun k ws X h => z_goto X (t := 200) (show cdA 266 142 = some (.goto 58, 3, 0, 0, 0) from rfl) (by decide) h) ?_
          refine d_lift (fun k ws X h => z_inc X (x := gg) (lv' := [(3, .int (Int32.ofInt (gg + 1))), (0, .ref (A 179)), (1, .int (Int32.ofInt cf)), (2, .int (Int32.ofInt pr)), (4, .int (Int32.ofInt x4008)), (5, .int (Int32.ofInt x4009)), (6, .int (Int32.ofInt x4010))]) (show cdA 266 200 = some (.iinc 3 1, 3, 0, 0, 0) from rfl) (by decide) (List.Mem.tail _ (List.Mem.tail _ (List.Mem.tail _ (List.Mem.head _)))) (fun _ h => h) h) ?_
          refine d_lift (fun k ws X h => z_goto X (t := 4) (show cdA 266 203 = some (.goto (-199), 3, 0, 0, 0) from rfl) (by decide) h) ?_
          refine d_lvs (lv := [(0, .ref (A 179)), (1, .int (Int32.ofInt cf)), (2, .int (Int32.ofInt pr)), (3, .int (Int32.ofInt (gg + 1)))]) (List.forall_mem_cons.mpr ⟨(List.Mem.tail _ (List.Mem.head _)), (List.forall_mem_cons.mpr ⟨(List.Mem.tail _ (List.Mem.tail _ (List.Mem.head _))), (List.forall_mem_cons.mpr ⟨(List.Mem.tail _ (List.Mem.tail _ (List.Mem.tail _ (List.Mem.head _)))), (List.forall_mem_cons.mpr ⟨(List.Mem.head _), (fun q h => absurd h List.not_mem_nil)⟩)⟩)⟩)⟩) ?_
          refine d_mono (T' := T) (fun _ h => h) (fun _ _ h => Or.inr (h)) ?_
          exact ih _ cf pr (gg + 1) Is4007 Fs4007 JNW_s4007 (by first | exact ⟨And.intro (hs4007.1.1) (hs4007.1.2), And.intro (hs4007.2.1.1) (oq_03182e9e hs4007.2.1.2), And.intro (oq_54f49eb5 hs4007.2.2.1.1) (oq_18969492 hs4007.2.2.1.2), hs4007.2.2.2.2.2.2.2.2⟩ | omega) (by first | exact qk_me hm (by decide) (oq_6bd25173 hs4007.2.2.1.2) | omega) kx
  refine d_lift (fun k ws X h => z_const X (show cdA 266 0 = some (.iconst 0, 1, 0, 0, 0) from rfl) h) ?_
  refine d_lift (fun k ws X h => z_store_n X (lv' := [(2, .int (Int32.ofInt 0)), (0, .ref (A 179)), (1, .int (Int32.ofInt x))]) (show cdA 266 1 = some (.istore_n 2, 1, 0, 0, 0) from rfl) (by decide) (fun _ h => h) h) ?_
  refine d_lift (fun k ws X h => z_const X (show cdA 266 2 = some (.iconst 0, 1, 0, 0, 0) from rfl) h) ?_
  refine d_lift (fun k ws X h => z_store_n X (lv' := [(3, .int (Int32.ofInt 0)), (2, .int (Int32.ofInt 0)), (0, .ref (A 179)), (1, .int (Int32.ofInt x))]) (show cdA 266 3 = some (.istore_n 3, 1, 0, 0, 0) from rfl) (by decide) (fun _ h => h) h) ?_
  refine d_lvs (lv := [(0, .ref (A 179)), (1, .int (Int32.ofInt x)), (2, .int (Int32.ofInt 0)), (3, .int (Int32.ofInt 0))]) (List.forall_mem_cons.mpr ⟨(List.Mem.tail _ (List.Mem.tail _ (List.Mem.head _))), (List.forall_mem_cons.mpr ⟨(List.Mem.tail _ (List.Mem.tail _ (List.Mem.tail _ (List.Mem.head _)))), (List.forall_mem_cons.mpr ⟨(List.Mem.tail _ (List.Mem.head _)), (List.forall_mem_cons.mpr ⟨(List.Mem.head _), (fun q h => absurd h List.not_mem_nil)⟩)⟩)⟩)⟩) ?_
  refine L4 ((8 - 0 : Int).toNat + 1) s x 0 0 I F jNW (by first | exact ⟨And.intro (p0.1) (p0.2), And.intro (by decide) (by decide), And.intro (by decide) (by decide), oq_bc5d639d b1.1⟩ | omega) (Nat.lt_succ_self _) ?_
  intro s2 x3 x4 Is2 Fs2 JNW_s2 hs2
  have b5 : (1 : Int) ≤ iI s2 89 ∧ iI s2 89 ≤ 8 := Is2.1 89
  refine d_lift (fun k ws X h => z_load_n X (x := x3) (show cdA 266 206 = some (.iload_n 2, 1, 0, 0, 0) from rfl) (List.Mem.tail _ (List.Mem.tail _ (List.Mem.head _))) h) ?_
  exact d_iret rfl rfl (Or.inl rfl) (show cdA 266 207 = some (.ireturn, 1, 0, 0, 0) from rfl) (fun _ h => h) (hQ _ _ ⟨Is2, Fs2, JNW_s2, x3, rfl, ⟨by first | exact oq_fa4e5087 hs2.2.1.1 | omega, by first | exact oq_b5dbaaed hs2.2.1.2 hs2.2.2.1.2 | omega⟩, by first | exact ⟨oq_ca54ea22 hs2.2.1.1, oq_fe8b3247 hs2.2.1.2 hs2.2.2.1.2, hs2.2.2.2⟩ | omega⟩)
set_option maxHeartbeats 16000000 in
theorem d_isBusy (G : GX l s0 D tys a0 dT) (I : Bd s) (jRLx : RLx s) {x : Int} (p0 : 0 ≤ x ∧ x ≤ 23) {T : TT} (hti : ∀ q ∈ ([90, 89, 85, 82, 96] : List Nat), T.1 q) (hta : ∀ a ∈ ([162, 163, 164, 228, 157, 158] : List Nat), ∀ j, j < (bA a).2.2 → T.2 a j) (how : OKW T) : CD l s0 D A dT 269 (rmN 269) [77, 75, 78, 79, 80, 81] [161, 230, 202, 204, 205, 206, 207, 208, 209, 210, 211, 212, 213, 214, 215, 216, 217, 218, 219, 220, 221, 222, 223, 224, 225, 226, 227, 203] T (T) [.ref (A 179), .int (Int32.ofInt x)] s (fun o t => Bd t ∧ Fm [77, 75, 78, 79, 80, 81] [161, 230, 202, 204, 205, 206, 207, 208, 209, 210, 211, 212, 213, 214, 215, 216, 217, 218, 219, 220, 221, 222, 223, 224, 225, 226, 227, 203] s t ∧ RLx t ∧ ∃ e, o = .inl (some (.int (Int32.ofInt e))) ∧ rng e ∧ (e = 0 ∨ e = 1)) := by
  refine cd_of G (by decide) (Nat.le_of_ble_eq_true rfl) (fun Q hQ => ?_)
  have I0 := I
  show DS l s0 D A dT 269 (rmN 269) [77, 75, 78, 79, 80, 81] [161, 230, 202, 204, 205, 206, 207, 208, 209, 210, 211, 212, 213, 214, 215, 216, 217, 218, 219, 220, 221, 222, 223, 224, 225, 226, 227, 203] (T) Q (T) 0 [(0, .ref (A 179)), (1, .int (Int32.ofInt x))] [] s
  have F : Fm [77, 75, 78, 79, 80, 81] [161, 230, 202, 204, 205, 206, 207, 208, 209, 210, 211, 212, 213, 214, 215, 216, 217, 218, 219, 220, 221, 222, 223, 224, 225, 226, 227, 203] s s := fm_rf _ _ s
  have L9 : ∀ (n : Nat) (t : PS) (qq nn p : Int), Bd t → Fm [77, 75, 78, 79, 80, 81] [161, 230, 202, 204, 205, 206, 207, 208, 209, 210, 211, 212, 213, 214, 215, 216, 217, 218, 219, 220, 221, 222, 223, 224, 225, 226, 227, 203] s t → RLx t → (NQ t) → (rng nn ∧ 0 ≤ p ∧ p ≤ 8) → (8 - p : Int).toNat < n → (∀ (t' : PS) (nn' p' : Int), Bd t' → Fm [77, 75, 78, 79, 80, 81] [161, 230, 202, 204, 205, 206, 207, 208, 209, 210, 211, 212, 213, 214, 215, 216, 217, 218, 219, 220, 221, 222, 223, 224, 225, 226, 227, 203] s t' → RLx t' → (NQ t') → (rng nn' ∧ 0 ≤ p' ∧ p' ≤ 8) → DS l s0 D A dT 269 (rmN 269) [77, 75, 78, 79, 80, 81] [161, 230, 202, 204, 205, 206, 207, 208, 209, 210, 211, 212, 213, 214, 215, 216, 217, 218, 219, 220, 221, 222, 223, 224, 225, 226, 227, 203] (T) Q (TU (TN T s) 203 (iI s 90)) 44 [(0, .ref (A 179)), (1, .int (Int32.ofInt qq)), (2, .int (Int32.ofInt nn')), (3, .int (Int32.ofInt p'))] [] t') → DS l s0 D A dT 269 (rmN 269) [77, 75, 78, 79, 80, 81] [161, 230, 202, 204, 205, 206, 207, 208, 209, 210, 211, 212, 213, 214, 215, 216, 217, 218, 219, 220, 221, 222, 223, 224, 225, 226, 227, 203] (T) Q (TU (TN T s) 203 (iI s 90)) 9 [(0, .ref (A 179)), (1, .int (Int32.ofInt qq)), (2, .int (Int32.ofInt nn)), (3, .int (Int32.ofInt p))] [] t := by
    intro n
    induction n with
    | zero =>
      intro t qq nn p I F jjRLx hq hi hm kx
      exact absurd hm (Nat.not_lt_zero _)
    | succ n ih =>
      intro t qq nn p I F jjRLx hq hi hm kx
      have hta1001 : ∀ a ∈ ([162, 163, 164, 228, 157, 158] : List Nat), ∀ j, j < (bA a).2.2 → (TU (TN T s) 203 (iI s 90)).2 a j := fun a h j hj => Or.inr (Or.inr (hta a h j hj))
      refine d_lift (fun k ws X h => z_load_n X (x := p) (show cdA 269 9 = some (.iload_n 3, 1, 0, 0, 0) from rfl) (List.Mem.tail _ (List.Mem.tail _ (List.Mem.tail _ (List.Mem.head _)))) h) ?_
      refine d_lift (fun k ws X h => z_bipush X (show cdA 269 10 = some (.bipush 8, 2, 0, 0, 8) from rfl) h) ?_
      refine d_br (bo_ge _ _) bx_ge (fun k ws X h1 h2 => z_icmp_ge X (t := 44) (show cdA 269 12 = some (.if_icmp .ge 32, 3, 3, 0, 0) from rfl) (by decide) ⟨by first | exact oq_fa4e5087 hi.2.1 | omega, by first | exact oq_d3f5d874 hi.2.2 | omega⟩ (by decide) h1 h2) (fun g1002 => ?_) (fun g1002 => ?_)
      ·
        refine d_lvs (lv := [(0, .ref (A 179)), (1, .int (Int32.ofInt qq)), (2, .int (Int32.ofInt nn)), (3, .int (Int32.ofInt p))]) (List.forall_mem_cons.mpr ⟨(List.Mem.head _), (List.forall_mem_cons.mpr ⟨(List.Mem.tail _ (List.Mem.head _)), (List.forall_mem_cons.mpr ⟨(List.Mem.tail _ (List.Mem.tail _ (List.Mem.head _))), (List.forall_mem_cons.mpr ⟨(List.Mem.tail _ (List.Mem.tail _ (List.Mem.tail _ (List.Mem.head _)))), (fun q h => absurd h List.not_mem_nil)⟩)⟩)⟩)⟩) ?_
        exact kx _ nn p I F jjRLx hq (by first | exact ⟨And.intro (hi.1.1) (hi.1.2), hi.2.1, hi.2.2⟩ | omega)
      ·
        refine d_lift (fun k ws X h => z_aload_n X (x := A 179) (show cdA 269 15 = some (.aload_n 0, 1, 0, 0, 0) from rfl) (List.Mem.head _) h) ?_
        refine d_lift (fun k ws X h => z_load_n X (x := p) (show cdA 269 16 = some (.iload_n 3, 1, 0, 0, 0) from rfl) (List.Mem.tail _ (List.Mem.tail _ (List.Mem.tail _ (List.Mem.head _)))) h) ?_
        refine d_callV 179 (As := [.int (Int32.ofInt p)]) (st := []) (show cdA 269 17 = some (.invokevirtual 351, 3, 233, 0, 0) from rfl) rfl (by decide) rfl (d_hasCells (T := TU (TN T s) 203 (iI s 90)) G I (by first | exact ⟨oq_fa4e5087 hi.2.1, oq_7bea7075 g1002⟩ | omega) (fun q h => hti q ((by decide : ∀ q ∈ ([] : List Nat), q ∈ ([90, 89, 85, 82, 96] : List Nat)) q h)) (fun a h => hta1001 a ((by decide : ∀ q ∈ ([228] : List Nat), q ∈ ([162, 163, 164, 228, 157, 158] : List Nat)) a h))) ⟨rfl, rfl⟩ ⟨(show 6 + 1 ≤ 37 from oq_fea0621c), (show 8 + (mNL (miB 233) + 11) + 100 ≤ 1578 from oq_45750a3c)⟩ (Nat.le_of_ble_eq_true rfl) (by decide) (by decide) (fun ee s1003 hq => ?_) (fun vv s1003 hq => ?_)
        · obtain ⟨Is1003, Fs1003, e1004, hv, hrs1003, hps1003⟩ := hq; cases hv
        obtain ⟨Is1003, Fs1003, e1004, hv, hrs1003, hps1003⟩ := hq
        cases hv
        have Gs1003 := fm_ts F Fs1003 (by decide) (by decide)
        have JRLx_s1003 : RLx s1003 := RLx_fm Fs1003 (by decide) jjRLx
        have JNQ_s1003 : NQ s1003 := NQ_fm Fs1003 (by decide) hq
        show DS l s0 D A dT 269 (rmN 269) [77, 75, 78, 79, 80, 81] [161, 230, 202, 204, 205, 206, 207, 208, 209, 210, 211, 212, 213, 214, 215, 216, 217, 218, 219, 220, 221, 222, 223, 224, 225, 226, 227, 203] (T) Q (TU (TN T s) 203 (iI s 90)) 20 [(0, .ref (A 179)), (1, .int (Int32.ofInt qq)), (2, .int (Int32.ofInt nn)), (3, .int (Int32.ofInt p))] [.int (Int32.ofInt e1004)] s1003
        refine d_br (bo_ne _ _) bx_ne (fun k ws X h1 h2 => z_if_ne X (t := 26) (show cdA 269 20 = some (.ifCond .ne 6, 3, 1, 0, 0) from rfl) (by decide) hrs1003 h1 h2) (fun g1005 => ?_) (fun g1005 => ?_)
        ·
          refine d_lift (fun k ws X h => z_aload_n X (x := A 179) (show cdA 269 26 = some (.aload_n 0, 1, 0, 0, 0) from rfl) (List.Mem.head _) h) ?_
          refine d_lift (fun k ws X h => z_load_n X (x := p) (show cdA 269 27 = some (.iload_n 3, 1, 0, 0, 0) from rfl) (List.Mem.tail _ (List.Mem.tail _ (List.Mem.tail _ (List.Mem.head _)))) h) ?_
          refine d_callV 179 (As := [.int (Int32.ofInt p)]) (st := []) (show cdA 269 28 = some (.invokevirtual 327, 3, 230, 0, 0) from rfl) rfl (by decide) rfl (d_setOf (T := TU (TN T s) 203 (iI s 90)) G Is1003 (by first | exact ⟨oq_fa4e5087 hi.2.1, oq_7bea7075 g1002⟩ | omega) (fun q h => hti q ((by decide : ∀ q ∈ ([] : List Nat), q ∈ ([90, 89, 85, 82, 96] : List Nat)) q h)) (fun a h => hta1001 a ((by decide : ∀ q ∈ ([228] : List Nat), q ∈ ([162, 163, 164, 228, 157, 158] : List Nat)) a h))) ⟨rfl, rfl⟩ ⟨(show 6 + 1 ≤ 37 from oq_fea0621c), (show 8 + (mNL (miB 230) + 11) + 100 ≤ 1578 from oq_45750a3c)⟩ (Nat.le_of_ble_eq_true rfl) (by decide) (by decide) (fun ee s1006 hq => ?_) (fun vv s1006 hq => ?_)
          · obtain ⟨Is1006, Fs1006, hv, hps1006⟩ := hq; cases hv
          obtain ⟨Is1006, Fs1006, hv, hps1006⟩ := hq
          cases hv
          have hta1008 : ∀ a ∈ ([230, 162, 163, 164, 228, 157, 158] : List Nat), ∀ j, j < (bA a).2.2 → (TU (TU (TN T s) 203 (iI s 90)) 230 128).2 a j := hta_g hta1001 (by decide)
          have Gs1006 := fm_ts Gs1003 Fs1006 (by decide) (by decide)
          have JRLx_s1006 : RLx s1006 := RLx_fm Fs1006 (by decide) JRLx_s1003
          have JNQ_s1006 : NQ s1006 := NQ_fm Fs1006 (by decide) JNQ_s1003
          show DS l s0 D A dT 269 (rmN 269) [77, 75, 78, 79, 80, 81] [161, 230, 202, 204, 205, 206, 207, 208, 209, 210, 211, 212, 213, 214, 215, 216, 217, 218, 219, 220, 221, 222, 223, 224, 225, 226, 227, 203] (T) Q (TU (TU (TN T s) 203 (iI s 90)) 230 128) 31 [(0, .ref (A 179)), (1, .int (Int32.ofInt qq)), (2, .int (Int32.ofInt nn)), (3, .int (Int32.ofInt p))] [] s1006
          refine d_lift (fun k ws X h => z_load_n X (x := nn) (show cdA 269 31 = some (.iload_n 2, 1, 0, 0, 0) from rfl) (List.Mem.tail _ (List.Mem.tail _ (List.Mem.head _))) h) ?_
          refine d_lift (fun k ws X h => z_aload_n X (x := A 179) (show cdA 269 32 = some (.aload_n 0, 1, 0, 0, 0) from rfl) (List.Mem.head _) h) ?_
          have JNW_s1006 : NW s1006 := NW_of JNQ_s1006 JRLx_s1006
          refine d_callV 179 (As := []) (st := [.int (Int32.ofInt nn)]) (show cdA 269 33 = some (.invokevirtual 324, 3, 228, 0, 0) from rfl) rfl (by decide) rfl (d_load (T := TU (TU (TN T s) 203 (iI s 90)) 230 128) G Is1006 JNW_s1006  (fun q h => hti q ((by decide : ∀ q ∈ ([90, 89, 85, 82] : List Nat), q ∈ ([90, 89, 85, 82, 96] : List Nat)) q h)) (fun a h => hta1008 a ((by decide : ∀ q ∈ ([230, 157, 158] : List Nat), q ∈ ([230, 162, 163, 164, 228, 157, 158] : List Nat)) a h)) (OKN_mono (OKN_as Gs1006 (by decide) I0 JNQ_s1006) (fun _ _ h => Or.inr (h)))) ⟨rfl, rfl⟩ ⟨(show 36 + 1 ≤ 37 from oq_fbdd2177), (show 8 + (mNL (miB 228) + 11) + 1558 ≤ 1578 from oq_a80d2f26)⟩ (Nat.le_of_ble_eq_true rfl) (by decide) (by decide) (fun ee s1009 hq => ?_) (fun vv s1009 hq => ?_)
          · obtain ⟨Is1009, Fs1009, JNW_s1009, e1010, hv, hrs1009, hps1009⟩ := hq; cases hv
          obtain ⟨Is1009, Fs1009, JNW_s1009, e1010, hv, hrs1009, hps1009⟩ := hq
          cases hv
          have hta1011 : ∀ a ∈ ([161, 230, 162, 163, 164, 228, 157, 158] : List Nat), ∀ j, j < (bA a).2.2 → (TU (TU (TU (TN T s) 203 (iI s 90)) 230 128) 161 7).2 a j := hta_g hta1008 (by decide)
          have Gs1009 := fm_ts Gs1006 Fs1009 (by decide) (by decide)
          have JRLx_s1009 : RLx s1009 := RLx_fm Fs1009 (by decide) JRLx_s1006
          have JNQ_s1009 : NQ s1009 := NQ_fm Fs1009 (by decide) JNQ_s1006
          have JNW_s1009 : NW s1009 := NW_fm Fs1009 (by decide) JNW_s1006
          show DS l s0 D A dT 269 (rmN 269) [77, 75, 78, 79, 80, 81] [161, 230, 202, 204, 205, 206, 207, 208, 209, 210, 211, 212, 213, 214, 215, 216, 217, 218, 219, 220, 221, 222, 223, 224, 225, 226, 227, 203] (T) Q (TU (TU (TU (TN T s) 203 (iI s 90)) 230 128) 161 7) 36 [(0, .ref (A 179)), (1, .int (Int32.ofInt qq)), (2, .int (Int32.ofInt nn)), (3, .int (Int32.ofInt p))] [.int (Int32.ofInt e1010), .int (Int32.ofInt nn)] s1009
          refine d_lift (fun k ws X h => z_add X (show cdA 269 36 = some (.iadd, 1, 0, 0, 0) from rfl) h) ?_
          refine d_any (fun y1012 hy1012 => ?_)
          refine d_lift (fun k ws X h => z_store_n X (lv' := [(2, .int (Int32.ofInt y1012)), (0, .ref (A 179)), (1, .int (Int32.ofInt qq)), (3, .int (Int32.ofInt p))]) (show cdA 269 37 = some (.istore_n 2, 1, 0, 0, 0) from rfl) (by decide) (fun _ h => h) h) ?_
          refine d_lift (fun k ws X h => z_inc X (x := p) (lv' := [(3, .int (Int32.ofInt (p + 1))), (2, .int (Int32.ofInt y1012)), (0, .ref (A 179)), (1, .int (Int32.ofInt qq))]) (show cdA 269 38 = some (.iinc 3 1, 3, 0, 0, 0) from rfl) (by decide) (List.Mem.tail _ (List.Mem.tail _ (List.Mem.tail _ (List.Mem.head _)))) (fun _ h => h) h) ?_
          refine d_lift (fun k ws X h => z_goto X (t := 9) (show cdA 269 41 = some (.goto (-32), 3, 0, 0, 0) from rfl) (by decide) h) ?_
          refine d_lvs (lv := [(0, .ref (A 179)), (1, .int (Int32.ofInt qq)), (2, .int (Int32.ofInt y1012)), (3, .int (Int32.ofInt (p + 1)))]) (List.forall_mem_cons.mpr ⟨(List.Mem.tail _ (List.Mem.tail _ (List.Mem.head _))), (List.forall_mem_cons.mpr ⟨(List.Mem.tail _ (List.Mem.tail _ (List.Mem.tail _ (List.Mem.head _)))), (List.forall_mem_cons.mpr ⟨(List.Mem.tail _ (List.Mem.head _)), (List.forall_mem_cons.mpr ⟨(List.Mem.head _), (fun q h => absurd h List.not_mem_nil)⟩)⟩)⟩)⟩) ?_
          refine d_mono (T' := TU (TN T s) 203 (iI s 90)) (fun _ h => h) (fun _ _ h => Or.inr (Or.inr (h))) ?_
          exact ih _ qq y1012 (p + 1) Is1009 Gs1009 JRLx_s1009 JNQ_s1009 (by first | exact ⟨And.intro (hy1012.1) (hy1012.2), oq_54f49eb5 hi.2.1, oq_0c7b19c3 g1002⟩ | omega) (by first | exact qk_me hm (by decide) (oq_9f368f35 g1002) | omega) kx
        ·
          refine d_lift (fun k ws X h => z_goto X (t := 38) (show cdA 269 23 = some (.goto 15, 3, 0, 0, 0) from rfl) (by decide) h) ?_
          refine d_lift (fun k ws X h => z_inc X (x := p) (lv' := [(3, .int (Int32.ofInt (p + 1))), (0, .ref (A 179)), (1, .int (Int32.ofInt qq)), (2, .int (Int32.ofInt nn))]) (show cdA 269 38 = some (.iinc 3 1, 3, 0, 0, 0) from rfl) (by decide) (List.Mem.tail _ (List.Mem.tail _ (List.Mem.tail _ (List.Mem.head _)))) (fun _ h => h) h) ?_
          refine d_lift (fun k ws X h => z_goto X (t := 9) (show cdA 269 41 = some (.goto (-32), 3, 0, 0, 0) from rfl) (by decide) h) ?_
          refine d_lvs (lv := [(0, .ref (A 179)), (1, .int (Int32.ofInt qq)), (2, .int (Int32.ofInt nn)), (3, .int (Int32.ofInt (p + 1)))]) (List.forall_mem_cons.mpr ⟨(List.Mem.tail _ (List.Mem.head _)), (List.forall_mem_cons.mpr ⟨(List.Mem.tail _ (List.Mem.tail _ (List.Mem.head _))), (List.forall_mem_cons.mpr ⟨(List.Mem.tail _ (List.Mem.tail _ (List.Mem.tail _ (List.Mem.head _)))), (List.forall_mem_cons.mpr ⟨(List.Mem.head _), (fun q h => absurd h List.not_mem_nil)⟩)⟩)⟩)⟩) ?_
          exact ih _ qq nn (p + 1) Is1003 Gs1003 JRLx_s1003 JNQ_s1003 (by first | exact ⟨And.intro (hi.1.1) (hi.1.2), oq_54f49eb5 hi.2.1, oq_0c7b19c3 g1002⟩ | omega) (by first | exact qk_me hm (by decide) (oq_9f368f35 g1002) | omega) kx
  refine d_lift (fun k ws X h => z_const X (show cdA 269 0 = some (.iconst 0, 1, 0, 0, 0) from rfl) h) ?_
  refine d_lift (fun k ws X h => z_store_n X (lv' := [(2, .int (Int32.ofInt 0)), (0, .ref (A 179)), (1, .int (Int32.ofInt x))]) (show cdA 269 1 = some (.istore_n 2, 1, 0, 0, 0) from rfl) (by decide) (fun _ h => h) h) ?_
  refine d_lift (fun k ws X h => z_aload_n X (x := A 179) (show cdA 269 2 = some (.aload_n 0, 1, 0, 0, 0) from rfl) (List.Mem.tail _ (List.Mem.head _)) h) ?_
  refine d_lift (fun k ws X h => z_load_n X (x := x) (show cdA 269 3 = some (.iload_n 1, 1, 0, 0, 0) from rfl) (List.Mem.tail _ (List.Mem.tail _ (List.Mem.head _))) h) ?_
  refine d_callV 179 (As := [.int (Int32.ofInt x)]) (st := []) (show cdA 269 4 = some (.invokevirtual 333, 3, 222, 0, 0) from rfl) rfl (by decide) rfl (d_asTold G I jRLx (by first | exact ⟨p0.1, p0.2⟩ | omega) (fun q h => hti q ((by decide : ∀ q ∈ ([90] : List Nat), q ∈ ([90, 89, 85, 82, 96] : List Nat)) q h)) (fun a h => hta a ((by decide : ∀ q ∈ ([162, 163, 164] : List Nat), q ∈ ([162, 163, 164, 228, 157, 158] : List Nat)) a h)) how) ⟨rfl, rfl⟩ ⟨(show 9 + 1 ≤ 37 from oq_fe53764b), (show 8 + (mNL (miB 222) + 11) + 168 ≤ 1578 from oq_69d12a4e)⟩ (Nat.le_of_ble_eq_true rfl) (by decide) (by decide) (fun ee s1 hq => ?_) (fun vv s1 hq => ?_)
  · obtain ⟨Is1, Fs1, JRLx_s1, JNQ_s1, hv, hps1⟩ := hq; cases hv
  obtain ⟨Is1, Fs1, JRLx_s1, JNQ_s1, hv, hps1⟩ := hq
  cases hv
  rw [show iI s 90 = iI s 90 from fm_i F (by decide)]
  have hta3 : ∀ a ∈ ([162, 163, 164, 228, 157, 158] : List Nat), ∀ j, j < (bA a).2.2 → (TU (TN T s) 203 (iI s 90)).2 a j := fun a h j hj => Or.inr (Or.inr (hta a h j hj))
  have Gs1 := fm_ts F Fs1 (by decide) (by decide)
  have JRLx_s1 : RLx s1 := RLx_fm Fs1 (by decide) jRLx
  show DS l s0 D A dT 269 (rmN 269) [77, 75, 78, 79, 80, 81] [161, 230, 202, 204, 205, 206, 207, 208, 209, 210, 211, 212, 213, 214, 215, 216, 217, 218, 219, 220, 221, 222, 223, 224, 225, 226, 227, 203] (T) Q (TU (TN T s) 203 (iI s 90)) 7 [(2, .int (Int32.ofInt 0)), (0, .ref (A 179)), (1, .int (Int32.ofInt x))] [] s1
  refine d_lift (fun k ws X h => z_const X (show cdA 269 7 = some (.iconst 0, 1, 0, 0, 0) from rfl) h) ?_
  refine d_lift (fun k ws X h => z_store_n X (lv' := [(3, .int (Int32.ofInt 0)), (2, .int (Int32.ofInt 0)), (0, .ref (A 179)), (1, .int (Int32.ofInt x))]) (show cdA 269 8 = some (.istore_n 3, 1, 0, 0, 0) from rfl) (by decide) (fun _ h => h) h) ?_
  refine d_lvs (lv := [(0, .ref (A 179)), (1, .int (Int32.ofInt x)), (2, .int (Int32.ofInt 0)), (3, .int (Int32.ofInt 0))]) (List.forall_mem_cons.mpr ⟨(List.Mem.tail _ (List.Mem.tail _ (List.Mem.head _))), (List.forall_mem_cons.mpr ⟨(List.Mem.tail _ (List.Mem.tail _ (List.Mem.tail _ (List.Mem.head _)))), (List.forall_mem_cons.mpr ⟨(List.Mem.tail _ (List.Mem.head _)), (List.forall_mem_cons.mpr ⟨(List.Mem.head _), (fun q h => absurd h List.not_mem_nil)⟩)⟩)⟩)⟩) ?_
  refine L9 ((8 - 0 : Int).toNat + 1) s1 x 0 0 Is1 Gs1 JRLx_s1 JNQ_s1 (by first | exact ⟨And.intro (by decide) (by decide), by decide, by decide⟩ | omega) (Nat.lt_succ_self _) ?_
  intro s4 x5 x6 Is4 Fs4 JRLx_s4 Qs4 hs4
  have hta7 : ∀ a ∈ ([162, 163, 164, 228, 157, 158] : List Nat), ∀ j, j < (bA a).2.2 → (TU (TN T s) 203 (iI s 90)).2 a j := fun a h j hj => Or.inr (Or.inr (hta a h j hj))
  refine d_lift (fun k ws X h => z_load_n X (x := x5) (show cdA 269 44 = some (.iload_n 2, 1, 0, 0, 0) from rfl) (List.Mem.tail _ (List.Mem.tail _ (List.Mem.head _))) h) ?_
  refine d_lift (fun k ws X h => z_aload_n X (x := A 179) (show cdA 269 45 = some (.aload_n 0, 1, 0, 0, 0) from rfl) (List.Mem.head _) h) ?_
  refine d_getI 179 (show cdA 269 46 = some (.getfield 89, 3, 12, 45, 0) from rfl) (by decide) rfl rfl (hti 96 (by decide)) ?_
  have b8 : (0 : Int) ≤ iI s4 96 ∧ iI s4 96 ≤ 100000 := Is4.1 96
  have N9 : ∀ e10 : Int, (((x5 ≤ (iI s4 96)) ∧ e10 = 0) ∨ (((iI s4 96) < x5) ∧ e10 = 1)) → DS l s0 D A dT 269 (rmN 269) [77, 75, 78, 79, 80, 81] [161, 230, 202, 204, 205, 206, 207, 208, 209, 210, 211, 212, 213, 214, 215, 216, 217, 218, 219, 220, 221, 222, 223, 224, 225, 226, 227, 203] (T) Q (TU (TN T s) 203 (iI s 90)) 57 [(0, .ref (A 179)), (1, .int (Int32.ofInt x)), (2, .int (Int32.ofInt x5)), (3, .int (Int32.ofInt x6))] [.int (Int32.ofInt e10)] s4 := by
    intro e10 he10
    have re10 : 0 ≤ e10 ∧ e10 ≤ 1 := by omega
    exact d_iret rfl (nar_ret (by first | exact oq_31e518ae re10.2 re10.1 | omega)) (Or.inr rfl) (show cdA 269 57 = some (.ireturn, 1, 0, 0, 0) from rfl) (fun _ h => AGr_mono h (fun _ h => h) (fun _ _ h => Or.inr (Or.inr (h)))) (hQ _ _ ⟨Is4, Fs4, JRLx_s4, e10, rfl, ⟨by first | exact oq_fa4e5087 re10.1 | omega, by first | exact oq_22e1e6b0 re10.2 | omega⟩, by first | exact oq_31e518ae re10.2 re10.1 | omega⟩)
  refine d_br (bo_le _ _) bx_le (fun k ws X h1 h2 => z_icmp_le X (t := 56) (show cdA 269 49 = some (.if_icmp .le 7, 3, 5, 0, 0) from rfl) (by decide) ⟨by first | exact hs4.1.1 | omega, by first | exact hs4.1.2 | omega⟩ (rng_to _) h1 h2) (fun g11 => ?_) (fun g11 => ?_)
  ·
    refine d_lift (fun k ws X h => z_const X (show cdA 269 56 = some (.iconst 0, 1, 0, 0, 0) from rfl) h) ?_
    exact N9 _ (Or.inl ⟨g11, rfl⟩)
  ·
    refine d_lift (fun k ws X h => z_const X (show cdA 269 52 = some (.iconst 1, 1, 0, 0, 0) from rfl) h) ?_
    refine d_lift (fun k ws X h => z_goto X (t := 57) (show cdA 269 53 = some (.goto 4, 3, 0, 0, 0) from rfl) (by decide) h) ?_
    exact N9 _ (Or.inr (⟨g11, rfl⟩))
end M49
