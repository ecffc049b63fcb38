/-! The model: feed and its like -/
section M33
variable {l : Launch} {s0 : State} {D : va_G} {tys : List (ClassId × FieldType)} {a0 : Array Value} {A : Nat → Nat} {dT : Nat → ClassId} {s : PS}
theorem k_feed (G : GX l s0 D tys a0 dT) (I : Bd s) {x1 x2 x3 x4 x5 : Int} (p0 : rng x1) (p1 : rng x2) (p2 : rng x3) (p3 : rng x4) (p4 : rng x5) : CT l s0 D A dT 191 (rmN 191) [.ref (A 179), .int (Int32.ofInt x1), .int (Int32.ofInt x2), .int (Int32.ofInt x3), .int (Int32.ofInt x4), .int (Int32.ofInt x5)] s (fun o t => Bd t ∧ Fm [73, 74] [157] s t ∧ ∃ e, o = .inl (some (.int (Int32.ofInt e))) ∧ rng e ∧ ((iI s 74 ≤ 180 ∧ iI t 74 = iI s 74 + 20 ∧ e = iI t 74) ∨ (180 < iI s 74 ∧ iI t 74 = iI s 74 ∧ e = -1))) := by
  refine ct_of G (by decide) (Nat.le_of_ble_eq_true rfl) (fun k X E hRt hXt q => ?_)
  show WS k 0 [(0, .ref (A 179)), (1, .int (Int32.ofInt x1)), (2, .int (Int32.ofInt x2)), (3, .int (Int32.ofInt x3)), (4, .int (Int32.ofInt x4)), (5, .int (Int32.ofInt x5))] [] _ 0 0
  have F : Fm [73, 74] [157] s s := fm_rf _ _ s
  have b1 : (0 : Int) ≤ iI s 74 ∧ iI s 74 ≤ 200 := I.1 74
  have L23 : ∀ (n : Nat) (t : PS) (x1v x2v x3v x4v x5v c : Int), Bd t → Fm [73, 74] [157] s t → ((rng x1v ∧ rng x2v ∧ rng x3v ∧ rng x4v ∧ rng x5v) ∧ 0 ≤ c ∧ c ≤ 20 ∧ iI t 74 = iI s 74 + c ∧ iI s 74 ≤ 180) → 20 - c ≤ n → (∀ (t' : PS) (x1v' x2v' x3v' x4v' x5v' c' : Int), Bd t' → Fm [73, 74] [157] s t' → (iI t' 74 = iI s 74 + 20 ∧ iI s 74 ≤ 180) → WS k 120 [(0, .ref (A 179)), (1, .int (Int32.ofInt x1v')), (2, .int (Int32.ofInt x2v')), (3, .int (Int32.ofInt x3v')), (4, .int (Int32.ofInt x4v')), (5, .int (Int32.ofInt x5v')), (6, .int (Int32.ofInt c'))] [] (Wd A dT t') 0 0) → WS k 23 [(0, .ref (A 179)), (1, .int (Int32.ofInt x1v)), (2, .int (Int32.ofInt x2v)), (3, .int (Int32.ofInt x3v)), (4, .int (Int32.ofInt x4v)), (5, .int (Int32.ofInt x5v)), (6, .int (Int32.ofInt c))] [] (Wd A dT t) 0 0 := by
    intro n
    induction n with
    | zero =>
      intro t x1v x2v x3v x4v x5v c I F hi hm kx
      have b1001 : (0 : Int) ≤ iI t 74 ∧ iI t 74 ≤ 200 := I.1 74
      refine z_load X (x := c) (show cdA 191 23 = some (.iload 6, 2, 0, 0, 0) from rfl) (List.Mem.tail _ (List.Mem.tail _ (List.Mem.tail _ (List.Mem.tail _ (List.Mem.tail _ (List.Mem.tail _ (List.Mem.head _))))))) ?_
      refine z_bipush X (show cdA 191 25 = some (.bipush 20, 2, 0, 0, 20) from rfl) ?_
      refine z_icmp_ge X (t := 120) (show cdA 191 27 = some (.if_icmp .ge 93, 3, 3, 0, 0) from rfl) (by decide) ⟨by omega, by omega⟩ ⟨by omega, by omega⟩ (fun g1002 => ?_) (fun g1002 => ?_)
      ·
        refine WS_lv (lv := [(0, .ref (A 179)), (1, .int (Int32.ofInt x1v)), (2, .int (Int32.ofInt x2v)), (3, .int (Int32.ofInt x3v)), (4, .int (Int32.ofInt x4v)), (5, .int (Int32.ofInt x5v)), (6, .int (Int32.ofInt c))]) (List.forall_mem_cons.mpr ⟨(List.Mem.head _), (List.forall_mem_cons.mpr ⟨(List.Mem.tail _ (List.Mem.head _)), (List.forall_mem_cons.mpr ⟨(List.Mem.tail _ (List.Mem.tail _ (List.Mem.head _))), (List.forall_mem_cons.mpr ⟨(List.Mem.tail _ (List.Mem.tail _ (List.Mem.tail _ (List.Mem.head _)))), (List.forall_mem_cons.mpr ⟨(List.Mem.tail _ (List.Mem.tail _ (List.Mem.tail _ (List.Mem.tail _ (List.Mem.head _))))), (List.forall_mem_cons.mpr ⟨(List.Mem.tail _ (List.Mem.tail _ (List.Mem.tail _ (List.Mem.tail _ (List.Mem.tail _ (List.Mem.head _)))))), (List.forall_mem_cons.mpr ⟨(List.Mem.tail _ (List.Mem.tail _ (List.Mem.tail _ (List.Mem.tail _ (List.Mem.tail _ (List.Mem.tail _ (List.Mem.head _))))))), (fun q h => absurd h List.not_mem_nil)⟩)⟩)⟩)⟩)⟩)⟩)⟩) ?_
        exact kx _ x1v x2v x3v x4v x5v c I F (by omega)
      ·
        refine z_load X (x := c) (show cdA 191 30 = some (.iload 6, 2, 0, 0, 0) from rfl) (List.Mem.tail _ (List.Mem.tail _ (List.Mem.tail _ (List.Mem.tail _ (List.Mem.tail _ (List.Mem.tail _ (List.Mem.head _))))))) ?_
        refine z_const X (show cdA 191 32 = some (.iconst 4, 1, 0, 0, 0) from rfl) ?_
        refine z_icmp_ge X (t := 40) (show cdA 191 33 = some (.if_icmp .ge 7, 3, 3, 0, 0) from rfl) (by decide) ⟨by omega, by omega⟩ ⟨by omega, by omega⟩ (fun g1003 => ?_) (fun g1003 => ?_)
        ·
          refine z_load X (x := c) (show cdA 191 40 = some (.iload 6, 2, 0, 0, 0) from rfl) (List.Mem.tail _ (List.Mem.tail _ (List.Mem.tail _ (List.Mem.tail _ (List.Mem.tail _ (List.Mem.tail _ (List.Mem.head _))))))) ?_
          refine z_bipush X (show cdA 191 42 = some (.bipush 8, 2, 0, 0, 8) from rfl) ?_
          refine z_icmp_ge X (t := 51) (show cdA 191 44 = some (.if_icmp .ge 7, 3, 3, 0, 0) from rfl) (by decide) ⟨by omega, by omega⟩ ⟨by omega, by omega⟩ (fun g1004 => ?_) (fun g1004 => ?_)
          ·
            refine z_load X (x := c) (show cdA 191 51 = some (.iload 6, 2, 0, 0, 0) from rfl) (List.Mem.tail _ (List.Mem.tail _ (List.Mem.tail _ (List.Mem.tail _ (List.Mem.tail _ (List.Mem.tail _ (List.Mem.head _))))))) ?_
            refine z_bipush X (show cdA 191 53 = some (.bipush 12, 2, 0, 0, 12) from rfl) ?_
            refine z_icmp_ge X (t := 62) (show cdA 191 55 = some (.if_icmp .ge 7, 3, 3, 0, 0) from rfl) (by decide) ⟨by omega, by omega⟩ ⟨by omega, by omega⟩ (fun g1005 => ?_) (fun g1005 => ?_)
            ·
              refine z_load X (x := c) (show cdA 191 62 = some (.iload 6, 2, 0, 0, 0) from rfl) (List.Mem.tail _ (List.Mem.tail _ (List.Mem.tail _ (List.Mem.tail _ (List.Mem.tail _ (List.Mem.tail _ (List.Mem.head _))))))) ?_
              refine z_bipush X (show cdA 191 64 = some (.bipush 16, 2, 0, 0, 16) from rfl) ?_
              refine z_icmp_ge X (t := 74) (show cdA 191 66 = some (.if_icmp .ge 8, 3, 3, 0, 0) from rfl) (by decide) ⟨by omega, by omega⟩ ⟨by omega, by omega⟩ (fun g1006 => ?_) (fun g1006 => ?_)
              ·
                refine z_load X (x := x5v) (show cdA 191 74 = some (.iload 5, 2, 0, 0, 0) from rfl) (List.Mem.tail _ (List.Mem.tail _ (List.Mem.tail _ (List.Mem.tail _ (List.Mem.tail _ (List.Mem.head _)))))) ?_
                refine z_store X (lv' := [(7, .int (Int32.ofInt x5v)), (0, .ref (A 179)), (1, .int (Int32.ofInt x1v)), (2, .int (Int32.ofInt x2v)), (3, .int (Int32.ofInt x3v)), (4, .int (Int32.ofInt x4v)), (5, .int (Int32.ofInt x5v)), (6, .int (Int32.ofInt c))]) (show cdA 191 76 = some (.istore 7, 2, 0, 0, 0) from rfl) (by decide) (fun _ h => h) ?_
                refine z_aload_n X (x := A 179) (show cdA 191 78 = some (.aload_n 0, 1, 0, 0, 0) from rfl) (List.Mem.tail _ (List.Mem.head _)) ?_
                refine s_getR X 179 (show cdA 191 79 = some (.getfield 13, 3, 12, 9, 0) from rfl) (by decide) rfl rfl ?_
                refine z_aload_n X (x := A 179) (show cdA 191 82 = some (.aload_n 0, 1, 0, 0, 0) from rfl) (List.Mem.tail _ (List.Mem.head _)) ?_
                refine z_getI X 179 (show cdA 191 83 = some (.getfield 175, 3, 12, 1, 0) from rfl) (by decide) rfl rfl ?_
                have b1007 : (0 : Int) ≤ iI t 74 ∧ iI t 74 ≤ 200 := I.1 74
                refine z_load X (x := x5v) (show cdA 191 86 = some (.iload 7, 2, 0, 0, 0) from rfl) (List.Mem.head _) ?_
                refine z_bipush X (show cdA 191 88 = some (.bipush 24, 2, 0, 0, 24) from rfl) ?_
                refine z_bipush X (show cdA 191 90 = some (.bipush 8, 2, 0, 0, 8) from rfl) ?_
                refine z_load X (x := c) (show cdA 191 92 = some (.iload 6, 2, 0, 0, 0) from rfl) (List.Mem.tail _ (List.Mem.tail _ (List.Mem.tail _ (List.Mem.tail _ (List.Mem.tail _ (List.Mem.tail _ (List.Mem.tail _ (List.Mem.head _)))))))) ?_
                refine z_const X (show cdA 191 94 = some (.iconst 4, 1, 0, 0, 0) from rfl) ?_
                refine z_mod X (show cdA 191 95 = some (.irem, 1, 0, 0, 0) from rfl) (by omega) ⟨by omega, by omega⟩ (by omega) ⟨by omega, by omega⟩ ?_
                refine z_mul X (show cdA 191 96 = some (.imul, 1, 0, 0, 0) from rfl) ?_
                refine z_sub X (show cdA 191 97 = some (.isub, 1, 0, 0, 0) from rfl) ?_
                refine z_bshr X (show cdA 191 98 = some (.ishr, 1, 0, 0, 0) from rfl) ?_
                refine z_any (fun y1008 hy1008 => ?_)
                refine z_sipush X (show cdA 191 99 = some (.sipush 255, 3, 0, 0, 255) from rfl) ?_
                refine z_andm X (show cdA 191 102 = some (.iand, 1, 0, 0, 0) from rfl) (by omega) (by omega) (fun y1009 hy1009 gy1009 => ?_)
                refine z_ast X 180 (show cdA 191 103 = some (.iastore, 1, 0, 0, 0) from rfl) (by decide) rfl (by omega) (show (iI t 74) < 200 by omega) (by decide) ?_
                obtain ⟨s1010, hs1010⟩ : ∃ x0, x0 = uC t 157 ((iI t 74)).toNat (Int32.ofInt y1009) := ⟨_, rfl⟩
                rw [← hs1010]
                have Is1010 : Bd s1010 := by rw [hs1010]; exact bd_C I (show (0 : Int) ≤ y1009 ∧ y1009 ≤ 255 by omega) ⟨by omega, by omega⟩
                have Fs1010 := fm_C (i := ((iI t 74)).toNat) (x := Int32.ofInt y1009) F (show 157 ∈ _ by decide)
                rw [← hs1010] at Fs1010
                have ws1010_74 : iI s1010 74 = iI t 74 := by rw [hs1010]; rfl
                refine z_aload_n X (x := A 179) (show cdA 191 104 = some (.aload_n 0, 1, 0, 0, 0) from rfl) (List.Mem.tail _ (List.Mem.head _)) ?_
                refine w_dup X.1 (ax_d X (show cdA 191 105 = some (.dup, 1, 0, 0, 0) from rfl)) rfl ?_
                refine z_getI X 179 (show cdA 191 106 = some (.getfield 175, 3, 12, 1, 0) from rfl) (by decide) rfl rfl ?_
                have b1011 : (0 : Int) ≤ iI s1010 74 ∧ iI s1010 74 ≤ 200 := Is1010.1 74
                refine z_const X (show cdA 191 109 = some (.iconst 1, 1, 0, 0, 0) from rfl) ?_
                refine z_add X (show cdA 191 110 = some (.iadd, 1, 0, 0, 0) from rfl) ?_
                refine s_putI X 179 (show cdA 191 111 = some (.putfield 175, 3, 12, 1, 0) from rfl) (by decide) rfl rfl (by decide) rfl rfl rfl ?_
                obtain ⟨s1012, hs1012⟩ : ∃ x0, x0 = uI s1010 74 (Int32.ofInt ((iI s1010 74) + 1)) := ⟨_, rfl⟩
                rw [← hs1012]
                have Is1012 : Bd s1012 := by rw [hs1012]; exact bd_I Is1010 (show (0 : Int) ≤ ((iI s1010 74) + 1) ∧ ((iI s1010 74) + 1) ≤ 200 by omega) ⟨by omega, by omega⟩
                have Fs1012 := fm_I (x := Int32.ofInt ((iI s1010 74) + 1)) Fs1010 (show 74 ∈ _ by decide)
                rw [← hs1012] at Fs1012
                have vs1012 : iI s1012 74 = ((iI s1010 74) + 1) := by rw [hs1012]; exact iI_u ⟨by omega, by omega⟩
                refine z_inc X (x := c) (lv' := [(6, .int (Int32.ofInt (c + 1))), (7, .int (Int32.ofInt x5v)), (0, .ref (A 179)), (1, .int (Int32.ofInt x1v)), (2, .int (Int32.ofInt x2v)), (3, .int (Int32.ofInt x3v)), (4, .int (Int32.ofInt x4v)), (5, .int (Int32.ofInt x5v))]) (show cdA 191 114 = some (.iinc 6 1, 3, 0, 0, 0) from rfl) (by decide) (List.Mem.tail _ (List.Mem.tail _ (List.Mem.tail _ (List.Mem.tail _ (List.Mem.tail _ (List.Mem.tail _ (List.Mem.tail _ (List.Mem.head _)))))))) (fun _ h => h) ?_
                refine z_goto X (t := 23) (show cdA 191 117 = some (.goto (-94), 3, 0, 0, 0) from rfl) (by decide) ?_
                exfalso
                omega
              ·
                refine z_load X (x := x4v) (show cdA 191 69 = some (.iload 4, 2, 0, 0, 0) from rfl) (List.Mem.tail _ (List.Mem.tail _ (List.Mem.tail _ (List.Mem.tail _ (List.Mem.head _))))) ?_
                refine z_goto X (t := 76) (show cdA 191 71 = some (.goto 5, 3, 0, 0, 0) from rfl) (by decide) ?_
                refine z_store X (lv' := [(7, .int (Int32.ofInt x4v)), (0, .ref (A 179)), (1, .int (Int32.ofInt x1v)), (2, .int (Int32.ofInt x2v)), (3, .int (Int32.ofInt x3v)), (4, .int (Int32.ofInt x4v)), (5, .int (Int32.ofInt x5v)), (6, .int (Int32.ofInt c))]) (show cdA 191 76 = some (.istore 7, 2, 0, 0, 0) from rfl) (by decide) (fun _ h => h) ?_
                refine z_aload_n X (x := A 179) (show cdA 191 78 = some (.aload_n 0, 1, 0, 0, 0) from rfl) (List.Mem.tail _ (List.Mem.head _)) ?_
                refine s_getR X 179 (show cdA 191 79 = some (.getfield 13, 3, 12, 9, 0) from rfl) (by decide) rfl rfl ?_
                refine z_aload_n X (x := A 179) (show cdA 191 82 = some (.aload_n 0, 1, 0, 0, 0) from rfl) (List.Mem.tail _ (List.Mem.head _)) ?_
                refine z_getI X 179 (show cdA 191 83 = some (.getfield 175, 3, 12, 1, 0) from rfl) (by decide) rfl rfl ?_
                have b1013 : (0 : Int) ≤ iI t 74 ∧ iI t 74 ≤ 200 := I.1 74
                refine z_load X (x := x4v) (show cdA 191 86 = some (.iload 7, 2, 0, 0, 0) from rfl) (List.Mem.head _) ?_
                refine z_bipush X (show cdA 191 88 = some (.bipush 24, 2, 0, 0, 24) from rfl) ?_
                refine z_bipush X (show cdA 191 90 = some (.bipush 8, 2, 0, 0, 8) from rfl) ?_
                refine z_load X (x := c) (show cdA 191 92 = some (.iload 6, 2, 0, 0, 0) from rfl) (List.Mem.tail _ (List.Mem.tail _ (List.Mem.tail _ (List.Mem.tail _ (List.Mem.tail _ (List.Mem.tail _ (List.Mem.tail _ (List.Mem.head _)))))))) ?_
                refine z_const X (show cdA 191 94 = some (.iconst 4, 1, 0, 0, 0) from rfl) ?_
                refine z_mod X (show cdA 191 95 = some (.irem, 1, 0, 0, 0) from rfl) (by omega) ⟨by omega, by omega⟩ (by omega) ⟨by omega, by omega⟩ ?_
                refine z_mul X (show cdA 191 96 = some (.imul, 1, 0, 0, 0) from rfl) ?_
                refine z_sub X (show cdA 191 97 = some (.isub, 1, 0, 0, 0) from rfl) ?_
                refine z_bshr X (show cdA 191 98 = some (.ishr, 1, 0, 0, 0) from rfl) ?_
                refine z_any (fun y1014 hy1014 => ?_)
                refine z_sipush X (show cdA 191 99 = some (.sipush 255, 3, 0, 0, 255) from rfl) ?_
                refine z_andm X (show cdA 191 102 = some (.iand, 1, 0, 0, 0) from rfl) (by omega) (by omega) (fun y1015 hy1015 gy1015 => ?_)
                refine z_ast X 180 (show cdA 191 103 = some (.iastore, 1, 0, 0, 0) from rfl) (by decide) rfl (by omega) (show (iI t 74) < 200 by omega) (by decide) ?_
                obtain ⟨s1016, hs1016⟩ : ∃ x0, x0 = uC t 157 ((iI t 74)).toNat (Int32.ofInt y1015) := ⟨_, rfl⟩
                rw [← hs1016]
                have Is1016 : Bd s1016 := by rw [hs1016]; exact bd_C I (show (0 : Int) ≤ y1015 ∧ y1015 ≤ 255 by omega) ⟨by omega, by omega⟩
                have Fs1016 := fm_C (i := ((iI t 74)).toNat) (x := Int32.ofInt y1015) F (show 157 ∈ _ by decide)
                rw [← hs1016] at Fs1016
                have ws1016_74 : iI s1016 74 = iI t 74 := by rw [hs1016]; rfl
                refine z_aload_n X (x := A 179) (show cdA 191 104 = some (.aload_n 0, 1, 0, 0, 0) from rfl) (List.Mem.tail _ (List.Mem.head _)) ?_
                refine w_dup X.1 (ax_d X (show cdA 191 105 = some (.dup, 1, 0, 0, 0) from rfl)) rfl ?_
                refine z_getI X 179 (show cdA 191 106 = some (.getfield 175, 3, 12, 1, 0) from rfl) (by decide) rfl rfl ?_
                have b1017 : (0 : Int) ≤ iI s1016 74 ∧ iI s1016 74 ≤ 200 := Is1016.1 74
                refine z_const X (show cdA 191 109 = some (.iconst 1, 1, 0, 0, 0) from rfl) ?_
                refine z_add X (show cdA 191 110 = some (.iadd, 1, 0, 0, 0) from rfl) ?_
                refine s_putI X 179 (show cdA 191 111 = some (.putfield 175, 3, 12, 1, 0) from rfl) (by decide) rfl rfl (by decide) rfl rfl rfl ?_
                obtain ⟨s1018, hs1018⟩ : ∃ x0, x0 = uI s1016 74 (Int32.ofInt ((iI s1016 74) + 1)) := ⟨_, rfl⟩
                rw [← hs1018]
                have Is1018 : Bd s1018 := by rw [hs1018]; exact bd_I Is1016 (show (0 : Int) ≤ ((iI s1016 74) + 1) ∧ ((iI s1016 74) + 1) ≤ 200 by omega) ⟨by omega, by omega⟩
                have Fs1018 := fm_I (x := Int32.ofInt ((iI s1016 74) + 1)) Fs1016 (show 74 ∈ _ by decide)
                rw [← hs1018] at Fs1018
                have vs1018 : iI s1018 74 = ((iI s1016 74) + 1) := by rw [hs1018]; exact iI_u ⟨by omega, by omega⟩
                refine z_inc X (x := c) (lv' := [(6, .int (Int32.ofInt (c + 1))), (7, .int (Int32.ofInt x4v)), (0, .ref (A 179)), (1, .int (Int32.ofInt x1v)), (2, .int (Int32.ofInt x2v)), (3, .int (Int32.ofInt x3v)), (4, .int (Int32.ofInt x4v)), (5, .int (Int32.ofInt x5v))]) (show cdA 191 114 = some (.iinc 6 1, 3, 0, 0, 0) from rfl) (by decide) (List.Mem.tail _ (List.Mem.tail _ (List.Mem.tail _ (List.Mem.tail _ (List.Mem.tail _ (List.Mem.tail _ (List.Mem.tail _ (List.Mem.head _)))))))) (fun _ h => h) ?_
                refine z_goto X (t := 23) (show cdA 191 117 = some (.goto (-94), 3, 0, 0, 0) from rfl) (by decide) ?_
                exfalso
                omega
            ·
              refine z_load_n X (x := x3v) (show cdA 191 58 = some (.iload_n 3, 1, 0, 0, 0) from rfl) (List.Mem.tail _ (List.Mem.tail _ (List.Mem.tail _ (List.Mem.head _)))) ?_
              refine z_goto X (t := 76) (show cdA 191 59 = some (.goto 17, 3, 0, 0, 0) from rfl) (by decide) ?_
              refine z_store X (lv' := [(7, .int (Int32.ofInt x3v)), (0, .ref (A 179)), (1, .int (Int32.ofInt x1v)), (2, .int (Int32.ofInt x2v)), (3, .int (Int32.ofInt x3v)), (4, .int (Int32.ofInt x4v)), (5, .int (Int32.ofInt x5v)), (6, .int (Int32.ofInt c))]) (show cdA 191 76 = some (.istore 7, 2, 0, 0, 0) from rfl) (by decide) (fun _ h => h) ?_
              refine z_aload_n X (x := A 179) (show cdA 191 78 = some (.aload_n 0, 1, 0, 0, 0) from rfl) (List.Mem.tail _ (List.Mem.head _)) ?_
              refine s_getR X 179 (show cdA 191 79 = some (.getfield 13, 3, 12, 9, 0) from rfl) (by decide) rfl rfl ?_
              refine z_aload_n X (x := A 179) (show cdA 191 82 = some (.aload_n 0, 1, 0, 0, 0) from rfl) (List.Mem.tail _ (List.Mem.head _)) ?_
              refine z_getI X 179 (show cdA 191 83 = some (.getfield 175, 3, 12, 1, 0) from rfl) (by decide) rfl rfl ?_
              have b1019 : (0 : Int) ≤ iI t 74 ∧ iI t 74 ≤ 200 := I.1 74
              refine z_load X (x := x3v) (show cdA 191 86 = some (.iload 7, 2, 0, 0, 0) from rfl) (List.Mem.head _) ?_
              refine z_bipush X (show cdA 191 88 = some (.bipush 24, 2, 0, 0, 24) from rfl) ?_
              refine z_bipush X (show cdA 191 90 = some (.bipush 8, 2, 0, 0, 8) from rfl) ?_
              refine z_load X (x := c) (show cdA 191 92 = some (.iload 6, 2, 0, 0, 0) from rfl) (List.Mem.tail _ (List.Mem.tail _ (List.Mem.tail _ (List.Mem.tail _ (List.Mem.tail _ (List.Mem.tail _ (List.Mem.tail _ (List.Mem.head _)))))))) ?_
              refine z_const X (show cdA 191 94 = some (.iconst 4, 1, 0, 0, 0) from rfl) ?_
              refine z_mod X (show cdA 191 95 = some (.irem, 1, 0, 0, 0) from rfl) (by omega) ⟨by omega, by omega⟩ (by omega) ⟨by omega, by omega⟩ ?_
              refine z_mul X (show cdA 191 96 = some (.imul, 1, 0, 0, 0) from rfl) ?_
              refine z_sub X (show cdA 191 97 = some (.isub, 1, 0, 0, 0) from rfl) ?_
              refine z_bshr X (show cdA 191 98 = some (.ishr, 1, 0, 0, 0) from rfl) ?_
              refine z_any (fun y1020 hy1020 => ?_)
              refine z_sipush X (show cdA 191 99 = some (.sipush 255, 3, 0, 0, 255) from rfl) ?_
              refine z_andm X (show cdA 191 102 = some (.iand, 1, 0, 0, 0) from rfl) (by omega) (by omega) (fun y1021 hy1021 gy1021 => ?_)
              refine z_ast X 180 (show cdA 191 103 = some (.iastore, 1, 0, 0, 0) from rfl) (by decide) rfl (by omega) (show (iI t 74) < 200 by omega) (by decide) ?_
              obtain ⟨s1022, hs1022⟩ : ∃ x0, x0 = uC t 157 ((iI t 74)).toNat (Int32.ofInt y1021) := ⟨_, rfl⟩
              rw [← hs1022]
              have Is1022 : Bd s1022 := by rw [hs1022]; exact bd_C I (show (0 : Int) ≤ y1021 ∧ y1021 ≤ 255 by omega) ⟨by omega, by omega⟩
              have Fs1022 := fm_C (i := ((iI t 74)).toNat) (x := Int32.ofInt y1021) F (show 157 ∈ _ by decide)
              rw [← hs1022] at Fs1022
              have ws1022_74 : iI s1022 74 = iI t 74 := by rw [hs1022]; rfl
              refine z_aload_n X (x := A 179) (show cdA 191 104 = some (.aload_n 0, 1, 0, 0, 0) from rfl) (List.Mem.tail _ (List.Mem.head _)) ?_
              refine w_dup X.1 (ax_d X (show cdA 191 105 = some (.dup, 1, 0, 0, 0) from rfl)) rfl ?_
              refine z_getI X 179 (show cdA 191 106 = some (.getfield 175, 3, 12, 1, 0) from rfl) (by decide) rfl rfl ?_
              have b1023 : (0 : Int) ≤ iI s1022 74 ∧ iI s1022 74 ≤ 200 := Is1022.1 74
              refine z_const X (show cdA 191 109 = some (.iconst 1, 1, 0, 0, 0) from rfl) ?_
              refine z_add X (show cdA 191 110 = some (.iadd, 1, 0, 0, 0) from rfl) ?_
              refine s_putI X 179 (show cdA 191 111 = some (.putfield 175, 3, 12, 1, 0) from rfl) (by decide) rfl rfl (by decide) rfl rfl rfl ?_
              obtain ⟨s1024, hs1024⟩ : ∃ x0, x0 = uI s1022 74 (Int32.ofInt ((iI s1022 74) + 1)) := ⟨_, rfl⟩
              rw [← hs1024]
              have Is1024 : Bd s1024 := by rw [hs1024]; exact bd_I Is1022 (show (0 : Int) ≤ ((iI s1022 74) + 1) ∧ ((iI s1022 74) + 1) ≤ 200 by omega) ⟨by omega, by omega⟩
              have Fs1024 := fm_I (x := Int32.ofInt ((iI s1022 74) + 1)) Fs1022 (show 74 ∈ _ by decide)
              rw [← hs1024] at Fs1024
              have vs1024 : iI s1024 74 = ((iI s1022 74) + 1) := by rw [hs1024]; exact iI_u ⟨by omega, by omega⟩
              refine z_inc X (x := c) (lv' := [(6, .int (Int32.ofInt (c + 1))), (7, .int (Int32.ofInt x3v)), (0, .ref (A 179)), (1, .int (Int32.ofInt x1v)), (2, .int (Int32.ofInt x2v)), (3, .int (Int32.ofInt x3v)), (4, .int (Int32.ofInt x4v)), (5, .int (Int32.ofInt x5v))]) (show cdA 191 114 = some (.iinc 6 1, 3, 0, 0, 0) from rfl) (by decide) (List.Mem.tail _ (List.Mem.tail _ (List.Mem.tail _ (List.Mem.tail _ (List.Mem.tail _ (List.Mem.tail _ (List.Mem.tail _ (List.Mem.head _)))))))) (fun _ h => h) ?_
              refine z_goto X (t := 23) (show cdA 191 117 = some (.goto (-94), 3, 0, 0, 0) from rfl) (by decide) ?_
              exfalso
              omega
          ·
            refine z_load_n X (x := x2v) (show cdA 191 47 = some (.iload_n 2, 1, 0, 0, 0) from rfl) (List.Mem.tail _ (List.Mem.tail _ (List.Mem.head _))) ?_
            refine z_goto X (t := 76) (show cdA 191 48 = some (.goto 28, 3, 0, 0, 0) from rfl) (by decide) ?_
            refine z_store X (lv' := [(7, .int (Int32.ofInt x2v)), (0, .ref (A 179)), (1, .int (Int32.ofInt x1v)), (2, .int (Int32.ofInt x2v)), (3, .int (Int32.ofInt x3v)), (4, .int (Int32.ofInt x4v)), (5, .int (Int32.ofInt x5v)), (6, .int (Int32.ofInt c))]) (show cdA 191 76 = some (.istore 7, 2, 0, 0, 0) from rfl) (by decide) (fun _ h => h) ?_
            refine z_aload_n X (x := A 179) (show cdA 191 78 = some (.aload_n 0, 1, 0, 0, 0) from rfl) (List.Mem.tail _ (List.Mem.head _)) ?_
            refine s_getR X 179 (show cdA 191 79 = some (.getfield 13, 3, 12, 9, 0) from rfl) (by decide) rfl rfl ?_
            refine z_aload_n X (x := A 179) (show cdA 191 82 = some (.aload_n 0, 1, 0, 0, 0) from rfl) (List.Mem.tail _ (List.Mem.head _)) ?_
            refine z_getI X 179 (show cdA 191 83 = some (.getfield 175, 3, 12, 1, 0) from rfl) (by decide) rfl rfl ?_
            have b1025 : (0 : Int) ≤ iI t 74 ∧ iI t 74 ≤ 200 := I.1 74
            refine z_load X (x := x2v) (show cdA 191 86 = some (.iload 7, 2, 0, 0, 0) from rfl) (List.Mem.head _) ?_
            refine z_bipush X (show cdA 191 88 = some (.bipush 24, 2, 0, 0, 24) from rfl) ?_
            refine z_bipush X (show cdA 191 90 = some (.bipush 8, 2, 0, 0, 8) from rfl) ?_
            refine z_load X (x := c) (show cdA 191 92 = some (.iload 6, 2, 0, 0, 0) from rfl) (List.Mem.tail _ (List.Mem.tail _ (List.Mem.tail _ (List.Mem.tail _ (List.Mem.tail _ (List.Mem.tail _ (List.Mem.tail _ (List.Mem.head _)))))))) ?_
            refine z_const X (show cdA 191 94 = some (.iconst 4, 1, 0, 0, 0) from rfl) ?_
            refine z_mod X (show cdA 191 95 = some (.irem, 1, 0, 0, 0) from rfl) (by omega) ⟨by omega, by omega⟩ (by omega) ⟨by omega, by omega⟩ ?_
            refine z_mul X (show cdA 191 96 = some (.imul, 1, 0, 0, 0) from rfl) ?_
            refine z_sub X (show cdA 191 97 = some (.isub, 1, 0, 0, 0) from rfl) ?_
            refine z_bshr X (show cdA 191 98 = some (.ishr, 1, 0, 0, 0) from rfl) ?_
            refine z_any (fun y1026 hy1026 => ?_)
            refine z_sipush X (show cdA 191 99 = some (.sipush 255, 3, 0, 0, 255) from rfl) ?_
            refine z_andm X (show cdA 191 102 = some (.iand, 1, 0, 0, 0) from rfl) (by omega) (by omega) (fun y1027 hy1027 gy1027 => ?_)
            refine z_ast X 180 (show cdA 191 103 = some (.iastore, 1, 0, 0, 0) from rfl) (by decide) rfl (by omega) (show (iI t 74) < 200 by omega) (by decide) ?_
            obtain ⟨s1028, hs1028⟩ : ∃ x0, x0 = uC t 157 ((iI t 74)).toNat (Int32.ofInt y1027) := ⟨_, rfl⟩
            rw [← hs1028]
            have Is1028 : Bd s1028 := by rw [hs1028]; exact bd_C I (show (0 : Int) ≤ y1027 ∧ y1027 ≤ 255 by omega) ⟨by omega, by omega⟩
            have Fs1028 := fm_C (i := ((iI t 74)).toNat) (x := Int32.ofInt y1027) F (show 157 ∈ _ by decide)
            rw [← hs1028] at Fs1028
            have ws1028_74 : iI s1028 74 = iI t 74 := by rw [hs1028]; rfl
            refine z_aload_n X (x := A 179) (show cdA 191 104 = some (.aload_n 0, 1, 0, 0, 0) from rfl) (List.Mem.tail _ (List.Mem.head _)) ?_
            refine w_dup X.1 (ax_d X (show cdA 191 105 = some (.dup, 1, 0, 0, 0) from rfl)) rfl ?_
            refine z_getI X 179 (show cdA 191 106 = some (.getfield 175, 3, 12, 1, 0) from rfl) (by decide) rfl rfl ?_
            have b1029 : (0 : Int) ≤ iI s1028 74 ∧ iI s1028 74 ≤ 200 := Is1028.1 74
            refine z_const X (show cdA 191 109 = some (.iconst 1, 1, 0, 0, 0) from rfl) ?_
            refine z_add X (show cdA 191 110 = some (.iadd, 1, 0, 0, 0) from rfl) ?_
            refine s_putI X 179 (show cdA 191 111 = some (.putfield 175, 3, 12, 1, 0) from rfl) (by decide) rfl rfl (by decide) rfl rfl rfl ?_
            obtain ⟨s1030, hs1030⟩ : ∃ x0, x0 = uI s1028 74 (Int32.ofInt ((iI s1028 74) + 1)) := ⟨_, rfl⟩
            rw [← hs1030]
            have Is1030 : Bd s1030 := by rw [hs1030]; exact bd_I Is1028 (show (0 : Int) ≤ ((iI s1028 74) + 1) ∧ ((iI s1028 74) + 1) ≤ 200 by omega) ⟨by omega, by omega⟩
            have Fs1030 := fm_I (x := Int32.ofInt ((iI s1028 74) + 1)) Fs1028 (show 74 ∈ _ by decide)
            rw [← hs1030] at Fs1030
            have vs1030 : iI s1030 74 = ((iI s1028 74) + 1) := by rw [hs1030]; exact iI_u ⟨by omega, by omega⟩
            refine z_inc X (x := c) (lv' := [(6, .int (Int32.ofInt (c + 1))), (7, .int (Int32.ofInt x2v)), (0, .ref (A 179)), (1, .int (Int32.ofInt x1v)), (2, .int (Int32.ofInt x2v)), (3, .int (Int32.ofInt x3v)), (4, .int (Int32.ofInt x4v)), (5, .int (Int32.ofInt x5v))]) (show cdA 191 114 = some (.iinc 6 1, 3, 0, 0, 0) from rfl) (by decide) (List.Mem.tail _ (List.Mem.tail _ (List.Mem.tail _ (List.Mem.tail _ (List.Mem.tail _ (List.Mem.tail _ (List.Mem.tail _ (List.Mem.head _)))))))) (fun _ h => h) ?_
            refine z_goto X (t := 23) (show cdA 191 117 = some (.goto (-94), 3, 0, 0, 0) from rfl) (by decide) ?_
            exfalso
            omega
        ·
          refine z_load_n X (x := x1v) (show cdA 191 36 = some (.iload_n 1, 1, 0, 0, 0) from rfl) (List.Mem.tail _ (List.Mem.head _)) ?_
          refine z_goto X (t := 76) (show cdA 191 37 = some (.goto 39, 3, 0, 0, 0) from rfl) (by decide) ?_
          refine z_store X (lv' := [(7, .int (Int32.ofInt x1v)), (0, .ref (A 179)), (1, .int (Int32.ofInt x1v)), (2, .int (Int32.ofInt x2v)), (3, .int (Int32.ofInt x3v)), (4, .int (Int32.ofInt x4v)), (5, .int (Int32.ofInt x5v)), (6, .int (Int32.ofInt c))]) (show cdA 191 76 = some (.istore 7, 2, 0, 0, 0) from rfl) (by decide) (fun _ h => h) ?_
          refine z_aload_n X (x := A 179) (show cdA 191 78 = some (.aload_n 0, 1, 0, 0, 0) from rfl) (List.Mem.tail _ (List.Mem.head _)) ?_
          refine s_getR X 179 (show cdA 191 79 = some (.getfield 13, 3, 12, 9, 0) from rfl) (by decide) rfl rfl ?_
          refine z_aload_n X (x := A 179) (show cdA 191 82 = some (.aload_n 0, 1, 0, 0, 0) from rfl) (List.Mem.tail _ (List.Mem.head _)) ?_
          refine z_getI X 179 (show cdA 191 83 = some (.getfield 175, 3, 12, 1, 0) from rfl) (by decide) rfl rfl ?_
          have b1031 : (0 : Int) ≤ iI t 74 ∧ iI t 74 ≤ 200 := I.1 74
          refine z_load X (x := x1v) (show cdA 191 86 = some (.iload 7, 2, 0, 0, 0) from rfl) (List.Mem.head _) ?_
          refine z_bipush X (show cdA 191 88 = some (.bipush 24, 2, 0, 0, 24) from rfl) ?_
          refine z_bipush X (show cdA 191 90 = some (.bipush 8, 2, 0, 0, 8) from rfl) ?_
          refine z_load X (x := c) (show cdA 191 92 = some (.iload 6, 2, 0, 0, 0) from rfl) (List.Mem.tail _ (List.Mem.tail _ (List.Mem.tail _ (List.Mem.tail _ (List.Mem.tail _ (List.Mem.tail _ (List.Mem.tail _ (List.Mem.head _)))))))) ?_
          refine z_const X (show cdA 191 94 = some (.iconst 4, 1, 0, 0, 0) from rfl) ?_
          refine z_mod X (show cdA 191 95 = some (.irem, 1, 0, 0, 0) from rfl) (by omega) ⟨by omega, by omega⟩ (by omega) ⟨by omega, by omega⟩ ?_
          refine z_mul X (show cdA 191 96 = some (.imul, 1, 0, 0, 0) from rfl) ?_
          refine z_sub X (show cdA 191 97 = some (.isub, 1, 0, 0, 0) from rfl) ?_
          refine z_bshr X (show cdA 191 98 = some (.ishr, 1, 0, 0, 0) from rfl) ?_
          refine z_any (fun y1032 hy1032 => ?_)
          refine z_sipush X (show cdA 191 99 = some (.sipush 255, 3, 0, 0, 255) from rfl) ?_
          refine z_andm X (show cdA 191 102 = some (.iand, 1, 0, 0, 0) from rfl) (by omega) (by omega) (fun y1033 hy1033 gy1033 => ?_)
          refine z_ast X 180 (show cdA 191 103 = some (.iastore, 1, 0, 0, 0) from rfl) (by decide) rfl (by omega) (show (iI t 74) < 200 by omega) (by decide) ?_
          obtain ⟨s1034, hs1034⟩ : ∃ x0, x0 = uC t 157 ((iI t 74)).toNat (Int32.ofInt y1033) := ⟨_, rfl⟩
          rw [← hs1034]
          have Is1034 : Bd s1034 := by rw [hs1034]; exact bd_C I (show (0 : Int) ≤ y1033 ∧ y1033 ≤ 255 by omega) ⟨by omega, by omega⟩
          have Fs1034 := fm_C (i := ((iI t 74)).toNat) (x := Int32.ofInt y1033) F (show 157 ∈ _ by decide)
          rw [← hs1034] at Fs1034
          have ws1034_74 : iI s1034 74 = iI t 74 := by rw [hs1034]; rfl
          refine z_aload_n X (x := A 179) (show cdA 191 104 = some (.aload_n 0, 1, 0, 0, 0) from rfl) (List.Mem.tail _ (List.Mem.head _)) ?_
          refine w_dup X.1 (ax_d X (show cdA 191 105 = some (.dup, 1, 0, 0, 0) from rfl)) rfl ?_
          refine z_getI X 179 (show cdA 191 106 = some (.getfield 175, 3, 12, 1, 0) from rfl) (by decide) rfl rfl ?_
          have b1035 : (0 : Int) ≤ iI s1034 74 ∧ iI s1034 74 ≤ 200 := Is1034.1 74
          refine z_const X (show cdA 191 109 = some (.iconst 1, 1, 0, 0, 0) from rfl) ?_
          refine z_add X (show cdA 191 110 = some (.iadd, 1, 0, 0, 0) from rfl) ?_
          refine s_putI X 179 (show cdA 191 111 = some (.putfield 175, 3, 12, 1, 0) from rfl) (by decide) rfl rfl (by decide) rfl rfl rfl ?_
          obtain ⟨s1036, hs1036⟩ : ∃ x0, x0 = uI s1034 74 (Int32.ofInt ((iI s1034 74) + 1)) := ⟨_, rfl⟩
          rw [← hs1036]
          have Is1036 : Bd s1036 := by rw [hs1036]; exact bd_I Is1034 (show (0 : Int) ≤ ((iI s1034 74) + 1) ∧ ((iI s1034 74) + 1) ≤ 200 by omega) ⟨by omega, by omega⟩
          have Fs1036 := fm_I (x := Int32.ofInt ((iI s1034 74) + 1)) Fs1034 (show 74 ∈ _ by decide)
          rw [← hs1036] at Fs1036
          have vs1036 : iI s1036 74 = ((iI s1034 74) + 1) := by rw [hs1036]; exact iI_u ⟨by omega, by omega⟩
          refine z_inc X (x := c) (lv' := [(6, .int (Int32.ofInt (c + 1))), (7, .int (Int32.ofInt x1v)), (0, .ref (A 179)), (1, .int (Int32.ofInt x1v)), (2, .int (Int32.ofInt x2v)), (3, .int (Int32.ofInt x3v)), (4, .int (Int32.ofInt x4v)), (5, .int (Int32.ofInt x5v))]) (show cdA 191 114 = some (.iinc 6 1, 3, 0, 0, 0) from rfl) (by decide) (List.Mem.tail _ (List.Mem.tail _ (List.Mem.tail _ (List.Mem.tail _ (List.Mem.tail _ (List.Mem.tail _ (List.Mem.tail _ (List.Mem.head _)))))))) (fun _ h => h) ?_
          refine z_goto X (t := 23) (show cdA 191 117 = some (.goto (-94), 3, 0, 0, 0) from rfl) (by decide) ?_
          exfalso
          omega
    | succ n ih =>
      intro t x1v x2v x3v x4v x5v c I F hi hm kx
      have b1001 : (0 : Int) ≤ iI t 74 ∧ iI t 74 ≤ 200 := I.1 74
      refine z_load X (x := c) (show cdA 191 23 = some (.iload 6, 2, 0, 0, 0) from rfl) (List.Mem.tail _ (List.Mem.tail _ (List.Mem.tail _ (List.Mem.tail _ (List.Mem.tail _ (List.Mem.tail _ (List.Mem.head _))))))) ?_
      refine z_bipush X (show cdA 191 25 = some (.bipush 20, 2, 0, 0, 20) from rfl) ?_
      refine z_icmp_ge X (t := 120) (show cdA 191 27 = some (.if_icmp .ge 93, 3, 3, 0, 0) from rfl) (by decide) ⟨by omega, by omega⟩ ⟨by omega, by omega⟩ (fun g1002 => ?_) (fun g1002 => ?_)
      ·
        refine WS_lv (lv := [(0, .ref (A 179)), (1, .int (Int32.ofInt x1v)), (2, .int (Int32.ofInt x2v)), (3, .int (Int32.ofInt x3v)), (4, .int (Int32.ofInt x4v)), (5, .int (Int32.ofInt x5v)), (6, .int (Int32.ofInt c))]) (List.forall_mem_cons.mpr ⟨(List.Mem.head _), (List.forall_mem_cons.mpr ⟨(List.Mem.tail _ (List.Mem.head _)), (List.forall_mem_cons.mpr ⟨(List.Mem.tail _ (List.Mem.tail _ (List.Mem.head _))), (List.forall_mem_cons.mpr ⟨(List.Mem.tail _ (List.Mem.tail _ (List.Mem.tail _ (List.Mem.head _)))), (List.forall_mem_cons.mpr ⟨(List.Mem.tail _ (List.Mem.tail _ (List.Mem.tail _ (List.Mem.tail _ (List.Mem.head _))))), (List.forall_mem_cons.mpr ⟨(List.Mem.tail _ (List.Mem.tail _ (List.Mem.tail _ (List.Mem.tail _ (List.Mem.tail _ (List.Mem.head _)))))), (List.forall_mem_cons.mpr ⟨(List.Mem.tail _ (List.Mem.tail _ (List.Mem.tail _ (List.Mem.tail _ (List.Mem.tail _ (List.Mem.tail _ (List.Mem.head _))))))), (fun q h => absurd h List.not_mem_nil)⟩)⟩)⟩)⟩)⟩)⟩)⟩) ?_
        exact kx _ x1v x2v x3v x4v x5v c I F (by omega)
      ·
        refine z_load X (x := c) (show cdA 191 30 = some (.iload 6, 2, 0, 0, 0) from rfl) (List.Mem.tail _ (List.Mem.tail _ (List.Mem.tail _ (List.Mem.tail _ (List.Mem.tail _ (List.Mem.tail _ (List.Mem.head _))))))) ?_
        refine z_const X (show cdA 191 32 = some (.iconst 4, 1, 0, 0, 0) from rfl) ?_
        refine z_icmp_ge X (t := 40) (show cdA 191 33 = some (.if_icmp .ge 7, 3, 3, 0, 0) from rfl) (by decide) ⟨by omega, by omega⟩ ⟨by omega, by omega⟩ (fun g1003 => ?_) (fun g1003 => ?_)
        ·
          refine z_load X (x := c) (show cdA 191 40 = some (.iload 6, 2, 0, 0, 0) from rfl) (List.Mem.tail _ (List.Mem.tail _ (List.Mem.tail _ (List.Mem.tail _ (List.Mem.tail _ (List.Mem.tail _ (List.Mem.head _))))))) ?_
          refine z_bipush X (show cdA 191 42 = some (.bipush 8, 2, 0, 0, 8) from rfl) ?_
          refine z_icmp_ge X (t := 51) (show cdA 191 44 = some (.if_icmp .ge 7, 3, 3, 0, 0) from rfl) (by decide) ⟨by omega, by omega⟩ ⟨by omega, by omega⟩ (fun g1004 => ?_) (fun g1004 => ?_)
          ·
            refine z_load X (x := c) (show cdA 191 51 = some (.iload 6, 2, 0, 0, 0) from rfl) (List.Mem.tail _ (List.Mem.tail _ (List.Mem.tail _ (List.Mem.tail _ (List.Mem.tail _ (List.Mem.tail _ (List.Mem.head _))))))) ?_
            refine z_bipush X (show cdA 191 53 = some (.bipush 12, 2, 0, 0, 12) from rfl) ?_
            refine z_icmp_ge X (t := 62) (show cdA 191 55 = some (.if_icmp .ge 7, 3, 3, 0, 0) from rfl) (by decide) ⟨by omega, by omega⟩ ⟨by omega, by omega⟩ (fun g1005 => ?_) (fun g1005 => ?_)
            ·
              refine z_load X (x := c) (show cdA 191 62 = some (.iload 6, 2, 0, 0, 0) from rfl) (List.Mem.tail _ (List.Mem.tail _ (List.Mem.tail _ (List.Mem.tail _ (List.Mem.tail _ (List.Mem.tail _ (List.Mem.head _))))))) ?_
              refine z_bipush X (show cdA 191 64 = some (.bipush 16, 2, 0, 0, 16) from rfl) ?_
              refine z_icmp_ge X (t := 74) (show cdA 191 66 = some (.if_icmp .ge 8, 3, 3, 0, 0) from rfl) (by decide) ⟨by omega, by omega⟩ ⟨by omega, by omega⟩ (fun g1006 => ?_) (fun g1006 => ?_)
              ·
                refine z_load X (x := x5v) (show cdA 191 74 = some (.iload 5, 2, 0, 0, 0) from rfl) (List.Mem.tail _ (List.Mem.tail _ (List.Mem.tail _ (List.Mem.tail _ (List.Mem.tail _ (List.Mem.head _)))))) ?_
                refine z_store X (lv' := [(7, .int (Int32.ofInt x5v)), (0, .ref (A 179)), (1, .int (Int32.ofInt x1v)), (2, .int (Int32.ofInt x2v)), (3, .int (Int32.ofInt x3v)), (4, .int (Int32.ofInt x4v)), (5, .int (Int32.ofInt x5v)), (6, .int (Int32.ofInt c))]) (show cdA 191 76 = some (.istore 7, 2, 0, 0, 0) from rfl) (by decide) (fun _ h => h) ?_
                refine z_aload_n X (x := A 179) (show cdA 191 78 = some (.aload_n 0, 1, 0, 0, 0) from rfl) (List.Mem.tail _ (List.Mem.head _)) ?_
                refine s_getR X 179 (show cdA 191 79 = some (.getfield 13, 3, 12, 9, 0) from rfl) (by decide) rfl rfl ?_
                refine z_aload_n X (x := A 179) (show cdA 191 82 = some (.aload_n 0, 1, 0, 0, 0) from rfl) (List.Mem.tail _ (List.Mem.head _)) ?_
                refine z_getI X 179 (show cdA 191 83 = some (.getfield 175, 3, 12, 1, 0) from rfl) (by decide) rfl rfl ?_
                have b1007 : (0 : Int) ≤ iI t 74 ∧ iI t 74 ≤ 200 := I.1 74
                refine z_load X (x := x5v) (show cdA 191 86 = some (.iload 7, 2, 0, 0, 0) from rfl) (List.Mem.head _) ?_
                refine z_bipush X (show cdA 191 88 = some (.bipush 24, 2, 0, 0, 24) from rfl) ?_
                refine z_bipush X (show cdA 191 90 = some (.bipush 8, 2, 0, 0, 8) from rfl) ?_
                refine z_load X (x := c) (show cdA 191 92 = some (.iload 6, 2, 0, 0, 0) from rfl) (List.Mem.tail _ (List.Mem.tail _ (List.Mem.tail _ (List.Mem.tail _ (List.Mem.tail _ (List.Mem.tail _ (List.Mem.tail _ (List.Mem.head _)))))))) ?_
                refine z_const X (show cdA 191 94 = some (.iconst 4, 1, 0, 0, 0) from rfl) ?_
                refine z_mod X (show cdA 191 95 = some (.irem, 1, 0, 0, 0) from rfl) (by omega) ⟨by omega, by omega⟩ (by omega) ⟨by omega, by omega⟩ ?_
                refine z_mul X (show cdA 191 96 = some (.imul, 1, 0, 0, 0) from rfl) ?_
                refine z_sub X (show cdA 191 97 = some (.isub, 1, 0, 0, 0) from rfl) ?_
                refine z_bshr X (show cdA 191 98 = some (.ishr, 1, 0, 0, 0) from rfl) ?_
                refine z_any (fun y1008 hy1008 => ?_)
                refine z_sipush X (show cdA 191 99 = some (.sipush 255, 3, 0, 0, 255) from rfl) ?_
                refine z_andm X (show cdA 191 102 = some (.iand, 1, 0, 0, 0) from rfl) (by omega) (by omega) (fun y1009 hy1009 gy1009 => ?_)
                refine z_ast X 180 (show cdA 191 103 = some (.iastore, 1, 0, 0, 0) from rfl) (by decide) rfl (by omega) (show (iI t 74) < 200 by omega) (by decide) ?_
                obtain ⟨s1010, hs1010⟩ : ∃ x0, x0 = uC t 157 ((iI t 74)).toNat (Int32.ofInt y1009) := ⟨_, rfl⟩
                rw [← hs1010]
                have Is1010 : Bd s1010 := by rw [hs1010]; exact bd_C I (show (0 : Int) ≤ y1009 ∧ y1009 ≤ 255 by omega) ⟨by omega, by omega⟩
                have Fs1010 := fm_C (i := ((iI t 74)).toNat) (x := Int32.ofInt y1009) F (show 157 ∈ _ by decide)
                rw [← hs1010] at Fs1010
                have ws1010_74 : iI s1010 74 = iI t 74 := by rw [hs1010]; rfl
                refine z_aload_n X (x := A 179) (show cdA 191 104 = some (.aload_n 0, 1, 0, 0, 0) from rfl) (List.Mem.tail _ (List.Mem.head _)) ?_
                refine w_dup X.1 (ax_d X (show cdA 191 105 = some (.dup, 1, 0, 0, 0) from rfl)) rfl ?_
                refine z_getI X 179 (show cdA 191 106 = some (.getfield 175, 3, 12, 1, 0) from rfl) (by decide) rfl rfl ?_
                have b1011 : (0 : Int) ≤ iI s1010 74 ∧ iI s1010 74 ≤ 200 := Is1010.1 74
                refine z_const X (show cdA 191 109 = some (.iconst 1, 1, 0, 0, 0) from rfl) ?_
                refine z_add X (show cdA 191 110 = some (.iadd, 1, 0, 0, 0) from rfl) ?_
                refine s_putI X 179 (show cdA 191 111 = some (.putfield 175, 3, 12, 1, 0) from rfl) (by decide) rfl rfl (by decide) rfl rfl rfl ?_
                obtain ⟨s1012, hs1012⟩ : ∃ x0, x0 = uI s1010 74 (Int32.ofInt ((iI s1010 74) + 1)) := ⟨_, rfl⟩
                rw [← hs1012]
                have Is1012 : Bd s1012 := by rw [hs1012]; exact bd_I Is1010 (show (0 : Int) ≤ ((iI s1010 74) + 1) ∧ ((iI s1010 74) + 1) ≤ 200 by omega) ⟨by omega, by omega⟩
                have Fs1012 := fm_I (x := Int32.ofInt ((iI s1010 74) + 1)) Fs1010 (show 74 ∈ _ by decide)
                rw [← hs1012] at Fs1012
                have vs1012 : iI s1012 74 = ((iI s1010 74) + 1) := by rw [hs1012]; exact iI_u ⟨by omega, by omega⟩
                refine z_inc X (x := c) (lv' := [(6, .int (Int32.ofInt (c + 1))), (7, .int (Int32.ofInt x5v)), (0, .ref (A 179)), (1, .int (Int32.ofInt x1v)), (2, .int (Int32.ofInt x2v)), (3, .int (Int32.ofInt x3v)), (4, .int (Int32.ofInt x4v)), (5, .int (Int32.ofInt x5v))]) (show cdA 191 114 = some (.iinc 6 1, 3, 0, 0, 0) from rfl) (by decide) (List.Mem.tail _ (List.Mem.tail _ (List.Mem.tail _ (List.Mem.tail _ (List.Mem.tail _ (List.Mem.tail _ (List.Mem.tail _ (List.Mem.head _)))))))) (fun _ h => h) ?_
                refine z_goto X (t := 23) (show cdA 191 117 = some (.goto (-94), 3, 0, 0, 0) from rfl) (by decide) ?_
                refine WS_lv (lv := [(0, .ref (A 179)), (1, .int (Int32.ofInt x1v)), (2, .int (Int32.ofInt x2v)), (3, .int (Int32.ofInt x3v)), (4, .int (Int32.ofInt x4v)), (5, .int (Int32.ofInt x5v)), (6, .int (Int32.ofInt (c + 1)))]) (List.forall_mem_cons.mpr ⟨(List.Mem.tail _ (List.Mem.tail _ (List.Mem.head _))), (List.forall_mem_cons.mpr ⟨(List.Mem.tail _ (List.Mem.tail _ (List.Mem.tail _ (List.Mem.head _)))), (List.forall_mem_cons.mpr ⟨(List.Mem.tail _ (List.Mem.tail _ (List.Mem.tail _ (List.Mem.tail _ (List.Mem.head _))))), (List.forall_mem_cons.mpr ⟨(List.Mem.tail _ (List.Mem.tail _ (List.Mem.tail _ (List.Mem.tail _ (List.Mem.tail _ (List.Mem.head _)))))), (List.forall_mem_cons.mpr ⟨(List.Mem.tail _ (List.Mem.tail _ (List.Mem.tail _ (List.Mem.tail _ (List.Mem.tail _ (List.Mem.tail _ (List.Mem.head _))))))), (List.forall_mem_cons.mpr ⟨(List.Mem.tail _ (List.Mem.tail _ (List.Mem.tail _ (List.Mem.tail _ (List.Mem.tail _ (List.Mem.tail _ (List.Mem.tail _ (List.Mem.head _)))))))), (List.forall_mem_cons.mpr ⟨(List.Mem.head _), (fun q h => absurd h List.not_mem_nil)⟩)⟩)⟩)⟩)⟩)⟩)⟩) ?_
                exact ih _ x1v x2v x3v x4v x5v (c + 1) Is1012 Fs1012 (by omega) (by omega) kx
              ·
                refine z_load X (x := x4v) (show cdA 191 69 = some (.iload 4, 2, 0, 0, 0) from rfl) (List.Mem.tail _ (List.Mem.tail _ (List.Mem.tail _ (List.Mem.tail _ (List.Mem.head _))))) ?_
                refine z_goto X (t := 76) (show cdA 191 71 = some (.goto 5, 3, 0, 0, 0) from rfl) (by decide) ?_
                refine z_store X (lv' := [(7, .int (Int32.ofInt x4v)), (0, .ref (A 179)), (1, .int (Int32.ofInt x1v)), (2, .int (Int32.ofInt x2v)), (3, .int (Int32.ofInt x3v)), (4, .int (Int32.ofInt x4v)), (5, .int (Int32.ofInt x5v)), (6, .int (Int32.ofInt c))]) (show cdA 191 76 = some (.istore 7, 2, 0, 0, 0) from rfl) (by decide) (fun _ h => h) ?_
                refine z_aload_n X (x := A 179) (show cdA 191 78 = some (.aload_n 0, 1, 0, 0, 0) from rfl) (List.Mem.tail _ (List.Mem.head _)) ?_
                refine s_getR X 179 (show cdA 191 79 = some (.getfield 13, 3, 12, 9, 0) from rfl) (by decide) rfl rfl ?_
                refine z_aload_n X (x := A 179) (show cdA 191 82 = some (.aload_n 0, 1, 0, 0, 0) from rfl) (List.Mem.tail _ (List.Mem.head _)) ?_
                refine z_getI X 179 (show cdA 191 83 = some (.getfield 175, 3, 12, 1, 0) from rfl) (by decide) rfl rfl ?_
                have b1013 : (0 : Int) ≤ iI t 74 ∧ iI t 74 ≤ 200 := I.1 74
                refine z_load X (x := x4v) (show cdA 191 86 = some (.iload 7, 2, 0, 0, 0) from rfl) (List.Mem.head _) ?_
                refine z_bipush X (show cdA 191 88 = some (.bipush 24, 2, 0, 0, 24) from rfl) ?_
                refine z_bipush X (show cdA 191 90 = some (.bipush 8, 2, 0, 0, 8) from rfl) ?_
                refine z_load X (x := c) (show cdA 191 92 = some (.iload 6, 2, 0, 0, 0) from rfl) (List.Mem.tail _ (List.Mem.tail _ (List.Mem.tail _ (List.Mem.tail _ (List.Mem.tail _ (List.Mem.tail _ (List.Mem.tail _ (List.Mem.head _)))))))) ?_
                refine z_const X (show cdA 191 94 = some (.iconst 4, 1, 0, 0, 0) from rfl) ?_
                refine z_mod X (show cdA 191 95 = some (.irem, 1, 0, 0, 0) from rfl) (by omega) ⟨by omega, by omega⟩ (by omega) ⟨by omega, by omega⟩ ?_
                refine z_mul X (show cdA 191 96 = some (.imul, 1, 0, 0, 0) from rfl) ?_
                refine z_sub X (show cdA 191 97 = some (.isub, 1, 0, 0, 0) from rfl) ?_
                refine z_bshr X (show cdA 191 98 = some (.ishr, 1, 0, 0, 0) from rfl) ?_
                refine z_any (fun y1014 hy1014 => ?_)
                refine z_sipush X (show cdA 191 99 = some (.sipush 255, 3, 0, 0, 255) from rfl) ?_
                refine z_andm X (show cdA 191 102 = some (.iand, 1, 0, 0, 0) from rfl) (by omega) (by omega) (fun y1015 hy1015 gy1015 => ?_)
                refine z_ast X 180 (show cdA 191 103 = some (.iastore, 1, 0, 0, 0) from rfl) (by decide) rfl (by omega) (show (iI t 74) < 200 by omega) (by decide) ?_
                obtain ⟨s1016, hs1016⟩ : ∃ x0, x0 = uC t 157 ((iI t 74)).toNat (Int32.ofInt y1015) := ⟨_, rfl⟩
                rw [← hs1016]
                have Is1016 : Bd s1016 := by rw [hs1016]; exact bd_C I (show (0 : Int) ≤ y1015 ∧ y1015 ≤ 255 by omega) ⟨by omega, by omega⟩
                have Fs1016 := fm_C (i := ((iI t 74)).toNat) (x := Int32.ofInt y1015) F (show 157 ∈ _ by decide)
                rw [← hs1016] at Fs1016
                have ws1016_74 : iI s1016 74 = iI t 74 := by rw [hs1016]; rfl
                refine z_aload_n X (x := A 179) (show cdA 191 104 = some (.aload_n 0, 1, 0, 0, 0) from rfl) (List.Mem.tail _ (List.Mem.head _)) ?_
                refine w_dup X.1 (ax_d X (show cdA 191 105 = some (.dup, 1, 0, 0, 0) from rfl)) rfl ?_
                refine z_getI X 179 (show cdA 191 106 = some (.getfield 175, 3, 12, 1, 0) from rfl) (by decide) rfl rfl ?_
                have b1017 : (0 : Int) ≤ iI s1016 74 ∧ iI s1016 74 ≤ 200 := Is1016.1 74
                refine z_const X (show cdA 191 109 = some (.iconst 1, 1, 0, 0, 0) from rfl) ?_
                refine z_add X (show cdA 191 110 = some (.iadd, 1, 0, 0, 0) from rfl) ?_
                refine s_putI X 179 (show cdA 191 111 = some (.putfield 175, 3, 12, 1, 0) from rfl) (by decide) rfl rfl (by decide) rfl rfl rfl ?_
                obtain ⟨s1018, hs1018⟩ : ∃ x0, x0 = uI s1016 74 (Int32.ofInt ((iI s1016 74) + 1)) := ⟨_, rfl⟩
                rw [← hs1018]
                have Is1018 : Bd s1018 := by rw [hs1018]; exact bd_I Is1016 (show (0 : Int) ≤ ((iI s1016 74) + 1) ∧ ((iI s1016 74) + 1) ≤ 200 by omega) ⟨by omega, by omega⟩
                have Fs1018 := fm_I (x := Int32.ofInt ((iI s1016 74) + 1)) Fs1016 (show 74 ∈ _ by decide)
                rw [← hs1018] at Fs1018
                have vs1018 : iI s1018 74 = ((iI s1016 74) + 1) := by rw [hs1018]; exact iI_u ⟨by omega, by omega⟩
                refine z_inc X (x := c) (lv' := [(6, .int (Int32.ofInt (c + 1))), (7, .int (Int32.ofInt x4v)), (0, .ref (A 179)), (1, .int (Int32.ofInt x1v)), (2, .int (Int32.ofInt x2v)), (3, .int (Int32.ofInt x3v)), (4, .int (Int32.ofInt x4v)), (5, .int (Int32.ofInt x5v))]) (show cdA 191 114 = some (.iinc 6 1, 3, 0, 0, 0) from rfl) (by decide) (List.Mem.tail _ (List.Mem.tail _ (List.Mem.tail _ (List.Mem.tail _ (List.Mem.tail _ (List.Mem.tail _ (List.Mem.tail _ (List.Mem.head _)))))))) (fun _ h => h) ?_
                refine z_goto X (t := 23) (show cdA 191 117 = some (.goto (-94), 3, 0, 0, 0) from rfl) (by decide) ?_
                refine WS_lv (lv := [(0, .ref (A 179)), (1, .int (Int32.ofInt x1v)), (2, .int (Int32.ofInt x2v)), (3, .int (Int32.ofInt x3v)), (4, .int (Int32.ofInt x4v)), (5, .int (Int32.ofInt x5v)), (6, .int (Int32.ofInt (c + 1)))]) (List.forall_mem_cons.mpr ⟨(List.Mem.tail _ (List.Mem.tail _ (List.Mem.head _))), (List.forall_mem_cons.mpr ⟨(List.Mem.tail _ (List.Mem.tail _ (List.Mem.tail _ (List.Mem.head _)))), (List.forall_mem_cons.mpr ⟨(List.Mem.tail _ (List.Mem.tail _ (List.Mem.tail _ (List.Mem.tail _ (List.Mem.head _))))), (List.forall_mem_cons.mpr ⟨(List.Mem.tail _ (List.Mem.tail _ (List.Mem.tail _ (List.Mem.tail _ (List.Mem.tail _ (List.Mem.head _)))))), (List.forall_mem_cons.mpr ⟨(List.Mem.tail _ (List.Mem.tail _ (List.Mem.tail _ (List.Mem.tail _ (List.Mem.tail _ (List.Mem.tail _ (List.Mem.head _))))))), (List.forall_mem_cons.mpr ⟨(List.Mem.tail _ (List.Mem.tail _ (List.Mem.tail _ (List.Mem.tail _ (List.Mem.tail _ (List.Mem.tail _ (List.Mem.tail _ (List.Mem.head _)))))))), (List.forall_mem_cons.mpr ⟨(List.Mem.head _), (fun q h => absurd h List.not_mem_nil)⟩)⟩)⟩)⟩)⟩)⟩)⟩) ?_
                exact ih _ x1v x2v x3v x4v x5v (c + 1) Is1018 Fs1018 (by omega) (by omega) kx
            ·
              refine z_load_n X (x := x3v) (show cdA 191 58 = some (.iload_n 3, 1, 0, 0, 0) from rfl) (List.Mem.tail _ (List.Mem.tail _ (List.Mem.tail _ (List.Mem.head _)))) ?_
              refine z_goto X (t := 76) (show cdA 191 59 = some (.goto 17, 3, 0, 0, 0) from rfl) (by decide) ?_
              refine z_store X (lv' := [(7, .int (Int32.ofInt x3v)), (0, .ref (A 179)), (1, .int (Int32.ofInt x1v)), (2, .int (Int32.ofInt x2v)), (3, .int (Int32.ofInt x3v)), (4, .int (Int32.ofInt x4v)), (5, .int (Int32.ofInt x5v)), (6, .int (Int32.ofInt c))]) (show cdA 191 76 = some (.istore 7, 2, 0, 0, 0) from rfl) (by decide) (fun _ h => h) ?_
              refine z_aload_n X (x := A 179) (show cdA 191 78 = some (.aload_n 0, 1, 0, 0, 0) from rfl) (List.Mem.tail _ (List.Mem.head _)) ?_
              refine s_getR X 179 (show cdA 191 79 = some (.getfield 13, 3, 12, 9, 0) from rfl) (by decide) rfl rfl ?_
              refine z_aload_n X (x := A 179) (show cdA 191 82 = some (.aload_n 0, 1, 0, 0, 0) from rfl) (List.Mem.tail _ (List.Mem.head _)) ?_
              refine z_getI X 179 (show cdA 191 83 = some (.getfield 175, 3, 12, 1, 0) from rfl) (by decide) rfl rfl ?_
              have b1019 : (0 : Int) ≤ iI t 74 ∧ iI t 74 ≤ 200 := I.1 74
              refine z_load X (x := x3v) (show cdA 191 86 = some (.iload 7, 2, 0, 0, 0) from rfl) (List.Mem.head _) ?_
              refine z_bipush X (show cdA 191 88 = some (.bipush 24, 2, 0, 0, 24) from rfl) ?_
              refine z_bipush X (show cdA 191 90 = some (.bipush 8, 2, 0, 0, 8) from rfl) ?_
              refine z_load X (x := c) (show cdA 191 92 = some (.iload 6, 2, 0, 0, 0) from rfl) (List.Mem.tail _ (List.Mem.tail _ (List.Mem.tail _ (List.Mem.tail _ (List.Mem.tail _ (List.Mem.tail _ (List.Mem.tail _ (List.Mem.head _)))))))) ?_
              refine z_const X (show cdA 191 94 = some (.iconst 4, 1, 0, 0, 0) from rfl) ?_
              refine z_mod X (show cdA 191 95 = some (.irem, 1, 0, 0, 0) from rfl) (by omega) ⟨by omega, by omega⟩ (by omega) ⟨by omega, by omega⟩ ?_
              refine z_mul X (show cdA 191 96 = some (.imul, 1, 0, 0, 0) from rfl) ?_
              refine z_sub X (show cdA 191 97 = some (.isub, 1, 0, 0, 0) from rfl) ?_
              refine z_bshr X (show cdA 191 98 = some (.ishr, 1, 0, 0, 0) from rfl) ?_
              refine z_any (fun y1020 hy1020 => ?_)
              refine z_sipush X (show cdA 191 99 = some (.sipush 255, 3, 0, 0, 255) from rfl) ?_
              refine z_andm X (show cdA 191 102 = some (.iand, 1, 0, 0, 0) from rfl) (by omega) (by omega) (fun y1021 hy1021 gy1021 => ?_)
              refine z_ast X 180 (show cdA 191 103 = some (.iastore, 1, 0, 0, 0) from rfl) (by decide) rfl (by omega) (show (iI t 74) < 200 by omega) (by decide) ?_
              obtain ⟨s1022, hs1022⟩ : ∃ x0, x0 = uC t 157 ((iI t 74)).toNat (Int32.ofInt y1021) := ⟨_, rfl⟩
              rw [← hs1022]
              have Is1022 : Bd s1022 := by rw [hs1022]; exact bd_C I (show (0 : Int) ≤ y1021 ∧ y1021 ≤ 255 by omega) ⟨by omega, by omega⟩
              have Fs1022 := fm_C (i := ((iI t 74)).toNat) (x := Int32.ofInt y1021) F (show 157 ∈ _ by decide)
              rw [← hs1022] at Fs1022
              have ws1022_74 : iI s1022 74 = iI t 74 := by rw [hs1022]; rfl
              refine z_aload_n X (x := A 179) (show cdA 191 104 = some (.aload_n 0, 1, 0, 0, 0) from rfl) (List.Mem.tail _ (List.Mem.head _)) ?_
              refine w_dup X.1 (ax_d X (show cdA 191 105 = some (.dup, 1, 0, 0, 0) from rfl)) rfl ?_
              refine z_getI X 179 (show cdA 191 106 = some (.getfield 175, 3, 12, 1, 0) from rfl) (by decide) rfl rfl ?_
              have b1023 : (0 : Int) ≤ iI s1022 74 ∧ iI s1022 74 ≤ 200 := Is1022.1 74
              refine z_const X (show cdA 191 109 = some (.iconst 1, 1, 0, 0, 0) from rfl) ?_
              refine z_add X (show cdA 191 110 = some (.iadd, 1, 0, 0, 0) from rfl) ?_
              refine s_putI X 179 (show cdA 191 111 = some (.putfield 175, 3, 12, 1, 0) from rfl) (by decide) rfl rfl (by decide) rfl rfl rfl ?_
              obtain ⟨s1024, hs1024⟩ : ∃ x0, x0 = uI s1022 74 (Int32.ofInt ((iI s1022 74) + 1)) := ⟨_, rfl⟩
              rw [← hs1024]
              have Is1024 : Bd s1024 := by rw [hs1024]; exact bd_I Is1022 (show (0 : Int) ≤ ((iI s1022 74) + 1) ∧ ((iI s1022 74) + 1) ≤ 200 by omega) ⟨by omega, by omega⟩
              have Fs1024 := fm_I (x := Int32.ofInt ((iI s1022 74) + 1)) Fs1022 (show 74 ∈ _ by decide)
              rw [← hs1024] at Fs1024
              have vs1024 : iI s1024 74 = ((iI s1022 74) + 1) := by rw [hs1024]; exact iI_u ⟨by omega, by omega⟩
              refine z_inc X (x := c) (lv' := [(6, .int (Int32.ofInt (c + 1))), (7, .int (Int32.ofInt x3v)), (0, .ref (A 179)), (1, .int (Int32.ofInt x1v)), (2, .int (Int32.ofInt x2v)), (3, .int (Int32.ofInt x3v)), (4, .int (Int32.ofInt x4v)), (5, .int (Int32.ofInt x5v))]) (show cdA 191 114 = some (.iinc 6 1, 3, 0, 0, 0) from rfl) (by decide) (List.Mem.tail _ (List.Mem.tail _ (List.Mem.tail _ (List.Mem.tail _ (List.Mem.tail _ (List.Mem.tail _ (List.Mem.tail _ (List.Mem.head _)))))))) (fun _ h => h) ?_
              refine z_goto X (t := 23) (show cdA 191 117 = some (.goto (-94), 3, 0, 0, 0) from rfl) (by decide) ?_
              refine WS_lv (lv := [(0, .ref (A 179)), (1, .int (Int32.ofInt x1v)), (2, .int (Int32.ofInt x2v)), (3, .int (Int32.ofInt x3v)), (4, .int (Int32.ofInt x4v)), (5, .int (Int32.ofInt x5v)), (6, .int (Int32.ofInt (c + 1)))]) (List.forall_mem_cons.mpr ⟨(List.Mem.tail _ (List.Mem.tail _ (List.Mem.head _))), (List.forall_mem_cons.mpr ⟨(List.Mem.tail _ (List.Mem.tail _ (List.Mem.tail _ (List.Mem.head _)))), (List.forall_mem_cons.mpr ⟨(List.Mem.tail _ (List.Mem.tail _ (List.Mem.tail _ (List.Mem.tail _ (List.Mem.head _))))), (List.forall_mem_cons.mpr ⟨(List.Mem.tail _ (List.Mem.tail _ (List.Mem.tail _ (List.Mem.tail _ (List.Mem.tail _ (List.Mem.head _)))))), (List.forall_mem_cons.mpr ⟨(List.Mem.tail _ (List.Mem.tail _ (List.Mem.tail _ (List.Mem.tail _ (List.Mem.tail _ (List.Mem.tail _ (List.Mem.head _))))))), (List.forall_mem_cons.mpr ⟨(List.Mem.tail _ (List.Mem.tail _ (List.Mem.tail _ (List.Mem.tail _ (List.Mem.tail _ (List.Mem.tail _ (List.Mem.tail _ (List.Mem.head _)))))))), (List.forall_mem_cons.mpr ⟨(List.Mem.head _), (fun q h => absurd h List.not_mem_nil)⟩)⟩)⟩)⟩)⟩)⟩)⟩) ?_
              exact ih _ x1v x2v x3v x4v x5v (c + 1) Is1024 Fs1024 (by omega) (by omega) kx
          ·
            refine z_load_n X (x := x2v) (show cdA 191 47 = some (.iload_n 2, 1, 0, 0, 0) from rfl) (List.Mem.tail _ (List.Mem.tail _ (List.Mem.head _))) ?_
            refine z_goto X (t := 76) (show cdA 191 48 = some (.goto 28, 3, 0, 0, 0) from rfl) (by decide) ?_
            refine z_store X (lv' := [(7, .int (Int32.ofInt x2v)), (0, .ref (A 179)), (1, .int (Int32.ofInt x1v)), (2, .int (Int32.ofInt x2v)), (3, .int (Int32.ofInt x3v)), (4, .int (Int32.ofInt x4v)), (5, .int (Int32.ofInt x5v)), (6, .int (Int32.ofInt c))]) (show cdA 191 76 = some (.istore 7, 2, 0, 0, 0) from rfl) (by decide) (fun _ h => h) ?_
            refine z_aload_n X (x := A 179) (show cdA 191 78 = some (.aload_n 0, 1, 0, 0, 0) from rfl) (List.Mem.tail _ (List.Mem.head _)) ?_
            refine s_getR X 179 (show cdA 191 79 = some (.getfield 13, 3, 12, 9, 0) from rfl) (by decide) rfl rfl ?_
            refine z_aload_n X (x := A 179) (show cdA 191 82 = some (.aload_n 0, 1, 0, 0, 0) from rfl) (List.Mem.tail _ (List.Mem.head _)) ?_
            refine z_getI X 179 (show cdA 191 83 = some (.getfield 175, 3, 12, 1, 0) from rfl) (by decide) rfl rfl ?_
            have b1025 : (0 : Int) ≤ iI t 74 ∧ iI t 74 ≤ 200 := I.1 74
            refine z_load X (x := x2v) (show cdA 191 86 = some (.iload 7, 2, 0, 0, 0) from rfl) (List.Mem.head _) ?_
            refine z_bipush X (show cdA 191 88 = some (.bipush 24, 2, 0, 0, 24) from rfl) ?_
            refine z_bipush X (show cdA 191 90 = some (.bipush 8, 2, 0, 0, 8) from rfl) ?_
            refine z_load X (x := c) (show cdA 191 92 = some (.iload 6, 2, 0, 0, 0) from rfl) (List.Mem.tail _ (List.Mem.tail _ (List.Mem.tail _ (List.Mem.tail _ (List.Mem.tail _ (List.Mem.tail _ (List.Mem.tail _ (List.Mem.head _)))))))) ?_
            refine z_const X (show cdA 191 94 = some (.iconst 4, 1, 0, 0, 0) from rfl) ?_
            refine z_mod X (show cdA 191 95 = some (.irem, 1, 0, 0, 0) from rfl) (by omega) ⟨by omega, by omega⟩ (by omega) ⟨by omega, by omega⟩ ?_
            refine z_mul X (show cdA 191 96 = some (.imul, 1, 0, 0, 0) from rfl) ?_
            refine z_sub X (show cdA 191 97 = some (.isub, 1, 0, 0, 0) from rfl) ?_
            refine z_bshr X (show cdA 191 98 = some (.ishr, 1, 0, 0, 0) from rfl) ?_
            refine z_any (fun y1026 hy1026 => ?_)
            refine z_sipush X (show cdA 191 99 = some (.sipush 255, 3, 0, 0, 255) from rfl) ?_
            refine z_andm X (show cdA 191 102 = some (.iand, 1, 0, 0, 0) from rfl) (by omega) (by omega) (fun y1027 hy1027 gy1027 => ?_)
            refine z_ast X 180 (show cdA 191 103 = some (.iastore, 1, 0, 0, 0) from rfl) (by decide) rfl (by omega) (show (iI t 74) < 200 by omega) (by decide) ?_
            obtain ⟨s1028, hs1028⟩ : ∃ x0, x0 = uC t 157 ((iI t 74)).toNat (Int32.ofInt y1027) := ⟨_, rfl⟩
            rw [← hs1028]
            have Is1028 : Bd s1028 := by rw [hs1028]; exact bd_C I (show (0 : Int) ≤ y1027 ∧ y1027 ≤ 255 by omega) ⟨by omega, by omega⟩
            have Fs1028 := fm_C (i := ((iI t 74)).toNat) (x := Int32.ofInt y1027) F (show 157 ∈ _ by decide)
            rw [← hs1028] at Fs1028
            have ws1028_74 : iI s1028 74 = iI t 74 := by rw [hs1028]; rfl
            refine z_aload_n X (x := A 179) (show cdA 191 104 = some (.aload_n 0, 1, 0, 0, 0) from rfl) (List.Mem.tail _ (List.Mem.head _)) ?_
            refine w_dup X.1 (ax_d X (show cdA 191 105 = some (.dup, 1, 0, 0, 0) from rfl)) rfl ?_
            refine z_getI X 179 (show cdA 191 106 = some (.getfield 175, 3, 12, 1, 0) from rfl) (by decide) rfl rfl ?_
            have b1029 : (0 : Int) ≤ iI s1028 74 ∧ iI s1028 74 ≤ 200 := Is1028.1 74
            refine z_const X (show cdA 191 109 = some (.iconst 1, 1, 0, 0, 0) from rfl) ?_
            refine z_add X (show cdA 191 110 = some (.iadd, 1, 0, 0, 0) from rfl) ?_
            refine s_putI X 179 (show cdA 191 111 = some (.putfield 175, 3, 12, 1, 0) from rfl) (by decide) rfl rfl (by decide) rfl rfl rfl ?_
            obtain ⟨s1030, hs1030⟩ : ∃ x0, x0 = uI s1028 74 (Int32.ofInt ((iI s1028 74) + 1)) := ⟨_, rfl⟩
            rw [← hs1030]
            have Is1030 : Bd s1030 := by rw [hs1030]; exact bd_I Is1028 (show (0 : Int) ≤ ((iI s1028 74) + 1) ∧ ((iI s1028 74) + 1) ≤ 200 by omega) ⟨by omega, by omega⟩
            have Fs1030 := fm_I (x := Int32.ofInt ((iI s1028 74) + 1)) Fs1028 (show 74 ∈ _ by decide)
            rw [← hs1030] at Fs1030
            have vs1030 : iI s1030 74 = ((iI s1028 74) + 1) := by rw [hs1030]; exact iI_u ⟨by omega, by omega⟩
            refine z_inc X (x := c) (lv' := [(6, .int (Int32.ofInt (c + 1))), (7, .int (Int32.ofInt x2v)), (0, .ref (A 179)), (1, .int (Int32.ofInt x1v)), (2, .int (Int32.ofInt x2v)), (3, .int (Int32.ofInt x3v)), (4, .int (Int32.ofInt x4v)), (5, .int (Int32.ofInt x5v))]) (show cdA 191 114 = some (.iinc 6 1, 3, 0, 0, 0) from rfl) (by decide) (List.Mem.tail _ (List.Mem.tail _ (List.Mem.tail _ (List.Mem.tail _ (List.Mem.tail _ (List.Mem.tail _ (List.Mem.tail _ (List.Mem.head _)))))))) (fun _ h => h) ?_
            refine z_goto X (t := 23) (show cdA 191 117 = some (.goto (-94), 3, 0, 0, 0) from rfl) (by decide) ?_
            refine WS_lv (lv := [(0, .ref (A 179)), (1, .int (Int32.ofInt x1v)), (2, .int (Int32.ofInt x2v)), (3, .int (Int32.ofInt x3v)), (4, .int (Int32.ofInt x4v)), (5, .int (Int32.ofInt x5v)), (6, .int (Int32.ofInt (c + 1)))]) (List.forall_mem_cons.mpr ⟨(List.Mem.tail _ (List.Mem.tail _ (List.Mem.head _))), (List.forall_mem_cons.mpr ⟨(List.Mem.tail _ (List.Mem.tail _ (List.Mem.tail _ (List.Mem.head _)))), (List.forall_mem_cons.mpr ⟨(List.Mem.tail _ (List.Mem.tail _ (List.Mem.tail _ (List.Mem.tail _ (List.Mem.head _))))), (List.forall_mem_cons.mpr ⟨(List.Mem.tail _ (List.Mem.tail _ (List.Mem.tail _ (List.Mem.tail _ (List.Mem.tail _ (List.Mem.head _)))))), (List.forall_mem_cons.mpr ⟨(List.Mem.tail _ (List.Mem.tail _ (List.Mem.tail _ (List.Mem.tail _ (List.Mem.tail _ (List.Mem.tail _ (List.Mem.head _))))))), (List.forall_mem_cons.mpr ⟨(List.Mem.tail _ (List.Mem.tail _ (List.Mem.tail _ (List.Mem.tail _ (List.Mem.tail _ (List.Mem.tail _ (List.Mem.tail _ (List.Mem.head _)))))))), (List.forall_mem_cons.mpr ⟨(List.Mem.head _), (fun q h => absurd h List.not_mem_nil)⟩)⟩)⟩)⟩)⟩)⟩)⟩) ?_
            exact ih _ x1v x2v x3v x4v x5v (c + 1) Is1030 Fs1030 (by omega) (by omega) kx
        ·
          refine z_load_n X (x := x1v) (show cdA 191 36 = some (.iload_n 1, 1, 0, 0, 0) from rfl) (List.Mem.tail _ (List.Mem.head _)) ?_
          refine z_goto X (t := 76) (show cdA 191 37 = some (.goto 39, 3, 0, 0, 0) from rfl) (by decide) ?_
          refine z_store X (lv' := [(7, .int (Int32.ofInt x1v)), (0, .ref (A 179)), (1, .int (Int32.ofInt x1v)), (2, .int (Int32.ofInt x2v)), (3, .int (Int32.ofInt x3v)), (4, .int (Int32.ofInt x4v)), (5, .int (Int32.ofInt x5v)), (6, .int (Int32.ofInt c))]) (show cdA 191 76 = some (.istore 7, 2, 0, 0, 0) from rfl) (by decide) (fun _ h => h) ?_
          refine z_aload_n X (x := A 179) (show cdA 191 78 = some (.aload_n 0, 1, 0, 0, 0) from rfl) (List.Mem.tail _ (List.Mem.head _)) ?_
          refine s_getR X 179 (show cdA 191 79 = some (.getfield 13, 3, 12, 9, 0) from rfl) (by decide) rfl rfl ?_
          refine z_aload_n X (x := A 179) (show cdA 191 82 = some (.aload_n 0, 1, 0, 0, 0) from rfl) (List.Mem.tail _ (List.Mem.head _)) ?_
          refine z_getI X 179 (show cdA 191 83 = some (.getfield 175, 3, 12, 1, 0) from rfl) (by decide) rfl rfl ?_
          have b1031 : (0 : Int) ≤ iI t 74 ∧ iI t 74 ≤ 200 := I.1 74
          refine z_load X (x := x1v) (show cdA 191 86 = some (.iload 7, 2, 0, 0, 0) from rfl) (List.Mem.head _) ?_
          refine z_bipush X (show cdA 191 88 = some (.bipush 24, 2, 0, 0, 24) from rfl) ?_
          refine z_bipush X (show cdA 191 90 = some (.bipush 8, 2, 0, 0, 8) from rfl) ?_
          refine z_load X (x := c) (show cdA 191 92 = some (.iload 6, 2, 0, 0, 0) from rfl) (List.Mem.tail _ (List.Mem.tail _ (List.Mem.tail _ (List.Mem.tail _ (List.Mem.tail _ (List.Mem.tail _ (List.Mem.tail _ (List.Mem.head _)))))))) ?_
          refine z_const X (show cdA 191 94 = some (.iconst 4, 1, 0, 0, 0) from rfl) ?_
          refine z_mod X (show cdA 191 95 = some (.irem, 1, 0, 0, 0) from rfl) (by omega) ⟨by omega, by omega⟩ (by omega) ⟨by omega, by omega⟩ ?_
          refine z_mul X (show cdA 191 96 = some (.imul, 1, 0, 0, 0) from rfl) ?_
          refine z_sub X (show cdA 191 97 = some (.isub, 1, 0, 0, 0) from rfl) ?_
          refine z_bshr X (show cdA 191 98 = some (.ishr, 1, 0, 0, 0) from rfl) ?_
          refine z_any (fun y1032 hy1032 => ?_)
          refine z_sipush X (show cdA 191 99 = some (.sipush 255, 3, 0, 0, 255) from rfl) ?_
          refine z_andm X (show cdA 191 102 = some (.iand, 1, 0, 0, 0) from rfl) (by omega) (by omega) (fun y1033 hy1033 gy1033 => ?_)
          refine z_ast X 180 (show cdA 191 103 = some (.iastore, 1, 0, 0, 0) from rfl) (by decide) rfl (by omega) (show (iI t 74) < 200 by omega) (by decide) ?_
          obtain ⟨s1034, hs1034⟩ : ∃ x0, x0 = uC t 157 ((iI t 74)).toNat (Int32.ofInt y1033) := ⟨_, rfl⟩
          rw [← hs1034]
          have Is1034 : Bd s1034 := by rw [hs1034]; exact bd_C I (show (0 : Int) ≤ y1033 ∧ y1033 ≤ 255 by omega) ⟨by omega, by omega⟩
          have Fs1034 := fm_C (i := ((iI t 74)).toNat) (x := Int32.ofInt y1033) F (show 157 ∈ _ by decide)
          rw [← hs1034] at Fs1034
          have ws1034_74 : iI s1034 74 = iI t 74 := by rw [hs1034]; rfl
          refine z_aload_n X (x := A 179) (show cdA 191 104 = some (.aload_n 0, 1, 0, 0, 0) from rfl) (List.Mem.tail _ (List.Mem.head _)) ?_
          refine w_dup X.1 (ax_d X (show cdA 191 105 = some (.dup, 1, 0, 0, 0) from rfl)) rfl ?_
          refine z_getI X 179 (show cdA 191 106 = some (.getfield 175, 3, 12, 1, 0) from rfl) (by decide) rfl rfl ?_
          have b1035 : (0 : Int) ≤ iI s1034 74 ∧ iI s1034 74 ≤ 200 := Is1034.1 74
          refine z_const X (show cdA 191 109 = some (.iconst 1, 1, 0, 0, 0) from rfl) ?_
          refine z_add X (show cdA 191 110 = some (.iadd, 1, 0, 0, 0) from rfl) ?_
          refine s_putI X 179 (show cdA 191 111 = some (.putfield 175, 3, 12, 1, 0) from rfl) (by decide) rfl rfl (by decide) rfl rfl rfl ?_
          obtain ⟨s1036, hs1036⟩ : ∃ x0, x0 = uI s1034 74 (Int32.ofInt ((iI s1034 74) + 1)) := ⟨_, rfl⟩
          rw [← hs1036]
          have Is1036 : Bd s1036 := by rw [hs1036]; exact bd_I Is1034 (show (0 : Int) ≤ ((iI s1034 74) + 1) ∧ ((iI s1034 74) + 1) ≤ 200 by omega) ⟨by omega, by omega⟩
          have Fs1036 := fm_I (x := Int32.ofInt ((iI s1034 74) + 1)) Fs1034 (show 74 ∈ _ by decide)
          rw [← hs1036] at Fs1036
          have vs1036 : iI s1036 74 = ((iI s1034 74) + 1) := by rw [hs1036]; exact iI_u ⟨by omega, by omega⟩
          refine z_inc X (x := c) (lv' := [(6, .int (Int32.ofInt (c + 1))), (7, .int (Int32.ofInt x1v)), (0, .ref (A 179)), (1, .int (Int32.ofInt x1v)), (2, .int (Int32.ofInt x2v)), (3, .int (Int32.ofInt x3v)), (4, .int (Int32.ofInt x4v)), (5, .int (Int32.ofInt x5v))]) (show cdA 191 114 = some (.iinc 6 1, 3, 0, 0, 0) from rfl) (by decide) (List.Mem.tail _ (List.Mem.tail _ (List.Mem.tail _ (List.Mem.tail _ (List.Mem.tail _ (List.Mem.tail _ (List.Mem.tail _ (List.Mem.head _)))))))) (fun _ h => h) ?_
          refine z_goto X (t := 23) (show cdA 191 117 = some (.goto (-94), 3, 0, 0, 0) from rfl) (by decide) ?_
          refine WS_lv (lv := [(0, .ref (A 179)), (1, .int (Int32.ofInt x1v)), (2, .int (Int32.ofInt x2v)), (3, .int (Int32.ofInt x3v)), (4, .int (Int32.ofInt x4v)), (5, .int (Int32.ofInt x5v)), (6, .int (Int32.ofInt (c + 1)))]) (List.forall_mem_cons.mpr ⟨(List.Mem.tail _ (List.Mem.tail _ (List.Mem.head _))), (List.forall_mem_cons.mpr ⟨(List.Mem.tail _ (List.Mem.tail _ (List.Mem.tail _ (List.Mem.head _)))), (List.forall_mem_cons.mpr ⟨(List.Mem.tail _ (List.Mem.tail _ (List.Mem.tail _ (List.Mem.tail _ (List.Mem.head _))))), (List.forall_mem_cons.mpr ⟨(List.Mem.tail _ (List.Mem.tail _ (List.Mem.tail _ (List.Mem.tail _ (List.Mem.tail _ (List.Mem.head _)))))), (List.forall_mem_cons.mpr ⟨(List.Mem.tail _ (List.Mem.tail _ (List.Mem.tail _ (List.Mem.tail _ (List.Mem.tail _ (List.Mem.tail _ (List.Mem.head _))))))), (List.forall_mem_cons.mpr ⟨(List.Mem.tail _ (List.Mem.tail _ (List.Mem.tail _ (List.Mem.tail _ (List.Mem.tail _ (List.Mem.tail _ (List.Mem.tail _ (List.Mem.head _)))))))), (List.forall_mem_cons.mpr ⟨(List.Mem.head _), (fun q h => absurd h List.not_mem_nil)⟩)⟩)⟩)⟩)⟩)⟩)⟩) ?_
          exact ih _ x1v x2v x3v x4v x5v (c + 1) Is1036 Fs1036 (by omega) (by omega) kx
  refine z_aload_n X (x := A 179) (show cdA 191 0 = some (.aload_n 0, 1, 0, 0, 0) from rfl) (List.Mem.head _) ?_
  refine z_const X (show cdA 191 1 = some (.iconst 0, 1, 0, 0, 0) from rfl) ?_
  refine s_putI X 179 (show cdA 191 2 = some (.putfield 172, 3, 12, 0, 0) from rfl) (by decide) rfl rfl (by decide) rfl rfl rfl ?_
  obtain ⟨s2, hs2⟩ : ∃ x0, x0 = uI s 73 (Int32.ofInt 0) := ⟨_, rfl⟩
  rw [← hs2]
  have Is2 : Bd s2 := by rw [hs2]; exact bd_I I (show (0 : Int) ≤ 0 ∧ 0 ≤ 3 by omega) ⟨by omega, by omega⟩
  have Fs2 := fm_I (x := Int32.ofInt 0) F (show 73 ∈ _ by decide)
  rw [← hs2] at Fs2
  have vs2 : iI s2 73 = 0 := by rw [hs2]; exact iI_u ⟨by omega, by omega⟩
  have ws2_74 : iI s2 74 = iI s 74 := by rw [hs2]; rfl
  refine z_aload_n X (x := A 179) (show cdA 191 5 = some (.aload_n 0, 1, 0, 0, 0) from rfl) (List.Mem.head _) ?_
  refine z_getI X 179 (show cdA 191 6 = some (.getfield 175, 3, 12, 1, 0) from rfl) (by decide) rfl rfl ?_
  have b3 : (0 : Int) ≤ iI s2 74 ∧ iI s2 74 ≤ 200 := Is2.1 74
  refine z_bipush X (show cdA 191 9 = some (.bipush 20, 2, 0, 0, 20) from rfl) ?_
  refine z_add X (show cdA 191 11 = some (.iadd, 1, 0, 0, 0) from rfl) ?_
  refine z_sipush X (show cdA 191 12 = some (.sipush 200, 3, 0, 0, 200) from rfl) ?_
  refine z_icmp_le X (t := 20) (show cdA 191 15 = some (.if_icmp .le 5, 3, 5, 0, 0) from rfl) (by decide) ⟨by omega, by omega⟩ ⟨by omega, by omega⟩ (fun g4 => ?_) (fun g4 => ?_)
  ·
    refine z_const X (show cdA 191 20 = some (.iconst 0, 1, 0, 0, 0) from rfl) ?_
    refine z_store X (lv' := [(6, .int (Int32.ofInt 0)), (0, .ref (A 179)), (1, .int (Int32.ofInt x1)), (2, .int (Int32.ofInt x2)), (3, .int (Int32.ofInt x3)), (4, .int (Int32.ofInt x4)), (5, .int (Int32.ofInt x5))]) (show cdA 191 21 = some (.istore 6, 2, 0, 0, 0) from rfl) (by decide) (fun _ h => h) ?_
    refine WS_lv (lv := [(0, .ref (A 179)), (1, .int (Int32.ofInt x1)), (2, .int (Int32.ofInt x2)), (3, .int (Int32.ofInt x3)), (4, .int (Int32.ofInt x4)), (5, .int (Int32.ofInt x5)), (6, .int (Int32.ofInt 0))]) (List.forall_mem_cons.mpr ⟨(List.Mem.tail _ (List.Mem.head _)), (List.forall_mem_cons.mpr ⟨(List.Mem.tail _ (List.Mem.tail _ (List.Mem.head _))), (List.forall_mem_cons.mpr ⟨(List.Mem.tail _ (List.Mem.tail _ (List.Mem.tail _ (List.Mem.head _)))), (List.forall_mem_cons.mpr ⟨(List.Mem.tail _ (List.Mem.tail _ (List.Mem.tail _ (List.Mem.tail _ (List.Mem.head _))))), (List.forall_mem_cons.mpr ⟨(List.Mem.tail _ (List.Mem.tail _ (List.Mem.tail _ (List.Mem.tail _ (List.Mem.tail _ (List.Mem.head _)))))), (List.forall_mem_cons.mpr ⟨(List.Mem.tail _ (List.Mem.tail _ (List.Mem.tail _ (List.Mem.tail _ (List.Mem.tail _ (List.Mem.tail _ (List.Mem.head _))))))), (List.forall_mem_cons.mpr ⟨(List.Mem.head _), (fun q h => absurd h List.not_mem_nil)⟩)⟩)⟩)⟩)⟩)⟩)⟩) ?_
    refine L23 ((20 - 0 : Int)).toNat s2 x1 x2 x3 x4 x5 0 Is2 Fs2 (by omega) (by omega) ?_
    intro s5 x6 x7 x8 x9 x10 x11 Is5 Fs5 hs5
    have b12 : (0 : Int) ≤ iI s5 74 ∧ iI s5 74 ≤ 200 := Is5.1 74
    refine z_aload_n X (x := A 179) (show cdA 191 120 = some (.aload_n 0, 1, 0, 0, 0) from rfl) (List.Mem.head _) ?_
    refine z_getI X 179 (show cdA 191 121 = some (.getfield 175, 3, 12, 1, 0) from rfl) (by decide) rfl rfl ?_
    have b13 : (0 : Int) ≤ iI s5 74 ∧ iI s5 74 ≤ 200 := Is5.1 74
    exact w_iret X.1 q hRt rfl (ax_d X (show cdA 191 124 = some (.ireturn, 1, 0, 0, 0) from rfl)) (Nat.zero_le _) (Nat.zero_le _) ⟨_, rfl, Is5, Fs5, (iI s5 74), rfl, ⟨by omega, by omega⟩, by omega⟩
  ·
    refine z_const X (show cdA 191 18 = some (.iconst (-1), 1, 0, 0, 0) from rfl) ?_
    exact w_iret X.1 q hRt rfl (ax_d X (show cdA 191 19 = some (.ireturn, 1, 0, 0, 0) from rfl)) (Nat.zero_le _) (Nat.zero_le _) ⟨_, rfl, Is2, Fs2, (-1), rfl, ⟨by omega, by omega⟩, by omega⟩
theorem k_span (G : GX l s0 D tys a0 dT) (I : Bd s) {x y z : Int} (p0 : rng x) (p1 : rng y) (p2 : rng z) : CT l s0 D A dT 219 (rmN 219) [.ref (A 179), .int (Int32.ofInt x), .int (Int32.ofInt y), .int (Int32.ofInt z)] s (fun o t => Bd t ∧ Fm [73] [163, 164] s t ∧ o = .inl none ∧ (True)) := by
  refine ct_of G (by decide) (Nat.le_of_ble_eq_true rfl) (fun k X E hRt hXt q => ?_)
  show WS k 0 [(0, .ref (A 179)), (1, .int (Int32.ofInt x)), (2, .int (Int32.ofInt y)), (3, .int (Int32.ofInt z))] [] _ 0 0
  have F : Fm [73] [163, 164] s s := fm_rf _ _ s
  have b1 : (0 : Int) ≤ iI s 73 ∧ iI s 73 ≤ 3 := I.1 73
  have b2 : (0 : Int) ≤ iI s 90 ∧ iI s 90 ≤ 12 := I.1 90
  refine z_aload_n X (x := A 179) (show cdA 219 0 = some (.aload_n 0, 1, 0, 0, 0) from rfl) (List.Mem.head _) ?_
  refine z_const X (show cdA 219 1 = some (.iconst 0, 1, 0, 0, 0) from rfl) ?_
  refine s_putI X 179 (show cdA 219 2 = some (.putfield 172, 3, 12, 0, 0) from rfl) (by decide) rfl rfl (by decide) rfl rfl rfl ?_
  obtain ⟨s3, hs3⟩ : ∃ x0, x0 = uI s 73 (Int32.ofInt 0) := ⟨_, rfl⟩
  rw [← hs3]
  have Is3 : Bd s3 := by rw [hs3]; exact bd_I I (show (0 : Int) ≤ 0 ∧ 0 ≤ 3 by omega) ⟨by omega, by omega⟩
  have Fs3 := fm_I (x := Int32.ofInt 0) F (show 73 ∈ _ by decide)
  rw [← hs3] at Fs3
  have vs3 : iI s3 73 = 0 := by rw [hs3]; exact iI_u ⟨by omega, by omega⟩
  have ws3_90 : iI s3 90 = iI s 90 := by rw [hs3]; rfl
  refine z_aload_n X (x := A 179) (show cdA 219 5 = some (.aload_n 0, 1, 0, 0, 0) from rfl) (List.Mem.head _) ?_
  refine z_load_n X (x := x) (show cdA 219 6 = some (.iload_n 1, 1, 0, 0, 0) from rfl) (List.Mem.tail _ (List.Mem.head _)) ?_
  refine z_const X (show cdA 219 7 = some (.iconst 0, 1, 0, 0, 0) from rfl) ?_
  refine z_aload_n X (x := A 179) (show cdA 219 8 = some (.aload_n 0, 1, 0, 0, 0) from rfl) (List.Mem.head _) ?_
  refine z_getI X 179 (show cdA 219 9 = some (.getfield 233, 3, 12, 22, 0) from rfl) (by decide) rfl rfl ?_
  have b4 : (0 : Int) ≤ iI s3 90 ∧ iI s3 90 ≤ 12 := Is3.1 90
  refine z_const X (show cdA 219 12 = some (.iconst 1, 1, 0, 0, 0) from rfl) ?_
  refine z_sub X (show cdA 219 13 = some (.isub, 1, 0, 0, 0) from rfl) ?_
  refine z_callS X (rm := rmN 188) (As := [.int (Int32.ofInt x), .int (Int32.ofInt 0), .int (Int32.ofInt ((iI s3 90) - 1))]) (st := [.ref (A 179)]) (show cdA 219 14 = some (.invokestatic 209, 3, 188, 1, 0) from rfl) rfl (by rw [E.1, E.2.1, E.2.2.1]; exact k_in G Is3 (by omega) (by omega) (by omega)) ⟨by rw [E.2.2.2]; exact (show (rmN 188).frames + 1 ≤ (rmN 219).frames by decide), by rw [E.2.2.2]; exact (show 8 + (mNL (miB 188) + 11) + (rmN 188).locals ≤ (rmN 219).locals by decide), by rw [E.2.2.2]; exact (show 0 + (rmN 188).cells ≤ (rmN 219).cells by decide), by rw [E.2.2.2]; exact (show 0 + (rmN 188).slots ≤ (rmN 219).slots by decide)⟩ (Nat.le_of_ble_eq_true rfl) (fun vv s5 hq => ?_) (fun ee s5 hq => ?_)
  rotate_left
  · obtain ⟨Is5, Fs5, e6, hv, hrs5, hps5⟩ := hq; cases hv
  obtain ⟨Is5, Fs5, e6, hv, hrs5, hps5⟩ := hq
  cases hv
  have Gs5 := fm_ts Fs3 Fs5 (by decide) (by decide)
  have ws5_73 : iI s5 73 = iI s3 73 := fm_i Fs5 (by decide)
  have ws5_90 : iI s5 90 = iI s3 90 := fm_i Fs5 (by decide)
  show WS k 17 [(0, .ref (A 179)), (1, .int (Int32.ofInt x)), (2, .int (Int32.ofInt y)), (3, .int (Int32.ofInt z))] [.int (Int32.ofInt e6), .ref (A 179)] (Wd A dT s5) 0 0
  refine z_if_ne X (t := 24) (show cdA 219 17 = some (.ifCond .ne 7, 3, 1, 0, 0) from rfl) (by decide) ⟨by omega, by omega⟩ (fun g7 => ?_) (fun g7 => ?_)
  ·
    refine z_const X (show cdA 219 24 = some (.iconst 0, 1, 0, 0, 0) from rfl) ?_
    refine z_const X (show cdA 219 25 = some (.iconst 1, 1, 0, 0, 0) from rfl) ?_
    refine z_callV X 179 (rm := rmN 187) (As := [.int (Int32.ofInt 0), .int (Int32.ofInt 1)]) (st := []) (show cdA 219 26 = some (.invokevirtual 229, 3, 187, 0, 0) from rfl) rfl (by decide) rfl (by rw [E.1, E.2.1, E.2.2.1]; exact k_bad G Is5 (by omega) (by omega)) ⟨by rw [E.2.2.2]; exact (show (rmN 187).frames + 1 ≤ (rmN 219).frames by decide), by rw [E.2.2.2]; exact (show 8 + (mNL (miB 187) + 11) + (rmN 187).locals ≤ (rmN 219).locals by decide), by rw [E.2.2.2]; exact (show 0 + (rmN 187).cells ≤ (rmN 219).cells by decide), by rw [E.2.2.2]; exact (show 0 + (rmN 187).slots ≤ (rmN 219).slots by decide)⟩ (Nat.le_of_ble_eq_true rfl) (fun vv s8 hq => ?_) (fun ee s8 hq => ?_)
    rotate_left
    · obtain ⟨Is8, Fs8, e9, hv, hrs8, hps8⟩ := hq; cases hv
    obtain ⟨Is8, Fs8, e9, hv, hrs8, hps8⟩ := hq
    cases hv
    have Gs8 := fm_ts Gs5 Fs8 (by decide) (by decide)
    have b10 : (0 : Int) ≤ iI s8 73 ∧ iI s8 73 ≤ 3 := Is8.1 73
    have ws8_90 : iI s8 90 = iI s5 90 := fm_i Fs8 (by decide)
    show WS k 29 [(0, .ref (A 179)), (1, .int (Int32.ofInt x)), (2, .int (Int32.ofInt y)), (3, .int (Int32.ofInt z))] [.int (Int32.ofInt e9)] (Wd A dT s8) 0 0
    refine z_if_ne X (t := 63) (show cdA 219 29 = some (.ifCond .ne 34, 3, 1, 0, 0) from rfl) (by decide) ⟨by omega, by omega⟩ (fun g11 => ?_) (fun g11 => ?_)
    ·
      exact w_vret X.1 q hRt (ax_d X (show cdA 219 63 = some (.return_, 1, 0, 0, 0) from rfl)) (Nat.zero_le _) (Nat.zero_le _) ⟨_, rfl, Is8, Gs8, rfl, trivial⟩
    ·
      refine z_aload_n X (x := A 179) (show cdA 219 32 = some (.aload_n 0, 1, 0, 0, 0) from rfl) (List.Mem.head _) ?_
      refine z_load_n X (x := y) (show cdA 219 33 = some (.iload_n 2, 1, 0, 0, 0) from rfl) (List.Mem.tail _ (List.Mem.tail _ (List.Mem.head _))) ?_
      refine z_const X (show cdA 219 34 = some (.iconst 0, 1, 0, 0, 0) from rfl) ?_
      refine z_const X (show cdA 219 35 = some (.iconst 2, 1, 0, 0, 0) from rfl) ?_
      refine z_callS X (rm := rmN 188) (As := [.int (Int32.ofInt y), .int (Int32.ofInt 0), .int (Int32.ofInt 2)]) (st := [.ref (A 179)]) (show cdA 219 36 = some (.invokestatic 209, 3, 188, 1, 0) from rfl) rfl (by rw [E.1, E.2.1, E.2.2.1]; exact k_in G Is8 (by omega) (by omega) (by omega)) ⟨by rw [E.2.2.2]; exact (show (rmN 188).frames + 1 ≤ (rmN 219).frames by decide), by rw [E.2.2.2]; exact (show 8 + (mNL (miB 188) + 11) + (rmN 188).locals ≤ (rmN 219).locals by decide), by rw [E.2.2.2]; exact (show 0 + (rmN 188).cells ≤ (rmN 219).cells by decide), by rw [E.2.2.2]; exact (show 0 + (rmN 188).slots ≤ (rmN 219).slots by decide)⟩ (Nat.le_of_ble_eq_true rfl) (fun vv s12 hq => ?_) (fun ee s12 hq => ?_)
      rotate_left
      · obtain ⟨Is12, Fs12, e13, hv, hrs12, hps12⟩ := hq; cases hv
      obtain ⟨Is12, Fs12, e13, hv, hrs12, hps12⟩ := hq
      cases hv
      have Gs12 := fm_ts Gs8 Fs12 (by decide) (by decide)
      have ws12_73 : iI s12 73 = iI s8 73 := fm_i Fs12 (by decide)
      have ws12_90 : iI s12 90 = iI s8 90 := fm_i Fs12 (by decide)
      show WS k 39 [(0, .ref (A 179)), (1, .int (Int32.ofInt x)), (2, .int (Int32.ofInt y)), (3, .int (Int32.ofInt z))] [.int (Int32.ofInt e13), .ref (A 179)] (Wd A dT s12) 0 0
      refine z_if_eq X (t := 51) (show cdA 219 39 = some (.ifCond .eq 12, 3, 0, 0, 0) from rfl) (by decide) ⟨by omega, by omega⟩ (fun g14 => ?_) (fun g14 => ?_)
      ·
        refine z_const X (show cdA 219 51 = some (.iconst 1, 1, 0, 0, 0) from rfl) ?_
        refine z_goto X (t := 56) (show cdA 219 52 = some (.goto 4, 3, 0, 0, 0) from rfl) (by decide) ?_
        refine z_const X (show cdA 219 56 = some (.iconst 2, 1, 0, 0, 0) from rfl) ?_
        refine z_callV X 179 (rm := rmN 187) (As := [.int (Int32.ofInt 1), .int (Int32.ofInt 2)]) (st := []) (show cdA 219 57 = some (.invokevirtual 229, 3, 187, 0, 0) from rfl) rfl (by decide) rfl (by rw [E.1, E.2.1, E.2.2.1]; exact k_bad G Is12 (by omega) (by omega)) ⟨by rw [E.2.2.2]; exact (show (rmN 187).frames + 1 ≤ (rmN 219).frames by decide), by rw [E.2.2.2]; exact (show 8 + (mNL (miB 187) + 11) + (rmN 187).locals ≤ (rmN 219).locals by decide), by rw [E.2.2.2]; exact (show 0 + (rmN 187).cells ≤ (rmN 219).cells by decide), by rw [E.2.2.2]; exact (show 0 + (rmN 187).slots ≤ (rmN 219).slots by decide)⟩ (Nat.le_of_ble_eq_true rfl) (fun vv s15 hq => ?_) (fun ee s15 hq => ?_)
        rotate_left
        · obtain ⟨Is15, Fs15, e16, hv, hrs15, hps15⟩ := hq; cases hv
        obtain ⟨Is15, Fs15, e16, hv, hrs15, hps15⟩ := hq
        cases hv
        have Gs15 := fm_ts Gs12 Fs15 (by decide) (by decide)
        have b17 : (0 : Int) ≤ iI s15 73 ∧ iI s15 73 ≤ 3 := Is15.1 73
        have ws15_90 : iI s15 90 = iI s12 90 := fm_i Fs15 (by decide)
        show WS k 60 [(0, .ref (A 179)), (1, .int (Int32.ofInt x)), (2, .int (Int32.ofInt y)), (3, .int (Int32.ofInt z))] [.int (Int32.ofInt e16)] (Wd A dT s15) 0 0
        refine z_if_eq X (t := 64) (show cdA 219 60 = some (.ifCond .eq 4, 3, 0, 0, 0) from rfl) (by decide) ⟨by omega, by omega⟩ (fun g18 => ?_) (fun g18 => ?_)
        ·
          refine z_aload_n X (x := A 179) (show cdA 219 64 = some (.aload_n 0, 1, 0, 0, 0) from rfl) (List.Mem.head _) ?_
          refine s_getR X 179 (show cdA 219 65 = some (.getfield 38, 3, 12, 24, 0) from rfl) (by decide) rfl rfl ?_
          refine z_load_n X (x := x) (show cdA 219 68 = some (.iload_n 1, 1, 0, 0, 0) from rfl) (List.Mem.tail _ (List.Mem.head _)) ?_
          refine z_load_n X (x := y) (show cdA 219 69 = some (.iload_n 2, 1, 0, 0, 0) from rfl) (List.Mem.tail _ (List.Mem.tail _ (List.Mem.head _))) ?_
          refine z_ast X 186 (show cdA 219 70 = some (.iastore, 1, 0, 0, 0) from rfl) (by decide) rfl (by omega) (show x < 12 by omega) (by decide) ?_
          obtain ⟨s19, hs19⟩ : ∃ x0, x0 = uC s15 163 (x).toNat (Int32.ofInt y) := ⟨_, rfl⟩
          rw [← hs19]
          have Is19 : Bd s19 := by rw [hs19]; exact bd_C Is15 (show (0 : Int) ≤ y ∧ y ≤ 2 by omega) ⟨by omega, by omega⟩
          have Fs19 := fm_C (i := (x).toNat) (x := Int32.ofInt y) Gs15 (show 163 ∈ _ by decide)
          rw [← hs19] at Fs19
          have ws19_73 : iI s19 73 = iI s15 73 := by rw [hs19]; rfl
          have ws19_90 : iI s19 90 = iI s15 90 := by rw [hs19]; rfl
          refine z_aload_n X (x := A 179) (show cdA 219 71 = some (.aload_n 0, 1, 0, 0, 0) from rfl) (List.Mem.head _) ?_
          refine s_getR X 179 (show cdA 219 72 = some (.getfield 41, 3, 12, 25, 0) from rfl) (by decide) rfl rfl ?_
          refine z_load_n X (x := x) (show cdA 219 75 = some (.iload_n 1, 1, 0, 0, 0) from rfl) (List.Mem.tail _ (List.Mem.head _)) ?_
          refine z_load_n X (x := z) (show cdA 219 76 = some (.iload_n 3, 1, 0, 0, 0) from rfl) (List.Mem.tail _ (List.Mem.tail _ (List.Mem.tail _ (List.Mem.head _)))) ?_
          refine z_ast X 187 (show cdA 219 77 = some (.iastore, 1, 0, 0, 0) from rfl) (by decide) rfl (by omega) (show x < 12 by omega) (by decide) ?_
          obtain ⟨s20, hs20⟩ : ∃ x0, x0 = uC s19 164 (x).toNat (Int32.ofInt z) := ⟨_, rfl⟩
          rw [← hs20]
          have Is20 : Bd s20 := by rw [hs20]; exact bd_C Is19 (show (0 : Int) ≤ z ∧ z ≤ 2 by omega) ⟨by omega, by omega⟩
          have Fs20 := fm_C (i := (x).toNat) (x := Int32.ofInt z) Fs19 (show 164 ∈ _ by decide)
          rw [← hs20] at Fs20
          have ws20_73 : iI s20 73 = iI s19 73 := by rw [hs20]; rfl
          have ws20_90 : iI s20 90 = iI s19 90 := by rw [hs20]; rfl
          exact w_vret X.1 q hRt (ax_d X (show cdA 219 78 = some (.return_, 1, 0, 0, 0) from rfl)) (Nat.zero_le _) (Nat.zero_le _) ⟨_, rfl, Is20, Fs20, rfl, trivial⟩
        ·
          exact w_vret X.1 q hRt (ax_d X (show cdA 219 63 = some (.return_, 1, 0, 0, 0) from rfl)) (Nat.zero_le _) (Nat.zero_le _) ⟨_, rfl, Is15, Gs15, rfl, trivial⟩
      ·
        refine z_load_n X (x := z) (show cdA 219 42 = some (.iload_n 3, 1, 0, 0, 0) from rfl) (List.Mem.tail _ (List.Mem.tail _ (List.Mem.tail _ (List.Mem.head _)))) ?_
        refine z_const X (show cdA 219 43 = some (.iconst 0, 1, 0, 0, 0) from rfl) ?_
        refine z_const X (show cdA 219 44 = some (.iconst 2, 1, 0, 0, 0) from rfl) ?_
        refine z_callS X (rm := rmN 188) (As := [.int (Int32.ofInt z), .int (Int32.ofInt 0), .int (Int32.ofInt 2)]) (st := [.ref (A 179)]) (show cdA 219 45 = some (.invokestatic 209, 3, 188, 1, 0) from rfl) rfl (by rw [E.1, E.2.1, E.2.2.1]; exact k_in G Is12 (by omega) (by omega) (by omega)) ⟨by rw [E.2.2.2]; exact (show (rmN 188).frames + 1 ≤ (rmN 219).frames by decide), by rw [E.2.2.2]; exact (show 8 + (mNL (miB 188) + 11) + (rmN 188).locals ≤ (rmN 219).locals by decide), by rw [E.2.2.2]; exact (show 0 + (rmN 188).cells ≤ (rmN 219).cells by decide), by rw [E.2.2.2]; exact (show 0 + (rmN 188).slots ≤ (rmN 219).slots by decide)⟩ (Nat.le_of_ble_eq_true rfl) (fun vv s21 hq => ?_) (fun ee s21 hq => ?_)
        rotate_left
        · obtain ⟨Is21, Fs21, e22, hv, hrs21, hps21⟩ := hq; cases hv
        obtain ⟨Is21, Fs21, e22, hv, hrs21, hps21⟩ := hq
        cases hv
        have Gs21 := fm_ts Gs12 Fs21 (by decide) (by decide)
        have ws21_73 : iI s21 73 = iI s12 73 := fm_i Fs21 (by decide)
        have ws21_90 : iI s21 90 = iI s12 90 := fm_i Fs21 (by decide)
        show WS k 48 [(0, .ref (A 179)), (1, .int (Int32.ofInt x)), (2, .int (Int32.ofInt y)), (3, .int (Int32.ofInt z))] [.int (Int32.ofInt e22), .ref (A 179)] (Wd A dT s21) 0 0
        refine z_if_ne X (t := 55) (show cdA 219 48 = some (.ifCond .ne 7, 3, 1, 0, 0) from rfl) (by decide) ⟨by omega, by omega⟩ (fun g23 => ?_) (fun g23 => ?_)
        ·
          refine z_const X (show cdA 219 55 = some (.iconst 0, 1, 0, 0, 0) from rfl) ?_
          refine z_const X (show cdA 219 56 = some (.iconst 2, 1, 0, 0, 0) from rfl) ?_
          refine z_callV X 179 (rm := rmN 187) (As := [.int (Int32.ofInt 0), .int (Int32.ofInt 2)]) (st := []) (show cdA 219 57 = some (.invokevirtual 229, 3, 187, 0, 0) from rfl) rfl (by decide) rfl (by rw [E.1, E.2.1, E.2.2.1]; exact k_bad G Is21 (by omega) (by omega)) ⟨by rw [E.2.2.2]; exact (show (rmN 187).frames + 1 ≤ (rmN 219).frames by decide), by rw [E.2.2.2]; exact (show 8 + (mNL (miB 187) + 11) + (rmN 187).locals ≤ (rmN 219).locals by decide), by rw [E.2.2.2]; exact (show 0 + (rmN 187).cells ≤ (rmN 219).cells by decide), by rw [E.2.2.2]; exact (show 0 + (rmN 187).slots ≤ (rmN 219).slots by decide)⟩ (Nat.le_of_ble_eq_true rfl) (fun vv s24 hq => ?_) (fun ee s24 hq => ?_)
          rotate_left
          · obtain ⟨Is24, Fs24, e25, hv, hrs24, hps24⟩ := hq; cases hv
          obtain ⟨Is24, Fs24, e25, hv, hrs24, hps24⟩ := hq
          cases hv
          have Gs24 := fm_ts Gs21 Fs24 (by decide) (by decide)
          have b26 : (0 : Int) ≤ iI s24 73 ∧ iI s24 73 ≤ 3 := Is24.1 73
          have ws24_90 : iI s24 90 = iI s21 90 := fm_i Fs24 (by decide)
          show WS k 60 [(0, .ref (A 179)), (1, .int (Int32.ofInt x)), (2, .int (Int32.ofInt y)), (3, .int (Int32.ofInt z))] [.int (Int32.ofInt e25)] (Wd A dT s24) 0 0
          refine z_if_eq X (t := 64) (show cdA 219 60 = some (.ifCond .eq 4, 3, 0, 0, 0) from rfl) (by decide) ⟨by omega, by omega⟩ (fun g27 => ?_) (fun g27 => ?_)
          ·
            refine z_aload_n X (x := A 179) (show cdA 219 64 = some (.aload_n 0, 1, 0, 0, 0) from rfl) (List.Mem.head _) ?_
            refine s_getR X 179 (show cdA 219 65 = some (.getfield 38, 3, 12, 24, 0) from rfl) (by decide) rfl rfl ?_
            refine z_load_n X (x := x) (show cdA 219 68 = some (.iload_n 1, 1, 0, 0, 0) from rfl) (List.Mem.tail _ (List.Mem.head _)) ?_
            refine z_load_n X (x := y) (show cdA 219 69 = some (.iload_n 2, 1, 0, 0, 0) from rfl) (List.Mem.tail _ (List.Mem.tail _ (List.Mem.head _))) ?_
            refine z_ast X 186 (show cdA 219 70 = some (.iastore, 1, 0, 0, 0) from rfl) (by decide) rfl (by omega) (show x < 12 by omega) (by decide) ?_
            obtain ⟨s28, hs28⟩ : ∃ x0, x0 = uC s24 163 (x).toNat (Int32.ofInt y) := ⟨_, rfl⟩
            rw [← hs28]
            have Is28 : Bd s28 := by rw [hs28]; exact bd_C Is24 (show (0 : Int) ≤ y ∧ y ≤ 2 by omega) ⟨by omega, by omega⟩
            have Fs28 := fm_C (i := (x).toNat) (x := Int32.ofInt y) Gs24 (show 163 ∈ _ by decide)
            rw [← hs28] at Fs28
            have ws28_73 : iI s28 73 = iI s24 73 := by rw [hs28]; rfl
            have ws28_90 : iI s28 90 = iI s24 90 := by rw [hs28]; rfl
            refine z_aload_n X (x := A 179) (show cdA 219 71 = some (.aload_n 0, 1, 0, 0, 0) from rfl) (List.Mem.head _) ?_
            refine s_getR X 179 (show cdA 219 72 = some (.getfield 41, 3, 12, 25, 0) from rfl) (by decide) rfl rfl ?_
            refine z_load_n X (x := x) (show cdA 219 75 = some (.iload_n 1, 1, 0, 0, 0) from rfl) (List.Mem.tail _ (List.Mem.head _)) ?_
            refine z_load_n X (x := z) (show cdA 219 76 = some (.iload_n 3, 1, 0, 0, 0) from rfl) (List.Mem.tail _ (List.Mem.tail _ (List.Mem.tail _ (List.Mem.head _)))) ?_
            refine z_ast X 187 (show cdA 219 77 = some (.iastore, 1, 0, 0, 0) from rfl) (by decide) rfl (by omega) (show x < 12 by omega) (by decide) ?_
            obtain ⟨s29, hs29⟩ : ∃ x0, x0 = uC s28 164 (x).toNat (Int32.ofInt z) := ⟨_, rfl⟩
            rw [← hs29]
            have Is29 : Bd s29 := by rw [hs29]; exact bd_C Is28 (show (0 : Int) ≤ z ∧ z ≤ 2 by omega) ⟨by omega, by omega⟩
            have Fs29 := fm_C (i := (x).toNat) (x := Int32.ofInt z) Fs28 (show 164 ∈ _ by decide)
            rw [← hs29] at Fs29
            have ws29_73 : iI s29 73 = iI s28 73 := by rw [hs29]; rfl
            have ws29_90 : iI s29 90 = iI s28 90 := by rw [hs29]; rfl
            exact w_vret X.1 q hRt (ax_d X (show cdA 219 78 = some (.return_, 1, 0, 0, 0) from rfl)) (Nat.zero_le _) (Nat.zero_le _) ⟨_, rfl, Is29, Fs29, rfl, trivial⟩
          ·
            exact w_vret X.1 q hRt (ax_d X (show cdA 219 63 = some (.return_, 1, 0, 0, 0) from rfl)) (Nat.zero_le _) (Nat.zero_le _) ⟨_, rfl, Is24, Gs24, rfl, trivial⟩
        ·
          refine z_const X (show cdA 219 51 = some (.iconst 1, 1, 0, 0, 0) from rfl) ?_
          refine z_goto X (t := 56) (show cdA 219 52 = some (.goto 4, 3, 0, 0, 0) from rfl) (by decide) ?_
          refine z_const X (show cdA 219 56 = some (.iconst 2, 1, 0, 0, 0) from rfl) ?_
          refine z_callV X 179 (rm := rmN 187) (As := [.int (Int32.ofInt 1), .int (Int32.ofInt 2)]) (st := []) (show cdA 219 57 = some (.invokevirtual 229, 3, 187, 0, 0) from rfl) rfl (by decide) rfl (by rw [E.1, E.2.1, E.2.2.1]; exact k_bad G Is21 (by omega) (by omega)) ⟨by rw [E.2.2.2]; exact (show (rmN 187).frames + 1 ≤ (rmN 219).frames by decide), by rw [E.2.2.2]; exact (show 8 + (mNL (miB 187) + 11) + (rmN 187).locals ≤ (rmN 219).locals by decide), by rw [E.2.2.2]; exact (show 0 + (rmN 187).cells ≤ (rmN 219).cells by decide), by rw [E.2.2.2]; exact (show 0 + (rmN 187).slots ≤ (rmN 219).slots by decide)⟩ (Nat.le_of_ble_eq_true rfl) (fun vv s30 hq => ?_) (fun ee s30 hq => ?_)
          rotate_left
          · obtain ⟨Is30, Fs30, e31, hv, hrs30, hps30⟩ := hq; cases hv
          obtain ⟨Is30, Fs30, e31, hv, hrs30, hps30⟩ := hq
          cases hv
          have Gs30 := fm_ts Gs21 Fs30 (by decide) (by decide)
          have b32 : (0 : Int) ≤ iI s30 73 ∧ iI s30 73 ≤ 3 := Is30.1 73
          have ws30_90 : iI s30 90 = iI s21 90 := fm_i Fs30 (by decide)
          show WS k 60 [(0, .ref (A 179)), (1, .int (Int32.ofInt x)), (2, .int (Int32.ofInt y)), (3, .int (Int32.ofInt z))] [.int (Int32.ofInt e31)] (Wd A dT s30) 0 0
          refine z_if_eq X (t := 64) (show cdA 219 60 = some (.ifCond .eq 4, 3, 0, 0, 0) from rfl) (by decide) ⟨by omega, by omega⟩ (fun g33 => ?_) (fun g33 => ?_)
          ·
            refine z_aload_n X (x := A 179) (show cdA 219 64 = some (.aload_n 0, 1, 0, 0, 0) from rfl) (List.Mem.head _) ?_
            refine s_getR X 179 (show cdA 219 65 = some (.getfield 38, 3, 12, 24, 0) from rfl) (by decide) rfl rfl ?_
            refine z_load_n X (x := x) (show cdA 219 68 = some (.iload_n 1, 1, 0, 0, 0) from rfl) (List.Mem.tail _ (List.Mem.head _)) ?_
            refine z_load_n X (x := y) (show cdA 219 69 = some (.iload_n 2, 1, 0, 0, 0) from rfl) (List.Mem.tail _ (List.Mem.tail _ (List.Mem.head _))) ?_
            refine z_ast X 186 (show cdA 219 70 = some (.iastore, 1, 0, 0, 0) from rfl) (by decide) rfl (by omega) (show x < 12 by omega) (by decide) ?_
            obtain ⟨s34, hs34⟩ : ∃ x0, x0 = uC s30 163 (x).toNat (Int32.ofInt y) := ⟨_, rfl⟩
            rw [← hs34]
            have Is34 : Bd s34 := by rw [hs34]; exact bd_C Is30 (show (0 : Int) ≤ y ∧ y ≤ 2 by omega) ⟨by omega, by omega⟩
            have Fs34 := fm_C (i := (x).toNat) (x := Int32.ofInt y) Gs30 (show 163 ∈ _ by decide)
            rw [← hs34] at Fs34
            have ws34_73 : iI s34 73 = iI s30 73 := by rw [hs34]; rfl
            have ws34_90 : iI s34 90 = iI s30 90 := by rw [hs34]; rfl
            refine z_aload_n X (x := A 179) (show cdA 219 71 = some (.aload_n 0, 1, 0, 0, 0) from rfl) (List.Mem.head _) ?_
            refine s_getR X 179 (show cdA 219 72 = some (.getfield 41, 3, 12, 25, 0) from rfl) (by decide) rfl rfl ?_
            refine z_load_n X (x := x) (show cdA 219 75 = some (.iload_n 1, 1, 0, 0, 0) from rfl) (List.Mem.tail _ (List.Mem.head _)) ?_
            refine z_load_n X (x := z) (show cdA 219 76 = some (.iload_n 3, 1, 0, 0, 0) from rfl) (List.Mem.tail _ (List.Mem.tail _ (List.Mem.tail _ (List.Mem.head _)))) ?_
            refine z_ast X 187 (show cdA 219 77 = some (.iastore, 1, 0, 0, 0) from rfl) (by decide) rfl (by omega) (show x < 12 by omega) (by decide) ?_
            obtain ⟨s35, hs35⟩ : ∃ x0, x0 = uC s34 164 (x).toNat (Int32.ofInt z) := ⟨_, rfl⟩
            rw [← hs35]
            have Is35 : Bd s35 := by rw [hs35]; exact bd_C Is34 (show (0 : Int) ≤ z ∧ z ≤ 2 by omega) ⟨by omega, by omega⟩
            have Fs35 := fm_C (i := (x).toNat) (x := Int32.ofInt z) Fs34 (show 164 ∈ _ by decide)
            rw [← hs35] at Fs35
            have ws35_73 : iI s35 73 = iI s34 73 := by rw [hs35]; rfl
            have ws35_90 : iI s35 90 = iI s34 90 := by rw [hs35]; rfl
            exact w_vret X.1 q hRt (ax_d X (show cdA 219 78 = some (.return_, 1, 0, 0, 0) from rfl)) (Nat.zero_le _) (Nat.zero_le _) ⟨_, rfl, Is35, Fs35, rfl, trivial⟩
          ·
            exact w_vret X.1 q hRt (ax_d X (show cdA 219 63 = some (.return_, 1, 0, 0, 0) from rfl)) (Nat.zero_le _) (Nat.zero_le _) ⟨_, rfl, Is30, Gs30, rfl, trivial⟩
  ·
    refine z_const X (show cdA 219 20 = some (.iconst 1, 1, 0, 0, 0) from rfl) ?_
    refine z_goto X (t := 25) (show cdA 219 21 = some (.goto 4, 3, 0, 0, 0) from rfl) (by decide) ?_
    refine z_const X (show cdA 219 25 = some (.iconst 1, 1, 0, 0, 0) from rfl) ?_
    refine z_callV X 179 (rm := rmN 187) (As := [.int (Int32.ofInt 1), .int (Int32.ofInt 1)]) (st := []) (show cdA 219 26 = some (.invokevirtual 229, 3, 187, 0, 0) from rfl) rfl (by decide) rfl (by rw [E.1, E.2.1, E.2.2.1]; exact k_bad G Is5 (by omega) (by omega)) ⟨by rw [E.2.2.2]; exact (show (rmN 187).frames + 1 ≤ (rmN 219).frames by decide), by rw [E.2.2.2]; exact (show 8 + (mNL (miB 187) + 11) + (rmN 187).locals ≤ (rmN 219).locals by decide), by rw [E.2.2.2]; exact (show 0 + (rmN 187).cells ≤ (rmN 219).cells by decide), by rw [E.2.2.2]; exact (show 0 + (rmN 187).slots ≤ (rmN 219).slots by decide)⟩ (Nat.le_of_ble_eq_true rfl) (fun vv s36 hq => ?_) (fun ee s36 hq => ?_)
    rotate_left
    · obtain ⟨Is36, Fs36, e37, hv, hrs36, hps36⟩ := hq; cases hv
    obtain ⟨Is36, Fs36, e37, hv, hrs36, hps36⟩ := hq
    cases hv
    have Gs36 := fm_ts Gs5 Fs36 (by decide) (by decide)
    have b38 : (0 : Int) ≤ iI s36 73 ∧ iI s36 73 ≤ 3 := Is36.1 73
    have ws36_90 : iI s36 90 = iI s5 90 := fm_i Fs36 (by decide)
    show WS k 29 [(0, .ref (A 179)), (1, .int (Int32.ofInt x)), (2, .int (Int32.ofInt y)), (3, .int (Int32.ofInt z))] [.int (Int32.ofInt e37)] (Wd A dT s36) 0 0
    refine z_if_ne X (t := 63) (show cdA 219 29 = some (.ifCond .ne 34, 3, 1, 0, 0) from rfl) (by decide) ⟨by omega, by omega⟩ (fun g39 => ?_) (fun g39 => ?_)
    ·
      exact w_vret X.1 q hRt (ax_d X (show cdA 219 63 = some (.return_, 1, 0, 0, 0) from rfl)) (Nat.zero_le _) (Nat.zero_le _) ⟨_, rfl, Is36, Gs36, rfl, trivial⟩
    ·
      refine z_aload_n X (x := A 179) (show cdA 219 32 = some (.aload_n 0, 1, 0, 0, 0) from rfl) (List.Mem.head _) ?_
      refine z_load_n X (x := y) (show cdA 219 33 = some (.iload_n 2, 1, 0, 0, 0) from rfl) (List.Mem.tail _ (List.Mem.tail _ (List.Mem.head _))) ?_
      refine z_const X (show cdA 219 34 = some (.iconst 0, 1, 0, 0, 0) from rfl) ?_
      refine z_const X (show cdA 219 35 = some (.iconst 2, 1, 0, 0, 0) from rfl) ?_
      refine z_callS X (rm := rmN 188) (As := [.int (Int32.ofInt y), .int (Int32.ofInt 0), .int (Int32.ofInt 2)]) (st := [.ref (A 179)]) (show cdA 219 36 = some (.invokestatic 209, 3, 188, 1, 0) from rfl) rfl (by rw [E.1, E.2.1, E.2.2.1]; exact k_in G Is36 (by omega) (by omega) (by omega)) ⟨by rw [E.2.2.2]; exact (show (rmN 188).frames + 1 ≤ (rmN 219).frames by decide), by rw [E.2.2.2]; exact (show 8 + (mNL (miB 188) + 11) + (rmN 188).locals ≤ (rmN 219).locals by decide), by rw [E.2.2.2]; exact (show 0 + (rmN 188).cells ≤ (rmN 219).cells by decide), by rw [E.2.2.2]; exact (show 0 + (rmN 188).slots ≤ (rmN 219).slots by decide)⟩ (Nat.le_of_ble_eq_true rfl) (fun vv s40 hq => ?_) (fun ee s40 hq => ?_)
      rotate_left
      · obtain ⟨Is40, Fs40, e41, hv, hrs40, hps40⟩ := hq; cases hv
      obtain ⟨Is40, Fs40, e41, hv, hrs40, hps40⟩ := hq
      cases hv
      have Gs40 := fm_ts Gs36 Fs40 (by decide) (by decide)
      have ws40_73 : iI s40 73 = iI s36 73 := fm_i Fs40 (by decide)
      have ws40_90 : iI s40 90 = iI s36 90 := fm_i Fs40 (by decide)
      show WS k 39 [(0, .ref (A 179)), (1, .int (Int32.ofInt x)), (2, .int (Int32.ofInt y)), (3, .int (Int32.ofInt z))] [.int (Int32.ofInt e41), .ref (A 179)] (Wd A dT s40) 0 0
      refine z_if_eq X (t := 51) (show cdA 219 39 = some (.ifCond .eq 12, 3, 0, 0, 0) from rfl) (by decide) ⟨by omega, by omega⟩ (fun g42 => ?_) (fun g42 => ?_)
      ·
        refine z_const X (show cdA 219 51 = some (.iconst 1, 1, 0, 0, 0) from rfl) ?_
        refine z_goto X (t := 56) (show cdA 219 52 = some (.goto 4, 3, 0, 0, 0) from rfl) (by decide) ?_
        refine z_const X (show cdA 219 56 = some (.iconst 2, 1, 0, 0, 0) from rfl) ?_
        refine z_callV X 179 (rm := rmN 187) (As := [.int (Int32.ofInt 1), .int (Int32.ofInt 2)]) (st := []) (show cdA 219 57 = some (.invokevirtual 229, 3, 187, 0, 0) from rfl) rfl (by decide) rfl (by rw [E.1, E.2.1, E.2.2.1]; exact k_bad G Is40 (by omega) (by omega)) ⟨by rw [E.2.2.2]; exact (show (rmN 187).frames + 1 ≤ (rmN 219).frames by decide), by rw [E.2.2.2]; exact (show 8 + (mNL (miB 187) + 11) + (rmN 187).locals ≤ (rmN 219).locals by decide), by rw [E.2.2.2]; exact (show 0 + (rmN 187).cells ≤ (rmN 219).cells by decide), by rw [E.2.2.2]; exact (show 0 + (rmN 187).slots ≤ (rmN 219).slots by decide)⟩ (Nat.le_of_ble_eq_true rfl) (fun vv s43 hq => ?_) (fun ee s43 hq => ?_)
        rotate_left
        · obtain ⟨Is43, Fs43, e44, hv, hrs43, hps43⟩ := hq; cases hv
        obtain ⟨Is43, Fs43, e44, hv, hrs43, hps43⟩ := hq
        cases hv
        have Gs43 := fm_ts Gs40 Fs43 (by decide) (by decide)
        have b45 : (0 : Int) ≤ iI s43 73 ∧ iI s43 73 ≤ 3 := Is43.1 73
        have ws43_90 : iI s43 90 = iI s40 90 := fm_i Fs43 (by decide)
        show WS k 60 [(0, .ref (A 179)), (1, .int (Int32.ofInt x)), (2, .int (Int32.ofInt y)), (3, .int (Int32.ofInt z))] [.int (Int32.ofInt e44)] (Wd A dT s43) 0 0
        refine z_if_eq X (t := 64) (show cdA 219 60 = some (.ifCond .eq 4, 3, 0, 0, 0) from rfl) (by decide) ⟨by omega, by omega⟩ (fun g46 => ?_) (fun g46 => ?_)
        ·
          refine z_aload_n X (x := A 179) (show cdA 219 64 = some (.aload_n 0, 1, 0, 0, 0) from rfl) (List.Mem.head _) ?_
          refine s_getR X 179 (show cdA 219 65 = some (.getfield 38, 3, 12, 24, 0) from rfl) (by decide) rfl rfl ?_
          refine z_load_n X (x := x) (show cdA 219 68 = some (.iload_n 1, 1, 0, 0, 0) from rfl) (List.Mem.tail _ (List.Mem.head _)) ?_
          refine z_load_n X (x := y) (show cdA 219 69 = some (.iload_n 2, 1, 0, 0, 0) from rfl) (List.Mem.tail _ (List.Mem.tail _ (List.Mem.head _))) ?_
          refine z_ast X 186 (show cdA 219 70 = some (.iastore, 1, 0, 0, 0) from rfl) (by decide) rfl (by omega) (show x < 12 by omega) (by decide) ?_
          obtain ⟨s47, hs47⟩ : ∃ x0, x0 = uC s43 163 (x).toNat (Int32.ofInt y) := ⟨_, rfl⟩
          rw [← hs47]
          have Is47 : Bd s47 := by rw [hs47]; exact bd_C Is43 (show (0 : Int) ≤ y ∧ y ≤ 2 by omega) ⟨by omega, by omega⟩
          have Fs47 := fm_C (i := (x).toNat) (x := Int32.ofInt y) Gs43 (show 163 ∈ _ by decide)
          rw [← hs47] at Fs47
          have ws47_73 : iI s47 73 = iI s43 73 := by rw [hs47]; rfl
          have ws47_90 : iI s47 90 = iI s43 90 := by rw [hs47]; rfl
          refine z_aload_n X (x := A 179) (show cdA 219 71 = some (.aload_n 0, 1, 0, 0, 0) from rfl) (List.Mem.head _) ?_
          refine s_getR X 179 (show cdA 219 72 = some (.getfield 41, 3, 12, 25, 0) from rfl) (by decide) rfl rfl ?_
          refine z_load_n X (x := x) (show cdA 219 75 = some (.iload_n 1, 1, 0, 0, 0) from rfl) (List.Mem.tail _ (List.Mem.head _)) ?_
          refine z_load_n X (x := z) (show cdA 219 76 = some (.iload_n 3, 1, 0, 0, 0) from rfl) (List.Mem.tail _ (List.Mem.tail _ (List.Mem.tail _ (List.Mem.head _)))) ?_
          refine z_ast X 187 (show cdA 219 77 = some (.iastore, 1, 0, 0, 0) from rfl) (by decide) rfl (by omega) (show x < 12 by omega) (by decide) ?_
          obtain ⟨s48, hs48⟩ : ∃ x0, x0 = uC s47 164 (x).toNat (Int32.ofInt z) := ⟨_, rfl⟩
          rw [← hs48]
          have Is48 : Bd s48 := by rw [hs48]; exact bd_C Is47 (show (0 : Int) ≤ z ∧ z ≤ 2 by omega) ⟨by omega, by omega⟩
          have Fs48 := fm_C (i := (x).toNat) (x := Int32.ofInt z) Fs47 (show 164 ∈ _ by decide)
          rw [← hs48] at Fs48
          have ws48_73 : iI s48 73 = iI s47 73 := by rw [hs48]; rfl
          have ws48_90 : iI s48 90 = iI s47 90 := by rw [hs48]; rfl
          exact w_vret X.1 q hRt (ax_d X (show cdA 219 78 = some (.return_, 1, 0, 0, 0) from rfl)) (Nat.zero_le _) (Nat.zero_le _) ⟨_, rfl, Is48, Fs48, rfl, trivial⟩
        ·
          exact w_vret X.1 q hRt (ax_d X (show cdA 219 63 = some (.return_, 1, 0, 0, 0) from rfl)) (Nat.zero_le _) (Nat.zero_le _) ⟨_, rfl, Is43, Gs43, rfl, trivial⟩
      ·
        refine z_load_n X (x := z) (show cdA 219 42 = some (.iload_n 3, 1, 0, 0, 0) from rfl) (List.Mem.tail _ (List.Mem.tail _ (List.Mem.tail _ (List.Mem.head _)))) ?_
        refine z_const X (show cdA 219 43 = some (.iconst 0, 1, 0, 0, 0) from rfl) ?_
        refine z_const X (show cdA 219 44 = some (.iconst 2, 1, 0, 0, 0) from rfl) ?_
        refine z_callS X (rm := rmN 188) (As := [.int (Int32.ofInt z), .int (Int32.ofInt 0), .int (Int32.ofInt 2)]) (st := [.ref (A 179)]) (show cdA 219 45 = some (.invokestatic 209, 3, 188, 1, 0) from rfl) rfl (by rw [E.1, E.2.1, E.2.2.1]; exact k_in G Is40 (by omega) (by omega) (by omega)) ⟨by rw [E.2.2.2]; exact (show (rmN 188).frames + 1 ≤ (rmN 219).frames by decide), by rw [E.2.2.2]; exact (show 8 + (mNL (miB 188) + 11) + (rmN 188).locals ≤ (rmN 219).locals by decide), by rw [E.2.2.2]; exact (show 0 + (rmN 188).cells ≤ (rmN 219).cells by decide), by rw [E.2.2.2]; exact (show 0 + (rmN 188).slots ≤ (rmN 219).slots by decide)⟩ (Nat.le_of_ble_eq_true rfl) (fun vv s49 hq => ?_) (fun ee s49 hq => ?_)
        rotate_left
        · obtain ⟨Is49, Fs49, e50, hv, hrs49, hps49⟩ := hq; cases hv
        obtain ⟨Is49, Fs49, e50, hv, hrs49, hps49⟩ := hq
        cases hv
        have Gs49 := fm_ts Gs40 Fs49 (by decide) (by decide)
        have ws49_73 : iI s49 73 = iI s40 73 := fm_i Fs49 (by decide)
        have ws49_90 : iI s49 90 = iI s40 90 := fm_i Fs49 (by decide)
        show WS k 48 [(0, .ref (A 179)), (1, .int (Int32.ofInt x)), (2, .int (Int32.ofInt y)), (3, .int (Int32.ofInt z))] [.int (Int32.ofInt e50), .ref (A 179)] (Wd A dT s49) 0 0
        refine z_if_ne X (t := 55) (show cdA 219 48 = some (.ifCond .ne 7, 3, 1, 0, 0) from rfl) (by decide) ⟨by omega, by omega⟩ (fun g51 => ?_) (fun g51 => ?_)
        ·
          refine z_const X (show cdA 219 55 = some (.iconst 0, 1, 0, 0, 0) from rfl) ?_
          refine z_const X (show cdA 219 56 = some (.iconst 2, 1, 0, 0, 0) from rfl) ?_
          refine z_callV X 179 (rm := rmN 187) (As := [.int (Int32.ofInt 0), .int (Int32.ofInt 2)]) (st := []) (show cdA 219 57 = some (.invokevirtual 229, 3, 187, 0, 0) from rfl) rfl (by decide) rfl (by rw [E.1, E.2.1, E.2.2.1]; exact k_bad G Is49 (by omega) (by omega)) ⟨by rw [E.2.2.2]; exact (show (rmN 187).frames + 1 ≤ (rmN 219).frames by decide), by rw [E.2.2.2]; exact (show 8 + (mNL (miB 187) + 11) + (rmN 187).locals ≤ (rmN 219).locals by decide), by rw [E.2.2.2]; exact (show 0 + (rmN 187).cells ≤ (rmN 219).cells by decide), by rw [E.2.2.2]; exact (show 0 + (rmN 187).slots ≤ (rmN 219).slots by decide)⟩ (Nat.le_of_ble_eq_true rfl) (fun vv s52 hq => ?_) (fun ee s52 hq => ?_)
          rotate_left
          · obtain ⟨Is52, Fs52, e53, hv, hrs52, hps52⟩ := hq; cases hv
          obtain ⟨Is52, Fs52, e53, hv, hrs52, hps52⟩ := hq
          cases hv
          have Gs52 := fm_ts Gs49 Fs52 (by decide) (by decide)
          have b54 : (0 : Int) ≤ iI s52 73 ∧ iI s52 73 ≤ 3 := Is52.1 73
          have ws52_90 : iI s52 90 = iI s49 90 := fm_i Fs52 (by decide)
          show WS k 60 [(0, .ref (A 179)), (1, .int (Int32.ofInt x)), (2, .int (Int32.ofInt y)), (3, .int (Int32.ofInt z))] [.int (Int32.ofInt e53)] (Wd A dT s52) 0 0
          refine z_if_eq X (t := 64) (show cdA 219 60 = some (.ifCond .eq 4, 3, 0, 0, 0) from rfl) (by decide) ⟨by omega, by omega⟩ (fun g55 => ?_) (fun g55 => ?_)
          ·
            refine z_aload_n X (x := A 179) (show cdA 219 64 = some (.aload_n 0, 1, 0, 0, 0) from rfl) (List.Mem.head _) ?_
            refine s_getR X 179 (show cdA 219 65 = some (.getfield 38, 3, 12, 24, 0) from rfl) (by decide) rfl rfl ?_
            refine z_load_n X (x := x) (show cdA 219 68 = some (.iload_n 1, 1, 0, 0, 0) from rfl) (List.Mem.tail _ (List.Mem.head _)) ?_
            refine z_load_n X (x := y) (show cdA 219 69 = some (.iload_n 2, 1, 0, 0, 0) from rfl) (List.Mem.tail _ (List.Mem.tail _ (List.Mem.head _))) ?_
            refine z_ast X 186 (show cdA 219 70 = some (.iastore, 1, 0, 0, 0) from rfl) (by decide) rfl (by omega) (show x < 12 by omega) (by decide) ?_
            obtain ⟨s56, hs56⟩ : ∃ x0, x0 = uC s52 163 (x).toNat (Int32.ofInt y) := ⟨_, rfl⟩
            rw [← hs56]
            have Is56 : Bd s56 := by rw [hs56]; exact bd_C Is52 (show (0 : Int) ≤ y ∧ y ≤ 2 by omega) ⟨by omega, by omega⟩
            have Fs56 := fm_C (i := (x).toNat) (x := Int32.ofInt y) Gs52 (show 163 ∈ _ by decide)
            rw [← hs56] at Fs56
            have ws56_73 : iI s56 73 = iI s52 73 := by rw [hs56]; rfl
            have ws56_90 : iI s56 90 = iI s52 90 := by rw [hs56]; rfl
            refine z_aload_n X (x := A 179) (show cdA 219 71 = some (.aload_n 0, 1, 0, 0, 0) from rfl) (List.Mem.head _) ?_
            refine s_getR X 179 (show cdA 219 72 = some (.getfield 41, 3, 12, 25, 0) from rfl) (by decide) rfl rfl ?_
            refine z_load_n X (x := x) (show cdA 219 75 = some (.iload_n 1, 1, 0, 0, 0) from rfl) (List.Mem.tail _ (List.Mem.head _)) ?_
            refine z_load_n X (x := z) (show cdA 219 76 = some (.iload_n 3, 1, 0, 0, 0) from rfl) (List.Mem.tail _ (List.Mem.tail _ (List.Mem.tail _ (List.Mem.head _)))) ?_
            refine z_ast X 187 (show cdA 219 77 = some (.iastore, 1, 0, 0, 0) from rfl) (by decide) rfl (by omega) (show x < 12 by omega) (by decide) ?_
            obtain ⟨s57, hs57⟩ : ∃ x0, x0 = uC s56 164 (x).toNat (Int32.ofInt z) := ⟨_, rfl⟩
            rw [← hs57]
            have Is57 : Bd s57 := by rw [hs57]; exact bd_C Is56 (show (0 : Int) ≤ z ∧ z ≤ 2 by omega) ⟨by omega, by omega⟩
            have Fs57 := fm_C (i := (x).toNat) (x := Int32.ofInt z) Fs56 (show 164 ∈ _ by decide)
            rw [← hs57] at Fs57
            have ws57_73 : iI s57 73 = iI s56 73 := by rw [hs57]; rfl
            have ws57_90 : iI s57 90 = iI s56 90 := by rw [hs57]; rfl
            exact w_vret X.1 q hRt (ax_d X (show cdA 219 78 = some (.return_, 1, 0, 0, 0) from rfl)) (Nat.zero_le _) (Nat.zero_le _) ⟨_, rfl, Is57, Fs57, rfl, trivial⟩
          ·
            exact w_vret X.1 q hRt (ax_d X (show cdA 219 63 = some (.return_, 1, 0, 0, 0) from rfl)) (Nat.zero_le _) (Nat.zero_le _) ⟨_, rfl, Is52, Gs52, rfl, trivial⟩
        ·
          refine z_const X (show cdA 219 51 = some (.iconst 1, 1, 0, 0, 0) from rfl) ?_
          refine z_goto X (t := 56) (show cdA 219 52 = some (.goto 4, 3, 0, 0, 0) from rfl) (by decide) ?_
          refine z_const X (show cdA 219 56 = some (.iconst 2, 1, 0, 0, 0) from rfl) ?_
          refine z_callV X 179 (rm := rmN 187) (As := [.int (Int32.ofInt 1), .int (Int32.ofInt 2)]) (st := []) (show cdA 219 57 = some (.invokevirtual 229, 3, 187, 0, 0) from rfl) rfl (by decide) rfl (by rw [E.1, E.2.1, E.2.2.1]; exact k_bad G Is49 (by omega) (by omega)) ⟨by rw [E.2.2.2]; exact (show (rmN 187).frames + 1 ≤ (rmN 219).frames by decide), by rw [E.2.2.2]; exact (show 8 + (mNL (miB 187) + 11) + (rmN 187).locals ≤ (rmN 219).locals by decide), by rw [E.2.2.2]; exact (show 0 + (rmN 187).cells ≤ (rmN 219).cells by decide), by rw [E.2.2.2]; exact (show 0 + (rmN 187).slots ≤ (rmN 219).slots by decide)⟩ (Nat.le_of_ble_eq_true rfl) (fun vv s58 hq => ?_) (fun ee s58 hq => ?_)
          rotate_left
          · obtain ⟨Is58, Fs58, e59, hv, hrs58, hps58⟩ := hq; cases hv
          obtain ⟨Is58, Fs58, e59, hv, hrs58, hps58⟩ := hq
          cases hv
          have Gs58 := fm_ts Gs49 Fs58 (by decide) (by decide)
          have b60 : (0 : Int) ≤ iI s58 73 ∧ iI s58 73 ≤ 3 := Is58.1 73
          have ws58_90 : iI s58 90 = iI s49 90 := fm_i Fs58 (by decide)
          show WS k 60 [(0, .ref (A 179)), (1, .int (Int32.ofInt x)), (2, .int (Int32.ofInt y)), (3, .int (Int32.ofInt z))] [.int (Int32.ofInt e59)] (Wd A dT s58) 0 0
          refine z_if_eq X (t := 64) (show cdA 219 60 = some (.ifCond .eq 4, 3, 0, 0, 0) from rfl) (by decide) ⟨by omega, by omega⟩ (fun g61 => ?_) (fun g61 => ?_)
          ·
            refine z_aload_n X (x := A 179) (show cdA 219 64 = some (.aload_n 0, 1, 0, 0, 0) from rfl) (List.Mem.head _) ?_
            refine s_getR X 179 (show cdA 219 65 = some (.getfield 38, 3, 12, 24, 0) from rfl) (by decide) rfl rfl ?_
            refine z_load_n X (x := x) (show cdA 219 68 = some (.iload_n 1, 1, 0, 0, 0) from rfl) (List.Mem.tail _ (List.Mem.head _)) ?_
            refine z_load_n X (x := y) (show cdA 219 69 = some (.iload_n 2, 1, 0, 0, 0) from rfl) (List.Mem.tail _ (List.Mem.tail _ (List.Mem.head _))) ?_
            refine z_ast X 186 (show cdA 219 70 = some (.iastore, 1, 0, 0, 0) from rfl) (by decide) rfl (by omega) (show x < 12 by omega) (by decide) ?_
            obtain ⟨s62, hs62⟩ : ∃ x0, x0 = uC s58 163 (x).toNat (Int32.ofInt y) := ⟨_, rfl⟩
            rw [← hs62]
            have Is62 : Bd s62 := by rw [hs62]; exact bd_C Is58 (show (0 : Int) ≤ y ∧ y ≤ 2 by omega) ⟨by omega, by omega⟩
            have Fs62 := fm_C (i := (x).toNat) (x := Int32.ofInt y) Gs58 (show 163 ∈ _ by decide)
            rw [← hs62] at Fs62
            have ws62_73 : iI s62 73 = iI s58 73 := by rw [hs62]; rfl
            have ws62_90 : iI s62 90 = iI s58 90 := by rw [hs62]; rfl
            refine z_aload_n X (x := A 179) (show cdA 219 71 = some (.aload_n 0, 1, 0, 0, 0) from rfl) (List.Mem.head _) ?_
            refine s_getR X 179 (show cdA 219 72 = some (.getfield 41, 3, 12, 25, 0) from rfl) (by decide) rfl rfl ?_
            refine z_load_n X (x := x) (show cdA 219 75 = some (.iload_n 1, 1, 0, 0, 0) from rfl) (List.Mem.tail _ (List.Mem.head _)) ?_
            refine z_load_n X (x := z) (show cdA 219 76 = some (.iload_n 3, 1, 0, 0, 0) from rfl) (List.Mem.tail _ (List.Mem.tail _ (List.Mem.tail _ (List.Mem.head _)))) ?_
            refine z_ast X 187 (show cdA 219 77 = some (.iastore, 1, 0, 0, 0) from rfl) (by decide) rfl (by omega) (show x < 12 by omega) (by decide) ?_
            obtain ⟨s63, hs63⟩ : ∃ x0, x0 = uC s62 164 (x).toNat (Int32.ofInt z) := ⟨_, rfl⟩
            rw [← hs63]
            have Is63 : Bd s63 := by rw [hs63]; exact bd_C Is62 (show (0 : Int) ≤ z ∧ z ≤ 2 by omega) ⟨by omega, by omega⟩
            have Fs63 := fm_C (i := (x).toNat) (x := Int32.ofInt z) Fs62 (show 164 ∈ _ by decide)
            rw [← hs63] at Fs63
            have ws63_73 : iI s63 73 = iI s62 73 := by rw [hs63]; rfl
            have ws63_90 : iI s63 90 = iI s62 90 := by rw [hs63]; rfl
            exact w_vret X.1 q hRt (ax_d X (show cdA 219 78 = some (.return_, 1, 0, 0, 0) from rfl)) (Nat.zero_le _) (Nat.zero_le _) ⟨_, rfl, Is63, Fs63, rfl, trivial⟩
          ·
            exact w_vret X.1 q hRt (ax_d X (show cdA 219 63 = some (.return_, 1, 0, 0, 0) from rfl)) (Nat.zero_le _) (Nat.zero_le _) ⟨_, rfl, Is58, Gs58, rfl, trivial⟩
theorem k_way (G : GX l s0 D tys a0 dT) (I : Bd s) {x y : Int} (p0 : rng x) (p1 : rng y) : CT l s0 D A dT 217 (rmN 217) [.ref (A 179), .int (Int32.ofInt x), .int (Int32.ofInt y)] s (fun o t => Bd t ∧ Fm [73] [] s t ∧ ∃ e, o = .inl (some (.int (Int32.ofInt e))) ∧ rng e ∧ (True)) := by
  refine ct_of G (by decide) (Nat.le_of_ble_eq_true rfl) (fun k X E hRt hXt q => ?_)
  show WS k 0 [(0, .ref (A 179)), (1, .int (Int32.ofInt x)), (2, .int (Int32.ofInt y))] [] _ 0 0
  have F : Fm [73] [] s s := fm_rf _ _ s
  have b1 : (0 : Int) ≤ iI s 73 ∧ iI s 73 ≤ 3 := I.1 73
  have b2 : (0 : Int) ≤ iI s 90 ∧ iI s 90 ≤ 12 := I.1 90
  refine z_aload_n X (x := A 179) (show cdA 217 0 = some (.aload_n 0, 1, 0, 0, 0) from rfl) (List.Mem.head _) ?_
  refine z_const X (show cdA 217 1 = some (.iconst 0, 1, 0, 0, 0) from rfl) ?_
  refine s_putI X 179 (show cdA 217 2 = some (.putfield 172, 3, 12, 0, 0) from rfl) (by decide) rfl rfl (by decide) rfl rfl rfl ?_
  obtain ⟨s3, hs3⟩ : ∃ x0, x0 = uI s 73 (Int32.ofInt 0) := ⟨_, rfl⟩
  rw [← hs3]
  have Is3 : Bd s3 := by rw [hs3]; exact bd_I I (show (0 : Int) ≤ 0 ∧ 0 ≤ 3 by omega) ⟨by omega, by omega⟩
  have Fs3 := fm_I (x := Int32.ofInt 0) F (show 73 ∈ _ by decide)
  rw [← hs3] at Fs3
  have vs3 : iI s3 73 = 0 := by rw [hs3]; exact iI_u ⟨by omega, by omega⟩
  have ws3_90 : iI s3 90 = iI s 90 := by rw [hs3]; rfl
  refine z_aload_n X (x := A 179) (show cdA 217 5 = some (.aload_n 0, 1, 0, 0, 0) from rfl) (List.Mem.head _) ?_
  refine z_load_n X (x := x) (show cdA 217 6 = some (.iload_n 1, 1, 0, 0, 0) from rfl) (List.Mem.tail _ (List.Mem.head _)) ?_
  refine z_const X (show cdA 217 7 = some (.iconst 0, 1, 0, 0, 0) from rfl) ?_
  refine z_aload_n X (x := A 179) (show cdA 217 8 = some (.aload_n 0, 1, 0, 0, 0) from rfl) (List.Mem.head _) ?_
  refine z_getI X 179 (show cdA 217 9 = some (.getfield 233, 3, 12, 22, 0) from rfl) (by decide) rfl rfl ?_
  have b4 : (0 : Int) ≤ iI s3 90 ∧ iI s3 90 ≤ 12 := Is3.1 90
  refine z_const X (show cdA 217 12 = some (.iconst 1, 1, 0, 0, 0) from rfl) ?_
  refine z_sub X (show cdA 217 13 = some (.isub, 1, 0, 0, 0) from rfl) ?_
  refine z_callS X (rm := rmN 188) (As := [.int (Int32.ofInt x), .int (Int32.ofInt 0), .int (Int32.ofInt ((iI s3 90) - 1))]) (st := [.ref (A 179)]) (show cdA 217 14 = some (.invokestatic 209, 3, 188, 1, 0) from rfl) rfl (by rw [E.1, E.2.1, E.2.2.1]; exact k_in G Is3 (by omega) (by omega) (by omega)) ⟨by rw [E.2.2.2]; exact (show (rmN 188).frames + 1 ≤ (rmN 217).frames by decide), by rw [E.2.2.2]; exact (show 8 + (mNL (miB 188) + 11) + (rmN 188).locals ≤ (rmN 217).locals by decide), by rw [E.2.2.2]; exact (show 0 + (rmN 188).cells ≤ (rmN 217).cells by decide), by rw [E.2.2.2]; exact (show 0 + (rmN 188).slots ≤ (rmN 217).slots by decide)⟩ (Nat.le_of_ble_eq_true rfl) (fun vv s5 hq => ?_) (fun ee s5 hq => ?_)
  rotate_left
  · obtain ⟨Is5, Fs5, e6, hv, hrs5, hps5⟩ := hq; cases hv
  obtain ⟨Is5, Fs5, e6, hv, hrs5, hps5⟩ := hq
  cases hv
  have Gs5 := fm_ts Fs3 Fs5 (by decide) (by decide)
  have ws5_73 : iI s5 73 = iI s3 73 := fm_i Fs5 (by decide)
  have ws5_90 : iI s5 90 = iI s3 90 := fm_i Fs5 (by decide)
  show WS k 17 [(0, .ref (A 179)), (1, .int (Int32.ofInt x)), (2, .int (Int32.ofInt y))] [.int (Int32.ofInt e6), .ref (A 179)] (Wd A dT s5) 0 0
  refine z_if_ne X (t := 24) (show cdA 217 17 = some (.ifCond .ne 7, 3, 1, 0, 0) from rfl) (by decide) ⟨by omega, by omega⟩ (fun g7 => ?_) (fun g7 => ?_)
  ·
    refine z_const X (show cdA 217 24 = some (.iconst 0, 1, 0, 0, 0) from rfl) ?_
    refine z_const X (show cdA 217 25 = some (.iconst 1, 1, 0, 0, 0) from rfl) ?_
    refine z_callV X 179 (rm := rmN 187) (As := [.int (Int32.ofInt 0), .int (Int32.ofInt 1)]) (st := []) (show cdA 217 26 = some (.invokevirtual 229, 3, 187, 0, 0) from rfl) rfl (by decide) rfl (by rw [E.1, E.2.1, E.2.2.1]; exact k_bad G Is5 (by omega) (by omega)) ⟨by rw [E.2.2.2]; exact (show (rmN 187).frames + 1 ≤ (rmN 217).frames by decide), by rw [E.2.2.2]; exact (show 8 + (mNL (miB 187) + 11) + (rmN 187).locals ≤ (rmN 217).locals by decide), by rw [E.2.2.2]; exact (show 0 + (rmN 187).cells ≤ (rmN 217).cells by decide), by rw [E.2.2.2]; exact (show 0 + (rmN 187).slots ≤ (rmN 217).slots by decide)⟩ (Nat.le_of_ble_eq_true rfl) (fun vv s8 hq => ?_) (fun ee s8 hq => ?_)
    rotate_left
    · obtain ⟨Is8, Fs8, e9, hv, hrs8, hps8⟩ := hq; cases hv
    obtain ⟨Is8, Fs8, e9, hv, hrs8, hps8⟩ := hq
    cases hv
    have Gs8 := fm_ts Gs5 Fs8 (by decide) (by decide)
    have b10 : (0 : Int) ≤ iI s8 73 ∧ iI s8 73 ≤ 3 := Is8.1 73
    have ws8_90 : iI s8 90 = iI s5 90 := fm_i Fs8 (by decide)
    show WS k 29 [(0, .ref (A 179)), (1, .int (Int32.ofInt x)), (2, .int (Int32.ofInt y))] [.int (Int32.ofInt e9)] (Wd A dT s8) 0 0
    refine z_if_eq X (t := 34) (show cdA 217 29 = some (.ifCond .eq 5, 3, 0, 0, 0) from rfl) (by decide) ⟨by omega, by omega⟩ (fun g11 => ?_) (fun g11 => ?_)
    ·
      refine z_load_n X (x := y) (show cdA 217 34 = some (.iload_n 2, 1, 0, 0, 0) from rfl) (List.Mem.tail _ (List.Mem.tail _ (List.Mem.head _))) ?_
      refine z_const X (show cdA 217 35 = some (.iconst 0, 1, 0, 0, 0) from rfl) ?_
      refine z_aload_n X (x := A 179) (show cdA 217 36 = some (.aload_n 0, 1, 0, 0, 0) from rfl) (List.Mem.head _) ?_
      refine s_getR X 179 (show cdA 217 37 = some (.getfield 35, 3, 12, 23, 0) from rfl) (by decide) rfl rfl ?_
      refine z_load_n X (x := x) (show cdA 217 40 = some (.iload_n 1, 1, 0, 0, 0) from rfl) (List.Mem.tail _ (List.Mem.head _)) ?_
      refine z_ald X 185 (show cdA 217 41 = some (.iaload, 1, 0, 0, 0) from rfl) (by decide) rfl (by omega) (show x < 12 by omega) (by decide) ?_
      have b12 : (0 : Int) ≤ iC s8 162 (x).toNat ∧ iC s8 162 (x).toNat ≤ 24 := Is8.2 162 _ (show (x).toNat < 12 by omega)
      refine z_const X (show cdA 217 42 = some (.iconst 1, 1, 0, 0, 0) from rfl) ?_
      refine z_sub X (show cdA 217 43 = some (.isub, 1, 0, 0, 0) from rfl) ?_
      refine z_callS X (rm := rmN 188) (As := [.int (Int32.ofInt y), .int (Int32.ofInt 0), .int (Int32.ofInt ((iC s8 162 (x).toNat) - 1))]) (st := []) (show cdA 217 44 = some (.invokestatic 209, 3, 188, 1, 0) from rfl) rfl (by rw [E.1, E.2.1, E.2.2.1]; exact k_in G Is8 (by omega) (by omega) (by omega)) ⟨by rw [E.2.2.2]; exact (show (rmN 188).frames + 1 ≤ (rmN 217).frames by decide), by rw [E.2.2.2]; exact (show 8 + (mNL (miB 188) + 11) + (rmN 188).locals ≤ (rmN 217).locals by decide), by rw [E.2.2.2]; exact (show 0 + (rmN 188).cells ≤ (rmN 217).cells by decide), by rw [E.2.2.2]; exact (show 0 + (rmN 188).slots ≤ (rmN 217).slots by decide)⟩ (Nat.le_of_ble_eq_true rfl) (fun vv s13 hq => ?_) (fun ee s13 hq => ?_)
      rotate_left
      · obtain ⟨Is13, Fs13, e14, hv, hrs13, hps13⟩ := hq; cases hv
      obtain ⟨Is13, Fs13, e14, hv, hrs13, hps13⟩ := hq
      cases hv
      have Gs13 := fm_ts Gs8 Fs13 (by decide) (by decide)
      have ws13_73 : iI s13 73 = iI s8 73 := fm_i Fs13 (by decide)
      have ws13_90 : iI s13 90 = iI s8 90 := fm_i Fs13 (by decide)
      show WS k 47 [(0, .ref (A 179)), (1, .int (Int32.ofInt x)), (2, .int (Int32.ofInt y))] [.int (Int32.ofInt e14)] (Wd A dT s13) 0 0
      refine z_if_eq X (t := 61) (show cdA 217 47 = some (.ifCond .eq 14, 3, 0, 0, 0) from rfl) (by decide) ⟨by omega, by omega⟩ (fun g15 => ?_) (fun g15 => ?_)
      ·
        refine z_const X (show cdA 217 61 = some (.iconst (-1), 1, 0, 0, 0) from rfl) ?_
        exact w_iret X.1 q hRt rfl (ax_d X (show cdA 217 62 = some (.ireturn, 1, 0, 0, 0) from rfl)) (Nat.zero_le _) (Nat.zero_le _) ⟨_, rfl, Is13, Gs13, (-1), rfl, ⟨by omega, by omega⟩, trivial⟩
      ·
        refine z_aload_n X (x := A 179) (show cdA 217 50 = some (.aload_n 0, 1, 0, 0, 0) from rfl) (List.Mem.head _) ?_
        refine s_getR X 179 (show cdA 217 51 = some (.getfield 49, 3, 12, 28, 0) from rfl) (by decide) rfl rfl ?_
        refine z_load_n X (x := x) (show cdA 217 54 = some (.iload_n 1, 1, 0, 0, 0) from rfl) (List.Mem.tail _ (List.Mem.head _)) ?_
        refine z_aald X rw_189 (show cdA 217 55 = some (.aaload, 1, 0, 0, 0) from rfl) (by omega) (show x < 12 by omega) (by decide) ?_
        refine z_load_n X (x := y) (show cdA 217 56 = some (.iload_n 2, 1, 0, 0, 0) from rfl) (List.Mem.tail _ (List.Mem.tail _ (List.Mem.head _))) ?_
        refine z_ald2 X rw_189 (show cdA 217 57 = some (.iaload, 1, 0, 0, 0) from rfl) (show (x : Int).toNat < 12 by omega) (by omega) (show y < 24 by omega) (by decide) ?_
        have b16 : (0 : Int) ≤ (iC s13 (166 + (x : Int).toNat) (y : Int).toNat) ∧ (iC s13 (166 + (x : Int).toNat) (y : Int).toNat) ≤ 127 := rw_bd rw_189 Is13 (show (x : Int).toNat < 12 by omega) (show (y : Int).toNat < 24 by omega)
        refine z_goto X (t := 62) (show cdA 217 58 = some (.goto 4, 3, 0, 0, 0) from rfl) (by decide) ?_
        exact w_iret X.1 q hRt rfl (ax_d X (show cdA 217 62 = some (.ireturn, 1, 0, 0, 0) from rfl)) (Nat.zero_le _) (Nat.zero_le _) ⟨_, rfl, Is13, Gs13, (iC s13 (166 + (x : Int).toNat) (y : Int).toNat), rfl, ⟨by omega, by omega⟩, trivial⟩
    ·
      refine z_const X (show cdA 217 32 = some (.iconst 0, 1, 0, 0, 0) from rfl) ?_
      exact w_iret X.1 q hRt rfl (ax_d X (show cdA 217 33 = some (.ireturn, 1, 0, 0, 0) from rfl)) (Nat.zero_le _) (Nat.zero_le _) ⟨_, rfl, Is8, Gs8, 0, rfl, ⟨by omega, by omega⟩, trivial⟩
  ·
    refine z_const X (show cdA 217 20 = some (.iconst 1, 1, 0, 0, 0) from rfl) ?_
    refine z_goto X (t := 25) (show cdA 217 21 = some (.goto 4, 3, 0, 0, 0) from rfl) (by decide) ?_
    refine z_const X (show cdA 217 25 = some (.iconst 1, 1, 0, 0, 0) from rfl) ?_
    refine z_callV X 179 (rm := rmN 187) (As := [.int (Int32.ofInt 1), .int (Int32.ofInt 1)]) (st := []) (show cdA 217 26 = some (.invokevirtual 229, 3, 187, 0, 0) from rfl) rfl (by decide) rfl (by rw [E.1, E.2.1, E.2.2.1]; exact k_bad G Is5 (by omega) (by omega)) ⟨by rw [E.2.2.2]; exact (show (rmN 187).frames + 1 ≤ (rmN 217).frames by decide), by rw [E.2.2.2]; exact (show 8 + (mNL (miB 187) + 11) + (rmN 187).locals ≤ (rmN 217).locals by decide), by rw [E.2.2.2]; exact (show 0 + (rmN 187).cells ≤ (rmN 217).cells by decide), by rw [E.2.2.2]; exact (show 0 + (rmN 187).slots ≤ (rmN 217).slots by decide)⟩ (Nat.le_of_ble_eq_true rfl) (fun vv s17 hq => ?_) (fun ee s17 hq => ?_)
    rotate_left
    · obtain ⟨Is17, Fs17, e18, hv, hrs17, hps17⟩ := hq; cases hv
    obtain ⟨Is17, Fs17, e18, hv, hrs17, hps17⟩ := hq
    cases hv
    have Gs17 := fm_ts Gs5 Fs17 (by decide) (by decide)
    have b19 : (0 : Int) ≤ iI s17 73 ∧ iI s17 73 ≤ 3 := Is17.1 73
    have ws17_90 : iI s17 90 = iI s5 90 := fm_i Fs17 (by decide)
    show WS k 29 [(0, .ref (A 179)), (1, .int (Int32.ofInt x)), (2, .int (Int32.ofInt y))] [.int (Int32.ofInt e18)] (Wd A dT s17) 0 0
    refine z_if_eq X (t := 34) (show cdA 217 29 = some (.ifCond .eq 5, 3, 0, 0, 0) from rfl) (by decide) ⟨by omega, by omega⟩ (fun g20 => ?_) (fun g20 => ?_)
    ·
      refine z_load_n X (x := y) (show cdA 217 34 = some (.iload_n 2, 1, 0, 0, 0) from rfl) (List.Mem.tail _ (List.Mem.tail _ (List.Mem.head _))) ?_
      refine z_const X (show cdA 217 35 = some (.iconst 0, 1, 0, 0, 0) from rfl) ?_
      refine z_aload_n X (x := A 179) (show cdA 217 36 = some (.aload_n 0, 1, 0, 0, 0) from rfl) (List.Mem.head _) ?_
      refine s_getR X 179 (show cdA 217 37 = some (.getfield 35, 3, 12, 23, 0) from rfl) (by decide) rfl rfl ?_
      refine z_load_n X (x := x) (show cdA 217 40 = some (.iload_n 1, 1, 0, 0, 0) from rfl) (List.Mem.tail _ (List.Mem.head _)) ?_
      refine z_ald X 185 (show cdA 217 41 = some (.iaload, 1, 0, 0, 0) from rfl) (by decide) rfl (by omega) (show x < 12 by omega) (by decide) ?_
      have b21 : (0 : Int) ≤ iC s17 162 (x).toNat ∧ iC s17 162 (x).toNat ≤ 24 := Is17.2 162 _ (show (x).toNat < 12 by omega)
      refine z_const X (show cdA 217 42 = some (.iconst 1, 1, 0, 0, 0) from rfl) ?_
      refine z_sub X (show cdA 217 43 = some (.isub, 1, 0, 0, 0) from rfl) ?_
      refine z_callS X (rm := rmN 188) (As := [.int (Int32.ofInt y), .int (Int32.ofInt 0), .int (Int32.ofInt ((iC s17 162 (x).toNat) - 1))]) (st := []) (show cdA 217 44 = some (.invokestatic 209, 3, 188, 1, 0) from rfl) rfl (by rw [E.1, E.2.1, E.2.2.1]; exact k_in G Is17 (by omega) (by omega) (by omega)) ⟨by rw [E.2.2.2]; exact (show (rmN 188).frames + 1 ≤ (rmN 217).frames by decide), by rw [E.2.2.2]; exact (show 8 + (mNL (miB 188) + 11) + (rmN 188).locals ≤ (rmN 217).locals by decide), by rw [E.2.2.2]; exact (show 0 + (rmN 188).cells ≤ (rmN 217).cells by decide), by rw [E.2.2.2]; exact (show 0 + (rmN 188).slots ≤ (rmN 217).slots by decide)⟩ (Nat.le_of_ble_eq_true rfl) (fun vv s22 hq => ?_) (fun ee s22 hq => ?_)
      rotate_left
      · obtain ⟨Is22, Fs22, e23, hv, hrs22, hps22⟩ := hq; cases hv
      obtain ⟨Is22, Fs22, e23, hv, hrs22, hps22⟩ := hq
      cases hv
      have Gs22 := fm_ts Gs17 Fs22 (by decide) (by decide)
      have ws22_73 : iI s22 73 = iI s17 73 := fm_i Fs22 (by decide)
      have ws22_90 : iI s22 90 = iI s17 90 := fm_i Fs22 (by decide)
      show WS k 47 [(0, .ref (A 179)), (1, .int (Int32.ofInt x)), (2, .int (Int32.ofInt y))] [.int (Int32.ofInt e23)] (Wd A dT s22) 0 0
      refine z_if_eq X (t := 61) (show cdA 217 47 = some (.ifCond .eq 14, 3, 0, 0, 0) from rfl) (by decide) ⟨by omega, by omega⟩ (fun g24 => ?_) (fun g24 => ?_)
      ·
        refine z_const X (show cdA 217 61 = some (.iconst (-1), 1, 0, 0, 0) from rfl) ?_
        exact w_iret X.1 q hRt rfl (ax_d X (show cdA 217 62 = some (.ireturn, 1, 0, 0, 0) from rfl)) (Nat.zero_le _) (Nat.zero_le _) ⟨_, rfl, Is22, Gs22, (-1), rfl, ⟨by omega, by omega⟩, trivial⟩
      ·
        refine z_aload_n X (x := A 179) (show cdA 217 50 = some (.aload_n 0, 1, 0, 0, 0) from rfl) (List.Mem.head _) ?_
        refine s_getR X 179 (show cdA 217 51 = some (.getfield 49, 3, 12, 28, 0) from rfl) (by decide) rfl rfl ?_
        refine z_load_n X (x := x) (show cdA 217 54 = some (.iload_n 1, 1, 0, 0, 0) from rfl) (List.Mem.tail _ (List.Mem.head _)) ?_
        refine z_aald X rw_189 (show cdA 217 55 = some (.aaload, 1, 0, 0, 0) from rfl) (by omega) (show x < 12 by omega) (by decide) ?_
        refine z_load_n X (x := y) (show cdA 217 56 = some (.iload_n 2, 1, 0, 0, 0) from rfl) (List.Mem.tail _ (List.Mem.tail _ (List.Mem.head _))) ?_
        refine z_ald2 X rw_189 (show cdA 217 57 = some (.iaload, 1, 0, 0, 0) from rfl) (show (x : Int).toNat < 12 by omega) (by omega) (show y < 24 by omega) (by decide) ?_
        have b25 : (0 : Int) ≤ (iC s22 (166 + (x : Int).toNat) (y : Int).toNat) ∧ (iC s22 (166 + (x : Int).toNat) (y : Int).toNat) ≤ 127 := rw_bd rw_189 Is22 (show (x : Int).toNat < 12 by omega) (show (y : Int).toNat < 24 by omega)
        refine z_goto X (t := 62) (show cdA 217 58 = some (.goto 4, 3, 0, 0, 0) from rfl) (by decide) ?_
        exact w_iret X.1 q hRt rfl (ax_d X (show cdA 217 62 = some (.ireturn, 1, 0, 0, 0) from rfl)) (Nat.zero_le _) (Nat.zero_le _) ⟨_, rfl, Is22, Gs22, (iC s22 (166 + (x : Int).toNat) (y : Int).toNat), rfl, ⟨by omega, by omega⟩, trivial⟩
    ·
      refine z_const X (show cdA 217 32 = some (.iconst 0, 1, 0, 0, 0) from rfl) ?_
      exact w_iret X.1 q hRt rfl (ax_d X (show cdA 217 33 = some (.ireturn, 1, 0, 0, 0) from rfl)) (Nat.zero_le _) (Nat.zero_le _) ⟨_, rfl, Is17, Gs17, 0, rfl, ⟨by omega, by omega⟩, trivial⟩
theorem k_flow (G : GX l s0 D tys a0 dT) (I : Bd s) {x y z w : Int} (p0 : rng x) (p1 : rng y) (p2 : rng z) (p3 : rng w) : CT l s0 D A dT 218 (rmN 218) [.ref (A 179), .int (Int32.ofInt x), .int (Int32.ofInt y), .int (Int32.ofInt z), .int (Int32.ofInt w)] s (fun o t => Bd t ∧ Fm [73] [190, 191, 192, 193, 194, 195, 196, 197, 198, 199, 200, 201] s t ∧ o = .inl none ∧ (True)) := by
  refine ct_of G (by decide) (Nat.le_of_ble_eq_true rfl) (fun k X E hRt hXt q => ?_)
  show WS k 0 [(0, .ref (A 179)), (1, .int (Int32.ofInt x)), (2, .int (Int32.ofInt y)), (3, .int (Int32.ofInt z)), (4, .int (Int32.ofInt w))] [] _ 0 0
  have F : Fm [73] [190, 191, 192, 193, 194, 195, 196, 197, 198, 199, 200, 201] s s := fm_rf _ _ s
  have b1 : (0 : Int) ≤ iI s 73 ∧ iI s 73 ≤ 3 := I.1 73
  have b2 : (0 : Int) ≤ iI s 90 ∧ iI s 90 ≤ 12 := I.1 90
  have L85 : ∀ (n : Nat) (t : PS) (xv zv wv c : Int), Bd t → Fm [73] [190, 191, 192, 193, 194, 195, 196, 197, 198, 199, 200, 201] s t → ((0 ≤ xv ∧ xv ≤ 11) ∧ (0 ≤ zv ∧ zv ≤ 23) ∧ (0 ≤ wv ∧ wv ≤ 50) ∧ 0 ≤ c ∧ c ≤ 24) → 24 - c ≤ n → (∀ (t' : PS) (xv' zv' wv' c' : Int), Bd t' → Fm [73] [190, 191, 192, 193, 194, 195, 196, 197, 198, 199, 200, 201] s t' → ((0 ≤ xv' ∧ xv' ≤ 11) ∧ (0 ≤ zv' ∧ zv' ≤ 23) ∧ (0 ≤ wv' ∧ wv' ≤ 50) ∧ 0 ≤ c' ∧ c' ≤ 24) → WS k 108 [(0, .ref (A 179)), (1, .int (Int32.ofInt xv')), (3, .int (Int32.ofInt zv')), (4, .int (Int32.ofInt wv')), (5, .int (Int32.ofInt c'))] [] (Wd A dT t') 0 0) → WS k 85 [(0, .ref (A 179)), (1, .int (Int32.ofInt xv)), (3, .int (Int32.ofInt zv)), (4, .int (Int32.ofInt wv)), (5, .int (Int32.ofInt c))] [] (Wd A dT t) 0 0 := by
    intro n
    induction n with
    | zero =>
      intro t xv zv wv c I F hi hm kx
      have b1001 : (0 : Int) ≤ iI t 73 ∧ iI t 73 ≤ 3 := I.1 73
      have b1002 : (0 : Int) ≤ iI t 90 ∧ iI t 90 ≤ 12 := I.1 90
      refine z_load X (x := c) (show cdA 218 85 = some (.iload 5, 2, 0, 0, 0) from rfl) (List.Mem.tail _ (List.Mem.tail _ (List.Mem.tail _ (List.Mem.tail _ (List.Mem.head _))))) ?_
      refine z_load_n X (x := zv) (show cdA 218 87 = some (.iload_n 3, 1, 0, 0, 0) from rfl) (List.Mem.tail _ (List.Mem.tail _ (List.Mem.head _))) ?_
      refine z_icmp_gt X (t := 108) (show cdA 218 88 = some (.if_icmp .gt 20, 3, 4, 0, 0) from rfl) (by decide) ⟨by omega, by omega⟩ ⟨by omega, by omega⟩ (fun g1003 => ?_) (fun g1003 => ?_)
      ·
        refine WS_lv (lv := [(0, .ref (A 179)), (1, .int (Int32.ofInt xv)), (3, .int (Int32.ofInt zv)), (4, .int (Int32.ofInt wv)), (5, .int (Int32.ofInt c))]) (List.forall_mem_cons.mpr ⟨(List.Mem.head _), (List.forall_mem_cons.mpr ⟨(List.Mem.tail _ (List.Mem.head _)), (List.forall_mem_cons.mpr ⟨(List.Mem.tail _ (List.Mem.tail _ (List.Mem.head _))), (List.forall_mem_cons.mpr ⟨(List.Mem.tail _ (List.Mem.tail _ (List.Mem.tail _ (List.Mem.head _)))), (List.forall_mem_cons.mpr ⟨(List.Mem.tail _ (List.Mem.tail _ (List.Mem.tail _ (List.Mem.tail _ (List.Mem.head _))))), (fun q h => absurd h List.not_mem_nil)⟩)⟩)⟩)⟩)⟩) ?_
        exact kx _ xv zv wv c I F (by omega)
      ·
        refine z_aload_n X (x := A 179) (show cdA 218 91 = some (.aload_n 0, 1, 0, 0, 0) from rfl) (List.Mem.head _) ?_
        refine s_getR X 179 (show cdA 218 92 = some (.getfield 55, 3, 12, 30, 0) from rfl) (by decide) rfl rfl ?_
        refine z_load_n X (x := xv) (show cdA 218 95 = some (.iload_n 1, 1, 0, 0, 0) from rfl) (List.Mem.tail _ (List.Mem.head _)) ?_
        refine z_aald X rw_215 (show cdA 218 96 = some (.aaload, 1, 0, 0, 0) from rfl) (by omega) (show xv < 12 by omega) (by decide) ?_
        refine z_load X (x := c) (show cdA 218 97 = some (.iload 5, 2, 0, 0, 0) from rfl) (List.Mem.tail _ (List.Mem.tail _ (List.Mem.tail _ (List.Mem.tail _ (List.Mem.head _))))) ?_
        refine z_load X (x := wv) (show cdA 218 99 = some (.iload 4, 2, 0, 0, 0) from rfl) (List.Mem.tail _ (List.Mem.tail _ (List.Mem.tail _ (List.Mem.head _)))) ?_
        refine z_ast2 X rw_215 (show cdA 218 101 = some (.iastore, 1, 0, 0, 0) from rfl) (show (xv : Int).toNat < 12 by omega) (by omega) (show c < 24 by omega) (by decide) ?_
        obtain ⟨s1004, hs1004⟩ : ∃ x0, x0 = uC t (190 + (xv : Int).toNat) (c : Int).toNat (Int32.ofInt wv) := ⟨_, rfl⟩
        rw [← hs1004]
        have Is1004 : Bd s1004 := by rw [hs1004]; exact rw_st rw_215 I (show (xv : Int).toNat < 12 by omega) (show (0 : Int) ≤ wv ∧ wv ≤ 50 by omega) ⟨by omega, by omega⟩
        have Fs1004 := fm_C (i := (c : Int).toNat) (x := Int32.ofInt wv) F ((show ∀ j, j < 12 → 190 + j ∈ _ by decide) (xv : Int).toNat (by omega))
        rw [← hs1004] at Fs1004
        have ws1004_73 : iI s1004 73 = iI t 73 := by rw [hs1004]; rfl
        have ws1004_90 : iI s1004 90 = iI t 90 := by rw [hs1004]; rfl
        refine z_inc X (x := c) (lv' := [(5, .int (Int32.ofInt (c + 1))), (0, .ref (A 179)), (1, .int (Int32.ofInt xv)), (3, .int (Int32.ofInt zv)), (4, .int (Int32.ofInt wv))]) (show cdA 218 102 = some (.iinc 5 1, 3, 0, 0, 0) from rfl) (by decide) (List.Mem.tail _ (List.Mem.tail _ (List.Mem.tail _ (List.Mem.tail _ (List.Mem.head _))))) (fun _ h => h) ?_
        refine z_goto X (t := 85) (show cdA 218 105 = some (.goto (-20), 3, 0, 0, 0) from rfl) (by decide) ?_
        exfalso
        omega
    | succ n ih =>
      intro t xv zv wv c I F hi hm kx
      have b1001 : (0 : Int) ≤ iI t 73 ∧ iI t 73 ≤ 3 := I.1 73
      have b1002 : (0 : Int) ≤ iI t 90 ∧ iI t 90 ≤ 12 := I.1 90
      refine z_load X (x := c) (show cdA 218 85 = some (.iload 5, 2, 0, 0, 0) from rfl) (List.Mem.tail _ (List.Mem.tail _ (List.Mem.tail _ (List.Mem.tail _ (List.Mem.head _))))) ?_
      refine z_load_n X (x := zv) (show cdA 218 87 = some (.iload_n 3, 1, 0, 0, 0) from rfl) (List.Mem.tail _ (List.Mem.tail _ (List.Mem.head _))) ?_
      refine z_icmp_gt X (t := 108) (show cdA 218 88 = some (.if_icmp .gt 20, 3, 4, 0, 0) from rfl) (by decide) ⟨by omega, by omega⟩ ⟨by omega, by omega⟩ (fun g1003 => ?_) (fun g1003 => ?_)
      ·
        refine WS_lv (lv := [(0, .ref (A 179)), (1, .int (Int32.ofInt xv)), (3, .int (Int32.ofInt zv)), (4, .int (Int32.ofInt wv)), (5, .int (Int32.ofInt c))]) (List.forall_mem_cons.mpr ⟨(List.Mem.head _), (List.forall_mem_cons.mpr ⟨(List.Mem.tail _ (List.Mem.head _)), (List.forall_mem_cons.mpr ⟨(List.Mem.tail _ (List.Mem.tail _ (List.Mem.head _))), (List.forall_mem_cons.mpr ⟨(List.Mem.tail _ (List.Mem.tail _ (List.Mem.tail _ (List.Mem.head _)))), (List.forall_mem_cons.mpr ⟨(List.Mem.tail _ (List.Mem.tail _ (List.Mem.tail _ (List.Mem.tail _ (List.Mem.head _))))), (fun q h => absurd h List.not_mem_nil)⟩)⟩)⟩)⟩)⟩) ?_
        exact kx _ xv zv wv c I F (by omega)
      ·
        refine z_aload_n X (x := A 179) (show cdA 218 91 = some (.aload_n 0, 1, 0, 0, 0) from rfl) (List.Mem.head _) ?_
        refine s_getR X 179 (show cdA 218 92 = some (.getfield 55, 3, 12, 30, 0) from rfl) (by decide) rfl rfl ?_
        refine z_load_n X (x := xv) (show cdA 218 95 = some (.iload_n 1, 1, 0, 0, 0) from rfl) (List.Mem.tail _ (List.Mem.head _)) ?_
        refine z_aald X rw_215 (show cdA 218 96 = some (.aaload, 1, 0, 0, 0) from rfl) (by omega) (show xv < 12 by omega) (by decide) ?_
        refine z_load X (x := c) (show cdA 218 97 = some (.iload 5, 2, 0, 0, 0) from rfl) (List.Mem.tail _ (List.Mem.tail _ (List.Mem.tail _ (List.Mem.tail _ (List.Mem.head _))))) ?_
        refine z_load X (x := wv) (show cdA 218 99 = some (.iload 4, 2, 0, 0, 0) from rfl) (List.Mem.tail _ (List.Mem.tail _ (List.Mem.tail _ (List.Mem.head _)))) ?_
        refine z_ast2 X rw_215 (show cdA 218 101 = some (.iastore, 1, 0, 0, 0) from rfl) (show (xv : Int).toNat < 12 by omega) (by omega) (show c < 24 by omega) (by decide) ?_
        obtain ⟨s1004, hs1004⟩ : ∃ x0, x0 = uC t (190 + (xv : Int).toNat) (c : Int).toNat (Int32.ofInt wv) := ⟨_, rfl⟩
        rw [← hs1004]
        have Is1004 : Bd s1004 := by rw [hs1004]; exact rw_st rw_215 I (show (xv : Int).toNat < 12 by omega) (show (0 : Int) ≤ wv ∧ wv ≤ 50 by omega) ⟨by omega, by omega⟩
        have Fs1004 := fm_C (i := (c : Int).toNat) (x := Int32.ofInt wv) F ((show ∀ j, j < 12 → 190 + j ∈ _ by decide) (xv : Int).toNat (by omega))
        rw [← hs1004] at Fs1004
        have ws1004_73 : iI s1004 73 = iI t 73 := by rw [hs1004]; rfl
        have ws1004_90 : iI s1004 90 = iI t 90 := by rw [hs1004]; rfl
        refine z_inc X (x := c) (lv' := [(5, .int (Int32.ofInt (c + 1))), (0, .ref (A 179)), (1, .int (Int32.ofInt xv)), (3, .int (Int32.ofInt zv)), (4, .int (Int32.ofInt wv))]) (show cdA 218 102 = some (.iinc 5 1, 3, 0, 0, 0) from rfl) (by decide) (List.Mem.tail _ (List.Mem.tail _ (List.Mem.tail _ (List.Mem.tail _ (List.Mem.head _))))) (fun _ h => h) ?_
        refine z_goto X (t := 85) (show cdA 218 105 = some (.goto (-20), 3, 0, 0, 0) from rfl) (by decide) ?_
        refine WS_lv (lv := [(0, .ref (A 179)), (1, .int (Int32.ofInt xv)), (3, .int (Int32.ofInt zv)), (4, .int (Int32.ofInt wv)), (5, .int (Int32.ofInt (c + 1)))]) (List.forall_mem_cons.mpr ⟨(List.Mem.tail _ (List.Mem.head _)), (List.forall_mem_cons.mpr ⟨(List.Mem.tail _ (List.Mem.tail _ (List.Mem.head _))), (List.forall_mem_cons.mpr ⟨(List.Mem.tail _ (List.Mem.tail _ (List.Mem.tail _ (List.Mem.head _)))), (List.forall_mem_cons.mpr ⟨(List.Mem.tail _ (List.Mem.tail _ (List.Mem.tail _ (List.Mem.tail _ (List.Mem.head _))))), (List.forall_mem_cons.mpr ⟨(List.Mem.head _), (fun q h => absurd h List.not_mem_nil)⟩)⟩)⟩)⟩)⟩) ?_
        exact ih _ xv zv wv (c + 1) Is1004 Fs1004 (by omega) (by omega) kx
  refine z_aload_n X (x := A 179) (show cdA 218 0 = some (.aload_n 0, 1, 0, 0, 0) from rfl) (List.Mem.head _) ?_
  refine z_const X (show cdA 218 1 = some (.iconst 0, 1, 0, 0, 0) from rfl) ?_
  refine s_putI X 179 (show cdA 218 2 = some (.putfield 172, 3, 12, 0, 0) from rfl) (by decide) rfl rfl (by decide) rfl rfl rfl ?_
  obtain ⟨s3, hs3⟩ : ∃ x0, x0 = uI s 73 (Int32.ofInt 0) := ⟨_, rfl⟩
  rw [← hs3]
  have Is3 : Bd s3 := by rw [hs3]; exact bd_I I (show (0 : Int) ≤ 0 ∧ 0 ≤ 3 by omega) ⟨by omega, by omega⟩
  have Fs3 := fm_I (x := Int32.ofInt 0) F (show 73 ∈ _ by decide)
  rw [← hs3] at Fs3
  have vs3 : iI s3 73 = 0 := by rw [hs3]; exact iI_u ⟨by omega, by omega⟩
  have ws3_90 : iI s3 90 = iI s 90 := by rw [hs3]; rfl
  refine z_aload_n X (x := A 179) (show cdA 218 5 = some (.aload_n 0, 1, 0, 0, 0) from rfl) (List.Mem.head _) ?_
  refine z_load_n X (x := x) (show cdA 218 6 = some (.iload_n 1, 1, 0, 0, 0) from rfl) (List.Mem.tail _ (List.Mem.head _)) ?_
  refine z_const X (show cdA 218 7 = some (.iconst 0, 1, 0, 0, 0) from rfl) ?_
  refine z_aload_n X (x := A 179) (show cdA 218 8 = some (.aload_n 0, 1, 0, 0, 0) from rfl) (List.Mem.head _) ?_
  refine z_getI X 179 (show cdA 218 9 = some (.getfield 233, 3, 12, 22, 0) from rfl) (by decide) rfl rfl ?_
  have b4 : (0 : Int) ≤ iI s3 90 ∧ iI s3 90 ≤ 12 := Is3.1 90
  refine z_const X (show cdA 218 12 = some (.iconst 1, 1, 0, 0, 0) from rfl) ?_
  refine z_sub X (show cdA 218 13 = some (.isub, 1, 0, 0, 0) from rfl) ?_
  refine z_callS X (rm := rmN 188) (As := [.int (Int32.ofInt x), .int (Int32.ofInt 0), .int (Int32.ofInt ((iI s3 90) - 1))]) (st := [.ref (A 179)]) (show cdA 218 14 = some (.invokestatic 209, 3, 188, 1, 0) from rfl) rfl (by rw [E.1, E.2.1, E.2.2.1]; exact k_in G Is3 (by omega) (by omega) (by omega)) ⟨by rw [E.2.2.2]; exact (show (rmN 188).frames + 1 ≤ (rmN 218).frames by decide), by rw [E.2.2.2]; exact (show 8 + (mNL (miB 188) + 11) + (rmN 188).locals ≤ (rmN 218).locals by decide), by rw [E.2.2.2]; exact (show 0 + (rmN 188).cells ≤ (rmN 218).cells by decide), by rw [E.2.2.2]; exact (show 0 + (rmN 188).slots ≤ (rmN 218).slots by decide)⟩ (Nat.le_of_ble_eq_true rfl) (fun vv s5 hq => ?_) (fun ee s5 hq => ?_)
  rotate_left
  · obtain ⟨Is5, Fs5, e6, hv, hrs5, hps5⟩ := hq; cases hv
  obtain ⟨Is5, Fs5, e6, hv, hrs5, hps5⟩ := hq
  cases hv
  have Gs5 := fm_ts Fs3 Fs5 (by decide) (by decide)
  have ws5_73 : iI s5 73 = iI s3 73 := fm_i Fs5 (by decide)
  have ws5_90 : iI s5 90 = iI s3 90 := fm_i Fs5 (by decide)
  show WS k 17 [(0, .ref (A 179)), (1, .int (Int32.ofInt x)), (2, .int (Int32.ofInt y)), (3, .int (Int32.ofInt z)), (4, .int (Int32.ofInt w))] [.int (Int32.ofInt e6), .ref (A 179)] (Wd A dT s5) 0 0
  refine z_if_ne X (t := 24) (show cdA 218 17 = some (.ifCond .ne 7, 3, 1, 0, 0) from rfl) (by decide) ⟨by omega, by omega⟩ (fun g7 => ?_) (fun g7 => ?_)
  ·
    refine z_const X (show cdA 218 24 = some (.iconst 0, 1, 0, 0, 0) from rfl) ?_
    refine z_const X (show cdA 218 25 = some (.iconst 1, 1, 0, 0, 0) from rfl) ?_
    refine z_callV X 179 (rm := rmN 187) (As := [.int (Int32.ofInt 0), .int (Int32.ofInt 1)]) (st := []) (show cdA 218 26 = some (.invokevirtual 229, 3, 187, 0, 0) from rfl) rfl (by decide) rfl (by rw [E.1, E.2.1, E.2.2.1]; exact k_bad G Is5 (by omega) (by omega)) ⟨by rw [E.2.2.2]; exact (show (rmN 187).frames + 1 ≤ (rmN 218).frames by decide), by rw [E.2.2.2]; exact (show 8 + (mNL (miB 187) + 11) + (rmN 187).locals ≤ (rmN 218).locals by decide), by rw [E.2.2.2]; exact (show 0 + (rmN 187).cells ≤ (rmN 218).cells by decide), by rw [E.2.2.2]; exact (show 0 + (rmN 187).slots ≤ (rmN 218).slots by decide)⟩ (Nat.le_of_ble_eq_true rfl) (fun vv s8 hq => ?_) (fun ee s8 hq => ?_)
    rotate_left
    · obtain ⟨Is8, Fs8, e9, hv, hrs8, hps8⟩ := hq; cases hv
    obtain ⟨Is8, Fs8, e9, hv, hrs8, hps8⟩ := hq
    cases hv
    have Gs8 := fm_ts Gs5 Fs8 (by decide) (by decide)
    have b10 : (0 : Int) ≤ iI s8 73 ∧ iI s8 73 ≤ 3 := Is8.1 73
    have ws8_90 : iI s8 90 = iI s5 90 := fm_i Fs8 (by decide)
    show WS k 29 [(0, .ref (A 179)), (1, .int (Int32.ofInt x)), (2, .int (Int32.ofInt y)), (3, .int (Int32.ofInt z)), (4, .int (Int32.ofInt w))] [.int (Int32.ofInt e9)] (Wd A dT s8) 0 0
    refine z_if_ne X (t := 81) (show cdA 218 29 = some (.ifCond .ne 52, 3, 1, 0, 0) from rfl) (by decide) ⟨by omega, by omega⟩ (fun g11 => ?_) (fun g11 => ?_)
    ·
      exact w_vret X.1 q hRt (ax_d X (show cdA 218 81 = some (.return_, 1, 0, 0, 0) from rfl)) (Nat.zero_le _) (Nat.zero_le _) ⟨_, rfl, Is8, Gs8, rfl, trivial⟩
    ·
      refine z_aload_n X (x := A 179) (show cdA 218 32 = some (.aload_n 0, 1, 0, 0, 0) from rfl) (List.Mem.head _) ?_
      refine z_load_n X (x := y) (show cdA 218 33 = some (.iload_n 2, 1, 0, 0, 0) from rfl) (List.Mem.tail _ (List.Mem.tail _ (List.Mem.head _))) ?_
      refine z_const X (show cdA 218 34 = some (.iconst 0, 1, 0, 0, 0) from rfl) ?_
      refine z_bipush X (show cdA 218 35 = some (.bipush 23, 2, 0, 0, 23) from rfl) ?_
      refine z_callS X (rm := rmN 188) (As := [.int (Int32.ofInt y), .int (Int32.ofInt 0), .int (Int32.ofInt 23)]) (st := [.ref (A 179)]) (show cdA 218 37 = some (.invokestatic 209, 3, 188, 1, 0) from rfl) rfl (by rw [E.1, E.2.1, E.2.2.1]; exact k_in G Is8 (by omega) (by omega) (by omega)) ⟨by rw [E.2.2.2]; exact (show (rmN 188).frames + 1 ≤ (rmN 218).frames by decide), by rw [E.2.2.2]; exact (show 8 + (mNL (miB 188) + 11) + (rmN 188).locals ≤ (rmN 218).locals by decide), by rw [E.2.2.2]; exact (show 0 + (rmN 188).cells ≤ (rmN 218).cells by decide), by rw [E.2.2.2]; exact (show 0 + (rmN 188).slots ≤ (rmN 218).slots by decide)⟩ (Nat.le_of_ble_eq_true rfl) (fun vv s12 hq => ?_) (fun ee s12 hq => ?_)
      rotate_left
      · obtain ⟨Is12, Fs12, e13, hv, hrs12, hps12⟩ := hq; cases hv
      obtain ⟨Is12, Fs12, e13, hv, hrs12, hps12⟩ := hq
      cases hv
      have Gs12 := fm_ts Gs8 Fs12 (by decide) (by decide)
      have ws12_73 : iI s12 73 = iI s8 73 := fm_i Fs12 (by decide)
      have ws12_90 : iI s12 90 = iI s8 90 := fm_i Fs12 (by decide)
      show WS k 40 [(0, .ref (A 179)), (1, .int (Int32.ofInt x)), (2, .int (Int32.ofInt y)), (3, .int (Int32.ofInt z)), (4, .int (Int32.ofInt w))] [.int (Int32.ofInt e13), .ref (A 179)] (Wd A dT s12) 0 0
      refine z_if_eq X (t := 69) (show cdA 218 40 = some (.ifCond .eq 29, 3, 0, 0, 0) from rfl) (by decide) ⟨by omega, by omega⟩ (fun g14 => ?_) (fun g14 => ?_)
      ·
        refine z_const X (show cdA 218 69 = some (.iconst 1, 1, 0, 0, 0) from rfl) ?_
        refine z_goto X (t := 74) (show cdA 218 70 = some (.goto 4, 3, 0, 0, 0) from rfl) (by decide) ?_
        refine z_const X (show cdA 218 74 = some (.iconst 2, 1, 0, 0, 0) from rfl) ?_
        refine z_callV X 179 (rm := rmN 187) (As := [.int (Int32.ofInt 1), .int (Int32.ofInt 2)]) (st := []) (show cdA 218 75 = some (.invokevirtual 229, 3, 187, 0, 0) from rfl) rfl (by decide) rfl (by rw [E.1, E.2.1, E.2.2.1]; exact k_bad G Is12 (by omega) (by omega)) ⟨by rw [E.2.2.2]; exact (show (rmN 187).frames + 1 ≤ (rmN 218).frames by decide), by rw [E.2.2.2]; exact (show 8 + (mNL (miB 187) + 11) + (rmN 187).locals ≤ (rmN 218).locals by decide), by rw [E.2.2.2]; exact (show 0 + (rmN 187).cells ≤ (rmN 218).cells by decide), by rw [E.2.2.2]; exact (show 0 + (rmN 187).slots ≤ (rmN 218).slots by decide)⟩ (Nat.le_of_ble_eq_true rfl) (fun vv s15 hq => ?_) (fun ee s15 hq => ?_)
        rotate_left
        · obtain ⟨Is15, Fs15, e16, hv, hrs15, hps15⟩ := hq; cases hv
        obtain ⟨Is15, Fs15, e16, hv, hrs15, hps15⟩ := hq
        cases hv
        have Gs15 := fm_ts Gs12 Fs15 (by decide) (by decide)
        have b17 : (0 : Int) ≤ iI s15 73 ∧ iI s15 73 ≤ 3 := Is15.1 73
        have ws15_90 : iI s15 90 = iI s12 90 := fm_i Fs15 (by decide)
        show WS k 78 [(0, .ref (A 179)), (1, .int (Int32.ofInt x)), (2, .int (Int32.ofInt y)), (3, .int (Int32.ofInt z)), (4, .int (Int32.ofInt w))] [.int (Int32.ofInt e16)] (Wd A dT s15) 0 0
        refine z_if_eq X (t := 82) (show cdA 218 78 = some (.ifCond .eq 4, 3, 0, 0, 0) from rfl) (by decide) ⟨by omega, by omega⟩ (fun g18 => ?_) (fun g18 => ?_)
        ·
          refine z_load_n X (x := y) (show cdA 218 82 = some (.iload_n 2, 1, 0, 0, 0) from rfl) (List.Mem.tail _ (List.Mem.tail _ (List.Mem.head _))) ?_
          refine z_store X (lv' := [(5, .int (Int32.ofInt y)), (0, .ref (A 179)), (1, .int (Int32.ofInt x)), (2, .int (Int32.ofInt y)), (3, .int (Int32.ofInt z)), (4, .int (Int32.ofInt w))]) (show cdA 218 83 = some (.istore 5, 2, 0, 0, 0) from rfl) (by decide) (fun _ h => h) ?_
          refine WS_lv (lv := [(0, .ref (A 179)), (1, .int (Int32.ofInt x)), (3, .int (Int32.ofInt z)), (4, .int (Int32.ofInt w)), (5, .int (Int32.ofInt y))]) (List.forall_mem_cons.mpr ⟨(List.Mem.tail _ (List.Mem.head _)), (List.forall_mem_cons.mpr ⟨(List.Mem.tail _ (List.Mem.tail _ (List.Mem.head _))), (List.forall_mem_cons.mpr ⟨(List.Mem.tail _ (List.Mem.tail _ (List.Mem.tail _ (List.Mem.tail _ (List.Mem.head _))))), (List.forall_mem_cons.mpr ⟨(List.Mem.tail _ (List.Mem.tail _ (List.Mem.tail _ (List.Mem.tail _ (List.Mem.tail _ (List.Mem.head _)))))), (List.forall_mem_cons.mpr ⟨(List.Mem.head _), (fun q h => absurd h List.not_mem_nil)⟩)⟩)⟩)⟩)⟩) ?_
          refine L85 ((24 - y : Int)).toNat s15 x z w y Is15 Gs15 (by omega) (by omega) ?_
          intro s19 x20 x21 x22 x23 Is19 Fs19 hs19
          have b24 : (0 : Int) ≤ iI s19 73 ∧ iI s19 73 ≤ 3 := Is19.1 73
          have b25 : (0 : Int) ≤ iI s19 90 ∧ iI s19 90 ≤ 12 := Is19.1 90
          exact w_vret X.1 q hRt (ax_d X (show cdA 218 108 = some (.return_, 1, 0, 0, 0) from rfl)) (Nat.zero_le _) (Nat.zero_le _) ⟨_, rfl, Is19, Fs19, rfl, trivial⟩
        ·
          exact w_vret X.1 q hRt (ax_d X (show cdA 218 81 = some (.return_, 1, 0, 0, 0) from rfl)) (Nat.zero_le _) (Nat.zero_le _) ⟨_, rfl, Is15, Gs15, rfl, trivial⟩
      ·
        refine z_load_n X (x := z) (show cdA 218 43 = some (.iload_n 3, 1, 0, 0, 0) from rfl) (List.Mem.tail _ (List.Mem.tail _ (List.Mem.tail _ (List.Mem.head _)))) ?_
        refine z_const X (show cdA 218 44 = some (.iconst 0, 1, 0, 0, 0) from rfl) ?_
        refine z_bipush X (show cdA 218 45 = some (.bipush 23, 2, 0, 0, 23) from rfl) ?_
        refine z_callS X (rm := rmN 188) (As := [.int (Int32.ofInt z), .int (Int32.ofInt 0), .int (Int32.ofInt 23)]) (st := [.ref (A 179)]) (show cdA 218 47 = some (.invokestatic 209, 3, 188, 1, 0) from rfl) rfl (by rw [E.1, E.2.1, E.2.2.1]; exact k_in G Is12 (by omega) (by omega) (by omega)) ⟨by rw [E.2.2.2]; exact (show (rmN 188).frames + 1 ≤ (rmN 218).frames by decide), by rw [E.2.2.2]; exact (show 8 + (mNL (miB 188) + 11) + (rmN 188).locals ≤ (rmN 218).locals by decide), by rw [E.2.2.2]; exact (show 0 + (rmN 188).cells ≤ (rmN 218).cells by decide), by rw [E.2.2.2]; exact (show 0 + (rmN 188).slots ≤ (rmN 218).slots by decide)⟩ (Nat.le_of_ble_eq_true rfl) (fun vv s26 hq => ?_) (fun ee s26 hq => ?_)
        rotate_left
        · obtain ⟨Is26, Fs26, e27, hv, hrs26, hps26⟩ := hq; cases hv
        obtain ⟨Is26, Fs26, e27, hv, hrs26, hps26⟩ := hq
        cases hv
        have Gs26 := fm_ts Gs12 Fs26 (by decide) (by decide)
        have ws26_73 : iI s26 73 = iI s12 73 := fm_i Fs26 (by decide)
        have ws26_90 : iI s26 90 = iI s12 90 := fm_i Fs26 (by decide)
        show WS k 50 [(0, .ref (A 179)), (1, .int (Int32.ofInt x)), (2, .int (Int32.ofInt y)), (3, .int (Int32.ofInt z)), (4, .int (Int32.ofInt w))] [.int (Int32.ofInt e27), .ref (A 179)] (Wd A dT s26) 0 0
        refine z_if_eq X (t := 69) (show cdA 218 50 = some (.ifCond .eq 19, 3, 0, 0, 0) from rfl) (by decide) ⟨by omega, by omega⟩ (fun g28 => ?_) (fun g28 => ?_)
        ·
          refine z_const X (show cdA 218 69 = some (.iconst 1, 1, 0, 0, 0) from rfl) ?_
          refine z_goto X (t := 74) (show cdA 218 70 = some (.goto 4, 3, 0, 0, 0) from rfl) (by decide) ?_
          refine z_const X (show cdA 218 74 = some (.iconst 2, 1, 0, 0, 0) from rfl) ?_
          refine z_callV X 179 (rm := rmN 187) (As := [.int (Int32.ofInt 1), .int (Int32.ofInt 2)]) (st := []) (show cdA 218 75 = some (.invokevirtual 229, 3, 187, 0, 0) from rfl) rfl (by decide) rfl (by rw [E.1, E.2.1, E.2.2.1]; exact k_bad G Is26 (by omega) (by omega)) ⟨by rw [E.2.2.2]; exact (show (rmN 187).frames + 1 ≤ (rmN 218).frames by decide), by rw [E.2.2.2]; exact (show 8 + (mNL (miB 187) + 11) + (rmN 187).locals ≤ (rmN 218).locals by decide), by rw [E.2.2.2]; exact (show 0 + (rmN 187).cells ≤ (rmN 218).cells by decide), by rw [E.2.2.2]; exact (show 0 + (rmN 187).slots ≤ (rmN 218).slots by decide)⟩ (Nat.le_of_ble_eq_true rfl) (fun vv s29 hq => ?_) (fun ee s29 hq => ?_)
          rotate_left
          · obtain ⟨Is29, Fs29, e30, hv, hrs29, hps29⟩ := hq; cases hv
          obtain ⟨Is29, Fs29, e30, hv, hrs29, hps29⟩ := hq
          cases hv
          have Gs29 := fm_ts Gs26 Fs29 (by decide) (by decide)
          have b31 : (0 : Int) ≤ iI s29 73 ∧ iI s29 73 ≤ 3 := Is29.1 73
          have ws29_90 : iI s29 90 = iI s26 90 := fm_i Fs29 (by decide)
          show WS k 78 [(0, .ref (A 179)), (1, .int (Int32.ofInt x)), (2, .int (Int32.ofInt y)), (3, .int (Int32.ofInt z)), (4, .int (Int32.ofInt w))] [.int (Int32.ofInt e30)] (Wd A dT s29) 0 0
          refine z_if_eq X (t := 82) (show cdA 218 78 = some (.ifCond .eq 4, 3, 0, 0, 0) from rfl) (by decide) ⟨by omega, by omega⟩ (fun g32 => ?_) (fun g32 => ?_)
          ·
            refine z_load_n X (x := y) (show cdA 218 82 = some (.iload_n 2, 1, 0, 0, 0) from rfl) (List.Mem.tail _ (List.Mem.tail _ (List.Mem.head _))) ?_
            refine z_store X (lv' := [(5, .int (Int32.ofInt y)), (0, .ref (A 179)), (1, .int (Int32.ofInt x)), (2, .int (Int32.ofInt y)), (3, .int (Int32.ofInt z)), (4, .int (Int32.ofInt w))]) (show cdA 218 83 = some (.istore 5, 2, 0, 0, 0) from rfl) (by decide) (fun _ h => h) ?_
            refine WS_lv (lv := [(0, .ref (A 179)), (1, .int (Int32.ofInt x)), (3, .int (Int32.ofInt z)), (4, .int (Int32.ofInt w)), (5, .int (Int32.ofInt y))]) (List.forall_mem_cons.mpr ⟨(List.Mem.tail _ (List.Mem.head _)), (List.forall_mem_cons.mpr ⟨(List.Mem.tail _ (List.Mem.tail _ (List.Mem.head _))), (List.forall_mem_cons.mpr ⟨(List.Mem.tail _ (List.Mem.tail _ (List.Mem.tail _ (List.Mem.tail _ (List.Mem.head _))))), (List.forall_mem_cons.mpr ⟨(List.Mem.tail _ (List.Mem.tail _ (List.Mem.tail _ (List.Mem.tail _ (List.Mem.tail _ (List.Mem.head _)))))), (List.forall_mem_cons.mpr ⟨(List.Mem.head _), (fun q h => absurd h List.not_mem_nil)⟩)⟩)⟩)⟩)⟩) ?_
            refine L85 ((24 - y : Int)).toNat s29 x z w y Is29 Gs29 (by omega) (by omega) ?_
            intro s33 x34 x35 x36 x37 Is33 Fs33 hs33
            have b38 : (0 : Int) ≤ iI s33 73 ∧ iI s33 73 ≤ 3 := Is33.1 73
            have b39 : (0 : Int) ≤ iI s33 90 ∧ iI s33 90 ≤ 12 := Is33.1 90
            exact w_vret X.1 q hRt (ax_d X (show cdA 218 108 = some (.return_, 1, 0, 0, 0) from rfl)) (Nat.zero_le _) (Nat.zero_le _) ⟨_, rfl, Is33, Fs33, rfl, trivial⟩
          ·
            exact w_vret X.1 q hRt (ax_d X (show cdA 218 81 = some (.return_, 1, 0, 0, 0) from rfl)) (Nat.zero_le _) (Nat.zero_le _) ⟨_, rfl, Is29, Gs29, rfl, trivial⟩
        ·
          refine z_load_n X (x := y) (show cdA 218 53 = some (.iload_n 2, 1, 0, 0, 0) from rfl) (List.Mem.tail _ (List.Mem.tail _ (List.Mem.head _))) ?_
          refine z_load_n X (x := z) (show cdA 218 54 = some (.iload_n 3, 1, 0, 0, 0) from rfl) (List.Mem.tail _ (List.Mem.tail _ (List.Mem.tail _ (List.Mem.head _)))) ?_
          refine z_icmp_gt X (t := 69) (show cdA 218 55 = some (.if_icmp .gt 14, 3, 4, 0, 0) from rfl) (by decide) ⟨by omega, by omega⟩ ⟨by omega, by omega⟩ (fun g40 => ?_) (fun g40 => ?_)
          ·
            refine z_const X (show cdA 218 69 = some (.iconst 1, 1, 0, 0, 0) from rfl) ?_
            refine z_goto X (t := 74) (show cdA 218 70 = some (.goto 4, 3, 0, 0, 0) from rfl) (by decide) ?_
            refine z_const X (show cdA 218 74 = some (.iconst 2, 1, 0, 0, 0) from rfl) ?_
            refine z_callV X 179 (rm := rmN 187) (As := [.int (Int32.ofInt 1), .int (Int32.ofInt 2)]) (st := []) (show cdA 218 75 = some (.invokevirtual 229, 3, 187, 0, 0) from rfl) rfl (by decide) rfl (by rw [E.1, E.2.1, E.2.2.1]; exact k_bad G Is26 (by omega) (by omega)) ⟨by rw [E.2.2.2]; exact (show (rmN 187).frames + 1 ≤ (rmN 218).frames by decide), by rw [E.2.2.2]; exact (show 8 + (mNL (miB 187) + 11) + (rmN 187).locals ≤ (rmN 218).locals by decide), by rw [E.2.2.2]; exact (show 0 + (rmN 187).cells ≤ (rmN 218).cells by decide), by rw [E.2.2.2]; exact (show 0 + (rmN 187).slots ≤ (rmN 218).slots by decide)⟩ (Nat.le_of_ble_eq_true rfl) (fun vv s41 hq => ?_) (fun ee s41 hq => ?_)
            rotate_left
            · obtain ⟨Is41, Fs41, e42, hv, hrs41, hps41⟩ := hq; cases hv
            obtain ⟨Is41, Fs41, e42, hv, hrs41, hps41⟩ := hq
            cases hv
            have Gs41 := fm_ts Gs26 Fs41 (by decide) (by decide)
            have b43 : (0 : Int) ≤ iI s41 73 ∧ iI s41 73 ≤ 3 := Is41.1 73
            have ws41_90 : iI s41 90 = iI s26 90 := fm_i Fs41 (by decide)
            show WS k 78 [(0, .ref (A 179)), (1, .int (Int32.ofInt x)), (2, .int (Int32.ofInt y)), (3, .int (Int32.ofInt z)), (4, .int (Int32.ofInt w))] [.int (Int32.ofInt e42)] (Wd A dT s41) 0 0
            refine z_if_eq X (t := 82) (show cdA 218 78 = some (.ifCond .eq 4, 3, 0, 0, 0) from rfl) (by decide) ⟨by omega, by omega⟩ (fun g44 => ?_) (fun g44 => ?_)
            ·
              refine z_load_n X (x := y) (show cdA 218 82 = some (.iload_n 2, 1, 0, 0, 0) from rfl) (List.Mem.tail _ (List.Mem.tail _ (List.Mem.head _))) ?_
              refine z_store X (lv' := [(5, .int (Int32.ofInt y)), (0, .ref (A 179)), (1, .int (Int32.ofInt x)), (2, .int (Int32.ofInt y)), (3, .int (Int32.ofInt z)), (4, .int (Int32.ofInt w))]) (show cdA 218 83 = some (.istore 5, 2, 0, 0, 0) from rfl) (by decide) (fun _ h => h) ?_
              refine WS_lv (lv := [(0, .ref (A 179)), (1, .int (Int32.ofInt x)), (3, .int (Int32.ofInt z)), (4, .int (Int32.ofInt w)), (5, .int (Int32.ofInt y))]) (List.forall_mem_cons.mpr ⟨(List.Mem.tail _ (List.Mem.head _)), (List.forall_mem_cons.mpr ⟨(List.Mem.tail _ (List.Mem.tail _ (List.Mem.head _))), (List.forall_mem_cons.mpr ⟨(List.Mem.tail _ (List.Mem.tail _ (List.Mem.tail _ (List.Mem.tail _ (List.Mem.head _))))), (List.forall_mem_cons.mpr ⟨(List.Mem.tail _ (List.Mem.tail _ (List.Mem.tail _ (List.Mem.tail _ (List.Mem.tail _ (List.Mem.head _)))))), (List.forall_mem_cons.mpr ⟨(List.Mem.head _), (fun q h => absurd h List.not_mem_nil)⟩)⟩)⟩)⟩)⟩) ?_
              refine L85 ((24 - y : Int)).toNat s41 x z w y Is41 Gs41 (by omega) (by omega) ?_
              intro s45 x46 x47 x48 x49 Is45 Fs45 hs45
              have b50 : (0 : Int) ≤ iI s45 73 ∧ iI s45 73 ≤ 3 := Is45.1 73
              have b51 : (0 : Int) ≤ iI s45 90 ∧ iI s45 90 ≤ 12 := Is45.1 90
              exact w_vret X.1 q hRt (ax_d X (show cdA 218 108 = some (.return_, 1, 0, 0, 0) from rfl)) (Nat.zero_le _) (Nat.zero_le _) ⟨_, rfl, Is45, Fs45, rfl, trivial⟩
            ·
              exact w_vret X.1 q hRt (ax_d X (show cdA 218 81 = some (.return_, 1, 0, 0, 0) from rfl)) (Nat.zero_le _) (Nat.zero_le _) ⟨_, rfl, Is41, Gs41, rfl, trivial⟩
          ·
            refine z_load X (x := w) (show cdA 218 58 = some (.iload 4, 2, 0, 0, 0) from rfl) (List.Mem.tail _ (List.Mem.tail _ (List.Mem.tail _ (List.Mem.tail _ (List.Mem.head _))))) ?_
            refine z_const X (show cdA 218 60 = some (.iconst 0, 1, 0, 0, 0) from rfl) ?_
            refine z_bipush X (show cdA 218 61 = some (.bipush 50, 2, 0, 0, 50) from rfl) ?_
            refine z_callS X (rm := rmN 188) (As := [.int (Int32.ofInt w), .int (Int32.ofInt 0), .int (Int32.ofInt 50)]) (st := [.ref (A 179)]) (show cdA 218 63 = some (.invokestatic 209, 3, 188, 1, 0) from rfl) rfl (by rw [E.1, E.2.1, E.2.2.1]; exact k_in G Is26 (by omega) (by omega) (by omega)) ⟨by rw [E.2.2.2]; exact (show (rmN 188).frames + 1 ≤ (rmN 218).frames by decide), by rw [E.2.2.2]; exact (show 8 + (mNL (miB 188) + 11) + (rmN 188).locals ≤ (rmN 218).locals by decide), by rw [E.2.2.2]; exact (show 0 + (rmN 188).cells ≤ (rmN 218).cells by decide), by rw [E.2.2.2]; exact (show 0 + (rmN 188).slots ≤ (rmN 218).slots by decide)⟩ (Nat.le_of_ble_eq_true rfl) (fun vv s52 hq => ?_) (fun ee s52 hq => ?_)
            rotate_left
            · obtain ⟨Is52, Fs52, e53, hv, hrs52, hps52⟩ := hq; cases hv
            obtain ⟨Is52, Fs52, e53, hv, hrs52, hps52⟩ := hq
            cases hv
            have Gs52 := fm_ts Gs26 Fs52 (by decide) (by decide)
            have ws52_73 : iI s52 73 = iI s26 73 := fm_i Fs52 (by decide)
            have ws52_90 : iI s52 90 = iI s26 90 := fm_i Fs52 (by decide)
            show WS k 66 [(0, .ref (A 179)), (1, .int (Int32.ofInt x)), (2, .int (Int32.ofInt y)), (3, .int (Int32.ofInt z)), (4, .int (Int32.ofInt w))] [.int (Int32.ofInt e53), .ref (A 179)] (Wd A dT s52) 0 0
            refine z_if_ne X (t := 73) (show cdA 218 66 = some (.ifCond .ne 7, 3, 1, 0, 0) from rfl) (by decide) ⟨by omega, by omega⟩ (fun g54 => ?_) (fun g54 => ?_)
            ·
              refine z_const X (show cdA 218 73 = some (.iconst 0, 1, 0, 0, 0) from rfl) ?_
              refine z_const X (show cdA 218 74 = some (.iconst 2, 1, 0, 0, 0) from rfl) ?_
              refine z_callV X 179 (rm := rmN 187) (As := [.int (Int32.ofInt 0), .int (Int32.ofInt 2)]) (st := []) (show cdA 218 75 = some (.invokevirtual 229, 3, 187, 0, 0) from rfl) rfl (by decide) rfl (by rw [E.1, E.2.1, E.2.2.1]; exact k_bad G Is52 (by omega) (by omega)) ⟨by rw [E.2.2.2]; exact (show (rmN 187).frames + 1 ≤ (rmN 218).frames by decide), by rw [E.2.2.2]; exact (show 8 + (mNL (miB 187) + 11) + (rmN 187).locals ≤ (rmN 218).locals by decide), by rw [E.2.2.2]; exact (show 0 + (rmN 187).cells ≤ (rmN 218).cells by decide), by rw [E.2.2.2]; exact (show 0 + (rmN 187).slots ≤ (rmN 218).slots by decide)⟩ (Nat.le_of_ble_eq_true rfl) (fun vv s55 hq => ?_) (fun ee s55 hq => ?_)
              rotate_left
              · obtain ⟨Is55, Fs55, e56, hv, hrs55, hps55⟩ := hq; cases hv
              obtain ⟨Is55, Fs55, e56, hv, hrs55, hps55⟩ := hq
              cases hv
              have Gs55 := fm_ts Gs52 Fs55 (by decide) (by decide)
              have b57 : (0 : Int) ≤ iI s55 73 ∧ iI s55 73 ≤ 3 := Is55.1 73
              have ws55_90 : iI s55 90 = iI s52 90 := fm_i Fs55 (by decide)
              show WS k 78 [(0, .ref (A 179)), (1, .int (Int32.ofInt x)), (2, .int (Int32.ofInt y)), (3, .int (Int32.ofInt z)), (4, .int (Int32.ofInt w))] [.int (Int32.ofInt e56)] (Wd A dT s55) 0 0
              refine z_if_eq X (t := 82) (show cdA 218 78 = some (.ifCond .eq 4, 3, 0, 0, 0) from rfl) (by decide) ⟨by omega, by omega⟩ (fun g58 => ?_) (fun g58 => ?_)
              ·
                refine z_load_n X (x := y) (show cdA 218 82 = some (.iload_n 2, 1, 0, 0, 0) from rfl) (List.Mem.tail _ (List.Mem.tail _ (List.Mem.head _))) ?_
                refine z_store X (lv' := [(5, .int (Int32.ofInt y)), (0, .ref (A 179)), (1, .int (Int32.ofInt x)), (2, .int (Int32.ofInt y)), (3, .int (Int32.ofInt z)), (4, .int (Int32.ofInt w))]) (show cdA 218 83 = some (.istore 5, 2, 0, 0, 0) from rfl) (by decide) (fun _ h => h) ?_
                refine WS_lv (lv := [(0, .ref (A 179)), (1, .int (Int32.ofInt x)), (3, .int (Int32.ofInt z)), (4, .int (Int32.ofInt w)), (5, .int (Int32.ofInt y))]) (List.forall_mem_cons.mpr ⟨(List.Mem.tail _ (List.Mem.head _)), (List.forall_mem_cons.mpr ⟨(List.Mem.tail _ (List.Mem.tail _ (List.Mem.head _))), (List.forall_mem_cons.mpr ⟨(List.Mem.tail _ (List.Mem.tail _ (List.Mem.tail _ (List.Mem.tail _ (List.Mem.head _))))), (List.forall_mem_cons.mpr ⟨(List.Mem.tail _ (List.Mem.tail _ (List.Mem.tail _ (List.Mem.tail _ (List.Mem.tail _ (List.Mem.head _)))))), (List.forall_mem_cons.mpr ⟨(List.Mem.head _), (fun q h => absurd h List.not_mem_nil)⟩)⟩)⟩)⟩)⟩) ?_
                refine L85 ((24 - y : Int)).toNat s55 x z w y Is55 Gs55 (by omega) (by omega) ?_
                intro s59 x60 x61 x62 x63 Is59 Fs59 hs59
                have b64 : (0 : Int) ≤ iI s59 73 ∧ iI s59 73 ≤ 3 := Is59.1 73
                have b65 : (0 : Int) ≤ iI s59 90 ∧ iI s59 90 ≤ 12 := Is59.1 90
                exact w_vret X.1 q hRt (ax_d X (show cdA 218 108 = some (.return_, 1, 0, 0, 0) from rfl)) (Nat.zero_le _) (Nat.zero_le _) ⟨_, rfl, Is59, Fs59, rfl, trivial⟩
              ·
                exact w_vret X.1 q hRt (ax_d X (show cdA 218 81 = some (.return_, 1, 0, 0, 0) from rfl)) (Nat.zero_le _) (Nat.zero_le _) ⟨_, rfl, Is55, Gs55, rfl, trivial⟩
            ·
              refine z_const X (show cdA 218 69 = some (.iconst 1, 1, 0, 0, 0) from rfl) ?_
              refine z_goto X (t := 74) (show cdA 218 70 = some (.goto 4, 3, 0, 0, 0) from rfl) (by decide) ?_
              refine z_const X (show cdA 218 74 = some (.iconst 2, 1, 0, 0, 0) from rfl) ?_
              refine z_callV X 179 (rm := rmN 187) (As := [.int (Int32.ofInt 1), .int (Int32.ofInt 2)]) (st := []) (show cdA 218 75 = some (.invokevirtual 229, 3, 187, 0, 0) from rfl) rfl (by decide) rfl (by rw [E.1, E.2.1, E.2.2.1]; exact k_bad G Is52 (by omega) (by omega)) ⟨by rw [E.2.2.2]; exact (show (rmN 187).frames + 1 ≤ (rmN 218).frames by decide), by rw [E.2.2.2]; exact (show 8 + (mNL (miB 187) + 11) + (rmN 187).locals ≤ (rmN 218).locals by decide), by rw [E.2.2.2]; exact (show 0 + (rmN 187).cells ≤ (rmN 218).cells by decide), by rw [E.2.2.2]; exact (show 0 + (rmN 187).slots ≤ (rmN 218).slots by decide)⟩ (Nat.le_of_ble_eq_true rfl) (fun vv s66 hq => ?_) (fun ee s66 hq => ?_)
              rotate_left
              · obtain ⟨Is66, Fs66, e67, hv, hrs66, hps66⟩ := hq; cases hv
              obtain ⟨Is66, Fs66, e67, hv, hrs66, hps66⟩ := hq
              cases hv
              have Gs66 := fm_ts Gs52 Fs66 (by decide) (by decide)
              have b68 : (0 : Int) ≤ iI s66 73 ∧ iI s66 73 ≤ 3 := Is66.1 73
              have ws66_90 : iI s66 90 = iI s52 90 := fm_i Fs66 (by decide)
              show WS k 78 [(0, .ref (A 179)), (1, .int (Int32.ofInt x)), (2, .int (Int32.ofInt y)), (3, .int (Int32.ofInt z)), (4, .int (Int32.ofInt w))] [.int (Int32.ofInt e67)] (Wd A dT s66) 0 0
              refine z_if_eq X (t := 82) (show cdA 218 78 = some (.ifCond .eq 4, 3, 0, 0, 0) from rfl) (by decide) ⟨by omega, by omega⟩ (fun g69 => ?_) (fun g69 => ?_)
              ·
                refine z_load_n X (x := y) (show cdA 218 82 = some (.iload_n 2, 1, 0, 0, 0) from rfl) (List.Mem.tail _ (List.Mem.tail _ (List.Mem.head _))) ?_
                refine z_store X (lv' := [(5, .int (Int32.ofInt y)), (0, .ref (A 179)), (1, .int (Int32.ofInt x)), (2, .int (Int32.ofInt y)), (3, .int (Int32.ofInt z)), (4, .int (Int32.ofInt w))]) (show cdA 218 83 = some (.istore 5, 2, 0, 0, 0) from rfl) (by decide) (fun _ h => h) ?_
                refine WS_lv (lv := [(0, .ref (A 179)), (1, .int (Int32.ofInt x)), (3, .int (Int32.ofInt z)), (4, .int (Int32.ofInt w)), (5, .int (Int32.ofInt y))]) (List.forall_mem_cons.mpr ⟨(List.Mem.tail _ (List.Mem.head _)), (List.forall_mem_cons.mpr ⟨(List.Mem.tail _ (List.Mem.tail _ (List.Mem.head _))), (List.forall_mem_cons.mpr ⟨(List.Mem.tail _ (List.Mem.tail _ (List.Mem.tail _ (List.Mem.tail _ (List.Mem.head _))))), (List.forall_mem_cons.mpr ⟨(List.Mem.tail _ (List.Mem.tail _ (List.Mem.tail _ (List.Mem.tail _ (List.Mem.tail _ (List.Mem.head _)))))), (List.forall_mem_cons.mpr ⟨(List.Mem.head _), (fun q h => absurd h List.not_mem_nil)⟩)⟩)⟩)⟩)⟩) ?_
                refine L85 ((24 - y : Int)).toNat s66 x z w y Is66 Gs66 (by omega) (by omega) ?_
                intro s70 x71 x72 x73 x74 Is70 Fs70 hs70
                have b75 : (0 : Int) ≤ iI s70 73 ∧ iI s70 73 ≤ 3 := Is70.1 73
                have b76 : (0 : Int) ≤ iI s70 90 ∧ iI s70 90 ≤ 12 := Is70.1 90
                exact w_vret X.1 q hRt (ax_d X (show cdA 218 108 = some (.return_, 1, 0, 0, 0) from rfl)) (Nat.zero_le _) (Nat.zero_le _) ⟨_, rfl, Is70, Fs70, rfl, trivial⟩
              ·
                exact w_vret X.1 q hRt (ax_d X (show cdA 218 81 = some (.return_, 1, 0, 0, 0) from rfl)) (Nat.zero_le _) (Nat.zero_le _) ⟨_, rfl, Is66, Gs66, rfl, trivial⟩
  ·
    refine z_const X (show cdA 218 20 = some (.iconst 1, 1, 0, 0, 0) from rfl) ?_
    refine z_goto X (t := 25) (show cdA 218 21 = some (.goto 4, 3, 0, 0, 0) from rfl) (by decide) ?_
    refine z_const X (show cdA 218 25 = some (.iconst 1, 1, 0, 0, 0) from rfl) ?_
    refine z_callV X 179 (rm := rmN 187) (As := [.int (Int32.ofInt 1), .int (Int32.ofInt 1)]) (st := []) (show cdA 218 26 = some (.invokevirtual 229, 3, 187, 0, 0) from rfl) rfl (by decide) rfl (by rw [E.1, E.2.1, E.2.2.1]; exact k_bad G Is5 (by omega) (by omega)) ⟨by rw [E.2.2.2]; exact (show (rmN 187).frames + 1 ≤ (rmN 218).frames by decide), by rw [E.2.2.2]; exact (show 8 + (mNL (miB 187) + 11) + (rmN 187).locals ≤ (rmN 218).locals by decide), by rw [E.2.2.2]; exact (show 0 + (rmN 187).cells ≤ (rmN 218).cells by decide), by rw [E.2.2.2]; exact (show 0 + (rmN 187).slots ≤ (rmN 218).slots by decide)⟩ (Nat.le_of_ble_eq_true rfl) (fun vv s77 hq => ?_) (fun ee s77 hq => ?_)
    rotate_left
    · obtain ⟨Is77, Fs77, e78, hv, hrs77, hps77⟩ := hq; cases hv
    obtain ⟨Is77, Fs77, e78, hv, hrs77, hps77⟩ := hq
    cases hv
    have Gs77 := fm_ts Gs5 Fs77 (by decide) (by decide)
    have b79 : (0 : Int) ≤ iI s77 73 ∧ iI s77 73 ≤ 3 := Is77.1 73
    have ws77_90 : iI s77 90 = iI s5 90 := fm_i Fs77 (by decide)
    show WS k 29 [(0, .ref (A 179)), (1, .int (Int32.ofInt x)), (2, .int (Int32.ofInt y)), (3, .int (Int32.ofInt z)), (4, .int (Int32.ofInt w))] [.int (Int32.ofInt e78)] (Wd A dT s77) 0 0
    refine z_if_ne X (t := 81) (show cdA 218 29 = some (.ifCond .ne 52, 3, 1, 0, 0) from rfl) (by decide) ⟨by omega, by omega⟩ (fun g80 => ?_) (fun g80 => ?_)
    ·
      exact w_vret X.1 q hRt (ax_d X (show cdA 218 81 = some (.return_, 1, 0, 0, 0) from rfl)) (Nat.zero_le _) (Nat.zero_le _) ⟨_, rfl, Is77, Gs77, rfl, trivial⟩
    ·
      refine z_aload_n X (x := A 179) (show cdA 218 32 = some (.aload_n 0, 1, 0, 0, 0) from rfl) (List.Mem.head _) ?_
      refine z_load_n X (x := y) (show cdA 218 33 = some (.iload_n 2, 1, 0, 0, 0) from rfl) (List.Mem.tail _ (List.Mem.tail _ (List.Mem.head _))) ?_
      refine z_const X (show cdA 218 34 = some (.iconst 0, 1, 0, 0, 0) from rfl) ?_
      refine z_bipush X (show cdA 218 35 = some (.bipush 23, 2, 0, 0, 23) from rfl) ?_
      refine z_callS X (rm := rmN 188) (As := [.int (Int32.ofInt y), .int (Int32.ofInt 0), .int (Int32.ofInt 23)]) (st := [.ref (A 179)]) (show cdA 218 37 = some (.invokestatic 209, 3, 188, 1, 0) from rfl) rfl (by rw [E.1, E.2.1, E.2.2.1]; exact k_in G Is77 (by omega) (by omega) (by omega)) ⟨by rw [E.2.2.2]; exact (show (rmN 188).frames + 1 ≤ (rmN 218).frames by decide), by rw [E.2.2.2]; exact (show 8 + (mNL (miB 188) + 11) + (rmN 188).locals ≤ (rmN 218).locals by decide), by rw [E.2.2.2]; exact (show 0 + (rmN 188).cells ≤ (rmN 218).cells by decide), by rw [E.2.2.2]; exact (show 0 + (rmN 188).slots ≤ (rmN 218).slots by decide)⟩ (Nat.le_of_ble_eq_true rfl) (fun vv s81 hq => ?_) (fun ee s81 hq => ?_)
      rotate_left
      · obtain ⟨Is81, Fs81, e82, hv, hrs81, hps81⟩ := hq; cases hv
      obtain ⟨Is81, Fs81, e82, hv, hrs81, hps81⟩ := hq
      cases hv
      have Gs81 := fm_ts Gs77 Fs81 (by decide) (by decide)
      have ws81_73 : iI s81 73 = iI s77 73 := fm_i Fs81 (by decide)
      have ws81_90 : iI s81 90 = iI s77 90 := fm_i Fs81 (by decide)
      show WS k 40 [(0, .ref (A 179)), (1, .int (Int32.ofInt x)), (2, .int (Int32.ofInt y)), (3, .int (Int32.ofInt z)), (4, .int (Int32.ofInt w))] [.int (Int32.ofInt e82), .ref (A 179)] (Wd A dT s81) 0 0
      refine z_if_eq X (t := 69) (show cdA 218 40 = some (.ifCond .eq 29, 3, 0, 0, 0) from rfl) (by decide) ⟨by omega, by omega⟩ (fun g83 => ?_) (fun g83 => ?_)
      ·
        refine z_const X (show cdA 218 69 = some (.iconst 1, 1, 0, 0, 0) from rfl) ?_
        refine z_goto X (t := 74) (show cdA 218 70 = some (.goto 4, 3, 0, 0, 0) from rfl) (by decide) ?_
        refine z_const X (show cdA 218 74 = some (.iconst 2, 1, 0, 0, 0) from rfl) ?_
        refine z_callV X 179 (rm := rmN 187) (As := [.int (Int32.ofInt 1), .int (Int32.ofInt 2)]) (st := []) (show cdA 218 75 = some (.invokevirtual 229, 3, 187, 0, 0) from rfl) rfl (by decide) rfl (by rw [E.1, E.2.1, E.2.2.1]; exact k_bad G Is81 (by omega) (by omega)) ⟨by rw [E.2.2.2]; exact (show (rmN 187).frames + 1 ≤ (rmN 218).frames by decide), by rw [E.2.2.2]; exact (show 8 + (mNL (miB 187) + 11) + (rmN 187).locals ≤ (rmN 218).locals by decide), by rw [E.2.2.2]; exact (show 0 + (rmN 187).cells ≤ (rmN 218).cells by decide), by rw [E.2.2.2]; exact (show 0 + (rmN 187).slots ≤ (rmN 218).slots by decide)⟩ (Nat.le_of_ble_eq_true rfl) (fun vv s84 hq => ?_) (fun ee s84 hq => ?_)
        rotate_left
        · obtain ⟨Is84, Fs84, e85, hv, hrs84, hps84⟩ := hq; cases hv
        obtain ⟨Is84, Fs84, e85, hv, hrs84, hps84⟩ := hq
        cases hv
        have Gs84 := fm_ts Gs81 Fs84 (by decide) (by decide)
        have b86 : (0 : Int) ≤ iI s84 73 ∧ iI s84 73 ≤ 3 := Is84.1 73
        have ws84_90 : iI s84 90 = iI s81 90 := fm_i Fs84 (by decide)
        show WS k 78 [(0, .ref (A 179)), (1, .int (Int32.ofInt x)), (2, .int (Int32.ofInt y)), (3, .int (Int32.ofInt z)), (4, .int (Int32.ofInt w))] [.int (Int32.ofInt e85)] (Wd A dT s84) 0 0
        refine z_if_eq X (t := 82) (show cdA 218 78 = some (.ifCond .eq 4, 3, 0, 0, 0) from rfl) (by decide) ⟨by omega, by omega⟩ (fun g87 => ?_) (fun g87 => ?_)
        ·
          refine z_load_n X (x := y) (show cdA 218 82 = some (.iload_n 2, 1, 0, 0, 0) from rfl) (List.Mem.tail _ (List.Mem.tail _ (List.Mem.head _))) ?_
          refine z_store X (lv' := [(5, .int (Int32.ofInt y)), (0, .ref (A 179)), (1, .int (Int32.ofInt x)), (2, .int (Int32.ofInt y)), (3, .int (Int32.ofInt z)), (4, .int (Int32.ofInt w))]) (show cdA 218 83 = some (.istore 5, 2, 0, 0, 0) from rfl) (by decide) (fun _ h => h) ?_
          refine WS_lv (lv := [(0, .ref (A 179)), (1, .int (Int32.ofInt x)), (3, .int (Int32.ofInt z)), (4, .int (Int32.ofInt w)), (5, .int (Int32.ofInt y))]) (List.forall_mem_cons.mpr ⟨(List.Mem.tail _ (List.Mem.head _)), (List.forall_mem_cons.mpr ⟨(List.Mem.tail _ (List.Mem.tail _ (List.Mem.head _))), (List.forall_mem_cons.mpr ⟨(List.Mem.tail _ (List.Mem.tail _ (List.Mem.tail _ (List.Mem.tail _ (List.Mem.head _))))), (List.forall_mem_cons.mpr ⟨(List.Mem.tail _ (List.Mem.tail _ (List.Mem.tail _ (List.Mem.tail _ (List.Mem.tail _ (List.Mem.head _)))))), (List.forall_mem_cons.mpr ⟨(List.Mem.head _), (fun q h => absurd h List.not_mem_nil)⟩)⟩)⟩)⟩)⟩) ?_
          refine L85 ((24 - y : Int)).toNat s84 x z w y Is84 Gs84 (by omega) (by omega) ?_
          intro s88 x89 x90 x91 x92 Is88 Fs88 hs88
          have b93 : (0 : Int) ≤ iI s88 73 ∧ iI s88 73 ≤ 3 := Is88.1 73
          have b94 : (0 : Int) ≤ iI s88 90 ∧ iI s88 90 ≤ 12 := Is88.1 90
          exact w_vret X.1 q hRt (ax_d X (show cdA 218 108 = some (.return_, 1, 0, 0, 0) from rfl)) (Nat.zero_le _) (Nat.zero_le _) ⟨_, rfl, Is88, Fs88, rfl, trivial⟩
        ·
          exact w_vret X.1 q hRt (ax_d X (show cdA 218 81 = some (.return_, 1, 0, 0, 0) from rfl)) (Nat.zero_le _) (Nat.zero_le _) ⟨_, rfl, Is84, Gs84, rfl, trivial⟩
      ·
        refine z_load_n X (x := z) (show cdA 218 43 = some (.iload_n 3, 1, 0, 0, 0) from rfl) (List.Mem.tail _ (List.Mem.tail _ (List.Mem.tail _ (List.Mem.head _)))) ?_
        refine z_const X (show cdA 218 44 = some (.iconst 0, 1, 0, 0, 0) from rfl) ?_
        refine z_bipush X (show cdA 218 45 = some (.bipush 23, 2, 0, 0, 23) from rfl) ?_
        refine z_callS X (rm := rmN 188) (As := [.int (Int32.ofInt z), .int (Int32.ofInt 0), .int (Int32.ofInt 23)]) (st := [.ref (A 179)]) (show cdA 218 47 = some (.invokestatic 209, 3, 188, 1, 0) from rfl) rfl (by rw [E.1, E.2.1, E.2.2.1]; exact k_in G Is81 (by omega) (by omega) (by omega)) ⟨by rw [E.2.2.2]; exact (show (rmN 188).frames + 1 ≤ (rmN 218).frames by decide), by rw [E.2.2.2]; exact (show 8 + (mNL (miB 188) + 11) + (rmN 188).locals ≤ (rmN 218).locals by decide), by rw [E.2.2.2]; exact (show 0 + (rmN 188).cells ≤ (rmN 218).cells by decide), by rw [E.2.2.2]; exact (show 0 + (rmN 188).slots ≤ (rmN 218).slots by decide)⟩ (Nat.le_of_ble_eq_true rfl) (fun vv s95 hq => ?_) (fun ee s95 hq => ?_)
        rotate_left
        · obtain ⟨Is95, Fs95, e96, hv, hrs95, hps95⟩ := hq; cases hv
        obtain ⟨Is95, Fs95, e96, hv, hrs95, hps95⟩ := hq
        cases hv
        have Gs95 := fm_ts Gs81 Fs95 (by decide) (by decide)
        have ws95_73 : iI s95 73 = iI s81 73 := fm_i Fs95 (by decide)
        have ws95_90 : iI s95 90 = iI s81 90 := fm_i Fs95 (by decide)
        show WS k 50 [(0, .ref (A 179)), (1, .int (Int32.ofInt x)), (2, .int (Int32.ofInt y)), (3, .int (Int32.ofInt z)), (4, .int (Int32.ofInt w))] [.int (Int32.ofInt e96), .ref (A 179)] (Wd A dT s95) 0 0
        refine z_if_eq X (t := 69) (show cdA 218 50 = some (.ifCond .eq 19, 3, 0, 0, 0) from rfl) (by decide) ⟨by omega, by omega⟩ (fun g97 => ?_) (fun g97 => ?_)
        ·
          refine z_const X (show cdA 218 69 = some (.iconst 1, 1, 0, 0, 0) from rfl) ?_
          refine z_goto X (t := 74) (show cdA 218 70 = some (.goto 4, 3, 0, 0, 0) from rfl) (by decide) ?_
          refine z_const X (show cdA 218 74 = some (.iconst 2, 1, 0, 0, 0) from rfl) ?_
          refine z_callV X 179 (rm := rmN 187) (As := [.int (Int32.ofInt 1), .int (Int32.ofInt 2)]) (st := []) (show cdA 218 75 = some (.invokevirtual 229, 3, 187, 0, 0) from rfl) rfl (by decide) rfl (by rw [E.1, E.2.1, E.2.2.1]; exact k_bad G Is95 (by omega) (by omega)) ⟨by rw [E.2.2.2]; exact (show (rmN 187).frames + 1 ≤ (rmN 218).frames by decide), by rw [E.2.2.2]; exact (show 8 + (mNL (miB 187) + 11) + (rmN 187).locals ≤ (rmN 218).locals by decide), by rw [E.2.2.2]; exact (show 0 + (rmN 187).cells ≤ (rmN 218).cells by decide), by rw [E.2.2.2]; exact (show 0 + (rmN 187).slots ≤ (rmN 218).slots by decide)⟩ (Nat.le_of_ble_eq_true rfl) (fun vv s98 hq => ?_) (fun ee s98 hq => ?_)
          rotate_left
          · obtain ⟨Is98, Fs98, e99, hv, hrs98, hps98⟩ := hq; cases hv
          obtain ⟨Is98, Fs98, e99, hv, hrs98, hps98⟩ := hq
          cases hv
          have Gs98 := fm_ts Gs95 Fs98 (by decide) (by decide)
          have b100 : (0 : Int) ≤ iI s98 73 ∧ iI s98 73 ≤ 3 := Is98.1 73
          have ws98_90 : iI s98 90 = iI s95 90 := fm_i Fs98 (by decide)
          show WS k 78 [(0, .ref (A 179)), (1, .int (Int32.ofInt x)), (2, .int (Int32.ofInt y)), (3, .int (Int32.ofInt z)), (4, .int (Int32.ofInt w))] [.int (Int32.ofInt e99)] (Wd A dT s98) 0 0
          refine z_if_eq X (t := 82) (show cdA 218 78 = some (.ifCond .eq 4, 3, 0, 0, 0) from rfl) (by decide) ⟨by omega, by omega⟩ (fun g101 => ?_) (fun g101 => ?_)
          ·
            refine z_load_n X (x := y) (show cdA 218 82 = some (.iload_n 2, 1, 0, 0, 0) from rfl) (List.Mem.tail _ (List.Mem.tail _ (List.Mem.head _))) ?_
            refine z_store X (lv' := [(5, .int (Int32.ofInt y)), (0, .ref (A 179)), (1, .int (Int32.ofInt x)), (2, .int (Int32.ofInt y)), (3, .int (Int32.ofInt z)), (4, .int (Int32.ofInt w))]) (show cdA 218 83 = some (.istore 5, 2, 0, 0, 0) from rfl) (by decide) (fun _ h => h) ?_
            refine WS_lv (lv := [(0, .ref (A 179)), (1, .int (Int32.ofInt x)), (3, .int (Int32.ofInt z)), (4, .int (Int32.ofInt w)), (5, .int (Int32.ofInt y))]) (List.forall_mem_cons.mpr ⟨(List.Mem.tail _ (List.Mem.head _)), (List.forall_mem_cons.mpr ⟨(List.Mem.tail _ (List.Mem.tail _ (List.Mem.head _))), (List.forall_mem_cons.mpr ⟨(List.Mem.tail _ (List.Mem.tail _ (List.Mem.tail _ (List.Mem.tail _ (List.Mem.head _))))), (List.forall_mem_cons.mpr ⟨(List.Mem.tail _ (List.Mem.tail _ (List.Mem.tail _ (List.Mem.tail _ (List.Mem.tail _ (List.Mem.head _)))))), (List.forall_mem_cons.mpr ⟨(List.Mem.head _), (fun q h => absurd h List.not_mem_nil)⟩)⟩)⟩)⟩)⟩) ?_
            refine L85 ((24 - y : Int)).toNat s98 x z w y Is98 Gs98 (by omega) (by omega) ?_
            intro s102 x103 x104 x105 x106 Is102 Fs102 hs102
            have b107 : (0 : Int) ≤ iI s102 73 ∧ iI s102 73 ≤ 3 := Is102.1 73
            have b108 : (0 : Int) ≤ iI s102 90 ∧ iI s102 90 ≤ 12 := Is102.1 90
            exact w_vret X.1 q hRt (ax_d X (show cdA 218 108 = some (.return_, 1, 0, 0, 0) from rfl)) (Nat.zero_le _) (Nat.zero_le _) ⟨_, rfl, Is102, Fs102, rfl, trivial⟩
          ·
            exact w_vret X.1 q hRt (ax_d X (show cdA 218 81 = some (.return_, 1, 0, 0, 0) from rfl)) (Nat.zero_le _) (Nat.zero_le _) ⟨_, rfl, Is98, Gs98, rfl, trivial⟩
        ·
          refine z_load_n X (x := y) (show cdA 218 53 = some (.iload_n 2, 1, 0, 0, 0) from rfl) (List.Mem.tail _ (List.Mem.tail _ (List.Mem.head _))) ?_
          refine z_load_n X (x := z) (show cdA 218 54 = some (.iload_n 3, 1, 0, 0, 0) from rfl) (List.Mem.tail _ (List.Mem.tail _ (List.Mem.tail _ (List.Mem.head _)))) ?_
          refine z_icmp_gt X (t := 69) (show cdA 218 55 = some (.if_icmp .gt 14, 3, 4, 0, 0) from rfl) (by decide) ⟨by omega, by omega⟩ ⟨by omega, by omega⟩ (fun g109 => ?_) (fun g109 => ?_)
          ·
            refine z_const X (show cdA 218 69 = some (.iconst 1, 1, 0, 0, 0) from rfl) ?_
            refine z_goto X (t := 74) (show cdA 218 70 = some (.goto 4, 3, 0, 0, 0) from rfl) (by decide) ?_
            refine z_const X (show cdA 218 74 = some (.iconst 2, 1, 0, 0, 0) from rfl) ?_
            refine z_callV X 179 (rm := rmN 187) (As := [.int (Int32.ofInt 1), .int (Int32.ofInt 2)]) (st := []) (show cdA 218 75 = some (.invokevirtual 229, 3, 187, 0, 0) from rfl) rfl (by decide) rfl (by rw [E.1, E.2.1, E.2.2.1]; exact k_bad G Is95 (by omega) (by omega)) ⟨by rw [E.2.2.2]; exact (show (rmN 187).frames + 1 ≤ (rmN 218).frames by decide), by rw [E.2.2.2]; exact (show 8 + (mNL (miB 187) + 11) + (rmN 187).locals ≤ (rmN 218).locals by decide), by rw [E.2.2.2]; exact (show 0 + (rmN 187).cells ≤ (rmN 218).cells by decide), by rw [E.2.2.2]; exact (show 0 + (rmN 187).slots ≤ (rmN 218).slots by decide)⟩ (Nat.le_of_ble_eq_true rfl) (fun vv s110 hq => ?_) (fun ee s110 hq => ?_)
            rotate_left
            · obtain ⟨Is110, Fs110, e111, hv, hrs110, hps110⟩ := hq; cases hv
            obtain ⟨Is110, Fs110, e111, hv, hrs110, hps110⟩ := hq
            cases hv
            have Gs110 := fm_ts Gs95 Fs110 (by decide) (by decide)
            have b112 : (0 : Int) ≤ iI s110 73 ∧ iI s110 73 ≤ 3 := Is110.1 73
            have ws110_90 : iI s110 90 = iI s95 90 := fm_i Fs110 (by decide)
            show WS k 78 [(0, .ref (A 179)), (1, .int (Int32.ofInt x)), (2, .int (Int32.ofInt y)), (3, .int (Int32.ofInt z)), (4, .int (Int32.ofInt w))] [.int (Int32.ofInt e111)] (Wd A dT s110) 0 0
            refine z_if_eq X (t := 82) (show cdA 218 78 = some (.ifCond .eq 4, 3, 0, 0, 0) from rfl) (by decide) ⟨by omega, by omega⟩ (fun g113 => ?_) (fun g113 => ?_)
            ·
              refine z_load_n X (x := y) (show cdA 218 82 = some (.iload_n 2, 1, 0, 0, 0) from rfl) (List.Mem.tail _ (List.Mem.tail _ (List.Mem.head _))) ?_
              refine z_store X (lv' := [(5, .int (Int32.ofInt y)), (0, .ref (A 179)), (1, .int (Int32.ofInt x)), (2, .int (Int32.ofInt y)), (3, .int (Int32.ofInt z)), (4, .int (Int32.ofInt w))]) (show cdA 218 83 = some (.istore 5, 2, 0, 0, 0) from rfl) (by decide) (fun _ h => h) ?_
              refine WS_lv (lv := [(0, .ref (A 179)), (1, .int (Int32.ofInt x)), (3, .int (Int32.ofInt z)), (4, .int (Int32.ofInt w)), (5, .int (Int32.ofInt y))]) (List.forall_mem_cons.mpr ⟨(List.Mem.tail _ (List.Mem.head _)), (List.forall_mem_cons.mpr ⟨(List.Mem.tail _ (List.Mem.tail _ (List.Mem.head _))), (List.forall_mem_cons.mpr ⟨(List.Mem.tail _ (List.Mem.tail _ (List.Mem.tail _ (List.Mem.tail _ (List.Mem.head _))))), (List.forall_mem_cons.mpr ⟨(List.Mem.tail _ (List.Mem.tail _ (List.Mem.tail _ (List.Mem.tail _ (List.Mem.tail _ (List.Mem.head _)))))), (List.forall_mem_cons.mpr ⟨(List.Mem.head _), (fun q h => absurd h List.not_mem_nil)⟩)⟩)⟩)⟩)⟩) ?_
              refine L85 ((24 - y : Int)).toNat s110 x z w y Is110 Gs110 (by omega) (by omega) ?_
              intro s114 x115 x116 x117 x118 Is114 Fs114 hs114
              have b119 : (0 : Int) ≤ iI s114 73 ∧ iI s114 73 ≤ 3 := Is114.1 73
              have b120 : (0 : Int) ≤ iI s114 90 ∧ iI s114 90 ≤ 12 := Is114.1 90
              exact w_vret X.1 q hRt (ax_d X (show cdA 218 108 = some (.return_, 1, 0, 0, 0) from rfl)) (Nat.zero_le _) (Nat.zero_le _) ⟨_, rfl, Is114, Fs114, rfl, trivial⟩
            ·
              exact w_vret X.1 q hRt (ax_d X (show cdA 218 81 = some (.return_, 1, 0, 0, 0) from rfl)) (Nat.zero_le _) (Nat.zero_le _) ⟨_, rfl, Is110, Gs110, rfl, trivial⟩
          ·
            refine z_load X (x := w) (show cdA 218 58 = some (.iload 4, 2, 0, 0, 0) from rfl) (List.Mem.tail _ (List.Mem.tail _ (List.Mem.tail _ (List.Mem.tail _ (List.Mem.head _))))) ?_
            refine z_const X (show cdA 218 60 = some (.iconst 0, 1, 0, 0, 0) from rfl) ?_
            refine z_bipush X (show cdA 218 61 = some (.bipush 50, 2, 0, 0, 50) from rfl) ?_
            refine z_callS X (rm := rmN 188) (As := [.int (Int32.ofInt w), .int (Int32.ofInt 0), .int (Int32.ofInt 50)]) (st := [.ref (A 179)]) (show cdA 218 63 = some (.invokestatic 209, 3, 188, 1, 0) from rfl) rfl (by rw [E.1, E.2.1, E.2.2.1]; exact k_in G Is95 (by omega) (by omega) (by omega)) ⟨by rw [E.2.2.2]; exact (show (rmN 188).frames + 1 ≤ (rmN 218).frames by decide), by rw [E.2.2.2]; exact (show 8 + (mNL (miB 188) + 11) + (rmN 188).locals ≤ (rmN 218).locals by decide), by rw [E.2.2.2]; exact (show 0 + (rmN 188).cells ≤ (rmN 218).cells by decide), by rw [E.2.2.2]; exact (show 0 + (rmN 188).slots ≤ (rmN 218).slots by decide)⟩ (Nat.le_of_ble_eq_true rfl) (fun vv s121 hq => ?_) (fun ee s121 hq => ?_)
            rotate_left
            · obtain ⟨Is121, Fs121, e122, hv, hrs121, hps121⟩ := hq; cases hv
            obtain ⟨Is121, Fs121, e122, hv, hrs121, hps121⟩ := hq
            cases hv
            have Gs121 := fm_ts Gs95 Fs121 (by decide) (by decide)
            have ws121_73 : iI s121 73 = iI s95 73 := fm_i Fs121 (by decide)
            have ws121_90 : iI s121 90 = iI s95 90 := fm_i Fs121 (by decide)
            show WS k 66 [(0, .ref (A 179)), (1, .int (Int32.ofInt x)), (2, .int (Int32.ofInt y)), (3, .int (Int32.ofInt z)), (4, .int (Int32.ofInt w))] [.int (Int32.ofInt e122), .ref (A 179)] (Wd A dT s121) 0 0
            refine z_if_ne X (t := 73) (show cdA 218 66 = some (.ifCond .ne 7, 3, 1, 0, 0) from rfl) (by decide) ⟨by omega, by omega⟩ (fun g123 => ?_) (fun g123 => ?_)
            ·
              refine z_const X (show cdA 218 73 = some (.iconst 0, 1, 0, 0, 0) from rfl) ?_
              refine z_const X (show cdA 218 74 = some (.iconst 2, 1, 0, 0, 0) from rfl) ?_
              refine z_callV X 179 (rm := rmN 187) (As := [.int (Int32.ofInt 0), .int (Int32.ofInt 2)]) (st := []) (show cdA 218 75 = some (.invokevirtual 229, 3, 187, 0, 0) from rfl) rfl (by decide) rfl (by rw [E.1, E.2.1, E.2.2.1]; exact k_bad G Is121 (by omega) (by omega)) ⟨by rw [E.2.2.2]; exact (show (rmN 187).frames + 1 ≤ (rmN 218).frames by decide), by rw [E.2.2.2]; exact (show 8 + (mNL (miB 187) + 11) + (rmN 187).locals ≤ (rmN 218).locals by decide), by rw [E.2.2.2]; exact (show 0 + (rmN 187).cells ≤ (rmN 218).cells by decide), by rw [E.2.2.2]; exact (show 0 + (rmN 187).slots ≤ (rmN 218).slots by decide)⟩ (Nat.le_of_ble_eq_true rfl) (fun vv s124 hq => ?_) (fun ee s124 hq => ?_)
              rotate_left
              · obtain ⟨Is124, Fs124, e125, hv, hrs124, hps124⟩ := hq; cases hv
              obtain ⟨Is124, Fs124, e125, hv, hrs124, hps124⟩ := hq
              cases hv
              have Gs124 := fm_ts Gs121 Fs124 (by decide) (by decide)
              have b126 : (0 : Int) ≤ iI s124 73 ∧ iI s124 73 ≤ 3 := Is124.1 73
              have ws124_90 : iI s124 90 = iI s121 90 := fm_i Fs124 (by decide)
              show WS k 78 [(0, .ref (A 179)), (1, .int (Int32.ofInt x)), (2, .int (Int32.ofInt y)), (3, .int (Int32.ofInt z)), (4, .int (Int32.ofInt w))] [.int (Int32.ofInt e125)] (Wd A dT s124) 0 0
              refine z_if_eq X (t := 82) (show cdA 218 78 = some (.ifCond .eq 4, 3, 0, 0, 0) from rfl) (by decide) ⟨by omega, by omega⟩ (fun g127 => ?_) (fun g127 => ?_)
              ·
                refine z_load_n X (x := y) (show cdA 218 82 = some (.iload_n 2, 1, 0, 0, 0) from rfl) (List.Mem.tail _ (List.Mem.tail _ (List.Mem.head _))) ?_
                refine z_store X (lv' := [(5, .int (Int32.ofInt y)), (0, .ref (A 179)), (1, .int (Int32.ofInt x)), (2, .int (Int32.ofInt y)), (3, .int (Int32.ofInt z)), (4, .int (Int32.ofInt w))]) (show cdA 218 83 = some (.istore 5, 2, 0, 0, 0) from rfl) (by decide) (fun _ h => h) ?_
                refine WS_lv (lv := [(0, .ref (A 179)), (1, .int (Int32.ofInt x)), (3, .int (Int32.ofInt z)), (4, .int (Int32.ofInt w)), (5, .int (Int32.ofInt y))]) (List.forall_mem_cons.mpr ⟨(List.Mem.tail _ (List.Mem.head _)), (List.forall_mem_cons.mpr ⟨(List.Mem.tail _ (List.Mem.tail _ (List.Mem.head _))), (List.forall_mem_cons.mpr ⟨(List.Mem.tail _ (List.Mem.tail _ (List.Mem.tail _ (List.Mem.tail _ (List.Mem.head _))))), (List.forall_mem_cons.mpr ⟨(List.Mem.tail _ (List.Mem.tail _ (List.Mem.tail _ (List.Mem.tail _ (List.Mem.tail _ (List.Mem.head _)))))), (List.forall_mem_cons.mpr ⟨(List.Mem.head _), (fun q h => absurd h List.not_mem_nil)⟩)⟩)⟩)⟩)⟩) ?_
                refine L85 ((24 - y : Int)).toNat s124 x z w y Is124 Gs124 (by omega) (by omega) ?_
                intro s128 x129 x130 x131 x132 Is128 Fs128 hs128
                have b133 : (0 : Int) ≤ iI s128 73 ∧ iI s128 73 ≤ 3 := Is128.1 73
                have b134 : (0 : Int) ≤ iI s128 90 ∧ iI s128 90 ≤ 12 := Is128.1 90
                exact w_vret X.1 q hRt (ax_d X (show cdA 218 108 = some (.return_, 1, 0, 0, 0) from rfl)) (Nat.zero_le _) (Nat.zero_le _) ⟨_, rfl, Is128, Fs128, rfl, trivial⟩
              ·
                exact w_vret X.1 q hRt (ax_d X (show cdA 218 81 = some (.return_, 1, 0, 0, 0) from rfl)) (Nat.zero_le _) (Nat.zero_le _) ⟨_, rfl, Is124, Gs124, rfl, trivial⟩
            ·
              refine z_const X (show cdA 218 69 = some (.iconst 1, 1, 0, 0, 0) from rfl) ?_
              refine z_goto X (t := 74) (show cdA 218 70 = some (.goto 4, 3, 0, 0, 0) from rfl) (by decide) ?_
              refine z_const X (show cdA 218 74 = some (.iconst 2, 1, 0, 0, 0) from rfl) ?_
              refine z_callV X 179 (rm := rmN 187) (As := [.int (Int32.ofInt 1), .int (Int32.ofInt 2)]) (st := []) (show cdA 218 75 = some (.invokevirtual 229, 3, 187, 0, 0) from rfl) rfl (by decide) rfl (by rw [E.1, E.2.1, E.2.2.1]; exact k_bad G Is121 (by omega) (by omega)) ⟨by rw [E.2.2.2]; exact (show (rmN 187).frames + 1 ≤ (rmN 218).frames by decide), by rw [E.2.2.2]; exact (show 8 + (mNL (miB 187) + 11) + (rmN 187).locals ≤ (rmN 218).locals by decide), by rw [E.2.2.2]; exact (show 0 + (rmN 187).cells ≤ (rmN 218).cells by decide), by rw [E.2.2.2]; exact (show 0 + (rmN 187).slots ≤ (rmN 218).slots by decide)⟩ (Nat.le_of_ble_eq_true rfl) (fun vv s135 hq => ?_) (fun ee s135 hq => ?_)
              rotate_left
              · obtain ⟨Is135, Fs135, e136, hv, hrs135, hps135⟩ := hq; cases hv
              obtain ⟨Is135, Fs135, e136, hv, hrs135, hps135⟩ := hq
              cases hv
              have Gs135 := fm_ts Gs121 Fs135 (by decide) (by decide)
              have b137 : (0 : Int) ≤ iI s135 73 ∧ iI s135 73 ≤ 3 := Is135.1 73
              have ws135_90 : iI s135 90 = iI s121 90 := fm_i Fs135 (by decide)
              show WS k 78 [(0, .ref (A 179)), (1, .int (Int32.ofInt x)), (2, .int (Int32.ofInt y)), (3, .int (Int32.ofInt z)), (4, .int (Int32.ofInt w))] [.int (Int32.ofInt e136)] (Wd A dT s135) 0 0
              refine z_if_eq X (t := 82) (show cdA 218 78 = some (.ifCond .eq 4, 3, 0, 0, 0) from rfl) (by decide) ⟨by omega, by omega⟩ (fun g138 => ?_) (fun g138 => ?_)
              ·
                refine z_load_n X (x := y) (show cdA 218 82 = some (.iload_n 2, 1, 0, 0, 0) from rfl) (List.Mem.tail _ (List.Mem.tail _ (List.Mem.head _))) ?_
                refine z_store X (lv' := [(5, .int (Int32.ofInt y)), (0, .ref (A 179)), (1, .int (Int32.ofInt x)), (2, .int (Int32.ofInt y)), (3, .int (Int32.ofInt z)), (4, .int (Int32.ofInt w))]) (show cdA 218 83 = some (.istore 5, 2, 0, 0, 0) from rfl) (by decide) (fun _ h => h) ?_
                refine WS_lv (lv := [(0, .ref (A 179)), (1, .int (Int32.ofInt x)), (3, .int (Int32.ofInt z)), (4, .int (Int32.ofInt w)), (5, .int (Int32.ofInt y))]) (List.forall_mem_cons.mpr ⟨(List.Mem.tail _ (List.Mem.head _)), (List.forall_mem_cons.mpr ⟨(List.Mem.tail _ (List.Mem.tail _ (List.Mem.head _))), (List.forall_mem_cons.mpr ⟨(List.Mem.tail _ (List.Mem.tail _ (List.Mem.tail _ (List.Mem.tail _ (List.Mem.head _))))), (List.forall_mem_cons.mpr ⟨(List.Mem.tail _ (List.Mem.tail _ (List.Mem.tail _ (List.Mem.tail _ (List.Mem.tail _ (List.Mem.head _)))))), (List.forall_mem_cons.mpr ⟨(List.Mem.head _), (fun q h => absurd h List.not_mem_nil)⟩)⟩)⟩)⟩)⟩) ?_
                refine L85 ((24 - y : Int)).toNat s135 x z w y Is135 Gs135 (by omega) (by omega) ?_
                intro s139 x140 x141 x142 x143 Is139 Fs139 hs139
                have b144 : (0 : Int) ≤ iI s139 73 ∧ iI s139 73 ≤ 3 := Is139.1 73
                have b145 : (0 : Int) ≤ iI s139 90 ∧ iI s139 90 ≤ 12 := Is139.1 90
                exact w_vret X.1 q hRt (ax_d X (show cdA 218 108 = some (.return_, 1, 0, 0, 0) from rfl)) (Nat.zero_le _) (Nat.zero_le _) ⟨_, rfl, Is139, Fs139, rfl, trivial⟩
              ·
                exact w_vret X.1 q hRt (ax_d X (show cdA 218 81 = some (.return_, 1, 0, 0, 0) from rfl)) (Nat.zero_le _) (Nat.zero_le _) ⟨_, rfl, Is135, Gs135, rfl, trivial⟩
theorem k_mostOf (G : GX l s0 D tys a0 dT) (I : Bd s) {x y : Int} (p0 : 0 ≤ x ∧ x ≤ 11) (p1 : 0 ≤ y ∧ y ≤ 23) : CT l s0 D A dT 220 (rmN 220) [.ref (A 179), .int (Int32.ofInt x), .int (Int32.ofInt y)] s (fun o t => Bd t ∧ Fm [] [] s t ∧ ∃ e, o = .inl (some (.int (Int32.ofInt e))) ∧ rng e ∧ (0 ≤ e ∧ e ≤ 50)) := by
  refine ct_of G (by decide) (Nat.le_of_ble_eq_true rfl) (fun k X E hRt hXt q => ?_)
  show WS k 0 [(0, .ref (A 179)), (1, .int (Int32.ofInt x)), (2, .int (Int32.ofInt y))] [] _ 0 0
  have F : Fm [] [] s s := fm_rf _ _ s
  have L12 : ∀ (n : Nat) (t : PS) (xv yv nv c : Int), Bd t → Fm [] [] s t → ((0 ≤ xv ∧ xv ≤ 11) ∧ (0 ≤ yv ∧ yv ≤ 23) ∧ (0 ≤ nv ∧ nv ≤ 50) ∧ -2 ≤ c ∧ c ≤ 26) → 26 - c ≤ n → (∀ (t' : PS) (xv' yv' nv' c' : Int), Bd t' → Fm [] [] s t' → ((0 ≤ xv' ∧ xv' ≤ 11) ∧ (0 ≤ yv' ∧ yv' ≤ 23) ∧ (0 ≤ nv' ∧ nv' ≤ 50) ∧ -2 ≤ c' ∧ c' ≤ 26) → WS k 65 [(0, .ref (A 179)), (1, .int (Int32.ofInt xv')), (2, .int (Int32.ofInt yv')), (3, .int (Int32.ofInt nv')), (4, .int (Int32.ofInt c'))] [] (Wd A dT t') 0 0) → WS k 12 [(0, .ref (A 179)), (1, .int (Int32.ofInt xv)), (2, .int (Int32.ofInt yv)), (3, .int (Int32.ofInt nv)), (4, .int (Int32.ofInt c))] [] (Wd A dT t) 0 0 := by
    intro n
    induction n with
    | zero =>
      intro t xv yv nv c I F hi hm kx
      refine z_load X (x := c) (show cdA 220 12 = some (.iload 4, 2, 0, 0, 0) from rfl) (List.Mem.tail _ (List.Mem.tail _ (List.Mem.tail _ (List.Mem.tail _ (List.Mem.head _))))) ?_
      refine z_load_n X (x := yv) (show cdA 220 14 = some (.iload_n 2, 1, 0, 0, 0) from rfl) (List.Mem.tail _ (List.Mem.tail _ (List.Mem.head _))) ?_
      refine z_aload_n X (x := A 179) (show cdA 220 15 = some (.aload_n 0, 1, 0, 0, 0) from rfl) (List.Mem.head _) ?_
      refine s_getR X 179 (show cdA 220 16 = some (.getfield 38, 3, 12, 24, 0) from rfl) (by decide) rfl rfl ?_
      refine z_load_n X (x := xv) (show cdA 220 19 = some (.iload_n 1, 1, 0, 0, 0) from rfl) (List.Mem.tail _ (List.Mem.head _)) ?_
      refine z_ald X 186 (show cdA 220 20 = some (.iaload, 1, 0, 0, 0) from rfl) (by decide) rfl (by omega) (show xv < 12 by omega) (by decide) ?_
      have b1001 : (0 : Int) ≤ iC t 163 (xv).toNat ∧ iC t 163 (xv).toNat ≤ 2 := I.2 163 _ (show (xv).toNat < 12 by omega)
      refine z_add X (show cdA 220 21 = some (.iadd, 1, 0, 0, 0) from rfl) ?_
      refine z_icmp_gt X (t := 65) (show cdA 220 22 = some (.if_icmp .gt 43, 3, 4, 0, 0) from rfl) (by decide) ⟨by omega, by omega⟩ ⟨by omega, by omega⟩ (fun g1002 => ?_) (fun g1002 => ?_)
      ·
        refine WS_lv (lv := [(0, .ref (A 179)), (1, .int (Int32.ofInt xv)), (2, .int (Int32.ofInt yv)), (3, .int (Int32.ofInt nv)), (4, .int (Int32.ofInt c))]) (List.forall_mem_cons.mpr ⟨(List.Mem.head _), (List.forall_mem_cons.mpr ⟨(List.Mem.tail _ (List.Mem.head _)), (List.forall_mem_cons.mpr ⟨(List.Mem.tail _ (List.Mem.tail _ (List.Mem.head _))), (List.forall_mem_cons.mpr ⟨(List.Mem.tail _ (List.Mem.tail _ (List.Mem.tail _ (List.Mem.head _)))), (List.forall_mem_cons.mpr ⟨(List.Mem.tail _ (List.Mem.tail _ (List.Mem.tail _ (List.Mem.tail _ (List.Mem.head _))))), (fun q h => absurd h List.not_mem_nil)⟩)⟩)⟩)⟩)⟩) ?_
        exact kx _ xv yv nv c I F (by omega)
      ·
        refine z_load X (x := c) (show cdA 220 25 = some (.iload 4, 2, 0, 0, 0) from rfl) (List.Mem.tail _ (List.Mem.tail _ (List.Mem.tail _ (List.Mem.tail _ (List.Mem.head _))))) ?_
        refine z_const X (show cdA 220 27 = some (.iconst 0, 1, 0, 0, 0) from rfl) ?_
        refine z_bipush X (show cdA 220 28 = some (.bipush 23, 2, 0, 0, 23) from rfl) ?_
        refine z_callS X (rm := rmN 188) (As := [.int (Int32.ofInt c), .int (Int32.ofInt 0), .int (Int32.ofInt 23)]) (st := []) (show cdA 220 30 = some (.invokestatic 209, 3, 188, 1, 0) from rfl) rfl (by rw [E.1, E.2.1, E.2.2.1]; exact k_in G I (by omega) (by omega) (by omega)) ⟨by rw [E.2.2.2]; exact (show (rmN 188).frames + 1 ≤ (rmN 220).frames by decide), by rw [E.2.2.2]; exact (show 8 + (mNL (miB 188) + 11) + (rmN 188).locals ≤ (rmN 220).locals by decide), by rw [E.2.2.2]; exact (show 0 + (rmN 188).cells ≤ (rmN 220).cells by decide), by rw [E.2.2.2]; exact (show 0 + (rmN 188).slots ≤ (rmN 220).slots by decide)⟩ (Nat.le_of_ble_eq_true rfl) (fun vv s1003 hq => ?_) (fun ee s1003 hq => ?_)
        rotate_left
        · obtain ⟨Is1003, Fs1003, e1004, hv, hrs1003, hps1003⟩ := hq; cases hv
        obtain ⟨Is1003, Fs1003, e1004, hv, hrs1003, hps1003⟩ := hq
        cases hv
        have Gs1003 := fm_ts F Fs1003 (by decide) (by decide)
        show WS k 33 [(0, .ref (A 179)), (1, .int (Int32.ofInt xv)), (2, .int (Int32.ofInt yv)), (3, .int (Int32.ofInt nv)), (4, .int (Int32.ofInt c))] [.int (Int32.ofInt e1004)] (Wd A dT s1003) 0 0
        refine z_if_eq X (t := 59) (show cdA 220 33 = some (.ifCond .eq 26, 3, 0, 0, 0) from rfl) (by decide) ⟨by omega, by omega⟩ (fun g1005 => ?_) (fun g1005 => ?_)
        ·
          refine z_inc X (x := c) (lv' := [(4, .int (Int32.ofInt (c + 1))), (0, .ref (A 179)), (1, .int (Int32.ofInt xv)), (2, .int (Int32.ofInt yv)), (3, .int (Int32.ofInt nv))]) (show cdA 220 59 = some (.iinc 4 1, 3, 0, 0, 0) from rfl) (by decide) (List.Mem.tail _ (List.Mem.tail _ (List.Mem.tail _ (List.Mem.tail _ (List.Mem.head _))))) (fun _ h => h) ?_
          refine z_goto X (t := 12) (show cdA 220 62 = some (.goto (-50), 3, 0, 0, 0) from rfl) (by decide) ?_
          exfalso
          omega
        ·
          refine z_aload_n X (x := A 179) (show cdA 220 36 = some (.aload_n 0, 1, 0, 0, 0) from rfl) (List.Mem.head _) ?_
          refine s_getR X 179 (show cdA 220 37 = some (.getfield 55, 3, 12, 30, 0) from rfl) (by decide) rfl rfl ?_
          refine z_load_n X (x := xv) (show cdA 220 40 = some (.iload_n 1, 1, 0, 0, 0) from rfl) (List.Mem.tail _ (List.Mem.head _)) ?_
          refine z_aald X rw_215 (show cdA 220 41 = some (.aaload, 1, 0, 0, 0) from rfl) (by omega) (show xv < 12 by omega) (by decide) ?_
          refine z_load X (x := c) (show cdA 220 42 = some (.iload 4, 2, 0, 0, 0) from rfl) (List.Mem.tail _ (List.Mem.tail _ (List.Mem.tail _ (List.Mem.tail _ (List.Mem.head _))))) ?_
          refine z_ald2 X rw_215 (show cdA 220 44 = some (.iaload, 1, 0, 0, 0) from rfl) (show (xv : Int).toNat < 12 by omega) (by omega) (show c < 24 by omega) (by decide) ?_
          have b1006 : (0 : Int) ≤ (iC s1003 (190 + (xv : Int).toNat) (c : Int).toNat) ∧ (iC s1003 (190 + (xv : Int).toNat) (c : Int).toNat) ≤ 50 := rw_bd rw_215 Is1003 (show (xv : Int).toNat < 12 by omega) (show (c : Int).toNat < 24 by omega)
          refine z_load_n X (x := nv) (show cdA 220 45 = some (.iload_n 3, 1, 0, 0, 0) from rfl) (List.Mem.tail _ (List.Mem.tail _ (List.Mem.tail _ (List.Mem.head _)))) ?_
          refine z_icmp_le X (t := 59) (show cdA 220 46 = some (.if_icmp .le 13, 3, 5, 0, 0) from rfl) (by decide) ⟨by omega, by omega⟩ ⟨by omega, by omega⟩ (fun g1007 => ?_) (fun g1007 => ?_)
          ·
            refine z_inc X (x := c) (lv' := [(4, .int (Int32.ofInt (c + 1))), (0, .ref (A 179)), (1, .int (Int32.ofInt xv)), (2, .int (Int32.ofInt yv)), (3, .int (Int32.ofInt nv))]) (show cdA 220 59 = some (.iinc 4 1, 3, 0, 0, 0) from rfl) (by decide) (List.Mem.tail _ (List.Mem.tail _ (List.Mem.tail _ (List.Mem.tail _ (List.Mem.head _))))) (fun _ h => h) ?_
            refine z_goto X (t := 12) (show cdA 220 62 = some (.goto (-50), 3, 0, 0, 0) from rfl) (by decide) ?_
            exfalso
            omega
          ·
            refine z_aload_n X (x := A 179) (show cdA 220 49 = some (.aload_n 0, 1, 0, 0, 0) from rfl) (List.Mem.head _) ?_
            refine s_getR X 179 (show cdA 220 50 = some (.getfield 55, 3, 12, 30, 0) from rfl) (by decide) rfl rfl ?_
            refine z_load_n X (x := xv) (show cdA 220 53 = some (.iload_n 1, 1, 0, 0, 0) from rfl) (List.Mem.tail _ (List.Mem.head _)) ?_
            refine z_aald X rw_215 (show cdA 220 54 = some (.aaload, 1, 0, 0, 0) from rfl) (by omega) (show xv < 12 by omega) (by decide) ?_
            refine z_load X (x := c) (show cdA 220 55 = some (.iload 4, 2, 0, 0, 0) from rfl) (List.Mem.tail _ (List.Mem.tail _ (List.Mem.tail _ (List.Mem.tail _ (List.Mem.head _))))) ?_
            refine z_ald2 X rw_215 (show cdA 220 57 = some (.iaload, 1, 0, 0, 0) from rfl) (show (xv : Int).toNat < 12 by omega) (by omega) (show c < 24 by omega) (by decide) ?_
            have b1008 : (0 : Int) ≤ (iC s1003 (190 + (xv : Int).toNat) (c : Int).toNat) ∧ (iC s1003 (190 + (xv : Int).toNat) (c : Int).toNat) ≤ 50 := rw_bd rw_215 Is1003 (show (xv : Int).toNat < 12 by omega) (show (c : Int).toNat < 24 by omega)
            refine z_store_n X (lv' := [(3, .int (Int32.ofInt (iC s1003 (190 + (xv : Int).toNat) (c : Int).toNat))), (0, .ref (A 179)), (1, .int (Int32.ofInt xv)), (2, .int (Int32.ofInt yv)), (4, .int (Int32.ofInt c))]) (show cdA 220 58 = some (.istore_n 3, 1, 0, 0, 0) from rfl) (by decide) (fun _ h => h) ?_
            refine z_inc X (x := c) (lv' := [(4, .int (Int32.ofInt (c + 1))), (3, .int (Int32.ofInt (iC s1003 (190 + (xv : Int).toNat) (c : Int).toNat))), (0, .ref (A 179)), (1, .int (Int32.ofInt xv)), (2, .int (Int32.ofInt yv))]) (show cdA 220 59 = some (.iinc 4 1, 3, 0, 0, 0) from rfl) (by decide) (List.Mem.tail _ (List.Mem.tail _ (List.Mem.tail _ (List.Mem.tail _ (List.Mem.head _))))) (fun _ h => h) ?_
            refine z_goto X (t := 12) (show cdA 220 62 = some (.goto (-50), 3, 0, 0, 0) from rfl) (by decide) ?_
            exfalso
            omega
    | succ n ih =>
      intro t xv yv nv c I F hi hm kx
      refine z_load X (x := c) (show cdA 220 12 = some (.iload 4, 2, 0, 0, 0) from rfl) (List.Mem.tail _ (List.Mem.tail _ (List.Mem.tail _ (List.Mem.tail _ (List.Mem.head _))))) ?_
      refine z_load_n X (x := yv) (show cdA 220 14 = some (.iload_n 2, 1, 0, 0, 0) from rfl) (List.Mem.tail _ (List.Mem.tail _ (List.Mem.head _))) ?_
      refine z_aload_n X (x := A 179) (show cdA 220 15 = some (.aload_n 0, 1, 0, 0, 0) from rfl) (List.Mem.head _) ?_
      refine s_getR X 179 (show cdA 220 16 = some (.getfield 38, 3, 12, 24, 0) from rfl) (by decide) rfl rfl ?_
      refine z_load_n X (x := xv) (show cdA 220 19 = some (.iload_n 1, 1, 0, 0, 0) from rfl) (List.Mem.tail _ (List.Mem.head _)) ?_
      refine z_ald X 186 (show cdA 220 20 = some (.iaload, 1, 0, 0, 0) from rfl) (by decide) rfl (by omega) (show xv < 12 by omega) (by decide) ?_
      have b1001 : (0 : Int) ≤ iC t 163 (xv).toNat ∧ iC t 163 (xv).toNat ≤ 2 := I.2 163 _ (show (xv).toNat < 12 by omega)
      refine z_add X (show cdA 220 21 = some (.iadd, 1, 0, 0, 0) from rfl) ?_
      refine z_icmp_gt X (t := 65) (show cdA 220 22 = some (.if_icmp .gt 43, 3, 4, 0, 0) from rfl) (by decide) ⟨by omega, by omega⟩ ⟨by omega, by omega⟩ (fun g1002 => ?_) (fun g1002 => ?_)
      ·
        refine WS_lv (lv := [(0, .ref (A 179)), (1, .int (Int32.ofInt xv)), (2, .int (Int32.ofInt yv)), (3, .int (Int32.ofInt nv)), (4, .int (Int32.ofInt c))]) (List.forall_mem_cons.mpr ⟨(List.Mem.head _), (List.forall_mem_cons.mpr ⟨(List.Mem.tail _ (List.Mem.head _)), (List.forall_mem_cons.mpr ⟨(List.Mem.tail _ (List.Mem.tail _ (List.Mem.head _))), (List.forall_mem_cons.mpr ⟨(List.Mem.tail _ (List.Mem.tail _ (List.Mem.tail _ (List.Mem.head _)))), (List.forall_mem_cons.mpr ⟨(List.Mem.tail _ (List.Mem.tail _ (List.Mem.tail _ (List.Mem.tail _ (List.Mem.head _))))), (fun q h => absurd h List.not_mem_nil)⟩)⟩)⟩)⟩)⟩) ?_
        exact kx _ xv yv nv c I F (by omega)
      ·
        refine z_load X (x := c) (show cdA 220 25 = some (.iload 4, 2, 0, 0, 0) from rfl) (List.Mem.tail _ (List.Mem.tail _ (List.Mem.tail _ (List.Mem.tail _ (List.Mem.head _))))) ?_
        refine z_const X (show cdA 220 27 = some (.iconst 0, 1, 0, 0, 0) from rfl) ?_
        refine z_bipush X (show cdA 220 28 = some (.bipush 23, 2, 0, 0, 23) from rfl) ?_
        refine z_callS X (rm := rmN 188) (As := [.int (Int32.ofInt c), .int (Int32.ofInt 0), .int (Int32.ofInt 23)]) (st := []) (show cdA 220 30 = some (.invokestatic 209, 3, 188, 1, 0) from rfl) rfl (by rw [E.1, E.2.1, E.2.2.1]; exact k_in G I (by omega) (by omega) (by omega)) ⟨by rw [E.2.2.2]; exact (show (rmN 188).frames + 1 ≤ (rmN 220).frames by decide), by rw [E.2.2.2]; exact (show 8 + (mNL (miB 188) + 11) + (rmN 188).locals ≤ (rmN 220).locals by decide), by rw [E.2.2.2]; exact (show 0 + (rmN 188).cells ≤ (rmN 220).cells by decide), by rw [E.2.2.2]; exact (show 0 + (rmN 188).slots ≤ (rmN 220).slots by decide)⟩ (Nat.le_of_ble_eq_true rfl) (fun vv s1003 hq => ?_) (fun ee s1003 hq => ?_)
        rotate_left
        · obtain ⟨Is1003, Fs1003, e1004, hv, hrs1003, hps1003⟩ := hq; cases hv
        obtain ⟨Is1003, Fs1003, e1004, hv, hrs1003, hps1003⟩ := hq
        cases hv
        have Gs1003 := fm_ts F Fs1003 (by decide) (by decide)
        show WS k 33 [(0, .ref (A 179)), (1, .int (Int32.ofInt xv)), (2, .int (Int32.ofInt yv)), (3, .int (Int32.ofInt nv)), (4, .int (Int32.ofInt c))] [.int (Int32.ofInt e1004)] (Wd A dT s1003) 0 0
        refine z_if_eq X (t := 59) (show cdA 220 33 = some (.ifCond .eq 26, 3, 0, 0, 0) from rfl) (by decide) ⟨by omega, by omega⟩ (fun g1005 => ?_) (fun g1005 => ?_)
        ·
          refine z_inc X (x := c) (lv' := [(4, .int (Int32.ofInt (c + 1))), (0, .ref (A 179)), (1, .int (Int32.ofInt xv)), (2, .int (Int32.ofInt yv)), (3, .int (Int32.ofInt nv))]) (show cdA 220 59 = some (.iinc 4 1, 3, 0, 0, 0) from rfl) (by decide) (List.Mem.tail _ (List.Mem.tail _ (List.Mem.tail _ (List.Mem.tail _ (List.Mem.head _))))) (fun _ h => h) ?_
          refine z_goto X (t := 12) (show cdA 220 62 = some (.goto (-50), 3, 0, 0, 0) from rfl) (by decide) ?_
          refine WS_lv (lv := [(0, .ref (A 179)), (1, .int (Int32.ofInt xv)), (2, .int (Int32.ofInt yv)), (3, .int (Int32.ofInt nv)), (4, .int (Int32.ofInt (c + 1)))]) (List.forall_mem_cons.mpr ⟨(List.Mem.tail _ (List.Mem.head _)), (List.forall_mem_cons.mpr ⟨(List.Mem.tail _ (List.Mem.tail _ (List.Mem.head _))), (List.forall_mem_cons.mpr ⟨(List.Mem.tail _ (List.Mem.tail _ (List.Mem.tail _ (List.Mem.head _)))), (List.forall_mem_cons.mpr ⟨(List.Mem.tail _ (List.Mem.tail _ (List.Mem.tail _ (List.Mem.tail _ (List.Mem.head _))))), (List.forall_mem_cons.mpr ⟨(List.Mem.head _), (fun q h => absurd h List.not_mem_nil)⟩)⟩)⟩)⟩)⟩) ?_
          exact ih _ xv yv nv (c + 1) Is1003 Gs1003 (by omega) (by omega) kx
        ·
          refine z_aload_n X (x := A 179) (show cdA 220 36 = some (.aload_n 0, 1, 0, 0, 0) from rfl) (List.Mem.head _) ?_
          refine s_getR X 179 (show cdA 220 37 = some (.getfield 55, 3, 12, 30, 0) from rfl) (by decide) rfl rfl ?_
          refine z_load_n X (x := xv) (show cdA 220 40 = some (.iload_n 1, 1, 0, 0, 0) from rfl) (List.Mem.tail _ (List.Mem.head _)) ?_
          refine z_aald X rw_215 (show cdA 220 41 = some (.aaload, 1, 0, 0, 0) from rfl) (by omega) (show xv < 12 by omega) (by decide) ?_
          refine z_load X (x := c) (show cdA 220 42 = some (.iload 4, 2, 0, 0, 0) from rfl) (List.Mem.tail _ (List.Mem.tail _ (List.Mem.tail _ (List.Mem.tail _ (List.Mem.head _))))) ?_
          refine z_ald2 X rw_215 (show cdA 220 44 = some (.iaload, 1, 0, 0, 0) from rfl) (show (xv : Int).toNat < 12 by omega) (by omega) (show c < 24 by omega) (by decide) ?_
          have b1006 : (0 : Int) ≤ (iC s1003 (190 + (xv : Int).toNat) (c : Int).toNat) ∧ (iC s1003 (190 + (xv : Int).toNat) (c : Int).toNat) ≤ 50 := rw_bd rw_215 Is1003 (show (xv : Int).toNat < 12 by omega) (show (c : Int).toNat < 24 by omega)
          refine z_load_n X (x := nv) (show cdA 220 45 = some (.iload_n 3, 1, 0, 0, 0) from rfl) (List.Mem.tail _ (List.Mem.tail _ (List.Mem.tail _ (List.Mem.head _)))) ?_
          refine z_icmp_le X (t := 59) (show cdA 220 46 = some (.if_icmp .le 13, 3, 5, 0, 0) from rfl) (by decide) ⟨by omega, by omega⟩ ⟨by omega, by omega⟩ (fun g1007 => ?_) (fun g1007 => ?_)
          ·
            refine z_inc X (x := c) (lv' := [(4, .int (Int32.ofInt (c + 1))), (0, .ref (A 179)), (1, .int (Int32.ofInt xv)), (2, .int (Int32.ofInt yv)), (3, .int (Int32.ofInt nv))]) (show cdA 220 59 = some (.iinc 4 1, 3, 0, 0, 0) from rfl) (by decide) (List.Mem.tail _ (List.Mem.tail _ (List.Mem.tail _ (List.Mem.tail _ (List.Mem.head _))))) (fun _ h => h) ?_
            refine z_goto X (t := 12) (show cdA 220 62 = some (.goto (-50), 3, 0, 0, 0) from rfl) (by decide) ?_
            refine WS_lv (lv := [(0, .ref (A 179)), (1, .int (Int32.ofInt xv)), (2, .int (Int32.ofInt yv)), (3, .int (Int32.ofInt nv)), (4, .int (Int32.ofInt (c + 1)))]) (List.forall_mem_cons.mpr ⟨(List.Mem.tail _ (List.Mem.head _)), (List.forall_mem_cons.mpr ⟨(List.Mem.tail _ (List.Mem.tail _ (List.Mem.head _))), (List.forall_mem_cons.mpr ⟨(List.Mem.tail _ (List.Mem.tail _ (List.Mem.tail _ (List.Mem.head _)))), (List.forall_mem_cons.mpr ⟨(List.Mem.tail _ (List.Mem.tail _ (List.Mem.tail _ (List.Mem.tail _ (List.Mem.head _))))), (List.forall_mem_cons.mpr ⟨(List.Mem.head _), (fun q h => absurd h List.not_mem_nil)⟩)⟩)⟩)⟩)⟩) ?_
            exact ih _ xv yv nv (c + 1) Is1003 Gs1003 (by omega) (by omega) kx
          ·
            refine z_aload_n X (x := A 179) (show cdA 220 49 = some (.aload_n 0, 1, 0, 0, 0) from rfl) (List.Mem.head _) ?_
            refine s_getR X 179 (show cdA 220 50 = some (.getfield 55, 3, 12, 30, 0) from rfl) (by decide) rfl rfl ?_
            refine z_load_n X (x := xv) (show cdA 220 53 = some (.iload_n 1, 1, 0, 0, 0) from rfl) (List.Mem.tail _ (List.Mem.head _)) ?_
            refine z_aald X rw_215 (show cdA 220 54 = some (.aaload, 1, 0, 0, 0) from rfl) (by omega) (show xv < 12 by omega) (by decide) ?_
            refine z_load X (x := c) (show cdA 220 55 = some (.iload 4, 2, 0, 0, 0) from rfl) (List.Mem.tail _ (List.Mem.tail _ (List.Mem.tail _ (List.Mem.tail _ (List.Mem.head _))))) ?_
            refine z_ald2 X rw_215 (show cdA 220 57 = some (.iaload, 1, 0, 0, 0) from rfl) (show (xv : Int).toNat < 12 by omega) (by omega) (show c < 24 by omega) (by decide) ?_
            have b1008 : (0 : Int) ≤ (iC s1003 (190 + (xv : Int).toNat) (c : Int).toNat) ∧ (iC s1003 (190 + (xv : Int).toNat) (c : Int).toNat) ≤ 50 := rw_bd rw_215 Is1003 (show (xv : Int).toNat < 12 by omega) (show (c : Int).toNat < 24 by omega)
            refine z_store_n X (lv' := [(3, .int (Int32.ofInt (iC s1003 (190 + (xv : Int).toNat) (c : Int).toNat))), (0, .ref (A 179)), (1, .int (Int32.ofInt xv)), (2, .int (Int32.ofInt yv)), (4, .int (Int32.ofInt c))]) (show cdA 220 58 = some (.istore_n 3, 1, 0, 0, 0) from rfl) (by decide) (fun _ h => h) ?_
            refine z_inc X (x := c) (lv' := [(4, .int (Int32.ofInt (c + 1))), (3, .int (Int32.ofInt (iC s1003 (190 + (xv : Int).toNat) (c : Int).toNat))), (0, .ref (A 179)), (1, .int (Int32.ofInt xv)), (2, .int (Int32.ofInt yv))]) (show cdA 220 59 = some (.iinc 4 1, 3, 0, 0, 0) from rfl) (by decide) (List.Mem.tail _ (List.Mem.tail _ (List.Mem.tail _ (List.Mem.tail _ (List.Mem.head _))))) (fun _ h => h) ?_
            refine z_goto X (t := 12) (show cdA 220 62 = some (.goto (-50), 3, 0, 0, 0) from rfl) (by decide) ?_
            refine WS_lv (lv := [(0, .ref (A 179)), (1, .int (Int32.ofInt xv)), (2, .int (Int32.ofInt yv)), (3, .int (Int32.ofInt (iC s1003 (190 + (xv : Int).toNat) (c : Int).toNat))), (4, .int (Int32.ofInt (c + 1)))]) (List.forall_mem_cons.mpr ⟨(List.Mem.tail _ (List.Mem.tail _ (List.Mem.head _))), (List.forall_mem_cons.mpr ⟨(List.Mem.tail _ (List.Mem.tail _ (List.Mem.tail _ (List.Mem.head _)))), (List.forall_mem_cons.mpr ⟨(List.Mem.tail _ (List.Mem.tail _ (List.Mem.tail _ (List.Mem.tail _ (List.Mem.head _))))), (List.forall_mem_cons.mpr ⟨(List.Mem.tail _ (List.Mem.head _)), (List.forall_mem_cons.mpr ⟨(List.Mem.head _), (fun q h => absurd h List.not_mem_nil)⟩)⟩)⟩)⟩)⟩) ?_
            exact ih _ xv yv (iC s1003 (190 + (xv : Int).toNat) (c : Int).toNat) (c + 1) Is1003 Gs1003 (by omega) (by omega) kx
  refine z_const X (show cdA 220 0 = some (.iconst 0, 1, 0, 0, 0) from rfl) ?_
  refine z_store_n X (lv' := [(3, .int (Int32.ofInt 0)), (0, .ref (A 179)), (1, .int (Int32.ofInt x)), (2, .int (Int32.ofInt y))]) (show cdA 220 1 = some (.istore_n 3, 1, 0, 0, 0) from rfl) (by decide) (fun _ h => h) ?_
  refine z_load_n X (x := y) (show cdA 220 2 = some (.iload_n 2, 1, 0, 0, 0) from rfl) (List.Mem.tail _ (List.Mem.tail _ (List.Mem.tail _ (List.Mem.head _)))) ?_
  refine z_aload_n X (x := A 179) (show cdA 220 3 = some (.aload_n 0, 1, 0, 0, 0) from rfl) (List.Mem.tail _ (List.Mem.head _)) ?_
  refine s_getR X 179 (show cdA 220 4 = some (.getfield 41, 3, 12, 25, 0) from rfl) (by decide) rfl rfl ?_
  refine z_load_n X (x := x) (show cdA 220 7 = some (.iload_n 1, 1, 0, 0, 0) from rfl) (List.Mem.tail _ (List.Mem.tail _ (List.Mem.head _))) ?_
  refine z_ald X 187 (show cdA 220 8 = some (.iaload, 1, 0, 0, 0) from rfl) (by decide) rfl (by omega) (show x < 12 by omega) (by decide) ?_
  have b1 : (0 : Int) ≤ iC s 164 (x).toNat ∧ iC s 164 (x).toNat ≤ 2 := I.2 164 _ (show (x).toNat < 12 by omega)
  refine z_sub X (show cdA 220 9 = some (.isub, 1, 0, 0, 0) from rfl) ?_
  refine z_store X (lv' := [(4, .int (Int32.ofInt (y - (iC s 164 (x).toNat)))), (3, .int (Int32.ofInt 0)), (0, .ref (A 179)), (1, .int (Int32.ofInt x)), (2, .int (Int32.ofInt y))]) (show cdA 220 10 = some (.istore 4, 2, 0, 0, 0) from rfl) (by decide) (fun _ h => h) ?_
  refine WS_lv (lv := [(0, .ref (A 179)), (1, .int (Int32.ofInt x)), (2, .int (Int32.ofInt y)), (3, .int (Int32.ofInt 0)), (4, .int (Int32.ofInt (y - (iC s 164 (x).toNat))))]) (List.forall_mem_cons.mpr ⟨(List.Mem.tail _ (List.Mem.tail _ (List.Mem.head _))), (List.forall_mem_cons.mpr ⟨(List.Mem.tail _ (List.Mem.tail _ (List.Mem.tail _ (List.Mem.head _)))), (List.forall_mem_cons.mpr ⟨(List.Mem.tail _ (List.Mem.tail _ (List.Mem.tail _ (List.Mem.tail _ (List.Mem.head _))))), (List.forall_mem_cons.mpr ⟨(List.Mem.tail _ (List.Mem.head _)), (List.forall_mem_cons.mpr ⟨(List.Mem.head _), (fun q h => absurd h List.not_mem_nil)⟩)⟩)⟩)⟩)⟩) ?_
  refine L12 ((26 - (y - (iC s 164 (x).toNat)) : Int)).toNat s x y 0 (y - (iC s 164 (x).toNat)) I F (by omega) (by omega) ?_
  intro s2 x3 x4 x5 x6 Is2 Fs2 hs2
  refine z_load_n X (x := x5) (show cdA 220 65 = some (.iload_n 3, 1, 0, 0, 0) from rfl) (List.Mem.tail _ (List.Mem.tail _ (List.Mem.tail _ (List.Mem.head _)))) ?_
  exact w_iret X.1 q hRt rfl (ax_d X (show cdA 220 66 = some (.ireturn, 1, 0, 0, 0) from rfl)) (Nat.zero_le _) (Nat.zero_le _) ⟨_, rfl, Is2, Fs2, x5, rfl, ⟨by omega, by omega⟩, by omega⟩
theorem k_most (G : GX l s0 D tys a0 dT) (I : Bd s) {x y : Int} (p0 : rng x) (p1 : rng y) : CT l s0 D A dT 221 (rmN 221) [.ref (A 179), .int (Int32.ofInt x), .int (Int32.ofInt y)] s (fun o t => Bd t ∧ Fm [73] [] s t ∧ ∃ e, o = .inl (some (.int (Int32.ofInt e))) ∧ rng e ∧ (True)) := by
  refine ct_of G (by decide) (Nat.le_of_ble_eq_true rfl) (fun k X E hRt hXt q => ?_)
  show WS k 0 [(0, .ref (A 179)), (1, .int (Int32.ofInt x)), (2, .int (Int32.ofInt y))] [] _ 0 0
  have F : Fm [73] [] s s := fm_rf _ _ s
  have b1 : (0 : Int) ≤ iI s 73 ∧ iI s 73 ≤ 3 := I.1 73
  have b2 : (0 : Int) ≤ iI s 90 ∧ iI s 90 ≤ 12 := I.1 90
  refine z_aload_n X (x := A 179) (show cdA 221 0 = some (.aload_n 0, 1, 0, 0, 0) from rfl) (List.Mem.head _) ?_
  refine z_const X (show cdA 221 1 = some (.iconst 0, 1, 0, 0, 0) from rfl) ?_
  refine s_putI X 179 (show cdA 221 2 = some (.putfield 172, 3, 12, 0, 0) from rfl) (by decide) rfl rfl (by decide) rfl rfl rfl ?_
  obtain ⟨s3, hs3⟩ : ∃ x0, x0 = uI s 73 (Int32.ofInt 0) := ⟨_, rfl⟩
  rw [← hs3]
  have Is3 : Bd s3 := by rw [hs3]; exact bd_I I (show (0 : Int) ≤ 0 ∧ 0 ≤ 3 by omega) ⟨by omega, by omega⟩
  have Fs3 := fm_I (x := Int32.ofInt 0) F (show 73 ∈ _ by decide)
  rw [← hs3] at Fs3
  have vs3 : iI s3 73 = 0 := by rw [hs3]; exact iI_u ⟨by omega, by omega⟩
  have ws3_90 : iI s3 90 = iI s 90 := by rw [hs3]; rfl
  refine z_aload_n X (x := A 179) (show cdA 221 5 = some (.aload_n 0, 1, 0, 0, 0) from rfl) (List.Mem.head _) ?_
  refine z_load_n X (x := x) (show cdA 221 6 = some (.iload_n 1, 1, 0, 0, 0) from rfl) (List.Mem.tail _ (List.Mem.head _)) ?_
  refine z_const X (show cdA 221 7 = some (.iconst 0, 1, 0, 0, 0) from rfl) ?_
  refine z_aload_n X (x := A 179) (show cdA 221 8 = some (.aload_n 0, 1, 0, 0, 0) from rfl) (List.Mem.head _) ?_
  refine z_getI X 179 (show cdA 221 9 = some (.getfield 233, 3, 12, 22, 0) from rfl) (by decide) rfl rfl ?_
  have b4 : (0 : Int) ≤ iI s3 90 ∧ iI s3 90 ≤ 12 := Is3.1 90
  refine z_const X (show cdA 221 12 = some (.iconst 1, 1, 0, 0, 0) from rfl) ?_
  refine z_sub X (show cdA 221 13 = some (.isub, 1, 0, 0, 0) from rfl) ?_
  refine z_callS X (rm := rmN 188) (As := [.int (Int32.ofInt x), .int (Int32.ofInt 0), .int (Int32.ofInt ((iI s3 90) - 1))]) (st := [.ref (A 179)]) (show cdA 221 14 = some (.invokestatic 209, 3, 188, 1, 0) from rfl) rfl (by rw [E.1, E.2.1, E.2.2.1]; exact k_in G Is3 (by omega) (by omega) (by omega)) ⟨by rw [E.2.2.2]; exact (show (rmN 188).frames + 1 ≤ (rmN 221).frames by decide), by rw [E.2.2.2]; exact (show 8 + (mNL (miB 188) + 11) + (rmN 188).locals ≤ (rmN 221).locals by decide), by rw [E.2.2.2]; exact (show 0 + (rmN 188).cells ≤ (rmN 221).cells by decide), by rw [E.2.2.2]; exact (show 0 + (rmN 188).slots ≤ (rmN 221).slots by decide)⟩ (Nat.le_of_ble_eq_true rfl) (fun vv s5 hq => ?_) (fun ee s5 hq => ?_)
  rotate_left
  · obtain ⟨Is5, Fs5, e6, hv, hrs5, hps5⟩ := hq; cases hv
  obtain ⟨Is5, Fs5, e6, hv, hrs5, hps5⟩ := hq
  cases hv
  have Gs5 := fm_ts Fs3 Fs5 (by decide) (by decide)
  have ws5_73 : iI s5 73 = iI s3 73 := fm_i Fs5 (by decide)
  have ws5_90 : iI s5 90 = iI s3 90 := fm_i Fs5 (by decide)
  show WS k 17 [(0, .ref (A 179)), (1, .int (Int32.ofInt x)), (2, .int (Int32.ofInt y))] [.int (Int32.ofInt e6), .ref (A 179)] (Wd A dT s5) 0 0
  refine z_if_ne X (t := 24) (show cdA 221 17 = some (.ifCond .ne 7, 3, 1, 0, 0) from rfl) (by decide) ⟨by omega, by omega⟩ (fun g7 => ?_) (fun g7 => ?_)
  ·
    refine z_const X (show cdA 221 24 = some (.iconst 0, 1, 0, 0, 0) from rfl) ?_
    refine z_const X (show cdA 221 25 = some (.iconst 1, 1, 0, 0, 0) from rfl) ?_
    refine z_callV X 179 (rm := rmN 187) (As := [.int (Int32.ofInt 0), .int (Int32.ofInt 1)]) (st := []) (show cdA 221 26 = some (.invokevirtual 229, 3, 187, 0, 0) from rfl) rfl (by decide) rfl (by rw [E.1, E.2.1, E.2.2.1]; exact k_bad G Is5 (by omega) (by omega)) ⟨by rw [E.2.2.2]; exact (show (rmN 187).frames + 1 ≤ (rmN 221).frames by decide), by rw [E.2.2.2]; exact (show 8 + (mNL (miB 187) + 11) + (rmN 187).locals ≤ (rmN 221).locals by decide), by rw [E.2.2.2]; exact (show 0 + (rmN 187).cells ≤ (rmN 221).cells by decide), by rw [E.2.2.2]; exact (show 0 + (rmN 187).slots ≤ (rmN 221).slots by decide)⟩ (Nat.le_of_ble_eq_true rfl) (fun vv s8 hq => ?_) (fun ee s8 hq => ?_)
    rotate_left
    · obtain ⟨Is8, Fs8, e9, hv, hrs8, hps8⟩ := hq; cases hv
    obtain ⟨Is8, Fs8, e9, hv, hrs8, hps8⟩ := hq
    cases hv
    have Gs8 := fm_ts Gs5 Fs8 (by decide) (by decide)
    have b10 : (0 : Int) ≤ iI s8 73 ∧ iI s8 73 ≤ 3 := Is8.1 73
    have ws8_90 : iI s8 90 = iI s5 90 := fm_i Fs8 (by decide)
    show WS k 29 [(0, .ref (A 179)), (1, .int (Int32.ofInt x)), (2, .int (Int32.ofInt y))] [.int (Int32.ofInt e9)] (Wd A dT s8) 0 0
    refine z_if_ne X (t := 55) (show cdA 221 29 = some (.ifCond .ne 26, 3, 1, 0, 0) from rfl) (by decide) ⟨by omega, by omega⟩ (fun g11 => ?_) (fun g11 => ?_)
    ·
      refine z_const X (show cdA 221 55 = some (.iconst 0, 1, 0, 0, 0) from rfl) ?_
      exact w_iret X.1 q hRt rfl (ax_d X (show cdA 221 56 = some (.ireturn, 1, 0, 0, 0) from rfl)) (Nat.zero_le _) (Nat.zero_le _) ⟨_, rfl, Is8, Gs8, 0, rfl, ⟨by omega, by omega⟩, trivial⟩
    ·
      refine z_aload_n X (x := A 179) (show cdA 221 32 = some (.aload_n 0, 1, 0, 0, 0) from rfl) (List.Mem.head _) ?_
      refine z_load_n X (x := y) (show cdA 221 33 = some (.iload_n 2, 1, 0, 0, 0) from rfl) (List.Mem.tail _ (List.Mem.tail _ (List.Mem.head _))) ?_
      refine z_const X (show cdA 221 34 = some (.iconst 0, 1, 0, 0, 0) from rfl) ?_
      refine z_bipush X (show cdA 221 35 = some (.bipush 23, 2, 0, 0, 23) from rfl) ?_
      refine z_callS X (rm := rmN 188) (As := [.int (Int32.ofInt y), .int (Int32.ofInt 0), .int (Int32.ofInt 23)]) (st := [.ref (A 179)]) (show cdA 221 37 = some (.invokestatic 209, 3, 188, 1, 0) from rfl) rfl (by rw [E.1, E.2.1, E.2.2.1]; exact k_in G Is8 (by omega) (by omega) (by omega)) ⟨by rw [E.2.2.2]; exact (show (rmN 188).frames + 1 ≤ (rmN 221).frames by decide), by rw [E.2.2.2]; exact (show 8 + (mNL (miB 188) + 11) + (rmN 188).locals ≤ (rmN 221).locals by decide), by rw [E.2.2.2]; exact (show 0 + (rmN 188).cells ≤ (rmN 221).cells by decide), by rw [E.2.2.2]; exact (show 0 + (rmN 188).slots ≤ (rmN 221).slots by decide)⟩ (Nat.le_of_ble_eq_true rfl) (fun vv s12 hq => ?_) (fun ee s12 hq => ?_)
      rotate_left
      · obtain ⟨Is12, Fs12, e13, hv, hrs12, hps12⟩ := hq; cases hv
      obtain ⟨Is12, Fs12, e13, hv, hrs12, hps12⟩ := hq
      cases hv
      have Gs12 := fm_ts Gs8 Fs12 (by decide) (by decide)
      have ws12_73 : iI s12 73 = iI s8 73 := fm_i Fs12 (by decide)
      have ws12_90 : iI s12 90 = iI s8 90 := fm_i Fs12 (by decide)
      show WS k 40 [(0, .ref (A 179)), (1, .int (Int32.ofInt x)), (2, .int (Int32.ofInt y))] [.int (Int32.ofInt e13), .ref (A 179)] (Wd A dT s12) 0 0
      refine z_if_ne X (t := 47) (show cdA 221 40 = some (.ifCond .ne 7, 3, 1, 0, 0) from rfl) (by decide) ⟨by omega, by omega⟩ (fun g14 => ?_) (fun g14 => ?_)
      ·
        refine z_const X (show cdA 221 47 = some (.iconst 0, 1, 0, 0, 0) from rfl) ?_
        refine z_const X (show cdA 221 48 = some (.iconst 2, 1, 0, 0, 0) from rfl) ?_
        refine z_callV X 179 (rm := rmN 187) (As := [.int (Int32.ofInt 0), .int (Int32.ofInt 2)]) (st := []) (show cdA 221 49 = some (.invokevirtual 229, 3, 187, 0, 0) from rfl) rfl (by decide) rfl (by rw [E.1, E.2.1, E.2.2.1]; exact k_bad G Is12 (by omega) (by omega)) ⟨by rw [E.2.2.2]; exact (show (rmN 187).frames + 1 ≤ (rmN 221).frames by decide), by rw [E.2.2.2]; exact (show 8 + (mNL (miB 187) + 11) + (rmN 187).locals ≤ (rmN 221).locals by decide), by rw [E.2.2.2]; exact (show 0 + (rmN 187).cells ≤ (rmN 221).cells by decide), by rw [E.2.2.2]; exact (show 0 + (rmN 187).slots ≤ (rmN 221).slots by decide)⟩ (Nat.le_of_ble_eq_true rfl) (fun vv s15 hq => ?_) (fun ee s15 hq => ?_)
        rotate_left
        · obtain ⟨Is15, Fs15, e16, hv, hrs15, hps15⟩ := hq; cases hv
        obtain ⟨Is15, Fs15, e16, hv, hrs15, hps15⟩ := hq
        cases hv
        have Gs15 := fm_ts Gs12 Fs15 (by decide) (by decide)
        have b17 : (0 : Int) ≤ iI s15 73 ∧ iI s15 73 ≤ 3 := Is15.1 73
        have ws15_90 : iI s15 90 = iI s12 90 := fm_i Fs15 (by decide)
        show WS k 52 [(0, .ref (A 179)), (1, .int (Int32.ofInt x)), (2, .int (Int32.ofInt y))] [.int (Int32.ofInt e16)] (Wd A dT s15) 0 0
        refine z_if_eq X (t := 57) (show cdA 221 52 = some (.ifCond .eq 5, 3, 0, 0, 0) from rfl) (by decide) ⟨by omega, by omega⟩ (fun g18 => ?_) (fun g18 => ?_)
        ·
          refine z_aload_n X (x := A 179) (show cdA 221 57 = some (.aload_n 0, 1, 0, 0, 0) from rfl) (List.Mem.head _) ?_
          refine z_load_n X (x := x) (show cdA 221 58 = some (.iload_n 1, 1, 0, 0, 0) from rfl) (List.Mem.tail _ (List.Mem.head _)) ?_
          refine z_load_n X (x := y) (show cdA 221 59 = some (.iload_n 2, 1, 0, 0, 0) from rfl) (List.Mem.tail _ (List.Mem.tail _ (List.Mem.head _))) ?_
          refine z_callV X 179 (rm := rmN 220) (As := [.int (Int32.ofInt x), .int (Int32.ofInt y)]) (st := []) (show cdA 221 60 = some (.invokevirtual 303, 3, 220, 0, 0) from rfl) rfl (by decide) rfl (by rw [E.1, E.2.1, E.2.2.1]; exact k_mostOf G Is15 (by omega) (by omega)) ⟨by rw [E.2.2.2]; exact (show (rmN 220).frames + 1 ≤ (rmN 221).frames by decide), by rw [E.2.2.2]; exact (show 8 + (mNL (miB 220) + 11) + (rmN 220).locals ≤ (rmN 221).locals by decide), by rw [E.2.2.2]; exact (show 0 + (rmN 220).cells ≤ (rmN 221).cells by decide), by rw [E.2.2.2]; exact (show 0 + (rmN 220).slots ≤ (rmN 221).slots by decide)⟩ (Nat.le_of_ble_eq_true rfl) (fun vv s19 hq => ?_) (fun ee s19 hq => ?_)
          rotate_left
          · obtain ⟨Is19, Fs19, e20, hv, hrs19, hps19⟩ := hq; cases hv
          obtain ⟨Is19, Fs19, e20, hv, hrs19, hps19⟩ := hq
          cases hv
          have Gs19 := fm_ts Gs15 Fs19 (by decide) (by decide)
          have ws19_73 : iI s19 73 = iI s15 73 := fm_i Fs19 (by decide)
          have ws19_90 : iI s19 90 = iI s15 90 := fm_i Fs19 (by decide)
          show WS k 63 [(0, .ref (A 179)), (1, .int (Int32.ofInt x)), (2, .int (Int32.ofInt y))] [.int (Int32.ofInt e20)] (Wd A dT s19) 0 0
          exact w_iret X.1 q hRt rfl (ax_d X (show cdA 221 63 = some (.ireturn, 1, 0, 0, 0) from rfl)) (Nat.zero_le _) (Nat.zero_le _) ⟨_, rfl, Is19, Gs19, e20, rfl, ⟨by omega, by omega⟩, trivial⟩
        ·
          refine z_const X (show cdA 221 55 = some (.iconst 0, 1, 0, 0, 0) from rfl) ?_
          exact w_iret X.1 q hRt rfl (ax_d X (show cdA 221 56 = some (.ireturn, 1, 0, 0, 0) from rfl)) (Nat.zero_le _) (Nat.zero_le _) ⟨_, rfl, Is15, Gs15, 0, rfl, ⟨by omega, by omega⟩, trivial⟩
      ·
        refine z_const X (show cdA 221 43 = some (.iconst 1, 1, 0, 0, 0) from rfl) ?_
        refine z_goto X (t := 48) (show cdA 221 44 = some (.goto 4, 3, 0, 0, 0) from rfl) (by decide) ?_
        refine z_const X (show cdA 221 48 = some (.iconst 2, 1, 0, 0, 0) from rfl) ?_
        refine z_callV X 179 (rm := rmN 187) (As := [.int (Int32.ofInt 1), .int (Int32.ofInt 2)]) (st := []) (show cdA 221 49 = some (.invokevirtual 229, 3, 187, 0, 0) from rfl) rfl (by decide) rfl (by rw [E.1, E.2.1, E.2.2.1]; exact k_bad G Is12 (by omega) (by omega)) ⟨by rw [E.2.2.2]; exact (show (rmN 187).frames + 1 ≤ (rmN 221).frames by decide), by rw [E.2.2.2]; exact (show 8 + (mNL (miB 187) + 11) + (rmN 187).locals ≤ (rmN 221).locals by decide), by rw [E.2.2.2]; exact (show 0 + (rmN 187).cells ≤ (rmN 221).cells by decide), by rw [E.2.2.2]; exact (show 0 + (rmN 187).slots ≤ (rmN 221).slots by decide)⟩ (Nat.le_of_ble_eq_true rfl) (fun vv s21 hq => ?_) (fun ee s21 hq => ?_)
        rotate_left
        · obtain ⟨Is21, Fs21, e22, hv, hrs21, hps21⟩ := hq; cases hv
        obtain ⟨Is21, Fs21, e22, hv, hrs21, hps21⟩ := hq
        cases hv
        have Gs21 := fm_ts Gs12 Fs21 (by decide) (by decide)
        have b23 : (0 : Int) ≤ iI s21 73 ∧ iI s21 73 ≤ 3 := Is21.1 73
        have ws21_90 : iI s21 90 = iI s12 90 := fm_i Fs21 (by decide)
        show WS k 52 [(0, .ref (A 179)), (1, .int (Int32.ofInt x)), (2, .int (Int32.ofInt y))] [.int (Int32.ofInt e22)] (Wd A dT s21) 0 0
        refine z_if_eq X (t := 57) (show cdA 221 52 = some (.ifCond .eq 5, 3, 0, 0, 0) from rfl) (by decide) ⟨by omega, by omega⟩ (fun g24 => ?_) (fun g24 => ?_)
        ·
          refine z_aload_n X (x := A 179) (show cdA 221 57 = some (.aload_n 0, 1, 0, 0, 0) from rfl) (List.Mem.head _) ?_
          refine z_load_n X (x := x) (show cdA 221 58 = some (.iload_n 1, 1, 0, 0, 0) from rfl) (List.Mem.tail _ (List.Mem.head _)) ?_
          refine z_load_n X (x := y) (show cdA 221 59 = some (.iload_n 2, 1, 0, 0, 0) from rfl) (List.Mem.tail _ (List.Mem.tail _ (List.Mem.head _))) ?_
          refine z_callV X 179 (rm := rmN 220) (As := [.int (Int32.ofInt x), .int (Int32.ofInt y)]) (st := []) (show cdA 221 60 = some (.invokevirtual 303, 3, 220, 0, 0) from rfl) rfl (by decide) rfl (by rw [E.1, E.2.1, E.2.2.1]; exact k_mostOf G Is21 (by omega) (by omega)) ⟨by rw [E.2.2.2]; exact (show (rmN 220).frames + 1 ≤ (rmN 221).frames by decide), by rw [E.2.2.2]; exact (show 8 + (mNL (miB 220) + 11) + (rmN 220).locals ≤ (rmN 221).locals by decide), by rw [E.2.2.2]; exact (show 0 + (rmN 220).cells ≤ (rmN 221).cells by decide), by rw [E.2.2.2]; exact (show 0 + (rmN 220).slots ≤ (rmN 221).slots by decide)⟩ (Nat.le_of_ble_eq_true rfl) (fun vv s25 hq => ?_) (fun ee s25 hq => ?_)
          rotate_left
          · obtain ⟨Is25, Fs25, e26, hv, hrs25, hps25⟩ := hq; cases hv
          obtain ⟨Is25, Fs25, e26, hv, hrs25, hps25⟩ := hq
          cases hv
          have Gs25 := fm_ts Gs21 Fs25 (by decide) (by decide)
          have ws25_73 : iI s25 73 = iI s21 73 := fm_i Fs25 (by decide)
          have ws25_90 : iI s25 90 = iI s21 90 := fm_i Fs25 (by decide)
          show WS k 63 [(0, .ref (A 179)), (1, .int (Int32.ofInt x)), (2, .int (Int32.ofInt y))] [.int (Int32.ofInt e26)] (Wd A dT s25) 0 0
          exact w_iret X.1 q hRt rfl (ax_d X (show cdA 221 63 = some (.ireturn, 1, 0, 0, 0) from rfl)) (Nat.zero_le _) (Nat.zero_le _) ⟨_, rfl, Is25, Gs25, e26, rfl, ⟨by omega, by omega⟩, trivial⟩
        ·
          refine z_const X (show cdA 221 55 = some (.iconst 0, 1, 0, 0, 0) from rfl) ?_
          exact w_iret X.1 q hRt rfl (ax_d X (show cdA 221 56 = some (.ireturn, 1, 0, 0, 0) from rfl)) (Nat.zero_le _) (Nat.zero_le _) ⟨_, rfl, Is21, Gs21, 0, rfl, ⟨by omega, by omega⟩, trivial⟩
  ·
    refine z_const X (show cdA 221 20 = some (.iconst 1, 1, 0, 0, 0) from rfl) ?_
    refine z_goto X (t := 25) (show cdA 221 21 = some (.goto 4, 3, 0, 0, 0) from rfl) (by decide) ?_
    refine z_const X (show cdA 221 25 = some (.iconst 1, 1, 0, 0, 0) from rfl) ?_
    refine z_callV X 179 (rm := rmN 187) (As := [.int (Int32.ofInt 1), .int (Int32.ofInt 1)]) (st := []) (show cdA 221 26 = some (.invokevirtual 229, 3, 187, 0, 0) from rfl) rfl (by decide) rfl (by rw [E.1, E.2.1, E.2.2.1]; exact k_bad G Is5 (by omega) (by omega)) ⟨by rw [E.2.2.2]; exact (show (rmN 187).frames + 1 ≤ (rmN 221).frames by decide), by rw [E.2.2.2]; exact (show 8 + (mNL (miB 187) + 11) + (rmN 187).locals ≤ (rmN 221).locals by decide), by rw [E.2.2.2]; exact (show 0 + (rmN 187).cells ≤ (rmN 221).cells by decide), by rw [E.2.2.2]; exact (show 0 + (rmN 187).slots ≤ (rmN 221).slots by decide)⟩ (Nat.le_of_ble_eq_true rfl) (fun vv s27 hq => ?_) (fun ee s27 hq => ?_)
    rotate_left
    · obtain ⟨Is27, Fs27, e28, hv, hrs27, hps27⟩ := hq; cases hv
    obtain ⟨Is27, Fs27, e28, hv, hrs27, hps27⟩ := hq
    cases hv
    have Gs27 := fm_ts Gs5 Fs27 (by decide) (by decide)
    have b29 : (0 : Int) ≤ iI s27 73 ∧ iI s27 73 ≤ 3 := Is27.1 73
    have ws27_90 : iI s27 90 = iI s5 90 := fm_i Fs27 (by decide)
    show WS k 29 [(0, .ref (A 179)), (1, .int (Int32.ofInt x)), (2, .int (Int32.ofInt y))] [.int (Int32.ofInt e28)] (Wd A dT s27) 0 0
    refine z_if_ne X (t := 55) (show cdA 221 29 = some (.ifCond .ne 26, 3, 1, 0, 0) from rfl) (by decide) ⟨by omega, by omega⟩ (fun g30 => ?_) (fun g30 => ?_)
    ·
      refine z_const X (show cdA 221 55 = some (.iconst 0, 1, 0, 0, 0) from rfl) ?_
      exact w_iret X.1 q hRt rfl (ax_d X (show cdA 221 56 = some (.ireturn, 1, 0, 0, 0) from rfl)) (Nat.zero_le _) (Nat.zero_le _) ⟨_, rfl, Is27, Gs27, 0, rfl, ⟨by omega, by omega⟩, trivial⟩
    ·
      refine z_aload_n X (x := A 179) (show cdA 221 32 = some (.aload_n 0, 1, 0, 0, 0) from rfl) (List.Mem.head _) ?_
      refine z_load_n X (x := y) (show cdA 221 33 = some (.iload_n 2, 1, 0, 0, 0) from rfl) (List.Mem.tail _ (List.Mem.tail _ (List.Mem.head _))) ?_
      refine z_const X (show cdA 221 34 = some (.iconst 0, 1, 0, 0, 0) from rfl) ?_
      refine z_bipush X (show cdA 221 35 = some (.bipush 23, 2, 0, 0, 23) from rfl) ?_
      refine z_callS X (rm := rmN 188) (As := [.int (Int32.ofInt y), .int (Int32.ofInt 0), .int (Int32.ofInt 23)]) (st := [.ref (A 179)]) (show cdA 221 37 = some (.invokestatic 209, 3, 188, 1, 0) from rfl) rfl (by rw [E.1, E.2.1, E.2.2.1]; exact k_in G Is27 (by omega) (by omega) (by omega)) ⟨by rw [E.2.2.2]; exact (show (rmN 188).frames + 1 ≤ (rmN 221).frames by decide), by rw [E.2.2.2]; exact (show 8 + (mNL (miB 188) + 11) + (rmN 188).locals ≤ (rmN 221).locals by decide), by rw [E.2.2.2]; exact (show 0 + (rmN 188).cells ≤ (rmN 221).cells by decide), by rw [E.2.2.2]; exact (show 0 + (rmN 188).slots ≤ (rmN 221).slots by decide)⟩ (Nat.le_of_ble_eq_true rfl) (fun vv s31 hq => ?_) (fun ee s31 hq => ?_)
      rotate_left
      · obtain ⟨Is31, Fs31, e32, hv, hrs31, hps31⟩ := hq; cases hv
      obtain ⟨Is31, Fs31, e32, hv, hrs31, hps31⟩ := hq
      cases hv
      have Gs31 := fm_ts Gs27 Fs31 (by decide) (by decide)
      have ws31_73 : iI s31 73 = iI s27 73 := fm_i Fs31 (by decide)
      have ws31_90 : iI s31 90 = iI s27 90 := fm_i Fs31 (by decide)
      show WS k 40 [(0, .ref (A 179)), (1, .int (Int32.ofInt x)), (2, .int (Int32.ofInt y))] [.int (Int32.ofInt e32), .ref (A 179)] (Wd A dT s31) 0 0
      refine z_if_ne X (t := 47) (show cdA 221 40 = some (.ifCond .ne 7, 3, 1, 0, 0) from rfl) (by decide) ⟨by omega, by omega⟩ (fun g33 => ?_) (fun g33 => ?_)
      ·
        refine z_const X (show cdA 221 47 = some (.iconst 0, 1, 0, 0, 0) from rfl) ?_
        refine z_const X (show cdA 221 48 = some (.iconst 2, 1, 0, 0, 0) from rfl) ?_
        refine z_callV X 179 (rm := rmN 187) (As := [.int (Int32.ofInt 0), .int (Int32.ofInt 2)]) (st := []) (show cdA 221 49 = some (.invokevirtual 229, 3, 187, 0, 0) from rfl) rfl (by decide) rfl (by rw [E.1, E.2.1, E.2.2.1]; exact k_bad G Is31 (by omega) (by omega)) ⟨by rw [E.2.2.2]; exact (show (rmN 187).frames + 1 ≤ (rmN 221).frames by decide), by rw [E.2.2.2]; exact (show 8 + (mNL (miB 187) + 11) + (rmN 187).locals ≤ (rmN 221).locals by decide), by rw [E.2.2.2]; exact (show 0 + (rmN 187).cells ≤ (rmN 221).cells by decide), by rw [E.2.2.2]; exact (show 0 + (rmN 187).slots ≤ (rmN 221).slots by decide)⟩ (Nat.le_of_ble_eq_true rfl) (fun vv s34 hq => ?_) (fun ee s34 hq => ?_)
        rotate_left
        · obtain ⟨Is34, Fs34, e35, hv, hrs34, hps34⟩ := hq; cases hv
        obtain ⟨Is34, Fs34, e35, hv, hrs34, hps34⟩ := hq
        cases hv
        have Gs34 := fm_ts Gs31 Fs34 (by decide) (by decide)
        have b36 : (0 : Int) ≤ iI s34 73 ∧ iI s34 73 ≤ 3 := Is34.1 73
        have ws34_90 : iI s34 90 = iI s31 90 := fm_i Fs34 (by decide)
        show WS k 52 [(0, .ref (A 179)), (1, .int (Int32.ofInt x)), (2, .int (Int32.ofInt y))] [.int (Int32.ofInt e35)] (Wd A dT s34) 0 0
        refine z_if_eq X (t := 57) (show cdA 221 52 = some (.ifCond .eq 5, 3, 0, 0, 0) from rfl) (by decide) ⟨by omega, by omega⟩ (fun g37 => ?_) (fun g37 => ?_)
        ·
          refine z_aload_n X (x := A 179) (show cdA 221 57 = some (.aload_n 0, 1, 0, 0, 0) from rfl) (List.Mem.head _) ?_
          refine z_load_n X (x := x) (show cdA 221 58 = some (.iload_n 1, 1, 0, 0, 0) from rfl) (List.Mem.tail _ (List.Mem.head _)) ?_
          refine z_load_n X (x := y) (show cdA 221 59 = some (.iload_n 2, 1, 0, 0, 0) from rfl) (List.Mem.tail _ (List.Mem.tail _ (List.Mem.head _))) ?_
          refine z_callV X 179 (rm := rmN 220) (As := [.int (Int32.ofInt x), .int (Int32.ofInt y)]) (st := []) (show cdA 221 60 = some (.invokevirtual 303, 3, 220, 0, 0) from rfl) rfl (by decide) rfl (by rw [E.1, E.2.1, E.2.2.1]; exact k_mostOf G Is34 (by omega) (by omega)) ⟨by rw [E.2.2.2]; exact (show (rmN 220).frames + 1 ≤ (rmN 221).frames by decide), by rw [E.2.2.2]; exact (show 8 + (mNL (miB 220) + 11) + (rmN 220).locals ≤ (rmN 221).locals by decide), by rw [E.2.2.2]; exact (show 0 + (rmN 220).cells ≤ (rmN 221).cells by decide), by rw [E.2.2.2]; exact (show 0 + (rmN 220).slots ≤ (rmN 221).slots by decide)⟩ (Nat.le_of_ble_eq_true rfl) (fun vv s38 hq => ?_) (fun ee s38 hq => ?_)
          rotate_left
          · obtain ⟨Is38, Fs38, e39, hv, hrs38, hps38⟩ := hq; cases hv
          obtain ⟨Is38, Fs38, e39, hv, hrs38, hps38⟩ := hq
          cases hv
          have Gs38 := fm_ts Gs34 Fs38 (by decide) (by decide)
          have ws38_73 : iI s38 73 = iI s34 73 := fm_i Fs38 (by decide)
          have ws38_90 : iI s38 90 = iI s34 90 := fm_i Fs38 (by decide)
          show WS k 63 [(0, .ref (A 179)), (1, .int (Int32.ofInt x)), (2, .int (Int32.ofInt y))] [.int (Int32.ofInt e39)] (Wd A dT s38) 0 0
          exact w_iret X.1 q hRt rfl (ax_d X (show cdA 221 63 = some (.ireturn, 1, 0, 0, 0) from rfl)) (Nat.zero_le _) (Nat.zero_le _) ⟨_, rfl, Is38, Gs38, e39, rfl, ⟨by omega, by omega⟩, trivial⟩
        ·
          refine z_const X (show cdA 221 55 = some (.iconst 0, 1, 0, 0, 0) from rfl) ?_
          exact w_iret X.1 q hRt rfl (ax_d X (show cdA 221 56 = some (.ireturn, 1, 0, 0, 0) from rfl)) (Nat.zero_le _) (Nat.zero_le _) ⟨_, rfl, Is34, Gs34, 0, rfl, ⟨by omega, by omega⟩, trivial⟩
      ·
        refine z_const X (show cdA 221 43 = some (.iconst 1, 1, 0, 0, 0) from rfl) ?_
        refine z_goto X (t := 48) (show cdA 221 44 = some (.goto 4, 3, 0, 0, 0) from rfl) (by decide) ?_
        refine z_const X (show cdA 221 48 = some (.iconst 2, 1, 0, 0, 0) from rfl) ?_
        refine z_callV X 179 (rm := rmN 187) (As := [.int (Int32.ofInt 1), .int (Int32.ofInt 2)]) (st := []) (show cdA 221 49 = some (.invokevirtual 229, 3, 187, 0, 0) from rfl) rfl (by decide) rfl (by rw [E.1, E.2.1, E.2.2.1]; exact k_bad G Is31 (by omega) (by omega)) ⟨by rw [E.2.2.2]; exact (show (rmN 187).frames + 1 ≤ (rmN 221).frames by decide), by rw [E.2.2.2]; exact (show 8 + (mNL (miB 187) + 11) + (rmN 187).locals ≤ (rmN 221).locals by decide), by rw [E.2.2.2]; exact (show 0 + (rmN 187).cells ≤ (rmN 221).cells by decide), by rw [E.2.2.2]; exact (show 0 + (rmN 187).slots ≤ (rmN 221).slots by decide)⟩ (Nat.le_of_ble_eq_true rfl) (fun vv s40 hq => ?_) (fun ee s40 hq => ?_)
        rotate_left
        · obtain ⟨Is40, Fs40, e41, hv, hrs40, hps40⟩ := hq; cases hv
        obtain ⟨Is40, Fs40, e41, hv, hrs40, hps40⟩ := hq
        cases hv
        have Gs40 := fm_ts Gs31 Fs40 (by decide) (by decide)
        have b42 : (0 : Int) ≤ iI s40 73 ∧ iI s40 73 ≤ 3 := Is40.1 73
        have ws40_90 : iI s40 90 = iI s31 90 := fm_i Fs40 (by decide)
        show WS k 52 [(0, .ref (A 179)), (1, .int (Int32.ofInt x)), (2, .int (Int32.ofInt y))] [.int (Int32.ofInt e41)] (Wd A dT s40) 0 0
        refine z_if_eq X (t := 57) (show cdA 221 52 = some (.ifCond .eq 5, 3, 0, 0, 0) from rfl) (by decide) ⟨by omega, by omega⟩ (fun g43 => ?_) (fun g43 => ?_)
        ·
          refine z_aload_n X (x := A 179) (show cdA 221 57 = some (.aload_n 0, 1, 0, 0, 0) from rfl) (List.Mem.head _) ?_
          refine z_load_n X (x := x) (show cdA 221 58 = some (.iload_n 1, 1, 0, 0, 0) from rfl) (List.Mem.tail _ (List.Mem.head _)) ?_
          refine z_load_n X (x := y) (show cdA 221 59 = some (.iload_n 2, 1, 0, 0, 0) from rfl) (List.Mem.tail _ (List.Mem.tail _ (List.Mem.head _))) ?_
          refine z_callV X 179 (rm := rmN 220) (As := [.int (Int32.ofInt x), .int (Int32.ofInt y)]) (st := []) (show cdA 221 60 = some (.invokevirtual 303, 3, 220, 0, 0) from rfl) rfl (by decide) rfl (by rw [E.1, E.2.1, E.2.2.1]; exact k_mostOf G Is40 (by omega) (by omega)) ⟨by rw [E.2.2.2]; exact (show (rmN 220).frames + 1 ≤ (rmN 221).frames by decide), by rw [E.2.2.2]; exact (show 8 + (mNL (miB 220) + 11) + (rmN 220).locals ≤ (rmN 221).locals by decide), by rw [E.2.2.2]; exact (show 0 + (rmN 220).cells ≤ (rmN 221).cells by decide), by rw [E.2.2.2]; exact (show 0 + (rmN 220).slots ≤ (rmN 221).slots by decide)⟩ (Nat.le_of_ble_eq_true rfl) (fun vv s44 hq => ?_) (fun ee s44 hq => ?_)
          rotate_left
          · obtain ⟨Is44, Fs44, e45, hv, hrs44, hps44⟩ := hq; cases hv
          obtain ⟨Is44, Fs44, e45, hv, hrs44, hps44⟩ := hq
          cases hv
          have Gs44 := fm_ts Gs40 Fs44 (by decide) (by decide)
          have ws44_73 : iI s44 73 = iI s40 73 := fm_i Fs44 (by decide)
          have ws44_90 : iI s44 90 = iI s40 90 := fm_i Fs44 (by decide)
          show WS k 63 [(0, .ref (A 179)), (1, .int (Int32.ofInt x)), (2, .int (Int32.ofInt y))] [.int (Int32.ofInt e45)] (Wd A dT s44) 0 0
          exact w_iret X.1 q hRt rfl (ax_d X (show cdA 221 63 = some (.ireturn, 1, 0, 0, 0) from rfl)) (Nat.zero_le _) (Nat.zero_le _) ⟨_, rfl, Is44, Gs44, e45, rfl, ⟨by omega, by omega⟩, trivial⟩
        ·
          refine z_const X (show cdA 221 55 = some (.iconst 0, 1, 0, 0, 0) from rfl) ?_
          exact w_iret X.1 q hRt rfl (ax_d X (show cdA 221 56 = some (.ireturn, 1, 0, 0, 0) from rfl)) (Nat.zero_le _) (Nat.zero_le _) ⟨_, rfl, Is40, Gs40, 0, rfl, ⟨by omega, by omega⟩, trivial⟩
theorem k_numbersIn (G : GX l s0 D tys a0 dT) (I : Bd s) {x : Int} (p0 : 0 ≤ x ∧ x ≤ 23) : CT l s0 D A dT 224 (rmN 224) [.ref (A 179), .int (Int32.ofInt x)] s (fun o t => Bd t ∧ Fm [] [203] s t ∧ o = .inl none ∧ (True)) := by
  refine ct_of G (by decide) (Nat.le_of_ble_eq_true rfl) (fun k X E hRt hXt q => ?_)
  show WS k 0 [(0, .ref (A 179)), (1, .int (Int32.ofInt x))] [] _ 0 0
  have F : Fm [] [203] s s := fm_rf _ _ s
  have b1 : (0 : Int) ≤ iI s 90 ∧ iI s 90 ≤ 12 := I.1 90
  have L2 : ∀ (n : Nat) (t : PS) (xv c : Int), Bd t → Fm [] [203] s t → ((0 ≤ xv ∧ xv ≤ 23) ∧ 0 ≤ c ∧ c ≤ 12) → 12 - c ≤ n → (∀ (t' : PS) (xv' c' : Int), Bd t' → Fm [] [203] s t' → ((0 ≤ xv' ∧ xv' ≤ 23) ∧ 0 ≤ c' ∧ c' ≤ 12) → WS k 28 [(0, .ref (A 179)), (1, .int (Int32.ofInt xv')), (2, .int (Int32.ofInt c'))] [] (Wd A dT t') 0 0) → WS k 2 [(0, .ref (A 179)), (1, .int (Int32.ofInt xv)), (2, .int (Int32.ofInt c))] [] (Wd A dT t) 0 0 := by
    intro n
    induction n with
    | zero =>
      intro t xv c I F hi hm kx
      have b1001 : (0 : Int) ≤ iI t 90 ∧ iI t 90 ≤ 12 := I.1 90
      refine z_load_n X (x := c) (show cdA 224 2 = some (.iload_n 2, 1, 0, 0, 0) from rfl) (List.Mem.tail _ (List.Mem.tail _ (List.Mem.head _))) ?_
      refine z_aload_n X (x := A 179) (show cdA 224 3 = some (.aload_n 0, 1, 0, 0, 0) from rfl) (List.Mem.head _) ?_
      refine z_getI X 179 (show cdA 224 4 = some (.getfield 233, 3, 12, 22, 0) from rfl) (by decide) rfl rfl ?_
      have b1002 : (0 : Int) ≤ iI t 90 ∧ iI t 90 ≤ 12 := I.1 90
      refine z_icmp_ge X (t := 28) (show cdA 224 7 = some (.if_icmp .ge 21, 3, 3, 0, 0) from rfl) (by decide) ⟨by omega, by omega⟩ ⟨by omega, by omega⟩ (fun g1003 => ?_) (fun g1003 => ?_)
      ·
        refine WS_lv (lv := [(0, .ref (A 179)), (1, .int (Int32.ofInt xv)), (2, .int (Int32.ofInt c))]) (List.forall_mem_cons.mpr ⟨(List.Mem.head _), (List.forall_mem_cons.mpr ⟨(List.Mem.tail _ (List.Mem.head _)), (List.forall_mem_cons.mpr ⟨(List.Mem.tail _ (List.Mem.tail _ (List.Mem.head _))), (fun q h => absurd h List.not_mem_nil)⟩)⟩)⟩) ?_
        exact kx _ xv c I F (by omega)
      ·
        refine z_aload_n X (x := A 179) (show cdA 224 10 = some (.aload_n 0, 1, 0, 0, 0) from rfl) (List.Mem.head _) ?_
        refine s_getR X 179 (show cdA 224 11 = some (.getfield 61, 3, 12, 32, 0) from rfl) (by decide) rfl rfl ?_
        refine z_load_n X (x := c) (show cdA 224 14 = some (.iload_n 2, 1, 0, 0, 0) from rfl) (List.Mem.tail _ (List.Mem.tail _ (List.Mem.head _))) ?_
        refine z_aload_n X (x := A 179) (show cdA 224 15 = some (.aload_n 0, 1, 0, 0, 0) from rfl) (List.Mem.head _) ?_
        refine z_load_n X (x := c) (show cdA 224 16 = some (.iload_n 2, 1, 0, 0, 0) from rfl) (List.Mem.tail _ (List.Mem.tail _ (List.Mem.head _))) ?_
        refine z_load_n X (x := xv) (show cdA 224 17 = some (.iload_n 1, 1, 0, 0, 0) from rfl) (List.Mem.tail _ (List.Mem.head _)) ?_
        refine z_callV X 179 (rm := rmN 220) (As := [.int (Int32.ofInt c), .int (Int32.ofInt xv)]) (st := [.int (Int32.ofInt c), .ref (A 229)]) (show cdA 224 18 = some (.invokevirtual 303, 3, 220, 0, 0) from rfl) rfl (by decide) rfl (by rw [E.1, E.2.1, E.2.2.1]; exact k_mostOf G I (by omega) (by omega)) ⟨by rw [E.2.2.2]; exact (show (rmN 220).frames + 1 ≤ (rmN 224).frames by decide), by rw [E.2.2.2]; exact (show 8 + (mNL (miB 220) + 11) + (rmN 220).locals ≤ (rmN 224).locals by decide), by rw [E.2.2.2]; exact (show 0 + (rmN 220).cells ≤ (rmN 224).cells by decide), by rw [E.2.2.2]; exact (show 0 + (rmN 220).slots ≤ (rmN 224).slots by decide)⟩ (Nat.le_of_ble_eq_true rfl) (fun vv s1004 hq => ?_) (fun ee s1004 hq => ?_)
        rotate_left
        · obtain ⟨Is1004, Fs1004, e1005, hv, hrs1004, hps1004⟩ := hq; cases hv
        obtain ⟨Is1004, Fs1004, e1005, hv, hrs1004, hps1004⟩ := hq
        cases hv
        have Gs1004 := fm_ts F Fs1004 (by decide) (by decide)
        have ws1004_90 : iI s1004 90 = iI t 90 := fm_i Fs1004 (by decide)
        show WS k 21 [(0, .ref (A 179)), (1, .int (Int32.ofInt xv)), (2, .int (Int32.ofInt c))] [.int (Int32.ofInt e1005), .int (Int32.ofInt c), .ref (A 229)] (Wd A dT s1004) 0 0
        refine z_ast X 229 (show cdA 224 21 = some (.iastore, 1, 0, 0, 0) from rfl) (by decide) rfl (by omega) (show c < 12 by omega) (by decide) ?_
        obtain ⟨s1006, hs1006⟩ : ∃ x0, x0 = uC s1004 203 (c).toNat (Int32.ofInt e1005) := ⟨_, rfl⟩
        rw [← hs1006]
        have Is1006 : Bd s1006 := by rw [hs1006]; exact bd_C Is1004 (show (0 : Int) ≤ e1005 ∧ e1005 ≤ 50 by omega) ⟨by omega, by omega⟩
        have Fs1006 := fm_C (i := (c).toNat) (x := Int32.ofInt e1005) Gs1004 (show 203 ∈ _ by decide)
        rw [← hs1006] at Fs1006
        have ws1006_90 : iI s1006 90 = iI s1004 90 := by rw [hs1006]; rfl
        refine z_inc X (x := c) (lv' := [(2, .int (Int32.ofInt (c + 1))), (0, .ref (A 179)), (1, .int (Int32.ofInt xv))]) (show cdA 224 22 = some (.iinc 2 1, 3, 0, 0, 0) from rfl) (by decide) (List.Mem.tail _ (List.Mem.tail _ (List.Mem.head _))) (fun _ h => h) ?_
        refine z_goto X (t := 2) (show cdA 224 25 = some (.goto (-23), 3, 0, 0, 0) from rfl) (by decide) ?_
        exfalso
        omega
    | succ n ih =>
      intro t xv c I F hi hm kx
      have b1001 : (0 : Int) ≤ iI t 90 ∧ iI t 90 ≤ 12 := I.1 90
      refine z_load_n X (x := c) (show cdA 224 2 = some (.iload_n 2, 1, 0, 0, 0) from rfl) (List.Mem.tail _ (List.Mem.tail _ (List.Mem.head _))) ?_
      refine z_aload_n X (x := A 179) (show cdA 224 3 = some (.aload_n 0, 1, 0, 0, 0) from rfl) (List.Mem.head _) ?_
      refine z_getI X 179 (show cdA 224 4 = some (.getfield 233, 3, 12, 22, 0) from rfl) (by decide) rfl rfl ?_
      have b1002 : (0 : Int) ≤ iI t 90 ∧ iI t 90 ≤ 12 := I.1 90
      refine z_icmp_ge X (t := 28) (show cdA 224 7 = some (.if_icmp .ge 21, 3, 3, 0, 0) from rfl) (by decide) ⟨by omega, by omega⟩ ⟨by omega, by omega⟩ (fun g1003 => ?_) (fun g1003 => ?_)
      ·
        refine WS_lv (lv := [(0, .ref (A 179)), (1, .int (Int32.ofInt xv)), (2, .int (Int32.ofInt c))]) (List.forall_mem_cons.mpr ⟨(List.Mem.head _), (List.forall_mem_cons.mpr ⟨(List.Mem.tail _ (List.Mem.head _)), (List.forall_mem_cons.mpr ⟨(List.Mem.tail _ (List.Mem.tail _ (List.Mem.head _))), (fun q h => absurd h List.not_mem_nil)⟩)⟩)⟩) ?_
        exact kx _ xv c I F (by omega)
      ·
        refine z_aload_n X (x := A 179) (show cdA 224 10 = some (.aload_n 0, 1, 0, 0, 0) from rfl) (List.Mem.head _) ?_
        refine s_getR X 179 (show cdA 224 11 = some (.getfield 61, 3, 12, 32, 0) from rfl) (by decide) rfl rfl ?_
        refine z_load_n X (x := c) (show cdA 224 14 = some (.iload_n 2, 1, 0, 0, 0) from rfl) (List.Mem.tail _ (List.Mem.tail _ (List.Mem.head _))) ?_
        refine z_aload_n X (x := A 179) (show cdA 224 15 = some (.aload_n 0, 1, 0, 0, 0) from rfl) (List.Mem.head _) ?_
        refine z_load_n X (x := c) (show cdA 224 16 = some (.iload_n 2, 1, 0, 0, 0) from rfl) (List.Mem.tail _ (List.Mem.tail _ (List.Mem.head _))) ?_
        refine z_load_n X (x := xv) (show cdA 224 17 = some (.iload_n 1, 1, 0, 0, 0) from rfl) (List.Mem.tail _ (List.Mem.head _)) ?_
        refine z_callV X 179 (rm := rmN 220) (As := [.int (Int32.ofInt c), .int (Int32.ofInt xv)]) (st := [.int (Int32.ofInt c), .ref (A 229)]) (show cdA 224 18 = some (.invokevirtual 303, 3, 220, 0, 0) from rfl) rfl (by decide) rfl (by rw [E.1, E.2.1, E.2.2.1]; exact k_mostOf G I (by omega) (by omega)) ⟨by rw [E.2.2.2]; exact (show (rmN 220).frames + 1 ≤ (rmN 224).frames by decide), by rw [E.2.2.2]; exact (show 8 + (mNL (miB 220) + 11) + (rmN 220).locals ≤ (rmN 224).locals by decide), by rw [E.2.2.2]; exact (show 0 + (rmN 220).cells ≤ (rmN 224).cells by decide), by rw [E.2.2.2]; exact (show 0 + (rmN 220).slots ≤ (rmN 224).slots by decide)⟩ (Nat.le_of_ble_eq_true rfl) (fun vv s1004 hq => ?_) (fun ee s1004 hq => ?_)
        rotate_left
        · obtain ⟨Is1004, Fs1004, e1005, hv, hrs1004, hps1004⟩ := hq; cases hv
        obtain ⟨Is1004, Fs1004, e1005, hv, hrs1004, hps1004⟩ := hq
        cases hv
        have Gs1004 := fm_ts F Fs1004 (by decide) (by decide)
        have ws1004_90 : iI s1004 90 = iI t 90 := fm_i Fs1004 (by decide)
        show WS k 21 [(0, .ref (A 179)), (1, .int (Int32.ofInt xv)), (2, .int (Int32.ofInt c))] [.int (Int32.ofInt e1005), .int (Int32.ofInt c), .ref (A 229)] (Wd A dT s1004) 0 0
        refine z_ast X 229 (show cdA 224 21 = some (.iastore, 1, 0, 0, 0) from rfl) (by decide) rfl (by omega) (show c < 12 by omega) (by decide) ?_
        obtain ⟨s1006, hs1006⟩ : ∃ x0, x0 = uC s1004 203 (c).toNat (Int32.ofInt e1005) := ⟨_, rfl⟩
        rw [← hs1006]
        have Is1006 : Bd s1006 := by rw [hs1006]; exact bd_C Is1004 (show (0 : Int) ≤ e1005 ∧ e1005 ≤ 50 by omega) ⟨by omega, by omega⟩
        have Fs1006 := fm_C (i := (c).toNat) (x := Int32.ofInt e1005) Gs1004 (show 203 ∈ _ by decide)
        rw [← hs1006] at Fs1006
        have ws1006_90 : iI s1006 90 = iI s1004 90 := by rw [hs1006]; rfl
        refine z_inc X (x := c) (lv' := [(2, .int (Int32.ofInt (c + 1))), (0, .ref (A 179)), (1, .int (Int32.ofInt xv))]) (show cdA 224 22 = some (.iinc 2 1, 3, 0, 0, 0) from rfl) (by decide) (List.Mem.tail _ (List.Mem.tail _ (List.Mem.head _))) (fun _ h => h) ?_
        refine z_goto X (t := 2) (show cdA 224 25 = some (.goto (-23), 3, 0, 0, 0) from rfl) (by decide) ?_
        refine WS_lv (lv := [(0, .ref (A 179)), (1, .int (Int32.ofInt xv)), (2, .int (Int32.ofInt (c + 1)))]) (List.forall_mem_cons.mpr ⟨(List.Mem.tail _ (List.Mem.head _)), (List.forall_mem_cons.mpr ⟨(List.Mem.tail _ (List.Mem.tail _ (List.Mem.head _))), (List.forall_mem_cons.mpr ⟨(List.Mem.head _), (fun q h => absurd h List.not_mem_nil)⟩)⟩)⟩) ?_
        exact ih _ xv (c + 1) Is1006 Fs1006 (by omega) (by omega) kx
  refine z_const X (show cdA 224 0 = some (.iconst 0, 1, 0, 0, 0) from rfl) ?_
  refine z_store_n X (lv' := [(2, .int (Int32.ofInt 0)), (0, .ref (A 179)), (1, .int (Int32.ofInt x))]) (show cdA 224 1 = some (.istore_n 2, 1, 0, 0, 0) from rfl) (by decide) (fun _ h => h) ?_
  refine WS_lv (lv := [(0, .ref (A 179)), (1, .int (Int32.ofInt x)), (2, .int (Int32.ofInt 0))]) (List.forall_mem_cons.mpr ⟨(List.Mem.tail _ (List.Mem.head _)), (List.forall_mem_cons.mpr ⟨(List.Mem.tail _ (List.Mem.tail _ (List.Mem.head _))), (List.forall_mem_cons.mpr ⟨(List.Mem.head _), (fun q h => absurd h List.not_mem_nil)⟩)⟩)⟩) ?_
  refine L2 ((12 - 0 : Int)).toNat s x 0 I F (by omega) (by omega) ?_
  intro s2 x3 x4 Is2 Fs2 hs2
  have b5 : (0 : Int) ≤ iI s2 90 ∧ iI s2 90 ≤ 12 := Is2.1 90
  exact w_vret X.1 q hRt (ax_d X (show cdA 224 28 = some (.return_, 1, 0, 0, 0) from rfl)) (Nat.zero_le _) (Nat.zero_le _) ⟨_, rfl, Is2, Fs2, rfl, trivial⟩
end M33
