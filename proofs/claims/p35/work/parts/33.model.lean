/-! The model: feed and its like -/
section M33
variable {l : Launch} {s0 : State} {D : va_G} {tys : List (ClassId × FieldType)} {a0 : Array Value} {A : Nat → Nat} {dT : Nat → ClassId} {s : PS}
theorem k_feed (G : GX l s0 D tys a0 dT) (I : Bd s) {x1 x2 x3 x4 x5 : Int} (p0 : rng x1) (p1 : rng x2) (p2 : rng x3) (p3 : rng x4) (p4 : rng x5) : CT l s0 D A dT 191 (rmN 191) [.ref (A 179), .int (Int32.ofInt x1), .int (Int32.ofInt x2), .int (Int32.ofInt x3), .int (Int32.ofInt x4), .int (Int32.ofInt x5)] s (fun o t => Bd t ∧ Fm [73, 74] [157] s t ∧ ∃ e, o = .inl (some (.int (Int32.ofInt e))) ∧ rng e ∧ ((iI s 74 ≤ 180 ∧ iI t 74 = iI s 74 + 20 ∧ e = iI t 74) ∨ (180 < iI s 74 ∧ iI t 74 = iI s 74 ∧ e = -1))) := by
  refine ct_of G (by decide) (Nat.le_of_ble_eq_true rfl) (fun k X E hRt hXt q => ?_)
  show WS k 0 [(0, .ref (A 179)), (1, .int (Int32.ofInt x1)), (2, .int (Int32.ofInt x2)), (3, .int (Int32.ofInt x3)), (4, .int (Int32.ofInt x4)), (5, .int (Int32.ofInt x5))] [] _ 0 0
  have F : Fm [73, 74] [157] s s := fm_rf _ _ s
  have b1 : (0 : Int) ≤ iI s 74 ∧ iI s 74 ≤ 200 := I.1 74
  have L23 : ∀ (n : Nat) (t : PS) (x1v x2v x3v x4v x5v c : Int), Bd t → Fm [73, 74] [157] s t → ((rng x1v ∧ rng x2v ∧ rng x3v ∧ rng x4v ∧ rng x5v) ∧ 0 ≤ c ∧ c ≤ 20 ∧ iI t 74 = iI s 74 + c ∧ iI s 74 ≤ 180) → (20 - c : Int).toNat < n → (∀ (t' : PS) (x1v' x2v' x3v' x4v' x5v' c' : Int), Bd t' → Fm [73, 74] [157] s t' → (iI t' 74 = iI s 74 + 20 ∧ iI s 74 ≤ 180) → WS k 120 [(0, .ref (A 179)), (1, .int (Int32.ofInt x1v')), (2, .int (Int32.ofInt x2v')), (3, .int (Int32.ofInt x3v')), (4, .int (Int32.ofInt x4v')), (5, .int (Int32.ofInt x5v')), (6, .int (Int32.ofInt c'))] [] (Wd A dT t') 0 0) → WS k 23 [(0, .ref (A 179)), (1, .int (Int32.ofInt x1v)), (2, .int (Int32.ofInt x2v)), (3, .int (Int32.ofInt x3v)), (4, .int (Int32.ofInt x4v)), (5, .int (Int32.ofInt x5v)), (6, .int (Int32.ofInt c))] [] (Wd A dT t) 0 0 := by
    intro n
    induction n with
    | zero =>
      intro t x1v x2v x3v x4v x5v c I F hi hm kx
      exact absurd hm (Nat.not_lt_zero _)
    | succ n ih =>
      intro t x1v x2v x3v x4v x5v c I F hi hm kx
      have b1001 : (0 : Int) ≤ iI t 74 ∧ iI t 74 ≤ 200 := I.1 74
      refine z_load X (x := c) (show cdA 191 23 = some (.iload 6, 2, 0, 0, 0) from rfl) (List.Mem.tail _ (List.Mem.tail _ (List.Mem.tail _ (List.Mem.tail _ (List.Mem.tail _ (List.Mem.tail _ (List.Mem.head _))))))) ?_
      refine z_bipush X (show cdA 191 25 = some (.bipush 20, 2, 0, 0, 20) from rfl) ?_
      refine z_icmp_ge X (t := 120) (show cdA 191 27 = some (.if_icmp .ge 93, 3, 3, 0, 0) from rfl) (by decide) ⟨by first | exact oq_fa4e5087 hi.2.1 | omega, by first | exact oq_d1028203 hi.2.2.1 | omega⟩ (by decide) (fun g1002 => ?_) (fun g1002 => ?_)
      ·
        refine WS_lv (lv := [(0, .ref (A 179)), (1, .int (Int32.ofInt x1v)), (2, .int (Int32.ofInt x2v)), (3, .int (Int32.ofInt x3v)), (4, .int (Int32.ofInt x4v)), (5, .int (Int32.ofInt x5v)), (6, .int (Int32.ofInt c))]) (List.forall_mem_cons.mpr ⟨(List.Mem.head _), (List.forall_mem_cons.mpr ⟨(List.Mem.tail _ (List.Mem.head _)), (List.forall_mem_cons.mpr ⟨(List.Mem.tail _ (List.Mem.tail _ (List.Mem.head _))), (List.forall_mem_cons.mpr ⟨(List.Mem.tail _ (List.Mem.tail _ (List.Mem.tail _ (List.Mem.head _)))), (List.forall_mem_cons.mpr ⟨(List.Mem.tail _ (List.Mem.tail _ (List.Mem.tail _ (List.Mem.tail _ (List.Mem.head _))))), (List.forall_mem_cons.mpr ⟨(List.Mem.tail _ (List.Mem.tail _ (List.Mem.tail _ (List.Mem.tail _ (List.Mem.tail _ (List.Mem.head _)))))), (List.forall_mem_cons.mpr ⟨(List.Mem.tail _ (List.Mem.tail _ (List.Mem.tail _ (List.Mem.tail _ (List.Mem.tail _ (List.Mem.tail _ (List.Mem.head _))))))), (fun q h => absurd h List.not_mem_nil)⟩)⟩)⟩)⟩)⟩)⟩)⟩) ?_
        exact kx _ x1v x2v x3v x4v x5v c I F (by first | exact ⟨oq_17475ac8 hi.2.2.2.1 hi.2.2.1 g1002, hi.2.2.2.2⟩ | omega)
      ·
        refine z_load X (x := c) (show cdA 191 30 = some (.iload 6, 2, 0, 0, 0) from rfl) (List.Mem.tail _ (List.Mem.tail _ (List.Mem.tail _ (List.Mem.tail _ (List.Mem.tail _ (List.Mem.tail _ (List.Mem.head _))))))) ?_
        refine z_const X (show cdA 191 32 = some (.iconst 4, 1, 0, 0, 0) from rfl) ?_
        have N1003 : ∀ e1004 : Int, (((4 ≤ c) ∧ (8 ≤ c) ∧ (12 ≤ c) ∧ (16 ≤ c) ∧ e1004 = x5v) ∨ ((4 ≤ c) ∧ (8 ≤ c) ∧ (12 ≤ c) ∧ (c < 16) ∧ e1004 = x4v) ∨ ((4 ≤ c) ∧ (8 ≤ c) ∧ (c < 12) ∧ e1004 = x3v) ∨ ((4 ≤ c) ∧ (c < 8) ∧ e1004 = x2v) ∨ ((c < 4) ∧ e1004 = x1v)) → WS k 76 [(0, .ref (A 179)), (1, .int (Int32.ofInt x1v)), (2, .int (Int32.ofInt x2v)), (3, .int (Int32.ofInt x3v)), (4, .int (Int32.ofInt x4v)), (5, .int (Int32.ofInt x5v)), (6, .int (Int32.ofInt c))] [.int (Int32.ofInt e1004)] (Wd A dT t) 0 0 := by
          intro e1004 he1004
          refine z_store X (lv' := [(7, .int (Int32.ofInt e1004)), (0, .ref (A 179)), (1, .int (Int32.ofInt x1v)), (2, .int (Int32.ofInt x2v)), (3, .int (Int32.ofInt x3v)), (4, .int (Int32.ofInt x4v)), (5, .int (Int32.ofInt x5v)), (6, .int (Int32.ofInt c))]) (show cdA 191 76 = some (.istore 7, 2, 0, 0, 0) from rfl) (by decide) (fun _ h => h) ?_
          refine z_aload_n X (x := A 179) (show cdA 191 78 = some (.aload_n 0, 1, 0, 0, 0) from rfl) (List.Mem.tail _ (List.Mem.head _)) ?_
          refine s_getR X 179 (show cdA 191 79 = some (.getfield 13, 3, 12, 9, 0) from rfl) (by decide) rfl rfl ?_
          refine z_aload_n X (x := A 179) (show cdA 191 82 = some (.aload_n 0, 1, 0, 0, 0) from rfl) (List.Mem.tail _ (List.Mem.head _)) ?_
          refine z_getI X 179 (show cdA 191 83 = some (.getfield 175, 3, 12, 1, 0) from rfl) (by decide) rfl rfl ?_
          have b1005 : (0 : Int) ≤ iI t 74 ∧ iI t 74 ≤ 200 := I.1 74
          refine z_load X (x := e1004) (show cdA 191 86 = some (.iload 7, 2, 0, 0, 0) from rfl) (List.Mem.head _) ?_
          refine z_bipush X (show cdA 191 88 = some (.bipush 24, 2, 0, 0, 24) from rfl) ?_
          refine z_bipush X (show cdA 191 90 = some (.bipush 8, 2, 0, 0, 8) from rfl) ?_
          refine z_load X (x := c) (show cdA 191 92 = some (.iload 6, 2, 0, 0, 0) from rfl) (List.Mem.tail _ (List.Mem.tail _ (List.Mem.tail _ (List.Mem.tail _ (List.Mem.tail _ (List.Mem.tail _ (List.Mem.tail _ (List.Mem.head _)))))))) ?_
          refine z_const X (show cdA 191 94 = some (.iconst 4, 1, 0, 0, 0) from rfl) ?_
          refine z_mod X (show cdA 191 95 = some (.irem, 1, 0, 0, 0) from rfl) (by first | exact hi.2.1 | omega) ⟨by first | exact oq_fa4e5087 hi.2.1 | omega, by first | exact oq_c3313697 g1002 | omega⟩ (by decide) (by decide) ?_
          refine z_mul X (show cdA 191 96 = some (.imul, 1, 0, 0, 0) from rfl) ?_
          refine z_sub X (show cdA 191 97 = some (.isub, 1, 0, 0, 0) from rfl) ?_
          refine z_bshr X (show cdA 191 98 = some (.ishr, 1, 0, 0, 0) from rfl) ?_
          refine z_any (fun y1006 hy1006 => ?_)
          refine z_sipush X (show cdA 191 99 = some (.sipush 255, 3, 0, 0, 255) from rfl) ?_
          refine z_andm X (show cdA 191 102 = some (.iand, 1, 0, 0, 0) from rfl) (by decide) (by decide) (fun y1007 hy1007 gy1007 => ?_)
          refine z_ast X 180 (show cdA 191 103 = some (.iastore, 1, 0, 0, 0) from rfl) (by decide) rfl (by first | exact b1005.1 | omega) (show (iI t 74) < 200 by first | exact oq_ae322fb4 hi.2.2.2.1 hi.2.2.2.2 g1002 | omega) (by decide) ?_
          obtain ⟨s1008, hs1008⟩ : ∃ x0, x0 = uC t 157 ((iI t 74)).toNat (Int32.ofInt y1007) := ⟨_, rfl⟩
          rw [← hs1008]
          have Is1008 : Bd s1008 := by rw [hs1008]; exact bd_C I (show (0 : Int) ≤ y1007 ∧ y1007 ≤ 255 by first | exact ⟨hy1007, gy1007⟩ | omega) ⟨by first | exact oq_fa4e5087 hy1007 | omega, by first | exact oq_4567a937 gy1007 | omega⟩
          have Fs1008 := fm_C (i := ((iI t 74)).toNat) (x := Int32.ofInt y1007) F (show 157 ∈ _ by decide)
          rw [← hs1008] at Fs1008
          have ws1008_74 : iI s1008 74 = iI t 74 := by rw [hs1008]; rfl
          refine z_aload_n X (x := A 179) (show cdA 191 104 = some (.aload_n 0, 1, 0, 0, 0) from rfl) (List.Mem.tail _ (List.Mem.head _)) ?_
          refine w_dup X.1 (ax_d X (show cdA 191 105 = some (.dup, 1, 0, 0, 0) from rfl)) rfl ?_
          refine z_getI X 179 (show cdA 191 106 = some (.getfield 175, 3, 12, 1, 0) from rfl) (by decide) rfl rfl ?_
          have b1009 : (0 : Int) ≤ iI s1008 74 ∧ iI s1008 74 ≤ 200 := Is1008.1 74
          refine z_const X (show cdA 191 109 = some (.iconst 1, 1, 0, 0, 0) from rfl) ?_
          refine z_add X (show cdA 191 110 = some (.iadd, 1, 0, 0, 0) from rfl) ?_
          refine s_putI X 179 (show cdA 191 111 = some (.putfield 175, 3, 12, 1, 0) from rfl) (by decide) rfl rfl (by decide) rfl rfl rfl ?_
          obtain ⟨s1010, hs1010⟩ : ∃ x0, x0 = uI s1008 74 (Int32.ofInt ((iI s1008 74) + 1)) := ⟨_, rfl⟩
          rw [← hs1010]
          have Is1010 : Bd s1010 := by rw [hs1010]; exact bd_I Is1008 (show (0 : Int) ≤ ((iI s1008 74) + 1) ∧ ((iI s1008 74) + 1) ≤ 200 by first | exact ⟨oq_54f49eb5 b1009.1, oq_e59c0308 ws1008_74 hi.2.2.2.1 hi.2.2.2.2 g1002⟩ | omega) ⟨by first | exact oq_74de1e16 b1009.1 | omega, by first | exact oq_bb8d498d b1009.2 | omega⟩
          have Fs1010 := fm_I (x := Int32.ofInt ((iI s1008 74) + 1)) Fs1008 (show 74 ∈ _ by decide)
          rw [← hs1010] at Fs1010
          have vs1010 : iI s1010 74 = ((iI s1008 74) + 1) := by rw [hs1010]; exact iI_u ⟨by first | exact oq_74de1e16 b1009.1 | omega, by first | exact oq_bb8d498d b1009.2 | omega⟩
          refine z_inc X (x := c) (lv' := [(6, .int (Int32.ofInt (c + 1))), (7, .int (Int32.ofInt e1004)), (0, .ref (A 179)), (1, .int (Int32.ofInt x1v)), (2, .int (Int32.ofInt x2v)), (3, .int (Int32.ofInt x3v)), (4, .int (Int32.ofInt x4v)), (5, .int (Int32.ofInt x5v))]) (show cdA 191 114 = some (.iinc 6 1, 3, 0, 0, 0) from rfl) (by decide) (List.Mem.tail _ (List.Mem.tail _ (List.Mem.tail _ (List.Mem.tail _ (List.Mem.tail _ (List.Mem.tail _ (List.Mem.tail _ (List.Mem.head _)))))))) (fun _ h => h) ?_
          refine z_goto X (t := 23) (show cdA 191 117 = some (.goto (-94), 3, 0, 0, 0) from rfl) (by decide) ?_
          refine WS_lv (lv := [(0, .ref (A 179)), (1, .int (Int32.ofInt x1v)), (2, .int (Int32.ofInt x2v)), (3, .int (Int32.ofInt x3v)), (4, .int (Int32.ofInt x4v)), (5, .int (Int32.ofInt x5v)), (6, .int (Int32.ofInt (c + 1)))]) (List.forall_mem_cons.mpr ⟨(List.Mem.tail _ (List.Mem.tail _ (List.Mem.head _))), (List.forall_mem_cons.mpr ⟨(List.Mem.tail _ (List.Mem.tail _ (List.Mem.tail _ (List.Mem.head _)))), (List.forall_mem_cons.mpr ⟨(List.Mem.tail _ (List.Mem.tail _ (List.Mem.tail _ (List.Mem.tail _ (List.Mem.head _))))), (List.forall_mem_cons.mpr ⟨(List.Mem.tail _ (List.Mem.tail _ (List.Mem.tail _ (List.Mem.tail _ (List.Mem.tail _ (List.Mem.head _)))))), (List.forall_mem_cons.mpr ⟨(List.Mem.tail _ (List.Mem.tail _ (List.Mem.tail _ (List.Mem.tail _ (List.Mem.tail _ (List.Mem.tail _ (List.Mem.head _))))))), (List.forall_mem_cons.mpr ⟨(List.Mem.tail _ (List.Mem.tail _ (List.Mem.tail _ (List.Mem.tail _ (List.Mem.tail _ (List.Mem.tail _ (List.Mem.tail _ (List.Mem.head _)))))))), (List.forall_mem_cons.mpr ⟨(List.Mem.head _), (fun q h => absurd h List.not_mem_nil)⟩)⟩)⟩)⟩)⟩)⟩)⟩) ?_
          exact ih _ x1v x2v x3v x4v x5v (c + 1) Is1010 Fs1010 (by first | exact ⟨And.intro (And.intro (hi.1.1.1) (hi.1.1.2)) (And.intro (And.intro (hi.1.2.1.1) (hi.1.2.1.2)) (And.intro (And.intro (hi.1.2.2.1.1) (hi.1.2.2.1.2)) (And.intro (And.intro (hi.1.2.2.2.1.1) (hi.1.2.2.2.1.2)) (And.intro (hi.1.2.2.2.2.1) (hi.1.2.2.2.2.2))))), oq_54f49eb5 hi.2.1, oq_34835694 g1002, oq_cb7deedc vs1010 hi.2.2.2.1 ws1008_74, hi.2.2.2.2⟩ | omega) (by first | exact qk_me hm (by decide) (oq_53ce64b9 g1002) | omega) kx
        refine z_icmp_ge X (t := 40) (show cdA 191 33 = some (.if_icmp .ge 7, 3, 3, 0, 0) from rfl) (by decide) ⟨by first | exact oq_fa4e5087 hi.2.1 | omega, by first | exact oq_c3313697 g1002 | omega⟩ (by decide) (fun g1011 => ?_) (fun g1011 => ?_)
        ·
          refine z_load X (x := c) (show cdA 191 40 = some (.iload 6, 2, 0, 0, 0) from rfl) (List.Mem.tail _ (List.Mem.tail _ (List.Mem.tail _ (List.Mem.tail _ (List.Mem.tail _ (List.Mem.tail _ (List.Mem.head _))))))) ?_
          refine z_bipush X (show cdA 191 42 = some (.bipush 8, 2, 0, 0, 8) from rfl) ?_
          refine z_icmp_ge X (t := 51) (show cdA 191 44 = some (.if_icmp .ge 7, 3, 3, 0, 0) from rfl) (by decide) ⟨by first | exact oq_866185f5 g1011 | omega, by first | exact oq_c3313697 g1002 | omega⟩ (by decide) (fun g1012 => ?_) (fun g1012 => ?_)
          ·
            refine z_load X (x := c) (show cdA 191 51 = some (.iload 6, 2, 0, 0, 0) from rfl) (List.Mem.tail _ (List.Mem.tail _ (List.Mem.tail _ (List.Mem.tail _ (List.Mem.tail _ (List.Mem.tail _ (List.Mem.head _))))))) ?_
            refine z_bipush X (show cdA 191 53 = some (.bipush 12, 2, 0, 0, 12) from rfl) ?_
            refine z_icmp_ge X (t := 62) (show cdA 191 55 = some (.if_icmp .ge 7, 3, 3, 0, 0) from rfl) (by decide) ⟨by first | exact oq_ebc40354 g1012 | omega, by first | exact oq_c3313697 g1002 | omega⟩ (by decide) (fun g1013 => ?_) (fun g1013 => ?_)
            ·
              refine z_load X (x := c) (show cdA 191 62 = some (.iload 6, 2, 0, 0, 0) from rfl) (List.Mem.tail _ (List.Mem.tail _ (List.Mem.tail _ (List.Mem.tail _ (List.Mem.tail _ (List.Mem.tail _ (List.Mem.head _))))))) ?_
              refine z_bipush X (show cdA 191 64 = some (.bipush 16, 2, 0, 0, 16) from rfl) ?_
              refine z_icmp_ge X (t := 74) (show cdA 191 66 = some (.if_icmp .ge 8, 3, 3, 0, 0) from rfl) (by decide) ⟨by first | exact oq_f1d511b8 g1013 | omega, by first | exact oq_c3313697 g1002 | omega⟩ (by decide) (fun g1014 => ?_) (fun g1014 => ?_)
              ·
                refine z_load X (x := x5v) (show cdA 191 74 = some (.iload 5, 2, 0, 0, 0) from rfl) (List.Mem.tail _ (List.Mem.tail _ (List.Mem.tail _ (List.Mem.tail _ (List.Mem.tail _ (List.Mem.head _)))))) ?_
                exact N1003 _ (Or.inl ⟨g1011, g1012, g1013, g1014, rfl⟩)
              ·
                refine z_load X (x := x4v) (show cdA 191 69 = some (.iload 4, 2, 0, 0, 0) from rfl) (List.Mem.tail _ (List.Mem.tail _ (List.Mem.tail _ (List.Mem.tail _ (List.Mem.head _))))) ?_
                refine z_goto X (t := 76) (show cdA 191 71 = some (.goto 5, 3, 0, 0, 0) from rfl) (by decide) ?_
                exact N1003 _ (Or.inr (Or.inl ⟨g1011, g1012, g1013, g1014, rfl⟩))
            ·
              refine z_load_n X (x := x3v) (show cdA 191 58 = some (.iload_n 3, 1, 0, 0, 0) from rfl) (List.Mem.tail _ (List.Mem.tail _ (List.Mem.tail _ (List.Mem.head _)))) ?_
              refine z_goto X (t := 76) (show cdA 191 59 = some (.goto 17, 3, 0, 0, 0) from rfl) (by decide) ?_
              exact N1003 _ (Or.inr (Or.inr (Or.inl ⟨g1011, g1012, g1013, rfl⟩)))
          ·
            refine z_load_n X (x := x2v) (show cdA 191 47 = some (.iload_n 2, 1, 0, 0, 0) from rfl) (List.Mem.tail _ (List.Mem.tail _ (List.Mem.head _))) ?_
            refine z_goto X (t := 76) (show cdA 191 48 = some (.goto 28, 3, 0, 0, 0) from rfl) (by decide) ?_
            exact N1003 _ (Or.inr (Or.inr (Or.inr (Or.inl ⟨g1011, g1012, rfl⟩))))
        ·
          refine z_load_n X (x := x1v) (show cdA 191 36 = some (.iload_n 1, 1, 0, 0, 0) from rfl) (List.Mem.tail _ (List.Mem.head _)) ?_
          refine z_goto X (t := 76) (show cdA 191 37 = some (.goto 39, 3, 0, 0, 0) from rfl) (by decide) ?_
          exact N1003 _ (Or.inr (Or.inr (Or.inr (Or.inr (⟨g1011, rfl⟩)))))
  refine z_aload_n X (x := A 179) (show cdA 191 0 = some (.aload_n 0, 1, 0, 0, 0) from rfl) (List.Mem.head _) ?_
  refine z_const X (show cdA 191 1 = some (.iconst 0, 1, 0, 0, 0) from rfl) ?_
  refine s_putI X 179 (show cdA 191 2 = some (.putfield 172, 3, 12, 0, 0) from rfl) (by decide) rfl rfl (by decide) rfl rfl rfl ?_
  obtain ⟨s2, hs2⟩ : ∃ x0, x0 = uI s 73 (Int32.ofInt 0) := ⟨_, rfl⟩
  rw [← hs2]
  have Is2 : Bd s2 := by rw [hs2]; exact bd_I I (show (0 : Int) ≤ 0 ∧ 0 ≤ 3 by first | exact ⟨by decide, by decide⟩ | omega) (by decide)
  have Fs2 := fm_I (x := Int32.ofInt 0) F (show 73 ∈ _ by decide)
  rw [← hs2] at Fs2
  have vs2 : iI s2 73 = 0 := by rw [hs2]; exact iI_u (by decide)
  have ws2_74 : iI s2 74 = iI s 74 := by rw [hs2]; rfl
  refine z_aload_n X (x := A 179) (show cdA 191 5 = some (.aload_n 0, 1, 0, 0, 0) from rfl) (List.Mem.head _) ?_
  refine z_getI X 179 (show cdA 191 6 = some (.getfield 175, 3, 12, 1, 0) from rfl) (by decide) rfl rfl ?_
  have b3 : (0 : Int) ≤ iI s2 74 ∧ iI s2 74 ≤ 200 := Is2.1 74
  refine z_bipush X (show cdA 191 9 = some (.bipush 20, 2, 0, 0, 20) from rfl) ?_
  refine z_add X (show cdA 191 11 = some (.iadd, 1, 0, 0, 0) from rfl) ?_
  refine z_sipush X (show cdA 191 12 = some (.sipush 200, 3, 0, 0, 200) from rfl) ?_
  refine z_icmp_le X (t := 20) (show cdA 191 15 = some (.if_icmp .le 5, 3, 5, 0, 0) from rfl) (by decide) ⟨by first | exact oq_0de1c162 b3.1 | omega, by first | exact oq_ed776728 b3.2 | omega⟩ (by decide) (fun g4 => ?_) (fun g4 => ?_)
  ·
    refine z_const X (show cdA 191 20 = some (.iconst 0, 1, 0, 0, 0) from rfl) ?_
    refine z_store X (lv' := [(6, .int (Int32.ofInt 0)), (0, .ref (A 179)), (1, .int (Int32.ofInt x1)), (2, .int (Int32.ofInt x2)), (3, .int (Int32.ofInt x3)), (4, .int (Int32.ofInt x4)), (5, .int (Int32.ofInt x5))]) (show cdA 191 21 = some (.istore 6, 2, 0, 0, 0) from rfl) (by decide) (fun _ h => h) ?_
    refine WS_lv (lv := [(0, .ref (A 179)), (1, .int (Int32.ofInt x1)), (2, .int (Int32.ofInt x2)), (3, .int (Int32.ofInt x3)), (4, .int (Int32.ofInt x4)), (5, .int (Int32.ofInt x5)), (6, .int (Int32.ofInt 0))]) (List.forall_mem_cons.mpr ⟨(List.Mem.tail _ (List.Mem.head _)), (List.forall_mem_cons.mpr ⟨(List.Mem.tail _ (List.Mem.tail _ (List.Mem.head _))), (List.forall_mem_cons.mpr ⟨(List.Mem.tail _ (List.Mem.tail _ (List.Mem.tail _ (List.Mem.head _)))), (List.forall_mem_cons.mpr ⟨(List.Mem.tail _ (List.Mem.tail _ (List.Mem.tail _ (List.Mem.tail _ (List.Mem.head _))))), (List.forall_mem_cons.mpr ⟨(List.Mem.tail _ (List.Mem.tail _ (List.Mem.tail _ (List.Mem.tail _ (List.Mem.tail _ (List.Mem.head _)))))), (List.forall_mem_cons.mpr ⟨(List.Mem.tail _ (List.Mem.tail _ (List.Mem.tail _ (List.Mem.tail _ (List.Mem.tail _ (List.Mem.tail _ (List.Mem.head _))))))), (List.forall_mem_cons.mpr ⟨(List.Mem.head _), (fun q h => absurd h List.not_mem_nil)⟩)⟩)⟩)⟩)⟩)⟩)⟩) ?_
    refine L23 ((20 - 0 : Int).toNat + 1) s2 x1 x2 x3 x4 x5 0 Is2 Fs2 (by first | exact ⟨And.intro (And.intro (p0.1) (p0.2)) (And.intro (And.intro (p1.1) (p1.2)) (And.intro (And.intro (p2.1) (p2.2)) (And.intro (And.intro (p3.1) (p3.2)) (And.intro (p4.1) (p4.2))))), by decide, by decide, oq_ec17a77e ws2_74, oq_2ec15ebf ws2_74 g4⟩ | omega) (Nat.lt_succ_self _) ?_
    intro s5 x6 x7 x8 x9 x10 x11 Is5 Fs5 hs5
    have b12 : (0 : Int) ≤ iI s5 74 ∧ iI s5 74 ≤ 200 := Is5.1 74
    refine z_aload_n X (x := A 179) (show cdA 191 120 = some (.aload_n 0, 1, 0, 0, 0) from rfl) (List.Mem.head _) ?_
    refine z_getI X 179 (show cdA 191 121 = some (.getfield 175, 3, 12, 1, 0) from rfl) (by decide) rfl rfl ?_
    have b13 : (0 : Int) ≤ iI s5 74 ∧ iI s5 74 ≤ 200 := Is5.1 74
    exact w_iret X.1 q hRt rfl (ax_d X (show cdA 191 124 = some (.ireturn, 1, 0, 0, 0) from rfl)) (Nat.zero_le _) (Nat.zero_le _) ⟨_, rfl, Is5, Fs5, (iI s5 74), rfl, (rng_to _), by first | exact Or.inl (And.intro (hs5.2) (And.intro (hs5.1) (by decide))) | omega⟩
  ·
    refine z_const X (show cdA 191 18 = some (.iconst (-1), 1, 0, 0, 0) from rfl) ?_
    exact w_iret X.1 q hRt rfl (ax_d X (show cdA 191 19 = some (.ireturn, 1, 0, 0, 0) from rfl)) (Nat.zero_le _) (Nat.zero_le _) ⟨_, rfl, Is2, Fs2, (-1), rfl, (by decide), by first | exact Or.inr (And.intro (oq_dae52d74 ws2_74 g4) (And.intro (ws2_74) (by decide))) | omega⟩
theorem k_span (G : GX l s0 D tys a0 dT) (I : Bd s) {x y z : Int} (p0 : rng x) (p1 : rng y) (p2 : rng z) : CT l s0 D A dT 219 (rmN 219) [.ref (A 179), .int (Int32.ofInt x), .int (Int32.ofInt y), .int (Int32.ofInt z)] s (fun o t => Bd t ∧ Fm [73] [163, 164] s t ∧ o = .inl none ∧ (True)) := by
  refine ct_of G (by decide) (Nat.le_of_ble_eq_true rfl) (fun k X E hRt hXt q => ?_)
  show WS k 0 [(0, .ref (A 179)), (1, .int (Int32.ofInt x)), (2, .int (Int32.ofInt y)), (3, .int (Int32.ofInt z))] [] _ 0 0
  have F : Fm [73] [163, 164] s s := fm_rf _ _ s
  have b1 : (0 : Int) ≤ iI s 73 ∧ iI s 73 ≤ 3 := I.1 73
  have b2 : (0 : Int) ≤ iI s 90 ∧ iI s 90 ≤ 12 := I.1 90
  refine z_aload_n X (x := A 179) (show cdA 219 0 = some (.aload_n 0, 1, 0, 0, 0) from rfl) (List.Mem.head _) ?_
  refine z_const X (show cdA 219 1 = some (.iconst 0, 1, 0, 0, 0) from rfl) ?_
  refine s_putI X 179 (show cdA 219 2 = some (.putfield 172, 3, 12, 0, 0) from rfl) (by decide) rfl rfl (by decide) rfl rfl rfl ?_
  obtain ⟨s3, hs3⟩ : ∃ x0, x0 = uI s 73 (Int32.ofInt 0) := ⟨_, rfl⟩
  rw [← hs3]
  have Is3 : Bd s3 := by rw [hs3]; exact bd_I I (show (0 : Int) ≤ 0 ∧ 0 ≤ 3 by first | exact ⟨by decide, by decide⟩ | omega) (by decide)
  have Fs3 := fm_I (x := Int32.ofInt 0) F (show 73 ∈ _ by decide)
  rw [← hs3] at Fs3
  have vs3 : iI s3 73 = 0 := by rw [hs3]; exact iI_u (by decide)
  have ws3_90 : iI s3 90 = iI s 90 := by rw [hs3]; rfl
  refine z_aload_n X (x := A 179) (show cdA 219 5 = some (.aload_n 0, 1, 0, 0, 0) from rfl) (List.Mem.head _) ?_
  refine z_load_n X (x := x) (show cdA 219 6 = some (.iload_n 1, 1, 0, 0, 0) from rfl) (List.Mem.tail _ (List.Mem.head _)) ?_
  refine z_const X (show cdA 219 7 = some (.iconst 0, 1, 0, 0, 0) from rfl) ?_
  refine z_aload_n X (x := A 179) (show cdA 219 8 = some (.aload_n 0, 1, 0, 0, 0) from rfl) (List.Mem.head _) ?_
  refine z_getI X 179 (show cdA 219 9 = some (.getfield 233, 3, 12, 22, 0) from rfl) (by decide) rfl rfl ?_
  have b4 : (0 : Int) ≤ iI s3 90 ∧ iI s3 90 ≤ 12 := Is3.1 90
  refine z_const X (show cdA 219 12 = some (.iconst 1, 1, 0, 0, 0) from rfl) ?_
  refine z_sub X (show cdA 219 13 = some (.isub, 1, 0, 0, 0) from rfl) ?_
  refine z_callS X (rm := rmN 188) (As := [.int (Int32.ofInt x), .int (Int32.ofInt 0), .int (Int32.ofInt ((iI s3 90) - 1))]) (st := [.ref (A 179)]) (show cdA 219 14 = some (.invokestatic 209, 3, 188, 1, 0) from rfl) rfl (by rw [E.1, E.2.1, E.2.2.1]; exact k_in G Is3 (by first | exact ⟨p0.1, p0.2⟩ | omega) (by first | exact ⟨by decide, by decide⟩ | omega) (by first | exact ⟨oq_c1e961c7 b4.1, oq_d526ebd3 b4.2⟩ | omega)) ⟨by rw [E.2.2.2]; exact (show (rmN 188).frames + 1 ≤ (rmN 219).frames by decide), by rw [E.2.2.2]; exact (show 8 + (mNL (miB 188) + 11) + (rmN 188).locals ≤ (rmN 219).locals by decide), by rw [E.2.2.2]; exact (show 0 + (rmN 188).cells ≤ (rmN 219).cells by decide), by rw [E.2.2.2]; exact (show 0 + (rmN 188).slots ≤ (rmN 219).slots by decide)⟩ (Nat.le_of_ble_eq_true rfl) (fun vv s5 hq => ?_) (fun ee s5 hq => ?_)
  rotate_left
  · obtain ⟨Is5, Fs5, e6, hv, hrs5, hps5⟩ := hq; cases hv
  obtain ⟨Is5, Fs5, e6, hv, hrs5, hps5⟩ := hq
  cases hv
  have Gs5 := fm_ts Fs3 Fs5 (by decide) (by decide)
  have ws5_73 : iI s5 73 = iI s3 73 := fm_i Fs5 (by decide)
  have ws5_90 : iI s5 90 = iI s3 90 := fm_i Fs5 (by decide)
  show WS k 17 [(0, .ref (A 179)), (1, .int (Int32.ofInt x)), (2, .int (Int32.ofInt y)), (3, .int (Int32.ofInt z))] [.int (Int32.ofInt e6), .ref (A 179)] (Wd A dT s5) 0 0
  have N7 : ∀ e8 : Int, (((e6 ≠ 0) ∧ e8 = 0) ∨ ((e6 = 0) ∧ e8 = 1)) → WS k 25 [(0, .ref (A 179)), (1, .int (Int32.ofInt x)), (2, .int (Int32.ofInt y)), (3, .int (Int32.ofInt z))] [.int (Int32.ofInt e8), .ref (A 179)] (Wd A dT s5) 0 0 := by
    intro e8 he8
    have re8 : 0 ≤ e8 ∧ e8 ≤ 1 := by omega
    refine z_const X (show cdA 219 25 = some (.iconst 1, 1, 0, 0, 0) from rfl) ?_
    refine z_callV X 179 (rm := rmN 187) (As := [.int (Int32.ofInt e8), .int (Int32.ofInt 1)]) (st := []) (show cdA 219 26 = some (.invokevirtual 229, 3, 187, 0, 0) from rfl) rfl (by decide) rfl (by rw [E.1, E.2.1, E.2.2.1]; exact k_bad G Is5 (by first | exact oq_31e518ae re8.2 re8.1 | omega) (by first | exact ⟨by decide, by decide⟩ | omega)) ⟨by rw [E.2.2.2]; exact (show (rmN 187).frames + 1 ≤ (rmN 219).frames by decide), by rw [E.2.2.2]; exact (show 8 + (mNL (miB 187) + 11) + (rmN 187).locals ≤ (rmN 219).locals by decide), by rw [E.2.2.2]; exact (show 0 + (rmN 187).cells ≤ (rmN 219).cells by decide), by rw [E.2.2.2]; exact (show 0 + (rmN 187).slots ≤ (rmN 219).slots by decide)⟩ (Nat.le_of_ble_eq_true rfl) (fun vv s9 hq => ?_) (fun ee s9 hq => ?_)
    rotate_left
    · obtain ⟨Is9, Fs9, e10, hv, hrs9, hps9⟩ := hq; cases hv
    obtain ⟨Is9, Fs9, e10, hv, hrs9, hps9⟩ := hq
    cases hv
    have Gs9 := fm_ts Gs5 Fs9 (by decide) (by decide)
    have b11 : (0 : Int) ≤ iI s9 73 ∧ iI s9 73 ≤ 3 := Is9.1 73
    have ws9_90 : iI s9 90 = iI s5 90 := fm_i Fs9 (by decide)
    show WS k 29 [(0, .ref (A 179)), (1, .int (Int32.ofInt x)), (2, .int (Int32.ofInt y)), (3, .int (Int32.ofInt z))] [.int (Int32.ofInt e10)] (Wd A dT s9) 0 0
    refine z_if_ne X (t := 63) (show cdA 219 29 = some (.ifCond .ne 34, 3, 1, 0, 0) from rfl) (by decide) hrs9 (fun g12 => ?_) (fun g12 => ?_)
    ·
      exact w_vret X.1 q hRt (ax_d X (show cdA 219 63 = some (.return_, 1, 0, 0, 0) from rfl)) (Nat.zero_le _) (Nat.zero_le _) ⟨_, rfl, Is9, Gs9, rfl, trivial⟩
    ·
      refine z_aload_n X (x := A 179) (show cdA 219 32 = some (.aload_n 0, 1, 0, 0, 0) from rfl) (List.Mem.head _) ?_
      refine z_load_n X (x := y) (show cdA 219 33 = some (.iload_n 2, 1, 0, 0, 0) from rfl) (List.Mem.tail _ (List.Mem.tail _ (List.Mem.head _))) ?_
      refine z_const X (show cdA 219 34 = some (.iconst 0, 1, 0, 0, 0) from rfl) ?_
      refine z_const X (show cdA 219 35 = some (.iconst 2, 1, 0, 0, 0) from rfl) ?_
      refine z_callS X (rm := rmN 188) (As := [.int (Int32.ofInt y), .int (Int32.ofInt 0), .int (Int32.ofInt 2)]) (st := [.ref (A 179)]) (show cdA 219 36 = some (.invokestatic 209, 3, 188, 1, 0) from rfl) rfl (by rw [E.1, E.2.1, E.2.2.1]; exact k_in G Is9 (by first | exact ⟨p1.1, p1.2⟩ | omega) (by first | exact ⟨by decide, by decide⟩ | omega) (by first | exact ⟨by decide, by decide⟩ | omega)) ⟨by rw [E.2.2.2]; exact (show (rmN 188).frames + 1 ≤ (rmN 219).frames by decide), by rw [E.2.2.2]; exact (show 8 + (mNL (miB 188) + 11) + (rmN 188).locals ≤ (rmN 219).locals by decide), by rw [E.2.2.2]; exact (show 0 + (rmN 188).cells ≤ (rmN 219).cells by decide), by rw [E.2.2.2]; exact (show 0 + (rmN 188).slots ≤ (rmN 219).slots by decide)⟩ (Nat.le_of_ble_eq_true rfl) (fun vv s13 hq => ?_) (fun ee s13 hq => ?_)
      rotate_left
      · obtain ⟨Is13, Fs13, e14, hv, hrs13, hps13⟩ := hq; cases hv
      obtain ⟨Is13, Fs13, e14, hv, hrs13, hps13⟩ := hq
      cases hv
      have Gs13 := fm_ts Gs9 Fs13 (by decide) (by decide)
      have ws13_73 : iI s13 73 = iI s9 73 := fm_i Fs13 (by decide)
      have ws13_90 : iI s13 90 = iI s9 90 := fm_i Fs13 (by decide)
      show WS k 39 [(0, .ref (A 179)), (1, .int (Int32.ofInt x)), (2, .int (Int32.ofInt y)), (3, .int (Int32.ofInt z))] [.int (Int32.ofInt e14), .ref (A 179)] (Wd A dT s13) 0 0
      refine z_if_eq X (t := 51) (show cdA 219 39 = some (.ifCond .eq 12, 3, 0, 0, 0) from rfl) (by decide) hrs13 (fun g15 => ?_) (fun g15 => ?_)
      ·
        refine z_const X (show cdA 219 51 = some (.iconst 1, 1, 0, 0, 0) from rfl) ?_
        refine z_goto X (t := 56) (show cdA 219 52 = some (.goto 4, 3, 0, 0, 0) from rfl) (by decide) ?_
        refine z_const X (show cdA 219 56 = some (.iconst 2, 1, 0, 0, 0) from rfl) ?_
        refine z_callV X 179 (rm := rmN 187) (As := [.int (Int32.ofInt 1), .int (Int32.ofInt 2)]) (st := []) (show cdA 219 57 = some (.invokevirtual 229, 3, 187, 0, 0) from rfl) rfl (by decide) rfl (by rw [E.1, E.2.1, E.2.2.1]; exact k_bad G Is13 (by first | exact Or.inr (by decide) | omega) (by first | exact ⟨by decide, by decide⟩ | omega)) ⟨by rw [E.2.2.2]; exact (show (rmN 187).frames + 1 ≤ (rmN 219).frames by decide), by rw [E.2.2.2]; exact (show 8 + (mNL (miB 187) + 11) + (rmN 187).locals ≤ (rmN 219).locals by decide), by rw [E.2.2.2]; exact (show 0 + (rmN 187).cells ≤ (rmN 219).cells by decide), by rw [E.2.2.2]; exact (show 0 + (rmN 187).slots ≤ (rmN 219).slots by decide)⟩ (Nat.le_of_ble_eq_true rfl) (fun vv s16 hq => ?_) (fun ee s16 hq => ?_)
        rotate_left
        · obtain ⟨Is16, Fs16, e17, hv, hrs16, hps16⟩ := hq; cases hv
        obtain ⟨Is16, Fs16, e17, hv, hrs16, hps16⟩ := hq
        cases hv
        have Gs16 := fm_ts Gs13 Fs16 (by decide) (by decide)
        have b18 : (0 : Int) ≤ iI s16 73 ∧ iI s16 73 ≤ 3 := Is16.1 73
        have ws16_90 : iI s16 90 = iI s13 90 := fm_i Fs16 (by decide)
        show WS k 60 [(0, .ref (A 179)), (1, .int (Int32.ofInt x)), (2, .int (Int32.ofInt y)), (3, .int (Int32.ofInt z))] [.int (Int32.ofInt e17)] (Wd A dT s16) 0 0
        refine z_if_eq X (t := 64) (show cdA 219 60 = some (.ifCond .eq 4, 3, 0, 0, 0) from rfl) (by decide) hrs16 (fun g19 => ?_) (fun g19 => ?_)
        ·
          refine z_aload_n X (x := A 179) (show cdA 219 64 = some (.aload_n 0, 1, 0, 0, 0) from rfl) (List.Mem.head _) ?_
          refine s_getR X 179 (show cdA 219 65 = some (.getfield 38, 3, 12, 24, 0) from rfl) (by decide) rfl rfl ?_
          refine z_load_n X (x := x) (show cdA 219 68 = some (.iload_n 1, 1, 0, 0, 0) from rfl) (List.Mem.tail _ (List.Mem.head _)) ?_
          refine z_load_n X (x := y) (show cdA 219 69 = some (.iload_n 2, 1, 0, 0, 0) from rfl) (List.Mem.tail _ (List.Mem.tail _ (List.Mem.head _))) ?_
          refine z_ast X 186 (show cdA 219 70 = some (.iastore, 1, 0, 0, 0) from rfl) (by decide) rfl (by first | exact oq_65cab3da g19 hps16.2.1 | omega) (show x < 12 by first | exact oq_202e1043 g19 hps16.2.1 | omega) (by decide) ?_
          obtain ⟨s20, hs20⟩ : ∃ x0, x0 = uC s16 163 (x).toNat (Int32.ofInt y) := ⟨_, rfl⟩
          rw [← hs20]
          have Is20 : Bd s20 := by rw [hs20]; exact bd_C Is16 (show (0 : Int) ≤ y ∧ y ≤ 2 by first | exact ⟨oq_65cab3da g19 hps16.2.1, oq_cd9c3499 g19 hps16.2.1⟩ | omega) ⟨by first | exact p1.1 | omega, by first | exact p1.2 | omega⟩
          have Fs20 := fm_C (i := (x).toNat) (x := Int32.ofInt y) Gs16 (show 163 ∈ _ by decide)
          rw [← hs20] at Fs20
          have ws20_73 : iI s20 73 = iI s16 73 := by rw [hs20]; rfl
          have ws20_90 : iI s20 90 = iI s16 90 := by rw [hs20]; rfl
          refine z_aload_n X (x := A 179) (show cdA 219 71 = some (.aload_n 0, 1, 0, 0, 0) from rfl) (List.Mem.head _) ?_
          refine s_getR X 179 (show cdA 219 72 = some (.getfield 41, 3, 12, 25, 0) from rfl) (by decide) rfl rfl ?_
          refine z_load_n X (x := x) (show cdA 219 75 = some (.iload_n 1, 1, 0, 0, 0) from rfl) (List.Mem.tail _ (List.Mem.head _)) ?_
          refine z_load_n X (x := z) (show cdA 219 76 = some (.iload_n 3, 1, 0, 0, 0) from rfl) (List.Mem.tail _ (List.Mem.tail _ (List.Mem.tail _ (List.Mem.head _)))) ?_
          refine z_ast X 187 (show cdA 219 77 = some (.iastore, 1, 0, 0, 0) from rfl) (by decide) rfl (by first | exact oq_65cab3da g19 hps16.2.1 | omega) (show x < 12 by first | exact oq_202e1043 g19 hps16.2.1 | omega) (by decide) ?_
          obtain ⟨s21, hs21⟩ : ∃ x0, x0 = uC s20 164 (x).toNat (Int32.ofInt z) := ⟨_, rfl⟩
          rw [← hs21]
          have Is21 : Bd s21 := by rw [hs21]; exact bd_C Is20 (show (0 : Int) ≤ z ∧ z ≤ 2 by first | exact ⟨oq_65cab3da g19 hps16.2.1, oq_cd9c3499 g19 hps16.2.1⟩ | omega) ⟨by first | exact p2.1 | omega, by first | exact p2.2 | omega⟩
          have Fs21 := fm_C (i := (x).toNat) (x := Int32.ofInt z) Fs20 (show 164 ∈ _ by decide)
          rw [← hs21] at Fs21
          have ws21_73 : iI s21 73 = iI s20 73 := by rw [hs21]; rfl
          have ws21_90 : iI s21 90 = iI s20 90 := by rw [hs21]; rfl
          exact w_vret X.1 q hRt (ax_d X (show cdA 219 78 = some (.return_, 1, 0, 0, 0) from rfl)) (Nat.zero_le _) (Nat.zero_le _) ⟨_, rfl, Is21, Fs21, rfl, trivial⟩
        ·
          exact w_vret X.1 q hRt (ax_d X (show cdA 219 63 = some (.return_, 1, 0, 0, 0) from rfl)) (Nat.zero_le _) (Nat.zero_le _) ⟨_, rfl, Is16, Gs16, rfl, trivial⟩
      ·
        refine z_load_n X (x := z) (show cdA 219 42 = some (.iload_n 3, 1, 0, 0, 0) from rfl) (List.Mem.tail _ (List.Mem.tail _ (List.Mem.tail _ (List.Mem.head _)))) ?_
        refine z_const X (show cdA 219 43 = some (.iconst 0, 1, 0, 0, 0) from rfl) ?_
        refine z_const X (show cdA 219 44 = some (.iconst 2, 1, 0, 0, 0) from rfl) ?_
        refine z_callS X (rm := rmN 188) (As := [.int (Int32.ofInt z), .int (Int32.ofInt 0), .int (Int32.ofInt 2)]) (st := [.ref (A 179)]) (show cdA 219 45 = some (.invokestatic 209, 3, 188, 1, 0) from rfl) rfl (by rw [E.1, E.2.1, E.2.2.1]; exact k_in G Is13 (by first | exact ⟨p2.1, p2.2⟩ | omega) (by first | exact ⟨by decide, by decide⟩ | omega) (by first | exact ⟨by decide, by decide⟩ | omega)) ⟨by rw [E.2.2.2]; exact (show (rmN 188).frames + 1 ≤ (rmN 219).frames by decide), by rw [E.2.2.2]; exact (show 8 + (mNL (miB 188) + 11) + (rmN 188).locals ≤ (rmN 219).locals by decide), by rw [E.2.2.2]; exact (show 0 + (rmN 188).cells ≤ (rmN 219).cells by decide), by rw [E.2.2.2]; exact (show 0 + (rmN 188).slots ≤ (rmN 219).slots by decide)⟩ (Nat.le_of_ble_eq_true rfl) (fun vv s22 hq => ?_) (fun ee s22 hq => ?_)
        rotate_left
        · obtain ⟨Is22, Fs22, e23, hv, hrs22, hps22⟩ := hq; cases hv
        obtain ⟨Is22, Fs22, e23, hv, hrs22, hps22⟩ := hq
        cases hv
        have Gs22 := fm_ts Gs13 Fs22 (by decide) (by decide)
        have ws22_73 : iI s22 73 = iI s13 73 := fm_i Fs22 (by decide)
        have ws22_90 : iI s22 90 = iI s13 90 := fm_i Fs22 (by decide)
        show WS k 48 [(0, .ref (A 179)), (1, .int (Int32.ofInt x)), (2, .int (Int32.ofInt y)), (3, .int (Int32.ofInt z))] [.int (Int32.ofInt e23), .ref (A 179)] (Wd A dT s22) 0 0
        have N24 : ∀ e25 : Int, (((e23 ≠ 0) ∧ e25 = 0) ∨ ((e23 = 0) ∧ e25 = 1)) → WS k 56 [(0, .ref (A 179)), (1, .int (Int32.ofInt x)), (2, .int (Int32.ofInt y)), (3, .int (Int32.ofInt z))] [.int (Int32.ofInt e25), .ref (A 179)] (Wd A dT s22) 0 0 := by
          intro e25 he25
          have re25 : 0 ≤ e25 ∧ e25 ≤ 1 := by omega
          refine z_const X (show cdA 219 56 = some (.iconst 2, 1, 0, 0, 0) from rfl) ?_
          refine z_callV X 179 (rm := rmN 187) (As := [.int (Int32.ofInt e25), .int (Int32.ofInt 2)]) (st := []) (show cdA 219 57 = some (.invokevirtual 229, 3, 187, 0, 0) from rfl) rfl (by decide) rfl (by rw [E.1, E.2.1, E.2.2.1]; exact k_bad G Is22 (by first | exact oq_31e518ae re25.2 re25.1 | omega) (by first | exact ⟨by decide, by decide⟩ | omega)) ⟨by rw [E.2.2.2]; exact (show (rmN 187).frames + 1 ≤ (rmN 219).frames by decide), by rw [E.2.2.2]; exact (show 8 + (mNL (miB 187) + 11) + (rmN 187).locals ≤ (rmN 219).locals by decide), by rw [E.2.2.2]; exact (show 0 + (rmN 187).cells ≤ (rmN 219).cells by decide), by rw [E.2.2.2]; exact (show 0 + (rmN 187).slots ≤ (rmN 219).slots by decide)⟩ (Nat.le_of_ble_eq_true rfl) (fun vv s26 hq => ?_) (fun ee s26 hq => ?_)
          rotate_left
          · obtain ⟨Is26, Fs26, e27, hv, hrs26, hps26⟩ := hq; cases hv
          obtain ⟨Is26, Fs26, e27, hv, hrs26, hps26⟩ := hq
          cases hv
          have Gs26 := fm_ts Gs22 Fs26 (by decide) (by decide)
          have b28 : (0 : Int) ≤ iI s26 73 ∧ iI s26 73 ≤ 3 := Is26.1 73
          have ws26_90 : iI s26 90 = iI s22 90 := fm_i Fs26 (by decide)
          show WS k 60 [(0, .ref (A 179)), (1, .int (Int32.ofInt x)), (2, .int (Int32.ofInt y)), (3, .int (Int32.ofInt z))] [.int (Int32.ofInt e27)] (Wd A dT s26) 0 0
          refine z_if_eq X (t := 64) (show cdA 219 60 = some (.ifCond .eq 4, 3, 0, 0, 0) from rfl) (by decide) hrs26 (fun g29 => ?_) (fun g29 => ?_)
          ·
            refine z_aload_n X (x := A 179) (show cdA 219 64 = some (.aload_n 0, 1, 0, 0, 0) from rfl) (List.Mem.head _) ?_
            refine s_getR X 179 (show cdA 219 65 = some (.getfield 38, 3, 12, 24, 0) from rfl) (by decide) rfl rfl ?_
            refine z_load_n X (x := x) (show cdA 219 68 = some (.iload_n 1, 1, 0, 0, 0) from rfl) (List.Mem.tail _ (List.Mem.head _)) ?_
            refine z_load_n X (x := y) (show cdA 219 69 = some (.iload_n 2, 1, 0, 0, 0) from rfl) (List.Mem.tail _ (List.Mem.tail _ (List.Mem.head _))) ?_
            refine z_ast X 186 (show cdA 219 70 = some (.iastore, 1, 0, 0, 0) from rfl) (by decide) rfl (by omega) (show x < 12 by omega) (by decide) ?_
            obtain ⟨s30, hs30⟩ : ∃ x0, x0 = uC s26 163 (x).toNat (Int32.ofInt y) := ⟨_, rfl⟩
            rw [← hs30]
            have Is30 : Bd s30 := by rw [hs30]; exact bd_C Is26 (show (0 : Int) ≤ y ∧ y ≤ 2 by first | exact ⟨oq_ed86839e g15 hps13, oq_1e4f7caf g15 hps13⟩ | omega) ⟨by first | exact p1.1 | omega, by first | exact p1.2 | omega⟩
            have Fs30 := fm_C (i := (x).toNat) (x := Int32.ofInt y) Gs26 (show 163 ∈ _ by decide)
            rw [← hs30] at Fs30
            have ws30_73 : iI s30 73 = iI s26 73 := by rw [hs30]; rfl
            have ws30_90 : iI s30 90 = iI s26 90 := by rw [hs30]; rfl
            refine z_aload_n X (x := A 179) (show cdA 219 71 = some (.aload_n 0, 1, 0, 0, 0) from rfl) (List.Mem.head _) ?_
            refine s_getR X 179 (show cdA 219 72 = some (.getfield 41, 3, 12, 25, 0) from rfl) (by decide) rfl rfl ?_
            refine z_load_n X (x := x) (show cdA 219 75 = some (.iload_n 1, 1, 0, 0, 0) from rfl) (List.Mem.tail _ (List.Mem.head _)) ?_
            refine z_load_n X (x := z) (show cdA 219 76 = some (.iload_n 3, 1, 0, 0, 0) from rfl) (List.Mem.tail _ (List.Mem.tail _ (List.Mem.tail _ (List.Mem.head _)))) ?_
            refine z_ast X 187 (show cdA 219 77 = some (.iastore, 1, 0, 0, 0) from rfl) (by decide) rfl (by omega) (show x < 12 by omega) (by decide) ?_
            obtain ⟨s31, hs31⟩ : ∃ x0, x0 = uC s30 164 (x).toNat (Int32.ofInt z) := ⟨_, rfl⟩
            rw [← hs31]
            have Is31 : Bd s31 := by rw [hs31]; exact bd_C Is30 (show (0 : Int) ≤ z ∧ z ≤ 2 by first | exact ⟨oq_fc2a5dc5 g29 hps26.2.1 re25.2 he25 hps22, oq_2dd5e62c g29 hps26.2.1 re25.2 he25 hps22⟩ | omega) ⟨by first | exact p2.1 | omega, by first | exact p2.2 | omega⟩
            have Fs31 := fm_C (i := (x).toNat) (x := Int32.ofInt z) Fs30 (show 164 ∈ _ by decide)
            rw [← hs31] at Fs31
            have ws31_73 : iI s31 73 = iI s30 73 := by rw [hs31]; rfl
            have ws31_90 : iI s31 90 = iI s30 90 := by rw [hs31]; rfl
            exact w_vret X.1 q hRt (ax_d X (show cdA 219 78 = some (.return_, 1, 0, 0, 0) from rfl)) (Nat.zero_le _) (Nat.zero_le _) ⟨_, rfl, Is31, Fs31, rfl, trivial⟩
          ·
            exact w_vret X.1 q hRt (ax_d X (show cdA 219 63 = some (.return_, 1, 0, 0, 0) from rfl)) (Nat.zero_le _) (Nat.zero_le _) ⟨_, rfl, Is26, Gs26, rfl, trivial⟩
        refine z_if_ne X (t := 55) (show cdA 219 48 = some (.ifCond .ne 7, 3, 1, 0, 0) from rfl) (by decide) hrs22 (fun g32 => ?_) (fun g32 => ?_)
        ·
          refine z_const X (show cdA 219 55 = some (.iconst 0, 1, 0, 0, 0) from rfl) ?_
          exact N24 _ (Or.inl ⟨g32, rfl⟩)
        ·
          refine z_const X (show cdA 219 51 = some (.iconst 1, 1, 0, 0, 0) from rfl) ?_
          refine z_goto X (t := 56) (show cdA 219 52 = some (.goto 4, 3, 0, 0, 0) from rfl) (by decide) ?_
          exact N24 _ (Or.inr (⟨g32, rfl⟩))
  refine z_if_ne X (t := 24) (show cdA 219 17 = some (.ifCond .ne 7, 3, 1, 0, 0) from rfl) (by decide) hrs5 (fun g33 => ?_) (fun g33 => ?_)
  ·
    refine z_const X (show cdA 219 24 = some (.iconst 0, 1, 0, 0, 0) from rfl) ?_
    exact N7 _ (Or.inl ⟨g33, rfl⟩)
  ·
    refine z_const X (show cdA 219 20 = some (.iconst 1, 1, 0, 0, 0) from rfl) ?_
    refine z_goto X (t := 25) (show cdA 219 21 = some (.goto 4, 3, 0, 0, 0) from rfl) (by decide) ?_
    exact N7 _ (Or.inr (⟨g33, rfl⟩))
theorem k_way (G : GX l s0 D tys a0 dT) (I : Bd s) {x y : Int} (p0 : rng x) (p1 : rng y) : CT l s0 D A dT 217 (rmN 217) [.ref (A 179), .int (Int32.ofInt x), .int (Int32.ofInt y)] s (fun o t => Bd t ∧ Fm [73] [] s t ∧ ∃ e, o = .inl (some (.int (Int32.ofInt e))) ∧ rng e ∧ (True)) := by
  refine ct_of G (by decide) (Nat.le_of_ble_eq_true rfl) (fun k X E hRt hXt q => ?_)
  show WS k 0 [(0, .ref (A 179)), (1, .int (Int32.ofInt x)), (2, .int (Int32.ofInt y))] [] _ 0 0
  have F : Fm [73] [] s s := fm_rf _ _ s
  have b1 : (0 : Int) ≤ iI s 73 ∧ iI s 73 ≤ 3 := I.1 73
  have b2 : (0 : Int) ≤ iI s 90 ∧ iI s 90 ≤ 12 := I.1 90
  refine z_aload_n X (x := A 179) (show cdA 217 0 = some (.aload_n 0, 1, 0, 0, 0) from rfl) (List.Mem.head _) ?_
  refine z_const X (show cdA 217 1 = some (.iconst 0, 1, 0, 0, 0) from rfl) ?_
  refine s_putI X 179 (show cdA 217 2 = some (.putfield 172, 3, 12, 0, 0) from rfl) (by decide) rfl rfl (by decide) rfl rfl rfl ?_
  obtain ⟨s3, hs3⟩ : ∃ x0, x0 = uI s 73 (Int32.ofInt 0) := ⟨_, rfl⟩
  rw [← hs3]
  have Is3 : Bd s3 := by rw [hs3]; exact bd_I I (show (0 : Int) ≤ 0 ∧ 0 ≤ 3 by first | exact ⟨by decide, by decide⟩ | omega) (by decide)
  have Fs3 := fm_I (x := Int32.ofInt 0) F (show 73 ∈ _ by decide)
  rw [← hs3] at Fs3
  have vs3 : iI s3 73 = 0 := by rw [hs3]; exact iI_u (by decide)
  have ws3_90 : iI s3 90 = iI s 90 := by rw [hs3]; rfl
  refine z_aload_n X (x := A 179) (show cdA 217 5 = some (.aload_n 0, 1, 0, 0, 0) from rfl) (List.Mem.head _) ?_
  refine z_load_n X (x := x) (show cdA 217 6 = some (.iload_n 1, 1, 0, 0, 0) from rfl) (List.Mem.tail _ (List.Mem.head _)) ?_
  refine z_const X (show cdA 217 7 = some (.iconst 0, 1, 0, 0, 0) from rfl) ?_
  refine z_aload_n X (x := A 179) (show cdA 217 8 = some (.aload_n 0, 1, 0, 0, 0) from rfl) (List.Mem.head _) ?_
  refine z_getI X 179 (show cdA 217 9 = some (.getfield 233, 3, 12, 22, 0) from rfl) (by decide) rfl rfl ?_
  have b4 : (0 : Int) ≤ iI s3 90 ∧ iI s3 90 ≤ 12 := Is3.1 90
  refine z_const X (show cdA 217 12 = some (.iconst 1, 1, 0, 0, 0) from rfl) ?_
  refine z_sub X (show cdA 217 13 = some (.isub, 1, 0, 0, 0) from rfl) ?_
  refine z_callS X (rm := rmN 188) (As := [.int (Int32.ofInt x), .int (Int32.ofInt 0), .int (Int32.ofInt ((iI s3 90) - 1))]) (st := [.ref (A 179)]) (show cdA 217 14 = some (.invokestatic 209, 3, 188, 1, 0) from rfl) rfl (by rw [E.1, E.2.1, E.2.2.1]; exact k_in G Is3 (by first | exact ⟨p0.1, p0.2⟩ | omega) (by first | exact ⟨by decide, by decide⟩ | omega) (by first | exact ⟨oq_c1e961c7 b4.1, oq_d526ebd3 b4.2⟩ | omega)) ⟨by rw [E.2.2.2]; exact (show (rmN 188).frames + 1 ≤ (rmN 217).frames by decide), by rw [E.2.2.2]; exact (show 8 + (mNL (miB 188) + 11) + (rmN 188).locals ≤ (rmN 217).locals by decide), by rw [E.2.2.2]; exact (show 0 + (rmN 188).cells ≤ (rmN 217).cells by decide), by rw [E.2.2.2]; exact (show 0 + (rmN 188).slots ≤ (rmN 217).slots by decide)⟩ (Nat.le_of_ble_eq_true rfl) (fun vv s5 hq => ?_) (fun ee s5 hq => ?_)
  rotate_left
  · obtain ⟨Is5, Fs5, e6, hv, hrs5, hps5⟩ := hq; cases hv
  obtain ⟨Is5, Fs5, e6, hv, hrs5, hps5⟩ := hq
  cases hv
  have Gs5 := fm_ts Fs3 Fs5 (by decide) (by decide)
  have ws5_73 : iI s5 73 = iI s3 73 := fm_i Fs5 (by decide)
  have ws5_90 : iI s5 90 = iI s3 90 := fm_i Fs5 (by decide)
  show WS k 17 [(0, .ref (A 179)), (1, .int (Int32.ofInt x)), (2, .int (Int32.ofInt y))] [.int (Int32.ofInt e6), .ref (A 179)] (Wd A dT s5) 0 0
  have N7 : ∀ e8 : Int, (((e6 ≠ 0) ∧ e8 = 0) ∨ ((e6 = 0) ∧ e8 = 1)) → WS k 25 [(0, .ref (A 179)), (1, .int (Int32.ofInt x)), (2, .int (Int32.ofInt y))] [.int (Int32.ofInt e8), .ref (A 179)] (Wd A dT s5) 0 0 := by
    intro e8 he8
    have re8 : 0 ≤ e8 ∧ e8 ≤ 1 := by omega
    refine z_const X (show cdA 217 25 = some (.iconst 1, 1, 0, 0, 0) from rfl) ?_
    refine z_callV X 179 (rm := rmN 187) (As := [.int (Int32.ofInt e8), .int (Int32.ofInt 1)]) (st := []) (show cdA 217 26 = some (.invokevirtual 229, 3, 187, 0, 0) from rfl) rfl (by decide) rfl (by rw [E.1, E.2.1, E.2.2.1]; exact k_bad G Is5 (by first | exact oq_31e518ae re8.2 re8.1 | omega) (by first | exact ⟨by decide, by decide⟩ | omega)) ⟨by rw [E.2.2.2]; exact (show (rmN 187).frames + 1 ≤ (rmN 217).frames by decide), by rw [E.2.2.2]; exact (show 8 + (mNL (miB 187) + 11) + (rmN 187).locals ≤ (rmN 217).locals by decide), by rw [E.2.2.2]; exact (show 0 + (rmN 187).cells ≤ (rmN 217).cells by decide), by rw [E.2.2.2]; exact (show 0 + (rmN 187).slots ≤ (rmN 217).slots by decide)⟩ (Nat.le_of_ble_eq_true rfl) (fun vv s9 hq => ?_) (fun ee s9 hq => ?_)
    rotate_left
    · obtain ⟨Is9, Fs9, e10, hv, hrs9, hps9⟩ := hq; cases hv
    obtain ⟨Is9, Fs9, e10, hv, hrs9, hps9⟩ := hq
    cases hv
    have Gs9 := fm_ts Gs5 Fs9 (by decide) (by decide)
    have b11 : (0 : Int) ≤ iI s9 73 ∧ iI s9 73 ≤ 3 := Is9.1 73
    have ws9_90 : iI s9 90 = iI s5 90 := fm_i Fs9 (by decide)
    show WS k 29 [(0, .ref (A 179)), (1, .int (Int32.ofInt x)), (2, .int (Int32.ofInt y))] [.int (Int32.ofInt e10)] (Wd A dT s9) 0 0
    refine z_if_eq X (t := 34) (show cdA 217 29 = some (.ifCond .eq 5, 3, 0, 0, 0) from rfl) (by decide) hrs9 (fun g12 => ?_) (fun g12 => ?_)
    ·
      refine z_load_n X (x := y) (show cdA 217 34 = some (.iload_n 2, 1, 0, 0, 0) from rfl) (List.Mem.tail _ (List.Mem.tail _ (List.Mem.head _))) ?_
      refine z_const X (show cdA 217 35 = some (.iconst 0, 1, 0, 0, 0) from rfl) ?_
      refine z_aload_n X (x := A 179) (show cdA 217 36 = some (.aload_n 0, 1, 0, 0, 0) from rfl) (List.Mem.head _) ?_
      refine s_getR X 179 (show cdA 217 37 = some (.getfield 35, 3, 12, 23, 0) from rfl) (by decide) rfl rfl ?_
      refine z_load_n X (x := x) (show cdA 217 40 = some (.iload_n 1, 1, 0, 0, 0) from rfl) (List.Mem.tail _ (List.Mem.head _)) ?_
      refine z_ald X 185 (show cdA 217 41 = some (.iaload, 1, 0, 0, 0) from rfl) (by decide) rfl (by first | exact oq_8280ce40 g12 hps9.2.1 re8.2 he8 hps5 | omega) (show x < 12 by first | exact oq_fb31d874 g12 hps9.2.1 re8.2 he8 hps5 b4.2 | omega) (by decide) ?_
      have b13 : (0 : Int) ≤ iC s9 162 (x).toNat ∧ iC s9 162 (x).toNat ≤ 24 := Is9.2 162 _ (show (x).toNat < 12 by first | exact oq_662d51cf g12 hps9.2.1 re8.2 he8 hps5 b4.2 | omega)
      refine z_const X (show cdA 217 42 = some (.iconst 1, 1, 0, 0, 0) from rfl) ?_
      refine z_sub X (show cdA 217 43 = some (.isub, 1, 0, 0, 0) from rfl) ?_
      refine z_callS X (rm := rmN 188) (As := [.int (Int32.ofInt y), .int (Int32.ofInt 0), .int (Int32.ofInt ((iC s9 162 (x).toNat) - 1))]) (st := []) (show cdA 217 44 = some (.invokestatic 209, 3, 188, 1, 0) from rfl) rfl (by rw [E.1, E.2.1, E.2.2.1]; exact k_in G Is9 (by first | exact ⟨p1.1, p1.2⟩ | omega) (by first | exact ⟨by decide, by decide⟩ | omega) (by first | exact ⟨oq_c1e961c7 b13.1, oq_0332e1ab b13.2⟩ | omega)) ⟨by rw [E.2.2.2]; exact (show (rmN 188).frames + 1 ≤ (rmN 217).frames by decide), by rw [E.2.2.2]; exact (show 8 + (mNL (miB 188) + 11) + (rmN 188).locals ≤ (rmN 217).locals by decide), by rw [E.2.2.2]; exact (show 0 + (rmN 188).cells ≤ (rmN 217).cells by decide), by rw [E.2.2.2]; exact (show 0 + (rmN 188).slots ≤ (rmN 217).slots by decide)⟩ (Nat.le_of_ble_eq_true rfl) (fun vv s14 hq => ?_) (fun ee s14 hq => ?_)
      rotate_left
      · obtain ⟨Is14, Fs14, e15, hv, hrs14, hps14⟩ := hq; cases hv
      obtain ⟨Is14, Fs14, e15, hv, hrs14, hps14⟩ := hq
      cases hv
      have Gs14 := fm_ts Gs9 Fs14 (by decide) (by decide)
      have ws14_73 : iI s14 73 = iI s9 73 := fm_i Fs14 (by decide)
      have ws14_90 : iI s14 90 = iI s9 90 := fm_i Fs14 (by decide)
      show WS k 47 [(0, .ref (A 179)), (1, .int (Int32.ofInt x)), (2, .int (Int32.ofInt y))] [.int (Int32.ofInt e15)] (Wd A dT s14) 0 0
      have N16 : ∀ e17 : Int, (((e15 = 0) ∧ e17 = (-1)) ∨ ((e15 ≠ 0) ∧ ((0 : Int) ≤ (iC s14 (166 + (x : Int).toNat) (y : Int).toNat) ∧ (iC s14 (166 + (x : Int).toNat) (y : Int).toNat) ≤ 127) ∧ e17 = (iC s14 (166 + (x : Int).toNat) (y : Int).toNat))) → WS k 62 [(0, .ref (A 179)), (1, .int (Int32.ofInt x)), (2, .int (Int32.ofInt y))] [.int (Int32.ofInt e17)] (Wd A dT s14) 0 0 := by
        intro e17 he17
        exact w_iret X.1 q hRt rfl (ax_d X (show cdA 217 62 = some (.ireturn, 1, 0, 0, 0) from rfl)) (Nat.zero_le _) (Nat.zero_le _) ⟨_, rfl, Is14, Gs14, e17, rfl, ⟨by first | exact oq_623cad9f he17 | omega, by first | exact oq_0d5a0120 he17 | omega⟩, trivial⟩
      refine z_if_eq X (t := 61) (show cdA 217 47 = some (.ifCond .eq 14, 3, 0, 0, 0) from rfl) (by decide) hrs14 (fun g18 => ?_) (fun g18 => ?_)
      ·
        refine z_const X (show cdA 217 61 = some (.iconst (-1), 1, 0, 0, 0) from rfl) ?_
        exact N16 _ (Or.inl ⟨g18, rfl⟩)
      ·
        refine z_aload_n X (x := A 179) (show cdA 217 50 = some (.aload_n 0, 1, 0, 0, 0) from rfl) (List.Mem.head _) ?_
        refine s_getR X 179 (show cdA 217 51 = some (.getfield 49, 3, 12, 28, 0) from rfl) (by decide) rfl rfl ?_
        refine z_load_n X (x := x) (show cdA 217 54 = some (.iload_n 1, 1, 0, 0, 0) from rfl) (List.Mem.tail _ (List.Mem.head _)) ?_
        refine z_aald X rw_189 (show cdA 217 55 = some (.aaload, 1, 0, 0, 0) from rfl) (by first | exact oq_8280ce40 g12 hps9.2.1 re8.2 he8 hps5 | omega) (show x < 12 by first | exact oq_fb31d874 g12 hps9.2.1 re8.2 he8 hps5 b4.2 | omega) (by decide) ?_
        refine z_load_n X (x := y) (show cdA 217 56 = some (.iload_n 2, 1, 0, 0, 0) from rfl) (List.Mem.tail _ (List.Mem.tail _ (List.Mem.head _))) ?_
        refine z_ald2 X rw_189 (show cdA 217 57 = some (.iaload, 1, 0, 0, 0) from rfl) (show (x : Int).toNat < 12 by first | exact oq_662d51cf g12 hps9.2.1 re8.2 he8 hps5 b4.2 | omega) (by first | exact oq_5dfe5e68 g18 hps14 | omega) (show y < 24 by first | exact oq_6c39bb95 g18 hps14 b13.2 | omega) (by decide) ?_
        have b19 : (0 : Int) ≤ (iC s14 (166 + (x : Int).toNat) (y : Int).toNat) ∧ (iC s14 (166 + (x : Int).toNat) (y : Int).toNat) ≤ 127 := rw_bd rw_189 Is14 (show (x : Int).toNat < 12 by first | exact oq_662d51cf g12 hps9.2.1 re8.2 he8 hps5 b4.2 | omega) (show (y : Int).toNat < 24 by first | exact oq_76eef144 g18 hps14 b13.2 | omega)
        refine z_goto X (t := 62) (show cdA 217 58 = some (.goto 4, 3, 0, 0, 0) from rfl) (by decide) ?_
        exact N16 _ (Or.inr (⟨g18, b19, rfl⟩))
    ·
      refine z_const X (show cdA 217 32 = some (.iconst 0, 1, 0, 0, 0) from rfl) ?_
      exact w_iret X.1 q hRt rfl (ax_d X (show cdA 217 33 = some (.ireturn, 1, 0, 0, 0) from rfl)) (Nat.zero_le _) (Nat.zero_le _) ⟨_, rfl, Is9, Gs9, 0, rfl, (by decide), trivial⟩
  refine z_if_ne X (t := 24) (show cdA 217 17 = some (.ifCond .ne 7, 3, 1, 0, 0) from rfl) (by decide) hrs5 (fun g20 => ?_) (fun g20 => ?_)
  ·
    refine z_const X (show cdA 217 24 = some (.iconst 0, 1, 0, 0, 0) from rfl) ?_
    exact N7 _ (Or.inl ⟨g20, rfl⟩)
  ·
    refine z_const X (show cdA 217 20 = some (.iconst 1, 1, 0, 0, 0) from rfl) ?_
    refine z_goto X (t := 25) (show cdA 217 21 = some (.goto 4, 3, 0, 0, 0) from rfl) (by decide) ?_
    exact N7 _ (Or.inr (⟨g20, rfl⟩))
theorem k_flow (G : GX l s0 D tys a0 dT) (I : Bd s) {x y z w : Int} (p0 : rng x) (p1 : rng y) (p2 : rng z) (p3 : rng w) : CT l s0 D A dT 218 (rmN 218) [.ref (A 179), .int (Int32.ofInt x), .int (Int32.ofInt y), .int (Int32.ofInt z), .int (Int32.ofInt w)] s (fun o t => Bd t ∧ Fm [73] [190, 191, 192, 193, 194, 195, 196, 197, 198, 199, 200, 201] s t ∧ o = .inl none ∧ (True)) := by
  refine ct_of G (by decide) (Nat.le_of_ble_eq_true rfl) (fun k X E hRt hXt q => ?_)
  show WS k 0 [(0, .ref (A 179)), (1, .int (Int32.ofInt x)), (2, .int (Int32.ofInt y)), (3, .int (Int32.ofInt z)), (4, .int (Int32.ofInt w))] [] _ 0 0
  have F : Fm [73] [190, 191, 192, 193, 194, 195, 196, 197, 198, 199, 200, 201] s s := fm_rf _ _ s
  have b1 : (0 : Int) ≤ iI s 73 ∧ iI s 73 ≤ 3 := I.1 73
  have b2 : (0 : Int) ≤ iI s 90 ∧ iI s 90 ≤ 12 := I.1 90
  have L85 : ∀ (n : Nat) (t : PS) (xv zv wv c : Int), Bd t → Fm [73] [190, 191, 192, 193, 194, 195, 196, 197, 198, 199, 200, 201] s t → ((0 ≤ xv ∧ xv ≤ 11) ∧ (0 ≤ zv ∧ zv ≤ 23) ∧ (0 ≤ wv ∧ wv ≤ 50) ∧ 0 ≤ c ∧ c ≤ 24) → (24 - c : Int).toNat < n → (∀ (t' : PS) (xv' zv' wv' c' : Int), Bd t' → Fm [73] [190, 191, 192, 193, 194, 195, 196, 197, 198, 199, 200, 201] s t' → ((0 ≤ xv' ∧ xv' ≤ 11) ∧ (0 ≤ zv' ∧ zv' ≤ 23) ∧ (0 ≤ wv' ∧ wv' ≤ 50) ∧ 0 ≤ c' ∧ c' ≤ 24) → WS k 108 [(0, .ref (A 179)), (1, .int (Int32.ofInt xv')), (3, .int (Int32.ofInt zv')), (4, .int (Int32.ofInt wv')), (5, .int (Int32.ofInt c'))] [] (Wd A dT t') 0 0) → WS k 85 [(0, .ref (A 179)), (1, .int (Int32.ofInt xv)), (3, .int (Int32.ofInt zv)), (4, .int (Int32.ofInt wv)), (5, .int (Int32.ofInt c))] [] (Wd A dT t) 0 0 := by
    intro n
    induction n with
    | zero =>
      intro t xv zv wv c I F hi hm kx
      exact absurd hm (Nat.not_lt_zero _)
    | succ n ih =>
      intro t xv zv wv c I F hi hm kx
      have b1001 : (0 : Int) ≤ iI t 73 ∧ iI t 73 ≤ 3 := I.1 73
      have b1002 : (0 : Int) ≤ iI t 90 ∧ iI t 90 ≤ 12 := I.1 90
      refine z_load X (x := c) (show cdA 218 85 = some (.iload 5, 2, 0, 0, 0) from rfl) (List.Mem.tail _ (List.Mem.tail _ (List.Mem.tail _ (List.Mem.tail _ (List.Mem.head _))))) ?_
      refine z_load_n X (x := zv) (show cdA 218 87 = some (.iload_n 3, 1, 0, 0, 0) from rfl) (List.Mem.tail _ (List.Mem.tail _ (List.Mem.head _))) ?_
      refine z_icmp_gt X (t := 108) (show cdA 218 88 = some (.if_icmp .gt 20, 3, 4, 0, 0) from rfl) (by decide) ⟨by first | exact oq_fa4e5087 hi.2.2.2.1 | omega, by first | exact oq_5bcd337f hi.2.2.2.2 | omega⟩ ⟨by first | exact oq_fa4e5087 hi.2.1.1 | omega, by first | exact oq_1a42ef34 hi.2.1.2 | omega⟩ (fun g1003 => ?_) (fun g1003 => ?_)
      ·
        refine WS_lv (lv := [(0, .ref (A 179)), (1, .int (Int32.ofInt xv)), (3, .int (Int32.ofInt zv)), (4, .int (Int32.ofInt wv)), (5, .int (Int32.ofInt c))]) (List.forall_mem_cons.mpr ⟨(List.Mem.head _), (List.forall_mem_cons.mpr ⟨(List.Mem.tail _ (List.Mem.head _)), (List.forall_mem_cons.mpr ⟨(List.Mem.tail _ (List.Mem.tail _ (List.Mem.head _))), (List.forall_mem_cons.mpr ⟨(List.Mem.tail _ (List.Mem.tail _ (List.Mem.tail _ (List.Mem.head _)))), (List.forall_mem_cons.mpr ⟨(List.Mem.tail _ (List.Mem.tail _ (List.Mem.tail _ (List.Mem.tail _ (List.Mem.head _))))), (fun q h => absurd h List.not_mem_nil)⟩)⟩)⟩)⟩)⟩) ?_
        exact kx _ xv zv wv c I F (by first | exact ⟨And.intro (hi.1.1) (hi.1.2), And.intro (hi.2.1.1) (hi.2.1.2), And.intro (hi.2.2.1.1) (hi.2.2.1.2), hi.2.2.2.1, hi.2.2.2.2⟩ | omega)
      ·
        refine z_aload_n X (x := A 179) (show cdA 218 91 = some (.aload_n 0, 1, 0, 0, 0) from rfl) (List.Mem.head _) ?_
        refine s_getR X 179 (show cdA 218 92 = some (.getfield 55, 3, 12, 30, 0) from rfl) (by decide) rfl rfl ?_
        refine z_load_n X (x := xv) (show cdA 218 95 = some (.iload_n 1, 1, 0, 0, 0) from rfl) (List.Mem.tail _ (List.Mem.head _)) ?_
        refine z_aald X rw_215 (show cdA 218 96 = some (.aaload, 1, 0, 0, 0) from rfl) (by first | exact hi.1.1 | omega) (show xv < 12 by first | exact oq_0ddfcfee hi.1.2 | omega) (by decide) ?_
        refine z_load X (x := c) (show cdA 218 97 = some (.iload 5, 2, 0, 0, 0) from rfl) (List.Mem.tail _ (List.Mem.tail _ (List.Mem.tail _ (List.Mem.tail _ (List.Mem.head _))))) ?_
        refine z_load X (x := wv) (show cdA 218 99 = some (.iload 4, 2, 0, 0, 0) from rfl) (List.Mem.tail _ (List.Mem.tail _ (List.Mem.tail _ (List.Mem.head _)))) ?_
        refine z_ast2 X rw_215 (show cdA 218 101 = some (.iastore, 1, 0, 0, 0) from rfl) (show (xv : Int).toNat < 12 by first | exact oq_9c5fa447 hi.1.2 | omega) (by first | exact hi.2.2.2.1 | omega) (show c < 24 by first | exact oq_c5e79f47 g1003 hi.2.1.2 | omega) (by decide) ?_
        obtain ⟨s1004, hs1004⟩ : ∃ x0, x0 = uC t (190 + (xv : Int).toNat) (c : Int).toNat (Int32.ofInt wv) := ⟨_, rfl⟩
        rw [← hs1004]
        have Is1004 : Bd s1004 := by rw [hs1004]; exact rw_st rw_215 I (show (xv : Int).toNat < 12 by first | exact oq_9c5fa447 hi.1.2 | omega) (show (0 : Int) ≤ wv ∧ wv ≤ 50 by first | exact ⟨hi.2.2.1.1, hi.2.2.1.2⟩ | omega) ⟨by first | exact oq_fa4e5087 hi.2.2.1.1 | omega, by first | exact oq_cbe526b3 hi.2.2.1.2 | omega⟩
        have Fs1004 := fm_C (i := (c : Int).toNat) (x := Int32.ofInt wv) F ((show ∀ j, j < 12 → 190 + j ∈ _ by decide) (xv : Int).toNat (by first | exact oq_9c5fa447 hi.1.2 | omega))
        rw [← hs1004] at Fs1004
        have ws1004_73 : iI s1004 73 = iI t 73 := by rw [hs1004]; rfl
        have ws1004_90 : iI s1004 90 = iI t 90 := by rw [hs1004]; rfl
        refine z_inc X (x := c) (lv' := [(5, .int (Int32.ofInt (c + 1))), (0, .ref (A 179)), (1, .int (Int32.ofInt xv)), (3, .int (Int32.ofInt zv)), (4, .int (Int32.ofInt wv))]) (show cdA 218 102 = some (.iinc 5 1, 3, 0, 0, 0) from rfl) (by decide) (List.Mem.tail _ (List.Mem.tail _ (List.Mem.tail _ (List.Mem.tail _ (List.Mem.head _))))) (fun _ h => h) ?_
        refine z_goto X (t := 85) (show cdA 218 105 = some (.goto (-20), 3, 0, 0, 0) from rfl) (by decide) ?_
        refine WS_lv (lv := [(0, .ref (A 179)), (1, .int (Int32.ofInt xv)), (3, .int (Int32.ofInt zv)), (4, .int (Int32.ofInt wv)), (5, .int (Int32.ofInt (c + 1)))]) (List.forall_mem_cons.mpr ⟨(List.Mem.tail _ (List.Mem.head _)), (List.forall_mem_cons.mpr ⟨(List.Mem.tail _ (List.Mem.tail _ (List.Mem.head _))), (List.forall_mem_cons.mpr ⟨(List.Mem.tail _ (List.Mem.tail _ (List.Mem.tail _ (List.Mem.head _)))), (List.forall_mem_cons.mpr ⟨(List.Mem.tail _ (List.Mem.tail _ (List.Mem.tail _ (List.Mem.tail _ (List.Mem.head _))))), (List.forall_mem_cons.mpr ⟨(List.Mem.head _), (fun q h => absurd h List.not_mem_nil)⟩)⟩)⟩)⟩)⟩) ?_
        exact ih _ xv zv wv (c + 1) Is1004 Fs1004 (by first | exact ⟨And.intro (hi.1.1) (hi.1.2), And.intro (hi.2.1.1) (hi.2.1.2), And.intro (hi.2.2.1.1) (hi.2.2.1.2), oq_54f49eb5 hi.2.2.2.1, oq_3f5436dc g1003 hi.2.1.2⟩ | omega) (by first | exact qk_me hm (by decide) (oq_416f5e90 g1003 hi.2.1.2) | omega) kx
  refine z_aload_n X (x := A 179) (show cdA 218 0 = some (.aload_n 0, 1, 0, 0, 0) from rfl) (List.Mem.head _) ?_
  refine z_const X (show cdA 218 1 = some (.iconst 0, 1, 0, 0, 0) from rfl) ?_
  refine s_putI X 179 (show cdA 218 2 = some (.putfield 172, 3, 12, 0, 0) from rfl) (by decide) rfl rfl (by decide) rfl rfl rfl ?_
  obtain ⟨s3, hs3⟩ : ∃ x0, x0 = uI s 73 (Int32.ofInt 0) := ⟨_, rfl⟩
  rw [← hs3]
  have Is3 : Bd s3 := by rw [hs3]; exact bd_I I (show (0 : Int) ≤ 0 ∧ 0 ≤ 3 by first | exact ⟨by decide, by decide⟩ | omega) (by decide)
  have Fs3 := fm_I (x := Int32.ofInt 0) F (show 73 ∈ _ by decide)
  rw [← hs3] at Fs3
  have vs3 : iI s3 73 = 0 := by rw [hs3]; exact iI_u (by decide)
  have ws3_90 : iI s3 90 = iI s 90 := by rw [hs3]; rfl
  refine z_aload_n X (x := A 179) (show cdA 218 5 = some (.aload_n 0, 1, 0, 0, 0) from rfl) (List.Mem.head _) ?_
  refine z_load_n X (x := x) (show cdA 218 6 = some (.iload_n 1, 1, 0, 0, 0) from rfl) (List.Mem.tail _ (List.Mem.head _)) ?_
  refine z_const X (show cdA 218 7 = some (.iconst 0, 1, 0, 0, 0) from rfl) ?_
  refine z_aload_n X (x := A 179) (show cdA 218 8 = some (.aload_n 0, 1, 0, 0, 0) from rfl) (List.Mem.head _) ?_
  refine z_getI X 179 (show cdA 218 9 = some (.getfield 233, 3, 12, 22, 0) from rfl) (by decide) rfl rfl ?_
  have b4 : (0 : Int) ≤ iI s3 90 ∧ iI s3 90 ≤ 12 := Is3.1 90
  refine z_const X (show cdA 218 12 = some (.iconst 1, 1, 0, 0, 0) from rfl) ?_
  refine z_sub X (show cdA 218 13 = some (.isub, 1, 0, 0, 0) from rfl) ?_
  refine z_callS X (rm := rmN 188) (As := [.int (Int32.ofInt x), .int (Int32.ofInt 0), .int (Int32.ofInt ((iI s3 90) - 1))]) (st := [.ref (A 179)]) (show cdA 218 14 = some (.invokestatic 209, 3, 188, 1, 0) from rfl) rfl (by rw [E.1, E.2.1, E.2.2.1]; exact k_in G Is3 (by first | exact ⟨p0.1, p0.2⟩ | omega) (by first | exact ⟨by decide, by decide⟩ | omega) (by first | exact ⟨oq_c1e961c7 b4.1, oq_d526ebd3 b4.2⟩ | omega)) ⟨by rw [E.2.2.2]; exact (show (rmN 188).frames + 1 ≤ (rmN 218).frames by decide), by rw [E.2.2.2]; exact (show 8 + (mNL (miB 188) + 11) + (rmN 188).locals ≤ (rmN 218).locals by decide), by rw [E.2.2.2]; exact (show 0 + (rmN 188).cells ≤ (rmN 218).cells by decide), by rw [E.2.2.2]; exact (show 0 + (rmN 188).slots ≤ (rmN 218).slots by decide)⟩ (Nat.le_of_ble_eq_true rfl) (fun vv s5 hq => ?_) (fun ee s5 hq => ?_)
  rotate_left
  · obtain ⟨Is5, Fs5, e6, hv, hrs5, hps5⟩ := hq; cases hv
  obtain ⟨Is5, Fs5, e6, hv, hrs5, hps5⟩ := hq
  cases hv
  have Gs5 := fm_ts Fs3 Fs5 (by decide) (by decide)
  have ws5_73 : iI s5 73 = iI s3 73 := fm_i Fs5 (by decide)
  have ws5_90 : iI s5 90 = iI s3 90 := fm_i Fs5 (by decide)
  show WS k 17 [(0, .ref (A 179)), (1, .int (Int32.ofInt x)), (2, .int (Int32.ofInt y)), (3, .int (Int32.ofInt z)), (4, .int (Int32.ofInt w))] [.int (Int32.ofInt e6), .ref (A 179)] (Wd A dT s5) 0 0
  have N7 : ∀ e8 : Int, (((e6 ≠ 0) ∧ e8 = 0) ∨ ((e6 = 0) ∧ e8 = 1)) → WS k 25 [(0, .ref (A 179)), (1, .int (Int32.ofInt x)), (2, .int (Int32.ofInt y)), (3, .int (Int32.ofInt z)), (4, .int (Int32.ofInt w))] [.int (Int32.ofInt e8), .ref (A 179)] (Wd A dT s5) 0 0 := by
    intro e8 he8
    have re8 : 0 ≤ e8 ∧ e8 ≤ 1 := by omega
    refine z_const X (show cdA 218 25 = some (.iconst 1, 1, 0, 0, 0) from rfl) ?_
    refine z_callV X 179 (rm := rmN 187) (As := [.int (Int32.ofInt e8), .int (Int32.ofInt 1)]) (st := []) (show cdA 218 26 = some (.invokevirtual 229, 3, 187, 0, 0) from rfl) rfl (by decide) rfl (by rw [E.1, E.2.1, E.2.2.1]; exact k_bad G Is5 (by first | exact oq_31e518ae re8.2 re8.1 | omega) (by first | exact ⟨by decide, by decide⟩ | omega)) ⟨by rw [E.2.2.2]; exact (show (rmN 187).frames + 1 ≤ (rmN 218).frames by decide), by rw [E.2.2.2]; exact (show 8 + (mNL (miB 187) + 11) + (rmN 187).locals ≤ (rmN 218).locals by decide), by rw [E.2.2.2]; exact (show 0 + (rmN 187).cells ≤ (rmN 218).cells by decide), by rw [E.2.2.2]; exact (show 0 + (rmN 187).slots ≤ (rmN 218).slots by decide)⟩ (Nat.le_of_ble_eq_true rfl) (fun vv s9 hq => ?_) (fun ee s9 hq => ?_)
    rotate_left
    · obtain ⟨Is9, Fs9, e10, hv, hrs9, hps9⟩ := hq; cases hv
    obtain ⟨Is9, Fs9, e10, hv, hrs9, hps9⟩ := hq
    cases hv
    have Gs9 := fm_ts Gs5 Fs9 (by decide) (by decide)
    have b11 : (0 : Int) ≤ iI s9 73 ∧ iI s9 73 ≤ 3 := Is9.1 73
    have ws9_90 : iI s9 90 = iI s5 90 := fm_i Fs9 (by decide)
    show WS k 29 [(0, .ref (A 179)), (1, .int (Int32.ofInt x)), (2, .int (Int32.ofInt y)), (3, .int (Int32.ofInt z)), (4, .int (Int32.ofInt w))] [.int (Int32.ofInt e10)] (Wd A dT s9) 0 0
    refine z_if_ne X (t := 81) (show cdA 218 29 = some (.ifCond .ne 52, 3, 1, 0, 0) from rfl) (by decide) hrs9 (fun g12 => ?_) (fun g12 => ?_)
    ·
      exact w_vret X.1 q hRt (ax_d X (show cdA 218 81 = some (.return_, 1, 0, 0, 0) from rfl)) (Nat.zero_le _) (Nat.zero_le _) ⟨_, rfl, Is9, Gs9, rfl, trivial⟩
    ·
      refine z_aload_n X (x := A 179) (show cdA 218 32 = some (.aload_n 0, 1, 0, 0, 0) from rfl) (List.Mem.head _) ?_
      refine z_load_n X (x := y) (show cdA 218 33 = some (.iload_n 2, 1, 0, 0, 0) from rfl) (List.Mem.tail _ (List.Mem.tail _ (List.Mem.head _))) ?_
      refine z_const X (show cdA 218 34 = some (.iconst 0, 1, 0, 0, 0) from rfl) ?_
      refine z_bipush X (show cdA 218 35 = some (.bipush 23, 2, 0, 0, 23) from rfl) ?_
      refine z_callS X (rm := rmN 188) (As := [.int (Int32.ofInt y), .int (Int32.ofInt 0), .int (Int32.ofInt 23)]) (st := [.ref (A 179)]) (show cdA 218 37 = some (.invokestatic 209, 3, 188, 1, 0) from rfl) rfl (by rw [E.1, E.2.1, E.2.2.1]; exact k_in G Is9 (by first | exact ⟨p1.1, p1.2⟩ | omega) (by first | exact ⟨by decide, by decide⟩ | omega) (by first | exact ⟨by decide, by decide⟩ | omega)) ⟨by rw [E.2.2.2]; exact (show (rmN 188).frames + 1 ≤ (rmN 218).frames by decide), by rw [E.2.2.2]; exact (show 8 + (mNL (miB 188) + 11) + (rmN 188).locals ≤ (rmN 218).locals by decide), by rw [E.2.2.2]; exact (show 0 + (rmN 188).cells ≤ (rmN 218).cells by decide), by rw [E.2.2.2]; exact (show 0 + (rmN 188).slots ≤ (rmN 218).slots by decide)⟩ (Nat.le_of_ble_eq_true rfl) (fun vv s13 hq => ?_) (fun ee s13 hq => ?_)
      rotate_left
      · obtain ⟨Is13, Fs13, e14, hv, hrs13, hps13⟩ := hq; cases hv
      obtain ⟨Is13, Fs13, e14, hv, hrs13, hps13⟩ := hq
      cases hv
      have Gs13 := fm_ts Gs9 Fs13 (by decide) (by decide)
      have ws13_73 : iI s13 73 = iI s9 73 := fm_i Fs13 (by decide)
      have ws13_90 : iI s13 90 = iI s9 90 := fm_i Fs13 (by decide)
      show WS k 40 [(0, .ref (A 179)), (1, .int (Int32.ofInt x)), (2, .int (Int32.ofInt y)), (3, .int (Int32.ofInt z)), (4, .int (Int32.ofInt w))] [.int (Int32.ofInt e14), .ref (A 179)] (Wd A dT s13) 0 0
      refine z_if_eq X (t := 69) (show cdA 218 40 = some (.ifCond .eq 29, 3, 0, 0, 0) from rfl) (by decide) hrs13 (fun g15 => ?_) (fun g15 => ?_)
      ·
        refine z_const X (show cdA 218 69 = some (.iconst 1, 1, 0, 0, 0) from rfl) ?_
        refine z_goto X (t := 74) (show cdA 218 70 = some (.goto 4, 3, 0, 0, 0) from rfl) (by decide) ?_
        refine z_const X (show cdA 218 74 = some (.iconst 2, 1, 0, 0, 0) from rfl) ?_
        refine z_callV X 179 (rm := rmN 187) (As := [.int (Int32.ofInt 1), .int (Int32.ofInt 2)]) (st := []) (show cdA 218 75 = some (.invokevirtual 229, 3, 187, 0, 0) from rfl) rfl (by decide) rfl (by rw [E.1, E.2.1, E.2.2.1]; exact k_bad G Is13 (by first | exact Or.inr (by decide) | omega) (by first | exact ⟨by decide, by decide⟩ | omega)) ⟨by rw [E.2.2.2]; exact (show (rmN 187).frames + 1 ≤ (rmN 218).frames by decide), by rw [E.2.2.2]; exact (show 8 + (mNL (miB 187) + 11) + (rmN 187).locals ≤ (rmN 218).locals by decide), by rw [E.2.2.2]; exact (show 0 + (rmN 187).cells ≤ (rmN 218).cells by decide), by rw [E.2.2.2]; exact (show 0 + (rmN 187).slots ≤ (rmN 218).slots by decide)⟩ (Nat.le_of_ble_eq_true rfl) (fun vv s16 hq => ?_) (fun ee s16 hq => ?_)
        rotate_left
        · obtain ⟨Is16, Fs16, e17, hv, hrs16, hps16⟩ := hq; cases hv
        obtain ⟨Is16, Fs16, e17, hv, hrs16, hps16⟩ := hq
        cases hv
        have Gs16 := fm_ts Gs13 Fs16 (by decide) (by decide)
        have b18 : (0 : Int) ≤ iI s16 73 ∧ iI s16 73 ≤ 3 := Is16.1 73
        have ws16_90 : iI s16 90 = iI s13 90 := fm_i Fs16 (by decide)
        show WS k 78 [(0, .ref (A 179)), (1, .int (Int32.ofInt x)), (2, .int (Int32.ofInt y)), (3, .int (Int32.ofInt z)), (4, .int (Int32.ofInt w))] [.int (Int32.ofInt e17)] (Wd A dT s16) 0 0
        refine z_if_eq X (t := 82) (show cdA 218 78 = some (.ifCond .eq 4, 3, 0, 0, 0) from rfl) (by decide) hrs16 (fun g19 => ?_) (fun g19 => ?_)
        ·
          refine z_load_n X (x := y) (show cdA 218 82 = some (.iload_n 2, 1, 0, 0, 0) from rfl) (List.Mem.tail _ (List.Mem.tail _ (List.Mem.head _))) ?_
          refine z_store X (lv' := [(5, .int (Int32.ofInt y)), (0, .ref (A 179)), (1, .int (Int32.ofInt x)), (2, .int (Int32.ofInt y)), (3, .int (Int32.ofInt z)), (4, .int (Int32.ofInt w))]) (show cdA 218 83 = some (.istore 5, 2, 0, 0, 0) from rfl) (by decide) (fun _ h => h) ?_
          refine WS_lv (lv := [(0, .ref (A 179)), (1, .int (Int32.ofInt x)), (3, .int (Int32.ofInt z)), (4, .int (Int32.ofInt w)), (5, .int (Int32.ofInt y))]) (List.forall_mem_cons.mpr ⟨(List.Mem.tail _ (List.Mem.head _)), (List.forall_mem_cons.mpr ⟨(List.Mem.tail _ (List.Mem.tail _ (List.Mem.head _))), (List.forall_mem_cons.mpr ⟨(List.Mem.tail _ (List.Mem.tail _ (List.Mem.tail _ (List.Mem.tail _ (List.Mem.head _))))), (List.forall_mem_cons.mpr ⟨(List.Mem.tail _ (List.Mem.tail _ (List.Mem.tail _ (List.Mem.tail _ (List.Mem.tail _ (List.Mem.head _)))))), (List.forall_mem_cons.mpr ⟨(List.Mem.head _), (fun q h => absurd h List.not_mem_nil)⟩)⟩)⟩)⟩)⟩) ?_
          refine L85 ((24 - y : Int).toNat + 1) s16 x z w y Is16 Gs16 (by first | exact ⟨oq_344a1525 g19 hps16.2.1, oq_895647ec g19 hps16.2.1, oq_c4f1c48f g19 hps16.2.1, oq_65cab3da g19 hps16.2.1, oq_24174e13 g19 hps16.2.1⟩ | omega) (Nat.lt_succ_self _) ?_
          intro s20 x21 x22 x23 x24 Is20 Fs20 hs20
          have b25 : (0 : Int) ≤ iI s20 73 ∧ iI s20 73 ≤ 3 := Is20.1 73
          have b26 : (0 : Int) ≤ iI s20 90 ∧ iI s20 90 ≤ 12 := Is20.1 90
          exact w_vret X.1 q hRt (ax_d X (show cdA 218 108 = some (.return_, 1, 0, 0, 0) from rfl)) (Nat.zero_le _) (Nat.zero_le _) ⟨_, rfl, Is20, Fs20, rfl, trivial⟩
        ·
          exact w_vret X.1 q hRt (ax_d X (show cdA 218 81 = some (.return_, 1, 0, 0, 0) from rfl)) (Nat.zero_le _) (Nat.zero_le _) ⟨_, rfl, Is16, Gs16, rfl, trivial⟩
      ·
        refine z_load_n X (x := z) (show cdA 218 43 = some (.iload_n 3, 1, 0, 0, 0) from rfl) (List.Mem.tail _ (List.Mem.tail _ (List.Mem.tail _ (List.Mem.head _)))) ?_
        refine z_const X (show cdA 218 44 = some (.iconst 0, 1, 0, 0, 0) from rfl) ?_
        refine z_bipush X (show cdA 218 45 = some (.bipush 23, 2, 0, 0, 23) from rfl) ?_
        refine z_callS X (rm := rmN 188) (As := [.int (Int32.ofInt z), .int (Int32.ofInt 0), .int (Int32.ofInt 23)]) (st := [.ref (A 179)]) (show cdA 218 47 = some (.invokestatic 209, 3, 188, 1, 0) from rfl) rfl (by rw [E.1, E.2.1, E.2.2.1]; exact k_in G Is13 (by first | exact ⟨p2.1, p2.2⟩ | omega) (by first | exact ⟨by decide, by decide⟩ | omega) (by first | exact ⟨by decide, by decide⟩ | omega)) ⟨by rw [E.2.2.2]; exact (show (rmN 188).frames + 1 ≤ (rmN 218).frames by decide), by rw [E.2.2.2]; exact (show 8 + (mNL (miB 188) + 11) + (rmN 188).locals ≤ (rmN 218).locals by decide), by rw [E.2.2.2]; exact (show 0 + (rmN 188).cells ≤ (rmN 218).cells by decide), by rw [E.2.2.2]; exact (show 0 + (rmN 188).slots ≤ (rmN 218).slots by decide)⟩ (Nat.le_of_ble_eq_true rfl) (fun vv s27 hq => ?_) (fun ee s27 hq => ?_)
        rotate_left
        · obtain ⟨Is27, Fs27, e28, hv, hrs27, hps27⟩ := hq; cases hv
        obtain ⟨Is27, Fs27, e28, hv, hrs27, hps27⟩ := hq
        cases hv
        have Gs27 := fm_ts Gs13 Fs27 (by decide) (by decide)
        have ws27_73 : iI s27 73 = iI s13 73 := fm_i Fs27 (by decide)
        have ws27_90 : iI s27 90 = iI s13 90 := fm_i Fs27 (by decide)
        show WS k 50 [(0, .ref (A 179)), (1, .int (Int32.ofInt x)), (2, .int (Int32.ofInt y)), (3, .int (Int32.ofInt z)), (4, .int (Int32.ofInt w))] [.int (Int32.ofInt e28), .ref (A 179)] (Wd A dT s27) 0 0
        refine z_if_eq X (t := 69) (show cdA 218 50 = some (.ifCond .eq 19, 3, 0, 0, 0) from rfl) (by decide) hrs27 (fun g29 => ?_) (fun g29 => ?_)
        ·
          refine z_const X (show cdA 218 69 = some (.iconst 1, 1, 0, 0, 0) from rfl) ?_
          refine z_goto X (t := 74) (show cdA 218 70 = some (.goto 4, 3, 0, 0, 0) from rfl) (by decide) ?_
          refine z_const X (show cdA 218 74 = some (.iconst 2, 1, 0, 0, 0) from rfl) ?_
          refine z_callV X 179 (rm := rmN 187) (As := [.int (Int32.ofInt 1), .int (Int32.ofInt 2)]) (st := []) (show cdA 218 75 = some (.invokevirtual 229, 3, 187, 0, 0) from rfl) rfl (by decide) rfl (by rw [E.1, E.2.1, E.2.2.1]; exact k_bad G Is27 (by first | exact Or.inr (by decide) | omega) (by first | exact ⟨by decide, by decide⟩ | omega)) ⟨by rw [E.2.2.2]; exact (show (rmN 187).frames + 1 ≤ (rmN 218).frames by decide), by rw [E.2.2.2]; exact (show 8 + (mNL (miB 187) + 11) + (rmN 187).locals ≤ (rmN 218).locals by decide), by rw [E.2.2.2]; exact (show 0 + (rmN 187).cells ≤ (rmN 218).cells by decide), by rw [E.2.2.2]; exact (show 0 + (rmN 187).slots ≤ (rmN 218).slots by decide)⟩ (Nat.le_of_ble_eq_true rfl) (fun vv s30 hq => ?_) (fun ee s30 hq => ?_)
          rotate_left
          · obtain ⟨Is30, Fs30, e31, hv, hrs30, hps30⟩ := hq; cases hv
          obtain ⟨Is30, Fs30, e31, hv, hrs30, hps30⟩ := hq
          cases hv
          have Gs30 := fm_ts Gs27 Fs30 (by decide) (by decide)
          have b32 : (0 : Int) ≤ iI s30 73 ∧ iI s30 73 ≤ 3 := Is30.1 73
          have ws30_90 : iI s30 90 = iI s27 90 := fm_i Fs30 (by decide)
          show WS k 78 [(0, .ref (A 179)), (1, .int (Int32.ofInt x)), (2, .int (Int32.ofInt y)), (3, .int (Int32.ofInt z)), (4, .int (Int32.ofInt w))] [.int (Int32.ofInt e31)] (Wd A dT s30) 0 0
          refine z_if_eq X (t := 82) (show cdA 218 78 = some (.ifCond .eq 4, 3, 0, 0, 0) from rfl) (by decide) hrs30 (fun g33 => ?_) (fun g33 => ?_)
          ·
            refine z_load_n X (x := y) (show cdA 218 82 = some (.iload_n 2, 1, 0, 0, 0) from rfl) (List.Mem.tail _ (List.Mem.tail _ (List.Mem.head _))) ?_
            refine z_store X (lv' := [(5, .int (Int32.ofInt y)), (0, .ref (A 179)), (1, .int (Int32.ofInt x)), (2, .int (Int32.ofInt y)), (3, .int (Int32.ofInt z)), (4, .int (Int32.ofInt w))]) (show cdA 218 83 = some (.istore 5, 2, 0, 0, 0) from rfl) (by decide) (fun _ h => h) ?_
            refine WS_lv (lv := [(0, .ref (A 179)), (1, .int (Int32.ofInt x)), (3, .int (Int32.ofInt z)), (4, .int (Int32.ofInt w)), (5, .int (Int32.ofInt y))]) (List.forall_mem_cons.mpr ⟨(List.Mem.tail _ (List.Mem.head _)), (List.forall_mem_cons.mpr ⟨(List.Mem.tail _ (List.Mem.tail _ (List.Mem.head _))), (List.forall_mem_cons.mpr ⟨(List.Mem.tail _ (List.Mem.tail _ (List.Mem.tail _ (List.Mem.tail _ (List.Mem.head _))))), (List.forall_mem_cons.mpr ⟨(List.Mem.tail _ (List.Mem.tail _ (List.Mem.tail _ (List.Mem.tail _ (List.Mem.tail _ (List.Mem.head _)))))), (List.forall_mem_cons.mpr ⟨(List.Mem.head _), (fun q h => absurd h List.not_mem_nil)⟩)⟩)⟩)⟩)⟩) ?_
            refine L85 ((24 - y : Int).toNat + 1) s30 x z w y Is30 Gs30 (by first | exact ⟨oq_344a1525 g33 hps30.2.1, oq_895647ec g33 hps30.2.1, oq_c4f1c48f g33 hps30.2.1, oq_0159bb48 g15 hps13, oq_f518633a g15 hps13⟩ | omega) (Nat.lt_succ_self _) ?_
            intro s34 x35 x36 x37 x38 Is34 Fs34 hs34
            have b39 : (0 : Int) ≤ iI s34 73 ∧ iI s34 73 ≤ 3 := Is34.1 73
            have b40 : (0 : Int) ≤ iI s34 90 ∧ iI s34 90 ≤ 12 := Is34.1 90
            exact w_vret X.1 q hRt (ax_d X (show cdA 218 108 = some (.return_, 1, 0, 0, 0) from rfl)) (Nat.zero_le _) (Nat.zero_le _) ⟨_, rfl, Is34, Fs34, rfl, trivial⟩
          ·
            exact w_vret X.1 q hRt (ax_d X (show cdA 218 81 = some (.return_, 1, 0, 0, 0) from rfl)) (Nat.zero_le _) (Nat.zero_le _) ⟨_, rfl, Is30, Gs30, rfl, trivial⟩
        ·
          refine z_load_n X (x := y) (show cdA 218 53 = some (.iload_n 2, 1, 0, 0, 0) from rfl) (List.Mem.tail _ (List.Mem.tail _ (List.Mem.head _))) ?_
          refine z_load_n X (x := z) (show cdA 218 54 = some (.iload_n 3, 1, 0, 0, 0) from rfl) (List.Mem.tail _ (List.Mem.tail _ (List.Mem.tail _ (List.Mem.head _)))) ?_
          refine z_icmp_gt X (t := 69) (show cdA 218 55 = some (.if_icmp .gt 14, 3, 4, 0, 0) from rfl) (by decide) ⟨by first | exact p1.1 | omega, by first | exact p1.2 | omega⟩ ⟨by first | exact p2.1 | omega, by first | exact p2.2 | omega⟩ (fun g41 => ?_) (fun g41 => ?_)
          ·
            refine z_const X (show cdA 218 69 = some (.iconst 1, 1, 0, 0, 0) from rfl) ?_
            refine z_goto X (t := 74) (show cdA 218 70 = some (.goto 4, 3, 0, 0, 0) from rfl) (by decide) ?_
            refine z_const X (show cdA 218 74 = some (.iconst 2, 1, 0, 0, 0) from rfl) ?_
            refine z_callV X 179 (rm := rmN 187) (As := [.int (Int32.ofInt 1), .int (Int32.ofInt 2)]) (st := []) (show cdA 218 75 = some (.invokevirtual 229, 3, 187, 0, 0) from rfl) rfl (by decide) rfl (by rw [E.1, E.2.1, E.2.2.1]; exact k_bad G Is27 (by first | exact Or.inr (by decide) | omega) (by first | exact ⟨by decide, by decide⟩ | omega)) ⟨by rw [E.2.2.2]; exact (show (rmN 187).frames + 1 ≤ (rmN 218).frames by decide), by rw [E.2.2.2]; exact (show 8 + (mNL (miB 187) + 11) + (rmN 187).locals ≤ (rmN 218).locals by decide), by rw [E.2.2.2]; exact (show 0 + (rmN 187).cells ≤ (rmN 218).cells by decide), by rw [E.2.2.2]; exact (show 0 + (rmN 187).slots ≤ (rmN 218).slots by decide)⟩ (Nat.le_of_ble_eq_true rfl) (fun vv s42 hq => ?_) (fun ee s42 hq => ?_)
            rotate_left
            · obtain ⟨Is42, Fs42, e43, hv, hrs42, hps42⟩ := hq; cases hv
            obtain ⟨Is42, Fs42, e43, hv, hrs42, hps42⟩ := hq
            cases hv
            have Gs42 := fm_ts Gs27 Fs42 (by decide) (by decide)
            have b44 : (0 : Int) ≤ iI s42 73 ∧ iI s42 73 ≤ 3 := Is42.1 73
            have ws42_90 : iI s42 90 = iI s27 90 := fm_i Fs42 (by decide)
            show WS k 78 [(0, .ref (A 179)), (1, .int (Int32.ofInt x)), (2, .int (Int32.ofInt y)), (3, .int (Int32.ofInt z)), (4, .int (Int32.ofInt w))] [.int (Int32.ofInt e43)] (Wd A dT s42) 0 0
            refine z_if_eq X (t := 82) (show cdA 218 78 = some (.ifCond .eq 4, 3, 0, 0, 0) from rfl) (by decide) hrs42 (fun g45 => ?_) (fun g45 => ?_)
            ·
              refine z_load_n X (x := y) (show cdA 218 82 = some (.iload_n 2, 1, 0, 0, 0) from rfl) (List.Mem.tail _ (List.Mem.tail _ (List.Mem.head _))) ?_
              refine z_store X (lv' := [(5, .int (Int32.ofInt y)), (0, .ref (A 179)), (1, .int (Int32.ofInt x)), (2, .int (Int32.ofInt y)), (3, .int (Int32.ofInt z)), (4, .int (Int32.ofInt w))]) (show cdA 218 83 = some (.istore 5, 2, 0, 0, 0) from rfl) (by decide) (fun _ h => h) ?_
              refine WS_lv (lv := [(0, .ref (A 179)), (1, .int (Int32.ofInt x)), (3, .int (Int32.ofInt z)), (4, .int (Int32.ofInt w)), (5, .int (Int32.ofInt y))]) (List.forall_mem_cons.mpr ⟨(List.Mem.tail _ (List.Mem.head _)), (List.forall_mem_cons.mpr ⟨(List.Mem.tail _ (List.Mem.tail _ (List.Mem.head _))), (List.forall_mem_cons.mpr ⟨(List.Mem.tail _ (List.Mem.tail _ (List.Mem.tail _ (List.Mem.tail _ (List.Mem.head _))))), (List.forall_mem_cons.mpr ⟨(List.Mem.tail _ (List.Mem.tail _ (List.Mem.tail _ (List.Mem.tail _ (List.Mem.tail _ (List.Mem.head _)))))), (List.forall_mem_cons.mpr ⟨(List.Mem.head _), (fun q h => absurd h List.not_mem_nil)⟩)⟩)⟩)⟩)⟩) ?_
              refine L85 ((24 - y : Int).toNat + 1) s42 x z w y Is42 Gs42 (by first | exact ⟨oq_344a1525 g45 hps42.2.1, oq_71c16c0e g41 g29 hps27 g15 hps13, oq_c4f1c48f g45 hps42.2.1, oq_043ce32e g41 g29 hps27, oq_f518633a g15 hps13⟩ | omega) (Nat.lt_succ_self _) ?_
              intro s46 x47 x48 x49 x50 Is46 Fs46 hs46
              have b51 : (0 : Int) ≤ iI s46 73 ∧ iI s46 73 ≤ 3 := Is46.1 73
              have b52 : (0 : Int) ≤ iI s46 90 ∧ iI s46 90 ≤ 12 := Is46.1 90
              exact w_vret X.1 q hRt (ax_d X (show cdA 218 108 = some (.return_, 1, 0, 0, 0) from rfl)) (Nat.zero_le _) (Nat.zero_le _) ⟨_, rfl, Is46, Fs46, rfl, trivial⟩
            ·
              exact w_vret X.1 q hRt (ax_d X (show cdA 218 81 = some (.return_, 1, 0, 0, 0) from rfl)) (Nat.zero_le _) (Nat.zero_le _) ⟨_, rfl, Is42, Gs42, rfl, trivial⟩
          ·
            refine z_load X (x := w) (show cdA 218 58 = some (.iload 4, 2, 0, 0, 0) from rfl) (List.Mem.tail _ (List.Mem.tail _ (List.Mem.tail _ (List.Mem.tail _ (List.Mem.head _))))) ?_
            refine z_const X (show cdA 218 60 = some (.iconst 0, 1, 0, 0, 0) from rfl) ?_
            refine z_bipush X (show cdA 218 61 = some (.bipush 50, 2, 0, 0, 50) from rfl) ?_
            refine z_callS X (rm := rmN 188) (As := [.int (Int32.ofInt w), .int (Int32.ofInt 0), .int (Int32.ofInt 50)]) (st := [.ref (A 179)]) (show cdA 218 63 = some (.invokestatic 209, 3, 188, 1, 0) from rfl) rfl (by rw [E.1, E.2.1, E.2.2.1]; exact k_in G Is27 (by first | exact ⟨p3.1, p3.2⟩ | omega) (by first | exact ⟨by decide, by decide⟩ | omega) (by first | exact ⟨by decide, by decide⟩ | omega)) ⟨by rw [E.2.2.2]; exact (show (rmN 188).frames + 1 ≤ (rmN 218).frames by decide), by rw [E.2.2.2]; exact (show 8 + (mNL (miB 188) + 11) + (rmN 188).locals ≤ (rmN 218).locals by decide), by rw [E.2.2.2]; exact (show 0 + (rmN 188).cells ≤ (rmN 218).cells by decide), by rw [E.2.2.2]; exact (show 0 + (rmN 188).slots ≤ (rmN 218).slots by decide)⟩ (Nat.le_of_ble_eq_true rfl) (fun vv s53 hq => ?_) (fun ee s53 hq => ?_)
            rotate_left
            · obtain ⟨Is53, Fs53, e54, hv, hrs53, hps53⟩ := hq; cases hv
            obtain ⟨Is53, Fs53, e54, hv, hrs53, hps53⟩ := hq
            cases hv
            have Gs53 := fm_ts Gs27 Fs53 (by decide) (by decide)
            have ws53_73 : iI s53 73 = iI s27 73 := fm_i Fs53 (by decide)
            have ws53_90 : iI s53 90 = iI s27 90 := fm_i Fs53 (by decide)
            show WS k 66 [(0, .ref (A 179)), (1, .int (Int32.ofInt x)), (2, .int (Int32.ofInt y)), (3, .int (Int32.ofInt z)), (4, .int (Int32.ofInt w))] [.int (Int32.ofInt e54), .ref (A 179)] (Wd A dT s53) 0 0
            have N55 : ∀ e56 : Int, (((e54 ≠ 0) ∧ e56 = 0) ∨ ((e54 = 0) ∧ e56 = 1)) → WS k 74 [(0, .ref (A 179)), (1, .int (Int32.ofInt x)), (2, .int (Int32.ofInt y)), (3, .int (Int32.ofInt z)), (4, .int (Int32.ofInt w))] [.int (Int32.ofInt e56), .ref (A 179)] (Wd A dT s53) 0 0 := by
              intro e56 he56
              have re56 : 0 ≤ e56 ∧ e56 ≤ 1 := by omega
              refine z_const X (show cdA 218 74 = some (.iconst 2, 1, 0, 0, 0) from rfl) ?_
              refine z_callV X 179 (rm := rmN 187) (As := [.int (Int32.ofInt e56), .int (Int32.ofInt 2)]) (st := []) (show cdA 218 75 = some (.invokevirtual 229, 3, 187, 0, 0) from rfl) rfl (by decide) rfl (by rw [E.1, E.2.1, E.2.2.1]; exact k_bad G Is53 (by first | exact oq_31e518ae re56.2 re56.1 | omega) (by first | exact ⟨by decide, by decide⟩ | omega)) ⟨by rw [E.2.2.2]; exact (show (rmN 187).frames + 1 ≤ (rmN 218).frames by decide), by rw [E.2.2.2]; exact (show 8 + (mNL (miB 187) + 11) + (rmN 187).locals ≤ (rmN 218).locals by decide), by rw [E.2.2.2]; exact (show 0 + (rmN 187).cells ≤ (rmN 218).cells by decide), by rw [E.2.2.2]; exact (show 0 + (rmN 187).slots ≤ (rmN 218).slots by decide)⟩ (Nat.le_of_ble_eq_true rfl) (fun vv s57 hq => ?_) (fun ee s57 hq => ?_)
              rotate_left
              · obtain ⟨Is57, Fs57, e58, hv, hrs57, hps57⟩ := hq; cases hv
              obtain ⟨Is57, Fs57, e58, hv, hrs57, hps57⟩ := hq
              cases hv
              have Gs57 := fm_ts Gs53 Fs57 (by decide) (by decide)
              have b59 : (0 : Int) ≤ iI s57 73 ∧ iI s57 73 ≤ 3 := Is57.1 73
              have ws57_90 : iI s57 90 = iI s53 90 := fm_i Fs57 (by decide)
              show WS k 78 [(0, .ref (A 179)), (1, .int (Int32.ofInt x)), (2, .int (Int32.ofInt y)), (3, .int (Int32.ofInt z)), (4, .int (Int32.ofInt w))] [.int (Int32.ofInt e58)] (Wd A dT s57) 0 0
              refine z_if_eq X (t := 82) (show cdA 218 78 = some (.ifCond .eq 4, 3, 0, 0, 0) from rfl) (by decide) hrs57 (fun g60 => ?_) (fun g60 => ?_)
              ·
                refine z_load_n X (x := y) (show cdA 218 82 = some (.iload_n 2, 1, 0, 0, 0) from rfl) (List.Mem.tail _ (List.Mem.tail _ (List.Mem.head _))) ?_
                refine z_store X (lv' := [(5, .int (Int32.ofInt y)), (0, .ref (A 179)), (1, .int (Int32.ofInt x)), (2, .int (Int32.ofInt y)), (3, .int (Int32.ofInt z)), (4, .int (Int32.ofInt w))]) (show cdA 218 83 = some (.istore 5, 2, 0, 0, 0) from rfl) (by decide) (fun _ h => h) ?_
                refine WS_lv (lv := [(0, .ref (A 179)), (1, .int (Int32.ofInt x)), (3, .int (Int32.ofInt z)), (4, .int (Int32.ofInt w)), (5, .int (Int32.ofInt y))]) (List.forall_mem_cons.mpr ⟨(List.Mem.tail _ (List.Mem.head _)), (List.forall_mem_cons.mpr ⟨(List.Mem.tail _ (List.Mem.tail _ (List.Mem.head _))), (List.forall_mem_cons.mpr ⟨(List.Mem.tail _ (List.Mem.tail _ (List.Mem.tail _ (List.Mem.tail _ (List.Mem.head _))))), (List.forall_mem_cons.mpr ⟨(List.Mem.tail _ (List.Mem.tail _ (List.Mem.tail _ (List.Mem.tail _ (List.Mem.tail _ (List.Mem.head _)))))), (List.forall_mem_cons.mpr ⟨(List.Mem.head _), (fun q h => absurd h List.not_mem_nil)⟩)⟩)⟩)⟩)⟩) ?_
                refine L85 ((24 - y : Int).toNat + 1) s57 x z w y Is57 Gs57 (by first | exact ⟨by omega, oq_e5a089c2 g29 hps27, by omega, oq_0159bb48 g15 hps13, oq_9dfdc7ac g41 g29 hps27⟩ | omega) (Nat.lt_succ_self _) ?_
                intro s61 x62 x63 x64 x65 Is61 Fs61 hs61
                have b66 : (0 : Int) ≤ iI s61 73 ∧ iI s61 73 ≤ 3 := Is61.1 73
                have b67 : (0 : Int) ≤ iI s61 90 ∧ iI s61 90 ≤ 12 := Is61.1 90
                exact w_vret X.1 q hRt (ax_d X (show cdA 218 108 = some (.return_, 1, 0, 0, 0) from rfl)) (Nat.zero_le _) (Nat.zero_le _) ⟨_, rfl, Is61, Fs61, rfl, trivial⟩
              ·
                exact w_vret X.1 q hRt (ax_d X (show cdA 218 81 = some (.return_, 1, 0, 0, 0) from rfl)) (Nat.zero_le _) (Nat.zero_le _) ⟨_, rfl, Is57, Gs57, rfl, trivial⟩
            refine z_if_ne X (t := 73) (show cdA 218 66 = some (.ifCond .ne 7, 3, 1, 0, 0) from rfl) (by decide) hrs53 (fun g68 => ?_) (fun g68 => ?_)
            ·
              refine z_const X (show cdA 218 73 = some (.iconst 0, 1, 0, 0, 0) from rfl) ?_
              exact N55 _ (Or.inl ⟨g68, rfl⟩)
            ·
              refine z_const X (show cdA 218 69 = some (.iconst 1, 1, 0, 0, 0) from rfl) ?_
              refine z_goto X (t := 74) (show cdA 218 70 = some (.goto 4, 3, 0, 0, 0) from rfl) (by decide) ?_
              exact N55 _ (Or.inr (⟨g68, rfl⟩))
  refine z_if_ne X (t := 24) (show cdA 218 17 = some (.ifCond .ne 7, 3, 1, 0, 0) from rfl) (by decide) hrs5 (fun g69 => ?_) (fun g69 => ?_)
  ·
    refine z_const X (show cdA 218 24 = some (.iconst 0, 1, 0, 0, 0) from rfl) ?_
    exact N7 _ (Or.inl ⟨g69, rfl⟩)
  ·
    refine z_const X (show cdA 218 20 = some (.iconst 1, 1, 0, 0, 0) from rfl) ?_
    refine z_goto X (t := 25) (show cdA 218 21 = some (.goto 4, 3, 0, 0, 0) from rfl) (by decide) ?_
    exact N7 _ (Or.inr (⟨g69, rfl⟩))
theorem k_mostOf (G : GX l s0 D tys a0 dT) (I : Bd s) {x y : Int} (p0 : 0 ≤ x ∧ x ≤ 11) (p1 : 0 ≤ y ∧ y ≤ 23) : CT l s0 D A dT 220 (rmN 220) [.ref (A 179), .int (Int32.ofInt x), .int (Int32.ofInt y)] s (fun o t => Bd t ∧ Fm [] [] s t ∧ ∃ e, o = .inl (some (.int (Int32.ofInt e))) ∧ rng e ∧ (0 ≤ e ∧ e ≤ 50)) := by
  refine ct_of G (by decide) (Nat.le_of_ble_eq_true rfl) (fun k X E hRt hXt q => ?_)
  show WS k 0 [(0, .ref (A 179)), (1, .int (Int32.ofInt x)), (2, .int (Int32.ofInt y))] [] _ 0 0
  have F : Fm [] [] s s := fm_rf _ _ s
  have L12 : ∀ (n : Nat) (t : PS) (xv yv nv c : Int), Bd t → Fm [] [] s t → ((0 ≤ xv ∧ xv ≤ 11) ∧ (0 ≤ yv ∧ yv ≤ 23) ∧ (0 ≤ nv ∧ nv ≤ 50) ∧ -2 ≤ c ∧ c ≤ 26) → (26 - c : Int).toNat < n → (∀ (t' : PS) (xv' yv' nv' c' : Int), Bd t' → Fm [] [] s t' → ((0 ≤ xv' ∧ xv' ≤ 11) ∧ (0 ≤ yv' ∧ yv' ≤ 23) ∧ (0 ≤ nv' ∧ nv' ≤ 50) ∧ -2 ≤ c' ∧ c' ≤ 26) → WS k 65 [(0, .ref (A 179)), (1, .int (Int32.ofInt xv')), (2, .int (Int32.ofInt yv')), (3, .int (Int32.ofInt nv')), (4, .int (Int32.ofInt c'))] [] (Wd A dT t') 0 0) → WS k 12 [(0, .ref (A 179)), (1, .int (Int32.ofInt xv)), (2, .int (Int32.ofInt yv)), (3, .int (Int32.ofInt nv)), (4, .int (Int32.ofInt c))] [] (Wd A dT t) 0 0 := by
    intro n
    induction n with
    | zero =>
      intro t xv yv nv c I F hi hm kx
      exact absurd hm (Nat.not_lt_zero _)
    | succ n ih =>
      intro t xv yv nv c I F hi hm kx
      refine z_load X (x := c) (show cdA 220 12 = some (.iload 4, 2, 0, 0, 0) from rfl) (List.Mem.tail _ (List.Mem.tail _ (List.Mem.tail _ (List.Mem.tail _ (List.Mem.head _))))) ?_
      refine z_load_n X (x := yv) (show cdA 220 14 = some (.iload_n 2, 1, 0, 0, 0) from rfl) (List.Mem.tail _ (List.Mem.tail _ (List.Mem.head _))) ?_
      refine z_aload_n X (x := A 179) (show cdA 220 15 = some (.aload_n 0, 1, 0, 0, 0) from rfl) (List.Mem.head _) ?_
      refine s_getR X 179 (show cdA 220 16 = some (.getfield 38, 3, 12, 24, 0) from rfl) (by decide) rfl rfl ?_
      refine z_load_n X (x := xv) (show cdA 220 19 = some (.iload_n 1, 1, 0, 0, 0) from rfl) (List.Mem.tail _ (List.Mem.head _)) ?_
      refine z_ald X 186 (show cdA 220 20 = some (.iaload, 1, 0, 0, 0) from rfl) (by decide) rfl (by first | exact hi.1.1 | omega) (show xv < 12 by first | exact oq_0ddfcfee hi.1.2 | omega) (by decide) ?_
      have b1001 : (0 : Int) ≤ iC t 163 (xv).toNat ∧ iC t 163 (xv).toNat ≤ 2 := I.2 163 _ (show (xv).toNat < 12 by first | exact oq_9c5fa447 hi.1.2 | omega)
      refine z_add X (show cdA 220 21 = some (.iadd, 1, 0, 0, 0) from rfl) ?_
      refine z_icmp_gt X (t := 65) (show cdA 220 22 = some (.if_icmp .gt 43, 3, 4, 0, 0) from rfl) (by decide) ⟨by first | exact oq_f81b6609 hi.2.2.2.1 | omega, by first | exact oq_9e7d853b hi.2.2.2.2 | omega⟩ ⟨by first | exact oq_34aac425 hi.2.1.1 b1001.1 | omega, by first | exact oq_b5a47671 hi.2.1.2 b1001.2 | omega⟩ (fun g1002 => ?_) (fun g1002 => ?_)
      ·
        refine WS_lv (lv := [(0, .ref (A 179)), (1, .int (Int32.ofInt xv)), (2, .int (Int32.ofInt yv)), (3, .int (Int32.ofInt nv)), (4, .int (Int32.ofInt c))]) (List.forall_mem_cons.mpr ⟨(List.Mem.head _), (List.forall_mem_cons.mpr ⟨(List.Mem.tail _ (List.Mem.head _)), (List.forall_mem_cons.mpr ⟨(List.Mem.tail _ (List.Mem.tail _ (List.Mem.head _))), (List.forall_mem_cons.mpr ⟨(List.Mem.tail _ (List.Mem.tail _ (List.Mem.tail _ (List.Mem.head _)))), (List.forall_mem_cons.mpr ⟨(List.Mem.tail _ (List.Mem.tail _ (List.Mem.tail _ (List.Mem.tail _ (List.Mem.head _))))), (fun q h => absurd h List.not_mem_nil)⟩)⟩)⟩)⟩)⟩) ?_
        exact kx _ xv yv nv c I F (by first | exact ⟨And.intro (hi.1.1) (hi.1.2), And.intro (hi.2.1.1) (hi.2.1.2), And.intro (hi.2.2.1.1) (hi.2.2.1.2), hi.2.2.2.1, hi.2.2.2.2⟩ | omega)
      ·
        refine z_load X (x := c) (show cdA 220 25 = some (.iload 4, 2, 0, 0, 0) from rfl) (List.Mem.tail _ (List.Mem.tail _ (List.Mem.tail _ (List.Mem.tail _ (List.Mem.head _))))) ?_
        refine z_const X (show cdA 220 27 = some (.iconst 0, 1, 0, 0, 0) from rfl) ?_
        refine z_bipush X (show cdA 220 28 = some (.bipush 23, 2, 0, 0, 23) from rfl) ?_
        refine z_callS X (rm := rmN 188) (As := [.int (Int32.ofInt c), .int (Int32.ofInt 0), .int (Int32.ofInt 23)]) (st := []) (show cdA 220 30 = some (.invokestatic 209, 3, 188, 1, 0) from rfl) rfl (by rw [E.1, E.2.1, E.2.2.1]; exact k_in G I (by first | exact ⟨oq_f81b6609 hi.2.2.2.1, oq_9e7d853b hi.2.2.2.2⟩ | omega) (by first | exact ⟨by decide, by decide⟩ | omega) (by first | exact ⟨by decide, by decide⟩ | omega)) ⟨by rw [E.2.2.2]; exact (show (rmN 188).frames + 1 ≤ (rmN 220).frames by decide), by rw [E.2.2.2]; exact (show 8 + (mNL (miB 188) + 11) + (rmN 188).locals ≤ (rmN 220).locals by decide), by rw [E.2.2.2]; exact (show 0 + (rmN 188).cells ≤ (rmN 220).cells by decide), by rw [E.2.2.2]; exact (show 0 + (rmN 188).slots ≤ (rmN 220).slots by decide)⟩ (Nat.le_of_ble_eq_true rfl) (fun vv s1003 hq => ?_) (fun ee s1003 hq => ?_)
        rotate_left
        · obtain ⟨Is1003, Fs1003, e1004, hv, hrs1003, hps1003⟩ := hq; cases hv
        obtain ⟨Is1003, Fs1003, e1004, hv, hrs1003, hps1003⟩ := hq
        cases hv
        have Gs1003 := fm_ts F Fs1003 (by decide) (by decide)
        show WS k 33 [(0, .ref (A 179)), (1, .int (Int32.ofInt xv)), (2, .int (Int32.ofInt yv)), (3, .int (Int32.ofInt nv)), (4, .int (Int32.ofInt c))] [.int (Int32.ofInt e1004)] (Wd A dT s1003) 0 0
        refine z_if_eq X (t := 59) (show cdA 220 33 = some (.ifCond .eq 26, 3, 0, 0, 0) from rfl) (by decide) hrs1003 (fun g1005 => ?_) (fun g1005 => ?_)
        ·
          refine z_inc X (x := c) (lv' := [(4, .int (Int32.ofInt (c + 1))), (0, .ref (A 179)), (1, .int (Int32.ofInt xv)), (2, .int (Int32.ofInt yv)), (3, .int (Int32.ofInt nv))]) (show cdA 220 59 = some (.iinc 4 1, 3, 0, 0, 0) from rfl) (by decide) (List.Mem.tail _ (List.Mem.tail _ (List.Mem.tail _ (List.Mem.tail _ (List.Mem.head _))))) (fun _ h => h) ?_
          refine z_goto X (t := 12) (show cdA 220 62 = some (.goto (-50), 3, 0, 0, 0) from rfl) (by decide) ?_
          refine WS_lv (lv := [(0, .ref (A 179)), (1, .int (Int32.ofInt xv)), (2, .int (Int32.ofInt yv)), (3, .int (Int32.ofInt nv)), (4, .int (Int32.ofInt (c + 1)))]) (List.forall_mem_cons.mpr ⟨(List.Mem.tail _ (List.Mem.head _)), (List.forall_mem_cons.mpr ⟨(List.Mem.tail _ (List.Mem.tail _ (List.Mem.head _))), (List.forall_mem_cons.mpr ⟨(List.Mem.tail _ (List.Mem.tail _ (List.Mem.tail _ (List.Mem.head _)))), (List.forall_mem_cons.mpr ⟨(List.Mem.tail _ (List.Mem.tail _ (List.Mem.tail _ (List.Mem.tail _ (List.Mem.head _))))), (List.forall_mem_cons.mpr ⟨(List.Mem.head _), (fun q h => absurd h List.not_mem_nil)⟩)⟩)⟩)⟩)⟩) ?_
          exact ih _ xv yv nv (c + 1) Is1003 Gs1003 (by first | exact ⟨And.intro (hi.1.1) (hi.1.2), And.intro (hi.2.1.1) (hi.2.1.2), And.intro (hi.2.2.1.1) (hi.2.2.1.2), oq_826c3458 hi.2.2.2.1, oq_78fc2d48 g1002 hi.2.1.2 b1001.2⟩ | omega) (by first | exact qk_me hm (by decide) (oq_5c7f6a1c g1002 hi.2.1.2 b1001.2) | omega) kx
        ·
          refine z_aload_n X (x := A 179) (show cdA 220 36 = some (.aload_n 0, 1, 0, 0, 0) from rfl) (List.Mem.head _) ?_
          refine s_getR X 179 (show cdA 220 37 = some (.getfield 55, 3, 12, 30, 0) from rfl) (by decide) rfl rfl ?_
          refine z_load_n X (x := xv) (show cdA 220 40 = some (.iload_n 1, 1, 0, 0, 0) from rfl) (List.Mem.tail _ (List.Mem.head _)) ?_
          refine z_aald X rw_215 (show cdA 220 41 = some (.aaload, 1, 0, 0, 0) from rfl) (by first | exact hi.1.1 | omega) (show xv < 12 by first | exact oq_0ddfcfee hi.1.2 | omega) (by decide) ?_
          refine z_load X (x := c) (show cdA 220 42 = some (.iload 4, 2, 0, 0, 0) from rfl) (List.Mem.tail _ (List.Mem.tail _ (List.Mem.tail _ (List.Mem.tail _ (List.Mem.head _))))) ?_
          refine z_ald2 X rw_215 (show cdA 220 44 = some (.iaload, 1, 0, 0, 0) from rfl) (show (xv : Int).toNat < 12 by first | exact oq_9c5fa447 hi.1.2 | omega) (by first | exact oq_0159bb48 g1005 hps1003 | omega) (show c < 24 by first | exact oq_127752ee g1005 hps1003 | omega) (by decide) ?_
          have b1006 : (0 : Int) ≤ (iC s1003 (190 + (xv : Int).toNat) (c : Int).toNat) ∧ (iC s1003 (190 + (xv : Int).toNat) (c : Int).toNat) ≤ 50 := rw_bd rw_215 Is1003 (show (xv : Int).toNat < 12 by first | exact oq_9c5fa447 hi.1.2 | omega) (show (c : Int).toNat < 24 by first | exact oq_200d9360 g1005 hps1003 | omega)
          refine z_load_n X (x := nv) (show cdA 220 45 = some (.iload_n 3, 1, 0, 0, 0) from rfl) (List.Mem.tail _ (List.Mem.tail _ (List.Mem.tail _ (List.Mem.head _)))) ?_
          refine z_icmp_le X (t := 59) (show cdA 220 46 = some (.if_icmp .le 13, 3, 5, 0, 0) from rfl) (by decide) (rng_to _) ⟨by first | exact oq_fa4e5087 hi.2.2.1.1 | omega, by first | exact oq_cbe526b3 hi.2.2.1.2 | omega⟩ (fun g1007 => ?_) (fun g1007 => ?_)
          ·
            refine z_inc X (x := c) (lv' := [(4, .int (Int32.ofInt (c + 1))), (0, .ref (A 179)), (1, .int (Int32.ofInt xv)), (2, .int (Int32.ofInt yv)), (3, .int (Int32.ofInt nv))]) (show cdA 220 59 = some (.iinc 4 1, 3, 0, 0, 0) from rfl) (by decide) (List.Mem.tail _ (List.Mem.tail _ (List.Mem.tail _ (List.Mem.tail _ (List.Mem.head _))))) (fun _ h => h) ?_
            refine z_goto X (t := 12) (show cdA 220 62 = some (.goto (-50), 3, 0, 0, 0) from rfl) (by decide) ?_
            refine WS_lv (lv := [(0, .ref (A 179)), (1, .int (Int32.ofInt xv)), (2, .int (Int32.ofInt yv)), (3, .int (Int32.ofInt nv)), (4, .int (Int32.ofInt (c + 1)))]) (List.forall_mem_cons.mpr ⟨(List.Mem.tail _ (List.Mem.head _)), (List.forall_mem_cons.mpr ⟨(List.Mem.tail _ (List.Mem.tail _ (List.Mem.head _))), (List.forall_mem_cons.mpr ⟨(List.Mem.tail _ (List.Mem.tail _ (List.Mem.tail _ (List.Mem.head _)))), (List.forall_mem_cons.mpr ⟨(List.Mem.tail _ (List.Mem.tail _ (List.Mem.tail _ (List.Mem.tail _ (List.Mem.head _))))), (List.forall_mem_cons.mpr ⟨(List.Mem.head _), (fun q h => absurd h List.not_mem_nil)⟩)⟩)⟩)⟩)⟩) ?_
            exact ih _ xv yv nv (c + 1) Is1003 Gs1003 (by first | exact ⟨And.intro (hi.1.1) (hi.1.2), And.intro (hi.2.1.1) (hi.2.1.2), And.intro (hi.2.2.1.1) (hi.2.2.1.2), oq_826c3458 hi.2.2.2.1, oq_78fc2d48 g1002 hi.2.1.2 b1001.2⟩ | omega) (by first | exact qk_me hm (by decide) (oq_5c7f6a1c g1002 hi.2.1.2 b1001.2) | omega) kx
          ·
            refine z_aload_n X (x := A 179) (show cdA 220 49 = some (.aload_n 0, 1, 0, 0, 0) from rfl) (List.Mem.head _) ?_
            refine s_getR X 179 (show cdA 220 50 = some (.getfield 55, 3, 12, 30, 0) from rfl) (by decide) rfl rfl ?_
            refine z_load_n X (x := xv) (show cdA 220 53 = some (.iload_n 1, 1, 0, 0, 0) from rfl) (List.Mem.tail _ (List.Mem.head _)) ?_
            refine z_aald X rw_215 (show cdA 220 54 = some (.aaload, 1, 0, 0, 0) from rfl) (by first | exact hi.1.1 | omega) (show xv < 12 by first | exact oq_0ddfcfee hi.1.2 | omega) (by decide) ?_
            refine z_load X (x := c) (show cdA 220 55 = some (.iload 4, 2, 0, 0, 0) from rfl) (List.Mem.tail _ (List.Mem.tail _ (List.Mem.tail _ (List.Mem.tail _ (List.Mem.head _))))) ?_
            refine z_ald2 X rw_215 (show cdA 220 57 = some (.iaload, 1, 0, 0, 0) from rfl) (show (xv : Int).toNat < 12 by first | exact oq_9c5fa447 hi.1.2 | omega) (by first | exact oq_0159bb48 g1005 hps1003 | omega) (show c < 24 by first | exact oq_127752ee g1005 hps1003 | omega) (by decide) ?_
            have b1008 : (0 : Int) ≤ (iC s1003 (190 + (xv : Int).toNat) (c : Int).toNat) ∧ (iC s1003 (190 + (xv : Int).toNat) (c : Int).toNat) ≤ 50 := rw_bd rw_215 Is1003 (show (xv : Int).toNat < 12 by first | exact oq_9c5fa447 hi.1.2 | omega) (show (c : Int).toNat < 24 by first | exact oq_200d9360 g1005 hps1003 | omega)
            refine z_store_n X (lv' := [(3, .int (Int32.ofInt (iC s1003 (190 + (xv : Int).toNat) (c : Int).toNat))), (0, .ref (A 179)), (1, .int (Int32.ofInt xv)), (2, .int (Int32.ofInt yv)), (4, .int (Int32.ofInt c))]) (show cdA 220 58 = some (.istore_n 3, 1, 0, 0, 0) from rfl) (by decide) (fun _ h => h) ?_
            refine z_inc X (x := c) (lv' := [(4, .int (Int32.ofInt (c + 1))), (3, .int (Int32.ofInt (iC s1003 (190 + (xv : Int).toNat) (c : Int).toNat))), (0, .ref (A 179)), (1, .int (Int32.ofInt xv)), (2, .int (Int32.ofInt yv))]) (show cdA 220 59 = some (.iinc 4 1, 3, 0, 0, 0) from rfl) (by decide) (List.Mem.tail _ (List.Mem.tail _ (List.Mem.tail _ (List.Mem.tail _ (List.Mem.head _))))) (fun _ h => h) ?_
            refine z_goto X (t := 12) (show cdA 220 62 = some (.goto (-50), 3, 0, 0, 0) from rfl) (by decide) ?_
            refine WS_lv (lv := [(0, .ref (A 179)), (1, .int (Int32.ofInt xv)), (2, .int (Int32.ofInt yv)), (3, .int (Int32.ofInt (iC s1003 (190 + (xv : Int).toNat) (c : Int).toNat))), (4, .int (Int32.ofInt (c + 1)))]) (List.forall_mem_cons.mpr ⟨(List.Mem.tail _ (List.Mem.tail _ (List.Mem.head _))), (List.forall_mem_cons.mpr ⟨(List.Mem.tail _ (List.Mem.tail _ (List.Mem.tail _ (List.Mem.head _)))), (List.forall_mem_cons.mpr ⟨(List.Mem.tail _ (List.Mem.tail _ (List.Mem.tail _ (List.Mem.tail _ (List.Mem.head _))))), (List.forall_mem_cons.mpr ⟨(List.Mem.tail _ (List.Mem.head _)), (List.forall_mem_cons.mpr ⟨(List.Mem.head _), (fun q h => absurd h List.not_mem_nil)⟩)⟩)⟩)⟩)⟩) ?_
            exact ih _ xv yv (iC s1003 (190 + (xv : Int).toNat) (c : Int).toNat) (c + 1) Is1003 Gs1003 (by first | exact ⟨And.intro (hi.1.1) (hi.1.2), And.intro (hi.2.1.1) (hi.2.1.2), And.intro (b1008.1) (b1008.2), oq_826c3458 hi.2.2.2.1, oq_78fc2d48 g1002 hi.2.1.2 b1001.2⟩ | omega) (by first | exact qk_me hm (by decide) (oq_5c7f6a1c g1002 hi.2.1.2 b1001.2) | omega) kx
  refine z_const X (show cdA 220 0 = some (.iconst 0, 1, 0, 0, 0) from rfl) ?_
  refine z_store_n X (lv' := [(3, .int (Int32.ofInt 0)), (0, .ref (A 179)), (1, .int (Int32.ofInt x)), (2, .int (Int32.ofInt y))]) (show cdA 220 1 = some (.istore_n 3, 1, 0, 0, 0) from rfl) (by decide) (fun _ h => h) ?_
  refine z_load_n X (x := y) (show cdA 220 2 = some (.iload_n 2, 1, 0, 0, 0) from rfl) (List.Mem.tail _ (List.Mem.tail _ (List.Mem.tail _ (List.Mem.head _)))) ?_
  refine z_aload_n X (x := A 179) (show cdA 220 3 = some (.aload_n 0, 1, 0, 0, 0) from rfl) (List.Mem.tail _ (List.Mem.head _)) ?_
  refine s_getR X 179 (show cdA 220 4 = some (.getfield 41, 3, 12, 25, 0) from rfl) (by decide) rfl rfl ?_
  refine z_load_n X (x := x) (show cdA 220 7 = some (.iload_n 1, 1, 0, 0, 0) from rfl) (List.Mem.tail _ (List.Mem.tail _ (List.Mem.head _))) ?_
  refine z_ald X 187 (show cdA 220 8 = some (.iaload, 1, 0, 0, 0) from rfl) (by decide) rfl (by first | exact p0.1 | omega) (show x < 12 by first | exact oq_0ddfcfee p0.2 | omega) (by decide) ?_
  have b1 : (0 : Int) ≤ iC s 164 (x).toNat ∧ iC s 164 (x).toNat ≤ 2 := I.2 164 _ (show (x).toNat < 12 by first | exact oq_9c5fa447 p0.2 | omega)
  refine z_sub X (show cdA 220 9 = some (.isub, 1, 0, 0, 0) from rfl) ?_
  refine z_store X (lv' := [(4, .int (Int32.ofInt (y - (iC s 164 (x).toNat)))), (3, .int (Int32.ofInt 0)), (0, .ref (A 179)), (1, .int (Int32.ofInt x)), (2, .int (Int32.ofInt y))]) (show cdA 220 10 = some (.istore 4, 2, 0, 0, 0) from rfl) (by decide) (fun _ h => h) ?_
  refine WS_lv (lv := [(0, .ref (A 179)), (1, .int (Int32.ofInt x)), (2, .int (Int32.ofInt y)), (3, .int (Int32.ofInt 0)), (4, .int (Int32.ofInt (y - (iC s 164 (x).toNat))))]) (List.forall_mem_cons.mpr ⟨(List.Mem.tail _ (List.Mem.tail _ (List.Mem.head _))), (List.forall_mem_cons.mpr ⟨(List.Mem.tail _ (List.Mem.tail _ (List.Mem.tail _ (List.Mem.head _)))), (List.forall_mem_cons.mpr ⟨(List.Mem.tail _ (List.Mem.tail _ (List.Mem.tail _ (List.Mem.tail _ (List.Mem.head _))))), (List.forall_mem_cons.mpr ⟨(List.Mem.tail _ (List.Mem.head _)), (List.forall_mem_cons.mpr ⟨(List.Mem.head _), (fun q h => absurd h List.not_mem_nil)⟩)⟩)⟩)⟩)⟩) ?_
  refine L12 ((26 - (y - (iC s 164 (x).toNat)) : Int).toNat + 1) s x y 0 (y - (iC s 164 (x).toNat)) I F (by first | exact ⟨And.intro (p0.1) (p0.2), And.intro (p1.1) (p1.2), And.intro (by decide) (by decide), oq_15fc5886 p1.1 b1.2, oq_0fb31b58 p1.2 b1.1⟩ | omega) (Nat.lt_succ_self _) ?_
  intro s2 x3 x4 x5 x6 Is2 Fs2 hs2
  refine z_load_n X (x := x5) (show cdA 220 65 = some (.iload_n 3, 1, 0, 0, 0) from rfl) (List.Mem.tail _ (List.Mem.tail _ (List.Mem.tail _ (List.Mem.head _)))) ?_
  exact w_iret X.1 q hRt rfl (ax_d X (show cdA 220 66 = some (.ireturn, 1, 0, 0, 0) from rfl)) (Nat.zero_le _) (Nat.zero_le _) ⟨_, rfl, Is2, Fs2, x5, rfl, ⟨by first | exact oq_fa4e5087 hs2.2.2.1.1 | omega, by first | exact oq_cbe526b3 hs2.2.2.1.2 | omega⟩, by first | exact ⟨hs2.2.2.1.1, hs2.2.2.1.2⟩ | omega⟩
theorem k_most (G : GX l s0 D tys a0 dT) (I : Bd s) {x y : Int} (p0 : rng x) (p1 : rng y) : CT l s0 D A dT 221 (rmN 221) [.ref (A 179), .int (Int32.ofInt x), .int (Int32.ofInt y)] s (fun o t => Bd t ∧ Fm [73] [] s t ∧ ∃ e, o = .inl (some (.int (Int32.ofInt e))) ∧ rng e ∧ (True)) := by
  refine ct_of G (by decide) (Nat.le_of_ble_eq_true rfl) (fun k X E hRt hXt q => ?_)
  show WS k 0 [(0, .ref (A 179)), (1, .int (Int32.ofInt x)), (2, .int (Int32.ofInt y))] [] _ 0 0
  have F : Fm [73] [] s s := fm_rf _ _ s
  have b1 : (0 : Int) ≤ iI s 73 ∧ iI s 73 ≤ 3 := I.1 73
  have b2 : (0 : Int) ≤ iI s 90 ∧ iI s 90 ≤ 12 := I.1 90
  refine z_aload_n X (x := A 179) (show cdA 221 0 = some (.aload_n 0, 1, 0, 0, 0) from rfl) (List.Mem.head _) ?_
  refine z_const X (show cdA 221 1 = some (.iconst 0, 1, 0, 0, 0) from rfl) ?_
  refine s_putI X 179 (show cdA 221 2 = some (.putfield 172, 3, 12, 0, 0) from rfl) (by decide) rfl rfl (by decide) rfl rfl rfl ?_
  obtain ⟨s3, hs3⟩ : ∃ x0, x0 = uI s 73 (Int32.ofInt 0) := ⟨_, rfl⟩
  rw [← hs3]
  have Is3 : Bd s3 := by rw [hs3]; exact bd_I I (show (0 : Int) ≤ 0 ∧ 0 ≤ 3 by first | exact ⟨by decide, by decide⟩ | omega) (by decide)
  have Fs3 := fm_I (x := Int32.ofInt 0) F (show 73 ∈ _ by decide)
  rw [← hs3] at Fs3
  have vs3 : iI s3 73 = 0 := by rw [hs3]; exact iI_u (by decide)
  have ws3_90 : iI s3 90 = iI s 90 := by rw [hs3]; rfl
  refine z_aload_n X (x := A 179) (show cdA 221 5 = some (.aload_n 0, 1, 0, 0, 0) from rfl) (List.Mem.head _) ?_
  refine z_load_n X (x := x) (show cdA 221 6 = some (.iload_n 1, 1, 0, 0, 0) from rfl) (List.Mem.tail _ (List.Mem.head _)) ?_
  refine z_const X (show cdA 221 7 = some (.iconst 0, 1, 0, 0, 0) from rfl) ?_
  refine z_aload_n X (x := A 179) (show cdA 221 8 = some (.aload_n 0, 1, 0, 0, 0) from rfl) (List.Mem.head _) ?_
  refine z_getI X 179 (show cdA 221 9 = some (.getfield 233, 3, 12, 22, 0) from rfl) (by decide) rfl rfl ?_
  have b4 : (0 : Int) ≤ iI s3 90 ∧ iI s3 90 ≤ 12 := Is3.1 90
  refine z_const X (show cdA 221 12 = some (.iconst 1, 1, 0, 0, 0) from rfl) ?_
  refine z_sub X (show cdA 221 13 = some (.isub, 1, 0, 0, 0) from rfl) ?_
  refine z_callS X (rm := rmN 188) (As := [.int (Int32.ofInt x), .int (Int32.ofInt 0), .int (Int32.ofInt ((iI s3 90) - 1))]) (st := [.ref (A 179)]) (show cdA 221 14 = some (.invokestatic 209, 3, 188, 1, 0) from rfl) rfl (by rw [E.1, E.2.1, E.2.2.1]; exact k_in G Is3 (by first | exact ⟨p0.1, p0.2⟩ | omega) (by first | exact ⟨by decide, by decide⟩ | omega) (by first | exact ⟨oq_c1e961c7 b4.1, oq_d526ebd3 b4.2⟩ | omega)) ⟨by rw [E.2.2.2]; exact (show (rmN 188).frames + 1 ≤ (rmN 221).frames by decide), by rw [E.2.2.2]; exact (show 8 + (mNL (miB 188) + 11) + (rmN 188).locals ≤ (rmN 221).locals by decide), by rw [E.2.2.2]; exact (show 0 + (rmN 188).cells ≤ (rmN 221).cells by decide), by rw [E.2.2.2]; exact (show 0 + (rmN 188).slots ≤ (rmN 221).slots by decide)⟩ (Nat.le_of_ble_eq_true rfl) (fun vv s5 hq => ?_) (fun ee s5 hq => ?_)
  rotate_left
  · obtain ⟨Is5, Fs5, e6, hv, hrs5, hps5⟩ := hq; cases hv
  obtain ⟨Is5, Fs5, e6, hv, hrs5, hps5⟩ := hq
  cases hv
  have Gs5 := fm_ts Fs3 Fs5 (by decide) (by decide)
  have ws5_73 : iI s5 73 = iI s3 73 := fm_i Fs5 (by decide)
  have ws5_90 : iI s5 90 = iI s3 90 := fm_i Fs5 (by decide)
  show WS k 17 [(0, .ref (A 179)), (1, .int (Int32.ofInt x)), (2, .int (Int32.ofInt y))] [.int (Int32.ofInt e6), .ref (A 179)] (Wd A dT s5) 0 0
  have N7 : ∀ e8 : Int, (((e6 ≠ 0) ∧ e8 = 0) ∨ ((e6 = 0) ∧ e8 = 1)) → WS k 25 [(0, .ref (A 179)), (1, .int (Int32.ofInt x)), (2, .int (Int32.ofInt y))] [.int (Int32.ofInt e8), .ref (A 179)] (Wd A dT s5) 0 0 := by
    intro e8 he8
    have re8 : 0 ≤ e8 ∧ e8 ≤ 1 := by omega
    refine z_const X (show cdA 221 25 = some (.iconst 1, 1, 0, 0, 0) from rfl) ?_
    refine z_callV X 179 (rm := rmN 187) (As := [.int (Int32.ofInt e8), .int (Int32.ofInt 1)]) (st := []) (show cdA 221 26 = some (.invokevirtual 229, 3, 187, 0, 0) from rfl) rfl (by decide) rfl (by rw [E.1, E.2.1, E.2.2.1]; exact k_bad G Is5 (by first | exact oq_31e518ae re8.2 re8.1 | omega) (by first | exact ⟨by decide, by decide⟩ | omega)) ⟨by rw [E.2.2.2]; exact (show (rmN 187).frames + 1 ≤ (rmN 221).frames by decide), by rw [E.2.2.2]; exact (show 8 + (mNL (miB 187) + 11) + (rmN 187).locals ≤ (rmN 221).locals by decide), by rw [E.2.2.2]; exact (show 0 + (rmN 187).cells ≤ (rmN 221).cells by decide), by rw [E.2.2.2]; exact (show 0 + (rmN 187).slots ≤ (rmN 221).slots by decide)⟩ (Nat.le_of_ble_eq_true rfl) (fun vv s9 hq => ?_) (fun ee s9 hq => ?_)
    rotate_left
    · obtain ⟨Is9, Fs9, e10, hv, hrs9, hps9⟩ := hq; cases hv
    obtain ⟨Is9, Fs9, e10, hv, hrs9, hps9⟩ := hq
    cases hv
    have Gs9 := fm_ts Gs5 Fs9 (by decide) (by decide)
    have b11 : (0 : Int) ≤ iI s9 73 ∧ iI s9 73 ≤ 3 := Is9.1 73
    have ws9_90 : iI s9 90 = iI s5 90 := fm_i Fs9 (by decide)
    show WS k 29 [(0, .ref (A 179)), (1, .int (Int32.ofInt x)), (2, .int (Int32.ofInt y))] [.int (Int32.ofInt e10)] (Wd A dT s9) 0 0
    refine z_if_ne X (t := 55) (show cdA 221 29 = some (.ifCond .ne 26, 3, 1, 0, 0) from rfl) (by decide) hrs9 (fun g12 => ?_) (fun g12 => ?_)
    ·
      refine z_const X (show cdA 221 55 = some (.iconst 0, 1, 0, 0, 0) from rfl) ?_
      exact w_iret X.1 q hRt rfl (ax_d X (show cdA 221 56 = some (.ireturn, 1, 0, 0, 0) from rfl)) (Nat.zero_le _) (Nat.zero_le _) ⟨_, rfl, Is9, Gs9, 0, rfl, (by decide), trivial⟩
    ·
      refine z_aload_n X (x := A 179) (show cdA 221 32 = some (.aload_n 0, 1, 0, 0, 0) from rfl) (List.Mem.head _) ?_
      refine z_load_n X (x := y) (show cdA 221 33 = some (.iload_n 2, 1, 0, 0, 0) from rfl) (List.Mem.tail _ (List.Mem.tail _ (List.Mem.head _))) ?_
      refine z_const X (show cdA 221 34 = some (.iconst 0, 1, 0, 0, 0) from rfl) ?_
      refine z_bipush X (show cdA 221 35 = some (.bipush 23, 2, 0, 0, 23) from rfl) ?_
      refine z_callS X (rm := rmN 188) (As := [.int (Int32.ofInt y), .int (Int32.ofInt 0), .int (Int32.ofInt 23)]) (st := [.ref (A 179)]) (show cdA 221 37 = some (.invokestatic 209, 3, 188, 1, 0) from rfl) rfl (by rw [E.1, E.2.1, E.2.2.1]; exact k_in G Is9 (by first | exact ⟨p1.1, p1.2⟩ | omega) (by first | exact ⟨by decide, by decide⟩ | omega) (by first | exact ⟨by decide, by decide⟩ | omega)) ⟨by rw [E.2.2.2]; exact (show (rmN 188).frames + 1 ≤ (rmN 221).frames by decide), by rw [E.2.2.2]; exact (show 8 + (mNL (miB 188) + 11) + (rmN 188).locals ≤ (rmN 221).locals by decide), by rw [E.2.2.2]; exact (show 0 + (rmN 188).cells ≤ (rmN 221).cells by decide), by rw [E.2.2.2]; exact (show 0 + (rmN 188).slots ≤ (rmN 221).slots by decide)⟩ (Nat.le_of_ble_eq_true rfl) (fun vv s13 hq => ?_) (fun ee s13 hq => ?_)
      rotate_left
      · obtain ⟨Is13, Fs13, e14, hv, hrs13, hps13⟩ := hq; cases hv
      obtain ⟨Is13, Fs13, e14, hv, hrs13, hps13⟩ := hq
      cases hv
      have Gs13 := fm_ts Gs9 Fs13 (by decide) (by decide)
      have ws13_73 : iI s13 73 = iI s9 73 := fm_i Fs13 (by decide)
      have ws13_90 : iI s13 90 = iI s9 90 := fm_i Fs13 (by decide)
      show WS k 40 [(0, .ref (A 179)), (1, .int (Int32.ofInt x)), (2, .int (Int32.ofInt y))] [.int (Int32.ofInt e14), .ref (A 179)] (Wd A dT s13) 0 0
      have N15 : ∀ e16 : Int, (((e14 ≠ 0) ∧ e16 = 0) ∨ ((e14 = 0) ∧ e16 = 1)) → WS k 48 [(0, .ref (A 179)), (1, .int (Int32.ofInt x)), (2, .int (Int32.ofInt y))] [.int (Int32.ofInt e16), .ref (A 179)] (Wd A dT s13) 0 0 := by
        intro e16 he16
        have re16 : 0 ≤ e16 ∧ e16 ≤ 1 := by omega
        refine z_const X (show cdA 221 48 = some (.iconst 2, 1, 0, 0, 0) from rfl) ?_
        refine z_callV X 179 (rm := rmN 187) (As := [.int (Int32.ofInt e16), .int (Int32.ofInt 2)]) (st := []) (show cdA 221 49 = some (.invokevirtual 229, 3, 187, 0, 0) from rfl) rfl (by decide) rfl (by rw [E.1, E.2.1, E.2.2.1]; exact k_bad G Is13 (by first | exact oq_31e518ae re16.2 re16.1 | omega) (by first | exact ⟨by decide, by decide⟩ | omega)) ⟨by rw [E.2.2.2]; exact (show (rmN 187).frames + 1 ≤ (rmN 221).frames by decide), by rw [E.2.2.2]; exact (show 8 + (mNL (miB 187) + 11) + (rmN 187).locals ≤ (rmN 221).locals by decide), by rw [E.2.2.2]; exact (show 0 + (rmN 187).cells ≤ (rmN 221).cells by decide), by rw [E.2.2.2]; exact (show 0 + (rmN 187).slots ≤ (rmN 221).slots by decide)⟩ (Nat.le_of_ble_eq_true rfl) (fun vv s17 hq => ?_) (fun ee s17 hq => ?_)
        rotate_left
        · obtain ⟨Is17, Fs17, e18, hv, hrs17, hps17⟩ := hq; cases hv
        obtain ⟨Is17, Fs17, e18, hv, hrs17, hps17⟩ := hq
        cases hv
        have Gs17 := fm_ts Gs13 Fs17 (by decide) (by decide)
        have b19 : (0 : Int) ≤ iI s17 73 ∧ iI s17 73 ≤ 3 := Is17.1 73
        have ws17_90 : iI s17 90 = iI s13 90 := fm_i Fs17 (by decide)
        show WS k 52 [(0, .ref (A 179)), (1, .int (Int32.ofInt x)), (2, .int (Int32.ofInt y))] [.int (Int32.ofInt e18)] (Wd A dT s17) 0 0
        refine z_if_eq X (t := 57) (show cdA 221 52 = some (.ifCond .eq 5, 3, 0, 0, 0) from rfl) (by decide) hrs17 (fun g20 => ?_) (fun g20 => ?_)
        ·
          refine z_aload_n X (x := A 179) (show cdA 221 57 = some (.aload_n 0, 1, 0, 0, 0) from rfl) (List.Mem.head _) ?_
          refine z_load_n X (x := x) (show cdA 221 58 = some (.iload_n 1, 1, 0, 0, 0) from rfl) (List.Mem.tail _ (List.Mem.head _)) ?_
          refine z_load_n X (x := y) (show cdA 221 59 = some (.iload_n 2, 1, 0, 0, 0) from rfl) (List.Mem.tail _ (List.Mem.tail _ (List.Mem.head _))) ?_
          refine z_callV X 179 (rm := rmN 220) (As := [.int (Int32.ofInt x), .int (Int32.ofInt y)]) (st := []) (show cdA 221 60 = some (.invokevirtual 303, 3, 220, 0, 0) from rfl) rfl (by decide) rfl (by rw [E.1, E.2.1, E.2.2.1]; exact k_mostOf G Is17 (by first | exact ⟨oq_8280ce40 g12 hps9.2.1 re8.2 he8 hps5, oq_dcfd4fb9 g12 hps9.2.1 re8.2 he8 hps5 b4.2⟩ | omega) (by first | exact ⟨oq_4c4e29f5 g20 hps17.2.1 re16.2 he16 hps13, oq_3a13f1ce g20 hps17.2.1 re16.2 he16 hps13⟩ | omega)) ⟨by rw [E.2.2.2]; exact (show (rmN 220).frames + 1 ≤ (rmN 221).frames by decide), by rw [E.2.2.2]; exact (show 8 + (mNL (miB 220) + 11) + (rmN 220).locals ≤ (rmN 221).locals by decide), by rw [E.2.2.2]; exact (show 0 + (rmN 220).cells ≤ (rmN 221).cells by decide), by rw [E.2.2.2]; exact (show 0 + (rmN 220).slots ≤ (rmN 221).slots by decide)⟩ (Nat.le_of_ble_eq_true rfl) (fun vv s21 hq => ?_) (fun ee s21 hq => ?_)
          rotate_left
          · obtain ⟨Is21, Fs21, e22, hv, hrs21, hps21⟩ := hq; cases hv
          obtain ⟨Is21, Fs21, e22, hv, hrs21, hps21⟩ := hq
          cases hv
          have Gs21 := fm_ts Gs17 Fs21 (by decide) (by decide)
          have ws21_73 : iI s21 73 = iI s17 73 := fm_i Fs21 (by decide)
          have ws21_90 : iI s21 90 = iI s17 90 := fm_i Fs21 (by decide)
          show WS k 63 [(0, .ref (A 179)), (1, .int (Int32.ofInt x)), (2, .int (Int32.ofInt y))] [.int (Int32.ofInt e22)] (Wd A dT s21) 0 0
          exact w_iret X.1 q hRt rfl (ax_d X (show cdA 221 63 = some (.ireturn, 1, 0, 0, 0) from rfl)) (Nat.zero_le _) (Nat.zero_le _) ⟨_, rfl, Is21, Gs21, e22, rfl, hrs21, trivial⟩
        ·
          refine z_const X (show cdA 221 55 = some (.iconst 0, 1, 0, 0, 0) from rfl) ?_
          exact w_iret X.1 q hRt rfl (ax_d X (show cdA 221 56 = some (.ireturn, 1, 0, 0, 0) from rfl)) (Nat.zero_le _) (Nat.zero_le _) ⟨_, rfl, Is17, Gs17, 0, rfl, (by decide), trivial⟩
      refine z_if_ne X (t := 47) (show cdA 221 40 = some (.ifCond .ne 7, 3, 1, 0, 0) from rfl) (by decide) hrs13 (fun g23 => ?_) (fun g23 => ?_)
      ·
        refine z_const X (show cdA 221 47 = some (.iconst 0, 1, 0, 0, 0) from rfl) ?_
        exact N15 _ (Or.inl ⟨g23, rfl⟩)
      ·
        refine z_const X (show cdA 221 43 = some (.iconst 1, 1, 0, 0, 0) from rfl) ?_
        refine z_goto X (t := 48) (show cdA 221 44 = some (.goto 4, 3, 0, 0, 0) from rfl) (by decide) ?_
        exact N15 _ (Or.inr (⟨g23, rfl⟩))
  refine z_if_ne X (t := 24) (show cdA 221 17 = some (.ifCond .ne 7, 3, 1, 0, 0) from rfl) (by decide) hrs5 (fun g24 => ?_) (fun g24 => ?_)
  ·
    refine z_const X (show cdA 221 24 = some (.iconst 0, 1, 0, 0, 0) from rfl) ?_
    exact N7 _ (Or.inl ⟨g24, rfl⟩)
  ·
    refine z_const X (show cdA 221 20 = some (.iconst 1, 1, 0, 0, 0) from rfl) ?_
    refine z_goto X (t := 25) (show cdA 221 21 = some (.goto 4, 3, 0, 0, 0) from rfl) (by decide) ?_
    exact N7 _ (Or.inr (⟨g24, rfl⟩))
theorem k_numbersIn (G : GX l s0 D tys a0 dT) (I : Bd s) {x : Int} (p0 : 0 ≤ x ∧ x ≤ 23) : CT l s0 D A dT 224 (rmN 224) [.ref (A 179), .int (Int32.ofInt x)] s (fun o t => Bd t ∧ Fm [] [203] s t ∧ o = .inl none ∧ (True)) := by
  refine ct_of G (by decide) (Nat.le_of_ble_eq_true rfl) (fun k X E hRt hXt q => ?_)
  show WS k 0 [(0, .ref (A 179)), (1, .int (Int32.ofInt x))] [] _ 0 0
  have F : Fm [] [203] s s := fm_rf _ _ s
  have b1 : (0 : Int) ≤ iI s 90 ∧ iI s 90 ≤ 12 := I.1 90
  have L2 : ∀ (n : Nat) (t : PS) (xv c : Int), Bd t → Fm [] [203] s t → ((0 ≤ xv ∧ xv ≤ 23) ∧ 0 ≤ c ∧ c ≤ 12) → (12 - c : Int).toNat < n → (∀ (t' : PS) (xv' c' : Int), Bd t' → Fm [] [203] s t' → ((0 ≤ xv' ∧ xv' ≤ 23) ∧ 0 ≤ c' ∧ c' ≤ 12) → WS k 28 [(0, .ref (A 179)), (1, .int (Int32.ofInt xv')), (2, .int (Int32.ofInt c'))] [] (Wd A dT t') 0 0) → WS k 2 [(0, .ref (A 179)), (1, .int (Int32.ofInt xv)), (2, .int (Int32.ofInt c))] [] (Wd A dT t) 0 0 := by
    intro n
    induction n with
    | zero =>
      intro t xv c I F hi hm kx
      exact absurd hm (Nat.not_lt_zero _)
    | succ n ih =>
      intro t xv c I F hi hm kx
      have b1001 : (0 : Int) ≤ iI t 90 ∧ iI t 90 ≤ 12 := I.1 90
      refine z_load_n X (x := c) (show cdA 224 2 = some (.iload_n 2, 1, 0, 0, 0) from rfl) (List.Mem.tail _ (List.Mem.tail _ (List.Mem.head _))) ?_
      refine z_aload_n X (x := A 179) (show cdA 224 3 = some (.aload_n 0, 1, 0, 0, 0) from rfl) (List.Mem.head _) ?_
      refine z_getI X 179 (show cdA 224 4 = some (.getfield 233, 3, 12, 22, 0) from rfl) (by decide) rfl rfl ?_
      have b1002 : (0 : Int) ≤ iI t 90 ∧ iI t 90 ≤ 12 := I.1 90
      refine z_icmp_ge X (t := 28) (show cdA 224 7 = some (.if_icmp .ge 21, 3, 3, 0, 0) from rfl) (by decide) ⟨by first | exact oq_fa4e5087 hi.2.1 | omega, by first | exact oq_78843a64 hi.2.2 | omega⟩ (rng_to _) (fun g1003 => ?_) (fun g1003 => ?_)
      ·
        refine WS_lv (lv := [(0, .ref (A 179)), (1, .int (Int32.ofInt xv)), (2, .int (Int32.ofInt c))]) (List.forall_mem_cons.mpr ⟨(List.Mem.head _), (List.forall_mem_cons.mpr ⟨(List.Mem.tail _ (List.Mem.head _)), (List.forall_mem_cons.mpr ⟨(List.Mem.tail _ (List.Mem.tail _ (List.Mem.head _))), (fun q h => absurd h List.not_mem_nil)⟩)⟩)⟩) ?_
        exact kx _ xv c I F (by first | exact ⟨And.intro (hi.1.1) (hi.1.2), hi.2.1, hi.2.2⟩ | omega)
      ·
        refine z_aload_n X (x := A 179) (show cdA 224 10 = some (.aload_n 0, 1, 0, 0, 0) from rfl) (List.Mem.head _) ?_
        refine s_getR X 179 (show cdA 224 11 = some (.getfield 61, 3, 12, 32, 0) from rfl) (by decide) rfl rfl ?_
        refine z_load_n X (x := c) (show cdA 224 14 = some (.iload_n 2, 1, 0, 0, 0) from rfl) (List.Mem.tail _ (List.Mem.tail _ (List.Mem.head _))) ?_
        refine z_aload_n X (x := A 179) (show cdA 224 15 = some (.aload_n 0, 1, 0, 0, 0) from rfl) (List.Mem.head _) ?_
        refine z_load_n X (x := c) (show cdA 224 16 = some (.iload_n 2, 1, 0, 0, 0) from rfl) (List.Mem.tail _ (List.Mem.tail _ (List.Mem.head _))) ?_
        refine z_load_n X (x := xv) (show cdA 224 17 = some (.iload_n 1, 1, 0, 0, 0) from rfl) (List.Mem.tail _ (List.Mem.head _)) ?_
        refine z_callV X 179 (rm := rmN 220) (As := [.int (Int32.ofInt c), .int (Int32.ofInt xv)]) (st := [.int (Int32.ofInt c), .ref (A 229)]) (show cdA 224 18 = some (.invokevirtual 303, 3, 220, 0, 0) from rfl) rfl (by decide) rfl (by rw [E.1, E.2.1, E.2.2.1]; exact k_mostOf G I (by first | exact ⟨hi.2.1, oq_e4d7f3c5 g1003 b1002.2⟩ | omega) (by first | exact ⟨hi.1.1, hi.1.2⟩ | omega)) ⟨by rw [E.2.2.2]; exact (show (rmN 220).frames + 1 ≤ (rmN 224).frames by decide), by rw [E.2.2.2]; exact (show 8 + (mNL (miB 220) + 11) + (rmN 220).locals ≤ (rmN 224).locals by decide), by rw [E.2.2.2]; exact (show 0 + (rmN 220).cells ≤ (rmN 224).cells by decide), by rw [E.2.2.2]; exact (show 0 + (rmN 220).slots ≤ (rmN 224).slots by decide)⟩ (Nat.le_of_ble_eq_true rfl) (fun vv s1004 hq => ?_) (fun ee s1004 hq => ?_)
        rotate_left
        · obtain ⟨Is1004, Fs1004, e1005, hv, hrs1004, hps1004⟩ := hq; cases hv
        obtain ⟨Is1004, Fs1004, e1005, hv, hrs1004, hps1004⟩ := hq
        cases hv
        have Gs1004 := fm_ts F Fs1004 (by decide) (by decide)
        have ws1004_90 : iI s1004 90 = iI t 90 := fm_i Fs1004 (by decide)
        show WS k 21 [(0, .ref (A 179)), (1, .int (Int32.ofInt xv)), (2, .int (Int32.ofInt c))] [.int (Int32.ofInt e1005), .int (Int32.ofInt c), .ref (A 229)] (Wd A dT s1004) 0 0
        refine z_ast X 229 (show cdA 224 21 = some (.iastore, 1, 0, 0, 0) from rfl) (by decide) rfl (by first | exact hi.2.1 | omega) (show c < 12 by first | exact oq_f36e82a8 g1003 b1002.2 | omega) (by decide) ?_
        obtain ⟨s1006, hs1006⟩ : ∃ x0, x0 = uC s1004 203 (c).toNat (Int32.ofInt e1005) := ⟨_, rfl⟩
        rw [← hs1006]
        have Is1006 : Bd s1006 := by rw [hs1006]; exact bd_C Is1004 (show (0 : Int) ≤ e1005 ∧ e1005 ≤ 50 by first | exact ⟨hps1004.1, hps1004.2⟩ | omega) hrs1004
        have Fs1006 := fm_C (i := (c).toNat) (x := Int32.ofInt e1005) Gs1004 (show 203 ∈ _ by decide)
        rw [← hs1006] at Fs1006
        have ws1006_90 : iI s1006 90 = iI s1004 90 := by rw [hs1006]; rfl
        refine z_inc X (x := c) (lv' := [(2, .int (Int32.ofInt (c + 1))), (0, .ref (A 179)), (1, .int (Int32.ofInt xv))]) (show cdA 224 22 = some (.iinc 2 1, 3, 0, 0, 0) from rfl) (by decide) (List.Mem.tail _ (List.Mem.tail _ (List.Mem.head _))) (fun _ h => h) ?_
        refine z_goto X (t := 2) (show cdA 224 25 = some (.goto (-23), 3, 0, 0, 0) from rfl) (by decide) ?_
        refine WS_lv (lv := [(0, .ref (A 179)), (1, .int (Int32.ofInt xv)), (2, .int (Int32.ofInt (c + 1)))]) (List.forall_mem_cons.mpr ⟨(List.Mem.tail _ (List.Mem.head _)), (List.forall_mem_cons.mpr ⟨(List.Mem.tail _ (List.Mem.tail _ (List.Mem.head _))), (List.forall_mem_cons.mpr ⟨(List.Mem.head _), (fun q h => absurd h List.not_mem_nil)⟩)⟩)⟩) ?_
        exact ih _ xv (c + 1) Is1006 Fs1006 (by first | exact ⟨And.intro (hi.1.1) (hi.1.2), oq_54f49eb5 hi.2.1, oq_4dae995e g1003 b1002.2⟩ | omega) (by first | exact qk_me hm (by decide) (oq_b575e8c1 g1003 b1002.2) | omega) kx
  refine z_const X (show cdA 224 0 = some (.iconst 0, 1, 0, 0, 0) from rfl) ?_
  refine z_store_n X (lv' := [(2, .int (Int32.ofInt 0)), (0, .ref (A 179)), (1, .int (Int32.ofInt x))]) (show cdA 224 1 = some (.istore_n 2, 1, 0, 0, 0) from rfl) (by decide) (fun _ h => h) ?_
  refine WS_lv (lv := [(0, .ref (A 179)), (1, .int (Int32.ofInt x)), (2, .int (Int32.ofInt 0))]) (List.forall_mem_cons.mpr ⟨(List.Mem.tail _ (List.Mem.head _)), (List.forall_mem_cons.mpr ⟨(List.Mem.tail _ (List.Mem.tail _ (List.Mem.head _))), (List.forall_mem_cons.mpr ⟨(List.Mem.head _), (fun q h => absurd h List.not_mem_nil)⟩)⟩)⟩) ?_
  refine L2 ((12 - 0 : Int).toNat + 1) s x 0 I F (by first | exact ⟨And.intro (p0.1) (p0.2), by decide, by decide⟩ | omega) (Nat.lt_succ_self _) ?_
  intro s2 x3 x4 Is2 Fs2 hs2
  have b5 : (0 : Int) ≤ iI s2 90 ∧ iI s2 90 ≤ 12 := Is2.1 90
  exact w_vret X.1 q hRt (ax_d X (show cdA 224 28 = some (.return_, 1, 0, 0, 0) from rfl)) (Nat.zero_le _) (Nat.zero_le _) ⟨_, rfl, Is2, Fs2, rfl, trivial⟩
end M33
