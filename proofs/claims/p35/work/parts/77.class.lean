/-! The class: plans -/
section M77
variable {l : Launch} {s0 : State} {D : va_G} {tys : List (ClassId × FieldType)} {a0 : Array Value} {A : Nat → Nat} {dT : Nat → ClassId} {s : PS}
set_option maxRecDepth 4000 in
theorem c4_judgeGroup_54 (G : GX l s0 D tys a0 dT) (I : Bd s) {x y z : Int} (p0 : 0 ≤ x ∧ x ≤ 5) (p1 : rng y) (p2 : z = 0 ∨ z = 1) (p3 : iI s 12 ≤ 8) : CT l s0 D A dT 46 (rmN 46) [.ref (A 54), .int (Int32.ofInt x), .int (Int32.ofInt y), .int (Int32.ofInt z)] s (fun o t => Bd t ∧ Fm [] [33, 20, 48] s t ∧ o = .inl none ∧ (True)) := by
  refine ct_ofX G (by decide) (Nat.le_of_ble_eq_true rfl) (fun k X E ET hRt hXt q => ?_)
  show WS k 0 [(0, .ref (A 54)), (1, .int (Int32.ofInt x)), (2, .int (Int32.ofInt y)), (3, .int (Int32.ofInt z))] [] _ 0 0
  have F : Fm [] [33, 20, 48] s s := fm_rf _ _ s
  have b1 : (0 : Int) ≤ iI s 12 ∧ iI s 12 ≤ 9 := I.1 12
  have L3 : ∀ (n : Nat) (t : PS) (xv yv zv qq : Int), Bd t → Fm [] [33, 20, 48] s t → ((0 ≤ xv ∧ xv ≤ 5) ∧ rng yv ∧ (zv = 0 ∨ zv = 1) ∧ 0 ≤ qq ∧ qq ≤ 24 ∧ iI t 12 ≤ 8) → (24 - qq : Int).toNat < n → (∀ (t' : PS) (qq' : Int), Bd t' → Fm [] [33, 20, 48] s t' → ((0 ≤ xv ∧ xv ≤ 5) ∧ rng yv ∧ (zv = 0 ∨ zv = 1) ∧ 0 ≤ qq' ∧ qq' ≤ 24 ∧ iI t' 12 ≤ 8) → WS k 127 [(0, .ref (A 54)), (1, .int (Int32.ofInt xv)), (2, .int (Int32.ofInt yv)), (3, .int (Int32.ofInt zv)), (4, .int (Int32.ofInt qq'))] [] (Wd A dT t') 0 0) → WS k 3 [(0, .ref (A 54)), (1, .int (Int32.ofInt xv)), (2, .int (Int32.ofInt yv)), (3, .int (Int32.ofInt zv)), (4, .int (Int32.ofInt qq))] [] (Wd A dT t) 0 0 := by
    intro n
    induction n with
    | zero =>
      intro t xv yv zv qq I F hi hm kx
      exact absurd hm (Nat.not_lt_zero _)
    | succ n ih =>
      intro t xv yv zv qq I F hi hm kx
      have b1001 : (0 : Int) ≤ iI t 12 ∧ iI t 12 ≤ 9 := I.1 12
      refine z_load X (x := qq) (show cdA 46 3 = some (.iload 4, 2, 0, 0, 0) from rfl) (List.Mem.tail _ (List.Mem.tail _ (List.Mem.tail _ (List.Mem.tail _ (List.Mem.head _))))) ?_
      refine z_bipush X (show cdA 46 5 = some (.bipush 24, 2, 0, 0, 24) from rfl) ?_
      refine z_icmp_ge X (t := 127) (show cdA 46 7 = some (.if_icmp .ge 120, 3, 3, 0, 0) from rfl) (by decide) ⟨by first | exact oq_fa4e5087 hi.2.2.2.1 | omega, by first | exact oq_5bcd337f hi.2.2.2.2.1 | omega⟩ (by decide) (fun g1002 => ?_) (fun g1002 => ?_)
      ·
        refine WS_lv (lv := [(0, .ref (A 54)), (1, .int (Int32.ofInt xv)), (2, .int (Int32.ofInt yv)), (3, .int (Int32.ofInt zv)), (4, .int (Int32.ofInt qq))]) (List.forall_mem_cons.mpr ⟨(List.Mem.head _), (List.forall_mem_cons.mpr ⟨(List.Mem.tail _ (List.Mem.head _)), (List.forall_mem_cons.mpr ⟨(List.Mem.tail _ (List.Mem.tail _ (List.Mem.head _))), (List.forall_mem_cons.mpr ⟨(List.Mem.tail _ (List.Mem.tail _ (List.Mem.tail _ (List.Mem.head _)))), (List.forall_mem_cons.mpr ⟨(List.Mem.tail _ (List.Mem.tail _ (List.Mem.tail _ (List.Mem.tail _ (List.Mem.head _))))), (fun q h => absurd h List.not_mem_nil)⟩)⟩)⟩)⟩)⟩) ?_
        exact kx _ qq I F (by first | exact ⟨And.intro (hi.1.1) (hi.1.2), And.intro (hi.2.1.1) (hi.2.1.2), hi.2.2.1, hi.2.2.2.1, hi.2.2.2.2.1, hi.2.2.2.2.2⟩ | omega)
      ·
        refine z_load_n X (x := xv) (show cdA 46 10 = some (.iload_n 1, 1, 0, 0, 0) from rfl) (List.Mem.tail _ (List.Mem.head _)) ?_
        refine z_bipush X (show cdA 46 11 = some (.bipush 24, 2, 0, 0, 24) from rfl) ?_
        refine z_mul X (show cdA 46 13 = some (.imul, 1, 0, 0, 0) from rfl) ?_
        refine z_load X (x := qq) (show cdA 46 14 = some (.iload 4, 2, 0, 0, 0) from rfl) (List.Mem.tail _ (List.Mem.tail _ (List.Mem.tail _ (List.Mem.tail _ (List.Mem.head _))))) ?_
        refine z_add X (show cdA 46 16 = some (.iadd, 1, 0, 0, 0) from rfl) ?_
        refine z_store X (lv' := [(5, .int (Int32.ofInt ((xv * 24) + qq))), (0, .ref (A 54)), (1, .int (Int32.ofInt xv)), (2, .int (Int32.ofInt yv)), (3, .int (Int32.ofInt zv)), (4, .int (Int32.ofInt qq))]) (show cdA 46 17 = some (.istore 5, 2, 0, 0, 0) from rfl) (by decide) (fun _ h => h) ?_
        refine z_aload_n X (x := A 54) (show cdA 46 19 = some (.aload_n 0, 1, 0, 0, 0) from rfl) (List.Mem.tail _ (List.Mem.head _)) ?_
        refine s_getR X 54 (show cdA 46 20 = some (.getfield 35, 3, 4, 0, 0) from rfl) (by decide) rfl rfl ?_
        refine s_getR X 3 (show cdA 46 23 = some (.getfield 80, 3, 9, 15, 0) from rfl) (by decide) rfl rfl ?_
        refine z_load X (x := qq) (show cdA 46 26 = some (.iload 4, 2, 0, 0, 0) from rfl) (List.Mem.tail _ (List.Mem.tail _ (List.Mem.tail _ (List.Mem.tail _ (List.Mem.tail _ (List.Mem.head _)))))) ?_
        refine z_ald X 17 (show cdA 46 28 = some (.iaload, 1, 0, 0, 0) from rfl) (by decide) rfl (by first | exact hi.2.2.2.1 | omega) (show qq < 24 by first | exact g1002 | omega) (by decide) ?_
        have b1003 : (0 : Int) ≤ iC t 14 (qq).toNat ∧ iC t 14 (qq).toNat ≤ 23 := I.2 14 _ (show (qq).toNat < 24 by first | exact oq_797efae6 g1002 | omega)
        refine z_load X (x := qq) (show cdA 46 29 = some (.iload 4, 2, 0, 0, 0) from rfl) (List.Mem.tail _ (List.Mem.tail _ (List.Mem.tail _ (List.Mem.tail _ (List.Mem.tail _ (List.Mem.head _)))))) ?_
        refine z_icmp_eq X (t := 64) (show cdA 46 31 = some (.if_icmp .eq 33, 3, 0, 0, 0) from rfl) (by decide) (rng_to _) ⟨by first | exact oq_fa4e5087 hi.2.2.2.1 | omega, by first | exact oq_1d70227b g1002 | omega⟩ (fun g1004 => ?_) (fun g1004 => ?_)
        ·
          refine z_aload_n X (x := A 54) (show cdA 46 64 = some (.aload_n 0, 1, 0, 0, 0) from rfl) (List.Mem.tail _ (List.Mem.head _)) ?_
          refine s_getR X 54 (show cdA 46 65 = some (.getfield 22, 3, 4, 8, 0) from rfl) (by decide) rfl rfl ?_
          refine z_load X (x := ((xv * 24) + qq)) (show cdA 46 68 = some (.iload 5, 2, 0, 0, 0) from rfl) (List.Mem.head _) ?_
          refine z_zald X 57 (show cdA 46 70 = some (.baload, 1, 0, 0, 0) from rfl) (by decide) rfl (by first | exact oq_4071a75f hi.1.1 hi.2.2.2.1 | omega) (show ((xv * 24) + qq) < 144 by first | exact oq_adfddeb6 hi.1.2 g1002 | omega) (by decide) ?_
          have b1005 : (0 : Int) ≤ iC t 48 (((xv * 24) + qq)).toNat ∧ iC t 48 (((xv * 24) + qq)).toNat ≤ 1 := I.2 48 _ (show (((xv * 24) + qq)).toNat < 144 by first | exact oq_fda8ee8e hi.1.2 g1002 | omega)
          refine z_if_eq X (t := 121) (show cdA 46 71 = some (.ifCond .eq 50, 3, 0, 0, 0) from rfl) (by decide) (rng_to _) (fun g1006 => ?_) (fun g1006 => ?_)
          ·
            refine z_inc X (x := qq) (lv' := [(4, .int (Int32.ofInt (qq + 1))), (5, .int (Int32.ofInt ((xv * 24) + qq))), (0, .ref (A 54)), (1, .int (Int32.ofInt xv)), (2, .int (Int32.ofInt yv)), (3, .int (Int32.ofInt zv))]) (show cdA 46 121 = some (.iinc 4 1, 3, 0, 0, 0) from rfl) (by decide) (List.Mem.tail _ (List.Mem.tail _ (List.Mem.tail _ (List.Mem.tail _ (List.Mem.tail _ (List.Mem.head _)))))) (fun _ h => h) ?_
            refine z_goto X (t := 3) (show cdA 46 124 = some (.goto (-121), 3, 0, 0, 0) from rfl) (by decide) ?_
            refine WS_lv (lv := [(0, .ref (A 54)), (1, .int (Int32.ofInt xv)), (2, .int (Int32.ofInt yv)), (3, .int (Int32.ofInt zv)), (4, .int (Int32.ofInt (qq + 1)))]) (List.forall_mem_cons.mpr ⟨(List.Mem.tail _ (List.Mem.tail _ (List.Mem.head _))), (List.forall_mem_cons.mpr ⟨(List.Mem.tail _ (List.Mem.tail _ (List.Mem.tail _ (List.Mem.head _)))), (List.forall_mem_cons.mpr ⟨(List.Mem.tail _ (List.Mem.tail _ (List.Mem.tail _ (List.Mem.tail _ (List.Mem.head _))))), (List.forall_mem_cons.mpr ⟨(List.Mem.tail _ (List.Mem.tail _ (List.Mem.tail _ (List.Mem.tail _ (List.Mem.tail _ (List.Mem.head _)))))), (List.forall_mem_cons.mpr ⟨(List.Mem.head _), (fun q h => absurd h List.not_mem_nil)⟩)⟩)⟩)⟩)⟩) ?_
            exact ih _ xv yv zv (qq + 1) I F (by first | exact ⟨And.intro (hi.1.1) (hi.1.2), And.intro (hi.2.1.1) (hi.2.1.2), hi.2.2.1, oq_54f49eb5 hi.2.2.2.1, oq_cec7cb2e g1002, hi.2.2.2.2.2⟩ | omega) (by first | exact qk_me hm (by decide) (oq_ffa8317e g1002) | omega) kx
          ·
            refine z_aload_n X (x := A 54) (show cdA 46 74 = some (.aload_n 0, 1, 0, 0, 0) from rfl) (List.Mem.tail _ (List.Mem.head _)) ?_
            refine s_getR X 54 (show cdA 46 75 = some (.getfield 22, 3, 4, 8, 0) from rfl) (by decide) rfl rfl ?_
            refine z_load X (x := ((xv * 24) + qq)) (show cdA 46 78 = some (.iload 5, 2, 0, 0, 0) from rfl) (List.Mem.head _) ?_
            refine z_aload_n X (x := A 54) (show cdA 46 80 = some (.aload_n 0, 1, 0, 0, 0) from rfl) (List.Mem.tail _ (List.Mem.head _)) ?_
            refine s_getR X 54 (show cdA 46 81 = some (.getfield 47, 3, 4, 3, 0) from rfl) (by decide) rfl rfl ?_
            refine z_load X (x := qq) (show cdA 46 84 = some (.iload 4, 2, 0, 0, 0) from rfl) (List.Mem.tail _ (List.Mem.tail _ (List.Mem.tail _ (List.Mem.tail _ (List.Mem.tail _ (List.Mem.head _)))))) ?_
            refine z_const X (show cdA 46 86 = some (.iconst (-1), 1, 0, 0, 0) from rfl) ?_
            refine z_callV X 31 (rm := rmN 4) (As := [.int (Int32.ofInt qq), .int (Int32.ofInt (-1))]) (st := [.int (Int32.ofInt ((xv * 24) + qq)), .ref (A 57)]) (show cdA 46 87 = some (.invokevirtual 85, 3, 4, 0, 0) from rfl) rfl (by decide) rfl (by rw [E.1, E.2.1, E.2.2.1]; exact c0_loadAt_31 G I (by first | exact ⟨hi.2.2.2.1, oq_c69fe266 g1002⟩ | omega) (by first | exact ⟨by decide, by decide⟩ | omega)) ⟨by rw [E.2.2.2]; exact (show (rmN 4).frames + 1 ≤ (rmN 46).frames by decide), by rw [E.2.2.2]; exact (show 8 + (mNL (miB 4) + 11) + (rmN 4).locals ≤ (rmN 46).locals by decide), by rw [E.2.2.2]; exact (show 0 + (rmN 4).cells ≤ (rmN 46).cells by decide), by rw [E.2.2.2]; exact (show 0 + (rmN 4).slots ≤ (rmN 46).slots by decide)⟩ (Nat.le_of_ble_eq_true rfl) (fun vv s1007 hq => ?_) (fun ee s1007 hq => ?_)
            rotate_left
            · obtain ⟨Is1007, Fs1007, e1008, hv, hrs1007, hps1007⟩ := hq; cases hv
            obtain ⟨Is1007, Fs1007, e1008, hv, hrs1007, hps1007⟩ := hq
            cases hv
            have Gs1007 := fm_ts F Fs1007 (by decide) (by decide)
            have ws1007_12 : iI s1007 12 = iI t 12 := fm_i Fs1007 (by decide)
            show WS k 90 [(5, .int (Int32.ofInt ((xv * 24) + qq))), (0, .ref (A 54)), (1, .int (Int32.ofInt xv)), (2, .int (Int32.ofInt yv)), (3, .int (Int32.ofInt zv)), (4, .int (Int32.ofInt qq))] [.int (Int32.ofInt e1008), .int (Int32.ofInt ((xv * 24) + qq)), .ref (A 57)] (Wd A dT s1007) 0 0
            refine z_load_n X (x := yv) (show cdA 46 90 = some (.iload_n 2, 1, 0, 0, 0) from rfl) (List.Mem.tail _ (List.Mem.tail _ (List.Mem.tail _ (List.Mem.head _)))) ?_
            refine z_icmp_gt X (t := 119) (show cdA 46 91 = some (.if_icmp .gt 28, 3, 4, 0, 0) from rfl) (by decide) hrs1007 ⟨by first | exact hi.2.1.1 | omega, by first | exact hi.2.1.2 | omega⟩ (fun g1009 => ?_) (fun g1009 => ?_)
            ·
              refine z_const X (show cdA 46 119 = some (.iconst 0, 1, 0, 0, 0) from rfl) ?_
              refine z_zast X 57 (show cdA 46 120 = some (.bastore, 1, 0, 0, 0) from rfl) (by decide) rfl (by first | exact oq_4071a75f hi.1.1 hi.2.2.2.1 | omega) (show ((xv * 24) + qq) < 144 by first | exact oq_adfddeb6 hi.1.2 g1002 | omega) (by decide) (by first | exact Or.inl (by decide) | omega) ?_
              obtain ⟨s1010, hs1010⟩ : ∃ x0, x0 = uC s1007 48 (((xv * 24) + qq)).toNat (Int32.ofInt 0) := ⟨_, rfl⟩
              rw [← hs1010]
              have Is1010 : Bd s1010 := by rw [hs1010]; exact bd_C Is1007 (show (0 : Int) ≤ 0 ∧ 0 ≤ 1 by first | exact ⟨by decide, by decide⟩ | omega) (by decide)
              have Fs1010 := fm_C (i := (((xv * 24) + qq)).toNat) (x := Int32.ofInt 0) Gs1007 (show 48 ∈ _ by decide)
              rw [← hs1010] at Fs1010
              have ws1010_12 : iI s1010 12 = iI s1007 12 := by rw [hs1010]; rfl
              refine z_inc X (x := qq) (lv' := [(4, .int (Int32.ofInt (qq + 1))), (5, .int (Int32.ofInt ((xv * 24) + qq))), (0, .ref (A 54)), (1, .int (Int32.ofInt xv)), (2, .int (Int32.ofInt yv)), (3, .int (Int32.ofInt zv))]) (show cdA 46 121 = some (.iinc 4 1, 3, 0, 0, 0) from rfl) (by decide) (List.Mem.tail _ (List.Mem.tail _ (List.Mem.tail _ (List.Mem.tail _ (List.Mem.tail _ (List.Mem.head _)))))) (fun _ h => h) ?_
              refine z_goto X (t := 3) (show cdA 46 124 = some (.goto (-121), 3, 0, 0, 0) from rfl) (by decide) ?_
              refine WS_lv (lv := [(0, .ref (A 54)), (1, .int (Int32.ofInt xv)), (2, .int (Int32.ofInt yv)), (3, .int (Int32.ofInt zv)), (4, .int (Int32.ofInt (qq + 1)))]) (List.forall_mem_cons.mpr ⟨(List.Mem.tail _ (List.Mem.tail _ (List.Mem.head _))), (List.forall_mem_cons.mpr ⟨(List.Mem.tail _ (List.Mem.tail _ (List.Mem.tail _ (List.Mem.head _)))), (List.forall_mem_cons.mpr ⟨(List.Mem.tail _ (List.Mem.tail _ (List.Mem.tail _ (List.Mem.tail _ (List.Mem.head _))))), (List.forall_mem_cons.mpr ⟨(List.Mem.tail _ (List.Mem.tail _ (List.Mem.tail _ (List.Mem.tail _ (List.Mem.tail _ (List.Mem.head _)))))), (List.forall_mem_cons.mpr ⟨(List.Mem.head _), (fun q h => absurd h List.not_mem_nil)⟩)⟩)⟩)⟩)⟩) ?_
              exact ih _ xv yv zv (qq + 1) Is1010 Fs1010 (by first | exact ⟨And.intro (hi.1.1) (hi.1.2), And.intro (hi.2.1.1) (hi.2.1.2), hi.2.2.1, oq_54f49eb5 hi.2.2.2.1, oq_cec7cb2e g1002, oq_d7ce4408 ws1010_12 ws1007_12 hi.2.2.2.2.2⟩ | omega) (by first | exact qk_me hm (by decide) (oq_ffa8317e g1002) | omega) kx
            ·
              refine z_load_n X (x := zv) (show cdA 46 94 = some (.iload_n 3, 1, 0, 0, 0) from rfl) (List.Mem.tail _ (List.Mem.tail _ (List.Mem.tail _ (List.Mem.tail _ (List.Mem.head _))))) ?_
              refine z_if_eq X (t := 115) (show cdA 46 95 = some (.ifCond .eq 20, 3, 0, 0, 0) from rfl) (by decide) ⟨by first | exact oq_bde653e9 hi.2.2.1 | omega, by first | exact oq_4ad2cb8b hi.2.2.1 | omega⟩ (fun g1011 => ?_) (fun g1011 => ?_)
              ·
                refine z_const X (show cdA 46 115 = some (.iconst 1, 1, 0, 0, 0) from rfl) ?_
                refine z_goto X (t := 120) (show cdA 46 116 = some (.goto 4, 3, 0, 0, 0) from rfl) (by decide) ?_
                refine z_zast X 57 (show cdA 46 120 = some (.bastore, 1, 0, 0, 0) from rfl) (by decide) rfl (by first | exact oq_4071a75f hi.1.1 hi.2.2.2.1 | omega) (show ((xv * 24) + qq) < 144 by first | exact oq_adfddeb6 hi.1.2 g1002 | omega) (by decide) (by first | exact Or.inr (by decide) | omega) ?_
                obtain ⟨s1012, hs1012⟩ : ∃ x0, x0 = uC s1007 48 (((xv * 24) + qq)).toNat (Int32.ofInt 1) := ⟨_, rfl⟩
                rw [← hs1012]
                have Is1012 : Bd s1012 := by rw [hs1012]; exact bd_C Is1007 (show (0 : Int) ≤ 1 ∧ 1 ≤ 1 by first | exact ⟨by decide, by decide⟩ | omega) (by decide)
                have Fs1012 := fm_C (i := (((xv * 24) + qq)).toNat) (x := Int32.ofInt 1) Gs1007 (show 48 ∈ _ by decide)
                rw [← hs1012] at Fs1012
                have ws1012_12 : iI s1012 12 = iI s1007 12 := by rw [hs1012]; rfl
                refine z_inc X (x := qq) (lv' := [(4, .int (Int32.ofInt (qq + 1))), (5, .int (Int32.ofInt ((xv * 24) + qq))), (0, .ref (A 54)), (1, .int (Int32.ofInt xv)), (2, .int (Int32.ofInt yv)), (3, .int (Int32.ofInt zv))]) (show cdA 46 121 = some (.iinc 4 1, 3, 0, 0, 0) from rfl) (by decide) (List.Mem.tail _ (List.Mem.tail _ (List.Mem.tail _ (List.Mem.tail _ (List.Mem.tail _ (List.Mem.head _)))))) (fun _ h => h) ?_
                refine z_goto X (t := 3) (show cdA 46 124 = some (.goto (-121), 3, 0, 0, 0) from rfl) (by decide) ?_
                refine WS_lv (lv := [(0, .ref (A 54)), (1, .int (Int32.ofInt xv)), (2, .int (Int32.ofInt yv)), (3, .int (Int32.ofInt zv)), (4, .int (Int32.ofInt (qq + 1)))]) (List.forall_mem_cons.mpr ⟨(List.Mem.tail _ (List.Mem.tail _ (List.Mem.head _))), (List.forall_mem_cons.mpr ⟨(List.Mem.tail _ (List.Mem.tail _ (List.Mem.tail _ (List.Mem.head _)))), (List.forall_mem_cons.mpr ⟨(List.Mem.tail _ (List.Mem.tail _ (List.Mem.tail _ (List.Mem.tail _ (List.Mem.head _))))), (List.forall_mem_cons.mpr ⟨(List.Mem.tail _ (List.Mem.tail _ (List.Mem.tail _ (List.Mem.tail _ (List.Mem.tail _ (List.Mem.head _)))))), (List.forall_mem_cons.mpr ⟨(List.Mem.head _), (fun q h => absurd h List.not_mem_nil)⟩)⟩)⟩)⟩)⟩) ?_
                exact ih _ xv yv zv (qq + 1) Is1012 Fs1012 (by first | exact ⟨And.intro (hi.1.1) (hi.1.2), And.intro (hi.2.1.1) (hi.2.1.2), hi.2.2.1, oq_54f49eb5 hi.2.2.2.1, oq_cec7cb2e g1002, oq_d7ce4408 ws1012_12 ws1007_12 hi.2.2.2.2.2⟩ | omega) (by first | exact qk_me hm (by decide) (oq_ffa8317e g1002) | omega) kx
              ·
                refine z_aload_n X (x := A 54) (show cdA 46 98 = some (.aload_n 0, 1, 0, 0, 0) from rfl) (List.Mem.tail _ (List.Mem.head _)) ?_
                refine s_getR X 54 (show cdA 46 99 = some (.getfield 39, 3, 4, 1, 0) from rfl) (by decide) rfl rfl ?_
                refine z_aload_n X (x := A 54) (show cdA 46 102 = some (.aload_n 0, 1, 0, 0, 0) from rfl) (List.Mem.tail _ (List.Mem.head _)) ?_
                refine s_getR X 54 (show cdA 46 103 = some (.getfield 47, 3, 4, 3, 0) from rfl) (by decide) rfl rfl ?_
                refine s_getR X 31 (show cdA 46 106 = some (.getfield 89, 3, 0, 11, 0) from rfl) (by decide) rfl rfl ?_
                refine z_callV X 19 (rm := rmN 83) (As := [.ref (A 39)]) (st := [.int (Int32.ofInt ((xv * 24) + qq)), .ref (A 57)]) (show cdA 46 109 = some (.invokevirtual 92, 3, 83, 0, 0) from rfl) rfl (by decide) rfl (by rw [E.1, E.2.1, E.2.2.1]; exact c7_joinsHold_19 G Is1007 (by first | exact oq_86ef0b17 ws1007_12 hi.2.2.2.2.2 | omega)) ⟨by rw [E.2.2.2]; exact (show (rmN 83).frames + 1 ≤ (rmN 46).frames by decide), by rw [E.2.2.2]; exact (show 8 + (mNL (miB 83) + 11) + (rmN 83).locals ≤ (rmN 46).locals by decide), by rw [E.2.2.2]; exact (show 0 + (rmN 83).cells ≤ (rmN 46).cells by decide), by rw [E.2.2.2]; exact (show 0 + (rmN 83).slots ≤ (rmN 46).slots by decide)⟩ (Nat.le_of_ble_eq_true rfl) (fun vv s1013 hq => ?_) (fun ee s1013 hq => ?_)
                rotate_left
                · obtain ⟨Is1013, Fs1013, e1014, hv, hrs1013, hps1013⟩ := hq; cases hv
                obtain ⟨Is1013, Fs1013, e1014, hv, hrs1013, hps1013⟩ := hq
                cases hv
                have Gs1013 := fm_ts Gs1007 Fs1013 (by decide) (by decide)
                have ws1013_12 : iI s1013 12 = iI s1007 12 := fm_i Fs1013 (by decide)
                show WS k 112 [(5, .int (Int32.ofInt ((xv * 24) + qq))), (0, .ref (A 54)), (1, .int (Int32.ofInt xv)), (2, .int (Int32.ofInt yv)), (3, .int (Int32.ofInt zv)), (4, .int (Int32.ofInt qq))] [.int (Int32.ofInt e1014), .int (Int32.ofInt ((xv * 24) + qq)), .ref (A 57)] (Wd A dT s1013) 0 0
                have N1015 : ∀ e1016 : Int, (((e1014 = 0) ∧ e1016 = 0) ∨ ((e1014 ≠ 0) ∧ e1016 = 1)) → WS k 120 [(5, .int (Int32.ofInt ((xv * 24) + qq))), (0, .ref (A 54)), (1, .int (Int32.ofInt xv)), (2, .int (Int32.ofInt yv)), (3, .int (Int32.ofInt zv)), (4, .int (Int32.ofInt qq))] [.int (Int32.ofInt e1016), .int (Int32.ofInt ((xv * 24) + qq)), .ref (A 57)] (Wd A dT s1013) 0 0 := by
                  intro e1016 he1016
                  have re1016 : 0 ≤ e1016 ∧ e1016 ≤ 1 := by omega
                  refine z_zast X 57 (show cdA 46 120 = some (.bastore, 1, 0, 0, 0) from rfl) (by decide) rfl (by first | exact oq_4071a75f hi.1.1 hi.2.2.2.1 | omega) (show ((xv * 24) + qq) < 144 by first | exact oq_adfddeb6 hi.1.2 g1002 | omega) (by decide) (by first | exact oq_54ac7134 re1016.2 re1016.1 he1016 | omega) ?_
                  obtain ⟨s1017, hs1017⟩ : ∃ x0, x0 = uC s1013 48 (((xv * 24) + qq)).toNat (Int32.ofInt e1016) := ⟨_, rfl⟩
                  rw [← hs1017]
                  have Is1017 : Bd s1017 := by rw [hs1017]; exact bd_C Is1013 (show (0 : Int) ≤ e1016 ∧ e1016 ≤ 1 by first | exact ⟨re1016.1, re1016.2⟩ | omega) ⟨by first | exact oq_fa4e5087 re1016.1 | omega, by first | exact oq_22e1e6b0 re1016.2 | omega⟩
                  have Fs1017 := fm_C (i := (((xv * 24) + qq)).toNat) (x := Int32.ofInt e1016) Gs1013 (show 48 ∈ _ by decide)
                  rw [← hs1017] at Fs1017
                  have ws1017_12 : iI s1017 12 = iI s1013 12 := by rw [hs1017]; rfl
                  refine z_inc X (x := qq) (lv' := [(4, .int (Int32.ofInt (qq + 1))), (5, .int (Int32.ofInt ((xv * 24) + qq))), (0, .ref (A 54)), (1, .int (Int32.ofInt xv)), (2, .int (Int32.ofInt yv)), (3, .int (Int32.ofInt zv))]) (show cdA 46 121 = some (.iinc 4 1, 3, 0, 0, 0) from rfl) (by decide) (List.Mem.tail _ (List.Mem.tail _ (List.Mem.tail _ (List.Mem.tail _ (List.Mem.tail _ (List.Mem.head _)))))) (fun _ h => h) ?_
                  refine z_goto X (t := 3) (show cdA 46 124 = some (.goto (-121), 3, 0, 0, 0) from rfl) (by decide) ?_
                  refine WS_lv (lv := [(0, .ref (A 54)), (1, .int (Int32.ofInt xv)), (2, .int (Int32.ofInt yv)), (3, .int (Int32.ofInt zv)), (4, .int (Int32.ofInt (qq + 1)))]) (List.forall_mem_cons.mpr ⟨(List.Mem.tail _ (List.Mem.tail _ (List.Mem.head _))), (List.forall_mem_cons.mpr ⟨(List.Mem.tail _ (List.Mem.tail _ (List.Mem.tail _ (List.Mem.head _)))), (List.forall_mem_cons.mpr ⟨(List.Mem.tail _ (List.Mem.tail _ (List.Mem.tail _ (List.Mem.tail _ (List.Mem.head _))))), (List.forall_mem_cons.mpr ⟨(List.Mem.tail _ (List.Mem.tail _ (List.Mem.tail _ (List.Mem.tail _ (List.Mem.tail _ (List.Mem.head _)))))), (List.forall_mem_cons.mpr ⟨(List.Mem.head _), (fun q h => absurd h List.not_mem_nil)⟩)⟩)⟩)⟩)⟩) ?_
                  exact ih _ xv yv zv (qq + 1) Is1017 Fs1017 (by first | exact ⟨And.intro (hi.1.1) (hi.1.2), And.intro (hi.2.1.1) (hi.2.1.2), hi.2.2.1, oq_54f49eb5 hi.2.2.2.1, oq_cec7cb2e g1002, oq_e14d47df ws1017_12 ws1013_12 ws1007_12 hi.2.2.2.2.2⟩ | omega) (by first | exact qk_me hm (by decide) (oq_ffa8317e g1002) | omega) kx
                refine z_if_eq X (t := 119) (show cdA 46 112 = some (.ifCond .eq 7, 3, 0, 0, 0) from rfl) (by decide) hrs1013 (fun g1018 => ?_) (fun g1018 => ?_)
                ·
                  refine z_const X (show cdA 46 119 = some (.iconst 0, 1, 0, 0, 0) from rfl) ?_
                  exact N1015 _ (Or.inl ⟨g1018, rfl⟩)
                ·
                  refine z_const X (show cdA 46 115 = some (.iconst 1, 1, 0, 0, 0) from rfl) ?_
                  refine z_goto X (t := 120) (show cdA 46 116 = some (.goto 4, 3, 0, 0, 0) from rfl) (by decide) ?_
                  exact N1015 _ (Or.inr (⟨g1018, rfl⟩))
        ·
          refine z_aload_n X (x := A 54) (show cdA 46 34 = some (.aload_n 0, 1, 0, 0, 0) from rfl) (List.Mem.tail _ (List.Mem.head _)) ?_
          refine s_getR X 54 (show cdA 46 35 = some (.getfield 22, 3, 4, 8, 0) from rfl) (by decide) rfl rfl ?_
          refine z_load X (x := ((xv * 24) + qq)) (show cdA 46 38 = some (.iload 5, 2, 0, 0, 0) from rfl) (List.Mem.head _) ?_
          refine z_aload_n X (x := A 54) (show cdA 46 40 = some (.aload_n 0, 1, 0, 0, 0) from rfl) (List.Mem.tail _ (List.Mem.head _)) ?_
          refine s_getR X 54 (show cdA 46 41 = some (.getfield 22, 3, 4, 8, 0) from rfl) (by decide) rfl rfl ?_
          refine z_load_n X (x := xv) (show cdA 46 44 = some (.iload_n 1, 1, 0, 0, 0) from rfl) (List.Mem.tail _ (List.Mem.tail _ (List.Mem.head _))) ?_
          refine z_bipush X (show cdA 46 45 = some (.bipush 24, 2, 0, 0, 24) from rfl) ?_
          refine z_mul X (show cdA 46 47 = some (.imul, 1, 0, 0, 0) from rfl) ?_
          refine z_aload_n X (x := A 54) (show cdA 46 48 = some (.aload_n 0, 1, 0, 0, 0) from rfl) (List.Mem.tail _ (List.Mem.head _)) ?_
          refine s_getR X 54 (show cdA 46 49 = some (.getfield 35, 3, 4, 0, 0) from rfl) (by decide) rfl rfl ?_
          refine s_getR X 3 (show cdA 46 52 = some (.getfield 80, 3, 9, 15, 0) from rfl) (by decide) rfl rfl ?_
          refine z_load X (x := qq) (show cdA 46 55 = some (.iload 4, 2, 0, 0, 0) from rfl) (List.Mem.tail _ (List.Mem.tail _ (List.Mem.tail _ (List.Mem.tail _ (List.Mem.tail _ (List.Mem.head _)))))) ?_
          refine z_ald X 17 (show cdA 46 57 = some (.iaload, 1, 0, 0, 0) from rfl) (by decide) rfl (by first | exact hi.2.2.2.1 | omega) (show qq < 24 by first | exact g1002 | omega) (by decide) ?_
          have b1019 : (0 : Int) ≤ iC t 14 (qq).toNat ∧ iC t 14 (qq).toNat ≤ 23 := I.2 14 _ (show (qq).toNat < 24 by first | exact oq_797efae6 g1002 | omega)
          refine z_add X (show cdA 46 58 = some (.iadd, 1, 0, 0, 0) from rfl) ?_
          refine z_zald X 57 (show cdA 46 59 = some (.baload, 1, 0, 0, 0) from rfl) (by decide) rfl (by first | exact oq_4071a75f hi.1.1 b1019.1 | omega) (show ((xv * 24) + (iC t 14 (qq).toNat)) < 144 by first | exact oq_ceab338e hi.1.2 b1019.2 | omega) (by decide) ?_
          have b1020 : (0 : Int) ≤ iC t 48 (((xv * 24) + (iC t 14 (qq).toNat))).toNat ∧ iC t 48 (((xv * 24) + (iC t 14 (qq).toNat))).toNat ≤ 1 := I.2 48 _ (show (((xv * 24) + (iC t 14 (qq).toNat))).toNat < 144 by first | exact oq_ab7254e1 hi.1.2 b1019.2 | omega)
          refine z_zast X 57 (show cdA 46 60 = some (.bastore, 1, 0, 0, 0) from rfl) (by decide) rfl (by first | exact oq_4071a75f hi.1.1 hi.2.2.2.1 | omega) (show ((xv * 24) + qq) < 144 by first | exact oq_adfddeb6 hi.1.2 g1002 | omega) (by decide) (by first | exact oq_31e518ae b1020.2 b1020.1 | omega) ?_
          obtain ⟨s1021, hs1021⟩ : ∃ x0, x0 = uC t 48 (((xv * 24) + qq)).toNat (Int32.ofInt (iC t 48 (((xv * 24) + (iC t 14 (qq).toNat))).toNat)) := ⟨_, rfl⟩
          rw [← hs1021]
          have Is1021 : Bd s1021 := by rw [hs1021]; exact bd_C I (show (0 : Int) ≤ (iC t 48 (((xv * 24) + (iC t 14 (qq).toNat))).toNat) ∧ (iC t 48 (((xv * 24) + (iC t 14 (qq).toNat))).toNat) ≤ 1 by first | exact ⟨b1020.1, b1020.2⟩ | omega) (rng_to _)
          have Fs1021 := fm_C (i := (((xv * 24) + qq)).toNat) (x := Int32.ofInt (iC t 48 (((xv * 24) + (iC t 14 (qq).toNat))).toNat)) F (show 48 ∈ _ by decide)
          rw [← hs1021] at Fs1021
          have ws1021_12 : iI s1021 12 = iI t 12 := by rw [hs1021]; rfl
          refine z_goto X (t := 121) (show cdA 46 61 = some (.goto 60, 3, 0, 0, 0) from rfl) (by decide) ?_
          refine z_inc X (x := qq) (lv' := [(4, .int (Int32.ofInt (qq + 1))), (5, .int (Int32.ofInt ((xv * 24) + qq))), (0, .ref (A 54)), (1, .int (Int32.ofInt xv)), (2, .int (Int32.ofInt yv)), (3, .int (Int32.ofInt zv))]) (show cdA 46 121 = some (.iinc 4 1, 3, 0, 0, 0) from rfl) (by decide) (List.Mem.tail _ (List.Mem.tail _ (List.Mem.tail _ (List.Mem.tail _ (List.Mem.tail _ (List.Mem.head _)))))) (fun _ h => h) ?_
          refine z_goto X (t := 3) (show cdA 46 124 = some (.goto (-121), 3, 0, 0, 0) from rfl) (by decide) ?_
          refine WS_lv (lv := [(0, .ref (A 54)), (1, .int (Int32.ofInt xv)), (2, .int (Int32.ofInt yv)), (3, .int (Int32.ofInt zv)), (4, .int (Int32.ofInt (qq + 1)))]) (List.forall_mem_cons.mpr ⟨(List.Mem.tail _ (List.Mem.tail _ (List.Mem.head _))), (List.forall_mem_cons.mpr ⟨(List.Mem.tail _ (List.Mem.tail _ (List.Mem.tail _ (List.Mem.head _)))), (List.forall_mem_cons.mpr ⟨(List.Mem.tail _ (List.Mem.tail _ (List.Mem.tail _ (List.Mem.tail _ (List.Mem.head _))))), (List.forall_mem_cons.mpr ⟨(List.Mem.tail _ (List.Mem.tail _ (List.Mem.tail _ (List.Mem.tail _ (List.Mem.tail _ (List.Mem.head _)))))), (List.forall_mem_cons.mpr ⟨(List.Mem.head _), (fun q h => absurd h List.not_mem_nil)⟩)⟩)⟩)⟩)⟩) ?_
          exact ih _ xv yv zv (qq + 1) Is1021 Fs1021 (by first | exact ⟨And.intro (hi.1.1) (hi.1.2), And.intro (hi.2.1.1) (hi.2.1.2), hi.2.2.1, oq_54f49eb5 hi.2.2.2.1, oq_cec7cb2e g1002, oq_86ef0b17 ws1021_12 hi.2.2.2.2.2⟩ | omega) (by first | exact qk_me hm (by decide) (oq_ffa8317e g1002) | omega) kx
  refine z_const X (show cdA 46 0 = some (.iconst 0, 1, 0, 0, 0) from rfl) ?_
  refine z_store X (lv' := [(4, .int (Int32.ofInt 0)), (0, .ref (A 54)), (1, .int (Int32.ofInt x)), (2, .int (Int32.ofInt y)), (3, .int (Int32.ofInt z))]) (show cdA 46 1 = some (.istore 4, 2, 0, 0, 0) from rfl) (by decide) (fun _ h => h) ?_
  refine WS_lv (lv := [(0, .ref (A 54)), (1, .int (Int32.ofInt x)), (2, .int (Int32.ofInt y)), (3, .int (Int32.ofInt z)), (4, .int (Int32.ofInt 0))]) (List.forall_mem_cons.mpr ⟨(List.Mem.tail _ (List.Mem.head _)), (List.forall_mem_cons.mpr ⟨(List.Mem.tail _ (List.Mem.tail _ (List.Mem.head _))), (List.forall_mem_cons.mpr ⟨(List.Mem.tail _ (List.Mem.tail _ (List.Mem.tail _ (List.Mem.head _)))), (List.forall_mem_cons.mpr ⟨(List.Mem.tail _ (List.Mem.tail _ (List.Mem.tail _ (List.Mem.tail _ (List.Mem.head _))))), (List.forall_mem_cons.mpr ⟨(List.Mem.head _), (fun q h => absurd h List.not_mem_nil)⟩)⟩)⟩)⟩)⟩) ?_
  refine L3 ((24 - 0 : Int).toNat + 1) s x y z 0 I F (by first | exact ⟨And.intro (p0.1) (p0.2), And.intro (p1.1) (p1.2), p2, by decide, by decide, p3⟩ | omega) (Nat.lt_succ_self _) ?_
  intro s2 x3 Is2 Fs2 hs2
  have b4 : (0 : Int) ≤ iI s2 12 ∧ iI s2 12 ≤ 9 := Is2.1 12
  exact w_vret X.1 q hRt (ax_d X (show cdA 46 127 = some (.return_, 1, 0, 0, 0) from rfl)) (Nat.zero_le _) (Nat.zero_le _) ⟨_, rfl, Is2, Fs2, rfl, trivial⟩
set_option maxRecDepth 4000 in
theorem c4_judge_54 (G : GX l s0 D tys a0 dT) (I : Bd s) {x : Int} (p0 : 0 ≤ x ∧ x ≤ 5) (p1 : iI s 12 ≤ 8) : CT l s0 D A dT 45 (rmN 45) [.ref (A 54), .int (Int32.ofInt x)] s (fun o t => Bd t ∧ Fm [22, 23, 24] [33, 26, 27, 28, 29, 30, 31, 32, 20, 48, 47] s t ∧ o = .inl none ∧ (True)) := by
  refine ct_ofX G (by decide) (Nat.le_of_ble_eq_true rfl) (fun k X E ET hRt hXt q => ?_)
  show WS k 0 [(0, .ref (A 54)), (1, .int (Int32.ofInt x))] [] _ 0 0
  have F : Fm [22, 23, 24] [33, 26, 27, 28, 29, 30, 31, 32, 20, 48, 47] s s := fm_rf _ _ s
  have b1 : (0 : Int) ≤ iI s 12 ∧ iI s 12 ≤ 9 := I.1 12
  have L9 : ∀ (n : Nat) (t : PS) (xv qq : Int), Bd t → Fm [22, 23, 24] [33, 26, 27, 28, 29, 30, 31, 32, 20, 48, 47] s t → ((0 ≤ xv ∧ xv ≤ 5) ∧ 0 ≤ qq ∧ qq ≤ 24 ∧ iI t 12 ≤ 8) → (24 - qq : Int).toNat < n → (∀ (t' : PS) (qq' : Int), Bd t' → Fm [22, 23, 24] [33, 26, 27, 28, 29, 30, 31, 32, 20, 48, 47] s t' → ((0 ≤ xv ∧ xv ≤ 5) ∧ 0 ≤ qq' ∧ qq' ≤ 24 ∧ iI t' 12 ≤ 8) → WS k 33 [(0, .ref (A 54)), (1, .int (Int32.ofInt xv)), (2, .int (Int32.ofInt qq'))] [] (Wd A dT t') 0 0) → WS k 9 [(0, .ref (A 54)), (1, .int (Int32.ofInt xv)), (2, .int (Int32.ofInt qq))] [] (Wd A dT t) 0 0 := by
    intro n
    induction n with
    | zero =>
      intro t xv qq I F hi hm kx
      exact absurd hm (Nat.not_lt_zero _)
    | succ n ih =>
      intro t xv qq I F hi hm kx
      have b1001 : (0 : Int) ≤ iI t 12 ∧ iI t 12 ≤ 9 := I.1 12
      refine z_load_n X (x := qq) (show cdA 45 9 = some (.iload_n 2, 1, 0, 0, 0) from rfl) (List.Mem.tail _ (List.Mem.tail _ (List.Mem.head _))) ?_
      refine z_bipush X (show cdA 45 10 = some (.bipush 24, 2, 0, 0, 24) from rfl) ?_
      refine z_icmp_ge X (t := 33) (show cdA 45 12 = some (.if_icmp .ge 21, 3, 3, 0, 0) from rfl) (by decide) ⟨by first | exact oq_fa4e5087 hi.2.1 | omega, by first | exact oq_5bcd337f hi.2.2.1 | omega⟩ (by decide) (fun g1002 => ?_) (fun g1002 => ?_)
      ·
        refine WS_lv (lv := [(0, .ref (A 54)), (1, .int (Int32.ofInt xv)), (2, .int (Int32.ofInt qq))]) (List.forall_mem_cons.mpr ⟨(List.Mem.head _), (List.forall_mem_cons.mpr ⟨(List.Mem.tail _ (List.Mem.head _)), (List.forall_mem_cons.mpr ⟨(List.Mem.tail _ (List.Mem.tail _ (List.Mem.head _))), (fun q h => absurd h List.not_mem_nil)⟩)⟩)⟩) ?_
        exact kx _ qq I F (by first | exact ⟨And.intro (hi.1.1) (hi.1.2), hi.2.1, hi.2.2.1, hi.2.2.2⟩ | omega)
      ·
        refine z_aload_n X (x := A 54) (show cdA 45 15 = some (.aload_n 0, 1, 0, 0, 0) from rfl) (List.Mem.head _) ?_
        refine s_getR X 54 (show cdA 45 16 = some (.getfield 22, 3, 4, 8, 0) from rfl) (by decide) rfl rfl ?_
        refine z_load_n X (x := xv) (show cdA 45 19 = some (.iload_n 1, 1, 0, 0, 0) from rfl) (List.Mem.tail _ (List.Mem.head _)) ?_
        refine z_bipush X (show cdA 45 20 = some (.bipush 24, 2, 0, 0, 24) from rfl) ?_
        refine z_mul X (show cdA 45 22 = some (.imul, 1, 0, 0, 0) from rfl) ?_
        refine z_load_n X (x := qq) (show cdA 45 23 = some (.iload_n 2, 1, 0, 0, 0) from rfl) (List.Mem.tail _ (List.Mem.tail _ (List.Mem.head _))) ?_
        refine z_add X (show cdA 45 24 = some (.iadd, 1, 0, 0, 0) from rfl) ?_
        refine z_const X (show cdA 45 25 = some (.iconst 1, 1, 0, 0, 0) from rfl) ?_
        refine z_zast X 57 (show cdA 45 26 = some (.bastore, 1, 0, 0, 0) from rfl) (by decide) rfl (by first | exact oq_4071a75f hi.1.1 hi.2.1 | omega) (show ((xv * 24) + qq) < 144 by first | exact oq_adfddeb6 hi.1.2 g1002 | omega) (by decide) (by first | exact Or.inr (by decide) | omega) ?_
        obtain ⟨s1003, hs1003⟩ : ∃ x0, x0 = uC t 48 (((xv * 24) + qq)).toNat (Int32.ofInt 1) := ⟨_, rfl⟩
        rw [← hs1003]
        have Is1003 : Bd s1003 := by rw [hs1003]; exact bd_C I (show (0 : Int) ≤ 1 ∧ 1 ≤ 1 by first | exact ⟨by decide, by decide⟩ | omega) (by decide)
        have Fs1003 := fm_C (i := (((xv * 24) + qq)).toNat) (x := Int32.ofInt 1) F (show 48 ∈ _ by decide)
        rw [← hs1003] at Fs1003
        have ws1003_12 : iI s1003 12 = iI t 12 := by rw [hs1003]; rfl
        refine z_inc X (x := qq) (lv' := [(2, .int (Int32.ofInt (qq + 1))), (0, .ref (A 54)), (1, .int (Int32.ofInt xv))]) (show cdA 45 27 = some (.iinc 2 1, 3, 0, 0, 0) from rfl) (by decide) (List.Mem.tail _ (List.Mem.tail _ (List.Mem.head _))) (fun _ h => h) ?_
        refine z_goto X (t := 9) (show cdA 45 30 = some (.goto (-21), 3, 0, 0, 0) from rfl) (by decide) ?_
        refine WS_lv (lv := [(0, .ref (A 54)), (1, .int (Int32.ofInt xv)), (2, .int (Int32.ofInt (qq + 1)))]) (List.forall_mem_cons.mpr ⟨(List.Mem.tail _ (List.Mem.head _)), (List.forall_mem_cons.mpr ⟨(List.Mem.tail _ (List.Mem.tail _ (List.Mem.head _))), (List.forall_mem_cons.mpr ⟨(List.Mem.head _), (fun q h => absurd h List.not_mem_nil)⟩)⟩)⟩) ?_
        exact ih _ xv (qq + 1) Is1003 Fs1003 (by first | exact ⟨And.intro (hi.1.1) (hi.1.2), oq_54f49eb5 hi.2.1, oq_cec7cb2e g1002, oq_86ef0b17 ws1003_12 hi.2.2.2⟩ | omega) (by first | exact qk_me hm (by decide) (oq_ffa8317e g1002) | omega) kx
  have L56 : ∀ (n : Nat) (t : PS) (xv : Int) (gp : Int) (lw : Int64) (hw : Int64) (mm : Int) (li : Int) (p : Int), Bd t → Fm [22, 23, 24] [33, 26, 27, 28, 29, 30, 31, 32, 20, 48, 47] s t → ((0 ≤ xv ∧ xv ≤ 5) ∧ (0 ≤ gp ∧ gp ≤ 7) ∧ (0 ≤ mm ∧ mm ≤ 7 - p) ∧ rng li ∧ -1 ≤ p ∧ p ≤ 7 ∧ iI t 12 ≤ 8) → (p + 1 : Int).toNat < n → (∀ (t' : PS) (lw' : Int64) (hw' : Int64) (mm' : Int) (li' : Int) (p' : Int), Bd t' → Fm [22, 23, 24] [33, 26, 27, 28, 29, 30, 31, 32, 20, 48, 47] s t' → ((0 ≤ xv ∧ xv ≤ 5) ∧ (0 ≤ gp ∧ gp ≤ 7) ∧ (0 ≤ mm' ∧ mm' ≤ 7 - p') ∧ rng li' ∧ -1 ≤ p' ∧ p' ≤ 7 ∧ iI t' 12 ≤ 8) → WS k 140 [(0, .ref (A 54)), (1, .int (Int32.ofInt xv)), (2, .int (Int32.ofInt gp)), (3, .long lw'), (5, .long hw'), (7, .int (Int32.ofInt mm')), (8, .int (Int32.ofInt li')), (9, .int (Int32.ofInt p'))] [] (Wd A dT t') 0 0) → WS k 56 [(0, .ref (A 54)), (1, .int (Int32.ofInt xv)), (2, .int (Int32.ofInt gp)), (3, .long lw), (5, .long hw), (7, .int (Int32.ofInt mm)), (8, .int (Int32.ofInt li)), (9, .int (Int32.ofInt p))] [] (Wd A dT t) 0 0 := by
    intro n
    induction n with
    | zero =>
      intro t xv gp lw hw mm li p I F hi hm kx
      exact absurd hm (Nat.not_lt_zero _)
    | succ n ih =>
      intro t xv gp lw hw mm li p I F hi hm kx
      have b2001 : (0 : Int) ≤ iI t 12 ∧ iI t 12 ≤ 9 := I.1 12
      refine z_load X (x := p) (show cdA 45 56 = some (.iload 9, 2, 0, 0, 0) from rfl) (List.Mem.tail _ (List.Mem.tail _ (List.Mem.tail _ (List.Mem.tail _ (List.Mem.tail _ (List.Mem.tail _ (List.Mem.tail _ (List.Mem.head _)))))))) ?_
      refine z_if_lt X (t := 140) (show cdA 45 58 = some (.ifCond .lt 82, 3, 2, 0, 0) from rfl) (by decide) ⟨by first | exact oq_97ee2c2a hi.2.2.2.2.1 | omega, by first | exact oq_0e78ca7d hi.2.2.2.2.2.1 | omega⟩ (fun g2002 => ?_) (fun g2002 => ?_)
      ·
        refine WS_lv (lv := [(0, .ref (A 54)), (1, .int (Int32.ofInt xv)), (2, .int (Int32.ofInt gp)), (3, .long lw), (5, .long hw), (7, .int (Int32.ofInt mm)), (8, .int (Int32.ofInt li)), (9, .int (Int32.ofInt p))]) (List.forall_mem_cons.mpr ⟨(List.Mem.head _), (List.forall_mem_cons.mpr ⟨(List.Mem.tail _ (List.Mem.head _)), (List.forall_mem_cons.mpr ⟨(List.Mem.tail _ (List.Mem.tail _ (List.Mem.head _))), (List.forall_mem_cons.mpr ⟨(List.Mem.tail _ (List.Mem.tail _ (List.Mem.tail _ (List.Mem.head _)))), (List.forall_mem_cons.mpr ⟨(List.Mem.tail _ (List.Mem.tail _ (List.Mem.tail _ (List.Mem.tail _ (List.Mem.head _))))), (List.forall_mem_cons.mpr ⟨(List.Mem.tail _ (List.Mem.tail _ (List.Mem.tail _ (List.Mem.tail _ (List.Mem.tail _ (List.Mem.head _)))))), (List.forall_mem_cons.mpr ⟨(List.Mem.tail _ (List.Mem.tail _ (List.Mem.tail _ (List.Mem.tail _ (List.Mem.tail _ (List.Mem.tail _ (List.Mem.head _))))))), (List.forall_mem_cons.mpr ⟨(List.Mem.tail _ (List.Mem.tail _ (List.Mem.tail _ (List.Mem.tail _ (List.Mem.tail _ (List.Mem.tail _ (List.Mem.tail _ (List.Mem.head _)))))))), (fun q h => absurd h List.not_mem_nil)⟩)⟩)⟩)⟩)⟩)⟩)⟩)⟩) ?_
        exact kx _ lw hw mm li p I F (by first | exact ⟨And.intro (hi.1.1) (hi.1.2), And.intro (hi.2.1.1) (hi.2.1.2), And.intro (hi.2.2.1.1) (hi.2.2.1.2), And.intro (hi.2.2.2.1.1) (hi.2.2.2.1.2), hi.2.2.2.2.1, hi.2.2.2.2.2.1, hi.2.2.2.2.2.2⟩ | omega)
      ·
        refine z_aload_n X (x := A 54) (show cdA 45 61 = some (.aload_n 0, 1, 0, 0, 0) from rfl) (List.Mem.head _) ?_
        refine s_getR X 54 (show cdA 45 62 = some (.getfield 11, 3, 4, 4, 0) from rfl) (by decide) rfl rfl ?_
        refine z_load_n X (x := xv) (show cdA 45 65 = some (.iload_n 1, 1, 0, 0, 0) from rfl) (List.Mem.tail _ (List.Mem.head _)) ?_
        refine z_ald X 55 (show cdA 45 66 = some (.iaload, 1, 0, 0, 0) from rfl) (by decide) rfl (by first | exact hi.1.1 | omega) (show xv < 6 by first | exact oq_9207f8f8 hi.1.2 | omega) (by decide) ?_
        have b2003 : (0 : Int) ≤ iC t 46 (xv).toNat ∧ iC t 46 (xv).toNat ≤ 16777215 := I.2 46 _ (show (xv).toNat < 6 by first | exact oq_78f9cd89 hi.1.2 | omega)
        refine z_const X (show cdA 45 67 = some (.iconst 3, 1, 0, 0, 0) from rfl) ?_
        refine z_load X (x := p) (show cdA 45 68 = some (.iload 9, 2, 0, 0, 0) from rfl) (List.Mem.tail _ (List.Mem.tail _ (List.Mem.tail _ (List.Mem.tail _ (List.Mem.tail _ (List.Mem.tail _ (List.Mem.tail _ (List.Mem.head _)))))))) ?_
        refine z_mul X (show cdA 45 70 = some (.imul, 1, 0, 0, 0) from rfl) ?_
        refine z_bshr X (show cdA 45 71 = some (.ishr, 1, 0, 0, 0) from rfl) ?_
        refine z_any (fun y2004 hy2004 => ?_)
        refine z_bipush X (show cdA 45 72 = some (.bipush 7, 2, 0, 0, 7) from rfl) ?_
        refine z_band X (show cdA 45 74 = some (.iand, 1, 0, 0, 0) from rfl) ?_
        refine z_any (fun y2005 hy2005 => ?_)
        refine z_load_n X (x := gp) (show cdA 45 75 = some (.iload_n 2, 1, 0, 0, 0) from rfl) (List.Mem.tail _ (List.Mem.tail _ (List.Mem.head _))) ?_
        refine z_icmp_ne X (t := 134) (show cdA 45 76 = some (.if_icmp .ne 58, 3, 1, 0, 0) from rfl) (by decide) hy2005 ⟨by first | exact oq_fa4e5087 hi.2.1.1 | omega, by first | exact oq_0e78ca7d hi.2.1.2 | omega⟩ (fun g2006 => ?_) (fun g2006 => ?_)
        ·
          refine z_inc X (x := p) (lv' := [(9, .int (Int32.ofInt (p + (-1)))), (0, .ref (A 54)), (1, .int (Int32.ofInt xv)), (2, .int (Int32.ofInt gp)), (3, .long lw), (5, .long hw), (7, .int (Int32.ofInt mm)), (8, .int (Int32.ofInt li))]) (show cdA 45 134 = some (.iinc 9 (-1), 3, 0, 0, 0) from rfl) (by decide) (List.Mem.tail _ (List.Mem.tail _ (List.Mem.tail _ (List.Mem.tail _ (List.Mem.tail _ (List.Mem.tail _ (List.Mem.tail _ (List.Mem.head _)))))))) (fun _ h => h) ?_
          refine z_goto X (t := 56) (show cdA 45 137 = some (.goto (-81), 3, 0, 0, 0) from rfl) (by decide) ?_
          refine WS_lv (lv := [(0, .ref (A 54)), (1, .int (Int32.ofInt xv)), (2, .int (Int32.ofInt gp)), (3, .long lw), (5, .long hw), (7, .int (Int32.ofInt mm)), (8, .int (Int32.ofInt li)), (9, .int (Int32.ofInt (p + (-1))))]) (List.forall_mem_cons.mpr ⟨(List.Mem.tail _ (List.Mem.head _)), (List.forall_mem_cons.mpr ⟨(List.Mem.tail _ (List.Mem.tail _ (List.Mem.head _))), (List.forall_mem_cons.mpr ⟨(List.Mem.tail _ (List.Mem.tail _ (List.Mem.tail _ (List.Mem.head _)))), (List.forall_mem_cons.mpr ⟨(List.Mem.tail _ (List.Mem.tail _ (List.Mem.tail _ (List.Mem.tail _ (List.Mem.head _))))), (List.forall_mem_cons.mpr ⟨(List.Mem.tail _ (List.Mem.tail _ (List.Mem.tail _ (List.Mem.tail _ (List.Mem.tail _ (List.Mem.head _)))))), (List.forall_mem_cons.mpr ⟨(List.Mem.tail _ (List.Mem.tail _ (List.Mem.tail _ (List.Mem.tail _ (List.Mem.tail _ (List.Mem.tail _ (List.Mem.head _))))))), (List.forall_mem_cons.mpr ⟨(List.Mem.tail _ (List.Mem.tail _ (List.Mem.tail _ (List.Mem.tail _ (List.Mem.tail _ (List.Mem.tail _ (List.Mem.tail _ (List.Mem.head _)))))))), (List.forall_mem_cons.mpr ⟨(List.Mem.head _), (fun q h => absurd h List.not_mem_nil)⟩)⟩)⟩)⟩)⟩)⟩)⟩)⟩) ?_
          exact ih _ xv gp lw hw mm li (p + (-1)) I F (by first | exact ⟨And.intro (hi.1.1) (hi.1.2), And.intro (hi.2.1.1) (hi.2.1.2), And.intro (hi.2.2.1.1) (oq_256ac20b hi.2.2.1.2), And.intro (hi.2.2.2.1.1) (hi.2.2.2.1.2), oq_285ed02d g2002, oq_40e69522 hi.2.2.2.2.2.1, hi.2.2.2.2.2.2⟩ | omega) (by first | exact qk_me hm (by decide) (oq_7a276f11 g2002) | omega) kx
        ·
          refine z_aload_n X (x := A 54) (show cdA 45 79 = some (.aload_n 0, 1, 0, 0, 0) from rfl) (List.Mem.head _) ?_
          refine s_getR X 54 (show cdA 45 80 = some (.getfield 43, 3, 4, 2, 0) from rfl) (by decide) rfl rfl ?_
          refine z_load X (x := p) (show cdA 45 83 = some (.iload 9, 2, 0, 0, 0) from rfl) (List.Mem.tail _ (List.Mem.tail _ (List.Mem.tail _ (List.Mem.tail _ (List.Mem.tail _ (List.Mem.tail _ (List.Mem.tail _ (List.Mem.head _)))))))) ?_
          refine z_callV X 25 (rm := rmN 30) (As := [.int (Int32.ofInt p)]) (st := []) (show cdA 45 85 = some (.invokevirtual 54, 3, 30, 0, 0) from rfl) rfl (by decide) rfl (by rw [E.1, E.2.1, E.2.2.1]; exact c3_hasCells_25 G I (by first | exact ⟨g2002, hi.2.2.2.2.2.1⟩ | omega)) ⟨by rw [E.2.2.2]; exact (show (rmN 30).frames + 1 ≤ (rmN 45).frames by decide), by rw [E.2.2.2]; exact (show 8 + (mNL (miB 30) + 11) + (rmN 30).locals ≤ (rmN 45).locals by decide), by rw [E.2.2.2]; exact (show 0 + (rmN 30).cells ≤ (rmN 45).cells by decide), by rw [E.2.2.2]; exact (show 0 + (rmN 30).slots ≤ (rmN 45).slots by decide)⟩ (Nat.le_of_ble_eq_true rfl) (fun vv s2007 hq => ?_) (fun ee s2007 hq => ?_)
          rotate_left
          · obtain ⟨Is2007, Fs2007, e2008, hv, hrs2007, hps2007⟩ := hq; cases hv
          obtain ⟨Is2007, Fs2007, e2008, hv, hrs2007, hps2007⟩ := hq
          cases hv
          have Gs2007 := fm_ts F Fs2007 (by decide) (by decide)
          have ws2007_12 : iI s2007 12 = iI t 12 := fm_i Fs2007 (by decide)
          show WS k 88 [(0, .ref (A 54)), (1, .int (Int32.ofInt xv)), (2, .int (Int32.ofInt gp)), (3, .long lw), (5, .long hw), (7, .int (Int32.ofInt mm)), (8, .int (Int32.ofInt li)), (9, .int (Int32.ofInt p))] [.int (Int32.ofInt e2008)] (Wd A dT s2007) 0 0
          refine z_if_eq X (t := 134) (show cdA 45 88 = some (.ifCond .eq 46, 3, 0, 0, 0) from rfl) (by decide) hrs2007 (fun g2009 => ?_) (fun g2009 => ?_)
          ·
            refine z_inc X (x := p) (lv' := [(9, .int (Int32.ofInt (p + (-1)))), (0, .ref (A 54)), (1, .int (Int32.ofInt xv)), (2, .int (Int32.ofInt gp)), (3, .long lw), (5, .long hw), (7, .int (Int32.ofInt mm)), (8, .int (Int32.ofInt li))]) (show cdA 45 134 = some (.iinc 9 (-1), 3, 0, 0, 0) from rfl) (by decide) (List.Mem.tail _ (List.Mem.tail _ (List.Mem.tail _ (List.Mem.tail _ (List.Mem.tail _ (List.Mem.tail _ (List.Mem.tail _ (List.Mem.head _)))))))) (fun _ h => h) ?_
            refine z_goto X (t := 56) (show cdA 45 137 = some (.goto (-81), 3, 0, 0, 0) from rfl) (by decide) ?_
            refine WS_lv (lv := [(0, .ref (A 54)), (1, .int (Int32.ofInt xv)), (2, .int (Int32.ofInt gp)), (3, .long lw), (5, .long hw), (7, .int (Int32.ofInt mm)), (8, .int (Int32.ofInt li)), (9, .int (Int32.ofInt (p + (-1))))]) (List.forall_mem_cons.mpr ⟨(List.Mem.tail _ (List.Mem.head _)), (List.forall_mem_cons.mpr ⟨(List.Mem.tail _ (List.Mem.tail _ (List.Mem.head _))), (List.forall_mem_cons.mpr ⟨(List.Mem.tail _ (List.Mem.tail _ (List.Mem.tail _ (List.Mem.head _)))), (List.forall_mem_cons.mpr ⟨(List.Mem.tail _ (List.Mem.tail _ (List.Mem.tail _ (List.Mem.tail _ (List.Mem.head _))))), (List.forall_mem_cons.mpr ⟨(List.Mem.tail _ (List.Mem.tail _ (List.Mem.tail _ (List.Mem.tail _ (List.Mem.tail _ (List.Mem.head _)))))), (List.forall_mem_cons.mpr ⟨(List.Mem.tail _ (List.Mem.tail _ (List.Mem.tail _ (List.Mem.tail _ (List.Mem.tail _ (List.Mem.tail _ (List.Mem.head _))))))), (List.forall_mem_cons.mpr ⟨(List.Mem.tail _ (List.Mem.tail _ (List.Mem.tail _ (List.Mem.tail _ (List.Mem.tail _ (List.Mem.tail _ (List.Mem.tail _ (List.Mem.head _)))))))), (List.forall_mem_cons.mpr ⟨(List.Mem.head _), (fun q h => absurd h List.not_mem_nil)⟩)⟩)⟩)⟩)⟩)⟩)⟩)⟩) ?_
            exact ih _ xv gp lw hw mm li (p + (-1)) Is2007 Gs2007 (by first | exact ⟨And.intro (hi.1.1) (hi.1.2), And.intro (hi.2.1.1) (hi.2.1.2), And.intro (hi.2.2.1.1) (oq_256ac20b hi.2.2.1.2), And.intro (hi.2.2.2.1.1) (hi.2.2.2.1.2), oq_285ed02d g2002, oq_40e69522 hi.2.2.2.2.2.1, oq_86ef0b17 ws2007_12 hi.2.2.2.2.2.2⟩ | omega) (by first | exact qk_me hm (by decide) (oq_7a276f11 g2002) | omega) kx
          ·
            refine w_lload_n X.1 (ax_d X (show cdA 45 91 = some (.lload_n 3, 1, 0, 0, 0) from rfl)) (x := lw) (List.Mem.tail _ (List.Mem.tail _ (List.Mem.tail _ (List.Mem.head _)))) ?_
            refine z_aload_n X (x := A 54) (show cdA 45 92 = some (.aload_n 0, 1, 0, 0, 0) from rfl) (List.Mem.head _) ?_
            refine s_getR X 54 (show cdA 45 93 = some (.getfield 43, 3, 4, 2, 0) from rfl) (by decide) rfl rfl ?_
            refine s_getR X 25 (show cdA 45 96 = some (.getfield 60, 3, 3, 1, 0) from rfl) (by decide) rfl rfl ?_
            refine z_load X (x := p) (show cdA 45 99 = some (.iload 9, 2, 0, 0, 0) from rfl) (List.Mem.tail _ (List.Mem.tail _ (List.Mem.tail _ (List.Mem.tail _ (List.Mem.tail _ (List.Mem.tail _ (List.Mem.tail _ (List.Mem.head _)))))))) ?_
            refine z_lald X 27 (show cdA 45 101 = some (.laload, 1, 0, 0, 0) from rfl) (by decide) rfl (by first | exact g2002 | omega) (show p < 8 by first | exact oq_aaea290e hi.2.2.2.2.2.1 | omega) (by decide) (fun j2010 => ?_)
            refine w_lor X.1 (ax_d X (show cdA 45 102 = some (.lor, 1, 0, 0, 0) from rfl)) ?_
            refine z_anyJ (fun j2011 => ?_)
            refine w_lstore_n X.1 (lv' := [(3, .long j2011), (0, .ref (A 54)), (1, .int (Int32.ofInt xv)), (2, .int (Int32.ofInt gp)), (5, .long hw), (7, .int (Int32.ofInt mm)), (8, .int (Int32.ofInt li)), (9, .int (Int32.ofInt p))]) (ax_d X (show cdA 45 103 = some (.lstore_n 3, 1, 0, 0, 0) from rfl)) (by rw [X.2.1.2.2]; decide) (fun _ h => h) ?_
            refine w_lload X.1 (ax_d X (show cdA 45 104 = some (.lload 5, 2, 0, 0, 0) from rfl)) (x := hw) (List.Mem.tail _ (List.Mem.tail _ (List.Mem.tail _ (List.Mem.tail _ (List.Mem.head _))))) ?_
            refine z_aload_n X (x := A 54) (show cdA 45 106 = some (.aload_n 0, 1, 0, 0, 0) from rfl) (List.Mem.tail _ (List.Mem.head _)) ?_
            refine s_getR X 54 (show cdA 45 107 = some (.getfield 43, 3, 4, 2, 0) from rfl) (by decide) rfl rfl ?_
            refine s_getR X 25 (show cdA 45 110 = some (.getfield 64, 3, 3, 2, 0) from rfl) (by decide) rfl rfl ?_
            refine z_load X (x := p) (show cdA 45 113 = some (.iload 9, 2, 0, 0, 0) from rfl) (List.Mem.tail _ (List.Mem.tail _ (List.Mem.tail _ (List.Mem.tail _ (List.Mem.tail _ (List.Mem.tail _ (List.Mem.tail _ (List.Mem.head _)))))))) ?_
            refine z_lald X 28 (show cdA 45 115 = some (.laload, 1, 0, 0, 0) from rfl) (by decide) rfl (by first | exact g2002 | omega) (show p < 8 by first | exact oq_aaea290e hi.2.2.2.2.2.1 | omega) (by decide) (fun j2012 => ?_)
            refine w_lor X.1 (ax_d X (show cdA 45 116 = some (.lor, 1, 0, 0, 0) from rfl)) ?_
            refine z_anyJ (fun j2013 => ?_)
            refine w_lstore X.1 (lv' := [(5, .long j2013), (3, .long j2011), (0, .ref (A 54)), (1, .int (Int32.ofInt xv)), (2, .int (Int32.ofInt gp)), (7, .int (Int32.ofInt mm)), (8, .int (Int32.ofInt li)), (9, .int (Int32.ofInt p))]) (ax_d X (show cdA 45 117 = some (.lstore 5, 2, 0, 0, 0) from rfl)) (by rw [X.2.1.2.2]; decide) (fun _ h => h) ?_
            refine z_inc X (x := mm) (lv' := [(7, .int (Int32.ofInt (mm + 1))), (5, .long j2013), (3, .long j2011), (0, .ref (A 54)), (1, .int (Int32.ofInt xv)), (2, .int (Int32.ofInt gp)), (8, .int (Int32.ofInt li)), (9, .int (Int32.ofInt p))]) (show cdA 45 119 = some (.iinc 7 1, 3, 0, 0, 0) from rfl) (by decide) (List.Mem.tail _ (List.Mem.tail _ (List.Mem.tail _ (List.Mem.tail _ (List.Mem.tail _ (List.Mem.head _)))))) (fun _ h => h) ?_
            refine z_aload_n X (x := A 54) (show cdA 45 122 = some (.aload_n 0, 1, 0, 0, 0) from rfl) (List.Mem.tail _ (List.Mem.tail _ (List.Mem.tail _ (List.Mem.head _)))) ?_
            refine s_getR X 54 (show cdA 45 123 = some (.getfield 43, 3, 4, 2, 0) from rfl) (by decide) rfl rfl ?_
            refine s_getR X 25 (show cdA 45 126 = some (.getfield 67, 3, 3, 3, 0) from rfl) (by decide) rfl rfl ?_
            refine z_load X (x := p) (show cdA 45 129 = some (.iload 9, 2, 0, 0, 0) from rfl) (List.Mem.tail _ (List.Mem.tail _ (List.Mem.tail _ (List.Mem.tail _ (List.Mem.tail _ (List.Mem.tail _ (List.Mem.tail _ (List.Mem.head _)))))))) ?_
            refine z_ald X 29 (show cdA 45 131 = some (.iaload, 1, 0, 0, 0) from rfl) (by decide) rfl (by first | exact g2002 | omega) (show p < 8 by first | exact oq_aaea290e hi.2.2.2.2.2.1 | omega) (by decide) ?_
            have b2014 : (0 : Int) ≤ iC s2007 24 (p).toNat ∧ iC s2007 24 (p).toNat ≤ 9999 := Is2007.2 24 _ (show (p).toNat < 8 by first | exact oq_c19a3aae hi.2.2.2.2.2.1 | omega)
            refine z_store X (lv' := [(8, .int (Int32.ofInt (iC s2007 24 (p).toNat))), (7, .int (Int32.ofInt (mm + 1))), (5, .long j2013), (3, .long j2011), (0, .ref (A 54)), (1, .int (Int32.ofInt xv)), (2, .int (Int32.ofInt gp)), (9, .int (Int32.ofInt p))]) (show cdA 45 132 = some (.istore 8, 2, 0, 0, 0) from rfl) (by decide) (fun _ h => h) ?_
            refine z_inc X (x := p) (lv' := [(9, .int (Int32.ofInt (p + (-1)))), (8, .int (Int32.ofInt (iC s2007 24 (p).toNat))), (7, .int (Int32.ofInt (mm + 1))), (5, .long j2013), (3, .long j2011), (0, .ref (A 54)), (1, .int (Int32.ofInt xv)), (2, .int (Int32.ofInt gp))]) (show cdA 45 134 = some (.iinc 9 (-1), 3, 0, 0, 0) from rfl) (by decide) (List.Mem.tail _ (List.Mem.tail _ (List.Mem.tail _ (List.Mem.tail _ (List.Mem.tail _ (List.Mem.tail _ (List.Mem.tail _ (List.Mem.head _)))))))) (fun _ h => h) ?_
            refine z_goto X (t := 56) (show cdA 45 137 = some (.goto (-81), 3, 0, 0, 0) from rfl) (by decide) ?_
            refine WS_lv (lv := [(0, .ref (A 54)), (1, .int (Int32.ofInt xv)), (2, .int (Int32.ofInt gp)), (3, .long j2011), (5, .long j2013), (7, .int (Int32.ofInt (mm + 1))), (8, .int (Int32.ofInt (iC s2007 24 (p).toNat))), (9, .int (Int32.ofInt (p + (-1))))]) (List.forall_mem_cons.mpr ⟨(List.Mem.tail _ (List.Mem.tail _ (List.Mem.tail _ (List.Mem.tail _ (List.Mem.tail _ (List.Mem.head _)))))), (List.forall_mem_cons.mpr ⟨(List.Mem.tail _ (List.Mem.tail _ (List.Mem.tail _ (List.Mem.tail _ (List.Mem.tail _ (List.Mem.tail _ (List.Mem.head _))))))), (List.forall_mem_cons.mpr ⟨(List.Mem.tail _ (List.Mem.tail _ (List.Mem.tail _ (List.Mem.tail _ (List.Mem.tail _ (List.Mem.tail _ (List.Mem.tail _ (List.Mem.head _)))))))), (List.forall_mem_cons.mpr ⟨(List.Mem.tail _ (List.Mem.tail _ (List.Mem.tail _ (List.Mem.tail _ (List.Mem.head _))))), (List.forall_mem_cons.mpr ⟨(List.Mem.tail _ (List.Mem.tail _ (List.Mem.tail _ (List.Mem.head _)))), (List.forall_mem_cons.mpr ⟨(List.Mem.tail _ (List.Mem.tail _ (List.Mem.head _))), (List.forall_mem_cons.mpr ⟨(List.Mem.tail _ (List.Mem.head _)), (List.forall_mem_cons.mpr ⟨(List.Mem.head _), (fun q h => absurd h List.not_mem_nil)⟩)⟩)⟩)⟩)⟩)⟩)⟩)⟩) ?_
            exact ih _ xv gp j2011 j2013 (mm + 1) (iC s2007 24 (p).toNat) (p + (-1)) Is2007 Gs2007 (by first | exact ⟨And.intro (hi.1.1) (hi.1.2), And.intro (hi.2.1.1) (hi.2.1.2), And.intro (oq_54f49eb5 hi.2.2.1.1) (oq_dd3f4b9e hi.2.2.1.2), And.intro (oq_fa4e5087 b2014.1) (oq_a11a259b b2014.2), oq_285ed02d g2002, oq_40e69522 hi.2.2.2.2.2.1, oq_86ef0b17 ws2007_12 hi.2.2.2.2.2.2⟩ | omega) (by first | exact qk_me hm (by decide) (oq_7a276f11 g2002) | omega) kx
  have L35 : ∀ (n : Nat) (t : PS) (xv gp : Int), Bd t → Fm [22, 23, 24] [33, 26, 27, 28, 29, 30, 31, 32, 20, 48, 47] s t → ((0 ≤ xv ∧ xv ≤ 5) ∧ 0 ≤ gp ∧ gp ≤ 8 ∧ iI t 12 ≤ 8) → (8 - gp : Int).toNat < n → (∀ (t' : PS) (gp' : Int), Bd t' → Fm [22, 23, 24] [33, 26, 27, 28, 29, 30, 31, 32, 20, 48, 47] s t' → ((0 ≤ xv ∧ xv ≤ 5) ∧ 0 ≤ gp' ∧ gp' ≤ 8 ∧ iI t' 12 ≤ 8) → WS k 191 [(0, .ref (A 54)), (1, .int (Int32.ofInt xv)), (2, .int (Int32.ofInt gp'))] [] (Wd A dT t') 0 0) → WS k 35 [(0, .ref (A 54)), (1, .int (Int32.ofInt xv)), (2, .int (Int32.ofInt gp))] [] (Wd A dT t) 0 0 := by
    intro n
    induction n with
    | zero =>
      intro t xv gp I F hi hm kx
      exact absurd hm (Nat.not_lt_zero _)
    | succ n ih =>
      intro t xv gp I F hi hm kx
      have b3001 : (0 : Int) ≤ iI t 12 ∧ iI t 12 ≤ 9 := I.1 12
      refine z_load_n X (x := gp) (show cdA 45 35 = some (.iload_n 2, 1, 0, 0, 0) from rfl) (List.Mem.tail _ (List.Mem.tail _ (List.Mem.head _))) ?_
      refine z_bipush X (show cdA 45 36 = some (.bipush 8, 2, 0, 0, 8) from rfl) ?_
      refine z_icmp_ge X (t := 191) (show cdA 45 38 = some (.if_icmp .ge 153, 3, 3, 0, 0) from rfl) (by decide) ⟨by first | exact oq_fa4e5087 hi.2.1 | omega, by first | exact oq_d3f5d874 hi.2.2.1 | omega⟩ (by decide) (fun g3002 => ?_) (fun g3002 => ?_)
      ·
        refine WS_lv (lv := [(0, .ref (A 54)), (1, .int (Int32.ofInt xv)), (2, .int (Int32.ofInt gp))]) (List.forall_mem_cons.mpr ⟨(List.Mem.head _), (List.forall_mem_cons.mpr ⟨(List.Mem.tail _ (List.Mem.head _)), (List.forall_mem_cons.mpr ⟨(List.Mem.tail _ (List.Mem.tail _ (List.Mem.head _))), (fun q h => absurd h List.not_mem_nil)⟩)⟩)⟩) ?_
        exact kx _ gp I F (by first | exact ⟨And.intro (hi.1.1) (hi.1.2), hi.2.1, hi.2.2.1, hi.2.2.2⟩ | omega)
      ·
        refine w_lconst X.1 (ax_d X (show cdA 45 41 = some (.lconst 0, 1, 0, 0, 0) from rfl)) rfl ?_
        refine z_anyJ (fun j3003 => ?_)
        refine w_lstore_n X.1 (lv' := [(3, .long j3003), (0, .ref (A 54)), (1, .int (Int32.ofInt xv)), (2, .int (Int32.ofInt gp))]) (ax_d X (show cdA 45 42 = some (.lstore_n 3, 1, 0, 0, 0) from rfl)) (by rw [X.2.1.2.2]; decide) (fun _ h => h) ?_
        refine w_lconst X.1 (ax_d X (show cdA 45 43 = some (.lconst 0, 1, 0, 0, 0) from rfl)) rfl ?_
        refine z_anyJ (fun j3004 => ?_)
        refine w_lstore X.1 (lv' := [(5, .long j3004), (3, .long j3003), (0, .ref (A 54)), (1, .int (Int32.ofInt xv)), (2, .int (Int32.ofInt gp))]) (ax_d X (show cdA 45 44 = some (.lstore 5, 2, 0, 0, 0) from rfl)) (by rw [X.2.1.2.2]; decide) (fun _ h => h) ?_
        refine z_const X (show cdA 45 46 = some (.iconst 0, 1, 0, 0, 0) from rfl) ?_
        refine z_store X (lv' := [(7, .int (Int32.ofInt 0)), (5, .long j3004), (3, .long j3003), (0, .ref (A 54)), (1, .int (Int32.ofInt xv)), (2, .int (Int32.ofInt gp))]) (show cdA 45 47 = some (.istore 7, 2, 0, 0, 0) from rfl) (by decide) (fun _ h => h) ?_
        refine z_const X (show cdA 45 49 = some (.iconst 0, 1, 0, 0, 0) from rfl) ?_
        refine z_store X (lv' := [(8, .int (Int32.ofInt 0)), (7, .int (Int32.ofInt 0)), (5, .long j3004), (3, .long j3003), (0, .ref (A 54)), (1, .int (Int32.ofInt xv)), (2, .int (Int32.ofInt gp))]) (show cdA 45 50 = some (.istore 8, 2, 0, 0, 0) from rfl) (by decide) (fun _ h => h) ?_
        refine z_bipush X (show cdA 45 52 = some (.bipush 7, 2, 0, 0, 7) from rfl) ?_
        refine z_store X (lv' := [(9, .int (Int32.ofInt 7)), (8, .int (Int32.ofInt 0)), (7, .int (Int32.ofInt 0)), (5, .long j3004), (3, .long j3003), (0, .ref (A 54)), (1, .int (Int32.ofInt xv)), (2, .int (Int32.ofInt gp))]) (show cdA 45 54 = some (.istore 9, 2, 0, 0, 0) from rfl) (by decide) (fun _ h => h) ?_
        refine WS_lv (lv := [(0, .ref (A 54)), (1, .int (Int32.ofInt xv)), (2, .int (Int32.ofInt gp)), (3, .long j3003), (5, .long j3004), (7, .int (Int32.ofInt 0)), (8, .int (Int32.ofInt 0)), (9, .int (Int32.ofInt 7))]) (List.forall_mem_cons.mpr ⟨(List.Mem.tail _ (List.Mem.tail _ (List.Mem.tail _ (List.Mem.tail _ (List.Mem.tail _ (List.Mem.head _)))))), (List.forall_mem_cons.mpr ⟨(List.Mem.tail _ (List.Mem.tail _ (List.Mem.tail _ (List.Mem.tail _ (List.Mem.tail _ (List.Mem.tail _ (List.Mem.head _))))))), (List.forall_mem_cons.mpr ⟨(List.Mem.tail _ (List.Mem.tail _ (List.Mem.tail _ (List.Mem.tail _ (List.Mem.tail _ (List.Mem.tail _ (List.Mem.tail _ (List.Mem.head _)))))))), (List.forall_mem_cons.mpr ⟨(List.Mem.tail _ (List.Mem.tail _ (List.Mem.tail _ (List.Mem.tail _ (List.Mem.head _))))), (List.forall_mem_cons.mpr ⟨(List.Mem.tail _ (List.Mem.tail _ (List.Mem.tail _ (List.Mem.head _)))), (List.forall_mem_cons.mpr ⟨(List.Mem.tail _ (List.Mem.tail _ (List.Mem.head _))), (List.forall_mem_cons.mpr ⟨(List.Mem.tail _ (List.Mem.head _)), (List.forall_mem_cons.mpr ⟨(List.Mem.head _), (fun q h => absurd h List.not_mem_nil)⟩)⟩)⟩)⟩)⟩)⟩)⟩)⟩) ?_
        refine L56 ((7 + 1 : Int).toNat + 1) t xv gp j3003 j3004 0 0 7 I F (by first | exact ⟨And.intro (hi.1.1) (hi.1.2), And.intro (hi.2.1) (oq_78c639ed g3002), And.intro (by decide) (by decide), And.intro (by decide) (by decide), by decide, by decide, hi.2.2.2⟩ | omega) (Nat.lt_succ_self _) ?_
        intro s3005 x3006 x3007 x3008 x3009 x3010 Is3005 Fs3005 hs3005
        have b3011 : (0 : Int) ≤ iI s3005 12 ∧ iI s3005 12 ≤ 9 := Is3005.1 12
        refine z_load X (x := x3008) (show cdA 45 140 = some (.iload 7, 2, 0, 0, 0) from rfl) (List.Mem.tail _ (List.Mem.tail _ (List.Mem.tail _ (List.Mem.tail _ (List.Mem.tail _ (List.Mem.head _)))))) ?_
        refine z_if_le X (t := 185) (show cdA 45 142 = some (.ifCond .le 43, 3, 5, 0, 0) from rfl) (by decide) ⟨by first | exact oq_fa4e5087 hs3005.2.2.1.1 | omega, by first | exact oq_6d3b9c21 hs3005.2.2.1.2 hs3005.2.2.2.2.1 | omega⟩ (fun g3012 => ?_) (fun g3012 => ?_)
        ·
          refine z_inc X (x := gp) (lv' := [(2, .int (Int32.ofInt (gp + 1))), (0, .ref (A 54)), (1, .int (Int32.ofInt xv)), (3, .long x3006), (5, .long x3007), (7, .int (Int32.ofInt x3008)), (8, .int (Int32.ofInt x3009)), (9, .int (Int32.ofInt x3010))]) (show cdA 45 185 = some (.iinc 2 1, 3, 0, 0, 0) from rfl) (by decide) (List.Mem.tail _ (List.Mem.tail _ (List.Mem.head _))) (fun _ h => h) ?_
          refine z_goto X (t := 35) (show cdA 45 188 = some (.goto (-153), 3, 0, 0, 0) from rfl) (by decide) ?_
          refine WS_lv (lv := [(0, .ref (A 54)), (1, .int (Int32.ofInt xv)), (2, .int (Int32.ofInt (gp + 1)))]) (List.forall_mem_cons.mpr ⟨(List.Mem.tail _ (List.Mem.head _)), (List.forall_mem_cons.mpr ⟨(List.Mem.tail _ (List.Mem.tail _ (List.Mem.head _))), (List.forall_mem_cons.mpr ⟨(List.Mem.head _), (fun q h => absurd h List.not_mem_nil)⟩)⟩)⟩) ?_
          exact ih _ xv (gp + 1) Is3005 Fs3005 (by first | exact ⟨And.intro (hs3005.1.1) (hs3005.1.2), oq_54f49eb5 hs3005.2.1.1, oq_18969492 hs3005.2.1.2, hs3005.2.2.2.2.2.2⟩ | omega) (by first | exact qk_me hm (by decide) (oq_6bd25173 hs3005.2.1.2) | omega) kx
        ·
          refine z_aload_n X (x := A 54) (show cdA 45 145 = some (.aload_n 0, 1, 0, 0, 0) from rfl) (List.Mem.head _) ?_
          refine s_getR X 54 (show cdA 45 146 = some (.getfield 19, 3, 4, 7, 0) from rfl) (by decide) rfl rfl ?_
          refine z_load_n X (x := xv) (show cdA 45 149 = some (.iload_n 1, 1, 0, 0, 0) from rfl) (List.Mem.tail _ (List.Mem.head _)) ?_
          refine w_dup2_11 X.1 (ax_d X (show cdA 45 150 = some (.dup2, 1, 0, 0, 0) from rfl)) rfl rfl ?_
          refine z_ald X 56 (show cdA 45 151 = some (.iaload, 1, 0, 0, 0) from rfl) (by decide) rfl (by first | exact hs3005.1.1 | omega) (show xv < 6 by first | exact oq_9207f8f8 hs3005.1.2 | omega) (by decide) ?_
          have b3013 : ((-2147483648) : Int) ≤ iC s3005 47 (xv).toNat ∧ iC s3005 47 (xv).toNat ≤ 2147483647 := Is3005.2 47 _ (show (xv).toNat < 6 by first | exact oq_78f9cd89 hs3005.1.2 | omega)
          refine z_const X (show cdA 45 152 = some (.iconst 1, 1, 0, 0, 0) from rfl) ?_
          refine z_add X (show cdA 45 153 = some (.iadd, 1, 0, 0, 0) from rfl) ?_
          refine z_any (fun y3014 hy3014 => ?_)
          refine z_ast X 56 (show cdA 45 154 = some (.iastore, 1, 0, 0, 0) from rfl) (by decide) rfl (by first | exact hs3005.1.1 | omega) (show xv < 6 by first | exact oq_9207f8f8 hs3005.1.2 | omega) (by decide) ?_
          obtain ⟨s3015, hs3015⟩ : ∃ x0, x0 = uC s3005 47 (xv).toNat (Int32.ofInt y3014) := ⟨_, rfl⟩
          rw [← hs3015]
          have Is3015 : Bd s3015 := by rw [hs3015]; exact bd_C Is3005 (show ((-2147483648) : Int) ≤ y3014 ∧ y3014 ≤ 2147483647 by first | exact ⟨hy3014.1, hy3014.2⟩ | omega) hy3014
          have Fs3015 := fm_C (i := (xv).toNat) (x := Int32.ofInt y3014) Fs3005 (show 47 ∈ _ by decide)
          rw [← hs3015] at Fs3015
          have ws3015_12 : iI s3015 12 = iI s3005 12 := by rw [hs3015]; rfl
          refine z_aload_n X (x := A 54) (show cdA 45 155 = some (.aload_n 0, 1, 0, 0, 0) from rfl) (List.Mem.head _) ?_
          refine s_getR X 54 (show cdA 45 156 = some (.getfield 47, 3, 4, 3, 0) from rfl) (by decide) rfl rfl ?_
          refine w_lload_n X.1 (ax_d X (show cdA 45 159 = some (.lload_n 3, 1, 0, 0, 0) from rfl)) (x := x3006) (List.Mem.tail _ (List.Mem.tail _ (List.Mem.tail _ (List.Mem.head _)))) ?_
          refine w_lload X.1 (ax_d X (show cdA 45 160 = some (.lload 5, 2, 0, 0, 0) from rfl)) (x := x3007) (List.Mem.tail _ (List.Mem.tail _ (List.Mem.tail _ (List.Mem.tail _ (List.Mem.head _))))) ?_
          refine z_load X (x := x3008) (show cdA 45 162 = some (.iload 7, 2, 0, 0, 0) from rfl) (List.Mem.tail _ (List.Mem.tail _ (List.Mem.tail _ (List.Mem.tail _ (List.Mem.tail _ (List.Mem.head _)))))) ?_
          refine z_callV X 31 (rm := rmN 1) (As := [.long x3006, .long x3007, .int (Int32.ofInt x3008)]) (st := []) (show cdA 45 164 = some (.invokevirtual 70, 3, 1, 0, 0) from rfl) rfl (by decide) rfl (by rw [E.1, E.2.1, E.2.2.1]; exact c0_listen_31 G Is3015 (by first | exact ⟨oq_97e58444 g3012, oq_6d3b9c21 hs3005.2.2.1.2 hs3005.2.2.2.2.1⟩ | omega)) ⟨by rw [E.2.2.2]; exact (show (rmN 1).frames + 1 ≤ (rmN 45).frames by decide), by rw [E.2.2.2]; exact (show 8 + (mNL (miB 1) + 11) + (rmN 1).locals ≤ (rmN 45).locals by decide), by rw [E.2.2.2]; exact (show 0 + (rmN 1).cells ≤ (rmN 45).cells by decide), by rw [E.2.2.2]; exact (show 0 + (rmN 1).slots ≤ (rmN 45).slots by decide)⟩ (Nat.le_of_ble_eq_true rfl) (fun vv s3016 hq => ?_) (fun ee s3016 hq => ?_)
          rotate_left
          · obtain ⟨Is3016, Fs3016, hv, hps3016⟩ := hq; cases hv
          obtain ⟨Is3016, Fs3016, hv, hps3016⟩ := hq
          cases hv
          have Gs3016 := fm_ts Fs3015 Fs3016 (by decide) (by decide)
          have ws3016_12 : iI s3016 12 = iI s3015 12 := fm_i Fs3016 (by decide)
          show WS k 167 [(0, .ref (A 54)), (1, .int (Int32.ofInt xv)), (2, .int (Int32.ofInt gp)), (3, .long x3006), (5, .long x3007), (7, .int (Int32.ofInt x3008)), (8, .int (Int32.ofInt x3009)), (9, .int (Int32.ofInt x3010))] [] (Wd A dT s3016) 0 0
          refine z_aload_n X (x := A 54) (show cdA 45 167 = some (.aload_n 0, 1, 0, 0, 0) from rfl) (List.Mem.head _) ?_
          refine z_load_n X (x := xv) (show cdA 45 168 = some (.iload_n 1, 1, 0, 0, 0) from rfl) (List.Mem.tail _ (List.Mem.head _)) ?_
          refine z_load X (x := x3009) (show cdA 45 169 = some (.iload 8, 2, 0, 0, 0) from rfl) (List.Mem.tail _ (List.Mem.tail _ (List.Mem.tail _ (List.Mem.tail _ (List.Mem.tail _ (List.Mem.tail _ (List.Mem.head _))))))) ?_
          refine z_load X (x := x3008) (show cdA 45 171 = some (.iload 7, 2, 0, 0, 0) from rfl) (List.Mem.tail _ (List.Mem.tail _ (List.Mem.tail _ (List.Mem.tail _ (List.Mem.tail _ (List.Mem.head _)))))) ?_
          refine z_const X (show cdA 45 173 = some (.iconst 1, 1, 0, 0, 0) from rfl) ?_
          have N3018 : ∀ e3019 : Int, (((x3008 ≤ 1) ∧ e3019 = 0) ∨ ((1 < x3008) ∧ e3019 = 1)) → WS k 182 [(0, .ref (A 54)), (1, .int (Int32.ofInt xv)), (2, .int (Int32.ofInt gp)), (3, .long x3006), (5, .long x3007), (7, .int (Int32.ofInt x3008)), (8, .int (Int32.ofInt x3009)), (9, .int (Int32.ofInt x3010))] [.int (Int32.ofInt e3019), .int (Int32.ofInt x3009), .int (Int32.ofInt xv), .ref (A 54)] (Wd A dT s3016) 0 0 := by
            intro e3019 he3019
            have re3019 : 0 ≤ e3019 ∧ e3019 ≤ 1 := by omega
            refine z_callV X 54 (rm := rmN 46) (As := [.int (Int32.ofInt xv), .int (Int32.ofInt x3009), .int (Int32.ofInt e3019)]) (st := []) (show cdA 45 182 = some (.invokevirtual 76, 3, 46, 0, 0) from rfl) rfl (by decide) rfl (by rw [E.1, E.2.1, E.2.2.1]; exact c4_judgeGroup_54 G Is3016 (by first | exact ⟨hs3005.1.1, hs3005.1.2⟩ | omega) (by first | exact ⟨hs3005.2.2.2.1.1, hs3005.2.2.2.1.2⟩ | omega) (by first | exact oq_31e518ae re3019.2 re3019.1 | omega) (by first | exact oq_d7ce4408 ws3016_12 ws3015_12 hs3005.2.2.2.2.2.2 | omega)) ⟨by rw [E.2.2.2]; exact (show (rmN 46).frames + 1 ≤ (rmN 45).frames by decide), by rw [E.2.2.2]; exact (show 8 + (mNL (miB 46) + 11) + (rmN 46).locals ≤ (rmN 45).locals by decide), by rw [E.2.2.2]; exact (show 0 + (rmN 46).cells ≤ (rmN 45).cells by decide), by rw [E.2.2.2]; exact (show 0 + (rmN 46).slots ≤ (rmN 45).slots by decide)⟩ (Nat.le_of_ble_eq_true rfl) (fun vv s3020 hq => ?_) (fun ee s3020 hq => ?_)
            rotate_left
            · obtain ⟨Is3020, Fs3020, hv, hps3020⟩ := hq; cases hv
            obtain ⟨Is3020, Fs3020, hv, hps3020⟩ := hq
            cases hv
            have Gs3020 := fm_ts Gs3016 Fs3020 (by decide) (by decide)
            have ws3020_12 : iI s3020 12 = iI s3016 12 := fm_i Fs3020 (by decide)
            show WS k 185 [(0, .ref (A 54)), (1, .int (Int32.ofInt xv)), (2, .int (Int32.ofInt gp)), (3, .long x3006), (5, .long x3007), (7, .int (Int32.ofInt x3008)), (8, .int (Int32.ofInt x3009)), (9, .int (Int32.ofInt x3010))] [] (Wd A dT s3020) 0 0
            refine z_inc X (x := gp) (lv' := [(2, .int (Int32.ofInt (gp + 1))), (0, .ref (A 54)), (1, .int (Int32.ofInt xv)), (3, .long x3006), (5, .long x3007), (7, .int (Int32.ofInt x3008)), (8, .int (Int32.ofInt x3009)), (9, .int (Int32.ofInt x3010))]) (show cdA 45 185 = some (.iinc 2 1, 3, 0, 0, 0) from rfl) (by decide) (List.Mem.tail _ (List.Mem.tail _ (List.Mem.head _))) (fun _ h => h) ?_
            refine z_goto X (t := 35) (show cdA 45 188 = some (.goto (-153), 3, 0, 0, 0) from rfl) (by decide) ?_
            refine WS_lv (lv := [(0, .ref (A 54)), (1, .int (Int32.ofInt xv)), (2, .int (Int32.ofInt (gp + 1)))]) (List.forall_mem_cons.mpr ⟨(List.Mem.tail _ (List.Mem.head _)), (List.forall_mem_cons.mpr ⟨(List.Mem.tail _ (List.Mem.tail _ (List.Mem.head _))), (List.forall_mem_cons.mpr ⟨(List.Mem.head _), (fun q h => absurd h List.not_mem_nil)⟩)⟩)⟩) ?_
            exact ih _ xv (gp + 1) Is3020 Gs3020 (by first | exact ⟨And.intro (hs3005.1.1) (hs3005.1.2), oq_54f49eb5 hs3005.2.1.1, oq_18969492 hs3005.2.1.2, oq_e14d47df ws3020_12 ws3016_12 ws3015_12 hs3005.2.2.2.2.2.2⟩ | omega) (by first | exact qk_me hm (by decide) (oq_6bd25173 hs3005.2.1.2) | omega) kx
          refine z_icmp_le X (t := 181) (show cdA 45 174 = some (.if_icmp .le 7, 3, 5, 0, 0) from rfl) (by decide) ⟨by first | exact oq_97e58444 g3012 | omega, by first | exact oq_6d3b9c21 hs3005.2.2.1.2 hs3005.2.2.2.2.1 | omega⟩ (by decide) (fun g3022 => ?_) (fun g3022 => ?_)
          ·
            refine z_const X (show cdA 45 181 = some (.iconst 0, 1, 0, 0, 0) from rfl) ?_
            exact N3018 _ (Or.inl ⟨g3022, rfl⟩)
          ·
            refine z_const X (show cdA 45 177 = some (.iconst 1, 1, 0, 0, 0) from rfl) ?_
            refine z_goto X (t := 182) (show cdA 45 178 = some (.goto 4, 3, 0, 0, 0) from rfl) (by decide) ?_
            exact N3018 _ (Or.inr (⟨g3022, rfl⟩))
  refine z_aload_n X (x := A 54) (show cdA 45 0 = some (.aload_n 0, 1, 0, 0, 0) from rfl) (List.Mem.head _) ?_
  refine s_getR X 54 (show cdA 45 1 = some (.getfield 19, 3, 4, 7, 0) from rfl) (by decide) rfl rfl ?_
  refine z_load_n X (x := x) (show cdA 45 4 = some (.iload_n 1, 1, 0, 0, 0) from rfl) (List.Mem.tail _ (List.Mem.head _)) ?_
  refine z_const X (show cdA 45 5 = some (.iconst 0, 1, 0, 0, 0) from rfl) ?_
  refine z_ast X 56 (show cdA 45 6 = some (.iastore, 1, 0, 0, 0) from rfl) (by decide) rfl (by first | exact p0.1 | omega) (show x < 6 by first | exact oq_9207f8f8 p0.2 | omega) (by decide) ?_
  obtain ⟨s2, hs2⟩ : ∃ x0, x0 = uC s 47 (x).toNat (Int32.ofInt 0) := ⟨_, rfl⟩
  rw [← hs2]
  have Is2 : Bd s2 := by rw [hs2]; exact bd_C I (show ((-2147483648) : Int) ≤ 0 ∧ 0 ≤ 2147483647 by first | exact ⟨by decide, by decide⟩ | omega) (by decide)
  have Fs2 := fm_C (i := (x).toNat) (x := Int32.ofInt 0) F (show 47 ∈ _ by decide)
  rw [← hs2] at Fs2
  have ws2_12 : iI s2 12 = iI s 12 := by rw [hs2]; rfl
  refine z_const X (show cdA 45 7 = some (.iconst 0, 1, 0, 0, 0) from rfl) ?_
  refine z_store_n X (lv' := [(2, .int (Int32.ofInt 0)), (0, .ref (A 54)), (1, .int (Int32.ofInt x))]) (show cdA 45 8 = some (.istore_n 2, 1, 0, 0, 0) from rfl) (by decide) (fun _ h => h) ?_
  refine WS_lv (lv := [(0, .ref (A 54)), (1, .int (Int32.ofInt x)), (2, .int (Int32.ofInt 0))]) (List.forall_mem_cons.mpr ⟨(List.Mem.tail _ (List.Mem.head _)), (List.forall_mem_cons.mpr ⟨(List.Mem.tail _ (List.Mem.tail _ (List.Mem.head _))), (List.forall_mem_cons.mpr ⟨(List.Mem.head _), (fun q h => absurd h List.not_mem_nil)⟩)⟩)⟩) ?_
  refine L9 ((24 - 0 : Int).toNat + 1) s2 x 0 Is2 Fs2 (by first | exact ⟨And.intro (p0.1) (p0.2), by decide, by decide, oq_86ef0b17 ws2_12 p1⟩ | omega) (Nat.lt_succ_self _) ?_
  intro s3 x4 Is3 Fs3 hs3
  have b5 : (0 : Int) ≤ iI s3 12 ∧ iI s3 12 ≤ 9 := Is3.1 12
  refine z_const X (show cdA 45 33 = some (.iconst 0, 1, 0, 0, 0) from rfl) ?_
  refine z_store_n X (lv' := [(2, .int (Int32.ofInt 0)), (0, .ref (A 54)), (1, .int (Int32.ofInt x))]) (show cdA 45 34 = some (.istore_n 2, 1, 0, 0, 0) from rfl) (by decide) (fun _ h => h) ?_
  refine WS_lv (lv := [(0, .ref (A 54)), (1, .int (Int32.ofInt x)), (2, .int (Int32.ofInt 0))]) (List.forall_mem_cons.mpr ⟨(List.Mem.tail _ (List.Mem.head _)), (List.forall_mem_cons.mpr ⟨(List.Mem.tail _ (List.Mem.tail _ (List.Mem.head _))), (List.forall_mem_cons.mpr ⟨(List.Mem.head _), (fun q h => absurd h List.not_mem_nil)⟩)⟩)⟩) ?_
  refine L35 ((8 - 0 : Int).toNat + 1) s3 x 0 Is3 Fs3 (by first | exact ⟨And.intro (hs3.1.1) (hs3.1.2), by decide, by decide, hs3.2.2.2⟩ | omega) (Nat.lt_succ_self _) ?_
  intro s6 x7 Is6 Fs6 hs6
  have b8 : (0 : Int) ≤ iI s6 12 ∧ iI s6 12 ≤ 9 := Is6.1 12
  exact w_vret X.1 q hRt (ax_d X (show cdA 45 191 = some (.return_, 1, 0, 0, 0) from rfl)) (Nat.zero_le _) (Nat.zero_le _) ⟨_, rfl, Is6, Fs6, rfl, trivial⟩
set_option maxRecDepth 4000 in
theorem c4_addLoads_54 (G : GX l s0 D tys a0 dT) (I : Bd s)  : CT l s0 D A dT 47 (rmN 47) [.ref (A 54)] s (fun o t => Bd t ∧ Fm [22, 23, 24] [33, 26, 27, 28, 29, 30, 31, 32, 20, 49] s t ∧ o = .inl none ∧ (True)) := by
  refine ct_ofX G (by decide) (Nat.le_of_ble_eq_true rfl) (fun k X E ET hRt hXt q => ?_)
  show WS k 0 [(0, .ref (A 54))] [] _ 0 0
  have F : Fm [22, 23, 24] [33, 26, 27, 28, 29, 30, 31, 32, 20, 49] s s := fm_rf _ _ s
  have L55 : ∀ (n : Nat) (t : PS) (p qq : Int), Bd t → Fm [22, 23, 24] [33, 26, 27, 28, 29, 30, 31, 32, 20, 49] s t → ((0 ≤ p ∧ p ≤ 7) ∧ 0 ≤ qq ∧ qq ≤ 24) → (24 - qq : Int).toNat < n → (∀ (t' : PS) (qq' : Int), Bd t' → Fm [22, 23, 24] [33, 26, 27, 28, 29, 30, 31, 32, 20, 49] s t' → ((0 ≤ p ∧ p ≤ 7) ∧ 0 ≤ qq' ∧ qq' ≤ 24) → WS k 113 [(0, .ref (A 54)), (1, .int (Int32.ofInt p)), (2, .int (Int32.ofInt qq'))] [] (Wd A dT t') 0 0) → WS k 55 [(0, .ref (A 54)), (1, .int (Int32.ofInt p)), (2, .int (Int32.ofInt qq))] [] (Wd A dT t) 0 0 := by
    intro n
    induction n with
    | zero =>
      intro t p qq I F hi hm kx
      exact absurd hm (Nat.not_lt_zero _)
    | succ n ih =>
      intro t p qq I F hi hm kx
      refine z_load_n X (x := qq) (show cdA 47 55 = some (.iload_n 2, 1, 0, 0, 0) from rfl) (List.Mem.tail _ (List.Mem.tail _ (List.Mem.head _))) ?_
      refine z_bipush X (show cdA 47 56 = some (.bipush 24, 2, 0, 0, 24) from rfl) ?_
      refine z_icmp_ge X (t := 113) (show cdA 47 58 = some (.if_icmp .ge 55, 3, 3, 0, 0) from rfl) (by decide) ⟨by first | exact oq_fa4e5087 hi.2.1 | omega, by first | exact oq_5bcd337f hi.2.2 | omega⟩ (by decide) (fun g1001 => ?_) (fun g1001 => ?_)
      ·
        refine WS_lv (lv := [(0, .ref (A 54)), (1, .int (Int32.ofInt p)), (2, .int (Int32.ofInt qq))]) (List.forall_mem_cons.mpr ⟨(List.Mem.head _), (List.forall_mem_cons.mpr ⟨(List.Mem.tail _ (List.Mem.head _)), (List.forall_mem_cons.mpr ⟨(List.Mem.tail _ (List.Mem.tail _ (List.Mem.head _))), (fun q h => absurd h List.not_mem_nil)⟩)⟩)⟩) ?_
        exact kx _ qq I F (by first | exact ⟨And.intro (hi.1.1) (hi.1.2), hi.2.1, hi.2.2⟩ | omega)
      ·
        refine z_aload_n X (x := A 54) (show cdA 47 61 = some (.aload_n 0, 1, 0, 0, 0) from rfl) (List.Mem.head _) ?_
        refine s_getR X 54 (show cdA 47 62 = some (.getfield 35, 3, 4, 0, 0) from rfl) (by decide) rfl rfl ?_
        refine s_getR X 3 (show cdA 47 65 = some (.getfield 80, 3, 9, 15, 0) from rfl) (by decide) rfl rfl ?_
        refine z_load_n X (x := qq) (show cdA 47 68 = some (.iload_n 2, 1, 0, 0, 0) from rfl) (List.Mem.tail _ (List.Mem.tail _ (List.Mem.head _))) ?_
        refine z_ald X 17 (show cdA 47 69 = some (.iaload, 1, 0, 0, 0) from rfl) (by decide) rfl (by first | exact hi.2.1 | omega) (show qq < 24 by first | exact g1001 | omega) (by decide) ?_
        have b1002 : (0 : Int) ≤ iC t 14 (qq).toNat ∧ iC t 14 (qq).toNat ≤ 23 := I.2 14 _ (show (qq).toNat < 24 by first | exact oq_797efae6 g1001 | omega)
        refine z_store_n X (lv' := [(3, .int (Int32.ofInt (iC t 14 (qq).toNat))), (0, .ref (A 54)), (1, .int (Int32.ofInt p)), (2, .int (Int32.ofInt qq))]) (show cdA 47 70 = some (.istore_n 3, 1, 0, 0, 0) from rfl) (by decide) (fun _ h => h) ?_
        refine z_aload_n X (x := A 54) (show cdA 47 71 = some (.aload_n 0, 1, 0, 0, 0) from rfl) (List.Mem.tail _ (List.Mem.head _)) ?_
        refine s_getR X 54 (show cdA 47 72 = some (.getfield 26, 3, 4, 9, 0) from rfl) (by decide) rfl rfl ?_
        refine z_load_n X (x := qq) (show cdA 47 75 = some (.iload_n 2, 1, 0, 0, 0) from rfl) (List.Mem.tail _ (List.Mem.tail _ (List.Mem.tail _ (List.Mem.head _)))) ?_
        refine z_load_n X (x := (iC t 14 (qq).toNat)) (show cdA 47 76 = some (.iload_n 3, 1, 0, 0, 0) from rfl) (List.Mem.head _) ?_
        refine z_load_n X (x := qq) (show cdA 47 77 = some (.iload_n 2, 1, 0, 0, 0) from rfl) (List.Mem.tail _ (List.Mem.tail _ (List.Mem.tail _ (List.Mem.head _)))) ?_
        refine z_icmp_ne X (t := 100) (show cdA 47 78 = some (.if_icmp .ne 22, 3, 1, 0, 0) from rfl) (by decide) (rng_to _) ⟨by first | exact oq_fa4e5087 hi.2.1 | omega, by first | exact oq_1d70227b g1001 | omega⟩ (fun g1003 => ?_) (fun g1003 => ?_)
        ·
          refine z_aload_n X (x := A 54) (show cdA 47 100 = some (.aload_n 0, 1, 0, 0, 0) from rfl) (List.Mem.tail _ (List.Mem.head _)) ?_
          refine s_getR X 54 (show cdA 47 101 = some (.getfield 26, 3, 4, 9, 0) from rfl) (by decide) rfl rfl ?_
          refine z_load_n X (x := (iC t 14 (qq).toNat)) (show cdA 47 104 = some (.iload_n 3, 1, 0, 0, 0) from rfl) (List.Mem.head _) ?_
          refine z_ald X 58 (show cdA 47 105 = some (.iaload, 1, 0, 0, 0) from rfl) (by decide) rfl (by first | exact b1002.1 | omega) (show (iC t 14 (qq).toNat) < 24 by first | exact oq_7fdb8aa6 b1002.2 | omega) (by decide) ?_
          have b1004 : ((-2147483648) : Int) ≤ iC t 49 ((iC t 14 (qq).toNat)).toNat ∧ iC t 49 ((iC t 14 (qq).toNat)).toNat ≤ 2147483647 := I.2 49 _ (show ((iC t 14 (qq).toNat)).toNat < 24 by first | exact oq_138251d6 b1002.2 | omega)
          refine z_ast X 58 (show cdA 47 106 = some (.iastore, 1, 0, 0, 0) from rfl) (by decide) rfl (by first | exact hi.2.1 | omega) (show qq < 24 by first | exact g1001 | omega) (by decide) ?_
          obtain ⟨s1005, hs1005⟩ : ∃ x0, x0 = uC t 49 (qq).toNat (Int32.ofInt (iC t 49 ((iC t 14 (qq).toNat)).toNat)) := ⟨_, rfl⟩
          rw [← hs1005]
          have Is1005 : Bd s1005 := by rw [hs1005]; exact bd_C I (show ((-2147483648) : Int) ≤ (iC t 49 ((iC t 14 (qq).toNat)).toNat) ∧ (iC t 49 ((iC t 14 (qq).toNat)).toNat) ≤ 2147483647 by first | exact ⟨b1004.1, b1004.2⟩ | omega) (rng_to _)
          have Fs1005 := fm_C (i := (qq).toNat) (x := Int32.ofInt (iC t 49 ((iC t 14 (qq).toNat)).toNat)) F (show 49 ∈ _ by decide)
          rw [← hs1005] at Fs1005
          refine z_inc X (x := qq) (lv' := [(2, .int (Int32.ofInt (qq + 1))), (3, .int (Int32.ofInt (iC t 14 (qq).toNat))), (0, .ref (A 54)), (1, .int (Int32.ofInt p))]) (show cdA 47 107 = some (.iinc 2 1, 3, 0, 0, 0) from rfl) (by decide) (List.Mem.tail _ (List.Mem.tail _ (List.Mem.tail _ (List.Mem.head _)))) (fun _ h => h) ?_
          refine z_goto X (t := 55) (show cdA 47 110 = some (.goto (-55), 3, 0, 0, 0) from rfl) (by decide) ?_
          refine WS_lv (lv := [(0, .ref (A 54)), (1, .int (Int32.ofInt p)), (2, .int (Int32.ofInt (qq + 1)))]) (List.forall_mem_cons.mpr ⟨(List.Mem.tail _ (List.Mem.tail _ (List.Mem.head _))), (List.forall_mem_cons.mpr ⟨(List.Mem.tail _ (List.Mem.tail _ (List.Mem.tail _ (List.Mem.head _)))), (List.forall_mem_cons.mpr ⟨(List.Mem.head _), (fun q h => absurd h List.not_mem_nil)⟩)⟩)⟩) ?_
          exact ih _ p (qq + 1) Is1005 Fs1005 (by first | exact ⟨And.intro (hi.1.1) (hi.1.2), oq_54f49eb5 hi.2.1, oq_cec7cb2e g1001⟩ | omega) (by first | exact qk_me hm (by decide) (oq_ffa8317e g1001) | omega) kx
        ·
          refine z_aload_n X (x := A 54) (show cdA 47 81 = some (.aload_n 0, 1, 0, 0, 0) from rfl) (List.Mem.tail _ (List.Mem.head _)) ?_
          refine s_getR X 54 (show cdA 47 82 = some (.getfield 26, 3, 4, 9, 0) from rfl) (by decide) rfl rfl ?_
          refine z_load_n X (x := qq) (show cdA 47 85 = some (.iload_n 2, 1, 0, 0, 0) from rfl) (List.Mem.tail _ (List.Mem.tail _ (List.Mem.tail _ (List.Mem.head _)))) ?_
          refine z_ald X 58 (show cdA 47 86 = some (.iaload, 1, 0, 0, 0) from rfl) (by decide) rfl (by first | exact hi.2.1 | omega) (show qq < 24 by first | exact g1001 | omega) (by decide) ?_
          have b1006 : ((-2147483648) : Int) ≤ iC t 49 (qq).toNat ∧ iC t 49 (qq).toNat ≤ 2147483647 := I.2 49 _ (show (qq).toNat < 24 by first | exact oq_797efae6 g1001 | omega)
          refine z_aload_n X (x := A 54) (show cdA 47 87 = some (.aload_n 0, 1, 0, 0, 0) from rfl) (List.Mem.tail _ (List.Mem.head _)) ?_
          refine s_getR X 54 (show cdA 47 88 = some (.getfield 47, 3, 4, 3, 0) from rfl) (by decide) rfl rfl ?_
          refine z_load_n X (x := qq) (show cdA 47 91 = some (.iload_n 2, 1, 0, 0, 0) from rfl) (List.Mem.tail _ (List.Mem.tail _ (List.Mem.tail _ (List.Mem.head _)))) ?_
          refine z_const X (show cdA 47 92 = some (.iconst (-1), 1, 0, 0, 0) from rfl) ?_
          refine z_callV X 31 (rm := rmN 4) (As := [.int (Int32.ofInt qq), .int (Int32.ofInt (-1))]) (st := [.int (Int32.ofInt (iC t 49 (qq).toNat)), .int (Int32.ofInt qq), .ref (A 58)]) (show cdA 47 93 = some (.invokevirtual 85, 3, 4, 0, 0) from rfl) rfl (by decide) rfl (by rw [E.1, E.2.1, E.2.2.1]; exact c0_loadAt_31 G I (by first | exact ⟨hi.2.1, oq_c69fe266 g1001⟩ | omega) (by first | exact ⟨by decide, by decide⟩ | omega)) ⟨by rw [E.2.2.2]; exact (show (rmN 4).frames + 1 ≤ (rmN 47).frames by decide), by rw [E.2.2.2]; exact (show 8 + (mNL (miB 4) + 11) + (rmN 4).locals ≤ (rmN 47).locals by decide), by rw [E.2.2.2]; exact (show 0 + (rmN 4).cells ≤ (rmN 47).cells by decide), by rw [E.2.2.2]; exact (show 0 + (rmN 4).slots ≤ (rmN 47).slots by decide)⟩ (Nat.le_of_ble_eq_true rfl) (fun vv s1007 hq => ?_) (fun ee s1007 hq => ?_)
          rotate_left
          · obtain ⟨Is1007, Fs1007, e1008, hv, hrs1007, hps1007⟩ := hq; cases hv
          obtain ⟨Is1007, Fs1007, e1008, hv, hrs1007, hps1007⟩ := hq
          cases hv
          have Gs1007 := fm_ts F Fs1007 (by decide) (by decide)
          show WS k 96 [(3, .int (Int32.ofInt (iC t 14 (qq).toNat))), (0, .ref (A 54)), (1, .int (Int32.ofInt p)), (2, .int (Int32.ofInt qq))] [.int (Int32.ofInt e1008), .int (Int32.ofInt (iC t 49 (qq).toNat)), .int (Int32.ofInt qq), .ref (A 58)] (Wd A dT s1007) 0 0
          refine z_add X (show cdA 47 96 = some (.iadd, 1, 0, 0, 0) from rfl) ?_
          refine z_any (fun y1009 hy1009 => ?_)
          refine z_goto X (t := 106) (show cdA 47 97 = some (.goto 9, 3, 0, 0, 0) from rfl) (by decide) ?_
          refine z_ast X 58 (show cdA 47 106 = some (.iastore, 1, 0, 0, 0) from rfl) (by decide) rfl (by first | exact hi.2.1 | omega) (show qq < 24 by first | exact g1001 | omega) (by decide) ?_
          obtain ⟨s1010, hs1010⟩ : ∃ x0, x0 = uC s1007 49 (qq).toNat (Int32.ofInt y1009) := ⟨_, rfl⟩
          rw [← hs1010]
          have Is1010 : Bd s1010 := by rw [hs1010]; exact bd_C Is1007 (show ((-2147483648) : Int) ≤ y1009 ∧ y1009 ≤ 2147483647 by first | exact ⟨hy1009.1, hy1009.2⟩ | omega) hy1009
          have Fs1010 := fm_C (i := (qq).toNat) (x := Int32.ofInt y1009) Gs1007 (show 49 ∈ _ by decide)
          rw [← hs1010] at Fs1010
          refine z_inc X (x := qq) (lv' := [(2, .int (Int32.ofInt (qq + 1))), (3, .int (Int32.ofInt (iC t 14 (qq).toNat))), (0, .ref (A 54)), (1, .int (Int32.ofInt p))]) (show cdA 47 107 = some (.iinc 2 1, 3, 0, 0, 0) from rfl) (by decide) (List.Mem.tail _ (List.Mem.tail _ (List.Mem.tail _ (List.Mem.head _)))) (fun _ h => h) ?_
          refine z_goto X (t := 55) (show cdA 47 110 = some (.goto (-55), 3, 0, 0, 0) from rfl) (by decide) ?_
          refine WS_lv (lv := [(0, .ref (A 54)), (1, .int (Int32.ofInt p)), (2, .int (Int32.ofInt (qq + 1)))]) (List.forall_mem_cons.mpr ⟨(List.Mem.tail _ (List.Mem.tail _ (List.Mem.head _))), (List.forall_mem_cons.mpr ⟨(List.Mem.tail _ (List.Mem.tail _ (List.Mem.tail _ (List.Mem.head _)))), (List.forall_mem_cons.mpr ⟨(List.Mem.head _), (fun q h => absurd h List.not_mem_nil)⟩)⟩)⟩) ?_
          exact ih _ p (qq + 1) Is1010 Fs1010 (by first | exact ⟨And.intro (hi.1.1) (hi.1.2), oq_54f49eb5 hi.2.1, oq_cec7cb2e g1001⟩ | omega) (by first | exact qk_me hm (by decide) (oq_ffa8317e g1001) | omega) kx
  have L10 : ∀ (n : Nat) (t : PS) (p : Int), Bd t → Fm [22, 23, 24] [33, 26, 27, 28, 29, 30, 31, 32, 20, 49] s t → (0 ≤ p ∧ p ≤ 8) → (8 - p : Int).toNat < n → (∀ (t' : PS) (p' : Int), Bd t' → Fm [22, 23, 24] [33, 26, 27, 28, 29, 30, 31, 32, 20, 49] s t' → (0 ≤ p' ∧ p' ≤ 8) → WS k 119 [(0, .ref (A 54)), (1, .int (Int32.ofInt p'))] [] (Wd A dT t') 0 0) → WS k 10 [(0, .ref (A 54)), (1, .int (Int32.ofInt p))] [] (Wd A dT t) 0 0 := by
    intro n
    induction n with
    | zero =>
      intro t p I F hi hm kx
      exact absurd hm (Nat.not_lt_zero _)
    | succ n ih =>
      intro t p I F hi hm kx
      refine z_load_n X (x := p) (show cdA 47 10 = some (.iload_n 1, 1, 0, 0, 0) from rfl) (List.Mem.tail _ (List.Mem.head _)) ?_
      refine z_bipush X (show cdA 47 11 = some (.bipush 8, 2, 0, 0, 8) from rfl) ?_
      refine z_icmp_ge X (t := 119) (show cdA 47 13 = some (.if_icmp .ge 106, 3, 3, 0, 0) from rfl) (by decide) ⟨by first | exact oq_fa4e5087 hi.1 | omega, by first | exact oq_d3f5d874 hi.2 | omega⟩ (by decide) (fun g2001 => ?_) (fun g2001 => ?_)
      ·
        refine WS_lv (lv := [(0, .ref (A 54)), (1, .int (Int32.ofInt p))]) (List.forall_mem_cons.mpr ⟨(List.Mem.head _), (List.forall_mem_cons.mpr ⟨(List.Mem.tail _ (List.Mem.head _)), (fun q h => absurd h List.not_mem_nil)⟩)⟩) ?_
        exact kx _ p I F (by first | exact ⟨hi.1, hi.2⟩ | omega)
      ·
        refine z_aload_n X (x := A 54) (show cdA 47 16 = some (.aload_n 0, 1, 0, 0, 0) from rfl) (List.Mem.head _) ?_
        refine s_getR X 54 (show cdA 47 17 = some (.getfield 43, 3, 4, 2, 0) from rfl) (by decide) rfl rfl ?_
        refine z_load_n X (x := p) (show cdA 47 20 = some (.iload_n 1, 1, 0, 0, 0) from rfl) (List.Mem.tail _ (List.Mem.head _)) ?_
        refine z_callV X 25 (rm := rmN 30) (As := [.int (Int32.ofInt p)]) (st := []) (show cdA 47 21 = some (.invokevirtual 54, 3, 30, 0, 0) from rfl) rfl (by decide) rfl (by rw [E.1, E.2.1, E.2.2.1]; exact c3_hasCells_25 G I (by first | exact ⟨hi.1, oq_78c639ed g2001⟩ | omega)) ⟨by rw [E.2.2.2]; exact (show (rmN 30).frames + 1 ≤ (rmN 47).frames by decide), by rw [E.2.2.2]; exact (show 8 + (mNL (miB 30) + 11) + (rmN 30).locals ≤ (rmN 47).locals by decide), by rw [E.2.2.2]; exact (show 0 + (rmN 30).cells ≤ (rmN 47).cells by decide), by rw [E.2.2.2]; exact (show 0 + (rmN 30).slots ≤ (rmN 47).slots by decide)⟩ (Nat.le_of_ble_eq_true rfl) (fun vv s2002 hq => ?_) (fun ee s2002 hq => ?_)
        rotate_left
        · obtain ⟨Is2002, Fs2002, e2003, hv, hrs2002, hps2002⟩ := hq; cases hv
        obtain ⟨Is2002, Fs2002, e2003, hv, hrs2002, hps2002⟩ := hq
        cases hv
        have Gs2002 := fm_ts F Fs2002 (by decide) (by decide)
        show WS k 24 [(0, .ref (A 54)), (1, .int (Int32.ofInt p))] [.int (Int32.ofInt e2003)] (Wd A dT s2002) 0 0
        refine z_if_eq X (t := 113) (show cdA 47 24 = some (.ifCond .eq 89, 3, 0, 0, 0) from rfl) (by decide) hrs2002 (fun g2004 => ?_) (fun g2004 => ?_)
        ·
          refine z_inc X (x := p) (lv' := [(1, .int (Int32.ofInt (p + 1))), (0, .ref (A 54))]) (show cdA 47 113 = some (.iinc 1 1, 3, 0, 0, 0) from rfl) (by decide) (List.Mem.tail _ (List.Mem.head _)) (fun _ h => h) ?_
          refine z_goto X (t := 10) (show cdA 47 116 = some (.goto (-106), 3, 0, 0, 0) from rfl) (by decide) ?_
          refine WS_lv (lv := [(0, .ref (A 54)), (1, .int (Int32.ofInt (p + 1)))]) (List.forall_mem_cons.mpr ⟨(List.Mem.tail _ (List.Mem.head _)), (List.forall_mem_cons.mpr ⟨(List.Mem.head _), (fun q h => absurd h List.not_mem_nil)⟩)⟩) ?_
          exact ih _ (p + 1) Is2002 Gs2002 (by first | exact ⟨oq_54f49eb5 hi.1, oq_0c7b19c3 g2001⟩ | omega) (by first | exact qk_me hm (by decide) (oq_9f368f35 g2001) | omega) kx
        ·
          refine z_aload_n X (x := A 54) (show cdA 47 27 = some (.aload_n 0, 1, 0, 0, 0) from rfl) (List.Mem.head _) ?_
          refine s_getR X 54 (show cdA 47 28 = some (.getfield 47, 3, 4, 3, 0) from rfl) (by decide) rfl rfl ?_
          refine z_aload_n X (x := A 54) (show cdA 47 31 = some (.aload_n 0, 1, 0, 0, 0) from rfl) (List.Mem.head _) ?_
          refine s_getR X 54 (show cdA 47 32 = some (.getfield 43, 3, 4, 2, 0) from rfl) (by decide) rfl rfl ?_
          refine s_getR X 25 (show cdA 47 35 = some (.getfield 60, 3, 3, 1, 0) from rfl) (by decide) rfl rfl ?_
          refine z_load_n X (x := p) (show cdA 47 38 = some (.iload_n 1, 1, 0, 0, 0) from rfl) (List.Mem.tail _ (List.Mem.head _)) ?_
          refine z_lald X 27 (show cdA 47 39 = some (.laload, 1, 0, 0, 0) from rfl) (by decide) rfl (by first | exact hi.1 | omega) (show p < 8 by first | exact g2001 | omega) (by decide) (fun j2005 => ?_)
          refine z_aload_n X (x := A 54) (show cdA 47 40 = some (.aload_n 0, 1, 0, 0, 0) from rfl) (List.Mem.head _) ?_
          refine s_getR X 54 (show cdA 47 41 = some (.getfield 43, 3, 4, 2, 0) from rfl) (by decide) rfl rfl ?_
          refine s_getR X 25 (show cdA 47 44 = some (.getfield 64, 3, 3, 2, 0) from rfl) (by decide) rfl rfl ?_
          refine z_load_n X (x := p) (show cdA 47 47 = some (.iload_n 1, 1, 0, 0, 0) from rfl) (List.Mem.tail _ (List.Mem.head _)) ?_
          refine z_lald X 28 (show cdA 47 48 = some (.laload, 1, 0, 0, 0) from rfl) (by decide) rfl (by first | exact hi.1 | omega) (show p < 8 by first | exact g2001 | omega) (by decide) (fun j2006 => ?_)
          refine z_const X (show cdA 47 49 = some (.iconst 1, 1, 0, 0, 0) from rfl) ?_
          refine z_callV X 31 (rm := rmN 1) (As := [.long j2005, .long j2006, .int (Int32.ofInt 1)]) (st := []) (show cdA 47 50 = some (.invokevirtual 70, 3, 1, 0, 0) from rfl) rfl (by decide) rfl (by rw [E.1, E.2.1, E.2.2.1]; exact c0_listen_31 G Is2002 (by first | exact ⟨by decide, by decide⟩ | omega)) ⟨by rw [E.2.2.2]; exact (show (rmN 1).frames + 1 ≤ (rmN 47).frames by decide), by rw [E.2.2.2]; exact (show 8 + (mNL (miB 1) + 11) + (rmN 1).locals ≤ (rmN 47).locals by decide), by rw [E.2.2.2]; exact (show 0 + (rmN 1).cells ≤ (rmN 47).cells by decide), by rw [E.2.2.2]; exact (show 0 + (rmN 1).slots ≤ (rmN 47).slots by decide)⟩ (Nat.le_of_ble_eq_true rfl) (fun vv s2007 hq => ?_) (fun ee s2007 hq => ?_)
          rotate_left
          · obtain ⟨Is2007, Fs2007, hv, hps2007⟩ := hq; cases hv
          obtain ⟨Is2007, Fs2007, hv, hps2007⟩ := hq
          cases hv
          have Gs2007 := fm_ts Gs2002 Fs2007 (by decide) (by decide)
          show WS k 53 [(0, .ref (A 54)), (1, .int (Int32.ofInt p))] [] (Wd A dT s2007) 0 0
          refine z_const X (show cdA 47 53 = some (.iconst 0, 1, 0, 0, 0) from rfl) ?_
          refine z_store_n X (lv' := [(2, .int (Int32.ofInt 0)), (0, .ref (A 54)), (1, .int (Int32.ofInt p))]) (show cdA 47 54 = some (.istore_n 2, 1, 0, 0, 0) from rfl) (by decide) (fun _ h => h) ?_
          refine WS_lv (lv := [(0, .ref (A 54)), (1, .int (Int32.ofInt p)), (2, .int (Int32.ofInt 0))]) (List.forall_mem_cons.mpr ⟨(List.Mem.tail _ (List.Mem.head _)), (List.forall_mem_cons.mpr ⟨(List.Mem.tail _ (List.Mem.tail _ (List.Mem.head _))), (List.forall_mem_cons.mpr ⟨(List.Mem.head _), (fun q h => absurd h List.not_mem_nil)⟩)⟩)⟩) ?_
          refine L55 ((24 - 0 : Int).toNat + 1) s2007 p 0 Is2007 Gs2007 (by first | exact ⟨And.intro (hi.1) (oq_78c639ed g2001), by decide, by decide⟩ | omega) (Nat.lt_succ_self _) ?_
          intro s2009 x2010 Is2009 Fs2009 hs2009
          refine z_inc X (x := p) (lv' := [(1, .int (Int32.ofInt (p + 1))), (0, .ref (A 54)), (2, .int (Int32.ofInt x2010))]) (show cdA 47 113 = some (.iinc 1 1, 3, 0, 0, 0) from rfl) (by decide) (List.Mem.tail _ (List.Mem.head _)) (fun _ h => h) ?_
          refine z_goto X (t := 10) (show cdA 47 116 = some (.goto (-106), 3, 0, 0, 0) from rfl) (by decide) ?_
          refine WS_lv (lv := [(0, .ref (A 54)), (1, .int (Int32.ofInt (p + 1)))]) (List.forall_mem_cons.mpr ⟨(List.Mem.tail _ (List.Mem.head _)), (List.forall_mem_cons.mpr ⟨(List.Mem.head _), (fun q h => absurd h List.not_mem_nil)⟩)⟩) ?_
          exact ih _ (p + 1) Is2009 Fs2009 (by first | exact ⟨oq_54f49eb5 hs2009.1.1, oq_18969492 hs2009.1.2⟩ | omega) (by first | exact qk_me hm (by decide) (oq_6bd25173 hs2009.1.2) | omega) kx
  refine z_aload_n X (x := A 54) (show cdA 47 0 = some (.aload_n 0, 1, 0, 0, 0) from rfl) (List.Mem.head _) ?_
  refine s_getR X 54 (show cdA 47 1 = some (.getfield 26, 3, 4, 9, 0) from rfl) (by decide) rfl rfl ?_
  refine z_const X (show cdA 47 4 = some (.iconst 0, 1, 0, 0, 0) from rfl) ?_
  refine z_callS X (rm := rmN 312) (As := [.ref (A 58), .int (Int32.ofInt 0)]) (st := []) (show cdA 47 5 = some (.invokestatic 98, 3, 312, 1, 0) from rfl) rfl (by rw [E.1, E.2.1, E.2.2.1]; exact j_fill_58 G I (by first | exact ⟨by decide, by decide⟩ | omega)) ⟨by rw [E.2.2.2]; exact (show (rmN 312).frames + 1 ≤ (rmN 47).frames by decide), by rw [E.2.2.2]; exact (show 8 + (mNL (miB 312) + 11) + (rmN 312).locals ≤ (rmN 47).locals by decide), by rw [E.2.2.2]; exact (show 0 + (rmN 312).cells ≤ (rmN 47).cells by decide), by rw [E.2.2.2]; exact (show 0 + (rmN 312).slots ≤ (rmN 47).slots by decide)⟩ (Nat.le_of_ble_eq_true rfl) (fun vv s1 hq => ?_) (fun ee s1 hq => ?_)
  rotate_left
  · obtain ⟨Is1, Fs1, hv, hps1⟩ := hq; cases hv
  obtain ⟨Is1, Fs1, hv, hps1⟩ := hq
  cases hv
  have Gs1 := fm_ts F Fs1 (by decide) (by decide)
  show WS k 8 [(0, .ref (A 54))] [] (Wd A dT s1) 0 0
  refine z_const X (show cdA 47 8 = some (.iconst 0, 1, 0, 0, 0) from rfl) ?_
  refine z_store_n X (lv' := [(1, .int (Int32.ofInt 0)), (0, .ref (A 54))]) (show cdA 47 9 = some (.istore_n 1, 1, 0, 0, 0) from rfl) (by decide) (fun _ h => h) ?_
  refine WS_lv (lv := [(0, .ref (A 54)), (1, .int (Int32.ofInt 0))]) (List.forall_mem_cons.mpr ⟨(List.Mem.tail _ (List.Mem.head _)), (List.forall_mem_cons.mpr ⟨(List.Mem.head _), (fun q h => absurd h List.not_mem_nil)⟩)⟩) ?_
  refine L10 ((8 - 0 : Int).toNat + 1) s1 0 Is1 Gs1 (by first | exact ⟨by decide, by decide⟩ | omega) (Nat.lt_succ_self _) ?_
  intro s3 x4 Is3 Fs3 hs3
  exact w_vret X.1 q hRt (ax_d X (show cdA 47 119 = some (.return_, 1, 0, 0, 0) from rfl)) (Nat.zero_le _) (Nat.zero_le _) ⟨_, rfl, Is3, Fs3, rfl, trivial⟩
set_option maxRecDepth 4000 in
theorem c4_placeOf (G : GX l s0 D tys a0 dT) (I : Bd s) {x y z : Int} (p0 : 0 ≤ x ∧ x ≤ 23) (p1 : 0 ≤ y ∧ y ≤ 5) (p2 : 0 ≤ z ∧ z ≤ 23) : CT l s0 D A dT 49 (rmN 49) [.int (Int32.ofInt x), .int (Int32.ofInt y), .int (Int32.ofInt z)] s (fun o t => s = t ∧ ∃ e, o = .inl (some (.int (Int32.ofInt e))) ∧ rng e ∧ (e = (x * 6 + y) * 24 + z)) := by
  refine ct_ofX G (by decide) (Nat.le_of_ble_eq_true rfl) (fun k X E ET hRt hXt q => ?_)
  show WS k 0 [(0, .int (Int32.ofInt x)), (1, .int (Int32.ofInt y)), (2, .int (Int32.ofInt z))] [] _ 0 0
  have F : Fm [] [] s s := fm_rf _ _ s
  refine z_load_n X (x := x) (show cdA 49 0 = some (.iload_n 0, 1, 0, 0, 0) from rfl) (List.Mem.head _) ?_
  refine z_bipush X (show cdA 49 1 = some (.bipush 6, 2, 0, 0, 6) from rfl) ?_
  refine z_mul X (show cdA 49 3 = some (.imul, 1, 0, 0, 0) from rfl) ?_
  refine z_load_n X (x := y) (show cdA 49 4 = some (.iload_n 1, 1, 0, 0, 0) from rfl) (List.Mem.tail _ (List.Mem.head _)) ?_
  refine z_add X (show cdA 49 5 = some (.iadd, 1, 0, 0, 0) from rfl) ?_
  refine z_bipush X (show cdA 49 6 = some (.bipush 24, 2, 0, 0, 24) from rfl) ?_
  refine z_mul X (show cdA 49 8 = some (.imul, 1, 0, 0, 0) from rfl) ?_
  refine z_load_n X (x := z) (show cdA 49 9 = some (.iload_n 2, 1, 0, 0, 0) from rfl) (List.Mem.tail _ (List.Mem.tail _ (List.Mem.head _))) ?_
  refine z_add X (show cdA 49 10 = some (.iadd, 1, 0, 0, 0) from rfl) ?_
  exact w_iret X.1 q hRt rfl (ax_d X (show cdA 49 11 = some (.ireturn, 1, 0, 0, 0) from rfl)) (Nat.zero_le _) (Nat.zero_le _) ⟨_, rfl, rfl, ((((x * 6) + y) * 24) + z), rfl, ⟨by first | exact oq_a8f61181 p0.1 p1.1 p2.1 | omega, by first | exact oq_9baaab2f p0.2 p1.2 p2.2 | omega⟩, by omega⟩
set_option maxRecDepth 4000 in
theorem c4_fewestBehind_54 (G : GX l s0 D tys a0 dT) (I : Bd s) {x y z : Int} (p0 : 0 ≤ x ∧ x ≤ 23) (p1 : 0 ≤ y ∧ y ≤ 5) (p2 : 0 ≤ z ∧ z ≤ 23) : CT l s0 D A dT 50 (rmN 50) [.ref (A 54), .int (Int32.ofInt x), .int (Int32.ofInt y), .int (Int32.ofInt z)] s (fun o t => Bd t ∧ Fm [] [] s t ∧ ∃ e, o = .inl (some (.int (Int32.ofInt e))) ∧ rng e ∧ (True)) := by
  refine ct_ofX G (by decide) (Nat.le_of_ble_eq_true rfl) (fun k X E ET hRt hXt q => ?_)
  show WS k 0 [(0, .ref (A 54)), (1, .int (Int32.ofInt x)), (2, .int (Int32.ofInt y)), (3, .int (Int32.ofInt z))] [] _ 0 0
  have F : Fm [] [] s s := fm_rf _ _ s
  have b1 : (0 : Int) ≤ iI s 32 ∧ iI s 32 ≤ 6 := I.1 32
  have L54 : ∀ (n : Nat) (t : PS) (xv yv zv le c : Int), Bd t → Fm [] [] s t → ((0 ≤ xv ∧ xv ≤ 22) ∧ (0 ≤ yv ∧ yv ≤ 5) ∧ (1 ≤ zv ∧ zv ≤ 23) ∧ rng le ∧ 0 ≤ c ∧ c ≤ 6) → (6 - c : Int).toNat < n → (∀ (t' : PS) (le' c' : Int), Bd t' → Fm [] [] s t' → (rng le') → WS k 98 [(0, .ref (A 54)), (1, .int (Int32.ofInt xv)), (2, .int (Int32.ofInt yv)), (3, .int (Int32.ofInt zv)), (4, .int (Int32.ofInt le')), (5, .int (Int32.ofInt c'))] [] (Wd A dT t') 0 0) → WS k 54 [(0, .ref (A 54)), (1, .int (Int32.ofInt xv)), (2, .int (Int32.ofInt yv)), (3, .int (Int32.ofInt zv)), (4, .int (Int32.ofInt le)), (5, .int (Int32.ofInt c))] [] (Wd A dT t) 0 0 := by
    intro n
    induction n with
    | zero =>
      intro t xv yv zv le c I F hi hm kx
      exact absurd hm (Nat.not_lt_zero _)
    | succ n ih =>
      intro t xv yv zv le c I F hi hm kx
      have b1001 : (0 : Int) ≤ iI t 32 ∧ iI t 32 ≤ 6 := I.1 32
      refine z_load X (x := c) (show cdA 50 54 = some (.iload 5, 2, 0, 0, 0) from rfl) (List.Mem.tail _ (List.Mem.tail _ (List.Mem.tail _ (List.Mem.tail _ (List.Mem.tail _ (List.Mem.head _)))))) ?_
      refine z_aload_n X (x := A 54) (show cdA 50 56 = some (.aload_n 0, 1, 0, 0, 0) from rfl) (List.Mem.head _) ?_
      refine z_getI X 54 (show cdA 50 57 = some (.getfield 51, 3, 4, 5, 0) from rfl) (by decide) rfl rfl ?_
      have b1002 : (0 : Int) ≤ iI t 32 ∧ iI t 32 ≤ 6 := I.1 32
      refine z_icmp_ge X (t := 98) (show cdA 50 60 = some (.if_icmp .ge 38, 3, 3, 0, 0) from rfl) (by decide) ⟨by first | exact oq_fa4e5087 hi.2.2.2.2.1 | omega, by first | exact oq_b301c3bf hi.2.2.2.2.2 | omega⟩ (rng_to _) (fun g1003 => ?_) (fun g1003 => ?_)
      ·
        refine WS_lv (lv := [(0, .ref (A 54)), (1, .int (Int32.ofInt xv)), (2, .int (Int32.ofInt yv)), (3, .int (Int32.ofInt zv)), (4, .int (Int32.ofInt le)), (5, .int (Int32.ofInt c))]) (List.forall_mem_cons.mpr ⟨(List.Mem.head _), (List.forall_mem_cons.mpr ⟨(List.Mem.tail _ (List.Mem.head _)), (List.forall_mem_cons.mpr ⟨(List.Mem.tail _ (List.Mem.tail _ (List.Mem.head _))), (List.forall_mem_cons.mpr ⟨(List.Mem.tail _ (List.Mem.tail _ (List.Mem.tail _ (List.Mem.head _)))), (List.forall_mem_cons.mpr ⟨(List.Mem.tail _ (List.Mem.tail _ (List.Mem.tail _ (List.Mem.tail _ (List.Mem.head _))))), (List.forall_mem_cons.mpr ⟨(List.Mem.tail _ (List.Mem.tail _ (List.Mem.tail _ (List.Mem.tail _ (List.Mem.tail _ (List.Mem.head _)))))), (fun q h => absurd h List.not_mem_nil)⟩)⟩)⟩)⟩)⟩)⟩) ?_
        exact kx _ le c I F (by first | exact ⟨hi.2.2.2.1.1, hi.2.2.2.1.2⟩ | omega)
      ·
        refine z_load X (x := c) (show cdA 50 63 = some (.iload 5, 2, 0, 0, 0) from rfl) (List.Mem.tail _ (List.Mem.tail _ (List.Mem.tail _ (List.Mem.tail _ (List.Mem.tail _ (List.Mem.head _)))))) ?_
        refine z_load_n X (x := yv) (show cdA 50 65 = some (.iload_n 2, 1, 0, 0, 0) from rfl) (List.Mem.tail _ (List.Mem.tail _ (List.Mem.head _))) ?_
        refine z_icmp_eq X (t := 92) (show cdA 50 66 = some (.if_icmp .eq 26, 3, 0, 0, 0) from rfl) (by decide) ⟨by first | exact oq_fa4e5087 hi.2.2.2.2.1 | omega, by first | exact oq_b301c3bf hi.2.2.2.2.2 | omega⟩ ⟨by first | exact oq_fa4e5087 hi.2.1.1 | omega, by first | exact oq_a3dd55e5 hi.2.1.2 | omega⟩ (fun g1004 => ?_) (fun g1004 => ?_)
        ·
          refine z_inc X (x := c) (lv' := [(5, .int (Int32.ofInt (c + 1))), (0, .ref (A 54)), (1, .int (Int32.ofInt xv)), (2, .int (Int32.ofInt yv)), (3, .int (Int32.ofInt zv)), (4, .int (Int32.ofInt le))]) (show cdA 50 92 = some (.iinc 5 1, 3, 0, 0, 0) from rfl) (by decide) (List.Mem.tail _ (List.Mem.tail _ (List.Mem.tail _ (List.Mem.tail _ (List.Mem.tail _ (List.Mem.head _)))))) (fun _ h => h) ?_
          refine z_goto X (t := 54) (show cdA 50 95 = some (.goto (-41), 3, 0, 0, 0) from rfl) (by decide) ?_
          refine WS_lv (lv := [(0, .ref (A 54)), (1, .int (Int32.ofInt xv)), (2, .int (Int32.ofInt yv)), (3, .int (Int32.ofInt zv)), (4, .int (Int32.ofInt le)), (5, .int (Int32.ofInt (c + 1)))]) (List.forall_mem_cons.mpr ⟨(List.Mem.tail _ (List.Mem.head _)), (List.forall_mem_cons.mpr ⟨(List.Mem.tail _ (List.Mem.tail _ (List.Mem.head _))), (List.forall_mem_cons.mpr ⟨(List.Mem.tail _ (List.Mem.tail _ (List.Mem.tail _ (List.Mem.head _)))), (List.forall_mem_cons.mpr ⟨(List.Mem.tail _ (List.Mem.tail _ (List.Mem.tail _ (List.Mem.tail _ (List.Mem.head _))))), (List.forall_mem_cons.mpr ⟨(List.Mem.tail _ (List.Mem.tail _ (List.Mem.tail _ (List.Mem.tail _ (List.Mem.tail _ (List.Mem.head _)))))), (List.forall_mem_cons.mpr ⟨(List.Mem.head _), (fun q h => absurd h List.not_mem_nil)⟩)⟩)⟩)⟩)⟩)⟩) ?_
          exact ih _ xv yv zv le (c + 1) I F (by first | exact ⟨And.intro (hi.1.1) (hi.1.2), And.intro (hi.2.1.1) (hi.2.1.2), And.intro (hi.2.2.1.1) (hi.2.2.1.2), And.intro (hi.2.2.2.1.1) (hi.2.2.2.1.2), oq_54f49eb5 hi.2.2.2.2.1, oq_8b7431d5 g1004 hi.2.1.2⟩ | omega) (by first | exact qk_me hm (by decide) (oq_ac916594 g1004 hi.2.1.2) | omega) kx
        ·
          refine z_load X (x := le) (show cdA 50 69 = some (.iload 4, 2, 0, 0, 0) from rfl) (List.Mem.tail _ (List.Mem.tail _ (List.Mem.tail _ (List.Mem.tail _ (List.Mem.head _))))) ?_
          refine z_aload_n X (x := A 54) (show cdA 50 71 = some (.aload_n 0, 1, 0, 0, 0) from rfl) (List.Mem.head _) ?_
          refine s_getR X 54 (show cdA 50 72 = some (.getfield 29, 3, 4, 10, 0) from rfl) (by decide) rfl rfl ?_
          refine z_load_n X (x := xv) (show cdA 50 75 = some (.iload_n 1, 1, 0, 0, 0) from rfl) (List.Mem.tail _ (List.Mem.head _)) ?_
          refine z_const X (show cdA 50 76 = some (.iconst 1, 1, 0, 0, 0) from rfl) ?_
          refine z_add X (show cdA 50 77 = some (.iadd, 1, 0, 0, 0) from rfl) ?_
          refine z_load X (x := c) (show cdA 50 78 = some (.iload 5, 2, 0, 0, 0) from rfl) (List.Mem.tail _ (List.Mem.tail _ (List.Mem.tail _ (List.Mem.tail _ (List.Mem.tail _ (List.Mem.head _)))))) ?_
          refine z_load_n X (x := zv) (show cdA 50 80 = some (.iload_n 3, 1, 0, 0, 0) from rfl) (List.Mem.tail _ (List.Mem.tail _ (List.Mem.tail _ (List.Mem.head _)))) ?_
          refine z_const X (show cdA 50 81 = some (.iconst 1, 1, 0, 0, 0) from rfl) ?_
          refine z_sub X (show cdA 50 82 = some (.isub, 1, 0, 0, 0) from rfl) ?_
          refine z_callS X (rm := rmN 49) (As := [.int (Int32.ofInt (xv + 1)), .int (Int32.ofInt c), .int (Int32.ofInt (zv - 1))]) (st := [.ref (A 59), .int (Int32.ofInt le)]) (show cdA 50 83 = some (.invokestatic 116, 3, 49, 1, 0) from rfl) rfl (by rw [E.1, E.2.1, E.2.2.1]; exact c4_placeOf G I (by first | exact ⟨oq_54f49eb5 hi.1.1, oq_eb1958c2 hi.1.2⟩ | omega) (by first | exact ⟨hi.2.2.2.2.1, oq_4af6a0a9 g1003 b1002.2⟩ | omega) (by first | exact ⟨oq_02aa5459 hi.2.2.1.1, oq_ca4bf3cc hi.2.2.1.2⟩ | omega)) ⟨by rw [E.2.2.2]; exact (show (rmN 49).frames + 1 ≤ (rmN 50).frames by decide), by rw [E.2.2.2]; exact (show 8 + (mNL (miB 49) + 11) + (rmN 49).locals ≤ (rmN 50).locals by decide), by rw [E.2.2.2]; exact (show 0 + (rmN 49).cells ≤ (rmN 50).cells by decide), by rw [E.2.2.2]; exact (show 0 + (rmN 49).slots ≤ (rmN 50).slots by decide)⟩ (Nat.le_of_ble_eq_true rfl) (fun vv s1005 hq => ?_) (fun ee s1005 hq => ?_)
          rotate_left
          · obtain ⟨rfl, e1006, hv, hrs1005, hps1005⟩ := hq; cases hv
          obtain ⟨rfl, e1006, hv, hrs1005, hps1005⟩ := hq
          cases hv
          show WS k 86 [(0, .ref (A 54)), (1, .int (Int32.ofInt xv)), (2, .int (Int32.ofInt yv)), (3, .int (Int32.ofInt zv)), (4, .int (Int32.ofInt le)), (5, .int (Int32.ofInt c))] [.int (Int32.ofInt e1006), .ref (A 59), .int (Int32.ofInt le)] (Wd A dT t) 0 0
          refine z_ald X 59 (show cdA 50 86 = some (.iaload, 1, 0, 0, 0) from rfl) (by decide) rfl (by first | exact oq_db74133e hps1005 hi.1.1 hi.2.2.2.2.1 hi.2.2.1.1 | omega) (show e1006 < 3456 by first | exact oq_cb24e896 hps1005 hi.1.2 hi.2.2.1.2 g1003 b1002.2 | omega) (by decide) ?_
          have b1007 : ((-2147483648) : Int) ≤ iC t 50 (e1006).toNat ∧ iC t 50 (e1006).toNat ≤ 2147483647 := I.2 50 _ (show (e1006).toNat < 3456 by first | exact oq_b0c4ef7a hps1005 hi.1.2 hi.2.2.1.2 g1003 b1002.2 | omega)
          refine z_min X (show cdA 50 87 = some (.invokestatic 122, 3, 0, 8, 0) from rfl) ⟨by first | exact hi.2.2.2.1.1 | omega, by first | exact hi.2.2.2.1.2 | omega⟩ (rng_to _) (by rw [E.2.2.2]; decide) (by rw [E.2.2.2]; exact Nat.le_of_ble_eq_true rfl) (Nat.zero_le _) (Nat.zero_le _) (fun e1008 he1008 => ?_)
          refine z_store X (lv' := [(4, .int (Int32.ofInt e1008)), (0, .ref (A 54)), (1, .int (Int32.ofInt xv)), (2, .int (Int32.ofInt yv)), (3, .int (Int32.ofInt zv)), (5, .int (Int32.ofInt c))]) (show cdA 50 90 = some (.istore 4, 2, 0, 0, 0) from rfl) (by decide) (fun _ h => h) ?_
          refine z_inc X (x := c) (lv' := [(5, .int (Int32.ofInt (c + 1))), (4, .int (Int32.ofInt e1008)), (0, .ref (A 54)), (1, .int (Int32.ofInt xv)), (2, .int (Int32.ofInt yv)), (3, .int (Int32.ofInt zv))]) (show cdA 50 92 = some (.iinc 5 1, 3, 0, 0, 0) from rfl) (by decide) (List.Mem.tail _ (List.Mem.tail _ (List.Mem.tail _ (List.Mem.tail _ (List.Mem.tail _ (List.Mem.head _)))))) (fun _ h => h) ?_
          refine z_goto X (t := 54) (show cdA 50 95 = some (.goto (-41), 3, 0, 0, 0) from rfl) (by decide) ?_
          refine WS_lv (lv := [(0, .ref (A 54)), (1, .int (Int32.ofInt xv)), (2, .int (Int32.ofInt yv)), (3, .int (Int32.ofInt zv)), (4, .int (Int32.ofInt e1008)), (5, .int (Int32.ofInt (c + 1)))]) (List.forall_mem_cons.mpr ⟨(List.Mem.tail _ (List.Mem.tail _ (List.Mem.head _))), (List.forall_mem_cons.mpr ⟨(List.Mem.tail _ (List.Mem.tail _ (List.Mem.tail _ (List.Mem.head _)))), (List.forall_mem_cons.mpr ⟨(List.Mem.tail _ (List.Mem.tail _ (List.Mem.tail _ (List.Mem.tail _ (List.Mem.head _))))), (List.forall_mem_cons.mpr ⟨(List.Mem.tail _ (List.Mem.tail _ (List.Mem.tail _ (List.Mem.tail _ (List.Mem.tail _ (List.Mem.head _)))))), (List.forall_mem_cons.mpr ⟨(List.Mem.tail _ (List.Mem.head _)), (List.forall_mem_cons.mpr ⟨(List.Mem.head _), (fun q h => absurd h List.not_mem_nil)⟩)⟩)⟩)⟩)⟩)⟩) ?_
          exact ih _ xv yv zv e1008 (c + 1) I F (by first | exact ⟨And.intro (hi.1.1) (hi.1.2), And.intro (hi.2.1.1) (hi.2.1.2), And.intro (hi.2.2.1.1) (hi.2.2.1.2), oq_566e2836 he1008 b1007.1 hi.2.2.2.1.2 hi.2.2.2.1.1, oq_54f49eb5 hi.2.2.2.2.1, oq_d2f4feca g1003 b1002.2⟩ | omega) (by first | exact qk_me hm (by decide) (oq_4619bacb g1003 b1002.2) | omega) kx
  refine z_load_n X (x := x) (show cdA 50 0 = some (.iload_n 1, 1, 0, 0, 0) from rfl) (List.Mem.tail _ (List.Mem.head _)) ?_
  refine z_bipush X (show cdA 50 1 = some (.bipush 23, 2, 0, 0, 23) from rfl) ?_
  refine z_icmp_ne X (t := 17) (show cdA 50 3 = some (.if_icmp .ne 14, 3, 1, 0, 0) from rfl) (by decide) ⟨by first | exact oq_fa4e5087 p0.1 | omega, by first | exact oq_1a42ef34 p0.2 | omega⟩ (by decide) (fun g2 => ?_) (fun g2 => ?_)
  ·
    refine z_aload_n X (x := A 54) (show cdA 50 17 = some (.aload_n 0, 1, 0, 0, 0) from rfl) (List.Mem.head _) ?_
    refine s_getR X 54 (show cdA 50 18 = some (.getfield 29, 3, 4, 10, 0) from rfl) (by decide) rfl rfl ?_
    refine z_load_n X (x := x) (show cdA 50 21 = some (.iload_n 1, 1, 0, 0, 0) from rfl) (List.Mem.tail _ (List.Mem.head _)) ?_
    refine z_const X (show cdA 50 22 = some (.iconst 1, 1, 0, 0, 0) from rfl) ?_
    refine z_add X (show cdA 50 23 = some (.iadd, 1, 0, 0, 0) from rfl) ?_
    refine z_load_n X (x := y) (show cdA 50 24 = some (.iload_n 2, 1, 0, 0, 0) from rfl) (List.Mem.tail _ (List.Mem.tail _ (List.Mem.head _))) ?_
    refine z_load_n X (x := z) (show cdA 50 25 = some (.iload_n 3, 1, 0, 0, 0) from rfl) (List.Mem.tail _ (List.Mem.tail _ (List.Mem.tail _ (List.Mem.head _)))) ?_
    refine z_callS X (rm := rmN 49) (As := [.int (Int32.ofInt (x + 1)), .int (Int32.ofInt y), .int (Int32.ofInt z)]) (st := [.ref (A 59)]) (show cdA 50 26 = some (.invokestatic 116, 3, 49, 1, 0) from rfl) rfl (by rw [E.1, E.2.1, E.2.2.1]; exact c4_placeOf G I (by first | exact ⟨oq_54f49eb5 p0.1, oq_5885e3c8 g2 p0.2⟩ | omega) (by first | exact ⟨p1.1, p1.2⟩ | omega) (by first | exact ⟨p2.1, p2.2⟩ | omega)) ⟨by rw [E.2.2.2]; exact (show (rmN 49).frames + 1 ≤ (rmN 50).frames by decide), by rw [E.2.2.2]; exact (show 8 + (mNL (miB 49) + 11) + (rmN 49).locals ≤ (rmN 50).locals by decide), by rw [E.2.2.2]; exact (show 0 + (rmN 49).cells ≤ (rmN 50).cells by decide), by rw [E.2.2.2]; exact (show 0 + (rmN 49).slots ≤ (rmN 50).slots by decide)⟩ (Nat.le_of_ble_eq_true rfl) (fun vv s3 hq => ?_) (fun ee s3 hq => ?_)
    rotate_left
    · obtain ⟨rfl, e4, hv, hrs3, hps3⟩ := hq; cases hv
    obtain ⟨rfl, e4, hv, hrs3, hps3⟩ := hq
    cases hv
    show WS k 29 [(0, .ref (A 54)), (1, .int (Int32.ofInt x)), (2, .int (Int32.ofInt y)), (3, .int (Int32.ofInt z))] [.int (Int32.ofInt e4), .ref (A 59)] (Wd A dT s) 0 0
    refine z_ald X 59 (show cdA 50 29 = some (.iaload, 1, 0, 0, 0) from rfl) (by decide) rfl (by first | exact oq_6fe820e0 hps3 p0.1 p1.1 p2.1 | omega) (show e4 < 3456 by first | exact oq_caf24c68 hps3 g2 p2.2 p1.2 p0.2 | omega) (by decide) ?_
    have b5 : ((-2147483648) : Int) ≤ iC s 50 (e4).toNat ∧ iC s 50 (e4).toNat ≤ 2147483647 := I.2 50 _ (show (e4).toNat < 3456 by first | exact oq_5229c5ae hps3 g2 p2.2 p1.2 p0.2 | omega)
    refine z_store X (lv' := [(4, .int (Int32.ofInt (iC s 50 (e4).toNat))), (0, .ref (A 54)), (1, .int (Int32.ofInt x)), (2, .int (Int32.ofInt y)), (3, .int (Int32.ofInt z))]) (show cdA 50 30 = some (.istore 4, 2, 0, 0, 0) from rfl) (by decide) (fun _ h => h) ?_
    refine z_load_n X (x := z) (show cdA 50 32 = some (.iload_n 3, 1, 0, 0, 0) from rfl) (List.Mem.tail _ (List.Mem.tail _ (List.Mem.tail _ (List.Mem.tail _ (List.Mem.head _))))) ?_
    refine z_if_le X (t := 98) (show cdA 50 33 = some (.ifCond .le 65, 3, 5, 0, 0) from rfl) (by decide) ⟨by first | exact oq_fa4e5087 p2.1 | omega, by first | exact oq_1a42ef34 p2.2 | omega⟩ (fun g6 => ?_) (fun g6 => ?_)
    ·
      refine z_load X (x := (iC s 50 (e4).toNat)) (show cdA 50 98 = some (.iload 4, 2, 0, 0, 0) from rfl) (List.Mem.head _) ?_
      exact w_iret X.1 q hRt rfl (ax_d X (show cdA 50 100 = some (.ireturn, 1, 0, 0, 0) from rfl)) (Nat.zero_le _) (Nat.zero_le _) ⟨_, rfl, I, F, (iC s 50 (e4).toNat), rfl, (rng_to _), trivial⟩
    ·
      refine z_aload_n X (x := A 54) (show cdA 50 36 = some (.aload_n 0, 1, 0, 0, 0) from rfl) (List.Mem.tail _ (List.Mem.head _)) ?_
      refine s_getR X 54 (show cdA 50 37 = some (.getfield 26, 3, 4, 9, 0) from rfl) (by decide) rfl rfl ?_
      refine z_load_n X (x := x) (show cdA 50 40 = some (.iload_n 1, 1, 0, 0, 0) from rfl) (List.Mem.tail _ (List.Mem.tail _ (List.Mem.head _))) ?_
      refine z_const X (show cdA 50 41 = some (.iconst 1, 1, 0, 0, 0) from rfl) ?_
      refine z_add X (show cdA 50 42 = some (.iadd, 1, 0, 0, 0) from rfl) ?_
      refine z_ald X 58 (show cdA 50 43 = some (.iaload, 1, 0, 0, 0) from rfl) (by decide) rfl (by first | exact oq_54f49eb5 p0.1 | omega) (show (x + 1) < 24 by first | exact oq_f7ee2828 g2 p0.2 | omega) (by decide) ?_
      have b7 : ((-2147483648) : Int) ≤ iC s 49 ((x + 1)).toNat ∧ iC s 49 ((x + 1)).toNat ≤ 2147483647 := I.2 49 _ (show ((x + 1)).toNat < 24 by first | exact oq_129091dc g2 p0.2 | omega)
      refine z_aload_n X (x := A 54) (show cdA 50 44 = some (.aload_n 0, 1, 0, 0, 0) from rfl) (List.Mem.tail _ (List.Mem.head _)) ?_
      refine z_getI X 54 (show cdA 50 45 = some (.getfield 15, 3, 4, 6, 0) from rfl) (by decide) rfl rfl ?_
      have b8 : (0 : Int) ≤ iI s 33 ∧ iI s 33 ≤ 100000 := I.1 33
      refine z_icmp_gt X (t := 98) (show cdA 50 48 = some (.if_icmp .gt 50, 3, 4, 0, 0) from rfl) (by decide) (rng_to _) (rng_to _) (fun g9 => ?_) (fun g9 => ?_)
      ·
        refine z_load X (x := (iC s 50 (e4).toNat)) (show cdA 50 98 = some (.iload 4, 2, 0, 0, 0) from rfl) (List.Mem.head _) ?_
        exact w_iret X.1 q hRt rfl (ax_d X (show cdA 50 100 = some (.ireturn, 1, 0, 0, 0) from rfl)) (Nat.zero_le _) (Nat.zero_le _) ⟨_, rfl, I, F, (iC s 50 (e4).toNat), rfl, (rng_to _), trivial⟩
      ·
        refine z_const X (show cdA 50 51 = some (.iconst 0, 1, 0, 0, 0) from rfl) ?_
        refine z_store X (lv' := [(5, .int (Int32.ofInt 0)), (4, .int (Int32.ofInt (iC s 50 (e4).toNat))), (0, .ref (A 54)), (1, .int (Int32.ofInt x)), (2, .int (Int32.ofInt y)), (3, .int (Int32.ofInt z))]) (show cdA 50 52 = some (.istore 5, 2, 0, 0, 0) from rfl) (by decide) (fun _ h => h) ?_
        refine WS_lv (lv := [(0, .ref (A 54)), (1, .int (Int32.ofInt x)), (2, .int (Int32.ofInt y)), (3, .int (Int32.ofInt z)), (4, .int (Int32.ofInt (iC s 50 (e4).toNat))), (5, .int (Int32.ofInt 0))]) (List.forall_mem_cons.mpr ⟨(List.Mem.tail _ (List.Mem.tail _ (List.Mem.head _))), (List.forall_mem_cons.mpr ⟨(List.Mem.tail _ (List.Mem.tail _ (List.Mem.tail _ (List.Mem.head _)))), (List.forall_mem_cons.mpr ⟨(List.Mem.tail _ (List.Mem.tail _ (List.Mem.tail _ (List.Mem.tail _ (List.Mem.head _))))), (List.forall_mem_cons.mpr ⟨(List.Mem.tail _ (List.Mem.tail _ (List.Mem.tail _ (List.Mem.tail _ (List.Mem.tail _ (List.Mem.head _)))))), (List.forall_mem_cons.mpr ⟨(List.Mem.tail _ (List.Mem.head _)), (List.forall_mem_cons.mpr ⟨(List.Mem.head _), (fun q h => absurd h List.not_mem_nil)⟩)⟩)⟩)⟩)⟩)⟩) ?_
        refine L54 ((6 - 0 : Int).toNat + 1) s x y z (iC s 50 (e4).toNat) 0 I F (by first | exact ⟨oq_f0f9908c g2 p0.2 p0.1, And.intro (p1.1) (p1.2), And.intro (oq_a1517f2e g6) (p2.2), And.intro (b5.1) (b5.2), by decide, by decide⟩ | omega) (Nat.lt_succ_self _) ?_
        intro s10 x11 x12 Is10 Fs10 hs10
        have b13 : (0 : Int) ≤ iI s10 32 ∧ iI s10 32 ≤ 6 := Is10.1 32
        refine z_load X (x := x11) (show cdA 50 98 = some (.iload 4, 2, 0, 0, 0) from rfl) (List.Mem.tail _ (List.Mem.tail _ (List.Mem.tail _ (List.Mem.tail _ (List.Mem.head _))))) ?_
        exact w_iret X.1 q hRt rfl (ax_d X (show cdA 50 100 = some (.ireturn, 1, 0, 0, 0) from rfl)) (Nat.zero_le _) (Nat.zero_le _) ⟨_, rfl, Is10, Fs10, x11, rfl, ⟨by first | exact hs10.1 | omega, by first | exact hs10.2 | omega⟩, trivial⟩
  ·
    refine z_load_n X (x := z) (show cdA 50 6 = some (.iload_n 3, 1, 0, 0, 0) from rfl) (List.Mem.tail _ (List.Mem.tail _ (List.Mem.tail _ (List.Mem.head _)))) ?_
    refine z_if_ne X (t := 14) (show cdA 50 7 = some (.ifCond .ne 7, 3, 1, 0, 0) from rfl) (by decide) ⟨by first | exact oq_fa4e5087 p2.1 | omega, by first | exact oq_1a42ef34 p2.2 | omega⟩ (fun g14 => ?_) (fun g14 => ?_)
    ·
      refine z_ldc X (show cdA 50 14 = some (.ldc 115, 2, 0, 0, 1000000) from rfl) ?_
      exact w_iret X.1 q hRt rfl (ax_d X (show cdA 50 16 = some (.ireturn, 1, 0, 0, 0) from rfl)) (Nat.zero_le _) (Nat.zero_le _) ⟨_, rfl, I, F, 1000000, rfl, (by decide), trivial⟩
    ·
      refine z_const X (show cdA 50 10 = some (.iconst 0, 1, 0, 0, 0) from rfl) ?_
      refine z_goto X (t := 16) (show cdA 50 11 = some (.goto 5, 3, 0, 0, 0) from rfl) (by decide) ?_
      exact w_iret X.1 q hRt rfl (ax_d X (show cdA 50 16 = some (.ireturn, 1, 0, 0, 0) from rfl)) (Nat.zero_le _) (Nat.zero_le _) ⟨_, rfl, I, F, 0, rfl, (by decide), trivial⟩
set_option maxRecDepth 4000 in
theorem c4_nextOf_54 (G : GX l s0 D tys a0 dT) (I : Bd s) {x y z : Int} (p0 : 1 ≤ x ∧ x ≤ 23) (p1 : 0 ≤ y ∧ y ≤ 23) (p2 : rng z) : CT l s0 D A dT 52 (rmN 52) [.ref (A 54), .int (Int32.ofInt x), .int (Int32.ofInt y), .int (Int32.ofInt z)] s (fun o t => Bd t ∧ Fm [] [] s t ∧ ∃ e, o = .inl (some (.int (Int32.ofInt e))) ∧ rng e ∧ ((0 ≤ e ∧ e ≤ 5) ∧ (e = iC s 51 (x - 1).toNat ∨ 1 ≤ y))) := by
  refine ct_ofX G (by decide) (Nat.le_of_ble_eq_true rfl) (fun k X E ET hRt hXt q => ?_)
  show WS k 0 [(0, .ref (A 54)), (1, .int (Int32.ofInt x)), (2, .int (Int32.ofInt y)), (3, .int (Int32.ofInt z))] [] _ 0 0
  have F : Fm [] [] s s := fm_rf _ _ s
  have b1 : (0 : Int) ≤ iI s 32 ∧ iI s 32 ≤ 6 := I.1 32
  have L13 : ∀ (n : Nat) (t : PS) (xv yv zv ah c : Int), Bd t → Fm [] [] s t → ((1 ≤ xv ∧ xv ≤ 23) ∧ (0 ≤ yv ∧ yv ≤ 23 ∧ yv = y) ∧ rng zv ∧ (0 ≤ ah ∧ ah ≤ 5 ∧ ah = iC s 51 (x - 1).toNat) ∧ 0 ≤ c ∧ c ≤ 6) → (6 - c : Int).toNat < n → (∀ (t' : PS) (c' : Int), Bd t' → Fm [] [] s t' → ((1 ≤ xv ∧ xv ≤ 23) ∧ (0 ≤ yv ∧ yv ≤ 23 ∧ yv = y) ∧ rng zv ∧ (0 ≤ ah ∧ ah ≤ 5 ∧ ah = iC s 51 (x - 1).toNat) ∧ 0 ≤ c' ∧ c' ≤ 6) → WS k 92 [(0, .ref (A 54)), (1, .int (Int32.ofInt xv)), (2, .int (Int32.ofInt yv)), (3, .int (Int32.ofInt zv)), (4, .int (Int32.ofInt ah)), (5, .int (Int32.ofInt c'))] [] (Wd A dT t') 0 0) → WS k 13 [(0, .ref (A 54)), (1, .int (Int32.ofInt xv)), (2, .int (Int32.ofInt yv)), (3, .int (Int32.ofInt zv)), (4, .int (Int32.ofInt ah)), (5, .int (Int32.ofInt c))] [] (Wd A dT t) 0 0 := by
    intro n
    induction n with
    | zero =>
      intro t xv yv zv ah c I F hi hm kx
      exact absurd hm (Nat.not_lt_zero _)
    | succ n ih =>
      intro t xv yv zv ah c I F hi hm kx
      have b1001 : (0 : Int) ≤ iI t 32 ∧ iI t 32 ≤ 6 := I.1 32
      refine z_load X (x := c) (show cdA 52 13 = some (.iload 5, 2, 0, 0, 0) from rfl) (List.Mem.tail _ (List.Mem.tail _ (List.Mem.tail _ (List.Mem.tail _ (List.Mem.tail _ (List.Mem.head _)))))) ?_
      refine z_aload_n X (x := A 54) (show cdA 52 15 = some (.aload_n 0, 1, 0, 0, 0) from rfl) (List.Mem.head _) ?_
      refine z_getI X 54 (show cdA 52 16 = some (.getfield 51, 3, 4, 5, 0) from rfl) (by decide) rfl rfl ?_
      have b1002 : (0 : Int) ≤ iI t 32 ∧ iI t 32 ≤ 6 := I.1 32
      refine z_icmp_ge X (t := 92) (show cdA 52 19 = some (.if_icmp .ge 73, 3, 3, 0, 0) from rfl) (by decide) ⟨by first | exact oq_fa4e5087 hi.2.2.2.2.1 | omega, by first | exact oq_b301c3bf hi.2.2.2.2.2 | omega⟩ (rng_to _) (fun g1003 => ?_) (fun g1003 => ?_)
      ·
        refine WS_lv (lv := [(0, .ref (A 54)), (1, .int (Int32.ofInt xv)), (2, .int (Int32.ofInt yv)), (3, .int (Int32.ofInt zv)), (4, .int (Int32.ofInt ah)), (5, .int (Int32.ofInt c))]) (List.forall_mem_cons.mpr ⟨(List.Mem.head _), (List.forall_mem_cons.mpr ⟨(List.Mem.tail _ (List.Mem.head _)), (List.forall_mem_cons.mpr ⟨(List.Mem.tail _ (List.Mem.tail _ (List.Mem.head _))), (List.forall_mem_cons.mpr ⟨(List.Mem.tail _ (List.Mem.tail _ (List.Mem.tail _ (List.Mem.head _)))), (List.forall_mem_cons.mpr ⟨(List.Mem.tail _ (List.Mem.tail _ (List.Mem.tail _ (List.Mem.tail _ (List.Mem.head _))))), (List.forall_mem_cons.mpr ⟨(List.Mem.tail _ (List.Mem.tail _ (List.Mem.tail _ (List.Mem.tail _ (List.Mem.tail _ (List.Mem.head _)))))), (fun q h => absurd h List.not_mem_nil)⟩)⟩)⟩)⟩)⟩)⟩) ?_
        exact kx _ c I F (by first | exact ⟨And.intro (hi.1.1) (hi.1.2), And.intro (hi.2.1.1) (And.intro (hi.2.1.2.1) (hi.2.1.2.2)), And.intro (hi.2.2.1.1) (hi.2.2.1.2), And.intro (hi.2.2.2.1.1) (And.intro (hi.2.2.2.1.2.1) (hi.2.2.2.1.2.2)), hi.2.2.2.2.1, hi.2.2.2.2.2⟩ | omega)
      ·
        refine z_load X (x := c) (show cdA 52 22 = some (.iload 5, 2, 0, 0, 0) from rfl) (List.Mem.tail _ (List.Mem.tail _ (List.Mem.tail _ (List.Mem.tail _ (List.Mem.tail _ (List.Mem.head _)))))) ?_
        refine z_load X (x := ah) (show cdA 52 24 = some (.iload 4, 2, 0, 0, 0) from rfl) (List.Mem.tail _ (List.Mem.tail _ (List.Mem.tail _ (List.Mem.tail _ (List.Mem.head _))))) ?_
        refine z_icmp_ne X (t := 48) (show cdA 52 26 = some (.if_icmp .ne 22, 3, 1, 0, 0) from rfl) (by decide) ⟨by first | exact oq_fa4e5087 hi.2.2.2.2.1 | omega, by first | exact oq_b301c3bf hi.2.2.2.2.2 | omega⟩ ⟨by first | exact oq_fa4e5087 hi.2.2.2.1.1 | omega, by first | exact oq_a3dd55e5 hi.2.2.2.1.2.1 | omega⟩ (fun g1004 => ?_) (fun g1004 => ?_)
        ·
          refine z_load_n X (x := yv) (show cdA 52 48 = some (.iload_n 2, 1, 0, 0, 0) from rfl) (List.Mem.tail _ (List.Mem.tail _ (List.Mem.head _))) ?_
          refine z_if_le X (t := 86) (show cdA 52 49 = some (.ifCond .le 37, 3, 5, 0, 0) from rfl) (by decide) ⟨by first | exact oq_fa4e5087 hi.2.1.1 | omega, by first | exact oq_1a42ef34 hi.2.1.2.1 | omega⟩ (fun g1005 => ?_) (fun g1005 => ?_)
          ·
            refine z_inc X (x := c) (lv' := [(5, .int (Int32.ofInt (c + 1))), (0, .ref (A 54)), (1, .int (Int32.ofInt xv)), (2, .int (Int32.ofInt yv)), (3, .int (Int32.ofInt zv)), (4, .int (Int32.ofInt ah))]) (show cdA 52 86 = some (.iinc 5 1, 3, 0, 0, 0) from rfl) (by decide) (List.Mem.tail _ (List.Mem.tail _ (List.Mem.tail _ (List.Mem.tail _ (List.Mem.tail _ (List.Mem.head _)))))) (fun _ h => h) ?_
            refine z_goto X (t := 13) (show cdA 52 89 = some (.goto (-76), 3, 0, 0, 0) from rfl) (by decide) ?_
            refine WS_lv (lv := [(0, .ref (A 54)), (1, .int (Int32.ofInt xv)), (2, .int (Int32.ofInt yv)), (3, .int (Int32.ofInt zv)), (4, .int (Int32.ofInt ah)), (5, .int (Int32.ofInt (c + 1)))]) (List.forall_mem_cons.mpr ⟨(List.Mem.tail _ (List.Mem.head _)), (List.forall_mem_cons.mpr ⟨(List.Mem.tail _ (List.Mem.tail _ (List.Mem.head _))), (List.forall_mem_cons.mpr ⟨(List.Mem.tail _ (List.Mem.tail _ (List.Mem.tail _ (List.Mem.head _)))), (List.forall_mem_cons.mpr ⟨(List.Mem.tail _ (List.Mem.tail _ (List.Mem.tail _ (List.Mem.tail _ (List.Mem.head _))))), (List.forall_mem_cons.mpr ⟨(List.Mem.tail _ (List.Mem.tail _ (List.Mem.tail _ (List.Mem.tail _ (List.Mem.tail _ (List.Mem.head _)))))), (List.forall_mem_cons.mpr ⟨(List.Mem.head _), (fun q h => absurd h List.not_mem_nil)⟩)⟩)⟩)⟩)⟩)⟩) ?_
            exact ih _ xv yv zv ah (c + 1) I F (by first | exact ⟨And.intro (hi.1.1) (hi.1.2), And.intro (hi.2.1.1) (And.intro (hi.2.1.2.1) (hi.2.1.2.2)), And.intro (hi.2.2.1.1) (hi.2.2.1.2), And.intro (hi.2.2.2.1.1) (And.intro (hi.2.2.2.1.2.1) (hi.2.2.2.1.2.2)), oq_54f49eb5 hi.2.2.2.2.1, oq_d2f4feca g1003 b1002.2⟩ | omega) (by first | exact qk_me hm (by decide) (oq_4619bacb g1003 b1002.2) | omega) kx
          ·
            refine z_aload_n X (x := A 54) (show cdA 52 52 = some (.aload_n 0, 1, 0, 0, 0) from rfl) (List.Mem.head _) ?_
            refine s_getR X 54 (show cdA 52 53 = some (.getfield 26, 3, 4, 9, 0) from rfl) (by decide) rfl rfl ?_
            refine z_load_n X (x := xv) (show cdA 52 56 = some (.iload_n 1, 1, 0, 0, 0) from rfl) (List.Mem.tail _ (List.Mem.head _)) ?_
            refine z_ald X 58 (show cdA 52 57 = some (.iaload, 1, 0, 0, 0) from rfl) (by decide) rfl (by first | exact oq_2a6e3b50 hi.1.1 | omega) (show xv < 24 by first | exact oq_7fdb8aa6 hi.1.2 | omega) (by decide) ?_
            have b1006 : ((-2147483648) : Int) ≤ iC t 49 (xv).toNat ∧ iC t 49 (xv).toNat ≤ 2147483647 := I.2 49 _ (show (xv).toNat < 24 by first | exact oq_138251d6 hi.1.2 | omega)
            refine z_aload_n X (x := A 54) (show cdA 52 58 = some (.aload_n 0, 1, 0, 0, 0) from rfl) (List.Mem.head _) ?_
            refine z_getI X 54 (show cdA 52 59 = some (.getfield 15, 3, 4, 6, 0) from rfl) (by decide) rfl rfl ?_
            have b1007 : (0 : Int) ≤ iI t 33 ∧ iI t 33 ≤ 100000 := I.1 33
            refine z_icmp_gt X (t := 86) (show cdA 52 62 = some (.if_icmp .gt 24, 3, 4, 0, 0) from rfl) (by decide) (rng_to _) (rng_to _) (fun g1008 => ?_) (fun g1008 => ?_)
            ·
              refine z_inc X (x := c) (lv' := [(5, .int (Int32.ofInt (c + 1))), (0, .ref (A 54)), (1, .int (Int32.ofInt xv)), (2, .int (Int32.ofInt yv)), (3, .int (Int32.ofInt zv)), (4, .int (Int32.ofInt ah))]) (show cdA 52 86 = some (.iinc 5 1, 3, 0, 0, 0) from rfl) (by decide) (List.Mem.tail _ (List.Mem.tail _ (List.Mem.tail _ (List.Mem.tail _ (List.Mem.tail _ (List.Mem.head _)))))) (fun _ h => h) ?_
              refine z_goto X (t := 13) (show cdA 52 89 = some (.goto (-76), 3, 0, 0, 0) from rfl) (by decide) ?_
              refine WS_lv (lv := [(0, .ref (A 54)), (1, .int (Int32.ofInt xv)), (2, .int (Int32.ofInt yv)), (3, .int (Int32.ofInt zv)), (4, .int (Int32.ofInt ah)), (5, .int (Int32.ofInt (c + 1)))]) (List.forall_mem_cons.mpr ⟨(List.Mem.tail _ (List.Mem.head _)), (List.forall_mem_cons.mpr ⟨(List.Mem.tail _ (List.Mem.tail _ (List.Mem.head _))), (List.forall_mem_cons.mpr ⟨(List.Mem.tail _ (List.Mem.tail _ (List.Mem.tail _ (List.Mem.head _)))), (List.forall_mem_cons.mpr ⟨(List.Mem.tail _ (List.Mem.tail _ (List.Mem.tail _ (List.Mem.tail _ (List.Mem.head _))))), (List.forall_mem_cons.mpr ⟨(List.Mem.tail _ (List.Mem.tail _ (List.Mem.tail _ (List.Mem.tail _ (List.Mem.tail _ (List.Mem.head _)))))), (List.forall_mem_cons.mpr ⟨(List.Mem.head _), (fun q h => absurd h List.not_mem_nil)⟩)⟩)⟩)⟩)⟩)⟩) ?_
              exact ih _ xv yv zv ah (c + 1) I F (by first | exact ⟨And.intro (hi.1.1) (hi.1.2), And.intro (hi.2.1.1) (And.intro (hi.2.1.2.1) (hi.2.1.2.2)), And.intro (hi.2.2.1.1) (hi.2.2.1.2), And.intro (hi.2.2.2.1.1) (And.intro (hi.2.2.2.1.2.1) (hi.2.2.2.1.2.2)), oq_54f49eb5 hi.2.2.2.2.1, oq_d2f4feca g1003 b1002.2⟩ | omega) (by first | exact qk_me hm (by decide) (oq_4619bacb g1003 b1002.2) | omega) kx
            ·
              refine z_aload_n X (x := A 54) (show cdA 52 65 = some (.aload_n 0, 1, 0, 0, 0) from rfl) (List.Mem.head _) ?_
              refine s_getR X 54 (show cdA 52 66 = some (.getfield 29, 3, 4, 10, 0) from rfl) (by decide) rfl rfl ?_
              refine z_load_n X (x := xv) (show cdA 52 69 = some (.iload_n 1, 1, 0, 0, 0) from rfl) (List.Mem.tail _ (List.Mem.head _)) ?_
              refine z_load X (x := c) (show cdA 52 70 = some (.iload 5, 2, 0, 0, 0) from rfl) (List.Mem.tail _ (List.Mem.tail _ (List.Mem.tail _ (List.Mem.tail _ (List.Mem.tail _ (List.Mem.head _)))))) ?_
              refine z_load_n X (x := yv) (show cdA 52 72 = some (.iload_n 2, 1, 0, 0, 0) from rfl) (List.Mem.tail _ (List.Mem.tail _ (List.Mem.head _))) ?_
              refine z_const X (show cdA 52 73 = some (.iconst 1, 1, 0, 0, 0) from rfl) ?_
              refine z_sub X (show cdA 52 74 = some (.isub, 1, 0, 0, 0) from rfl) ?_
              refine z_callS X (rm := rmN 49) (As := [.int (Int32.ofInt xv), .int (Int32.ofInt c), .int (Int32.ofInt (yv - 1))]) (st := [.ref (A 59)]) (show cdA 52 75 = some (.invokestatic 116, 3, 49, 1, 0) from rfl) rfl (by rw [E.1, E.2.1, E.2.2.1]; exact c4_placeOf G I (by first | exact ⟨oq_2a6e3b50 hi.1.1, hi.1.2⟩ | omega) (by first | exact ⟨hi.2.2.2.2.1, oq_4af6a0a9 g1003 b1002.2⟩ | omega) (by first | exact ⟨oq_a4f22177 g1005, oq_ca4bf3cc hi.2.1.2.1⟩ | omega)) ⟨by rw [E.2.2.2]; exact (show (rmN 49).frames + 1 ≤ (rmN 52).frames by decide), by rw [E.2.2.2]; exact (show 8 + (mNL (miB 49) + 11) + (rmN 49).locals ≤ (rmN 52).locals by decide), by rw [E.2.2.2]; exact (show 0 + (rmN 49).cells ≤ (rmN 52).cells by decide), by rw [E.2.2.2]; exact (show 0 + (rmN 49).slots ≤ (rmN 52).slots by decide)⟩ (Nat.le_of_ble_eq_true rfl) (fun vv s1009 hq => ?_) (fun ee s1009 hq => ?_)
              rotate_left
              · obtain ⟨rfl, e1010, hv, hrs1009, hps1009⟩ := hq; cases hv
              obtain ⟨rfl, e1010, hv, hrs1009, hps1009⟩ := hq
              cases hv
              show WS k 78 [(0, .ref (A 54)), (1, .int (Int32.ofInt xv)), (2, .int (Int32.ofInt yv)), (3, .int (Int32.ofInt zv)), (4, .int (Int32.ofInt ah)), (5, .int (Int32.ofInt c))] [.int (Int32.ofInt e1010), .ref (A 59)] (Wd A dT t) 0 0
              refine z_ald X 59 (show cdA 52 78 = some (.iaload, 1, 0, 0, 0) from rfl) (by decide) rfl (by first | exact oq_c974ed27 hps1009 hi.1.1 hi.2.2.2.2.1 g1005 | omega) (show e1010 < 3456 by first | exact oq_1c844a3f hps1009 hi.1.2 g1003 b1002.2 hi.2.1.2.1 | omega) (by decide) ?_
              have b1011 : ((-2147483648) : Int) ≤ iC t 50 (e1010).toNat ∧ iC t 50 (e1010).toNat ≤ 2147483647 := I.2 50 _ (show (e1010).toNat < 3456 by first | exact oq_b5cc632c hps1009 hi.1.2 g1003 b1002.2 hi.2.1.2.1 | omega)
              refine z_load_n X (x := zv) (show cdA 52 79 = some (.iload_n 3, 1, 0, 0, 0) from rfl) (List.Mem.tail _ (List.Mem.tail _ (List.Mem.tail _ (List.Mem.head _)))) ?_
              refine z_icmp_ne X (t := 86) (show cdA 52 80 = some (.if_icmp .ne 6, 3, 1, 0, 0) from rfl) (by decide) (rng_to _) ⟨by first | exact hi.2.2.1.1 | omega, by first | exact hi.2.2.1.2 | omega⟩ (fun g1012 => ?_) (fun g1012 => ?_)
              ·
                refine z_inc X (x := c) (lv' := [(5, .int (Int32.ofInt (c + 1))), (0, .ref (A 54)), (1, .int (Int32.ofInt xv)), (2, .int (Int32.ofInt yv)), (3, .int (Int32.ofInt zv)), (4, .int (Int32.ofInt ah))]) (show cdA 52 86 = some (.iinc 5 1, 3, 0, 0, 0) from rfl) (by decide) (List.Mem.tail _ (List.Mem.tail _ (List.Mem.tail _ (List.Mem.tail _ (List.Mem.tail _ (List.Mem.head _)))))) (fun _ h => h) ?_
                refine z_goto X (t := 13) (show cdA 52 89 = some (.goto (-76), 3, 0, 0, 0) from rfl) (by decide) ?_
                refine WS_lv (lv := [(0, .ref (A 54)), (1, .int (Int32.ofInt xv)), (2, .int (Int32.ofInt yv)), (3, .int (Int32.ofInt zv)), (4, .int (Int32.ofInt ah)), (5, .int (Int32.ofInt (c + 1)))]) (List.forall_mem_cons.mpr ⟨(List.Mem.tail _ (List.Mem.head _)), (List.forall_mem_cons.mpr ⟨(List.Mem.tail _ (List.Mem.tail _ (List.Mem.head _))), (List.forall_mem_cons.mpr ⟨(List.Mem.tail _ (List.Mem.tail _ (List.Mem.tail _ (List.Mem.head _)))), (List.forall_mem_cons.mpr ⟨(List.Mem.tail _ (List.Mem.tail _ (List.Mem.tail _ (List.Mem.tail _ (List.Mem.head _))))), (List.forall_mem_cons.mpr ⟨(List.Mem.tail _ (List.Mem.tail _ (List.Mem.tail _ (List.Mem.tail _ (List.Mem.tail _ (List.Mem.head _)))))), (List.forall_mem_cons.mpr ⟨(List.Mem.head _), (fun q h => absurd h List.not_mem_nil)⟩)⟩)⟩)⟩)⟩)⟩) ?_
                exact ih _ xv yv zv ah (c + 1) I F (by first | exact ⟨And.intro (hi.1.1) (hi.1.2), And.intro (hi.2.1.1) (And.intro (hi.2.1.2.1) (hi.2.1.2.2)), And.intro (hi.2.2.1.1) (hi.2.2.1.2), And.intro (hi.2.2.2.1.1) (And.intro (hi.2.2.2.1.2.1) (hi.2.2.2.1.2.2)), oq_54f49eb5 hi.2.2.2.2.1, oq_d2f4feca g1003 b1002.2⟩ | omega) (by first | exact qk_me hm (by decide) (oq_4619bacb g1003 b1002.2) | omega) kx
              ·
                refine z_load X (x := c) (show cdA 52 83 = some (.iload 5, 2, 0, 0, 0) from rfl) (List.Mem.tail _ (List.Mem.tail _ (List.Mem.tail _ (List.Mem.tail _ (List.Mem.tail _ (List.Mem.head _)))))) ?_
                exact w_iret X.1 q hRt rfl (ax_d X (show cdA 52 85 = some (.ireturn, 1, 0, 0, 0) from rfl)) (Nat.zero_le _) (Nat.zero_le _) ⟨_, rfl, I, F, c, rfl, ⟨by first | exact oq_fa4e5087 hi.2.2.2.2.1 | omega, by first | exact oq_b301c3bf hi.2.2.2.2.2 | omega⟩, by first | exact ⟨And.intro (hi.2.2.2.2.1) (oq_4af6a0a9 g1003 b1002.2), Or.inr (oq_1837768b hi.2.1.2.2 g1005)⟩ | omega⟩
        ·
          refine z_aload_n X (x := A 54) (show cdA 52 29 = some (.aload_n 0, 1, 0, 0, 0) from rfl) (List.Mem.head _) ?_
          refine s_getR X 54 (show cdA 52 30 = some (.getfield 29, 3, 4, 10, 0) from rfl) (by decide) rfl rfl ?_
          refine z_load_n X (x := xv) (show cdA 52 33 = some (.iload_n 1, 1, 0, 0, 0) from rfl) (List.Mem.tail _ (List.Mem.head _)) ?_
          refine z_load X (x := c) (show cdA 52 34 = some (.iload 5, 2, 0, 0, 0) from rfl) (List.Mem.tail _ (List.Mem.tail _ (List.Mem.tail _ (List.Mem.tail _ (List.Mem.tail _ (List.Mem.head _)))))) ?_
          refine z_load_n X (x := yv) (show cdA 52 36 = some (.iload_n 2, 1, 0, 0, 0) from rfl) (List.Mem.tail _ (List.Mem.tail _ (List.Mem.head _))) ?_
          refine z_callS X (rm := rmN 49) (As := [.int (Int32.ofInt xv), .int (Int32.ofInt c), .int (Int32.ofInt yv)]) (st := [.ref (A 59)]) (show cdA 52 37 = some (.invokestatic 116, 3, 49, 1, 0) from rfl) rfl (by rw [E.1, E.2.1, E.2.2.1]; exact c4_placeOf G I (by first | exact ⟨oq_2a6e3b50 hi.1.1, hi.1.2⟩ | omega) (by first | exact ⟨hi.2.2.2.2.1, oq_e4712df0 g1004 hi.2.2.2.1.2.1⟩ | omega) (by first | exact ⟨hi.2.1.1, hi.2.1.2.1⟩ | omega)) ⟨by rw [E.2.2.2]; exact (show (rmN 49).frames + 1 ≤ (rmN 52).frames by decide), by rw [E.2.2.2]; exact (show 8 + (mNL (miB 49) + 11) + (rmN 49).locals ≤ (rmN 52).locals by decide), by rw [E.2.2.2]; exact (show 0 + (rmN 49).cells ≤ (rmN 52).cells by decide), by rw [E.2.2.2]; exact (show 0 + (rmN 49).slots ≤ (rmN 52).slots by decide)⟩ (Nat.le_of_ble_eq_true rfl) (fun vv s1013 hq => ?_) (fun ee s1013 hq => ?_)
          rotate_left
          · obtain ⟨rfl, e1014, hv, hrs1013, hps1013⟩ := hq; cases hv
          obtain ⟨rfl, e1014, hv, hrs1013, hps1013⟩ := hq
          cases hv
          show WS k 40 [(0, .ref (A 54)), (1, .int (Int32.ofInt xv)), (2, .int (Int32.ofInt yv)), (3, .int (Int32.ofInt zv)), (4, .int (Int32.ofInt ah)), (5, .int (Int32.ofInt c))] [.int (Int32.ofInt e1014), .ref (A 59)] (Wd A dT t) 0 0
          refine z_ald X 59 (show cdA 52 40 = some (.iaload, 1, 0, 0, 0) from rfl) (by decide) rfl (by first | exact oq_532cec08 hps1013 hi.1.1 hi.2.2.2.2.1 hi.2.1.1 | omega) (show e1014 < 3456 by first | exact oq_8cfaa477 hps1013 hi.1.2 hi.2.1.2.1 g1004 hi.2.2.2.1.2.1 | omega) (by decide) ?_
          have b1015 : ((-2147483648) : Int) ≤ iC t 50 (e1014).toNat ∧ iC t 50 (e1014).toNat ≤ 2147483647 := I.2 50 _ (show (e1014).toNat < 3456 by first | exact oq_170502e6 hps1013 hi.1.2 hi.2.1.2.1 g1004 hi.2.2.2.1.2.1 | omega)
          refine z_load_n X (x := zv) (show cdA 52 41 = some (.iload_n 3, 1, 0, 0, 0) from rfl) (List.Mem.tail _ (List.Mem.tail _ (List.Mem.tail _ (List.Mem.head _)))) ?_
          refine z_icmp_ne X (t := 86) (show cdA 52 42 = some (.if_icmp .ne 44, 3, 1, 0, 0) from rfl) (by decide) (rng_to _) ⟨by first | exact hi.2.2.1.1 | omega, by first | exact hi.2.2.1.2 | omega⟩ (fun g1016 => ?_) (fun g1016 => ?_)
          ·
            refine z_inc X (x := c) (lv' := [(5, .int (Int32.ofInt (c + 1))), (0, .ref (A 54)), (1, .int (Int32.ofInt xv)), (2, .int (Int32.ofInt yv)), (3, .int (Int32.ofInt zv)), (4, .int (Int32.ofInt ah))]) (show cdA 52 86 = some (.iinc 5 1, 3, 0, 0, 0) from rfl) (by decide) (List.Mem.tail _ (List.Mem.tail _ (List.Mem.tail _ (List.Mem.tail _ (List.Mem.tail _ (List.Mem.head _)))))) (fun _ h => h) ?_
            refine z_goto X (t := 13) (show cdA 52 89 = some (.goto (-76), 3, 0, 0, 0) from rfl) (by decide) ?_
            refine WS_lv (lv := [(0, .ref (A 54)), (1, .int (Int32.ofInt xv)), (2, .int (Int32.ofInt yv)), (3, .int (Int32.ofInt zv)), (4, .int (Int32.ofInt ah)), (5, .int (Int32.ofInt (c + 1)))]) (List.forall_mem_cons.mpr ⟨(List.Mem.tail _ (List.Mem.head _)), (List.forall_mem_cons.mpr ⟨(List.Mem.tail _ (List.Mem.tail _ (List.Mem.head _))), (List.forall_mem_cons.mpr ⟨(List.Mem.tail _ (List.Mem.tail _ (List.Mem.tail _ (List.Mem.head _)))), (List.forall_mem_cons.mpr ⟨(List.Mem.tail _ (List.Mem.tail _ (List.Mem.tail _ (List.Mem.tail _ (List.Mem.head _))))), (List.forall_mem_cons.mpr ⟨(List.Mem.tail _ (List.Mem.tail _ (List.Mem.tail _ (List.Mem.tail _ (List.Mem.tail _ (List.Mem.head _)))))), (List.forall_mem_cons.mpr ⟨(List.Mem.head _), (fun q h => absurd h List.not_mem_nil)⟩)⟩)⟩)⟩)⟩)⟩) ?_
            exact ih _ xv yv zv ah (c + 1) I F (by first | exact ⟨And.intro (hi.1.1) (hi.1.2), And.intro (hi.2.1.1) (And.intro (hi.2.1.2.1) (hi.2.1.2.2)), And.intro (hi.2.2.1.1) (hi.2.2.1.2), And.intro (hi.2.2.2.1.1) (And.intro (hi.2.2.2.1.2.1) (hi.2.2.2.1.2.2)), oq_54f49eb5 hi.2.2.2.2.1, oq_8b7431d5 g1004 hi.2.2.2.1.2.1⟩ | omega) (by first | exact qk_me hm (by decide) (oq_ac916594 g1004 hi.2.2.2.1.2.1) | omega) kx
          ·
            refine z_load X (x := c) (show cdA 52 45 = some (.iload 5, 2, 0, 0, 0) from rfl) (List.Mem.tail _ (List.Mem.tail _ (List.Mem.tail _ (List.Mem.tail _ (List.Mem.tail _ (List.Mem.head _)))))) ?_
            exact w_iret X.1 q hRt rfl (ax_d X (show cdA 52 47 = some (.ireturn, 1, 0, 0, 0) from rfl)) (Nat.zero_le _) (Nat.zero_le _) ⟨_, rfl, I, F, c, rfl, ⟨by first | exact oq_fa4e5087 hi.2.2.2.2.1 | omega, by first | exact oq_b301c3bf hi.2.2.2.2.2 | omega⟩, by first | exact ⟨And.intro (hi.2.2.2.2.1) (oq_e4712df0 g1004 hi.2.2.2.1.2.1), Or.inl (oq_27118732 hi.2.2.2.1.2.2 g1004)⟩ | omega⟩
  refine z_aload_n X (x := A 54) (show cdA 52 0 = some (.aload_n 0, 1, 0, 0, 0) from rfl) (List.Mem.head _) ?_
  refine s_getR X 54 (show cdA 52 1 = some (.getfield 32, 3, 4, 11, 0) from rfl) (by decide) rfl rfl ?_
  refine z_load_n X (x := x) (show cdA 52 4 = some (.iload_n 1, 1, 0, 0, 0) from rfl) (List.Mem.tail _ (List.Mem.head _)) ?_
  refine z_const X (show cdA 52 5 = some (.iconst 1, 1, 0, 0, 0) from rfl) ?_
  refine z_sub X (show cdA 52 6 = some (.isub, 1, 0, 0, 0) from rfl) ?_
  refine z_ald X 60 (show cdA 52 7 = some (.iaload, 1, 0, 0, 0) from rfl) (by decide) rfl (by first | exact oq_02aa5459 p0.1 | omega) (show (x - 1) < 24 by first | exact oq_748293e5 p0.2 | omega) (by decide) ?_
  have b2 : (0 : Int) ≤ iC s 51 ((x - 1)).toNat ∧ iC s 51 ((x - 1)).toNat ≤ 5 := I.2 51 _ (show ((x - 1)).toNat < 24 by first | exact oq_15f19a7c p0.2 | omega)
  refine z_store X (lv' := [(4, .int (Int32.ofInt (iC s 51 ((x - 1)).toNat))), (0, .ref (A 54)), (1, .int (Int32.ofInt x)), (2, .int (Int32.ofInt y)), (3, .int (Int32.ofInt z))]) (show cdA 52 8 = some (.istore 4, 2, 0, 0, 0) from rfl) (by decide) (fun _ h => h) ?_
  refine z_const X (show cdA 52 10 = some (.iconst 0, 1, 0, 0, 0) from rfl) ?_
  refine z_store X (lv' := [(5, .int (Int32.ofInt 0)), (4, .int (Int32.ofInt (iC s 51 ((x - 1)).toNat))), (0, .ref (A 54)), (1, .int (Int32.ofInt x)), (2, .int (Int32.ofInt y)), (3, .int (Int32.ofInt z))]) (show cdA 52 11 = some (.istore 5, 2, 0, 0, 0) from rfl) (by decide) (fun _ h => h) ?_
  refine WS_lv (lv := [(0, .ref (A 54)), (1, .int (Int32.ofInt x)), (2, .int (Int32.ofInt y)), (3, .int (Int32.ofInt z)), (4, .int (Int32.ofInt (iC s 51 ((x - 1)).toNat))), (5, .int (Int32.ofInt 0))]) (List.forall_mem_cons.mpr ⟨(List.Mem.tail _ (List.Mem.tail _ (List.Mem.head _))), (List.forall_mem_cons.mpr ⟨(List.Mem.tail _ (List.Mem.tail _ (List.Mem.tail _ (List.Mem.head _)))), (List.forall_mem_cons.mpr ⟨(List.Mem.tail _ (List.Mem.tail _ (List.Mem.tail _ (List.Mem.tail _ (List.Mem.head _))))), (List.forall_mem_cons.mpr ⟨(List.Mem.tail _ (List.Mem.tail _ (List.Mem.tail _ (List.Mem.tail _ (List.Mem.tail _ (List.Mem.head _)))))), (List.forall_mem_cons.mpr ⟨(List.Mem.tail _ (List.Mem.head _)), (List.forall_mem_cons.mpr ⟨(List.Mem.head _), (fun q h => absurd h List.not_mem_nil)⟩)⟩)⟩)⟩)⟩)⟩) ?_
  refine L13 ((6 - 0 : Int).toNat + 1) s x y z (iC s 51 ((x - 1)).toNat) 0 I F (by first | exact ⟨And.intro (p0.1) (p0.2), And.intro (p1.1) (And.intro (p1.2) (by decide)), And.intro (p2.1) (p2.2), And.intro (b2.1) (And.intro (b2.2) (by decide)), by decide, by decide⟩ | omega) (Nat.lt_succ_self _) ?_
  intro s3 x4 Is3 Fs3 hs3
  have b5 : (0 : Int) ≤ iI s3 32 ∧ iI s3 32 ≤ 6 := Is3.1 32
  refine z_load X (x := (iC s 51 ((x - 1)).toNat)) (show cdA 52 92 = some (.iload 4, 2, 0, 0, 0) from rfl) (List.Mem.tail _ (List.Mem.tail _ (List.Mem.tail _ (List.Mem.tail _ (List.Mem.head _))))) ?_
  exact w_iret X.1 q hRt rfl (ax_d X (show cdA 52 94 = some (.ireturn, 1, 0, 0, 0) from rfl)) (Nat.zero_le _) (Nat.zero_le _) ⟨_, rfl, Is3, Fs3, (iC s 51 ((x - 1)).toNat), rfl, (rng_to _), by first | exact ⟨And.intro (hs3.2.2.2.1.1) (hs3.2.2.2.1.2.1), Or.inl (by decide)⟩ | omega⟩
set_option maxRecDepth 4000 in
theorem c4_choose_54 (G : GX l s0 D tys a0 dT) (I : Bd s) {x : Int} (p0 : 0 ≤ x ∧ x ≤ 23) : CT l s0 D A dT 51 (rmN 51) [.ref (A 54), .int (Int32.ofInt x)] s (fun o t => Bd t ∧ Fm [34, 35] [51] s t ∧ ∃ e, o = .inl (some (.int (Int32.ofInt e))) ∧ rng e ∧ (e = 0 ∨ e = 1)) := by
  refine ct_ofX G (by decide) (Nat.le_of_ble_eq_true rfl) (fun k X E ET hRt hXt q => ?_)
  show WS k 0 [(0, .ref (A 54)), (1, .int (Int32.ofInt x))] [] _ 0 0
  have F : Fm [34, 35] [51] s s := fm_rf _ _ s
  have b1 : (0 : Int) ≤ iI s 32 ∧ iI s 32 ≤ 6 := I.1 32
  have b2 : (0 : Int) ≤ iI s 35 ∧ iI s 35 ≤ 23 := I.1 35
  have L27 : ∀ (n : Nat) (t : PS) (xv kk c : Int), Bd t → Fm [34, 35] [51] s t → ((0 ≤ xv ∧ xv ≤ 23) ∧ (0 ≤ kk ∧ kk ≤ xv) ∧ 0 ≤ c ∧ c ≤ 6) → (6 - c : Int).toNat < n → (∀ (t' : PS) (c' : Int), Bd t' → Fm [34, 35] [51] s t' → ((0 ≤ xv ∧ xv ≤ 23) ∧ (0 ≤ kk ∧ kk ≤ xv) ∧ 0 ≤ c' ∧ c' ≤ 6) → WS k 81 [(0, .ref (A 54)), (1, .int (Int32.ofInt xv)), (2, .int (Int32.ofInt kk)), (3, .int (Int32.ofInt c'))] [] (Wd A dT t') 0 0) → WS k 27 [(0, .ref (A 54)), (1, .int (Int32.ofInt xv)), (2, .int (Int32.ofInt kk)), (3, .int (Int32.ofInt c))] [] (Wd A dT t) 0 0 := by
    intro n
    induction n with
    | zero =>
      intro t xv kk c I F hi hm kx
      exact absurd hm (Nat.not_lt_zero _)
    | succ n ih =>
      intro t xv kk c I F hi hm kx
      have b1001 : (0 : Int) ≤ iI t 32 ∧ iI t 32 ≤ 6 := I.1 32
      have b1002 : (0 : Int) ≤ iI t 35 ∧ iI t 35 ≤ 23 := I.1 35
      refine z_load_n X (x := c) (show cdA 51 27 = some (.iload_n 3, 1, 0, 0, 0) from rfl) (List.Mem.tail _ (List.Mem.tail _ (List.Mem.tail _ (List.Mem.head _)))) ?_
      refine z_aload_n X (x := A 54) (show cdA 51 28 = some (.aload_n 0, 1, 0, 0, 0) from rfl) (List.Mem.head _) ?_
      refine z_getI X 54 (show cdA 51 29 = some (.getfield 51, 3, 4, 5, 0) from rfl) (by decide) rfl rfl ?_
      have b1003 : (0 : Int) ≤ iI t 32 ∧ iI t 32 ≤ 6 := I.1 32
      refine z_icmp_ge X (t := 81) (show cdA 51 32 = some (.if_icmp .ge 49, 3, 3, 0, 0) from rfl) (by decide) ⟨by first | exact oq_fa4e5087 hi.2.2.1 | omega, by first | exact oq_b301c3bf hi.2.2.2 | omega⟩ (rng_to _) (fun g1004 => ?_) (fun g1004 => ?_)
      ·
        refine WS_lv (lv := [(0, .ref (A 54)), (1, .int (Int32.ofInt xv)), (2, .int (Int32.ofInt kk)), (3, .int (Int32.ofInt c))]) (List.forall_mem_cons.mpr ⟨(List.Mem.head _), (List.forall_mem_cons.mpr ⟨(List.Mem.tail _ (List.Mem.head _)), (List.forall_mem_cons.mpr ⟨(List.Mem.tail _ (List.Mem.tail _ (List.Mem.head _))), (List.forall_mem_cons.mpr ⟨(List.Mem.tail _ (List.Mem.tail _ (List.Mem.tail _ (List.Mem.head _)))), (fun q h => absurd h List.not_mem_nil)⟩)⟩)⟩)⟩) ?_
        exact kx _ c I F (by first | exact ⟨And.intro (hi.1.1) (hi.1.2), And.intro (hi.2.1.1) (hi.2.1.2), hi.2.2.1, hi.2.2.2⟩ | omega)
      ·
        refine z_aload_n X (x := A 54) (show cdA 51 35 = some (.aload_n 0, 1, 0, 0, 0) from rfl) (List.Mem.head _) ?_
        refine s_getR X 54 (show cdA 51 36 = some (.getfield 29, 3, 4, 10, 0) from rfl) (by decide) rfl rfl ?_
        refine z_const X (show cdA 51 39 = some (.iconst 0, 1, 0, 0, 0) from rfl) ?_
        refine z_load_n X (x := c) (show cdA 51 40 = some (.iload_n 3, 1, 0, 0, 0) from rfl) (List.Mem.tail _ (List.Mem.tail _ (List.Mem.tail _ (List.Mem.head _)))) ?_
        refine z_load_n X (x := kk) (show cdA 51 41 = some (.iload_n 2, 1, 0, 0, 0) from rfl) (List.Mem.tail _ (List.Mem.tail _ (List.Mem.head _))) ?_
        refine z_callS X (rm := rmN 49) (As := [.int (Int32.ofInt 0), .int (Int32.ofInt c), .int (Int32.ofInt kk)]) (st := [.ref (A 59)]) (show cdA 51 42 = some (.invokestatic 116, 3, 49, 1, 0) from rfl) rfl (by rw [E.1, E.2.1, E.2.2.1]; exact c4_placeOf G I (by first | exact ⟨by decide, by decide⟩ | omega) (by first | exact ⟨hi.2.2.1, oq_4af6a0a9 g1004 b1003.2⟩ | omega) (by first | exact ⟨hi.2.1.1, oq_943835ba hi.2.1.2 hi.1.2⟩ | omega)) ⟨by rw [E.2.2.2]; exact (show (rmN 49).frames + 1 ≤ (rmN 51).frames by decide), by rw [E.2.2.2]; exact (show 8 + (mNL (miB 49) + 11) + (rmN 49).locals ≤ (rmN 51).locals by decide), by rw [E.2.2.2]; exact (show 0 + (rmN 49).cells ≤ (rmN 51).cells by decide), by rw [E.2.2.2]; exact (show 0 + (rmN 49).slots ≤ (rmN 51).slots by decide)⟩ (Nat.le_of_ble_eq_true rfl) (fun vv s1005 hq => ?_) (fun ee s1005 hq => ?_)
        rotate_left
        · obtain ⟨rfl, e1006, hv, hrs1005, hps1005⟩ := hq; cases hv
        obtain ⟨rfl, e1006, hv, hrs1005, hps1005⟩ := hq
        cases hv
        show WS k 45 [(0, .ref (A 54)), (1, .int (Int32.ofInt xv)), (2, .int (Int32.ofInt kk)), (3, .int (Int32.ofInt c))] [.int (Int32.ofInt e1006), .ref (A 59)] (Wd A dT t) 0 0
        refine z_ald X 59 (show cdA 51 45 = some (.iaload, 1, 0, 0, 0) from rfl) (by decide) rfl (by first | exact oq_73ace697 hps1005 hi.2.2.1 hi.2.1.1 | omega) (show e1006 < 3456 by first | exact oq_1f4e7f5e hps1005 hi.2.1.2 hi.1.2 hi.2.2.2 | omega) (by decide) ?_
        have b1007 : ((-2147483648) : Int) ≤ iC t 50 (e1006).toNat ∧ iC t 50 (e1006).toNat ≤ 2147483647 := I.2 50 _ (show (e1006).toNat < 3456 by first | exact oq_c4b096a1 hps1005 hi.2.1.2 hi.1.2 hi.2.2.2 | omega)
        refine z_store X (lv' := [(4, .int (Int32.ofInt (iC t 50 (e1006).toNat))), (0, .ref (A 54)), (1, .int (Int32.ofInt xv)), (2, .int (Int32.ofInt kk)), (3, .int (Int32.ofInt c))]) (show cdA 51 46 = some (.istore 4, 2, 0, 0, 0) from rfl) (by decide) (fun _ h => h) ?_
        refine z_load X (x := (iC t 50 (e1006).toNat)) (show cdA 51 48 = some (.iload 4, 2, 0, 0, 0) from rfl) (List.Mem.head _) ?_
        refine z_aload_n X (x := A 54) (show cdA 51 50 = some (.aload_n 0, 1, 0, 0, 0) from rfl) (List.Mem.tail _ (List.Mem.head _)) ?_
        refine z_getI X 54 (show cdA 51 51 = some (.getfield 127, 3, 4, 12, 0) from rfl) (by decide) rfl rfl ?_
        have b1008 : ((-2147483648) : Int) ≤ iI t 34 ∧ iI t 34 ≤ 2147483647 := I.1 34
        refine z_icmp_ge X (t := 75) (show cdA 51 54 = some (.if_icmp .ge 21, 3, 3, 0, 0) from rfl) (by decide) (rng_to _) (rng_to _) (fun g1009 => ?_) (fun g1009 => ?_)
        ·
          refine z_inc X (x := c) (lv' := [(3, .int (Int32.ofInt (c + 1))), (4, .int (Int32.ofInt (iC t 50 (e1006).toNat))), (0, .ref (A 54)), (1, .int (Int32.ofInt xv)), (2, .int (Int32.ofInt kk))]) (show cdA 51 75 = some (.iinc 3 1, 3, 0, 0, 0) from rfl) (by decide) (List.Mem.tail _ (List.Mem.tail _ (List.Mem.tail _ (List.Mem.tail _ (List.Mem.head _))))) (fun _ h => h) ?_
          refine z_goto X (t := 27) (show cdA 51 78 = some (.goto (-51), 3, 0, 0, 0) from rfl) (by decide) ?_
          refine WS_lv (lv := [(0, .ref (A 54)), (1, .int (Int32.ofInt xv)), (2, .int (Int32.ofInt kk)), (3, .int (Int32.ofInt (c + 1)))]) (List.forall_mem_cons.mpr ⟨(List.Mem.tail _ (List.Mem.tail _ (List.Mem.head _))), (List.forall_mem_cons.mpr ⟨(List.Mem.tail _ (List.Mem.tail _ (List.Mem.tail _ (List.Mem.head _)))), (List.forall_mem_cons.mpr ⟨(List.Mem.tail _ (List.Mem.tail _ (List.Mem.tail _ (List.Mem.tail _ (List.Mem.head _))))), (List.forall_mem_cons.mpr ⟨(List.Mem.head _), (fun q h => absurd h List.not_mem_nil)⟩)⟩)⟩)⟩) ?_
          exact ih _ xv kk (c + 1) I F (by first | exact ⟨And.intro (hi.1.1) (hi.1.2), And.intro (hi.2.1.1) (hi.2.1.2), oq_54f49eb5 hi.2.2.1, oq_d2f4feca g1004 b1003.2⟩ | omega) (by first | exact qk_me hm (by decide) (oq_4619bacb g1004 b1003.2) | omega) kx
        ·
          refine z_aload_n X (x := A 54) (show cdA 51 57 = some (.aload_n 0, 1, 0, 0, 0) from rfl) (List.Mem.tail _ (List.Mem.head _)) ?_
          refine z_load X (x := (iC t 50 (e1006).toNat)) (show cdA 51 58 = some (.iload 4, 2, 0, 0, 0) from rfl) (List.Mem.head _) ?_
          refine s_putI X 54 (show cdA 51 60 = some (.putfield 127, 3, 4, 12, 0) from rfl) (by decide) rfl rfl (by decide) rfl rfl rfl ?_
          obtain ⟨s1010, hs1010⟩ : ∃ x0, x0 = uI t 34 (Int32.ofInt (iC t 50 (e1006).toNat)) := ⟨_, rfl⟩
          rw [← hs1010]
          have Is1010 : Bd s1010 := by rw [hs1010]; exact bd_I I (show ((-2147483648) : Int) ≤ (iC t 50 (e1006).toNat) ∧ (iC t 50 (e1006).toNat) ≤ 2147483647 by first | exact ⟨b1007.1, b1007.2⟩ | omega) (rng_to _)
          have Fs1010 := fm_I (x := Int32.ofInt (iC t 50 (e1006).toNat)) F (show 34 ∈ _ by decide)
          rw [← hs1010] at Fs1010
          have vs1010 : iI s1010 34 = (iC t 50 (e1006).toNat) := by rw [hs1010]; exact iI_u (rng_to _)
          have ws1010_32 : iI s1010 32 = iI t 32 := by rw [hs1010]; rfl
          have ws1010_35 : iI s1010 35 = iI t 35 := by rw [hs1010]; rfl
          refine z_aload_n X (x := A 54) (show cdA 51 63 = some (.aload_n 0, 1, 0, 0, 0) from rfl) (List.Mem.tail _ (List.Mem.head _)) ?_
          refine z_load_n X (x := kk) (show cdA 51 64 = some (.iload_n 2, 1, 0, 0, 0) from rfl) (List.Mem.tail _ (List.Mem.tail _ (List.Mem.tail _ (List.Mem.head _)))) ?_
          refine s_putI X 54 (show cdA 51 65 = some (.putfield 130, 3, 4, 13, 0) from rfl) (by decide) rfl rfl (by decide) rfl rfl rfl ?_
          obtain ⟨s1011, hs1011⟩ : ∃ x0, x0 = uI s1010 35 (Int32.ofInt kk) := ⟨_, rfl⟩
          rw [← hs1011]
          have Is1011 : Bd s1011 := by rw [hs1011]; exact bd_I Is1010 (show (0 : Int) ≤ kk ∧ kk ≤ 23 by first | exact ⟨hi.2.1.1, oq_943835ba hi.2.1.2 hi.1.2⟩ | omega) ⟨by first | exact oq_fa4e5087 hi.2.1.1 | omega, by first | exact oq_7c6846ed hi.2.1.2 hi.1.2 | omega⟩
          have Fs1011 := fm_I (x := Int32.ofInt kk) Fs1010 (show 35 ∈ _ by decide)
          rw [← hs1011] at Fs1011
          have vs1011 : iI s1011 35 = kk := by rw [hs1011]; exact iI_u ⟨by first | exact oq_fa4e5087 hi.2.1.1 | omega, by first | exact oq_7c6846ed hi.2.1.2 hi.1.2 | omega⟩
          have ws1011_32 : iI s1011 32 = iI s1010 32 := by rw [hs1011]; rfl
          refine z_aload_n X (x := A 54) (show cdA 51 68 = some (.aload_n 0, 1, 0, 0, 0) from rfl) (List.Mem.tail _ (List.Mem.head _)) ?_
          refine s_getR X 54 (show cdA 51 69 = some (.getfield 32, 3, 4, 11, 0) from rfl) (by decide) rfl rfl ?_
          refine z_const X (show cdA 51 72 = some (.iconst 0, 1, 0, 0, 0) from rfl) ?_
          refine z_load_n X (x := c) (show cdA 51 73 = some (.iload_n 3, 1, 0, 0, 0) from rfl) (List.Mem.tail _ (List.Mem.tail _ (List.Mem.tail _ (List.Mem.tail _ (List.Mem.head _))))) ?_
          refine z_ast X 60 (show cdA 51 74 = some (.iastore, 1, 0, 0, 0) from rfl) (by decide) rfl (by decide) (show 0 < 24 by decide) (by decide) ?_
          obtain ⟨s1012, hs1012⟩ : ∃ x0, x0 = uC s1011 51 (0 : Int).toNat (Int32.ofInt c) := ⟨_, rfl⟩
          rw [← hs1012]
          have Is1012 : Bd s1012 := by rw [hs1012]; exact bd_C Is1011 (show (0 : Int) ≤ c ∧ c ≤ 5 by first | exact ⟨hi.2.2.1, oq_4af6a0a9 g1004 b1003.2⟩ | omega) ⟨by first | exact oq_fa4e5087 hi.2.2.1 | omega, by first | exact oq_b301c3bf hi.2.2.2 | omega⟩
          have Fs1012 := fm_C (i := (0 : Int).toNat) (x := Int32.ofInt c) Fs1011 (show 51 ∈ _ by decide)
          rw [← hs1012] at Fs1012
          have ws1012_32 : iI s1012 32 = iI s1011 32 := by rw [hs1012]; rfl
          have ws1012_35 : iI s1012 35 = iI s1011 35 := by rw [hs1012]; rfl
          have vs1012 : iC s1012 51 (0 : Int).toNat = c := by rw [hs1012]; exact iC_u ⟨by first | exact oq_fa4e5087 hi.2.2.1 | omega, by first | exact oq_b301c3bf hi.2.2.2 | omega⟩
          refine z_inc X (x := c) (lv' := [(3, .int (Int32.ofInt (c + 1))), (4, .int (Int32.ofInt (iC t 50 (e1006).toNat))), (0, .ref (A 54)), (1, .int (Int32.ofInt xv)), (2, .int (Int32.ofInt kk))]) (show cdA 51 75 = some (.iinc 3 1, 3, 0, 0, 0) from rfl) (by decide) (List.Mem.tail _ (List.Mem.tail _ (List.Mem.tail _ (List.Mem.tail _ (List.Mem.head _))))) (fun _ h => h) ?_
          refine z_goto X (t := 27) (show cdA 51 78 = some (.goto (-51), 3, 0, 0, 0) from rfl) (by decide) ?_
          refine WS_lv (lv := [(0, .ref (A 54)), (1, .int (Int32.ofInt xv)), (2, .int (Int32.ofInt kk)), (3, .int (Int32.ofInt (c + 1)))]) (List.forall_mem_cons.mpr ⟨(List.Mem.tail _ (List.Mem.tail _ (List.Mem.head _))), (List.forall_mem_cons.mpr ⟨(List.Mem.tail _ (List.Mem.tail _ (List.Mem.tail _ (List.Mem.head _)))), (List.forall_mem_cons.mpr ⟨(List.Mem.tail _ (List.Mem.tail _ (List.Mem.tail _ (List.Mem.tail _ (List.Mem.head _))))), (List.forall_mem_cons.mpr ⟨(List.Mem.head _), (fun q h => absurd h List.not_mem_nil)⟩)⟩)⟩)⟩) ?_
          exact ih _ xv kk (c + 1) Is1012 Fs1012 (by first | exact ⟨And.intro (hi.1.1) (hi.1.2), And.intro (hi.2.1.1) (hi.2.1.2), oq_54f49eb5 hi.2.2.1, oq_d2f4feca g1004 b1003.2⟩ | omega) (by first | exact qk_me hm (by decide) (oq_4619bacb g1004 b1003.2) | omega) kx
  have L20 : ∀ (n : Nat) (t : PS) (xv kk : Int), Bd t → Fm [34, 35] [51] s t → ((0 ≤ xv ∧ xv ≤ 23) ∧ 0 ≤ kk ∧ kk ≤ 24) → (24 - kk : Int).toNat < n → (∀ (t' : PS) (kk' : Int), Bd t' → Fm [34, 35] [51] s t' → ((0 ≤ xv ∧ xv ≤ 23) ∧ 0 ≤ kk' ∧ kk' ≤ 24) → WS k 87 [(0, .ref (A 54)), (1, .int (Int32.ofInt xv)), (2, .int (Int32.ofInt kk'))] [] (Wd A dT t') 0 0) → WS k 20 [(0, .ref (A 54)), (1, .int (Int32.ofInt xv)), (2, .int (Int32.ofInt kk))] [] (Wd A dT t) 0 0 := by
    intro n
    induction n with
    | zero =>
      intro t xv kk I F hi hm kx
      exact absurd hm (Nat.not_lt_zero _)
    | succ n ih =>
      intro t xv kk I F hi hm kx
      have b2001 : (0 : Int) ≤ iI t 32 ∧ iI t 32 ≤ 6 := I.1 32
      have b2002 : (0 : Int) ≤ iI t 35 ∧ iI t 35 ≤ 23 := I.1 35
      refine z_load_n X (x := kk) (show cdA 51 20 = some (.iload_n 2, 1, 0, 0, 0) from rfl) (List.Mem.tail _ (List.Mem.tail _ (List.Mem.head _))) ?_
      refine z_load_n X (x := xv) (show cdA 51 21 = some (.iload_n 1, 1, 0, 0, 0) from rfl) (List.Mem.tail _ (List.Mem.head _)) ?_
      refine z_icmp_gt X (t := 87) (show cdA 51 22 = some (.if_icmp .gt 65, 3, 4, 0, 0) from rfl) (by decide) ⟨by first | exact oq_fa4e5087 hi.2.1 | omega, by first | exact oq_5bcd337f hi.2.2 | omega⟩ ⟨by first | exact oq_fa4e5087 hi.1.1 | omega, by first | exact oq_1a42ef34 hi.1.2 | omega⟩ (fun g2003 => ?_) (fun g2003 => ?_)
      ·
        refine WS_lv (lv := [(0, .ref (A 54)), (1, .int (Int32.ofInt xv)), (2, .int (Int32.ofInt kk))]) (List.forall_mem_cons.mpr ⟨(List.Mem.head _), (List.forall_mem_cons.mpr ⟨(List.Mem.tail _ (List.Mem.head _)), (List.forall_mem_cons.mpr ⟨(List.Mem.tail _ (List.Mem.tail _ (List.Mem.head _))), (fun q h => absurd h List.not_mem_nil)⟩)⟩)⟩) ?_
        exact kx _ kk I F (by first | exact ⟨And.intro (hi.1.1) (hi.1.2), hi.2.1, hi.2.2⟩ | omega)
      ·
        refine z_const X (show cdA 51 25 = some (.iconst 0, 1, 0, 0, 0) from rfl) ?_
        refine z_store_n X (lv' := [(3, .int (Int32.ofInt 0)), (0, .ref (A 54)), (1, .int (Int32.ofInt xv)), (2, .int (Int32.ofInt kk))]) (show cdA 51 26 = some (.istore_n 3, 1, 0, 0, 0) from rfl) (by decide) (fun _ h => h) ?_
        refine WS_lv (lv := [(0, .ref (A 54)), (1, .int (Int32.ofInt xv)), (2, .int (Int32.ofInt kk)), (3, .int (Int32.ofInt 0))]) (List.forall_mem_cons.mpr ⟨(List.Mem.tail _ (List.Mem.head _)), (List.forall_mem_cons.mpr ⟨(List.Mem.tail _ (List.Mem.tail _ (List.Mem.head _))), (List.forall_mem_cons.mpr ⟨(List.Mem.tail _ (List.Mem.tail _ (List.Mem.tail _ (List.Mem.head _)))), (List.forall_mem_cons.mpr ⟨(List.Mem.head _), (fun q h => absurd h List.not_mem_nil)⟩)⟩)⟩)⟩) ?_
        refine L27 ((6 - 0 : Int).toNat + 1) t xv kk 0 I F (by first | exact ⟨And.intro (hi.1.1) (hi.1.2), And.intro (hi.2.1) (g2003), by decide, by decide⟩ | omega) (Nat.lt_succ_self _) ?_
        intro s2004 x2005 Is2004 Fs2004 hs2004
        have b2006 : (0 : Int) ≤ iI s2004 32 ∧ iI s2004 32 ≤ 6 := Is2004.1 32
        have b2007 : (0 : Int) ≤ iI s2004 35 ∧ iI s2004 35 ≤ 23 := Is2004.1 35
        refine z_inc X (x := kk) (lv' := [(2, .int (Int32.ofInt (kk + 1))), (0, .ref (A 54)), (1, .int (Int32.ofInt xv)), (3, .int (Int32.ofInt x2005))]) (show cdA 51 81 = some (.iinc 2 1, 3, 0, 0, 0) from rfl) (by decide) (List.Mem.tail _ (List.Mem.tail _ (List.Mem.head _))) (fun _ h => h) ?_
        refine z_goto X (t := 20) (show cdA 51 84 = some (.goto (-64), 3, 0, 0, 0) from rfl) (by decide) ?_
        refine WS_lv (lv := [(0, .ref (A 54)), (1, .int (Int32.ofInt xv)), (2, .int (Int32.ofInt (kk + 1)))]) (List.forall_mem_cons.mpr ⟨(List.Mem.tail _ (List.Mem.head _)), (List.forall_mem_cons.mpr ⟨(List.Mem.tail _ (List.Mem.tail _ (List.Mem.head _))), (List.forall_mem_cons.mpr ⟨(List.Mem.head _), (fun q h => absurd h List.not_mem_nil)⟩)⟩)⟩) ?_
        exact ih _ xv (kk + 1) Is2004 Fs2004 (by first | exact ⟨And.intro (hs2004.1.1) (hs2004.1.2), oq_54f49eb5 hs2004.2.1.1, oq_3f5436dc hs2004.2.1.2 hs2004.1.2⟩ | omega) (by first | exact qk_me hm (by decide) (oq_416f5e90 hs2004.2.1.2 hs2004.1.2) | omega) kx
  have L111 : ∀ (n : Nat) (t : PS) (kk lf qq : Int), Bd t → Fm [34, 35] [51] s t → ((0 ≤ kk ∧ kk ≤ 23) ∧ rng lf ∧ 1 ≤ qq ∧ qq ≤ 24) → (24 - qq : Int).toNat < n → (∀ (t' : PS) (kk' lf' qq' : Int), Bd t' → Fm [34, 35] [51] s t' → ((0 ≤ kk' ∧ kk' ≤ 23) ∧ rng lf' ∧ 1 ≤ qq' ∧ qq' ≤ 24) → WS k 178 [(0, .ref (A 54)), (2, .int (Int32.ofInt kk')), (3, .int (Int32.ofInt lf')), (4, .int (Int32.ofInt qq'))] [] (Wd A dT t') 0 0) → WS k 111 [(0, .ref (A 54)), (2, .int (Int32.ofInt kk)), (3, .int (Int32.ofInt lf)), (4, .int (Int32.ofInt qq))] [] (Wd A dT t) 0 0 := by
    intro n
    induction n with
    | zero =>
      intro t kk lf qq I F hi hm kx
      exact absurd hm (Nat.not_lt_zero _)
    | succ n ih =>
      intro t kk lf qq I F hi hm kx
      have b3001 : (0 : Int) ≤ iI t 32 ∧ iI t 32 ≤ 6 := I.1 32
      have b3002 : (0 : Int) ≤ iI t 35 ∧ iI t 35 ≤ 23 := I.1 35
      refine z_load X (x := qq) (show cdA 51 111 = some (.iload 4, 2, 0, 0, 0) from rfl) (List.Mem.tail _ (List.Mem.tail _ (List.Mem.tail _ (List.Mem.head _)))) ?_
      refine z_bipush X (show cdA 51 113 = some (.bipush 24, 2, 0, 0, 24) from rfl) ?_
      refine z_icmp_ge X (t := 178) (show cdA 51 115 = some (.if_icmp .ge 63, 3, 3, 0, 0) from rfl) (by decide) ⟨by first | exact oq_9462313e hi.2.2.1 | omega, by first | exact oq_5bcd337f hi.2.2.2 | omega⟩ (by decide) (fun g3003 => ?_) (fun g3003 => ?_)
      ·
        refine WS_lv (lv := [(0, .ref (A 54)), (2, .int (Int32.ofInt kk)), (3, .int (Int32.ofInt lf)), (4, .int (Int32.ofInt qq))]) (List.forall_mem_cons.mpr ⟨(List.Mem.head _), (List.forall_mem_cons.mpr ⟨(List.Mem.tail _ (List.Mem.head _)), (List.forall_mem_cons.mpr ⟨(List.Mem.tail _ (List.Mem.tail _ (List.Mem.head _))), (List.forall_mem_cons.mpr ⟨(List.Mem.tail _ (List.Mem.tail _ (List.Mem.tail _ (List.Mem.head _)))), (fun q h => absurd h List.not_mem_nil)⟩)⟩)⟩)⟩) ?_
        exact kx _ kk lf qq I F (by first | exact ⟨And.intro (hi.1.1) (hi.1.2), And.intro (hi.2.1.1) (hi.2.1.2), hi.2.2.1, hi.2.2.2⟩ | omega)
      ·
        refine z_load_n X (x := lf) (show cdA 51 118 = some (.iload_n 3, 1, 0, 0, 0) from rfl) (List.Mem.tail _ (List.Mem.tail _ (List.Mem.head _))) ?_
        refine z_aload_n X (x := A 54) (show cdA 51 119 = some (.aload_n 0, 1, 0, 0, 0) from rfl) (List.Mem.head _) ?_
        refine s_getR X 54 (show cdA 51 120 = some (.getfield 19, 3, 4, 7, 0) from rfl) (by decide) rfl rfl ?_
        refine z_aload_n X (x := A 54) (show cdA 51 123 = some (.aload_n 0, 1, 0, 0, 0) from rfl) (List.Mem.head _) ?_
        refine s_getR X 54 (show cdA 51 124 = some (.getfield 32, 3, 4, 11, 0) from rfl) (by decide) rfl rfl ?_
        refine z_load X (x := qq) (show cdA 51 127 = some (.iload 4, 2, 0, 0, 0) from rfl) (List.Mem.tail _ (List.Mem.tail _ (List.Mem.tail _ (List.Mem.head _)))) ?_
        refine z_const X (show cdA 51 129 = some (.iconst 1, 1, 0, 0, 0) from rfl) ?_
        refine z_sub X (show cdA 51 130 = some (.isub, 1, 0, 0, 0) from rfl) ?_
        refine z_ald X 60 (show cdA 51 131 = some (.iaload, 1, 0, 0, 0) from rfl) (by decide) rfl (by first | exact oq_02aa5459 hi.2.2.1 | omega) (show (qq - 1) < 24 by first | exact oq_2c248f40 g3003 | omega) (by decide) ?_
        have b3004 : (0 : Int) ≤ iC t 51 ((qq - 1)).toNat ∧ iC t 51 ((qq - 1)).toNat ≤ 5 := I.2 51 _ (show ((qq - 1)).toNat < 24 by first | exact oq_94a41655 g3003 | omega)
        refine z_ald X 56 (show cdA 51 132 = some (.iaload, 1, 0, 0, 0) from rfl) (by decide) rfl (by first | exact b3004.1 | omega) (show (iC t 51 ((qq - 1)).toNat) < 6 by first | exact oq_9207f8f8 b3004.2 | omega) (by decide) ?_
        have b3005 : ((-2147483648) : Int) ≤ iC t 47 ((iC t 51 ((qq - 1)).toNat)).toNat ∧ iC t 47 ((iC t 51 ((qq - 1)).toNat)).toNat ≤ 2147483647 := I.2 47 _ (show ((iC t 51 ((qq - 1)).toNat)).toNat < 6 by first | exact oq_78f9cd89 b3004.2 | omega)
        refine z_sub X (show cdA 51 133 = some (.isub, 1, 0, 0, 0) from rfl) ?_
        refine z_any (fun y3006 hy3006 => ?_)
        refine z_store_n X (lv' := [(3, .int (Int32.ofInt y3006)), (0, .ref (A 54)), (2, .int (Int32.ofInt kk)), (4, .int (Int32.ofInt qq))]) (show cdA 51 134 = some (.istore_n 3, 1, 0, 0, 0) from rfl) (by decide) (fun _ h => h) ?_
        refine z_aload_n X (x := A 54) (show cdA 51 135 = some (.aload_n 0, 1, 0, 0, 0) from rfl) (List.Mem.tail _ (List.Mem.head _)) ?_
        refine s_getR X 54 (show cdA 51 136 = some (.getfield 32, 3, 4, 11, 0) from rfl) (by decide) rfl rfl ?_
        refine z_load X (x := qq) (show cdA 51 139 = some (.iload 4, 2, 0, 0, 0) from rfl) (List.Mem.tail _ (List.Mem.tail _ (List.Mem.tail _ (List.Mem.head _)))) ?_
        refine z_aload_n X (x := A 54) (show cdA 51 141 = some (.aload_n 0, 1, 0, 0, 0) from rfl) (List.Mem.tail _ (List.Mem.head _)) ?_
        refine z_load X (x := qq) (show cdA 51 142 = some (.iload 4, 2, 0, 0, 0) from rfl) (List.Mem.tail _ (List.Mem.tail _ (List.Mem.tail _ (List.Mem.head _)))) ?_
        refine z_load_n X (x := kk) (show cdA 51 144 = some (.iload_n 2, 1, 0, 0, 0) from rfl) (List.Mem.tail _ (List.Mem.tail _ (List.Mem.head _))) ?_
        refine z_load_n X (x := y3006) (show cdA 51 145 = some (.iload_n 3, 1, 0, 0, 0) from rfl) (List.Mem.head _) ?_
        refine z_callV X 54 (rm := rmN 52) (As := [.int (Int32.ofInt qq), .int (Int32.ofInt kk), .int (Int32.ofInt y3006)]) (st := [.int (Int32.ofInt qq), .ref (A 60)]) (show cdA 51 146 = some (.invokevirtual 133, 3, 52, 0, 0) from rfl) rfl (by decide) rfl (by rw [E.1, E.2.1, E.2.2.1]; exact c4_nextOf_54 G I (by first | exact ⟨hi.2.2.1, oq_c69fe266 g3003⟩ | omega) (by first | exact ⟨hi.1.1, hi.1.2⟩ | omega) (by first | exact ⟨hy3006.1, hy3006.2⟩ | omega)) ⟨by rw [E.2.2.2]; exact (show (rmN 52).frames + 1 ≤ (rmN 51).frames by decide), by rw [E.2.2.2]; exact (show 8 + (mNL (miB 52) + 11) + (rmN 52).locals ≤ (rmN 51).locals by decide), by rw [E.2.2.2]; exact (show 0 + (rmN 52).cells ≤ (rmN 51).cells by decide), by rw [E.2.2.2]; exact (show 0 + (rmN 52).slots ≤ (rmN 51).slots by decide)⟩ (Nat.le_of_ble_eq_true rfl) (fun vv s3007 hq => ?_) (fun ee s3007 hq => ?_)
        rotate_left
        · obtain ⟨Is3007, Fs3007, e3008, hv, hrs3007, hps3007⟩ := hq; cases hv
        obtain ⟨Is3007, Fs3007, e3008, hv, hrs3007, hps3007⟩ := hq
        cases hv
        have Gs3007 := fm_ts F Fs3007 (by decide) (by decide)
        have ws3007_32 : iI s3007 32 = iI t 32 := fm_i Fs3007 (by decide)
        have ws3007_35 : iI s3007 35 = iI t 35 := fm_i Fs3007 (by decide)
        show WS k 149 [(3, .int (Int32.ofInt y3006)), (0, .ref (A 54)), (2, .int (Int32.ofInt kk)), (4, .int (Int32.ofInt qq))] [.int (Int32.ofInt e3008), .int (Int32.ofInt qq), .ref (A 60)] (Wd A dT s3007) 0 0
        have ca3009 : iC s3007 51 (qq - 1).toNat = iC t 51 (qq - 1).toNat := fm_c Fs3007 (by decide)
        refine z_ast X 60 (show cdA 51 149 = some (.iastore, 1, 0, 0, 0) from rfl) (by decide) rfl (by first | exact oq_2a6e3b50 hi.2.2.1 | omega) (show qq < 24 by first | exact g3003 | omega) (by decide) ?_
        obtain ⟨s3010, hs3010⟩ : ∃ x0, x0 = uC s3007 51 (qq).toNat (Int32.ofInt e3008) := ⟨_, rfl⟩
        rw [← hs3010]
        have Is3010 : Bd s3010 := by rw [hs3010]; exact bd_C Is3007 (show (0 : Int) ≤ e3008 ∧ e3008 ≤ 5 by first | exact ⟨hps3007.1.1, hps3007.1.2⟩ | omega) hrs3007
        have Fs3010 := fm_C (i := (qq).toNat) (x := Int32.ofInt e3008) Gs3007 (show 51 ∈ _ by decide)
        rw [← hs3010] at Fs3010
        have ws3010_32 : iI s3010 32 = iI s3007 32 := by rw [hs3010]; rfl
        have ws3010_35 : iI s3010 35 = iI s3007 35 := by rw [hs3010]; rfl
        have vs3010 : iC s3010 51 (qq).toNat = e3008 := by rw [hs3010]; exact iC_u hrs3007
        have cb3011 : iC s3010 51 (qq - 1).toNat = iC s3007 51 (qq - 1).toNat := by rw [hs3010]; exact iC_n (by omega)
        refine z_aload_n X (x := A 54) (show cdA 51 150 = some (.aload_n 0, 1, 0, 0, 0) from rfl) (List.Mem.tail _ (List.Mem.head _)) ?_
        refine s_getR X 54 (show cdA 51 151 = some (.getfield 32, 3, 4, 11, 0) from rfl) (by decide) rfl rfl ?_
        refine z_load X (x := qq) (show cdA 51 154 = some (.iload 4, 2, 0, 0, 0) from rfl) (List.Mem.tail _ (List.Mem.tail _ (List.Mem.tail _ (List.Mem.head _)))) ?_
        refine z_ald X 60 (show cdA 51 156 = some (.iaload, 1, 0, 0, 0) from rfl) (by decide) rfl (by first | exact oq_2a6e3b50 hi.2.2.1 | omega) (show qq < 24 by first | exact g3003 | omega) (by decide) ?_
        have b3012 : (0 : Int) ≤ iC s3010 51 (qq).toNat ∧ iC s3010 51 (qq).toNat ≤ 5 := Is3010.2 51 _ (show (qq).toNat < 24 by first | exact oq_797efae6 g3003 | omega)
        refine z_aload_n X (x := A 54) (show cdA 51 157 = some (.aload_n 0, 1, 0, 0, 0) from rfl) (List.Mem.tail _ (List.Mem.head _)) ?_
        refine s_getR X 54 (show cdA 51 158 = some (.getfield 32, 3, 4, 11, 0) from rfl) (by decide) rfl rfl ?_
        refine z_load X (x := qq) (show cdA 51 161 = some (.iload 4, 2, 0, 0, 0) from rfl) (List.Mem.tail _ (List.Mem.tail _ (List.Mem.tail _ (List.Mem.head _)))) ?_
        refine z_const X (show cdA 51 163 = some (.iconst 1, 1, 0, 0, 0) from rfl) ?_
        refine z_sub X (show cdA 51 164 = some (.isub, 1, 0, 0, 0) from rfl) ?_
        refine z_ald X 60 (show cdA 51 165 = some (.iaload, 1, 0, 0, 0) from rfl) (by decide) rfl (by first | exact oq_02aa5459 hi.2.2.1 | omega) (show (qq - 1) < 24 by first | exact oq_2c248f40 g3003 | omega) (by decide) ?_
        have b3013 : (0 : Int) ≤ iC s3010 51 ((qq - 1)).toNat ∧ iC s3010 51 ((qq - 1)).toNat ≤ 5 := Is3010.2 51 _ (show ((qq - 1)).toNat < 24 by first | exact oq_94a41655 g3003 | omega)
        refine z_icmp_eq X (t := 172) (show cdA 51 166 = some (.if_icmp .eq 6, 3, 0, 0, 0) from rfl) (by decide) (rng_to _) (rng_to _) (fun g3014 => ?_) (fun g3014 => ?_)
        ·
          refine z_inc X (x := qq) (lv' := [(4, .int (Int32.ofInt (qq + 1))), (3, .int (Int32.ofInt y3006)), (0, .ref (A 54)), (2, .int (Int32.ofInt kk))]) (show cdA 51 172 = some (.iinc 4 1, 3, 0, 0, 0) from rfl) (by decide) (List.Mem.tail _ (List.Mem.tail _ (List.Mem.tail _ (List.Mem.head _)))) (fun _ h => h) ?_
          refine z_goto X (t := 111) (show cdA 51 175 = some (.goto (-64), 3, 0, 0, 0) from rfl) (by decide) ?_
          refine WS_lv (lv := [(0, .ref (A 54)), (2, .int (Int32.ofInt kk)), (3, .int (Int32.ofInt y3006)), (4, .int (Int32.ofInt (qq + 1)))]) (List.forall_mem_cons.mpr ⟨(List.Mem.tail _ (List.Mem.tail _ (List.Mem.head _))), (List.forall_mem_cons.mpr ⟨(List.Mem.tail _ (List.Mem.tail _ (List.Mem.tail _ (List.Mem.head _)))), (List.forall_mem_cons.mpr ⟨(List.Mem.tail _ (List.Mem.head _)), (List.forall_mem_cons.mpr ⟨(List.Mem.head _), (fun q h => absurd h List.not_mem_nil)⟩)⟩)⟩)⟩) ?_
          exact ih _ kk y3006 (qq + 1) Is3010 Fs3010 (by first | exact ⟨And.intro (hi.1.1) (hi.1.2), And.intro (hy3006.1) (hy3006.2), oq_1e1a2df6 hi.2.2.1, oq_cec7cb2e g3003⟩ | omega) (by first | exact qk_me hm (by decide) (oq_ffa8317e g3003) | omega) kx
        ·
          refine z_inc X (x := kk) (lv' := [(2, .int (Int32.ofInt (kk + (-1)))), (3, .int (Int32.ofInt y3006)), (0, .ref (A 54)), (4, .int (Int32.ofInt qq))]) (show cdA 51 169 = some (.iinc 2 (-1), 3, 0, 0, 0) from rfl) (by decide) (List.Mem.tail _ (List.Mem.tail _ (List.Mem.head _))) (fun _ h => h) ?_
          refine z_inc X (x := qq) (lv' := [(4, .int (Int32.ofInt (qq + 1))), (2, .int (Int32.ofInt (kk + (-1)))), (3, .int (Int32.ofInt y3006)), (0, .ref (A 54))]) (show cdA 51 172 = some (.iinc 4 1, 3, 0, 0, 0) from rfl) (by decide) (List.Mem.tail _ (List.Mem.tail _ (List.Mem.tail _ (List.Mem.head _)))) (fun _ h => h) ?_
          refine z_goto X (t := 111) (show cdA 51 175 = some (.goto (-64), 3, 0, 0, 0) from rfl) (by decide) ?_
          refine WS_lv (lv := [(0, .ref (A 54)), (2, .int (Int32.ofInt (kk + (-1)))), (3, .int (Int32.ofInt y3006)), (4, .int (Int32.ofInt (qq + 1)))]) (List.forall_mem_cons.mpr ⟨(List.Mem.tail _ (List.Mem.tail _ (List.Mem.tail _ (List.Mem.head _)))), (List.forall_mem_cons.mpr ⟨(List.Mem.tail _ (List.Mem.head _)), (List.forall_mem_cons.mpr ⟨(List.Mem.tail _ (List.Mem.tail _ (List.Mem.head _))), (List.forall_mem_cons.mpr ⟨(List.Mem.head _), (fun q h => absurd h List.not_mem_nil)⟩)⟩)⟩)⟩) ?_
          exact ih _ (kk + (-1)) y3006 (qq + 1) Is3010 Fs3010 (by first | exact ⟨oq_7b5db82c g3014 cb3011 vs3010 ca3009 hps3007.2 hi.1.2, And.intro (hy3006.1) (hy3006.2), oq_1e1a2df6 hi.2.2.1, oq_cec7cb2e g3003⟩ | omega) (by first | exact qk_me hm (by decide) (oq_ffa8317e g3003) | omega) kx
  refine z_aload_n X (x := A 54) (show cdA 51 0 = some (.aload_n 0, 1, 0, 0, 0) from rfl) (List.Mem.head _) ?_
  refine z_ldc X (show cdA 51 1 = some (.ldc 115, 2, 0, 0, 1000000) from rfl) ?_
  refine s_putI X 54 (show cdA 51 3 = some (.putfield 127, 3, 4, 12, 0) from rfl) (by decide) rfl rfl (by decide) rfl rfl rfl ?_
  obtain ⟨s3, hs3⟩ : ∃ x0, x0 = uI s 34 (Int32.ofInt 1000000) := ⟨_, rfl⟩
  rw [← hs3]
  have Is3 : Bd s3 := by rw [hs3]; exact bd_I I (show ((-2147483648) : Int) ≤ 1000000 ∧ 1000000 ≤ 2147483647 by first | exact ⟨by decide, by decide⟩ | omega) (by decide)
  have Fs3 := fm_I (x := Int32.ofInt 1000000) F (show 34 ∈ _ by decide)
  rw [← hs3] at Fs3
  have vs3 : iI s3 34 = 1000000 := by rw [hs3]; exact iI_u (by decide)
  have ws3_32 : iI s3 32 = iI s 32 := by rw [hs3]; rfl
  have ws3_35 : iI s3 35 = iI s 35 := by rw [hs3]; rfl
  refine z_aload_n X (x := A 54) (show cdA 51 6 = some (.aload_n 0, 1, 0, 0, 0) from rfl) (List.Mem.head _) ?_
  refine z_const X (show cdA 51 7 = some (.iconst 0, 1, 0, 0, 0) from rfl) ?_
  refine s_putI X 54 (show cdA 51 8 = some (.putfield 130, 3, 4, 13, 0) from rfl) (by decide) rfl rfl (by decide) rfl rfl rfl ?_
  obtain ⟨s4, hs4⟩ : ∃ x0, x0 = uI s3 35 (Int32.ofInt 0) := ⟨_, rfl⟩
  rw [← hs4]
  have Is4 : Bd s4 := by rw [hs4]; exact bd_I Is3 (show (0 : Int) ≤ 0 ∧ 0 ≤ 23 by first | exact ⟨by decide, by decide⟩ | omega) (by decide)
  have Fs4 := fm_I (x := Int32.ofInt 0) Fs3 (show 35 ∈ _ by decide)
  rw [← hs4] at Fs4
  have vs4 : iI s4 35 = 0 := by rw [hs4]; exact iI_u (by decide)
  have ws4_32 : iI s4 32 = iI s3 32 := by rw [hs4]; rfl
  refine z_aload_n X (x := A 54) (show cdA 51 11 = some (.aload_n 0, 1, 0, 0, 0) from rfl) (List.Mem.head _) ?_
  refine s_getR X 54 (show cdA 51 12 = some (.getfield 32, 3, 4, 11, 0) from rfl) (by decide) rfl rfl ?_
  refine z_const X (show cdA 51 15 = some (.iconst 0, 1, 0, 0, 0) from rfl) ?_
  refine z_const X (show cdA 51 16 = some (.iconst 0, 1, 0, 0, 0) from rfl) ?_
  refine z_ast X 60 (show cdA 51 17 = some (.iastore, 1, 0, 0, 0) from rfl) (by decide) rfl (by decide) (show 0 < 24 by decide) (by decide) ?_
  obtain ⟨s5, hs5⟩ : ∃ x0, x0 = uC s4 51 (0 : Int).toNat (Int32.ofInt 0) := ⟨_, rfl⟩
  rw [← hs5]
  have Is5 : Bd s5 := by rw [hs5]; exact bd_C Is4 (show (0 : Int) ≤ 0 ∧ 0 ≤ 5 by first | exact ⟨by decide, by decide⟩ | omega) (by decide)
  have Fs5 := fm_C (i := (0 : Int).toNat) (x := Int32.ofInt 0) Fs4 (show 51 ∈ _ by decide)
  rw [← hs5] at Fs5
  have ws5_32 : iI s5 32 = iI s4 32 := by rw [hs5]; rfl
  have ws5_35 : iI s5 35 = iI s4 35 := by rw [hs5]; rfl
  have vs5 : iC s5 51 (0 : Int).toNat = 0 := by rw [hs5]; exact iC_u (by decide)
  refine z_const X (show cdA 51 18 = some (.iconst 0, 1, 0, 0, 0) from rfl) ?_
  refine z_store_n X (lv' := [(2, .int (Int32.ofInt 0)), (0, .ref (A 54)), (1, .int (Int32.ofInt x))]) (show cdA 51 19 = some (.istore_n 2, 1, 0, 0, 0) from rfl) (by decide) (fun _ h => h) ?_
  refine WS_lv (lv := [(0, .ref (A 54)), (1, .int (Int32.ofInt x)), (2, .int (Int32.ofInt 0))]) (List.forall_mem_cons.mpr ⟨(List.Mem.tail _ (List.Mem.head _)), (List.forall_mem_cons.mpr ⟨(List.Mem.tail _ (List.Mem.tail _ (List.Mem.head _))), (List.forall_mem_cons.mpr ⟨(List.Mem.head _), (fun q h => absurd h List.not_mem_nil)⟩)⟩)⟩) ?_
  refine L20 ((24 - 0 : Int).toNat + 1) s5 x 0 Is5 Fs5 (by first | exact ⟨And.intro (p0.1) (p0.2), by decide, by decide⟩ | omega) (Nat.lt_succ_self _) ?_
  intro s6 x7 Is6 Fs6 hs6
  have b8 : (0 : Int) ≤ iI s6 32 ∧ iI s6 32 ≤ 6 := Is6.1 32
  have b9 : (0 : Int) ≤ iI s6 35 ∧ iI s6 35 ≤ 23 := Is6.1 35
  refine z_aload_n X (x := A 54) (show cdA 51 87 = some (.aload_n 0, 1, 0, 0, 0) from rfl) (List.Mem.head _) ?_
  refine z_getI X 54 (show cdA 51 88 = some (.getfield 127, 3, 4, 12, 0) from rfl) (by decide) rfl rfl ?_
  have b10 : ((-2147483648) : Int) ≤ iI s6 34 ∧ iI s6 34 ≤ 2147483647 := Is6.1 34
  refine z_ldc X (show cdA 51 91 = some (.ldc 115, 2, 0, 0, 1000000) from rfl) ?_
  refine z_icmp_lt X (t := 98) (show cdA 51 93 = some (.if_icmp .lt 5, 3, 2, 0, 0) from rfl) (by decide) (rng_to _) (by decide) (fun g11 => ?_) (fun g11 => ?_)
  ·
    refine z_aload_n X (x := A 54) (show cdA 51 98 = some (.aload_n 0, 1, 0, 0, 0) from rfl) (List.Mem.head _) ?_
    refine z_getI X 54 (show cdA 51 99 = some (.getfield 130, 3, 4, 13, 0) from rfl) (by decide) rfl rfl ?_
    have b12 : (0 : Int) ≤ iI s6 35 ∧ iI s6 35 ≤ 23 := Is6.1 35
    refine z_store_n X (lv' := [(2, .int (Int32.ofInt (iI s6 35))), (0, .ref (A 54)), (1, .int (Int32.ofInt x))]) (show cdA 51 102 = some (.istore_n 2, 1, 0, 0, 0) from rfl) (by decide) (fun _ h => h) ?_
    refine z_aload_n X (x := A 54) (show cdA 51 103 = some (.aload_n 0, 1, 0, 0, 0) from rfl) (List.Mem.tail _ (List.Mem.head _)) ?_
    refine z_getI X 54 (show cdA 51 104 = some (.getfield 127, 3, 4, 12, 0) from rfl) (by decide) rfl rfl ?_
    have b13 : ((-2147483648) : Int) ≤ iI s6 34 ∧ iI s6 34 ≤ 2147483647 := Is6.1 34
    refine z_store_n X (lv' := [(3, .int (Int32.ofInt (iI s6 34))), (2, .int (Int32.ofInt (iI s6 35))), (0, .ref (A 54)), (1, .int (Int32.ofInt x))]) (show cdA 51 107 = some (.istore_n 3, 1, 0, 0, 0) from rfl) (by decide) (fun _ h => h) ?_
    refine z_const X (show cdA 51 108 = some (.iconst 1, 1, 0, 0, 0) from rfl) ?_
    refine z_store X (lv' := [(4, .int (Int32.ofInt 1)), (3, .int (Int32.ofInt (iI s6 34))), (2, .int (Int32.ofInt (iI s6 35))), (0, .ref (A 54)), (1, .int (Int32.ofInt x))]) (show cdA 51 109 = some (.istore 4, 2, 0, 0, 0) from rfl) (by decide) (fun _ h => h) ?_
    refine WS_lv (lv := [(0, .ref (A 54)), (2, .int (Int32.ofInt (iI s6 35))), (3, .int (Int32.ofInt (iI s6 34))), (4, .int (Int32.ofInt 1))]) (List.forall_mem_cons.mpr ⟨(List.Mem.tail _ (List.Mem.tail _ (List.Mem.tail _ (List.Mem.head _)))), (List.forall_mem_cons.mpr ⟨(List.Mem.tail _ (List.Mem.tail _ (List.Mem.head _))), (List.forall_mem_cons.mpr ⟨(List.Mem.tail _ (List.Mem.head _)), (List.forall_mem_cons.mpr ⟨(List.Mem.head _), (fun q h => absurd h List.not_mem_nil)⟩)⟩)⟩)⟩) ?_
    refine L111 ((24 - 1 : Int).toNat + 1) s6 (iI s6 35) (iI s6 34) 1 Is6 Fs6 (by first | exact ⟨And.intro (b12.1) (b12.2), And.intro (b13.1) (b13.2), by decide, by decide⟩ | omega) (Nat.lt_succ_self _) ?_
    intro s14 x15 x16 x17 Is14 Fs14 hs14
    have b18 : (0 : Int) ≤ iI s14 32 ∧ iI s14 32 ≤ 6 := Is14.1 32
    have b19 : (0 : Int) ≤ iI s14 35 ∧ iI s14 35 ≤ 23 := Is14.1 35
    refine z_const X (show cdA 51 178 = some (.iconst 1, 1, 0, 0, 0) from rfl) ?_
    exact w_iret X.1 q hRt (nar_ret (by first | exact Or.inr (by decide) | omega)) (ax_d X (show cdA 51 179 = some (.ireturn, 1, 0, 0, 0) from rfl)) (Nat.zero_le _) (Nat.zero_le _) ⟨_, rfl, Is14, Fs14, 1, rfl, (by decide), by first | exact Or.inr (by decide) | omega⟩
  ·
    refine z_const X (show cdA 51 96 = some (.iconst 0, 1, 0, 0, 0) from rfl) ?_
    exact w_iret X.1 q hRt (nar_ret (by first | exact Or.inl (by decide) | omega)) (ax_d X (show cdA 51 97 = some (.ireturn, 1, 0, 0, 0) from rfl)) (Nat.zero_le _) (Nat.zero_le _) ⟨_, rfl, Is6, Fs6, 0, rfl, (by decide), by first | exact Or.inl (by decide) | omega⟩
set_option maxRecDepth 4000 in
theorem c4_solve_54 (G : GX l s0 D tys a0 dT) (I : Bd s) {x : Int} (p0 : 0 ≤ x ∧ x ≤ 23) (p1 : iI s 12 ≤ 8) : CT l s0 D A dT 48 (rmN 48) [.ref (A 54), .int (Int32.ofInt x)] s (fun o t => Bd t ∧ Fm [22, 23, 24, 34, 35] [33, 26, 27, 28, 29, 30, 31, 32, 20, 48, 47, 49, 50, 51] s t ∧ ∃ e, o = .inl (some (.int (Int32.ofInt e))) ∧ rng e ∧ (e = 0 ∨ e = 1)) := by
  refine ct_ofX G (by decide) (Nat.le_of_ble_eq_true rfl) (fun k X E ET hRt hXt q => ?_)
  show WS k 0 [(0, .ref (A 54)), (1, .int (Int32.ofInt x))] [] _ 0 0
  have F : Fm [22, 23, 24, 34, 35] [33, 26, 27, 28, 29, 30, 31, 32, 20, 48, 47, 49, 50, 51] s s := fm_rf _ _ s
  have b1 : (0 : Int) ≤ iI s 32 ∧ iI s 32 ≤ 6 := I.1 32
  have b2 : (0 : Int) ≤ iI s 12 ∧ iI s 12 ≤ 9 := I.1 12
  have L2 : ∀ (n : Nat) (t : PS) (xv c : Int), Bd t → Fm [22, 23, 24, 34, 35] [33, 26, 27, 28, 29, 30, 31, 32, 20, 48, 47, 49, 50, 51] s t → ((0 ≤ xv ∧ xv ≤ 23) ∧ 0 ≤ c ∧ c ≤ 6 ∧ iI t 12 ≤ 8) → (6 - c : Int).toNat < n → (∀ (t' : PS) (c' : Int), Bd t' → Fm [22, 23, 24, 34, 35] [33, 26, 27, 28, 29, 30, 31, 32, 20, 48, 47, 49, 50, 51] s t' → ((0 ≤ xv ∧ xv ≤ 23) ∧ 0 ≤ c' ∧ c' ≤ 6 ∧ iI t' 12 ≤ 8) → WS k 21 [(0, .ref (A 54)), (1, .int (Int32.ofInt xv)), (2, .int (Int32.ofInt c'))] [] (Wd A dT t') 0 0) → WS k 2 [(0, .ref (A 54)), (1, .int (Int32.ofInt xv)), (2, .int (Int32.ofInt c))] [] (Wd A dT t) 0 0 := by
    intro n
    induction n with
    | zero =>
      intro t xv c I F hi hm kx
      exact absurd hm (Nat.not_lt_zero _)
    | succ n ih =>
      intro t xv c I F hi hm kx
      have b1001 : (0 : Int) ≤ iI t 32 ∧ iI t 32 ≤ 6 := I.1 32
      have b1002 : (0 : Int) ≤ iI t 12 ∧ iI t 12 ≤ 9 := I.1 12
      refine z_load_n X (x := c) (show cdA 48 2 = some (.iload_n 2, 1, 0, 0, 0) from rfl) (List.Mem.tail _ (List.Mem.tail _ (List.Mem.head _))) ?_
      refine z_aload_n X (x := A 54) (show cdA 48 3 = some (.aload_n 0, 1, 0, 0, 0) from rfl) (List.Mem.head _) ?_
      refine z_getI X 54 (show cdA 48 4 = some (.getfield 51, 3, 4, 5, 0) from rfl) (by decide) rfl rfl ?_
      have b1003 : (0 : Int) ≤ iI t 32 ∧ iI t 32 ≤ 6 := I.1 32
      refine z_icmp_ge X (t := 21) (show cdA 48 7 = some (.if_icmp .ge 14, 3, 3, 0, 0) from rfl) (by decide) ⟨by first | exact oq_fa4e5087 hi.2.1 | omega, by first | exact oq_b301c3bf hi.2.2.1 | omega⟩ (rng_to _) (fun g1004 => ?_) (fun g1004 => ?_)
      ·
        refine WS_lv (lv := [(0, .ref (A 54)), (1, .int (Int32.ofInt xv)), (2, .int (Int32.ofInt c))]) (List.forall_mem_cons.mpr ⟨(List.Mem.head _), (List.forall_mem_cons.mpr ⟨(List.Mem.tail _ (List.Mem.head _)), (List.forall_mem_cons.mpr ⟨(List.Mem.tail _ (List.Mem.tail _ (List.Mem.head _))), (fun q h => absurd h List.not_mem_nil)⟩)⟩)⟩) ?_
        exact kx _ c I F (by first | exact ⟨And.intro (hi.1.1) (hi.1.2), hi.2.1, hi.2.2.1, hi.2.2.2⟩ | omega)
      ·
        refine z_aload_n X (x := A 54) (show cdA 48 10 = some (.aload_n 0, 1, 0, 0, 0) from rfl) (List.Mem.head _) ?_
        refine z_load_n X (x := c) (show cdA 48 11 = some (.iload_n 2, 1, 0, 0, 0) from rfl) (List.Mem.tail _ (List.Mem.tail _ (List.Mem.head _))) ?_
        refine z_callV X 54 (rm := rmN 45) (As := [.int (Int32.ofInt c)]) (st := []) (show cdA 48 12 = some (.invokevirtual 104, 3, 45, 0, 0) from rfl) rfl (by decide) rfl (by rw [E.1, E.2.1, E.2.2.1]; exact c4_judge_54 G I (by first | exact ⟨hi.2.1, oq_4af6a0a9 g1004 b1003.2⟩ | omega) (by first | exact hi.2.2.2 | omega)) ⟨by rw [E.2.2.2]; exact (show (rmN 45).frames + 1 ≤ (rmN 48).frames by decide), by rw [E.2.2.2]; exact (show 8 + (mNL (miB 45) + 11) + (rmN 45).locals ≤ (rmN 48).locals by decide), by rw [E.2.2.2]; exact (show 0 + (rmN 45).cells ≤ (rmN 48).cells by decide), by rw [E.2.2.2]; exact (show 0 + (rmN 45).slots ≤ (rmN 48).slots by decide)⟩ (Nat.le_of_ble_eq_true rfl) (fun vv s1005 hq => ?_) (fun ee s1005 hq => ?_)
        rotate_left
        · obtain ⟨Is1005, Fs1005, hv, hps1005⟩ := hq; cases hv
        obtain ⟨Is1005, Fs1005, hv, hps1005⟩ := hq
        cases hv
        have Gs1005 := fm_ts F Fs1005 (by decide) (by decide)
        have ws1005_32 : iI s1005 32 = iI t 32 := fm_i Fs1005 (by decide)
        have ws1005_12 : iI s1005 12 = iI t 12 := fm_i Fs1005 (by decide)
        show WS k 15 [(0, .ref (A 54)), (1, .int (Int32.ofInt xv)), (2, .int (Int32.ofInt c))] [] (Wd A dT s1005) 0 0
        refine z_inc X (x := c) (lv' := [(2, .int (Int32.ofInt (c + 1))), (0, .ref (A 54)), (1, .int (Int32.ofInt xv))]) (show cdA 48 15 = some (.iinc 2 1, 3, 0, 0, 0) from rfl) (by decide) (List.Mem.tail _ (List.Mem.tail _ (List.Mem.head _))) (fun _ h => h) ?_
        refine z_goto X (t := 2) (show cdA 48 18 = some (.goto (-16), 3, 0, 0, 0) from rfl) (by decide) ?_
        refine WS_lv (lv := [(0, .ref (A 54)), (1, .int (Int32.ofInt xv)), (2, .int (Int32.ofInt (c + 1)))]) (List.forall_mem_cons.mpr ⟨(List.Mem.tail _ (List.Mem.head _)), (List.forall_mem_cons.mpr ⟨(List.Mem.tail _ (List.Mem.tail _ (List.Mem.head _))), (List.forall_mem_cons.mpr ⟨(List.Mem.head _), (fun q h => absurd h List.not_mem_nil)⟩)⟩)⟩) ?_
        exact ih _ xv (c + 1) Is1005 Gs1005 (by first | exact ⟨And.intro (hi.1.1) (hi.1.2), oq_54f49eb5 hi.2.1, oq_d2f4feca g1004 b1003.2, oq_86ef0b17 ws1005_12 hi.2.2.2⟩ | omega) (by first | exact qk_me hm (by decide) (oq_4619bacb g1004 b1003.2) | omega) kx
  have L45 : ∀ (n : Nat) (t : PS) (xv qq c kk : Int), Bd t → Fm [22, 23, 24, 34, 35] [33, 26, 27, 28, 29, 30, 31, 32, 20, 48, 47, 49, 50, 51] s t → ((0 ≤ xv ∧ xv ≤ 23) ∧ (0 ≤ qq ∧ qq ≤ 23) ∧ (0 ≤ c ∧ c ≤ 5) ∧ 0 ≤ kk ∧ kk ≤ 24) → (24 - kk : Int).toNat < n → (∀ (t' : PS) (kk' : Int), Bd t' → Fm [22, 23, 24, 34, 35] [33, 26, 27, 28, 29, 30, 31, 32, 20, 48, 47, 49, 50, 51] s t' → ((0 ≤ xv ∧ xv ≤ 23) ∧ (0 ≤ qq ∧ qq ≤ 23) ∧ (0 ≤ c ∧ c ≤ 5) ∧ 0 ≤ kk' ∧ kk' ≤ 24) → WS k 119 [(0, .ref (A 54)), (1, .int (Int32.ofInt xv)), (2, .int (Int32.ofInt qq)), (3, .int (Int32.ofInt c)), (4, .int (Int32.ofInt kk'))] [] (Wd A dT t') 0 0) → WS k 45 [(0, .ref (A 54)), (1, .int (Int32.ofInt xv)), (2, .int (Int32.ofInt qq)), (3, .int (Int32.ofInt c)), (4, .int (Int32.ofInt kk))] [] (Wd A dT t) 0 0 := by
    intro n
    induction n with
    | zero =>
      intro t xv qq c kk I F hi hm kx
      exact absurd hm (Nat.not_lt_zero _)
    | succ n ih =>
      intro t xv qq c kk I F hi hm kx
      have b2001 : (0 : Int) ≤ iI t 32 ∧ iI t 32 ≤ 6 := I.1 32
      have b2002 : (0 : Int) ≤ iI t 12 ∧ iI t 12 ≤ 9 := I.1 12
      refine z_load X (x := kk) (show cdA 48 45 = some (.iload 4, 2, 0, 0, 0) from rfl) (List.Mem.tail _ (List.Mem.tail _ (List.Mem.tail _ (List.Mem.tail _ (List.Mem.head _))))) ?_
      refine z_load_n X (x := xv) (show cdA 48 47 = some (.iload_n 1, 1, 0, 0, 0) from rfl) (List.Mem.tail _ (List.Mem.head _)) ?_
      refine z_icmp_gt X (t := 119) (show cdA 48 48 = some (.if_icmp .gt 71, 3, 4, 0, 0) from rfl) (by decide) ⟨by first | exact oq_fa4e5087 hi.2.2.2.1 | omega, by first | exact oq_5bcd337f hi.2.2.2.2 | omega⟩ ⟨by first | exact oq_fa4e5087 hi.1.1 | omega, by first | exact oq_1a42ef34 hi.1.2 | omega⟩ (fun g2003 => ?_) (fun g2003 => ?_)
      ·
        refine WS_lv (lv := [(0, .ref (A 54)), (1, .int (Int32.ofInt xv)), (2, .int (Int32.ofInt qq)), (3, .int (Int32.ofInt c)), (4, .int (Int32.ofInt kk))]) (List.forall_mem_cons.mpr ⟨(List.Mem.head _), (List.forall_mem_cons.mpr ⟨(List.Mem.tail _ (List.Mem.head _)), (List.forall_mem_cons.mpr ⟨(List.Mem.tail _ (List.Mem.tail _ (List.Mem.head _))), (List.forall_mem_cons.mpr ⟨(List.Mem.tail _ (List.Mem.tail _ (List.Mem.tail _ (List.Mem.head _)))), (List.forall_mem_cons.mpr ⟨(List.Mem.tail _ (List.Mem.tail _ (List.Mem.tail _ (List.Mem.tail _ (List.Mem.head _))))), (fun q h => absurd h List.not_mem_nil)⟩)⟩)⟩)⟩)⟩) ?_
        exact kx _ kk I F (by first | exact ⟨And.intro (hi.1.1) (hi.1.2), And.intro (hi.2.1.1) (hi.2.1.2), And.intro (hi.2.2.1.1) (hi.2.2.1.2), hi.2.2.2.1, hi.2.2.2.2⟩ | omega)
      ·
        refine z_aload_n X (x := A 54) (show cdA 48 51 = some (.aload_n 0, 1, 0, 0, 0) from rfl) (List.Mem.head _) ?_
        refine s_getR X 54 (show cdA 48 52 = some (.getfield 22, 3, 4, 8, 0) from rfl) (by decide) rfl rfl ?_
        refine z_load_n X (x := c) (show cdA 48 55 = some (.iload_n 3, 1, 0, 0, 0) from rfl) (List.Mem.tail _ (List.Mem.tail _ (List.Mem.tail _ (List.Mem.head _)))) ?_
        refine z_bipush X (show cdA 48 56 = some (.bipush 24, 2, 0, 0, 24) from rfl) ?_
        refine z_mul X (show cdA 48 58 = some (.imul, 1, 0, 0, 0) from rfl) ?_
        refine z_load_n X (x := qq) (show cdA 48 59 = some (.iload_n 2, 1, 0, 0, 0) from rfl) (List.Mem.tail _ (List.Mem.tail _ (List.Mem.head _))) ?_
        refine z_add X (show cdA 48 60 = some (.iadd, 1, 0, 0, 0) from rfl) ?_
        refine z_zald X 57 (show cdA 48 61 = some (.baload, 1, 0, 0, 0) from rfl) (by decide) rfl (by first | exact oq_4071a75f hi.2.2.1.1 hi.2.1.1 | omega) (show ((c * 24) + qq) < 144 by first | exact oq_ceab338e hi.2.2.1.2 hi.2.1.2 | omega) (by decide) ?_
        have b2004 : (0 : Int) ≤ iC t 48 (((c * 24) + qq)).toNat ∧ iC t 48 (((c * 24) + qq)).toNat ≤ 1 := I.2 48 _ (show (((c * 24) + qq)).toNat < 144 by first | exact oq_ab7254e1 hi.2.2.1.2 hi.2.1.2 | omega)
        refine z_if_eq X (t := 76) (show cdA 48 62 = some (.ifCond .eq 14, 3, 0, 0, 0) from rfl) (by decide) (rng_to _) (fun g2005 => ?_) (fun g2005 => ?_)
        ·
          refine z_ldc X (show cdA 48 76 = some (.ldc 115, 2, 0, 0, 1000000) from rfl) ?_
          refine z_store X (lv' := [(5, .int (Int32.ofInt 1000000)), (0, .ref (A 54)), (1, .int (Int32.ofInt xv)), (2, .int (Int32.ofInt qq)), (3, .int (Int32.ofInt c)), (4, .int (Int32.ofInt kk))]) (show cdA 48 78 = some (.istore 5, 2, 0, 0, 0) from rfl) (by decide) (fun _ h => h) ?_
          refine z_aload_n X (x := A 54) (show cdA 48 80 = some (.aload_n 0, 1, 0, 0, 0) from rfl) (List.Mem.tail _ (List.Mem.head _)) ?_
          refine s_getR X 54 (show cdA 48 81 = some (.getfield 29, 3, 4, 10, 0) from rfl) (by decide) rfl rfl ?_
          refine z_load_n X (x := qq) (show cdA 48 84 = some (.iload_n 2, 1, 0, 0, 0) from rfl) (List.Mem.tail _ (List.Mem.tail _ (List.Mem.tail _ (List.Mem.head _)))) ?_
          refine z_load_n X (x := c) (show cdA 48 85 = some (.iload_n 3, 1, 0, 0, 0) from rfl) (List.Mem.tail _ (List.Mem.tail _ (List.Mem.tail _ (List.Mem.tail _ (List.Mem.head _))))) ?_
          refine z_load X (x := kk) (show cdA 48 86 = some (.iload 4, 2, 0, 0, 0) from rfl) (List.Mem.tail _ (List.Mem.tail _ (List.Mem.tail _ (List.Mem.tail _ (List.Mem.tail _ (List.Mem.head _)))))) ?_
          refine z_callS X (rm := rmN 49) (As := [.int (Int32.ofInt qq), .int (Int32.ofInt c), .int (Int32.ofInt kk)]) (st := [.ref (A 59)]) (show cdA 48 88 = some (.invokestatic 116, 3, 49, 1, 0) from rfl) rfl (by rw [E.1, E.2.1, E.2.2.1]; exact c4_placeOf G I (by first | exact ⟨hi.2.1.1, hi.2.1.2⟩ | omega) (by first | exact ⟨hi.2.2.1.1, hi.2.2.1.2⟩ | omega) (by first | exact ⟨hi.2.2.2.1, oq_943835ba g2003 hi.1.2⟩ | omega)) ⟨by rw [E.2.2.2]; exact (show (rmN 49).frames + 1 ≤ (rmN 48).frames by decide), by rw [E.2.2.2]; exact (show 8 + (mNL (miB 49) + 11) + (rmN 49).locals ≤ (rmN 48).locals by decide), by rw [E.2.2.2]; exact (show 0 + (rmN 49).cells ≤ (rmN 48).cells by decide), by rw [E.2.2.2]; exact (show 0 + (rmN 49).slots ≤ (rmN 48).slots by decide)⟩ (Nat.le_of_ble_eq_true rfl) (fun vv s2006 hq => ?_) (fun ee s2006 hq => ?_)
          rotate_left
          · obtain ⟨rfl, e2007, hv, hrs2006, hps2006⟩ := hq; cases hv
          obtain ⟨rfl, e2007, hv, hrs2006, hps2006⟩ := hq
          cases hv
          show WS k 91 [(5, .int (Int32.ofInt 1000000)), (0, .ref (A 54)), (1, .int (Int32.ofInt xv)), (2, .int (Int32.ofInt qq)), (3, .int (Int32.ofInt c)), (4, .int (Int32.ofInt kk))] [.int (Int32.ofInt e2007), .ref (A 59)] (Wd A dT t) 0 0
          refine z_load X (x := 1000000) (show cdA 48 91 = some (.iload 5, 2, 0, 0, 0) from rfl) (List.Mem.head _) ?_
          refine z_ldc X (show cdA 48 93 = some (.ldc 115, 2, 0, 0, 1000000) from rfl) ?_
          refine z_icmp_lt X (t := 103) (show cdA 48 95 = some (.if_icmp .lt 8, 3, 2, 0, 0) from rfl) (by decide) (by decide) (by decide) (fun g2008 => ?_) (fun g2008 => ?_)
          ·
            refine z_aload_n X (x := A 54) (show cdA 48 103 = some (.aload_n 0, 1, 0, 0, 0) from rfl) (List.Mem.tail _ (List.Mem.head _)) ?_
            refine s_getR X 54 (show cdA 48 104 = some (.getfield 19, 3, 4, 7, 0) from rfl) (by decide) rfl rfl ?_
            refine z_load_n X (x := c) (show cdA 48 107 = some (.iload_n 3, 1, 0, 0, 0) from rfl) (List.Mem.tail _ (List.Mem.tail _ (List.Mem.tail _ (List.Mem.tail _ (List.Mem.head _))))) ?_
            refine z_ald X 56 (show cdA 48 108 = some (.iaload, 1, 0, 0, 0) from rfl) (by decide) rfl (by first | exact hi.2.2.1.1 | omega) (show c < 6 by first | exact oq_9207f8f8 hi.2.2.1.2 | omega) (by decide) ?_
            have b2009 : ((-2147483648) : Int) ≤ iC t 47 (c).toNat ∧ iC t 47 (c).toNat ≤ 2147483647 := I.2 47 _ (show (c).toNat < 6 by first | exact oq_78f9cd89 hi.2.2.1.2 | omega)
            refine z_load X (x := 1000000) (show cdA 48 109 = some (.iload 5, 2, 0, 0, 0) from rfl) (List.Mem.head _) ?_
            refine z_add X (show cdA 48 111 = some (.iadd, 1, 0, 0, 0) from rfl) ?_
            refine z_any (fun y2010 hy2010 => ?_)
            refine z_ast X 59 (show cdA 48 112 = some (.iastore, 1, 0, 0, 0) from rfl) (by decide) rfl (by first | exact oq_90ac6b8d hps2006 hi.2.1.1 hi.2.2.1.1 hi.2.2.2.1 | omega) (show e2007 < 3456 by first | exact oq_9a142767 hps2006 hi.2.1.2 hi.2.2.1.2 g2003 hi.1.2 | omega) (by decide) ?_
            obtain ⟨s2011, hs2011⟩ : ∃ x0, x0 = uC t 50 (e2007).toNat (Int32.ofInt y2010) := ⟨_, rfl⟩
            rw [← hs2011]
            have Is2011 : Bd s2011 := by rw [hs2011]; exact bd_C I (show ((-2147483648) : Int) ≤ y2010 ∧ y2010 ≤ 2147483647 by first | exact ⟨hy2010.1, hy2010.2⟩ | omega) hy2010
            have Fs2011 := fm_C (i := (e2007).toNat) (x := Int32.ofInt y2010) F (show 50 ∈ _ by decide)
            rw [← hs2011] at Fs2011
            have ws2011_32 : iI s2011 32 = iI t 32 := by rw [hs2011]; rfl
            have ws2011_12 : iI s2011 12 = iI t 12 := by rw [hs2011]; rfl
            refine z_inc X (x := kk) (lv' := [(4, .int (Int32.ofInt (kk + 1))), (5, .int (Int32.ofInt 1000000)), (0, .ref (A 54)), (1, .int (Int32.ofInt xv)), (2, .int (Int32.ofInt qq)), (3, .int (Int32.ofInt c))]) (show cdA 48 113 = some (.iinc 4 1, 3, 0, 0, 0) from rfl) (by decide) (List.Mem.tail _ (List.Mem.tail _ (List.Mem.tail _ (List.Mem.tail _ (List.Mem.tail _ (List.Mem.head _)))))) (fun _ h => h) ?_
            refine z_goto X (t := 45) (show cdA 48 116 = some (.goto (-71), 3, 0, 0, 0) from rfl) (by decide) ?_
            refine WS_lv (lv := [(0, .ref (A 54)), (1, .int (Int32.ofInt xv)), (2, .int (Int32.ofInt qq)), (3, .int (Int32.ofInt c)), (4, .int (Int32.ofInt (kk + 1)))]) (List.forall_mem_cons.mpr ⟨(List.Mem.tail _ (List.Mem.tail _ (List.Mem.head _))), (List.forall_mem_cons.mpr ⟨(List.Mem.tail _ (List.Mem.tail _ (List.Mem.tail _ (List.Mem.head _)))), (List.forall_mem_cons.mpr ⟨(List.Mem.tail _ (List.Mem.tail _ (List.Mem.tail _ (List.Mem.tail _ (List.Mem.head _))))), (List.forall_mem_cons.mpr ⟨(List.Mem.tail _ (List.Mem.tail _ (List.Mem.tail _ (List.Mem.tail _ (List.Mem.tail _ (List.Mem.head _)))))), (List.forall_mem_cons.mpr ⟨(List.Mem.head _), (fun q h => absurd h List.not_mem_nil)⟩)⟩)⟩)⟩)⟩) ?_
            exact ih _ xv qq c (kk + 1) Is2011 Fs2011 (by first | exact ⟨And.intro (hi.1.1) (hi.1.2), And.intro (hi.2.1.1) (hi.2.1.2), And.intro (hi.2.2.1.1) (hi.2.2.1.2), oq_54f49eb5 hi.2.2.2.1, oq_3f5436dc g2003 hi.1.2⟩ | omega) (by first | exact qk_me hm (by decide) (oq_416f5e90 g2003 hi.1.2) | omega) kx
          ·
            refine z_ldc X (show cdA 48 98 = some (.ldc 115, 2, 0, 0, 1000000) from rfl) ?_
            refine z_goto X (t := 112) (show cdA 48 100 = some (.goto 12, 3, 0, 0, 0) from rfl) (by decide) ?_
            refine z_ast X 59 (show cdA 48 112 = some (.iastore, 1, 0, 0, 0) from rfl) (by decide) rfl (by first | exact oq_90ac6b8d hps2006 hi.2.1.1 hi.2.2.1.1 hi.2.2.2.1 | omega) (show e2007 < 3456 by first | exact oq_9a142767 hps2006 hi.2.1.2 hi.2.2.1.2 g2003 hi.1.2 | omega) (by decide) ?_
            obtain ⟨s2012, hs2012⟩ : ∃ x0, x0 = uC t 50 (e2007).toNat (Int32.ofInt 1000000) := ⟨_, rfl⟩
            rw [← hs2012]
            have Is2012 : Bd s2012 := by rw [hs2012]; exact bd_C I (show ((-2147483648) : Int) ≤ 1000000 ∧ 1000000 ≤ 2147483647 by first | exact ⟨by decide, by decide⟩ | omega) (by decide)
            have Fs2012 := fm_C (i := (e2007).toNat) (x := Int32.ofInt 1000000) F (show 50 ∈ _ by decide)
            rw [← hs2012] at Fs2012
            have ws2012_32 : iI s2012 32 = iI t 32 := by rw [hs2012]; rfl
            have ws2012_12 : iI s2012 12 = iI t 12 := by rw [hs2012]; rfl
            refine z_inc X (x := kk) (lv' := [(4, .int (Int32.ofInt (kk + 1))), (5, .int (Int32.ofInt 1000000)), (0, .ref (A 54)), (1, .int (Int32.ofInt xv)), (2, .int (Int32.ofInt qq)), (3, .int (Int32.ofInt c))]) (show cdA 48 113 = some (.iinc 4 1, 3, 0, 0, 0) from rfl) (by decide) (List.Mem.tail _ (List.Mem.tail _ (List.Mem.tail _ (List.Mem.tail _ (List.Mem.tail _ (List.Mem.head _)))))) (fun _ h => h) ?_
            refine z_goto X (t := 45) (show cdA 48 116 = some (.goto (-71), 3, 0, 0, 0) from rfl) (by decide) ?_
            refine WS_lv (lv := [(0, .ref (A 54)), (1, .int (Int32.ofInt xv)), (2, .int (Int32.ofInt qq)), (3, .int (Int32.ofInt c)), (4, .int (Int32.ofInt (kk + 1)))]) (List.forall_mem_cons.mpr ⟨(List.Mem.tail _ (List.Mem.tail _ (List.Mem.head _))), (List.forall_mem_cons.mpr ⟨(List.Mem.tail _ (List.Mem.tail _ (List.Mem.tail _ (List.Mem.head _)))), (List.forall_mem_cons.mpr ⟨(List.Mem.tail _ (List.Mem.tail _ (List.Mem.tail _ (List.Mem.tail _ (List.Mem.head _))))), (List.forall_mem_cons.mpr ⟨(List.Mem.tail _ (List.Mem.tail _ (List.Mem.tail _ (List.Mem.tail _ (List.Mem.tail _ (List.Mem.head _)))))), (List.forall_mem_cons.mpr ⟨(List.Mem.head _), (fun q h => absurd h List.not_mem_nil)⟩)⟩)⟩)⟩)⟩) ?_
            exact ih _ xv qq c (kk + 1) Is2012 Fs2012 (by first | exact ⟨And.intro (hi.1.1) (hi.1.2), And.intro (hi.2.1.1) (hi.2.1.2), And.intro (hi.2.2.1.1) (hi.2.2.1.2), oq_54f49eb5 hi.2.2.2.1, oq_3f5436dc g2003 hi.1.2⟩ | omega) (by first | exact qk_me hm (by decide) (oq_416f5e90 g2003 hi.1.2) | omega) kx
        ·
          refine z_aload_n X (x := A 54) (show cdA 48 65 = some (.aload_n 0, 1, 0, 0, 0) from rfl) (List.Mem.head _) ?_
          refine z_load_n X (x := qq) (show cdA 48 66 = some (.iload_n 2, 1, 0, 0, 0) from rfl) (List.Mem.tail _ (List.Mem.tail _ (List.Mem.head _))) ?_
          refine z_load_n X (x := c) (show cdA 48 67 = some (.iload_n 3, 1, 0, 0, 0) from rfl) (List.Mem.tail _ (List.Mem.tail _ (List.Mem.tail _ (List.Mem.head _)))) ?_
          refine z_load X (x := kk) (show cdA 48 68 = some (.iload 4, 2, 0, 0, 0) from rfl) (List.Mem.tail _ (List.Mem.tail _ (List.Mem.tail _ (List.Mem.tail _ (List.Mem.head _))))) ?_
          refine z_callV X 54 (rm := rmN 50) (As := [.int (Int32.ofInt qq), .int (Int32.ofInt c), .int (Int32.ofInt kk)]) (st := []) (show cdA 48 70 = some (.invokevirtual 111, 3, 50, 0, 0) from rfl) rfl (by decide) rfl (by rw [E.1, E.2.1, E.2.2.1]; exact c4_fewestBehind_54 G I (by first | exact ⟨hi.2.1.1, hi.2.1.2⟩ | omega) (by first | exact ⟨hi.2.2.1.1, hi.2.2.1.2⟩ | omega) (by first | exact ⟨hi.2.2.2.1, oq_943835ba g2003 hi.1.2⟩ | omega)) ⟨by rw [E.2.2.2]; exact (show (rmN 50).frames + 1 ≤ (rmN 48).frames by decide), by rw [E.2.2.2]; exact (show 8 + (mNL (miB 50) + 11) + (rmN 50).locals ≤ (rmN 48).locals by decide), by rw [E.2.2.2]; exact (show 0 + (rmN 50).cells ≤ (rmN 48).cells by decide), by rw [E.2.2.2]; exact (show 0 + (rmN 50).slots ≤ (rmN 48).slots by decide)⟩ (Nat.le_of_ble_eq_true rfl) (fun vv s2013 hq => ?_) (fun ee s2013 hq => ?_)
          rotate_left
          · obtain ⟨Is2013, Fs2013, e2014, hv, hrs2013, hps2013⟩ := hq; cases hv
          obtain ⟨Is2013, Fs2013, e2014, hv, hrs2013, hps2013⟩ := hq
          cases hv
          have Gs2013 := fm_ts F Fs2013 (by decide) (by decide)
          have ws2013_32 : iI s2013 32 = iI t 32 := fm_i Fs2013 (by decide)
          have ws2013_12 : iI s2013 12 = iI t 12 := fm_i Fs2013 (by decide)
          show WS k 73 [(0, .ref (A 54)), (1, .int (Int32.ofInt xv)), (2, .int (Int32.ofInt qq)), (3, .int (Int32.ofInt c)), (4, .int (Int32.ofInt kk))] [.int (Int32.ofInt e2014)] (Wd A dT s2013) 0 0
          refine z_goto X (t := 78) (show cdA 48 73 = some (.goto 5, 3, 0, 0, 0) from rfl) (by decide) ?_
          refine z_store X (lv' := [(5, .int (Int32.ofInt e2014)), (0, .ref (A 54)), (1, .int (Int32.ofInt xv)), (2, .int (Int32.ofInt qq)), (3, .int (Int32.ofInt c)), (4, .int (Int32.ofInt kk))]) (show cdA 48 78 = some (.istore 5, 2, 0, 0, 0) from rfl) (by decide) (fun _ h => h) ?_
          refine z_aload_n X (x := A 54) (show cdA 48 80 = some (.aload_n 0, 1, 0, 0, 0) from rfl) (List.Mem.tail _ (List.Mem.head _)) ?_
          refine s_getR X 54 (show cdA 48 81 = some (.getfield 29, 3, 4, 10, 0) from rfl) (by decide) rfl rfl ?_
          refine z_load_n X (x := qq) (show cdA 48 84 = some (.iload_n 2, 1, 0, 0, 0) from rfl) (List.Mem.tail _ (List.Mem.tail _ (List.Mem.tail _ (List.Mem.head _)))) ?_
          refine z_load_n X (x := c) (show cdA 48 85 = some (.iload_n 3, 1, 0, 0, 0) from rfl) (List.Mem.tail _ (List.Mem.tail _ (List.Mem.tail _ (List.Mem.tail _ (List.Mem.head _))))) ?_
          refine z_load X (x := kk) (show cdA 48 86 = some (.iload 4, 2, 0, 0, 0) from rfl) (List.Mem.tail _ (List.Mem.tail _ (List.Mem.tail _ (List.Mem.tail _ (List.Mem.tail _ (List.Mem.head _)))))) ?_
          refine z_callS X (rm := rmN 49) (As := [.int (Int32.ofInt qq), .int (Int32.ofInt c), .int (Int32.ofInt kk)]) (st := [.ref (A 59)]) (show cdA 48 88 = some (.invokestatic 116, 3, 49, 1, 0) from rfl) rfl (by rw [E.1, E.2.1, E.2.2.1]; exact c4_placeOf G Is2013 (by first | exact ⟨hi.2.1.1, hi.2.1.2⟩ | omega) (by first | exact ⟨hi.2.2.1.1, hi.2.2.1.2⟩ | omega) (by first | exact ⟨hi.2.2.2.1, oq_943835ba g2003 hi.1.2⟩ | omega)) ⟨by rw [E.2.2.2]; exact (show (rmN 49).frames + 1 ≤ (rmN 48).frames by decide), by rw [E.2.2.2]; exact (show 8 + (mNL (miB 49) + 11) + (rmN 49).locals ≤ (rmN 48).locals by decide), by rw [E.2.2.2]; exact (show 0 + (rmN 49).cells ≤ (rmN 48).cells by decide), by rw [E.2.2.2]; exact (show 0 + (rmN 49).slots ≤ (rmN 48).slots by decide)⟩ (Nat.le_of_ble_eq_true rfl) (fun vv s2015 hq => ?_) (fun ee s2015 hq => ?_)
          rotate_left
          · obtain ⟨rfl, e2016, hv, hrs2015, hps2015⟩ := hq; cases hv
          obtain ⟨rfl, e2016, hv, hrs2015, hps2015⟩ := hq
          cases hv
          show WS k 91 [(5, .int (Int32.ofInt e2014)), (0, .ref (A 54)), (1, .int (Int32.ofInt xv)), (2, .int (Int32.ofInt qq)), (3, .int (Int32.ofInt c)), (4, .int (Int32.ofInt kk))] [.int (Int32.ofInt e2016), .ref (A 59)] (Wd A dT s2013) 0 0
          refine z_load X (x := e2014) (show cdA 48 91 = some (.iload 5, 2, 0, 0, 0) from rfl) (List.Mem.head _) ?_
          refine z_ldc X (show cdA 48 93 = some (.ldc 115, 2, 0, 0, 1000000) from rfl) ?_
          refine z_icmp_lt X (t := 103) (show cdA 48 95 = some (.if_icmp .lt 8, 3, 2, 0, 0) from rfl) (by decide) hrs2013 (by decide) (fun g2017 => ?_) (fun g2017 => ?_)
          ·
            refine z_aload_n X (x := A 54) (show cdA 48 103 = some (.aload_n 0, 1, 0, 0, 0) from rfl) (List.Mem.tail _ (List.Mem.head _)) ?_
            refine s_getR X 54 (show cdA 48 104 = some (.getfield 19, 3, 4, 7, 0) from rfl) (by decide) rfl rfl ?_
            refine z_load_n X (x := c) (show cdA 48 107 = some (.iload_n 3, 1, 0, 0, 0) from rfl) (List.Mem.tail _ (List.Mem.tail _ (List.Mem.tail _ (List.Mem.tail _ (List.Mem.head _))))) ?_
            refine z_ald X 56 (show cdA 48 108 = some (.iaload, 1, 0, 0, 0) from rfl) (by decide) rfl (by first | exact hi.2.2.1.1 | omega) (show c < 6 by first | exact oq_9207f8f8 hi.2.2.1.2 | omega) (by decide) ?_
            have b2018 : ((-2147483648) : Int) ≤ iC s2013 47 (c).toNat ∧ iC s2013 47 (c).toNat ≤ 2147483647 := Is2013.2 47 _ (show (c).toNat < 6 by first | exact oq_78f9cd89 hi.2.2.1.2 | omega)
            refine z_load X (x := e2014) (show cdA 48 109 = some (.iload 5, 2, 0, 0, 0) from rfl) (List.Mem.head _) ?_
            refine z_add X (show cdA 48 111 = some (.iadd, 1, 0, 0, 0) from rfl) ?_
            refine z_any (fun y2019 hy2019 => ?_)
            refine z_ast X 59 (show cdA 48 112 = some (.iastore, 1, 0, 0, 0) from rfl) (by decide) rfl (by first | exact oq_90ac6b8d hps2015 hi.2.1.1 hi.2.2.1.1 hi.2.2.2.1 | omega) (show e2016 < 3456 by first | exact oq_9a142767 hps2015 hi.2.1.2 hi.2.2.1.2 g2003 hi.1.2 | omega) (by decide) ?_
            obtain ⟨s2020, hs2020⟩ : ∃ x0, x0 = uC s2013 50 (e2016).toNat (Int32.ofInt y2019) := ⟨_, rfl⟩
            rw [← hs2020]
            have Is2020 : Bd s2020 := by rw [hs2020]; exact bd_C Is2013 (show ((-2147483648) : Int) ≤ y2019 ∧ y2019 ≤ 2147483647 by first | exact ⟨hy2019.1, hy2019.2⟩ | omega) hy2019
            have Fs2020 := fm_C (i := (e2016).toNat) (x := Int32.ofInt y2019) Gs2013 (show 50 ∈ _ by decide)
            rw [← hs2020] at Fs2020
            have ws2020_32 : iI s2020 32 = iI s2013 32 := by rw [hs2020]; rfl
            have ws2020_12 : iI s2020 12 = iI s2013 12 := by rw [hs2020]; rfl
            refine z_inc X (x := kk) (lv' := [(4, .int (Int32.ofInt (kk + 1))), (5, .int (Int32.ofInt e2014)), (0, .ref (A 54)), (1, .int (Int32.ofInt xv)), (2, .int (Int32.ofInt qq)), (3, .int (Int32.ofInt c))]) (show cdA 48 113 = some (.iinc 4 1, 3, 0, 0, 0) from rfl) (by decide) (List.Mem.tail _ (List.Mem.tail _ (List.Mem.tail _ (List.Mem.tail _ (List.Mem.tail _ (List.Mem.head _)))))) (fun _ h => h) ?_
            refine z_goto X (t := 45) (show cdA 48 116 = some (.goto (-71), 3, 0, 0, 0) from rfl) (by decide) ?_
            refine WS_lv (lv := [(0, .ref (A 54)), (1, .int (Int32.ofInt xv)), (2, .int (Int32.ofInt qq)), (3, .int (Int32.ofInt c)), (4, .int (Int32.ofInt (kk + 1)))]) (List.forall_mem_cons.mpr ⟨(List.Mem.tail _ (List.Mem.tail _ (List.Mem.head _))), (List.forall_mem_cons.mpr ⟨(List.Mem.tail _ (List.Mem.tail _ (List.Mem.tail _ (List.Mem.head _)))), (List.forall_mem_cons.mpr ⟨(List.Mem.tail _ (List.Mem.tail _ (List.Mem.tail _ (List.Mem.tail _ (List.Mem.head _))))), (List.forall_mem_cons.mpr ⟨(List.Mem.tail _ (List.Mem.tail _ (List.Mem.tail _ (List.Mem.tail _ (List.Mem.tail _ (List.Mem.head _)))))), (List.forall_mem_cons.mpr ⟨(List.Mem.head _), (fun q h => absurd h List.not_mem_nil)⟩)⟩)⟩)⟩)⟩) ?_
            exact ih _ xv qq c (kk + 1) Is2020 Fs2020 (by first | exact ⟨And.intro (hi.1.1) (hi.1.2), And.intro (hi.2.1.1) (hi.2.1.2), And.intro (hi.2.2.1.1) (hi.2.2.1.2), oq_54f49eb5 hi.2.2.2.1, oq_3f5436dc g2003 hi.1.2⟩ | omega) (by first | exact qk_me hm (by decide) (oq_416f5e90 g2003 hi.1.2) | omega) kx
          ·
            refine z_ldc X (show cdA 48 98 = some (.ldc 115, 2, 0, 0, 1000000) from rfl) ?_
            refine z_goto X (t := 112) (show cdA 48 100 = some (.goto 12, 3, 0, 0, 0) from rfl) (by decide) ?_
            refine z_ast X 59 (show cdA 48 112 = some (.iastore, 1, 0, 0, 0) from rfl) (by decide) rfl (by first | exact oq_90ac6b8d hps2015 hi.2.1.1 hi.2.2.1.1 hi.2.2.2.1 | omega) (show e2016 < 3456 by first | exact oq_9a142767 hps2015 hi.2.1.2 hi.2.2.1.2 g2003 hi.1.2 | omega) (by decide) ?_
            obtain ⟨s2021, hs2021⟩ : ∃ x0, x0 = uC s2013 50 (e2016).toNat (Int32.ofInt 1000000) := ⟨_, rfl⟩
            rw [← hs2021]
            have Is2021 : Bd s2021 := by rw [hs2021]; exact bd_C Is2013 (show ((-2147483648) : Int) ≤ 1000000 ∧ 1000000 ≤ 2147483647 by first | exact ⟨by decide, by decide⟩ | omega) (by decide)
            have Fs2021 := fm_C (i := (e2016).toNat) (x := Int32.ofInt 1000000) Gs2013 (show 50 ∈ _ by decide)
            rw [← hs2021] at Fs2021
            have ws2021_32 : iI s2021 32 = iI s2013 32 := by rw [hs2021]; rfl
            have ws2021_12 : iI s2021 12 = iI s2013 12 := by rw [hs2021]; rfl
            refine z_inc X (x := kk) (lv' := [(4, .int (Int32.ofInt (kk + 1))), (5, .int (Int32.ofInt e2014)), (0, .ref (A 54)), (1, .int (Int32.ofInt xv)), (2, .int (Int32.ofInt qq)), (3, .int (Int32.ofInt c))]) (show cdA 48 113 = some (.iinc 4 1, 3, 0, 0, 0) from rfl) (by decide) (List.Mem.tail _ (List.Mem.tail _ (List.Mem.tail _ (List.Mem.tail _ (List.Mem.tail _ (List.Mem.head _)))))) (fun _ h => h) ?_
            refine z_goto X (t := 45) (show cdA 48 116 = some (.goto (-71), 3, 0, 0, 0) from rfl) (by decide) ?_
            refine WS_lv (lv := [(0, .ref (A 54)), (1, .int (Int32.ofInt xv)), (2, .int (Int32.ofInt qq)), (3, .int (Int32.ofInt c)), (4, .int (Int32.ofInt (kk + 1)))]) (List.forall_mem_cons.mpr ⟨(List.Mem.tail _ (List.Mem.tail _ (List.Mem.head _))), (List.forall_mem_cons.mpr ⟨(List.Mem.tail _ (List.Mem.tail _ (List.Mem.tail _ (List.Mem.head _)))), (List.forall_mem_cons.mpr ⟨(List.Mem.tail _ (List.Mem.tail _ (List.Mem.tail _ (List.Mem.tail _ (List.Mem.head _))))), (List.forall_mem_cons.mpr ⟨(List.Mem.tail _ (List.Mem.tail _ (List.Mem.tail _ (List.Mem.tail _ (List.Mem.tail _ (List.Mem.head _)))))), (List.forall_mem_cons.mpr ⟨(List.Mem.head _), (fun q h => absurd h List.not_mem_nil)⟩)⟩)⟩)⟩)⟩) ?_
            exact ih _ xv qq c (kk + 1) Is2021 Fs2021 (by first | exact ⟨And.intro (hi.1.1) (hi.1.2), And.intro (hi.2.1.1) (hi.2.1.2), And.intro (hi.2.2.1.1) (hi.2.2.1.2), oq_54f49eb5 hi.2.2.2.1, oq_3f5436dc g2003 hi.1.2⟩ | omega) (by first | exact qk_me hm (by decide) (oq_416f5e90 g2003 hi.1.2) | omega) kx
  have L34 : ∀ (n : Nat) (t : PS) (xv qq c : Int), Bd t → Fm [22, 23, 24, 34, 35] [33, 26, 27, 28, 29, 30, 31, 32, 20, 48, 47, 49, 50, 51] s t → ((0 ≤ xv ∧ xv ≤ 23) ∧ (0 ≤ qq ∧ qq ≤ 23) ∧ 0 ≤ c ∧ c ≤ 6) → (6 - c : Int).toNat < n → (∀ (t' : PS) (c' : Int), Bd t' → Fm [22, 23, 24, 34, 35] [33, 26, 27, 28, 29, 30, 31, 32, 20, 48, 47, 49, 50, 51] s t' → ((0 ≤ xv ∧ xv ≤ 23) ∧ (0 ≤ qq ∧ qq ≤ 23) ∧ 0 ≤ c' ∧ c' ≤ 6) → WS k 125 [(0, .ref (A 54)), (1, .int (Int32.ofInt xv)), (2, .int (Int32.ofInt qq)), (3, .int (Int32.ofInt c'))] [] (Wd A dT t') 0 0) → WS k 34 [(0, .ref (A 54)), (1, .int (Int32.ofInt xv)), (2, .int (Int32.ofInt qq)), (3, .int (Int32.ofInt c))] [] (Wd A dT t) 0 0 := by
    intro n
    induction n with
    | zero =>
      intro t xv qq c I F hi hm kx
      exact absurd hm (Nat.not_lt_zero _)
    | succ n ih =>
      intro t xv qq c I F hi hm kx
      have b3001 : (0 : Int) ≤ iI t 32 ∧ iI t 32 ≤ 6 := I.1 32
      have b3002 : (0 : Int) ≤ iI t 12 ∧ iI t 12 ≤ 9 := I.1 12
      refine z_load_n X (x := c) (show cdA 48 34 = some (.iload_n 3, 1, 0, 0, 0) from rfl) (List.Mem.tail _ (List.Mem.tail _ (List.Mem.tail _ (List.Mem.head _)))) ?_
      refine z_aload_n X (x := A 54) (show cdA 48 35 = some (.aload_n 0, 1, 0, 0, 0) from rfl) (List.Mem.head _) ?_
      refine z_getI X 54 (show cdA 48 36 = some (.getfield 51, 3, 4, 5, 0) from rfl) (by decide) rfl rfl ?_
      have b3003 : (0 : Int) ≤ iI t 32 ∧ iI t 32 ≤ 6 := I.1 32
      refine z_icmp_ge X (t := 125) (show cdA 48 39 = some (.if_icmp .ge 86, 3, 3, 0, 0) from rfl) (by decide) ⟨by first | exact oq_fa4e5087 hi.2.2.1 | omega, by first | exact oq_b301c3bf hi.2.2.2 | omega⟩ (rng_to _) (fun g3004 => ?_) (fun g3004 => ?_)
      ·
        refine WS_lv (lv := [(0, .ref (A 54)), (1, .int (Int32.ofInt xv)), (2, .int (Int32.ofInt qq)), (3, .int (Int32.ofInt c))]) (List.forall_mem_cons.mpr ⟨(List.Mem.head _), (List.forall_mem_cons.mpr ⟨(List.Mem.tail _ (List.Mem.head _)), (List.forall_mem_cons.mpr ⟨(List.Mem.tail _ (List.Mem.tail _ (List.Mem.head _))), (List.forall_mem_cons.mpr ⟨(List.Mem.tail _ (List.Mem.tail _ (List.Mem.tail _ (List.Mem.head _)))), (fun q h => absurd h List.not_mem_nil)⟩)⟩)⟩)⟩) ?_
        exact kx _ c I F (by first | exact ⟨And.intro (hi.1.1) (hi.1.2), And.intro (hi.2.1.1) (hi.2.1.2), hi.2.2.1, hi.2.2.2⟩ | omega)
      ·
        refine z_const X (show cdA 48 42 = some (.iconst 0, 1, 0, 0, 0) from rfl) ?_
        refine z_store X (lv' := [(4, .int (Int32.ofInt 0)), (0, .ref (A 54)), (1, .int (Int32.ofInt xv)), (2, .int (Int32.ofInt qq)), (3, .int (Int32.ofInt c))]) (show cdA 48 43 = some (.istore 4, 2, 0, 0, 0) from rfl) (by decide) (fun _ h => h) ?_
        refine WS_lv (lv := [(0, .ref (A 54)), (1, .int (Int32.ofInt xv)), (2, .int (Int32.ofInt qq)), (3, .int (Int32.ofInt c)), (4, .int (Int32.ofInt 0))]) (List.forall_mem_cons.mpr ⟨(List.Mem.tail _ (List.Mem.head _)), (List.forall_mem_cons.mpr ⟨(List.Mem.tail _ (List.Mem.tail _ (List.Mem.head _))), (List.forall_mem_cons.mpr ⟨(List.Mem.tail _ (List.Mem.tail _ (List.Mem.tail _ (List.Mem.head _)))), (List.forall_mem_cons.mpr ⟨(List.Mem.tail _ (List.Mem.tail _ (List.Mem.tail _ (List.Mem.tail _ (List.Mem.head _))))), (List.forall_mem_cons.mpr ⟨(List.Mem.head _), (fun q h => absurd h List.not_mem_nil)⟩)⟩)⟩)⟩)⟩) ?_
        refine L45 ((24 - 0 : Int).toNat + 1) t xv qq c 0 I F (by first | exact ⟨And.intro (hi.1.1) (hi.1.2), And.intro (hi.2.1.1) (hi.2.1.2), And.intro (hi.2.2.1) (oq_4af6a0a9 g3004 b3003.2), by decide, by decide⟩ | omega) (Nat.lt_succ_self _) ?_
        intro s3005 x3006 Is3005 Fs3005 hs3005
        have b3007 : (0 : Int) ≤ iI s3005 32 ∧ iI s3005 32 ≤ 6 := Is3005.1 32
        have b3008 : (0 : Int) ≤ iI s3005 12 ∧ iI s3005 12 ≤ 9 := Is3005.1 12
        refine z_inc X (x := c) (lv' := [(3, .int (Int32.ofInt (c + 1))), (0, .ref (A 54)), (1, .int (Int32.ofInt xv)), (2, .int (Int32.ofInt qq)), (4, .int (Int32.ofInt x3006))]) (show cdA 48 119 = some (.iinc 3 1, 3, 0, 0, 0) from rfl) (by decide) (List.Mem.tail _ (List.Mem.tail _ (List.Mem.tail _ (List.Mem.head _)))) (fun _ h => h) ?_
        refine z_goto X (t := 34) (show cdA 48 122 = some (.goto (-88), 3, 0, 0, 0) from rfl) (by decide) ?_
        refine WS_lv (lv := [(0, .ref (A 54)), (1, .int (Int32.ofInt xv)), (2, .int (Int32.ofInt qq)), (3, .int (Int32.ofInt (c + 1)))]) (List.forall_mem_cons.mpr ⟨(List.Mem.tail _ (List.Mem.head _)), (List.forall_mem_cons.mpr ⟨(List.Mem.tail _ (List.Mem.tail _ (List.Mem.head _))), (List.forall_mem_cons.mpr ⟨(List.Mem.tail _ (List.Mem.tail _ (List.Mem.tail _ (List.Mem.head _)))), (List.forall_mem_cons.mpr ⟨(List.Mem.head _), (fun q h => absurd h List.not_mem_nil)⟩)⟩)⟩)⟩) ?_
        exact ih _ xv qq (c + 1) Is3005 Fs3005 (by first | exact ⟨And.intro (hs3005.1.1) (hs3005.1.2), And.intro (hs3005.2.1.1) (hs3005.2.1.2), oq_54f49eb5 hs3005.2.2.1.1, oq_470b4404 hs3005.2.2.1.2⟩ | omega) (by first | exact qk_me hm (by decide) (oq_58901df9 hs3005.2.2.1.2) | omega) kx
  have L28 : ∀ (n : Nat) (t : PS) (xv qq : Int), Bd t → Fm [22, 23, 24, 34, 35] [33, 26, 27, 28, 29, 30, 31, 32, 20, 48, 47, 49, 50, 51] s t → ((0 ≤ xv ∧ xv ≤ 23) ∧ -1 ≤ qq ∧ qq ≤ 23) → (qq + 1 : Int).toNat < n → (∀ (t' : PS) (qq' : Int), Bd t' → Fm [22, 23, 24, 34, 35] [33, 26, 27, 28, 29, 30, 31, 32, 20, 48, 47, 49, 50, 51] s t' → ((0 ≤ xv ∧ xv ≤ 23) ∧ -1 ≤ qq' ∧ qq' ≤ 23) → WS k 131 [(0, .ref (A 54)), (1, .int (Int32.ofInt xv)), (2, .int (Int32.ofInt qq'))] [] (Wd A dT t') 0 0) → WS k 28 [(0, .ref (A 54)), (1, .int (Int32.ofInt xv)), (2, .int (Int32.ofInt qq))] [] (Wd A dT t) 0 0 := by
    intro n
    induction n with
    | zero =>
      intro t xv qq I F hi hm kx
      exact absurd hm (Nat.not_lt_zero _)
    | succ n ih =>
      intro t xv qq I F hi hm kx
      have b4001 : (0 : Int) ≤ iI t 32 ∧ iI t 32 ≤ 6 := I.1 32
      have b4002 : (0 : Int) ≤ iI t 12 ∧ iI t 12 ≤ 9 := I.1 12
      refine z_load_n X (x := qq) (show cdA 48 28 = some (.iload_n 2, 1, 0, 0, 0) from rfl) (List.Mem.tail _ (List.Mem.tail _ (List.Mem.head _))) ?_
      refine z_if_lt X (t := 131) (show cdA 48 29 = some (.ifCond .lt 102, 3, 2, 0, 0) from rfl) (by decide) ⟨by first | exact oq_97ee2c2a hi.2.1 | omega, by first | exact oq_1a42ef34 hi.2.2 | omega⟩ (fun g4003 => ?_) (fun g4003 => ?_)
      ·
        refine WS_lv (lv := [(0, .ref (A 54)), (1, .int (Int32.ofInt xv)), (2, .int (Int32.ofInt qq))]) (List.forall_mem_cons.mpr ⟨(List.Mem.head _), (List.forall_mem_cons.mpr ⟨(List.Mem.tail _ (List.Mem.head _)), (List.forall_mem_cons.mpr ⟨(List.Mem.tail _ (List.Mem.tail _ (List.Mem.head _))), (fun q h => absurd h List.not_mem_nil)⟩)⟩)⟩) ?_
        exact kx _ qq I F (by first | exact ⟨And.intro (hi.1.1) (hi.1.2), hi.2.1, hi.2.2⟩ | omega)
      ·
        refine z_const X (show cdA 48 32 = some (.iconst 0, 1, 0, 0, 0) from rfl) ?_
        refine z_store_n X (lv' := [(3, .int (Int32.ofInt 0)), (0, .ref (A 54)), (1, .int (Int32.ofInt xv)), (2, .int (Int32.ofInt qq))]) (show cdA 48 33 = some (.istore_n 3, 1, 0, 0, 0) from rfl) (by decide) (fun _ h => h) ?_
        refine WS_lv (lv := [(0, .ref (A 54)), (1, .int (Int32.ofInt xv)), (2, .int (Int32.ofInt qq)), (3, .int (Int32.ofInt 0))]) (List.forall_mem_cons.mpr ⟨(List.Mem.tail _ (List.Mem.head _)), (List.forall_mem_cons.mpr ⟨(List.Mem.tail _ (List.Mem.tail _ (List.Mem.head _))), (List.forall_mem_cons.mpr ⟨(List.Mem.tail _ (List.Mem.tail _ (List.Mem.tail _ (List.Mem.head _)))), (List.forall_mem_cons.mpr ⟨(List.Mem.head _), (fun q h => absurd h List.not_mem_nil)⟩)⟩)⟩)⟩) ?_
        refine L34 ((6 - 0 : Int).toNat + 1) t xv qq 0 I F (by first | exact ⟨And.intro (hi.1.1) (hi.1.2), And.intro (g4003) (hi.2.2), by decide, by decide⟩ | omega) (Nat.lt_succ_self _) ?_
        intro s4004 x4005 Is4004 Fs4004 hs4004
        have b4006 : (0 : Int) ≤ iI s4004 32 ∧ iI s4004 32 ≤ 6 := Is4004.1 32
        have b4007 : (0 : Int) ≤ iI s4004 12 ∧ iI s4004 12 ≤ 9 := Is4004.1 12
        refine z_inc X (x := qq) (lv' := [(2, .int (Int32.ofInt (qq + (-1)))), (0, .ref (A 54)), (1, .int (Int32.ofInt xv)), (3, .int (Int32.ofInt x4005))]) (show cdA 48 125 = some (.iinc 2 (-1), 3, 0, 0, 0) from rfl) (by decide) (List.Mem.tail _ (List.Mem.tail _ (List.Mem.head _))) (fun _ h => h) ?_
        refine z_goto X (t := 28) (show cdA 48 128 = some (.goto (-100), 3, 0, 0, 0) from rfl) (by decide) ?_
        refine WS_lv (lv := [(0, .ref (A 54)), (1, .int (Int32.ofInt xv)), (2, .int (Int32.ofInt (qq + (-1))))]) (List.forall_mem_cons.mpr ⟨(List.Mem.tail _ (List.Mem.head _)), (List.forall_mem_cons.mpr ⟨(List.Mem.tail _ (List.Mem.tail _ (List.Mem.head _))), (List.forall_mem_cons.mpr ⟨(List.Mem.head _), (fun q h => absurd h List.not_mem_nil)⟩)⟩)⟩) ?_
        exact ih _ xv (qq + (-1)) Is4004 Fs4004 (by first | exact ⟨And.intro (hs4004.1.1) (hs4004.1.2), oq_285ed02d hs4004.2.1.1, oq_92f1d9fb hs4004.2.1.2⟩ | omega) (by first | exact qk_me hm (by decide) (oq_7a276f11 hs4004.2.1.1) | omega) kx
  refine z_const X (show cdA 48 0 = some (.iconst 0, 1, 0, 0, 0) from rfl) ?_
  refine z_store_n X (lv' := [(2, .int (Int32.ofInt 0)), (0, .ref (A 54)), (1, .int (Int32.ofInt x))]) (show cdA 48 1 = some (.istore_n 2, 1, 0, 0, 0) from rfl) (by decide) (fun _ h => h) ?_
  refine WS_lv (lv := [(0, .ref (A 54)), (1, .int (Int32.ofInt x)), (2, .int (Int32.ofInt 0))]) (List.forall_mem_cons.mpr ⟨(List.Mem.tail _ (List.Mem.head _)), (List.forall_mem_cons.mpr ⟨(List.Mem.tail _ (List.Mem.tail _ (List.Mem.head _))), (List.forall_mem_cons.mpr ⟨(List.Mem.head _), (fun q h => absurd h List.not_mem_nil)⟩)⟩)⟩) ?_
  refine L2 ((6 - 0 : Int).toNat + 1) s x 0 I F (by first | exact ⟨And.intro (p0.1) (p0.2), by decide, by decide, p1⟩ | omega) (Nat.lt_succ_self _) ?_
  intro s3 x4 Is3 Fs3 hs3
  have b5 : (0 : Int) ≤ iI s3 32 ∧ iI s3 32 ≤ 6 := Is3.1 32
  have b6 : (0 : Int) ≤ iI s3 12 ∧ iI s3 12 ≤ 9 := Is3.1 12
  refine z_aload_n X (x := A 54) (show cdA 48 21 = some (.aload_n 0, 1, 0, 0, 0) from rfl) (List.Mem.head _) ?_
  refine z_callV X 54 (rm := rmN 47) (As := []) (st := []) (show cdA 48 22 = some (.invokevirtual 108, 3, 47, 0, 0) from rfl) rfl (by decide) rfl (by rw [E.1, E.2.1, E.2.2.1]; exact c4_addLoads_54 G Is3 ) ⟨by rw [E.2.2.2]; exact (show (rmN 47).frames + 1 ≤ (rmN 48).frames by decide), by rw [E.2.2.2]; exact (show 8 + (mNL (miB 47) + 11) + (rmN 47).locals ≤ (rmN 48).locals by decide), by rw [E.2.2.2]; exact (show 0 + (rmN 47).cells ≤ (rmN 48).cells by decide), by rw [E.2.2.2]; exact (show 0 + (rmN 47).slots ≤ (rmN 48).slots by decide)⟩ (Nat.le_of_ble_eq_true rfl) (fun vv s7 hq => ?_) (fun ee s7 hq => ?_)
  rotate_left
  · obtain ⟨Is7, Fs7, hv, hps7⟩ := hq; cases hv
  obtain ⟨Is7, Fs7, hv, hps7⟩ := hq
  cases hv
  have Gs7 := fm_ts Fs3 Fs7 (by decide) (by decide)
  have ws7_32 : iI s7 32 = iI s3 32 := fm_i Fs7 (by decide)
  have ws7_12 : iI s7 12 = iI s3 12 := fm_i Fs7 (by decide)
  show WS k 25 [(0, .ref (A 54)), (1, .int (Int32.ofInt x)), (2, .int (Int32.ofInt x4))] [] (Wd A dT s7) 0 0
  refine z_bipush X (show cdA 48 25 = some (.bipush 23, 2, 0, 0, 23) from rfl) ?_
  refine z_store_n X (lv' := [(2, .int (Int32.ofInt 23)), (0, .ref (A 54)), (1, .int (Int32.ofInt x))]) (show cdA 48 27 = some (.istore_n 2, 1, 0, 0, 0) from rfl) (by decide) (fun _ h => h) ?_
  refine WS_lv (lv := [(0, .ref (A 54)), (1, .int (Int32.ofInt x)), (2, .int (Int32.ofInt 23))]) (List.forall_mem_cons.mpr ⟨(List.Mem.tail _ (List.Mem.head _)), (List.forall_mem_cons.mpr ⟨(List.Mem.tail _ (List.Mem.tail _ (List.Mem.head _))), (List.forall_mem_cons.mpr ⟨(List.Mem.head _), (fun q h => absurd h List.not_mem_nil)⟩)⟩)⟩) ?_
  refine L28 ((23 + 1 : Int).toNat + 1) s7 x 23 Is7 Gs7 (by first | exact ⟨And.intro (hs3.1.1) (hs3.1.2), by decide, by decide⟩ | omega) (Nat.lt_succ_self _) ?_
  intro s9 x10 Is9 Fs9 hs9
  have b11 : (0 : Int) ≤ iI s9 32 ∧ iI s9 32 ≤ 6 := Is9.1 32
  have b12 : (0 : Int) ≤ iI s9 12 ∧ iI s9 12 ≤ 9 := Is9.1 12
  refine z_aload_n X (x := A 54) (show cdA 48 131 = some (.aload_n 0, 1, 0, 0, 0) from rfl) (List.Mem.head _) ?_
  refine z_load_n X (x := x) (show cdA 48 132 = some (.iload_n 1, 1, 0, 0, 0) from rfl) (List.Mem.tail _ (List.Mem.head _)) ?_
  refine z_callV X 54 (rm := rmN 51) (As := [.int (Int32.ofInt x)]) (st := []) (show cdA 48 133 = some (.invokevirtual 119, 3, 51, 0, 0) from rfl) rfl (by decide) rfl (by rw [E.1, E.2.1, E.2.2.1]; exact c4_choose_54 G Is9 (by first | exact ⟨hs9.1.1, hs9.1.2⟩ | omega)) ⟨by rw [E.2.2.2]; exact (show (rmN 51).frames + 1 ≤ (rmN 48).frames by decide), by rw [E.2.2.2]; exact (show 8 + (mNL (miB 51) + 11) + (rmN 51).locals ≤ (rmN 48).locals by decide), by rw [E.2.2.2]; exact (show 0 + (rmN 51).cells ≤ (rmN 48).cells by decide), by rw [E.2.2.2]; exact (show 0 + (rmN 51).slots ≤ (rmN 48).slots by decide)⟩ (Nat.le_of_ble_eq_true rfl) (fun vv s13 hq => ?_) (fun ee s13 hq => ?_)
  rotate_left
  · obtain ⟨Is13, Fs13, e14, hv, hrs13, hps13⟩ := hq; cases hv
  obtain ⟨Is13, Fs13, e14, hv, hrs13, hps13⟩ := hq
  cases hv
  have Gs13 := fm_ts Fs9 Fs13 (by decide) (by decide)
  have ws13_32 : iI s13 32 = iI s9 32 := fm_i Fs13 (by decide)
  have ws13_12 : iI s13 12 = iI s9 12 := fm_i Fs13 (by decide)
  show WS k 136 [(0, .ref (A 54)), (1, .int (Int32.ofInt x)), (2, .int (Int32.ofInt x10))] [.int (Int32.ofInt e14)] (Wd A dT s13) 0 0
  exact w_iret X.1 q hRt (nar_ret (by first | exact hps13 | omega)) (ax_d X (show cdA 48 136 = some (.ireturn, 1, 0, 0, 0) from rfl)) (Nat.zero_le _) (Nat.zero_le _) ⟨_, rfl, Is13, Gs13, e14, rfl, hrs13, by first | exact hps13 | omega⟩
end M77
