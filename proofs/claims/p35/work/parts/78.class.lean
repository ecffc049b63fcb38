/-! The class: the ears of the storm -/
section M78
variable {l : Launch} {s0 : State} {D : va_G} {tys : List (ClassId × FieldType)} {a0 : Array Value} {A : Nat → Nat} {dT : Nat → ClassId} {s : PS}
set_option maxRecDepth 4000 in
theorem c0_followSteps_93 (G : GX l s0 D tys a0 dT) (I : Bd s) {x : Int} {aj bj : Int64} (p0 : 0 ≤ x ∧ x ≤ 11) (p1 : iI s 46 ≤ 11) : CT l s0 D A dT 2 (rmN 2) [.ref (A 93), .int (Int32.ofInt x), .long aj, .long bj] s (fun o t => Bd t ∧ Fm [] [81, 82, 83] s t ∧ o = .inl none ∧ (True)) := by
  refine ct_ofX G (by decide) (Nat.le_of_ble_eq_true rfl) (fun k X E ET hRt hXt q => ?_)
  show WS k 0 [(0, .ref (A 93)), (1, .int (Int32.ofInt x)), (2, .long aj), (4, .long bj)] [] _ 0 0
  have F : Fm [] [81, 82, 83] s s := fm_rf _ _ s
  have b1 : (0 : Int) ≤ iI s 46 ∧ iI s 46 ≤ 12 := I.1 46
  have L12 : ∀ (n : Nat) (t : PS) (xv : Int) (av : Int64) (bv : Int64) (ov : Int) (wi : Int) (cl : Int) (kd : Int), Bd t → Fm [] [81, 82, 83] s t → ((0 ≤ xv ∧ xv ≤ 11) ∧ rng ov ∧ rng wi ∧ rng cl ∧ 0 ≤ kd ∧ kd ≤ 5 ∧ iI t 46 ≤ 11) → (5 - kd : Int).toNat < n → (∀ (t' : PS) (ov' : Int) (wi' : Int) (cl' : Int) (kd' : Int), Bd t' → Fm [] [81, 82, 83] s t' → ((0 ≤ xv ∧ xv ≤ 11) ∧ rng ov' ∧ rng wi' ∧ rng cl' ∧ 0 ≤ kd' ∧ kd' ≤ 5 ∧ iI t' 46 ≤ 11) → WS k 148 [(0, .ref (A 93)), (1, .int (Int32.ofInt xv)), (2, .long av), (4, .long bv), (6, .int (Int32.ofInt ov')), (7, .int (Int32.ofInt wi')), (8, .int (Int32.ofInt cl')), (9, .int (Int32.ofInt kd'))] [] (Wd A dT t') 0 0) → WS k 12 [(0, .ref (A 93)), (1, .int (Int32.ofInt xv)), (2, .long av), (4, .long bv), (6, .int (Int32.ofInt ov)), (7, .int (Int32.ofInt wi)), (8, .int (Int32.ofInt cl)), (9, .int (Int32.ofInt kd))] [] (Wd A dT t) 0 0 := by
    intro n
    induction n with
    | zero =>
      intro t xv av bv ov wi cl kd I F hi hm kx
      exact absurd hm (Nat.not_lt_zero _)
    | succ n ih =>
      intro t xv av bv ov wi cl kd I F hi hm kx
      have b1001 : (0 : Int) ≤ iI t 46 ∧ iI t 46 ≤ 12 := I.1 46
      refine z_load X (x := kd) (show cdA 2 12 = some (.iload 9, 2, 0, 0, 0) from rfl) (List.Mem.tail _ (List.Mem.tail _ (List.Mem.tail _ (List.Mem.tail _ (List.Mem.tail _ (List.Mem.tail _ (List.Mem.tail _ (List.Mem.head _)))))))) ?_
      refine z_const X (show cdA 2 14 = some (.iconst 5, 1, 0, 0, 0) from rfl) ?_
      refine z_icmp_ge X (t := 148) (show cdA 2 15 = some (.if_icmp .ge 133, 3, 3, 0, 0) from rfl) (by decide) ⟨by first | exact oq_fa4e5087 hi.2.2.2.2.1 | omega, by first | exact oq_a3dd55e5 hi.2.2.2.2.2.1 | omega⟩ (by decide) (fun g1002 => ?_) (fun g1002 => ?_)
      ·
        refine WS_lv (lv := [(0, .ref (A 93)), (1, .int (Int32.ofInt xv)), (2, .long av), (4, .long bv), (6, .int (Int32.ofInt ov)), (7, .int (Int32.ofInt wi)), (8, .int (Int32.ofInt cl)), (9, .int (Int32.ofInt kd))]) (List.forall_mem_cons.mpr ⟨(List.Mem.head _), (List.forall_mem_cons.mpr ⟨(List.Mem.tail _ (List.Mem.head _)), (List.forall_mem_cons.mpr ⟨(List.Mem.tail _ (List.Mem.tail _ (List.Mem.head _))), (List.forall_mem_cons.mpr ⟨(List.Mem.tail _ (List.Mem.tail _ (List.Mem.tail _ (List.Mem.head _)))), (List.forall_mem_cons.mpr ⟨(List.Mem.tail _ (List.Mem.tail _ (List.Mem.tail _ (List.Mem.tail _ (List.Mem.head _))))), (List.forall_mem_cons.mpr ⟨(List.Mem.tail _ (List.Mem.tail _ (List.Mem.tail _ (List.Mem.tail _ (List.Mem.tail _ (List.Mem.head _)))))), (List.forall_mem_cons.mpr ⟨(List.Mem.tail _ (List.Mem.tail _ (List.Mem.tail _ (List.Mem.tail _ (List.Mem.tail _ (List.Mem.tail _ (List.Mem.head _))))))), (List.forall_mem_cons.mpr ⟨(List.Mem.tail _ (List.Mem.tail _ (List.Mem.tail _ (List.Mem.tail _ (List.Mem.tail _ (List.Mem.tail _ (List.Mem.tail _ (List.Mem.head _)))))))), (fun q h => absurd h List.not_mem_nil)⟩)⟩)⟩)⟩)⟩)⟩)⟩)⟩) ?_
        exact kx _ ov wi cl kd I F (by first | exact ⟨And.intro (hi.1.1) (hi.1.2), And.intro (hi.2.1.1) (hi.2.1.2), And.intro (hi.2.2.1.1) (hi.2.2.1.2), And.intro (hi.2.2.2.1.1) (hi.2.2.2.1.2), hi.2.2.2.2.1, hi.2.2.2.2.2.1, hi.2.2.2.2.2.2⟩ | omega)
      ·
        refine z_aload_n X (x := A 93) (show cdA 2 18 = some (.aload_n 0, 1, 0, 0, 0) from rfl) (List.Mem.head _) ?_
        refine s_getR X 93 (show cdA 2 19 = some (.getfield 43, 3, 0, 0, 0) from rfl) (by decide) rfl rfl ?_
        refine s_getR X 68 (show cdA 2 22 = some (.getfield 84, 3, 9, 5, 0) from rfl) (by decide) rfl rfl ?_
        refine z_load_n X (x := xv) (show cdA 2 25 = some (.iload_n 1, 1, 0, 0, 0) from rfl) (List.Mem.tail _ (List.Mem.head _)) ?_
        refine z_const X (show cdA 2 26 = some (.iconst 5, 1, 0, 0, 0) from rfl) ?_
        refine z_mul X (show cdA 2 27 = some (.imul, 1, 0, 0, 0) from rfl) ?_
        refine z_load X (x := kd) (show cdA 2 28 = some (.iload 9, 2, 0, 0, 0) from rfl) (List.Mem.tail _ (List.Mem.tail _ (List.Mem.tail _ (List.Mem.tail _ (List.Mem.tail _ (List.Mem.tail _ (List.Mem.tail _ (List.Mem.head _)))))))) ?_
        refine z_add X (show cdA 2 30 = some (.iadd, 1, 0, 0, 0) from rfl) ?_
        refine z_lald X 73 (show cdA 2 31 = some (.laload, 1, 0, 0, 0) from rfl) (by decide) rfl (by first | exact oq_59a253bd hi.1.1 hi.2.2.2.2.1 | omega) (show ((xv * 5) + kd) < 60 by first | exact oq_7279bf48 hi.1.2 g1002 | omega) (by decide) (fun j1003 => ?_)
        refine w_lstore X.1 (lv' := [(10, .long j1003), (0, .ref (A 93)), (1, .int (Int32.ofInt xv)), (2, .long av), (4, .long bv), (6, .int (Int32.ofInt ov)), (7, .int (Int32.ofInt wi)), (8, .int (Int32.ofInt cl)), (9, .int (Int32.ofInt kd))]) (ax_d X (show cdA 2 32 = some (.lstore 10, 2, 0, 0, 0) from rfl)) (by rw [X.2.1.2.2]; decide) (fun _ h => h) ?_
        refine w_lload X.1 (ax_d X (show cdA 2 34 = some (.lload 10, 2, 0, 0, 0) from rfl)) (x := j1003) (List.Mem.head _) ?_
        refine w_lconst X.1 (ax_d X (show cdA 2 36 = some (.lconst 0, 1, 0, 0, 0) from rfl)) rfl ?_
        refine z_anyJ (fun j1004 => ?_)
        refine w_lcmp X.1 (ax_d X (show cdA 2 37 = some (.lcmp, 1, 0, 0, 0) from rfl)) ?_
        refine z_any (fun y1005 hy1005 => ?_)
        refine z_if_eq X (t := 142) (show cdA 2 38 = some (.ifCond .eq 104, 3, 0, 0, 0) from rfl) (by decide) hy1005 (fun g1006 => ?_) (fun g1006 => ?_)
        ·
          refine z_inc X (x := kd) (lv' := [(9, .int (Int32.ofInt (kd + 1))), (10, .long j1003), (0, .ref (A 93)), (1, .int (Int32.ofInt xv)), (2, .long av), (4, .long bv), (6, .int (Int32.ofInt ov)), (7, .int (Int32.ofInt wi)), (8, .int (Int32.ofInt cl))]) (show cdA 2 142 = some (.iinc 9 1, 3, 0, 0, 0) from rfl) (by decide) (List.Mem.tail _ (List.Mem.tail _ (List.Mem.tail _ (List.Mem.tail _ (List.Mem.tail _ (List.Mem.tail _ (List.Mem.tail _ (List.Mem.tail _ (List.Mem.head _))))))))) (fun _ h => h) ?_
          refine z_goto X (t := 12) (show cdA 2 145 = some (.goto (-133), 3, 0, 0, 0) from rfl) (by decide) ?_
          refine WS_lv (lv := [(0, .ref (A 93)), (1, .int (Int32.ofInt xv)), (2, .long av), (4, .long bv), (6, .int (Int32.ofInt ov)), (7, .int (Int32.ofInt wi)), (8, .int (Int32.ofInt cl)), (9, .int (Int32.ofInt (kd + 1)))]) (List.forall_mem_cons.mpr ⟨(List.Mem.tail _ (List.Mem.tail _ (List.Mem.head _))), (List.forall_mem_cons.mpr ⟨(List.Mem.tail _ (List.Mem.tail _ (List.Mem.tail _ (List.Mem.head _)))), (List.forall_mem_cons.mpr ⟨(List.Mem.tail _ (List.Mem.tail _ (List.Mem.tail _ (List.Mem.tail _ (List.Mem.head _))))), (List.forall_mem_cons.mpr ⟨(List.Mem.tail _ (List.Mem.tail _ (List.Mem.tail _ (List.Mem.tail _ (List.Mem.tail _ (List.Mem.head _)))))), (List.forall_mem_cons.mpr ⟨(List.Mem.tail _ (List.Mem.tail _ (List.Mem.tail _ (List.Mem.tail _ (List.Mem.tail _ (List.Mem.tail _ (List.Mem.head _))))))), (List.forall_mem_cons.mpr ⟨(List.Mem.tail _ (List.Mem.tail _ (List.Mem.tail _ (List.Mem.tail _ (List.Mem.tail _ (List.Mem.tail _ (List.Mem.tail _ (List.Mem.head _)))))))), (List.forall_mem_cons.mpr ⟨(List.Mem.tail _ (List.Mem.tail _ (List.Mem.tail _ (List.Mem.tail _ (List.Mem.tail _ (List.Mem.tail _ (List.Mem.tail _ (List.Mem.tail _ (List.Mem.head _))))))))), (List.forall_mem_cons.mpr ⟨(List.Mem.head _), (fun q h => absurd h List.not_mem_nil)⟩)⟩)⟩)⟩)⟩)⟩)⟩)⟩) ?_
          exact ih _ xv av bv ov wi cl (kd + 1) I F (by first | exact ⟨And.intro (hi.1.1) (hi.1.2), And.intro (hi.2.1.1) (hi.2.1.2), And.intro (hi.2.2.1.1) (hi.2.2.1.2), And.intro (hi.2.2.2.1.1) (hi.2.2.2.1.2), oq_54f49eb5 hi.2.2.2.2.1, oq_c2445583 g1002, hi.2.2.2.2.2.2⟩ | omega) (by first | exact qk_me hm (by decide) (oq_33241a94 g1002) | omega) kx
        ·
          refine z_load X (x := kd) (show cdA 2 41 = some (.iload 9, 2, 0, 0, 0) from rfl) (List.Mem.tail _ (List.Mem.tail _ (List.Mem.tail _ (List.Mem.tail _ (List.Mem.tail _ (List.Mem.tail _ (List.Mem.tail _ (List.Mem.tail _ (List.Mem.head _))))))))) ?_
          refine z_const X (show cdA 2 43 = some (.iconst 1, 1, 0, 0, 0) from rfl) ?_
          have N1007 : ∀ j1008 : Int64, WS k 59 [(10, .long j1003), (0, .ref (A 93)), (1, .int (Int32.ofInt xv)), (2, .long av), (4, .long bv), (6, .int (Int32.ofInt ov)), (7, .int (Int32.ofInt wi)), (8, .int (Int32.ofInt cl)), (9, .int (Int32.ofInt kd))] [.long j1008] (Wd A dT t) 0 0 := by
            intro j1008
            refine w_lstore X.1 (lv' := [(12, .long j1008), (10, .long j1003), (0, .ref (A 93)), (1, .int (Int32.ofInt xv)), (2, .long av), (4, .long bv), (6, .int (Int32.ofInt ov)), (7, .int (Int32.ofInt wi)), (8, .int (Int32.ofInt cl)), (9, .int (Int32.ofInt kd))]) (ax_d X (show cdA 2 59 = some (.lstore 12, 2, 0, 0, 0) from rfl)) (by rw [X.2.1.2.2]; decide) (fun _ h => h) ?_
            refine z_load X (x := kd) (show cdA 2 61 = some (.iload 9, 2, 0, 0, 0) from rfl) (List.Mem.tail _ (List.Mem.tail _ (List.Mem.tail _ (List.Mem.tail _ (List.Mem.tail _ (List.Mem.tail _ (List.Mem.tail _ (List.Mem.tail _ (List.Mem.tail _ (List.Mem.head _)))))))))) ?_
            refine z_const X (show cdA 2 63 = some (.iconst 4, 1, 0, 0, 0) from rfl) ?_
            have N1009 : ∀ j1010 : Int64, WS k 90 [(12, .long j1008), (10, .long j1003), (0, .ref (A 93)), (1, .int (Int32.ofInt xv)), (2, .long av), (4, .long bv), (6, .int (Int32.ofInt ov)), (7, .int (Int32.ofInt wi)), (8, .int (Int32.ofInt cl)), (9, .int (Int32.ofInt kd))] [.long j1010] (Wd A dT t) 0 0 := by
              intro j1010
              refine w_lstore X.1 (lv' := [(14, .long j1010), (12, .long j1008), (10, .long j1003), (0, .ref (A 93)), (1, .int (Int32.ofInt xv)), (2, .long av), (4, .long bv), (6, .int (Int32.ofInt ov)), (7, .int (Int32.ofInt wi)), (8, .int (Int32.ofInt cl)), (9, .int (Int32.ofInt kd))]) (ax_d X (show cdA 2 90 = some (.lstore 14, 2, 0, 0, 0) from rfl)) (by rw [X.2.1.2.2]; decide) (fun _ h => h) ?_
              refine w_lload X.1 (ax_d X (show cdA 2 92 = some (.lload 10, 2, 0, 0, 0) from rfl)) (x := j1003) (List.Mem.tail _ (List.Mem.tail _ (List.Mem.head _))) ?_
              refine w_lload X.1 (ax_d X (show cdA 2 94 = some (.lload 12, 2, 0, 0, 0) from rfl)) (x := j1008) (List.Mem.tail _ (List.Mem.head _)) ?_
              refine w_land X.1 (ax_d X (show cdA 2 96 = some (.land, 1, 0, 0, 0) from rfl)) ?_
              refine z_anyJ (fun j1011 => ?_)
              refine w_lload X.1 (ax_d X (show cdA 2 97 = some (.lload 14, 2, 0, 0, 0) from rfl)) (x := j1010) (List.Mem.head _) ?_
              refine w_land X.1 (ax_d X (show cdA 2 99 = some (.land, 1, 0, 0, 0) from rfl)) ?_
              refine z_anyJ (fun j1012 => ?_)
              refine z_callS X (rm := rmN 298) (As := [.long j1012]) (st := []) (show cdA 2 100 = some (.invokestatic 51, 3, 298, 1, 0) from rfl) rfl (by rw [E.1, E.2.1, E.2.2.1]; exact j_bitL G I ) ⟨by rw [E.2.2.2]; exact (show (rmN 298).frames + 1 ≤ (rmN 2).frames by decide), by rw [E.2.2.2]; exact (show 8 + (mNL (miB 298) + 11) + (rmN 298).locals ≤ (rmN 2).locals by decide), by rw [E.2.2.2]; exact (show 0 + (rmN 298).cells ≤ (rmN 2).cells by decide), by rw [E.2.2.2]; exact (show 0 + (rmN 298).slots ≤ (rmN 2).slots by decide)⟩ (Nat.le_of_ble_eq_true rfl) (fun vv s1013 hq => ?_) (fun ee s1013 hq => ?_)
              rotate_left
              · obtain ⟨Is1013, Fs1013, e1014, hv, hrs1013, hps1013⟩ := hq; cases hv
              obtain ⟨Is1013, Fs1013, e1014, hv, hrs1013, hps1013⟩ := hq
              cases hv
              have Gs1013 := fm_ts F Fs1013 (by decide) (by decide)
              have ws1013_46 : iI s1013 46 = iI t 46 := fm_i Fs1013 (by decide)
              show WS k 103 [(14, .long j1010), (12, .long j1008), (10, .long j1003), (0, .ref (A 93)), (1, .int (Int32.ofInt xv)), (2, .long av), (4, .long bv), (6, .int (Int32.ofInt ov)), (7, .int (Int32.ofInt wi)), (8, .int (Int32.ofInt cl)), (9, .int (Int32.ofInt kd))] [.int (Int32.ofInt e1014)] (Wd A dT s1013) 0 0
              refine z_store X (lv' := [(16, .int (Int32.ofInt e1014)), (14, .long j1010), (12, .long j1008), (10, .long j1003), (0, .ref (A 93)), (1, .int (Int32.ofInt xv)), (2, .long av), (4, .long bv), (6, .int (Int32.ofInt ov)), (7, .int (Int32.ofInt wi)), (8, .int (Int32.ofInt cl)), (9, .int (Int32.ofInt kd))]) (show cdA 2 103 = some (.istore 16, 2, 0, 0, 0) from rfl) (by decide) (fun _ h => h) ?_
              refine z_load X (x := ov) (show cdA 2 105 = some (.iload 6, 2, 0, 0, 0) from rfl) (List.Mem.tail _ (List.Mem.tail _ (List.Mem.tail _ (List.Mem.tail _ (List.Mem.tail _ (List.Mem.tail _ (List.Mem.tail _ (List.Mem.tail _ (List.Mem.head _))))))))) ?_
              refine w_lload X.1 (ax_d X (show cdA 2 107 = some (.lload 10, 2, 0, 0, 0) from rfl)) (x := j1003) (List.Mem.tail _ (List.Mem.tail _ (List.Mem.tail _ (List.Mem.head _)))) ?_
              refine w_lload X.1 (ax_d X (show cdA 2 109 = some (.lload 12, 2, 0, 0, 0) from rfl)) (x := j1008) (List.Mem.tail _ (List.Mem.tail _ (List.Mem.head _))) ?_
              refine w_lload X.1 (ax_d X (show cdA 2 111 = some (.lload 14, 2, 0, 0, 0) from rfl)) (x := j1010) (List.Mem.tail _ (List.Mem.head _)) ?_
              refine w_lxor X.1 (ax_d X (show cdA 2 113 = some (.lxor, 1, 0, 0, 0) from rfl)) ?_
              refine z_anyJ (fun j1015 => ?_)
              refine w_land X.1 (ax_d X (show cdA 2 114 = some (.land, 1, 0, 0, 0) from rfl)) ?_
              refine z_anyJ (fun j1016 => ?_)
              refine z_callS X (rm := rmN 298) (As := [.long j1016]) (st := [.int (Int32.ofInt ov)]) (show cdA 2 115 = some (.invokestatic 51, 3, 298, 1, 0) from rfl) rfl (by rw [E.1, E.2.1, E.2.2.1]; exact j_bitL G Is1013 ) ⟨by rw [E.2.2.2]; exact (show (rmN 298).frames + 1 ≤ (rmN 2).frames by decide), by rw [E.2.2.2]; exact (show 8 + (mNL (miB 298) + 11) + (rmN 298).locals ≤ (rmN 2).locals by decide), by rw [E.2.2.2]; exact (show 0 + (rmN 298).cells ≤ (rmN 2).cells by decide), by rw [E.2.2.2]; exact (show 0 + (rmN 298).slots ≤ (rmN 2).slots by decide)⟩ (Nat.le_of_ble_eq_true rfl) (fun vv s1017 hq => ?_) (fun ee s1017 hq => ?_)
              rotate_left
              · obtain ⟨Is1017, Fs1017, e1018, hv, hrs1017, hps1017⟩ := hq; cases hv
              obtain ⟨Is1017, Fs1017, e1018, hv, hrs1017, hps1017⟩ := hq
              cases hv
              have Gs1017 := fm_ts Gs1013 Fs1017 (by decide) (by decide)
              have ws1017_46 : iI s1017 46 = iI s1013 46 := fm_i Fs1017 (by decide)
              show WS k 118 [(16, .int (Int32.ofInt e1014)), (14, .long j1010), (12, .long j1008), (10, .long j1003), (0, .ref (A 93)), (1, .int (Int32.ofInt xv)), (2, .long av), (4, .long bv), (6, .int (Int32.ofInt ov)), (7, .int (Int32.ofInt wi)), (8, .int (Int32.ofInt cl)), (9, .int (Int32.ofInt kd))] [.int (Int32.ofInt e1018), .int (Int32.ofInt ov)] (Wd A dT s1017) 0 0
              refine z_add X (show cdA 2 118 = some (.iadd, 1, 0, 0, 0) from rfl) ?_
              refine z_any (fun y1019 hy1019 => ?_)
              refine z_store X (lv' := [(6, .int (Int32.ofInt y1019)), (16, .int (Int32.ofInt e1014)), (14, .long j1010), (12, .long j1008), (10, .long j1003), (0, .ref (A 93)), (1, .int (Int32.ofInt xv)), (2, .long av), (4, .long bv), (7, .int (Int32.ofInt wi)), (8, .int (Int32.ofInt cl)), (9, .int (Int32.ofInt kd))]) (show cdA 2 119 = some (.istore 6, 2, 0, 0, 0) from rfl) (by decide) (fun _ h => h) ?_
              refine z_load X (x := wi) (show cdA 2 121 = some (.iload 7, 2, 0, 0, 0) from rfl) (List.Mem.tail _ (List.Mem.tail _ (List.Mem.tail _ (List.Mem.tail _ (List.Mem.tail _ (List.Mem.tail _ (List.Mem.tail _ (List.Mem.tail _ (List.Mem.tail _ (List.Mem.head _)))))))))) ?_
              refine z_load X (x := e1014) (show cdA 2 123 = some (.iload 16, 2, 0, 0, 0) from rfl) (List.Mem.tail _ (List.Mem.head _)) ?_
              refine z_add X (show cdA 2 125 = some (.iadd, 1, 0, 0, 0) from rfl) ?_
              refine z_any (fun y1020 hy1020 => ?_)
              refine z_store X (lv' := [(7, .int (Int32.ofInt y1020)), (6, .int (Int32.ofInt y1019)), (16, .int (Int32.ofInt e1014)), (14, .long j1010), (12, .long j1008), (10, .long j1003), (0, .ref (A 93)), (1, .int (Int32.ofInt xv)), (2, .long av), (4, .long bv), (8, .int (Int32.ofInt cl)), (9, .int (Int32.ofInt kd))]) (show cdA 2 126 = some (.istore 7, 2, 0, 0, 0) from rfl) (by decide) (fun _ h => h) ?_
              refine z_load X (x := kd) (show cdA 2 128 = some (.iload 9, 2, 0, 0, 0) from rfl) (List.Mem.tail _ (List.Mem.tail _ (List.Mem.tail _ (List.Mem.tail _ (List.Mem.tail _ (List.Mem.tail _ (List.Mem.tail _ (List.Mem.tail _ (List.Mem.tail _ (List.Mem.tail _ (List.Mem.tail _ (List.Mem.head _)))))))))))) ?_
              refine z_const X (show cdA 2 130 = some (.iconst 4, 1, 0, 0, 0) from rfl) ?_
              have N1021 : ∀ e1022 : Int, (((kd ≠ 4) ∧ e1022 = 0) ∨ ((kd = 4) ∧ e1022 = e1014)) → WS k 140 [(7, .int (Int32.ofInt y1020)), (6, .int (Int32.ofInt y1019)), (16, .int (Int32.ofInt e1014)), (14, .long j1010), (12, .long j1008), (10, .long j1003), (0, .ref (A 93)), (1, .int (Int32.ofInt xv)), (2, .long av), (4, .long bv), (8, .int (Int32.ofInt cl)), (9, .int (Int32.ofInt kd))] [.int (Int32.ofInt e1022)] (Wd A dT s1017) 0 0 := by
                intro e1022 he1022
                refine z_store X (lv' := [(8, .int (Int32.ofInt e1022)), (7, .int (Int32.ofInt y1020)), (6, .int (Int32.ofInt y1019)), (16, .int (Int32.ofInt e1014)), (14, .long j1010), (12, .long j1008), (10, .long j1003), (0, .ref (A 93)), (1, .int (Int32.ofInt xv)), (2, .long av), (4, .long bv), (9, .int (Int32.ofInt kd))]) (show cdA 2 140 = some (.istore 8, 2, 0, 0, 0) from rfl) (by decide) (fun _ h => h) ?_
                refine z_inc X (x := kd) (lv' := [(9, .int (Int32.ofInt (kd + 1))), (8, .int (Int32.ofInt e1022)), (7, .int (Int32.ofInt y1020)), (6, .int (Int32.ofInt y1019)), (16, .int (Int32.ofInt e1014)), (14, .long j1010), (12, .long j1008), (10, .long j1003), (0, .ref (A 93)), (1, .int (Int32.ofInt xv)), (2, .long av), (4, .long bv)]) (show cdA 2 142 = some (.iinc 9 1, 3, 0, 0, 0) from rfl) (by decide) (List.Mem.tail _ (List.Mem.tail _ (List.Mem.tail _ (List.Mem.tail _ (List.Mem.tail _ (List.Mem.tail _ (List.Mem.tail _ (List.Mem.tail _ (List.Mem.tail _ (List.Mem.tail _ (List.Mem.tail _ (List.Mem.head _)))))))))))) (fun _ h => h) ?_
                refine z_goto X (t := 12) (show cdA 2 145 = some (.goto (-133), 3, 0, 0, 0) from rfl) (by decide) ?_
                refine WS_lv (lv := [(0, .ref (A 93)), (1, .int (Int32.ofInt xv)), (2, .long av), (4, .long bv), (6, .int (Int32.ofInt y1019)), (7, .int (Int32.ofInt y1020)), (8, .int (Int32.ofInt e1022)), (9, .int (Int32.ofInt (kd + 1)))]) (List.forall_mem_cons.mpr ⟨(List.Mem.tail _ (List.Mem.tail _ (List.Mem.tail _ (List.Mem.tail _ (List.Mem.tail _ (List.Mem.tail _ (List.Mem.tail _ (List.Mem.tail _ (List.Mem.head _))))))))), (List.forall_mem_cons.mpr ⟨(List.Mem.tail _ (List.Mem.tail _ (List.Mem.tail _ (List.Mem.tail _ (List.Mem.tail _ (List.Mem.tail _ (List.Mem.tail _ (List.Mem.tail _ (List.Mem.tail _ (List.Mem.head _)))))))))), (List.forall_mem_cons.mpr ⟨(List.Mem.tail _ (List.Mem.tail _ (List.Mem.tail _ (List.Mem.tail _ (List.Mem.tail _ (List.Mem.tail _ (List.Mem.tail _ (List.Mem.tail _ (List.Mem.tail _ (List.Mem.tail _ (List.Mem.head _))))))))))), (List.forall_mem_cons.mpr ⟨(List.Mem.tail _ (List.Mem.tail _ (List.Mem.tail _ (List.Mem.tail _ (List.Mem.tail _ (List.Mem.tail _ (List.Mem.tail _ (List.Mem.tail _ (List.Mem.tail _ (List.Mem.tail _ (List.Mem.tail _ (List.Mem.head _)))))))))))), (List.forall_mem_cons.mpr ⟨(List.Mem.tail _ (List.Mem.tail _ (List.Mem.tail _ (List.Mem.head _)))), (List.forall_mem_cons.mpr ⟨(List.Mem.tail _ (List.Mem.tail _ (List.Mem.head _))), (List.forall_mem_cons.mpr ⟨(List.Mem.tail _ (List.Mem.head _)), (List.forall_mem_cons.mpr ⟨(List.Mem.head _), (fun q h => absurd h List.not_mem_nil)⟩)⟩)⟩)⟩)⟩)⟩)⟩)⟩) ?_
                exact ih _ xv av bv y1019 y1020 e1022 (kd + 1) Is1017 Gs1017 (by first | exact ⟨And.intro (hi.1.1) (hi.1.2), And.intro (hy1019.1) (hy1019.2), And.intro (hy1020.1) (hy1020.2), by omega, oq_54f49eb5 hi.2.2.2.2.1, oq_c2445583 g1002, oq_9a920414 ws1017_46 ws1013_46 hi.2.2.2.2.2.2⟩ | omega) (by first | exact qk_me hm (by decide) (oq_33241a94 g1002) | omega) kx
              refine z_icmp_ne X (t := 139) (show cdA 2 131 = some (.if_icmp .ne 8, 3, 1, 0, 0) from rfl) (by decide) ⟨by first | exact oq_fa4e5087 hi.2.2.2.2.1 | omega, by first | exact oq_85aa3fe6 g1002 | omega⟩ (by decide) (fun g1023 => ?_) (fun g1023 => ?_)
              ·
                refine z_const X (show cdA 2 139 = some (.iconst 0, 1, 0, 0, 0) from rfl) ?_
                exact N1021 _ (Or.inl ⟨g1023, rfl⟩)
              ·
                refine z_load X (x := e1014) (show cdA 2 134 = some (.iload 16, 2, 0, 0, 0) from rfl) (List.Mem.tail _ (List.Mem.tail _ (List.Mem.head _))) ?_
                refine z_goto X (t := 140) (show cdA 2 136 = some (.goto 4, 3, 0, 0, 0) from rfl) (by decide) ?_
                exact N1021 _ (Or.inr (⟨g1023, rfl⟩))
            refine z_icmp_ne X (t := 72) (show cdA 2 64 = some (.if_icmp .ne 8, 3, 1, 0, 0) from rfl) (by decide) ⟨by first | exact oq_fa4e5087 hi.2.2.2.2.1 | omega, by first | exact oq_85aa3fe6 g1002 | omega⟩ (by decide) (fun g1024 => ?_) (fun g1024 => ?_)
            ·
              refine z_load X (x := kd) (show cdA 2 72 = some (.iload 9, 2, 0, 0, 0) from rfl) (List.Mem.tail _ (List.Mem.tail _ (List.Mem.tail _ (List.Mem.tail _ (List.Mem.tail _ (List.Mem.tail _ (List.Mem.tail _ (List.Mem.tail _ (List.Mem.tail _ (List.Mem.head _)))))))))) ?_
              refine z_const X (show cdA 2 74 = some (.iconst 2, 1, 0, 0, 0) from rfl) ?_
              refine z_icmp_ge X (t := 85) (show cdA 2 75 = some (.if_icmp .ge 10, 3, 3, 0, 0) from rfl) (by decide) ⟨by first | exact oq_fa4e5087 hi.2.2.2.2.1 | omega, by first | exact oq_85aa3fe6 g1002 | omega⟩ (by decide) (fun g1025 => ?_) (fun g1025 => ?_)
              ·
                refine w_lload X.1 (ax_d X (show cdA 2 85 = some (.lload 12, 2, 0, 0, 0) from rfl)) (x := j1008) (List.Mem.head _) ?_
                refine z_bipush X (show cdA 2 87 = some (.bipush 8, 2, 0, 0, 8) from rfl) ?_
                refine w_lushr X.1 (ax_d X (show cdA 2 89 = some (.lushr, 1, 0, 0, 0) from rfl)) ?_
                refine z_anyJ (fun j1026 => ?_)
                exact N1009 _
              ·
                refine w_lload X.1 (ax_d X (show cdA 2 78 = some (.lload 12, 2, 0, 0, 0) from rfl)) (x := j1008) (List.Mem.head _) ?_
                refine z_const X (show cdA 2 80 = some (.iconst 1, 1, 0, 0, 0) from rfl) ?_
                refine w_lushr X.1 (ax_d X (show cdA 2 81 = some (.lushr, 1, 0, 0, 0) from rfl)) ?_
                refine z_anyJ (fun j1027 => ?_)
                refine z_goto X (t := 90) (show cdA 2 82 = some (.goto 8, 3, 0, 0, 0) from rfl) (by decide) ?_
                exact N1009 _
            ·
              refine w_lload X.1 (ax_d X (show cdA 2 67 = some (.lload 4, 2, 0, 0, 0) from rfl)) (x := bv) (List.Mem.tail _ (List.Mem.tail _ (List.Mem.tail _ (List.Mem.tail _ (List.Mem.tail _ (List.Mem.head _)))))) ?_
              refine z_goto X (t := 90) (show cdA 2 69 = some (.goto 21, 3, 0, 0, 0) from rfl) (by decide) ?_
              exact N1009 _
          refine z_icmp_eq X (t := 53) (show cdA 2 44 = some (.if_icmp .eq 9, 3, 0, 0, 0) from rfl) (by decide) ⟨by first | exact oq_fa4e5087 hi.2.2.2.2.1 | omega, by first | exact oq_85aa3fe6 g1002 | omega⟩ (by decide) (fun g1028 => ?_) (fun g1028 => ?_)
          ·
            refine w_lload X.1 (ax_d X (show cdA 2 53 = some (.lload 4, 2, 0, 0, 0) from rfl)) (x := bv) (List.Mem.tail _ (List.Mem.tail _ (List.Mem.tail _ (List.Mem.tail _ (List.Mem.head _))))) ?_
            refine z_goto X (t := 59) (show cdA 2 55 = some (.goto 4, 3, 0, 0, 0) from rfl) (by decide) ?_
            exact N1007 _
          ·
            refine z_load X (x := kd) (show cdA 2 47 = some (.iload 9, 2, 0, 0, 0) from rfl) (List.Mem.tail _ (List.Mem.tail _ (List.Mem.tail _ (List.Mem.tail _ (List.Mem.tail _ (List.Mem.tail _ (List.Mem.tail _ (List.Mem.tail _ (List.Mem.head _))))))))) ?_
            refine z_const X (show cdA 2 49 = some (.iconst 3, 1, 0, 0, 0) from rfl) ?_
            refine z_icmp_ne X (t := 58) (show cdA 2 50 = some (.if_icmp .ne 8, 3, 1, 0, 0) from rfl) (by decide) ⟨by first | exact oq_fa4e5087 hi.2.2.2.2.1 | omega, by first | exact oq_85aa3fe6 g1002 | omega⟩ (by decide) (fun g1029 => ?_) (fun g1029 => ?_)
            ·
              refine w_lload_n X.1 (ax_d X (show cdA 2 58 = some (.lload_n 2, 1, 0, 0, 0) from rfl)) (x := av) (List.Mem.tail _ (List.Mem.tail _ (List.Mem.tail _ (List.Mem.head _)))) ?_
              exact N1007 _
            ·
              refine w_lload X.1 (ax_d X (show cdA 2 53 = some (.lload 4, 2, 0, 0, 0) from rfl)) (x := bv) (List.Mem.tail _ (List.Mem.tail _ (List.Mem.tail _ (List.Mem.tail _ (List.Mem.head _))))) ?_
              refine z_goto X (t := 59) (show cdA 2 55 = some (.goto 4, 3, 0, 0, 0) from rfl) (by decide) ?_
              exact N1007 _
  refine z_const X (show cdA 2 0 = some (.iconst 0, 1, 0, 0, 0) from rfl) ?_
  refine z_store X (lv' := [(6, .int (Int32.ofInt 0)), (0, .ref (A 93)), (1, .int (Int32.ofInt x)), (2, .long aj), (4, .long bj)]) (show cdA 2 1 = some (.istore 6, 2, 0, 0, 0) from rfl) (by decide) (fun _ h => h) ?_
  refine z_const X (show cdA 2 3 = some (.iconst 0, 1, 0, 0, 0) from rfl) ?_
  refine z_store X (lv' := [(7, .int (Int32.ofInt 0)), (6, .int (Int32.ofInt 0)), (0, .ref (A 93)), (1, .int (Int32.ofInt x)), (2, .long aj), (4, .long bj)]) (show cdA 2 4 = some (.istore 7, 2, 0, 0, 0) from rfl) (by decide) (fun _ h => h) ?_
  refine z_const X (show cdA 2 6 = some (.iconst 0, 1, 0, 0, 0) from rfl) ?_
  refine z_store X (lv' := [(8, .int (Int32.ofInt 0)), (7, .int (Int32.ofInt 0)), (6, .int (Int32.ofInt 0)), (0, .ref (A 93)), (1, .int (Int32.ofInt x)), (2, .long aj), (4, .long bj)]) (show cdA 2 7 = some (.istore 8, 2, 0, 0, 0) from rfl) (by decide) (fun _ h => h) ?_
  refine z_const X (show cdA 2 9 = some (.iconst 0, 1, 0, 0, 0) from rfl) ?_
  refine z_store X (lv' := [(9, .int (Int32.ofInt 0)), (8, .int (Int32.ofInt 0)), (7, .int (Int32.ofInt 0)), (6, .int (Int32.ofInt 0)), (0, .ref (A 93)), (1, .int (Int32.ofInt x)), (2, .long aj), (4, .long bj)]) (show cdA 2 10 = some (.istore 9, 2, 0, 0, 0) from rfl) (by decide) (fun _ h => h) ?_
  refine WS_lv (lv := [(0, .ref (A 93)), (1, .int (Int32.ofInt x)), (2, .long aj), (4, .long bj), (6, .int (Int32.ofInt 0)), (7, .int (Int32.ofInt 0)), (8, .int (Int32.ofInt 0)), (9, .int (Int32.ofInt 0))]) (List.forall_mem_cons.mpr ⟨(List.Mem.tail _ (List.Mem.tail _ (List.Mem.tail _ (List.Mem.tail _ (List.Mem.head _))))), (List.forall_mem_cons.mpr ⟨(List.Mem.tail _ (List.Mem.tail _ (List.Mem.tail _ (List.Mem.tail _ (List.Mem.tail _ (List.Mem.head _)))))), (List.forall_mem_cons.mpr ⟨(List.Mem.tail _ (List.Mem.tail _ (List.Mem.tail _ (List.Mem.tail _ (List.Mem.tail _ (List.Mem.tail _ (List.Mem.head _))))))), (List.forall_mem_cons.mpr ⟨(List.Mem.tail _ (List.Mem.tail _ (List.Mem.tail _ (List.Mem.tail _ (List.Mem.tail _ (List.Mem.tail _ (List.Mem.tail _ (List.Mem.head _)))))))), (List.forall_mem_cons.mpr ⟨(List.Mem.tail _ (List.Mem.tail _ (List.Mem.tail _ (List.Mem.head _)))), (List.forall_mem_cons.mpr ⟨(List.Mem.tail _ (List.Mem.tail _ (List.Mem.head _))), (List.forall_mem_cons.mpr ⟨(List.Mem.tail _ (List.Mem.head _)), (List.forall_mem_cons.mpr ⟨(List.Mem.head _), (fun q h => absurd h List.not_mem_nil)⟩)⟩)⟩)⟩)⟩)⟩)⟩)⟩) ?_
  refine L12 ((5 - 0 : Int).toNat + 1) s x aj bj 0 0 0 0 I F (by first | exact ⟨And.intro (p0.1) (p0.2), And.intro (by decide) (by decide), And.intro (by decide) (by decide), And.intro (by decide) (by decide), by decide, by decide, p1⟩ | omega) (Nat.lt_succ_self _) ?_
  intro s2 x3 x4 x5 x6 Is2 Fs2 hs2
  have b7 : (0 : Int) ≤ iI s2 46 ∧ iI s2 46 ≤ 12 := Is2.1 46
  refine z_aload_n X (x := A 93) (show cdA 2 148 = some (.aload_n 0, 1, 0, 0, 0) from rfl) (List.Mem.head _) ?_
  refine s_getR X 93 (show cdA 2 149 = some (.getfield 15, 3, 0, 4, 0) from rfl) (by decide) rfl rfl ?_
  refine z_aload_n X (x := A 93) (show cdA 2 152 = some (.aload_n 0, 1, 0, 0, 0) from rfl) (List.Mem.head _) ?_
  refine z_getI X 93 (show cdA 2 153 = some (.getfield 57, 3, 0, 2, 0) from rfl) (by decide) rfl rfl ?_
  have b8 : (0 : Int) ≤ iI s2 46 ∧ iI s2 46 ≤ 12 := Is2.1 46
  refine z_load X (x := x3) (show cdA 2 156 = some (.iload 6, 2, 0, 0, 0) from rfl) (List.Mem.tail _ (List.Mem.tail _ (List.Mem.tail _ (List.Mem.tail _ (List.Mem.head _))))) ?_
  refine z_ast X 95 (show cdA 2 158 = some (.iastore, 1, 0, 0, 0) from rfl) (by decide) rfl (by first | exact b8.1 | omega) (show (iI s2 46) < 12 by first | exact oq_0ddfcfee hs2.2.2.2.2.2.2 | omega) (by decide) ?_
  obtain ⟨s9, hs9⟩ : ∃ x0, x0 = uC s2 81 ((iI s2 46)).toNat (Int32.ofInt x3) := ⟨_, rfl⟩
  rw [← hs9]
  have Is9 : Bd s9 := by rw [hs9]; exact bd_C Is2 (show ((-2147483648) : Int) ≤ x3 ∧ x3 ≤ 2147483647 by first | exact ⟨hs2.2.1.1, hs2.2.1.2⟩ | omega) ⟨by first | exact hs2.2.1.1 | omega, by first | exact hs2.2.1.2 | omega⟩
  have Fs9 := fm_C (i := ((iI s2 46)).toNat) (x := Int32.ofInt x3) Fs2 (show 81 ∈ _ by decide)
  rw [← hs9] at Fs9
  have ws9_46 : iI s9 46 = iI s2 46 := by rw [hs9]; rfl
  refine z_aload_n X (x := A 93) (show cdA 2 159 = some (.aload_n 0, 1, 0, 0, 0) from rfl) (List.Mem.head _) ?_
  refine s_getR X 93 (show cdA 2 160 = some (.getfield 18, 3, 0, 5, 0) from rfl) (by decide) rfl rfl ?_
  refine z_aload_n X (x := A 93) (show cdA 2 163 = some (.aload_n 0, 1, 0, 0, 0) from rfl) (List.Mem.head _) ?_
  refine z_getI X 93 (show cdA 2 164 = some (.getfield 57, 3, 0, 2, 0) from rfl) (by decide) rfl rfl ?_
  have b10 : (0 : Int) ≤ iI s9 46 ∧ iI s9 46 ≤ 12 := Is9.1 46
  refine z_load X (x := x4) (show cdA 2 167 = some (.iload 7, 2, 0, 0, 0) from rfl) (List.Mem.tail _ (List.Mem.tail _ (List.Mem.tail _ (List.Mem.tail _ (List.Mem.tail _ (List.Mem.head _)))))) ?_
  refine z_ast X 96 (show cdA 2 169 = some (.iastore, 1, 0, 0, 0) from rfl) (by decide) rfl (by first | exact b10.1 | omega) (show (iI s9 46) < 12 by first | exact oq_210fcd76 ws9_46 hs2.2.2.2.2.2.2 | omega) (by decide) ?_
  obtain ⟨s11, hs11⟩ : ∃ x0, x0 = uC s9 82 ((iI s9 46)).toNat (Int32.ofInt x4) := ⟨_, rfl⟩
  rw [← hs11]
  have Is11 : Bd s11 := by rw [hs11]; exact bd_C Is9 (show ((-2147483648) : Int) ≤ x4 ∧ x4 ≤ 2147483647 by first | exact ⟨hs2.2.2.1.1, hs2.2.2.1.2⟩ | omega) ⟨by first | exact hs2.2.2.1.1 | omega, by first | exact hs2.2.2.1.2 | omega⟩
  have Fs11 := fm_C (i := ((iI s9 46)).toNat) (x := Int32.ofInt x4) Fs9 (show 82 ∈ _ by decide)
  rw [← hs11] at Fs11
  have ws11_46 : iI s11 46 = iI s9 46 := by rw [hs11]; rfl
  refine z_aload_n X (x := A 93) (show cdA 2 170 = some (.aload_n 0, 1, 0, 0, 0) from rfl) (List.Mem.head _) ?_
  refine s_getR X 93 (show cdA 2 171 = some (.getfield 21, 3, 0, 6, 0) from rfl) (by decide) rfl rfl ?_
  refine z_aload_n X (x := A 93) (show cdA 2 174 = some (.aload_n 0, 1, 0, 0, 0) from rfl) (List.Mem.head _) ?_
  refine z_getI X 93 (show cdA 2 175 = some (.getfield 57, 3, 0, 2, 0) from rfl) (by decide) rfl rfl ?_
  have b12 : (0 : Int) ≤ iI s11 46 ∧ iI s11 46 ≤ 12 := Is11.1 46
  refine z_load X (x := x5) (show cdA 2 178 = some (.iload 8, 2, 0, 0, 0) from rfl) (List.Mem.tail _ (List.Mem.tail _ (List.Mem.tail _ (List.Mem.tail _ (List.Mem.tail _ (List.Mem.tail _ (List.Mem.head _))))))) ?_
  refine z_ast X 97 (show cdA 2 180 = some (.iastore, 1, 0, 0, 0) from rfl) (by decide) rfl (by first | exact b12.1 | omega) (show (iI s11 46) < 12 by first | exact oq_e2284db0 ws11_46 ws9_46 hs2.2.2.2.2.2.2 | omega) (by decide) ?_
  obtain ⟨s13, hs13⟩ : ∃ x0, x0 = uC s11 83 ((iI s11 46)).toNat (Int32.ofInt x5) := ⟨_, rfl⟩
  rw [← hs13]
  have Is13 : Bd s13 := by rw [hs13]; exact bd_C Is11 (show ((-2147483648) : Int) ≤ x5 ∧ x5 ≤ 2147483647 by first | exact ⟨hs2.2.2.2.1.1, hs2.2.2.2.1.2⟩ | omega) ⟨by first | exact hs2.2.2.2.1.1 | omega, by first | exact hs2.2.2.2.1.2 | omega⟩
  have Fs13 := fm_C (i := ((iI s11 46)).toNat) (x := Int32.ofInt x5) Fs11 (show 83 ∈ _ by decide)
  rw [← hs13] at Fs13
  have ws13_46 : iI s13 46 = iI s11 46 := by rw [hs13]; rfl
  exact w_vret X.1 q hRt (ax_d X (show cdA 2 181 = some (.return_, 1, 0, 0, 0) from rfl)) (Nat.zero_le _) (Nat.zero_le _) ⟨_, rfl, Is13, Fs13, rfl, trivial⟩
set_option maxRecDepth 4000 in
theorem c0_listen_93 (G : GX l s0 D tys a0 dT) (I : Bd s) {x : Int} {aj bj : Int64} (p0 : rng x) : CT l s0 D A dT 1 (rmN 1) [.ref (A 93), .long aj, .long bj, .int (Int32.ofInt x)] s (fun o t => Bd t ∧ Fm [46, 47] [87, 80, 81, 82, 83, 84, 85, 86] s t ∧ o = .inl none ∧ (True)) := by
  refine ct_ofX G (by decide) (Nat.le_of_ble_eq_true rfl) (fun k X E ET hRt hXt q => ?_)
  show WS k 0 [(0, .ref (A 93)), (1, .long aj), (3, .long bj), (5, .int (Int32.ofInt x))] [] _ 0 0
  have F : Fm [46, 47] [87, 80, 81, 82, 83, 84, 85, 86] s s := fm_rf _ _ s
  have b1 : (0 : Int) ≤ iI s 46 ∧ iI s 46 ≤ 12 := I.1 46
  have b2 : (0 : Int) ≤ iI s 47 ∧ iI s 47 ≤ 66 := I.1 47
  have b3 : (0 : Int) ≤ iI s 43 ∧ iI s 43 ≤ 12 := I.1 43
  have b4 : (0 : Int) ≤ iI s 44 ∧ iI s 44 ≤ 66 := I.1 44
  have L42 : ∀ (n : Nat) (t : PS) (av : Int64) (bv : Int64) (c : Int), Bd t → Fm [46, 47] [87, 80, 81, 82, 83, 84, 85, 86] s t → (0 ≤ c ∧ c ≤ 12 ∧ iI t 46 ≤ c) → (12 - c : Int).toNat < n → (∀ (t' : PS) (c' : Int), Bd t' → Fm [46, 47] [87, 80, 81, 82, 83, 84, 85, 86] s t' → (0 ≤ c' ∧ c' ≤ 12 ∧ iI t' 46 ≤ c') → WS k 125 [(0, .ref (A 93)), (1, .long av), (3, .long bv), (6, .int (Int32.ofInt c'))] [] (Wd A dT t') 0 0) → WS k 42 [(0, .ref (A 93)), (1, .long av), (3, .long bv), (6, .int (Int32.ofInt c))] [] (Wd A dT t) 0 0 := by
    intro n
    induction n with
    | zero =>
      intro t av bv c I F hi hm kx
      exact absurd hm (Nat.not_lt_zero _)
    | succ n ih =>
      intro t av bv c I F hi hm kx
      have b1001 : (0 : Int) ≤ iI t 46 ∧ iI t 46 ≤ 12 := I.1 46
      have b1002 : (0 : Int) ≤ iI t 47 ∧ iI t 47 ≤ 66 := I.1 47
      have b1003 : (0 : Int) ≤ iI t 43 ∧ iI t 43 ≤ 12 := I.1 43
      have b1004 : (0 : Int) ≤ iI t 44 ∧ iI t 44 ≤ 66 := I.1 44
      refine z_load X (x := c) (show cdA 1 42 = some (.iload 6, 2, 0, 0, 0) from rfl) (List.Mem.tail _ (List.Mem.tail _ (List.Mem.tail _ (List.Mem.head _)))) ?_
      refine z_aload_n X (x := A 93) (show cdA 1 44 = some (.aload_n 0, 1, 0, 0, 0) from rfl) (List.Mem.head _) ?_
      refine s_getR X 93 (show cdA 1 45 = some (.getfield 43, 3, 0, 0, 0) from rfl) (by decide) rfl rfl ?_
      refine z_getI X 68 (show cdA 1 48 = some (.getfield 61, 3, 9, 0, 0) from rfl) (by decide) rfl rfl ?_
      have b1005 : (0 : Int) ≤ iI t 43 ∧ iI t 43 ≤ 12 := I.1 43
      refine z_icmp_ge X (t := 125) (show cdA 1 51 = some (.if_icmp .ge 74, 3, 3, 0, 0) from rfl) (by decide) ⟨by first | exact oq_fa4e5087 hi.1 | omega, by first | exact oq_78843a64 hi.2.1 | omega⟩ (rng_to _) (fun g1006 => ?_) (fun g1006 => ?_)
      ·
        refine WS_lv (lv := [(0, .ref (A 93)), (1, .long av), (3, .long bv), (6, .int (Int32.ofInt c))]) (List.forall_mem_cons.mpr ⟨(List.Mem.head _), (List.forall_mem_cons.mpr ⟨(List.Mem.tail _ (List.Mem.head _)), (List.forall_mem_cons.mpr ⟨(List.Mem.tail _ (List.Mem.tail _ (List.Mem.head _))), (List.forall_mem_cons.mpr ⟨(List.Mem.tail _ (List.Mem.tail _ (List.Mem.tail _ (List.Mem.head _)))), (fun q h => absurd h List.not_mem_nil)⟩)⟩)⟩)⟩) ?_
        exact kx _ c I F (by first | exact ⟨hi.1, hi.2.1, hi.2.2⟩ | omega)
      ·
        refine z_aload_n X (x := A 93) (show cdA 1 54 = some (.aload_n 0, 1, 0, 0, 0) from rfl) (List.Mem.head _) ?_
        refine s_getR X 93 (show cdA 1 55 = some (.getfield 43, 3, 0, 0, 0) from rfl) (by decide) rfl rfl ?_
        refine s_getR X 68 (show cdA 1 58 = some (.getfield 64, 3, 9, 3, 0) from rfl) (by decide) rfl rfl ?_
        refine z_load X (x := c) (show cdA 1 61 = some (.iload 6, 2, 0, 0, 0) from rfl) (List.Mem.tail _ (List.Mem.tail _ (List.Mem.tail _ (List.Mem.head _)))) ?_
        refine z_const X (show cdA 1 63 = some (.iconst 2, 1, 0, 0, 0) from rfl) ?_
        refine z_mul X (show cdA 1 64 = some (.imul, 1, 0, 0, 0) from rfl) ?_
        refine z_lald X 71 (show cdA 1 65 = some (.laload, 1, 0, 0, 0) from rfl) (by decide) rfl (by first | exact oq_cfc6ac54 hi.1 | omega) (show (c * 2) < 24 by first | exact oq_e062d2c8 g1006 b1005.2 | omega) (by decide) (fun j1007 => ?_)
        refine w_lload_n X.1 (ax_d X (show cdA 1 66 = some (.lload_n 1, 1, 0, 0, 0) from rfl)) (x := av) (List.Mem.tail _ (List.Mem.head _)) ?_
        refine w_land X.1 (ax_d X (show cdA 1 67 = some (.land, 1, 0, 0, 0) from rfl)) ?_
        refine z_anyJ (fun j1008 => ?_)
        refine z_aload_n X (x := A 93) (show cdA 1 68 = some (.aload_n 0, 1, 0, 0, 0) from rfl) (List.Mem.head _) ?_
        refine s_getR X 93 (show cdA 1 69 = some (.getfield 43, 3, 0, 0, 0) from rfl) (by decide) rfl rfl ?_
        refine s_getR X 68 (show cdA 1 72 = some (.getfield 64, 3, 9, 3, 0) from rfl) (by decide) rfl rfl ?_
        refine z_load X (x := c) (show cdA 1 75 = some (.iload 6, 2, 0, 0, 0) from rfl) (List.Mem.tail _ (List.Mem.tail _ (List.Mem.tail _ (List.Mem.head _)))) ?_
        refine z_const X (show cdA 1 77 = some (.iconst 2, 1, 0, 0, 0) from rfl) ?_
        refine z_mul X (show cdA 1 78 = some (.imul, 1, 0, 0, 0) from rfl) ?_
        refine z_const X (show cdA 1 79 = some (.iconst 1, 1, 0, 0, 0) from rfl) ?_
        refine z_add X (show cdA 1 80 = some (.iadd, 1, 0, 0, 0) from rfl) ?_
        refine z_lald X 71 (show cdA 1 81 = some (.laload, 1, 0, 0, 0) from rfl) (by decide) rfl (by first | exact oq_8a3e0277 hi.1 | omega) (show ((c * 2) + 1) < 24 by first | exact oq_0edc0603 g1006 b1005.2 | omega) (by decide) (fun j1009 => ?_)
        refine w_lload_n X.1 (ax_d X (show cdA 1 82 = some (.lload_n 3, 1, 0, 0, 0) from rfl)) (x := bv) (List.Mem.tail _ (List.Mem.tail _ (List.Mem.head _))) ?_
        refine w_land X.1 (ax_d X (show cdA 1 83 = some (.land, 1, 0, 0, 0) from rfl)) ?_
        refine z_anyJ (fun j1010 => ?_)
        refine w_lor X.1 (ax_d X (show cdA 1 84 = some (.lor, 1, 0, 0, 0) from rfl)) ?_
        refine z_anyJ (fun j1011 => ?_)
        refine w_lconst X.1 (ax_d X (show cdA 1 85 = some (.lconst 0, 1, 0, 0, 0) from rfl)) rfl ?_
        refine z_anyJ (fun j1012 => ?_)
        refine w_lcmp X.1 (ax_d X (show cdA 1 86 = some (.lcmp, 1, 0, 0, 0) from rfl)) ?_
        refine z_any (fun y1013 hy1013 => ?_)
        refine z_if_eq X (t := 119) (show cdA 1 87 = some (.ifCond .eq 32, 3, 0, 0, 0) from rfl) (by decide) hy1013 (fun g1014 => ?_) (fun g1014 => ?_)
        ·
          refine z_inc X (x := c) (lv' := [(6, .int (Int32.ofInt (c + 1))), (0, .ref (A 93)), (1, .long av), (3, .long bv)]) (show cdA 1 119 = some (.iinc 6 1, 3, 0, 0, 0) from rfl) (by decide) (List.Mem.tail _ (List.Mem.tail _ (List.Mem.tail _ (List.Mem.head _)))) (fun _ h => h) ?_
          refine z_goto X (t := 42) (show cdA 1 122 = some (.goto (-80), 3, 0, 0, 0) from rfl) (by decide) ?_
          refine WS_lv (lv := [(0, .ref (A 93)), (1, .long av), (3, .long bv), (6, .int (Int32.ofInt (c + 1)))]) (List.forall_mem_cons.mpr ⟨(List.Mem.tail _ (List.Mem.head _)), (List.forall_mem_cons.mpr ⟨(List.Mem.tail _ (List.Mem.tail _ (List.Mem.head _))), (List.forall_mem_cons.mpr ⟨(List.Mem.tail _ (List.Mem.tail _ (List.Mem.tail _ (List.Mem.head _)))), (List.forall_mem_cons.mpr ⟨(List.Mem.head _), (fun q h => absurd h List.not_mem_nil)⟩)⟩)⟩)⟩) ?_
          exact ih _ av bv (c + 1) I F (by first | exact ⟨oq_54f49eb5 hi.1, oq_4dae995e g1006 b1005.2, oq_03182e9e hi.2.2⟩ | omega) (by first | exact qk_me hm (by decide) (oq_b575e8c1 g1006 b1005.2) | omega) kx
        ·
          refine z_aload_n X (x := A 93) (show cdA 1 90 = some (.aload_n 0, 1, 0, 0, 0) from rfl) (List.Mem.head _) ?_
          refine s_getR X 93 (show cdA 1 91 = some (.getfield 9, 3, 0, 3, 0) from rfl) (by decide) rfl rfl ?_
          refine z_aload_n X (x := A 93) (show cdA 1 94 = some (.aload_n 0, 1, 0, 0, 0) from rfl) (List.Mem.head _) ?_
          refine z_getI X 93 (show cdA 1 95 = some (.getfield 57, 3, 0, 2, 0) from rfl) (by decide) rfl rfl ?_
          have b1015 : (0 : Int) ≤ iI t 46 ∧ iI t 46 ≤ 12 := I.1 46
          refine z_load X (x := c) (show cdA 1 98 = some (.iload 6, 2, 0, 0, 0) from rfl) (List.Mem.tail _ (List.Mem.tail _ (List.Mem.tail _ (List.Mem.head _)))) ?_
          refine z_ast X 94 (show cdA 1 100 = some (.iastore, 1, 0, 0, 0) from rfl) (by decide) rfl (by first | exact b1015.1 | omega) (show (iI t 46) < 12 by first | exact oq_79196c7f hi.2.2 g1006 b1005.2 | omega) (by decide) ?_
          obtain ⟨s1016, hs1016⟩ : ∃ x0, x0 = uC t 80 ((iI t 46)).toNat (Int32.ofInt c) := ⟨_, rfl⟩
          rw [← hs1016]
          have Is1016 : Bd s1016 := by rw [hs1016]; exact bd_C I (show (0 : Int) ≤ c ∧ c ≤ 11 by first | exact ⟨hi.1, oq_e4d7f3c5 g1006 b1005.2⟩ | omega) ⟨by first | exact oq_fa4e5087 hi.1 | omega, by first | exact oq_78843a64 hi.2.1 | omega⟩
          have Fs1016 := fm_C (i := ((iI t 46)).toNat) (x := Int32.ofInt c) F (show 80 ∈ _ by decide)
          rw [← hs1016] at Fs1016
          have ws1016_46 : iI s1016 46 = iI t 46 := by rw [hs1016]; rfl
          have ws1016_47 : iI s1016 47 = iI t 47 := by rw [hs1016]; rfl
          have ws1016_43 : iI s1016 43 = iI t 43 := by rw [hs1016]; rfl
          have ws1016_44 : iI s1016 44 = iI t 44 := by rw [hs1016]; rfl
          refine z_aload_n X (x := A 93) (show cdA 1 101 = some (.aload_n 0, 1, 0, 0, 0) from rfl) (List.Mem.head _) ?_
          refine z_load X (x := c) (show cdA 1 102 = some (.iload 6, 2, 0, 0, 0) from rfl) (List.Mem.tail _ (List.Mem.tail _ (List.Mem.tail _ (List.Mem.head _)))) ?_
          refine w_lload_n X.1 (ax_d X (show cdA 1 104 = some (.lload_n 1, 1, 0, 0, 0) from rfl)) (x := av) (List.Mem.tail _ (List.Mem.head _)) ?_
          refine w_lload_n X.1 (ax_d X (show cdA 1 105 = some (.lload_n 3, 1, 0, 0, 0) from rfl)) (x := bv) (List.Mem.tail _ (List.Mem.tail _ (List.Mem.head _))) ?_
          refine z_callV X 93 (rm := rmN 2) (As := [.int (Int32.ofInt c), .long av, .long bv]) (st := []) (show cdA 1 106 = some (.invokevirtual 68, 3, 2, 0, 0) from rfl) rfl (by decide) rfl (by rw [E.1, E.2.1, E.2.2.1]; exact c0_followSteps_93 G Is1016 (by first | exact ⟨hi.1, oq_e4d7f3c5 g1006 b1005.2⟩ | omega) (by first | exact oq_2f168143 ws1016_46 hi.2.2 g1006 b1005.2 | omega)) ⟨by rw [E.2.2.2]; exact (show (rmN 2).frames + 1 ≤ (rmN 1).frames by decide), by rw [E.2.2.2]; exact (show 8 + (mNL (miB 2) + 11) + (rmN 2).locals ≤ (rmN 1).locals by decide), by rw [E.2.2.2]; exact (show 0 + (rmN 2).cells ≤ (rmN 1).cells by decide), by rw [E.2.2.2]; exact (show 0 + (rmN 2).slots ≤ (rmN 1).slots by decide)⟩ (Nat.le_of_ble_eq_true rfl) (fun vv s1017 hq => ?_) (fun ee s1017 hq => ?_)
          rotate_left
          · obtain ⟨Is1017, Fs1017, hv, hps1017⟩ := hq; cases hv
          obtain ⟨Is1017, Fs1017, hv, hps1017⟩ := hq
          cases hv
          have Gs1017 := fm_ts Fs1016 Fs1017 (by decide) (by decide)
          have ws1017_46 : iI s1017 46 = iI s1016 46 := fm_i Fs1017 (by decide)
          have ws1017_47 : iI s1017 47 = iI s1016 47 := fm_i Fs1017 (by decide)
          have ws1017_43 : iI s1017 43 = iI s1016 43 := fm_i Fs1017 (by decide)
          have ws1017_44 : iI s1017 44 = iI s1016 44 := fm_i Fs1017 (by decide)
          show WS k 109 [(0, .ref (A 93)), (1, .long av), (3, .long bv), (6, .int (Int32.ofInt c))] [] (Wd A dT s1017) 0 0
          refine z_aload_n X (x := A 93) (show cdA 1 109 = some (.aload_n 0, 1, 0, 0, 0) from rfl) (List.Mem.head _) ?_
          refine w_dup X.1 (ax_d X (show cdA 1 110 = some (.dup, 1, 0, 0, 0) from rfl)) rfl ?_
          refine z_getI X 93 (show cdA 1 111 = some (.getfield 57, 3, 0, 2, 0) from rfl) (by decide) rfl rfl ?_
          have b1019 : (0 : Int) ≤ iI s1017 46 ∧ iI s1017 46 ≤ 12 := Is1017.1 46
          refine z_const X (show cdA 1 114 = some (.iconst 1, 1, 0, 0, 0) from rfl) ?_
          refine z_add X (show cdA 1 115 = some (.iadd, 1, 0, 0, 0) from rfl) ?_
          refine s_putI X 93 (show cdA 1 116 = some (.putfield 57, 3, 0, 2, 0) from rfl) (by decide) rfl rfl (by decide) rfl rfl rfl ?_
          obtain ⟨s1020, hs1020⟩ : ∃ x0, x0 = uI s1017 46 (Int32.ofInt ((iI s1017 46) + 1)) := ⟨_, rfl⟩
          rw [← hs1020]
          have Is1020 : Bd s1020 := by rw [hs1020]; exact bd_I Is1017 (show (0 : Int) ≤ ((iI s1017 46) + 1) ∧ ((iI s1017 46) + 1) ≤ 12 by first | exact ⟨oq_54f49eb5 b1019.1, oq_1fea0193 ws1017_46 ws1016_46 hi.2.2 g1006 b1005.2⟩ | omega) ⟨by first | exact oq_74de1e16 b1019.1 | omega, by first | exact oq_76a8a5b7 b1019.2 | omega⟩
          have Fs1020 := fm_I (x := Int32.ofInt ((iI s1017 46) + 1)) Gs1017 (show 46 ∈ _ by decide)
          rw [← hs1020] at Fs1020
          have vs1020 : iI s1020 46 = ((iI s1017 46) + 1) := by rw [hs1020]; exact iI_u ⟨by first | exact oq_74de1e16 b1019.1 | omega, by first | exact oq_76a8a5b7 b1019.2 | omega⟩
          have ws1020_47 : iI s1020 47 = iI s1017 47 := by rw [hs1020]; rfl
          have ws1020_43 : iI s1020 43 = iI s1017 43 := by rw [hs1020]; rfl
          have ws1020_44 : iI s1020 44 = iI s1017 44 := by rw [hs1020]; rfl
          refine z_inc X (x := c) (lv' := [(6, .int (Int32.ofInt (c + 1))), (0, .ref (A 93)), (1, .long av), (3, .long bv)]) (show cdA 1 119 = some (.iinc 6 1, 3, 0, 0, 0) from rfl) (by decide) (List.Mem.tail _ (List.Mem.tail _ (List.Mem.tail _ (List.Mem.head _)))) (fun _ h => h) ?_
          refine z_goto X (t := 42) (show cdA 1 122 = some (.goto (-80), 3, 0, 0, 0) from rfl) (by decide) ?_
          refine WS_lv (lv := [(0, .ref (A 93)), (1, .long av), (3, .long bv), (6, .int (Int32.ofInt (c + 1)))]) (List.forall_mem_cons.mpr ⟨(List.Mem.tail _ (List.Mem.head _)), (List.forall_mem_cons.mpr ⟨(List.Mem.tail _ (List.Mem.tail _ (List.Mem.head _))), (List.forall_mem_cons.mpr ⟨(List.Mem.tail _ (List.Mem.tail _ (List.Mem.tail _ (List.Mem.head _)))), (List.forall_mem_cons.mpr ⟨(List.Mem.head _), (fun q h => absurd h List.not_mem_nil)⟩)⟩)⟩)⟩) ?_
          exact ih _ av bv (c + 1) Is1020 Fs1020 (by first | exact ⟨oq_54f49eb5 hi.1, oq_4dae995e g1006 b1005.2, oq_ecb13324 vs1020 hi.2.2 ws1017_46 ws1016_46⟩ | omega) (by first | exact qk_me hm (by decide) (oq_b575e8c1 g1006 b1005.2) | omega) kx
  have L133 : ∀ (n : Nat) (t : PS) (av : Int64) (bv : Int64) (c : Int), Bd t → Fm [46, 47] [87, 80, 81, 82, 83, 84, 85, 86] s t → (0 ≤ c ∧ c ≤ 66 ∧ iI t 47 ≤ c) → (66 - c : Int).toNat < n → (∀ (t' : PS) (c' : Int), Bd t' → Fm [46, 47] [87, 80, 81, 82, 83, 84, 85, 86] s t' → (0 ≤ c' ∧ c' ≤ 66 ∧ iI t' 47 ≤ c') → WS k 260 [(0, .ref (A 93)), (1, .long av), (3, .long bv), (6, .int (Int32.ofInt c'))] [] (Wd A dT t') 0 0) → WS k 133 [(0, .ref (A 93)), (1, .long av), (3, .long bv), (6, .int (Int32.ofInt c))] [] (Wd A dT t) 0 0 := by
    intro n
    induction n with
    | zero =>
      intro t av bv c I F hi hm kx
      exact absurd hm (Nat.not_lt_zero _)
    | succ n ih =>
      intro t av bv c I F hi hm kx
      have b2001 : (0 : Int) ≤ iI t 46 ∧ iI t 46 ≤ 12 := I.1 46
      have b2002 : (0 : Int) ≤ iI t 47 ∧ iI t 47 ≤ 66 := I.1 47
      have b2003 : (0 : Int) ≤ iI t 43 ∧ iI t 43 ≤ 12 := I.1 43
      have b2004 : (0 : Int) ≤ iI t 44 ∧ iI t 44 ≤ 66 := I.1 44
      refine z_load X (x := c) (show cdA 1 133 = some (.iload 6, 2, 0, 0, 0) from rfl) (List.Mem.tail _ (List.Mem.tail _ (List.Mem.tail _ (List.Mem.head _)))) ?_
      refine z_aload_n X (x := A 93) (show cdA 1 135 = some (.aload_n 0, 1, 0, 0, 0) from rfl) (List.Mem.head _) ?_
      refine s_getR X 93 (show cdA 1 136 = some (.getfield 43, 3, 0, 0, 0) from rfl) (by decide) rfl rfl ?_
      refine z_getI X 68 (show cdA 1 139 = some (.getfield 75, 3, 9, 8, 0) from rfl) (by decide) rfl rfl ?_
      have b2005 : (0 : Int) ≤ iI t 44 ∧ iI t 44 ≤ 66 := I.1 44
      refine z_icmp_ge X (t := 260) (show cdA 1 142 = some (.if_icmp .ge 118, 3, 3, 0, 0) from rfl) (by decide) ⟨by first | exact oq_fa4e5087 hi.1 | omega, by first | exact oq_64f2e926 hi.2.1 | omega⟩ (rng_to _) (fun g2006 => ?_) (fun g2006 => ?_)
      ·
        refine WS_lv (lv := [(0, .ref (A 93)), (1, .long av), (3, .long bv), (6, .int (Int32.ofInt c))]) (List.forall_mem_cons.mpr ⟨(List.Mem.head _), (List.forall_mem_cons.mpr ⟨(List.Mem.tail _ (List.Mem.head _)), (List.forall_mem_cons.mpr ⟨(List.Mem.tail _ (List.Mem.tail _ (List.Mem.head _))), (List.forall_mem_cons.mpr ⟨(List.Mem.tail _ (List.Mem.tail _ (List.Mem.tail _ (List.Mem.head _)))), (fun q h => absurd h List.not_mem_nil)⟩)⟩)⟩)⟩) ?_
        exact kx _ c I F (by first | exact ⟨hi.1, hi.2.1, hi.2.2⟩ | omega)
      ·
        refine z_aload_n X (x := A 93) (show cdA 1 145 = some (.aload_n 0, 1, 0, 0, 0) from rfl) (List.Mem.head _) ?_
        refine s_getR X 93 (show cdA 1 146 = some (.getfield 43, 3, 0, 0, 0) from rfl) (by decide) rfl rfl ?_
        refine s_getR X 68 (show cdA 1 149 = some (.getfield 78, 3, 9, 7, 0) from rfl) (by decide) rfl rfl ?_
        refine z_load X (x := c) (show cdA 1 152 = some (.iload 6, 2, 0, 0, 0) from rfl) (List.Mem.tail _ (List.Mem.tail _ (List.Mem.tail _ (List.Mem.head _)))) ?_
        refine z_const X (show cdA 1 154 = some (.iconst 2, 1, 0, 0, 0) from rfl) ?_
        refine z_mul X (show cdA 1 155 = some (.imul, 1, 0, 0, 0) from rfl) ?_
        refine z_lald X 75 (show cdA 1 156 = some (.laload, 1, 0, 0, 0) from rfl) (by decide) rfl (by first | exact oq_cfc6ac54 hi.1 | omega) (show (c * 2) < 132 by first | exact oq_ff78435a g2006 b2005.2 | omega) (by decide) (fun j2007 => ?_)
        refine w_lload_n X.1 (ax_d X (show cdA 1 157 = some (.lload_n 1, 1, 0, 0, 0) from rfl)) (x := av) (List.Mem.tail _ (List.Mem.head _)) ?_
        refine w_land X.1 (ax_d X (show cdA 1 158 = some (.land, 1, 0, 0, 0) from rfl)) ?_
        refine z_anyJ (fun j2008 => ?_)
        refine z_callS X (rm := rmN 298) (As := [.long j2008]) (st := []) (show cdA 1 159 = some (.invokestatic 51, 3, 298, 1, 0) from rfl) rfl (by rw [E.1, E.2.1, E.2.2.1]; exact j_bitL G I ) ⟨by rw [E.2.2.2]; exact (show (rmN 298).frames + 1 ≤ (rmN 1).frames by decide), by rw [E.2.2.2]; exact (show 8 + (mNL (miB 298) + 11) + (rmN 298).locals ≤ (rmN 1).locals by decide), by rw [E.2.2.2]; exact (show 0 + (rmN 298).cells ≤ (rmN 1).cells by decide), by rw [E.2.2.2]; exact (show 0 + (rmN 298).slots ≤ (rmN 1).slots by decide)⟩ (Nat.le_of_ble_eq_true rfl) (fun vv s2009 hq => ?_) (fun ee s2009 hq => ?_)
        rotate_left
        · obtain ⟨Is2009, Fs2009, e2010, hv, hrs2009, hps2009⟩ := hq; cases hv
        obtain ⟨Is2009, Fs2009, e2010, hv, hrs2009, hps2009⟩ := hq
        cases hv
        have Gs2009 := fm_ts F Fs2009 (by decide) (by decide)
        have ws2009_46 : iI s2009 46 = iI t 46 := fm_i Fs2009 (by decide)
        have ws2009_47 : iI s2009 47 = iI t 47 := fm_i Fs2009 (by decide)
        have ws2009_43 : iI s2009 43 = iI t 43 := fm_i Fs2009 (by decide)
        have ws2009_44 : iI s2009 44 = iI t 44 := fm_i Fs2009 (by decide)
        show WS k 162 [(0, .ref (A 93)), (1, .long av), (3, .long bv), (6, .int (Int32.ofInt c))] [.int (Int32.ofInt e2010)] (Wd A dT s2009) 0 0
        refine z_aload_n X (x := A 93) (show cdA 1 162 = some (.aload_n 0, 1, 0, 0, 0) from rfl) (List.Mem.head _) ?_
        refine s_getR X 93 (show cdA 1 163 = some (.getfield 43, 3, 0, 0, 0) from rfl) (by decide) rfl rfl ?_
        refine s_getR X 68 (show cdA 1 166 = some (.getfield 78, 3, 9, 7, 0) from rfl) (by decide) rfl rfl ?_
        refine z_load X (x := c) (show cdA 1 169 = some (.iload 6, 2, 0, 0, 0) from rfl) (List.Mem.tail _ (List.Mem.tail _ (List.Mem.tail _ (List.Mem.head _)))) ?_
        refine z_const X (show cdA 1 171 = some (.iconst 2, 1, 0, 0, 0) from rfl) ?_
        refine z_mul X (show cdA 1 172 = some (.imul, 1, 0, 0, 0) from rfl) ?_
        refine z_const X (show cdA 1 173 = some (.iconst 1, 1, 0, 0, 0) from rfl) ?_
        refine z_add X (show cdA 1 174 = some (.iadd, 1, 0, 0, 0) from rfl) ?_
        refine z_lald X 75 (show cdA 1 175 = some (.laload, 1, 0, 0, 0) from rfl) (by decide) rfl (by first | exact oq_8a3e0277 hi.1 | omega) (show ((c * 2) + 1) < 132 by first | exact oq_643e2065 g2006 b2005.2 | omega) (by decide) (fun j2011 => ?_)
        refine w_lload_n X.1 (ax_d X (show cdA 1 176 = some (.lload_n 3, 1, 0, 0, 0) from rfl)) (x := bv) (List.Mem.tail _ (List.Mem.tail _ (List.Mem.head _))) ?_
        refine w_land X.1 (ax_d X (show cdA 1 177 = some (.land, 1, 0, 0, 0) from rfl)) ?_
        refine z_anyJ (fun j2012 => ?_)
        refine z_callS X (rm := rmN 298) (As := [.long j2012]) (st := [.int (Int32.ofInt e2010)]) (show cdA 1 178 = some (.invokestatic 51, 3, 298, 1, 0) from rfl) rfl (by rw [E.1, E.2.1, E.2.2.1]; exact j_bitL G Is2009 ) ⟨by rw [E.2.2.2]; exact (show (rmN 298).frames + 1 ≤ (rmN 1).frames by decide), by rw [E.2.2.2]; exact (show 8 + (mNL (miB 298) + 11) + (rmN 298).locals ≤ (rmN 1).locals by decide), by rw [E.2.2.2]; exact (show 0 + (rmN 298).cells ≤ (rmN 1).cells by decide), by rw [E.2.2.2]; exact (show 0 + (rmN 298).slots ≤ (rmN 1).slots by decide)⟩ (Nat.le_of_ble_eq_true rfl) (fun vv s2013 hq => ?_) (fun ee s2013 hq => ?_)
        rotate_left
        · obtain ⟨Is2013, Fs2013, e2014, hv, hrs2013, hps2013⟩ := hq; cases hv
        obtain ⟨Is2013, Fs2013, e2014, hv, hrs2013, hps2013⟩ := hq
        cases hv
        have Gs2013 := fm_ts Gs2009 Fs2013 (by decide) (by decide)
        have ws2013_46 : iI s2013 46 = iI s2009 46 := fm_i Fs2013 (by decide)
        have ws2013_47 : iI s2013 47 = iI s2009 47 := fm_i Fs2013 (by decide)
        have ws2013_43 : iI s2013 43 = iI s2009 43 := fm_i Fs2013 (by decide)
        have ws2013_44 : iI s2013 44 = iI s2009 44 := fm_i Fs2013 (by decide)
        show WS k 181 [(0, .ref (A 93)), (1, .long av), (3, .long bv), (6, .int (Int32.ofInt c))] [.int (Int32.ofInt e2014), .int (Int32.ofInt e2010)] (Wd A dT s2013) 0 0
        refine z_add X (show cdA 1 181 = some (.iadd, 1, 0, 0, 0) from rfl) ?_
        refine z_any (fun y2015 hy2015 => ?_)
        refine z_store X (lv' := [(7, .int (Int32.ofInt y2015)), (0, .ref (A 93)), (1, .long av), (3, .long bv), (6, .int (Int32.ofInt c))]) (show cdA 1 182 = some (.istore 7, 2, 0, 0, 0) from rfl) (by decide) (fun _ h => h) ?_
        refine z_load X (x := y2015) (show cdA 1 184 = some (.iload 7, 2, 0, 0, 0) from rfl) (List.Mem.head _) ?_
        refine z_if_le X (t := 254) (show cdA 1 186 = some (.ifCond .le 68, 3, 5, 0, 0) from rfl) (by decide) hy2015 (fun g2016 => ?_) (fun g2016 => ?_)
        ·
          refine z_inc X (x := c) (lv' := [(6, .int (Int32.ofInt (c + 1))), (7, .int (Int32.ofInt y2015)), (0, .ref (A 93)), (1, .long av), (3, .long bv)]) (show cdA 1 254 = some (.iinc 6 1, 3, 0, 0, 0) from rfl) (by decide) (List.Mem.tail _ (List.Mem.tail _ (List.Mem.tail _ (List.Mem.tail _ (List.Mem.head _))))) (fun _ h => h) ?_
          refine z_goto X (t := 133) (show cdA 1 257 = some (.goto (-124), 3, 0, 0, 0) from rfl) (by decide) ?_
          refine WS_lv (lv := [(0, .ref (A 93)), (1, .long av), (3, .long bv), (6, .int (Int32.ofInt (c + 1)))]) (List.forall_mem_cons.mpr ⟨(List.Mem.tail _ (List.Mem.tail _ (List.Mem.head _))), (List.forall_mem_cons.mpr ⟨(List.Mem.tail _ (List.Mem.tail _ (List.Mem.tail _ (List.Mem.head _)))), (List.forall_mem_cons.mpr ⟨(List.Mem.tail _ (List.Mem.tail _ (List.Mem.tail _ (List.Mem.tail _ (List.Mem.head _))))), (List.forall_mem_cons.mpr ⟨(List.Mem.head _), (fun q h => absurd h List.not_mem_nil)⟩)⟩)⟩)⟩) ?_
          exact ih _ av bv (c + 1) Is2013 Gs2013 (by first | exact ⟨oq_54f49eb5 hi.1, oq_319a18a4 g2006 b2005.2, oq_2e1f687c ws2013_47 hi.2.2 ws2009_47⟩ | omega) (by first | exact qk_me hm (by decide) (oq_dd0e9829 g2006 b2005.2) | omega) kx
        ·
          refine z_aload_n X (x := A 93) (show cdA 1 189 = some (.aload_n 0, 1, 0, 0, 0) from rfl) (List.Mem.tail _ (List.Mem.head _)) ?_
          refine s_getR X 93 (show cdA 1 190 = some (.getfield 26, 3, 0, 8, 0) from rfl) (by decide) rfl rfl ?_
          refine z_aload_n X (x := A 93) (show cdA 1 193 = some (.aload_n 0, 1, 0, 0, 0) from rfl) (List.Mem.tail _ (List.Mem.head _)) ?_
          refine z_getI X 93 (show cdA 1 194 = some (.getfield 72, 3, 0, 7, 0) from rfl) (by decide) rfl rfl ?_
          have b2017 : (0 : Int) ≤ iI s2013 47 ∧ iI s2013 47 ≤ 66 := Is2013.1 47
          refine z_aload_n X (x := A 93) (show cdA 1 197 = some (.aload_n 0, 1, 0, 0, 0) from rfl) (List.Mem.tail _ (List.Mem.head _)) ?_
          refine s_getR X 93 (show cdA 1 198 = some (.getfield 43, 3, 0, 0, 0) from rfl) (by decide) rfl rfl ?_
          refine s_getR X 68 (show cdA 1 201 = some (.getfield 81, 3, 9, 6, 0) from rfl) (by decide) rfl rfl ?_
          refine z_load X (x := c) (show cdA 1 204 = some (.iload 6, 2, 0, 0, 0) from rfl) (List.Mem.tail _ (List.Mem.tail _ (List.Mem.tail _ (List.Mem.tail _ (List.Mem.head _))))) ?_
          refine z_ald X 74 (show cdA 1 206 = some (.iaload, 1, 0, 0, 0) from rfl) (by decide) rfl (by first | exact hi.1 | omega) (show c < 66 by first | exact oq_256e4529 g2006 b2005.2 | omega) (by decide) ?_
          have b2018 : (0 : Int) ≤ iC s2013 62 (c).toNat ∧ iC s2013 62 (c).toNat ≤ 143 := Is2013.2 62 _ (show (c).toNat < 66 by first | exact oq_d7ff7873 g2006 b2005.2 | omega)
          refine z_bipush X (show cdA 1 207 = some (.bipush 12, 2, 0, 0, 12) from rfl) ?_
          refine z_quot X (show cdA 1 209 = some (.idiv, 1, 0, 0, 0) from rfl) (by first | exact b2018.1 | omega) (rng_to _) (by decide) (by decide) ?_
          refine z_ast X 98 (show cdA 1 210 = some (.iastore, 1, 0, 0, 0) from rfl) (by decide) rfl (by first | exact b2017.1 | omega) (show (iI s2013 47) < 66 by first | exact oq_141bb310 ws2013_47 ws2009_47 hi.2.2 g2006 b2005.2 | omega) (by decide) ?_
          obtain ⟨s2019, hs2019⟩ : ∃ x0, x0 = uC s2013 84 ((iI s2013 47)).toNat (Int32.ofInt ((iC s2013 62 (c).toNat) / 12)) := ⟨_, rfl⟩
          rw [← hs2019]
          have Is2019 : Bd s2019 := by rw [hs2019]; exact bd_C Is2013 (show (0 : Int) ≤ ((iC s2013 62 (c).toNat) / 12) ∧ ((iC s2013 62 (c).toNat) / 12) ≤ 11 by first | exact ⟨oq_37eb78e0 b2018.1, oq_a03fe580 b2018.2⟩ | omega) ⟨by first | exact oq_e17ab641 b2018.1 | omega, by first | exact oq_c285d9d6 b2018.2 | omega⟩
          have Fs2019 := fm_C (i := ((iI s2013 47)).toNat) (x := Int32.ofInt ((iC s2013 62 (c).toNat) / 12)) Gs2013 (show 84 ∈ _ by decide)
          rw [← hs2019] at Fs2019
          have ws2019_46 : iI s2019 46 = iI s2013 46 := by rw [hs2019]; rfl
          have ws2019_47 : iI s2019 47 = iI s2013 47 := by rw [hs2019]; rfl
          have ws2019_43 : iI s2019 43 = iI s2013 43 := by rw [hs2019]; rfl
          have ws2019_44 : iI s2019 44 = iI s2013 44 := by rw [hs2019]; rfl
          refine z_aload_n X (x := A 93) (show cdA 1 211 = some (.aload_n 0, 1, 0, 0, 0) from rfl) (List.Mem.tail _ (List.Mem.head _)) ?_
          refine s_getR X 93 (show cdA 1 212 = some (.getfield 29, 3, 0, 9, 0) from rfl) (by decide) rfl rfl ?_
          refine z_aload_n X (x := A 93) (show cdA 1 215 = some (.aload_n 0, 1, 0, 0, 0) from rfl) (List.Mem.tail _ (List.Mem.head _)) ?_
          refine z_getI X 93 (show cdA 1 216 = some (.getfield 72, 3, 0, 7, 0) from rfl) (by decide) rfl rfl ?_
          have b2020 : (0 : Int) ≤ iI s2019 47 ∧ iI s2019 47 ≤ 66 := Is2019.1 47
          refine z_aload_n X (x := A 93) (show cdA 1 219 = some (.aload_n 0, 1, 0, 0, 0) from rfl) (List.Mem.tail _ (List.Mem.head _)) ?_
          refine s_getR X 93 (show cdA 1 220 = some (.getfield 43, 3, 0, 0, 0) from rfl) (by decide) rfl rfl ?_
          refine s_getR X 68 (show cdA 1 223 = some (.getfield 81, 3, 9, 6, 0) from rfl) (by decide) rfl rfl ?_
          refine z_load X (x := c) (show cdA 1 226 = some (.iload 6, 2, 0, 0, 0) from rfl) (List.Mem.tail _ (List.Mem.tail _ (List.Mem.tail _ (List.Mem.tail _ (List.Mem.head _))))) ?_
          refine z_ald X 74 (show cdA 1 228 = some (.iaload, 1, 0, 0, 0) from rfl) (by decide) rfl (by first | exact hi.1 | omega) (show c < 66 by first | exact oq_256e4529 g2006 b2005.2 | omega) (by decide) ?_
          have b2021 : (0 : Int) ≤ iC s2019 62 (c).toNat ∧ iC s2019 62 (c).toNat ≤ 143 := Is2019.2 62 _ (show (c).toNat < 66 by first | exact oq_d7ff7873 g2006 b2005.2 | omega)
          refine z_bipush X (show cdA 1 229 = some (.bipush 12, 2, 0, 0, 12) from rfl) ?_
          refine z_mod X (show cdA 1 231 = some (.irem, 1, 0, 0, 0) from rfl) (by first | exact b2021.1 | omega) (rng_to _) (by decide) (by decide) ?_
          refine z_ast X 99 (show cdA 1 232 = some (.iastore, 1, 0, 0, 0) from rfl) (by decide) rfl (by first | exact b2020.1 | omega) (show (iI s2019 47) < 66 by first | exact oq_47fd6e20 ws2019_47 ws2013_47 ws2009_47 g2006 b2005.2 hi.2.2 | omega) (by decide) ?_
          obtain ⟨s2022, hs2022⟩ : ∃ x0, x0 = uC s2019 85 ((iI s2019 47)).toNat (Int32.ofInt ((iC s2019 62 (c).toNat) % 12)) := ⟨_, rfl⟩
          rw [← hs2022]
          have Is2022 : Bd s2022 := by rw [hs2022]; exact bd_C Is2019 (show (0 : Int) ≤ ((iC s2019 62 (c).toNat) % 12) ∧ ((iC s2019 62 (c).toNat) % 12) ≤ 11 by first | exact ⟨oq_b83041cc, oq_e286272e⟩ | omega) ⟨by first | exact oq_9d26ea27 | omega, by first | exact oq_6634e3d0 | omega⟩
          have Fs2022 := fm_C (i := ((iI s2019 47)).toNat) (x := Int32.ofInt ((iC s2019 62 (c).toNat) % 12)) Fs2019 (show 85 ∈ _ by decide)
          rw [← hs2022] at Fs2022
          have ws2022_46 : iI s2022 46 = iI s2019 46 := by rw [hs2022]; rfl
          have ws2022_47 : iI s2022 47 = iI s2019 47 := by rw [hs2022]; rfl
          have ws2022_43 : iI s2022 43 = iI s2019 43 := by rw [hs2022]; rfl
          have ws2022_44 : iI s2022 44 = iI s2019 44 := by rw [hs2022]; rfl
          refine z_aload_n X (x := A 93) (show cdA 1 233 = some (.aload_n 0, 1, 0, 0, 0) from rfl) (List.Mem.tail _ (List.Mem.head _)) ?_
          refine s_getR X 93 (show cdA 1 234 = some (.getfield 32, 3, 0, 10, 0) from rfl) (by decide) rfl rfl ?_
          refine z_aload_n X (x := A 93) (show cdA 1 237 = some (.aload_n 0, 1, 0, 0, 0) from rfl) (List.Mem.tail _ (List.Mem.head _)) ?_
          refine z_getI X 93 (show cdA 1 238 = some (.getfield 72, 3, 0, 7, 0) from rfl) (by decide) rfl rfl ?_
          have b2023 : (0 : Int) ≤ iI s2022 47 ∧ iI s2022 47 ≤ 66 := Is2022.1 47
          refine z_load X (x := y2015) (show cdA 1 241 = some (.iload 7, 2, 0, 0, 0) from rfl) (List.Mem.head _) ?_
          refine z_ast X 100 (show cdA 1 243 = some (.iastore, 1, 0, 0, 0) from rfl) (by decide) rfl (by first | exact b2023.1 | omega) (show (iI s2022 47) < 66 by first | exact oq_3af0036b ws2022_47 ws2019_47 ws2013_47 ws2009_47 g2006 b2005.2 hi.2.2 | omega) (by decide) ?_
          obtain ⟨s2024, hs2024⟩ : ∃ x0, x0 = uC s2022 86 ((iI s2022 47)).toNat (Int32.ofInt y2015) := ⟨_, rfl⟩
          rw [← hs2024]
          have Is2024 : Bd s2024 := by rw [hs2024]; exact bd_C Is2022 (show ((-2147483648) : Int) ≤ y2015 ∧ y2015 ≤ 2147483647 by first | exact ⟨hy2015.1, hy2015.2⟩ | omega) hy2015
          have Fs2024 := fm_C (i := ((iI s2022 47)).toNat) (x := Int32.ofInt y2015) Fs2022 (show 86 ∈ _ by decide)
          rw [← hs2024] at Fs2024
          have ws2024_46 : iI s2024 46 = iI s2022 46 := by rw [hs2024]; rfl
          have ws2024_47 : iI s2024 47 = iI s2022 47 := by rw [hs2024]; rfl
          have ws2024_43 : iI s2024 43 = iI s2022 43 := by rw [hs2024]; rfl
          have ws2024_44 : iI s2024 44 = iI s2022 44 := by rw [hs2024]; rfl
          refine z_aload_n X (x := A 93) (show cdA 1 244 = some (.aload_n 0, 1, 0, 0, 0) from rfl) (List.Mem.tail _ (List.Mem.head _)) ?_
          refine w_dup X.1 (ax_d X (show cdA 1 245 = some (.dup, 1, 0, 0, 0) from rfl)) rfl ?_
          refine z_getI X 93 (show cdA 1 246 = some (.getfield 72, 3, 0, 7, 0) from rfl) (by decide) rfl rfl ?_
          have b2025 : (0 : Int) ≤ iI s2024 47 ∧ iI s2024 47 ≤ 66 := Is2024.1 47
          refine z_const X (show cdA 1 249 = some (.iconst 1, 1, 0, 0, 0) from rfl) ?_
          refine z_add X (show cdA 1 250 = some (.iadd, 1, 0, 0, 0) from rfl) ?_
          refine s_putI X 93 (show cdA 1 251 = some (.putfield 72, 3, 0, 7, 0) from rfl) (by decide) rfl rfl (by decide) rfl rfl rfl ?_
          obtain ⟨s2026, hs2026⟩ : ∃ x0, x0 = uI s2024 47 (Int32.ofInt ((iI s2024 47) + 1)) := ⟨_, rfl⟩
          rw [← hs2026]
          have Is2026 : Bd s2026 := by rw [hs2026]; exact bd_I Is2024 (show (0 : Int) ≤ ((iI s2024 47) + 1) ∧ ((iI s2024 47) + 1) ≤ 66 by first | exact ⟨oq_54f49eb5 b2025.1, oq_d0eb7b2e ws2024_47 ws2022_47 ws2019_47 ws2013_47 ws2009_47 g2006 b2005.2 hi.2.2⟩ | omega) ⟨by first | exact oq_74de1e16 b2025.1 | omega, by first | exact oq_d99c2177 b2025.2 | omega⟩
          have Fs2026 := fm_I (x := Int32.ofInt ((iI s2024 47) + 1)) Fs2024 (show 47 ∈ _ by decide)
          rw [← hs2026] at Fs2026
          have vs2026 : iI s2026 47 = ((iI s2024 47) + 1) := by rw [hs2026]; exact iI_u ⟨by first | exact oq_74de1e16 b2025.1 | omega, by first | exact oq_d99c2177 b2025.2 | omega⟩
          have ws2026_46 : iI s2026 46 = iI s2024 46 := by rw [hs2026]; rfl
          have ws2026_43 : iI s2026 43 = iI s2024 43 := by rw [hs2026]; rfl
          have ws2026_44 : iI s2026 44 = iI s2024 44 := by rw [hs2026]; rfl
          refine z_inc X (x := c) (lv' := [(6, .int (Int32.ofInt (c + 1))), (7, .int (Int32.ofInt y2015)), (0, .ref (A 93)), (1, .long av), (3, .long bv)]) (show cdA 1 254 = some (.iinc 6 1, 3, 0, 0, 0) from rfl) (by decide) (List.Mem.tail _ (List.Mem.tail _ (List.Mem.tail _ (List.Mem.tail _ (List.Mem.head _))))) (fun _ h => h) ?_
          refine z_goto X (t := 133) (show cdA 1 257 = some (.goto (-124), 3, 0, 0, 0) from rfl) (by decide) ?_
          refine WS_lv (lv := [(0, .ref (A 93)), (1, .long av), (3, .long bv), (6, .int (Int32.ofInt (c + 1)))]) (List.forall_mem_cons.mpr ⟨(List.Mem.tail _ (List.Mem.tail _ (List.Mem.head _))), (List.forall_mem_cons.mpr ⟨(List.Mem.tail _ (List.Mem.tail _ (List.Mem.tail _ (List.Mem.head _)))), (List.forall_mem_cons.mpr ⟨(List.Mem.tail _ (List.Mem.tail _ (List.Mem.tail _ (List.Mem.tail _ (List.Mem.head _))))), (List.forall_mem_cons.mpr ⟨(List.Mem.head _), (fun q h => absurd h List.not_mem_nil)⟩)⟩)⟩)⟩) ?_
          exact ih _ av bv (c + 1) Is2026 Fs2026 (by first | exact ⟨oq_54f49eb5 hi.1, oq_319a18a4 g2006 b2005.2, oq_6fc60775 vs2026 ws2024_47 ws2022_47 ws2019_47 ws2013_47 ws2009_47 hi.2.2⟩ | omega) (by first | exact qk_me hm (by decide) (oq_dd0e9829 g2006 b2005.2) | omega) kx
  refine z_aload_n X (x := A 93) (show cdA 1 0 = some (.aload_n 0, 1, 0, 0, 0) from rfl) (List.Mem.head _) ?_
  refine s_getR X 93 (show cdA 1 1 = some (.getfield 37, 3, 0, 11, 0) from rfl) (by decide) rfl rfl ?_
  refine z_const X (show cdA 1 4 = some (.iconst 4, 1, 0, 0, 0) from rfl) ?_
  refine w_lload_n X.1 (ax_d X (show cdA 1 5 = some (.lload_n 1, 1, 0, 0, 0) from rfl)) (x := aj) (List.Mem.tail _ (List.Mem.head _)) ?_
  refine z_callS X (rm := rmN 298) (As := [.long aj]) (st := [.int (Int32.ofInt 4), .ref (A 101)]) (show cdA 1 6 = some (.invokestatic 51, 3, 298, 1, 0) from rfl) rfl (by rw [E.1, E.2.1, E.2.2.1]; exact j_bitL G I ) ⟨by rw [E.2.2.2]; exact (show (rmN 298).frames + 1 ≤ (rmN 1).frames by decide), by rw [E.2.2.2]; exact (show 8 + (mNL (miB 298) + 11) + (rmN 298).locals ≤ (rmN 1).locals by decide), by rw [E.2.2.2]; exact (show 0 + (rmN 298).cells ≤ (rmN 1).cells by decide), by rw [E.2.2.2]; exact (show 0 + (rmN 298).slots ≤ (rmN 1).slots by decide)⟩ (Nat.le_of_ble_eq_true rfl) (fun vv s5 hq => ?_) (fun ee s5 hq => ?_)
  rotate_left
  · obtain ⟨Is5, Fs5, e6, hv, hrs5, hps5⟩ := hq; cases hv
  obtain ⟨Is5, Fs5, e6, hv, hrs5, hps5⟩ := hq
  cases hv
  have Gs5 := fm_ts F Fs5 (by decide) (by decide)
  have ws5_46 : iI s5 46 = iI s 46 := fm_i Fs5 (by decide)
  have ws5_47 : iI s5 47 = iI s 47 := fm_i Fs5 (by decide)
  have ws5_43 : iI s5 43 = iI s 43 := fm_i Fs5 (by decide)
  have ws5_44 : iI s5 44 = iI s 44 := fm_i Fs5 (by decide)
  show WS k 9 [(0, .ref (A 93)), (1, .long aj), (3, .long bj), (5, .int (Int32.ofInt x))] [.int (Int32.ofInt e6), .int (Int32.ofInt 4), .ref (A 101)] (Wd A dT s5) 0 0
  refine w_lload_n X.1 (ax_d X (show cdA 1 9 = some (.lload_n 3, 1, 0, 0, 0) from rfl)) (x := bj) (List.Mem.tail _ (List.Mem.tail _ (List.Mem.head _))) ?_
  refine z_callS X (rm := rmN 298) (As := [.long bj]) (st := [.int (Int32.ofInt e6), .int (Int32.ofInt 4), .ref (A 101)]) (show cdA 1 10 = some (.invokestatic 51, 3, 298, 1, 0) from rfl) rfl (by rw [E.1, E.2.1, E.2.2.1]; exact j_bitL G Is5 ) ⟨by rw [E.2.2.2]; exact (show (rmN 298).frames + 1 ≤ (rmN 1).frames by decide), by rw [E.2.2.2]; exact (show 8 + (mNL (miB 298) + 11) + (rmN 298).locals ≤ (rmN 1).locals by decide), by rw [E.2.2.2]; exact (show 0 + (rmN 298).cells ≤ (rmN 1).cells by decide), by rw [E.2.2.2]; exact (show 0 + (rmN 298).slots ≤ (rmN 1).slots by decide)⟩ (Nat.le_of_ble_eq_true rfl) (fun vv s7 hq => ?_) (fun ee s7 hq => ?_)
  rotate_left
  · obtain ⟨Is7, Fs7, e8, hv, hrs7, hps7⟩ := hq; cases hv
  obtain ⟨Is7, Fs7, e8, hv, hrs7, hps7⟩ := hq
  cases hv
  have Gs7 := fm_ts Gs5 Fs7 (by decide) (by decide)
  have ws7_46 : iI s7 46 = iI s5 46 := fm_i Fs7 (by decide)
  have ws7_47 : iI s7 47 = iI s5 47 := fm_i Fs7 (by decide)
  have ws7_43 : iI s7 43 = iI s5 43 := fm_i Fs7 (by decide)
  have ws7_44 : iI s7 44 = iI s5 44 := fm_i Fs7 (by decide)
  show WS k 13 [(0, .ref (A 93)), (1, .long aj), (3, .long bj), (5, .int (Int32.ofInt x))] [.int (Int32.ofInt e8), .int (Int32.ofInt e6), .int (Int32.ofInt 4), .ref (A 101)] (Wd A dT s7) 0 0
  refine z_add X (show cdA 1 13 = some (.iadd, 1, 0, 0, 0) from rfl) ?_
  refine z_any (fun y9 hy9 => ?_)
  refine z_ast X 101 (show cdA 1 14 = some (.iastore, 1, 0, 0, 0) from rfl) (by decide) rfl (by decide) (show 4 < 7 by decide) (by decide) ?_
  obtain ⟨s10, hs10⟩ : ∃ x0, x0 = uC s7 87 (4 : Int).toNat (Int32.ofInt y9) := ⟨_, rfl⟩
  rw [← hs10]
  have Is10 : Bd s10 := by rw [hs10]; exact bd_C Is7 (show ((-2147483648) : Int) ≤ y9 ∧ y9 ≤ 2147483647 by first | exact ⟨hy9.1, hy9.2⟩ | omega) hy9
  have Fs10 := fm_C (i := (4 : Int).toNat) (x := Int32.ofInt y9) Gs7 (show 87 ∈ _ by decide)
  rw [← hs10] at Fs10
  have ws10_46 : iI s10 46 = iI s7 46 := by rw [hs10]; rfl
  have ws10_47 : iI s10 47 = iI s7 47 := by rw [hs10]; rfl
  have ws10_43 : iI s10 43 = iI s7 43 := by rw [hs10]; rfl
  have ws10_44 : iI s10 44 = iI s7 44 := by rw [hs10]; rfl
  refine z_aload_n X (x := A 93) (show cdA 1 15 = some (.aload_n 0, 1, 0, 0, 0) from rfl) (List.Mem.head _) ?_
  refine s_getR X 93 (show cdA 1 16 = some (.getfield 37, 3, 0, 11, 0) from rfl) (by decide) rfl rfl ?_
  refine z_const X (show cdA 1 19 = some (.iconst 5, 1, 0, 0, 0) from rfl) ?_
  refine w_lload_n X.1 (ax_d X (show cdA 1 20 = some (.lload_n 1, 1, 0, 0, 0) from rfl)) (x := aj) (List.Mem.tail _ (List.Mem.head _)) ?_
  refine z_callS X (rm := rmN 298) (As := [.long aj]) (st := [.int (Int32.ofInt 5), .ref (A 101)]) (show cdA 1 21 = some (.invokestatic 51, 3, 298, 1, 0) from rfl) rfl (by rw [E.1, E.2.1, E.2.2.1]; exact j_bitL G Is10 ) ⟨by rw [E.2.2.2]; exact (show (rmN 298).frames + 1 ≤ (rmN 1).frames by decide), by rw [E.2.2.2]; exact (show 8 + (mNL (miB 298) + 11) + (rmN 298).locals ≤ (rmN 1).locals by decide), by rw [E.2.2.2]; exact (show 0 + (rmN 298).cells ≤ (rmN 1).cells by decide), by rw [E.2.2.2]; exact (show 0 + (rmN 298).slots ≤ (rmN 1).slots by decide)⟩ (Nat.le_of_ble_eq_true rfl) (fun vv s11 hq => ?_) (fun ee s11 hq => ?_)
  rotate_left
  · obtain ⟨Is11, Fs11, e12, hv, hrs11, hps11⟩ := hq; cases hv
  obtain ⟨Is11, Fs11, e12, hv, hrs11, hps11⟩ := hq
  cases hv
  have Gs11 := fm_ts Fs10 Fs11 (by decide) (by decide)
  have ws11_46 : iI s11 46 = iI s10 46 := fm_i Fs11 (by decide)
  have ws11_47 : iI s11 47 = iI s10 47 := fm_i Fs11 (by decide)
  have ws11_43 : iI s11 43 = iI s10 43 := fm_i Fs11 (by decide)
  have ws11_44 : iI s11 44 = iI s10 44 := fm_i Fs11 (by decide)
  show WS k 24 [(0, .ref (A 93)), (1, .long aj), (3, .long bj), (5, .int (Int32.ofInt x))] [.int (Int32.ofInt e12), .int (Int32.ofInt 5), .ref (A 101)] (Wd A dT s11) 0 0
  refine z_ast X 101 (show cdA 1 24 = some (.iastore, 1, 0, 0, 0) from rfl) (by decide) rfl (by decide) (show 5 < 7 by decide) (by decide) ?_
  obtain ⟨s13, hs13⟩ : ∃ x0, x0 = uC s11 87 (5 : Int).toNat (Int32.ofInt e12) := ⟨_, rfl⟩
  rw [← hs13]
  have Is13 : Bd s13 := by rw [hs13]; exact bd_C Is11 (show ((-2147483648) : Int) ≤ e12 ∧ e12 ≤ 2147483647 by omega) hrs11
  have Fs13 := fm_C (i := (5 : Int).toNat) (x := Int32.ofInt e12) Gs11 (show 87 ∈ _ by decide)
  rw [← hs13] at Fs13
  have ws13_46 : iI s13 46 = iI s11 46 := by rw [hs13]; rfl
  have ws13_47 : iI s13 47 = iI s11 47 := by rw [hs13]; rfl
  have ws13_43 : iI s13 43 = iI s11 43 := by rw [hs13]; rfl
  have ws13_44 : iI s13 44 = iI s11 44 := by rw [hs13]; rfl
  refine z_aload_n X (x := A 93) (show cdA 1 25 = some (.aload_n 0, 1, 0, 0, 0) from rfl) (List.Mem.head _) ?_
  refine s_getR X 93 (show cdA 1 26 = some (.getfield 37, 3, 0, 11, 0) from rfl) (by decide) rfl rfl ?_
  refine z_bipush X (show cdA 1 29 = some (.bipush 6, 2, 0, 0, 6) from rfl) ?_
  refine z_load X (x := x) (show cdA 1 31 = some (.iload 5, 2, 0, 0, 0) from rfl) (List.Mem.tail _ (List.Mem.tail _ (List.Mem.tail _ (List.Mem.head _)))) ?_
  refine z_ast X 101 (show cdA 1 33 = some (.iastore, 1, 0, 0, 0) from rfl) (by decide) rfl (by decide) (show 6 < 7 by decide) (by decide) ?_
  obtain ⟨s14, hs14⟩ : ∃ x0, x0 = uC s13 87 (6 : Int).toNat (Int32.ofInt x) := ⟨_, rfl⟩
  rw [← hs14]
  have Is14 : Bd s14 := by rw [hs14]; exact bd_C Is13 (show ((-2147483648) : Int) ≤ x ∧ x ≤ 2147483647 by first | exact ⟨p0.1, p0.2⟩ | omega) ⟨by first | exact p0.1 | omega, by first | exact p0.2 | omega⟩
  have Fs14 := fm_C (i := (6 : Int).toNat) (x := Int32.ofInt x) Fs13 (show 87 ∈ _ by decide)
  rw [← hs14] at Fs14
  have ws14_46 : iI s14 46 = iI s13 46 := by rw [hs14]; rfl
  have ws14_47 : iI s14 47 = iI s13 47 := by rw [hs14]; rfl
  have ws14_43 : iI s14 43 = iI s13 43 := by rw [hs14]; rfl
  have ws14_44 : iI s14 44 = iI s13 44 := by rw [hs14]; rfl
  refine z_aload_n X (x := A 93) (show cdA 1 34 = some (.aload_n 0, 1, 0, 0, 0) from rfl) (List.Mem.head _) ?_
  refine z_const X (show cdA 1 35 = some (.iconst 0, 1, 0, 0, 0) from rfl) ?_
  refine s_putI X 93 (show cdA 1 36 = some (.putfield 57, 3, 0, 2, 0) from rfl) (by decide) rfl rfl (by decide) rfl rfl rfl ?_
  obtain ⟨s15, hs15⟩ : ∃ x0, x0 = uI s14 46 (Int32.ofInt 0) := ⟨_, rfl⟩
  rw [← hs15]
  have Is15 : Bd s15 := by rw [hs15]; exact bd_I Is14 (show (0 : Int) ≤ 0 ∧ 0 ≤ 12 by first | exact ⟨by decide, by decide⟩ | omega) (by decide)
  have Fs15 := fm_I (x := Int32.ofInt 0) Fs14 (show 46 ∈ _ by decide)
  rw [← hs15] at Fs15
  have vs15 : iI s15 46 = 0 := by rw [hs15]; exact iI_u (by decide)
  have ws15_47 : iI s15 47 = iI s14 47 := by rw [hs15]; rfl
  have ws15_43 : iI s15 43 = iI s14 43 := by rw [hs15]; rfl
  have ws15_44 : iI s15 44 = iI s14 44 := by rw [hs15]; rfl
  refine z_const X (show cdA 1 39 = some (.iconst 0, 1, 0, 0, 0) from rfl) ?_
  refine z_store X (lv' := [(6, .int (Int32.ofInt 0)), (0, .ref (A 93)), (1, .long aj), (3, .long bj), (5, .int (Int32.ofInt x))]) (show cdA 1 40 = some (.istore 6, 2, 0, 0, 0) from rfl) (by decide) (fun _ h => h) ?_
  refine WS_lv (lv := [(0, .ref (A 93)), (1, .long aj), (3, .long bj), (6, .int (Int32.ofInt 0))]) (List.forall_mem_cons.mpr ⟨(List.Mem.tail _ (List.Mem.head _)), (List.forall_mem_cons.mpr ⟨(List.Mem.tail _ (List.Mem.tail _ (List.Mem.head _))), (List.forall_mem_cons.mpr ⟨(List.Mem.tail _ (List.Mem.tail _ (List.Mem.tail _ (List.Mem.head _)))), (List.forall_mem_cons.mpr ⟨(List.Mem.head _), (fun q h => absurd h List.not_mem_nil)⟩)⟩)⟩)⟩) ?_
  refine L42 ((12 - 0 : Int).toNat + 1) s15 aj bj 0 Is15 Fs15 (by first | exact ⟨by decide, by decide, oq_1af0b4f8 vs15⟩ | omega) (Nat.lt_succ_self _) ?_
  intro s16 x17 Is16 Fs16 hs16
  have b18 : (0 : Int) ≤ iI s16 46 ∧ iI s16 46 ≤ 12 := Is16.1 46
  have b19 : (0 : Int) ≤ iI s16 47 ∧ iI s16 47 ≤ 66 := Is16.1 47
  have b20 : (0 : Int) ≤ iI s16 43 ∧ iI s16 43 ≤ 12 := Is16.1 43
  have b21 : (0 : Int) ≤ iI s16 44 ∧ iI s16 44 ≤ 66 := Is16.1 44
  refine z_aload_n X (x := A 93) (show cdA 1 125 = some (.aload_n 0, 1, 0, 0, 0) from rfl) (List.Mem.head _) ?_
  refine z_const X (show cdA 1 126 = some (.iconst 0, 1, 0, 0, 0) from rfl) ?_
  refine s_putI X 93 (show cdA 1 127 = some (.putfield 72, 3, 0, 7, 0) from rfl) (by decide) rfl rfl (by decide) rfl rfl rfl ?_
  obtain ⟨s22, hs22⟩ : ∃ x0, x0 = uI s16 47 (Int32.ofInt 0) := ⟨_, rfl⟩
  rw [← hs22]
  have Is22 : Bd s22 := by rw [hs22]; exact bd_I Is16 (show (0 : Int) ≤ 0 ∧ 0 ≤ 66 by first | exact ⟨by decide, by decide⟩ | omega) (by decide)
  have Fs22 := fm_I (x := Int32.ofInt 0) Fs16 (show 47 ∈ _ by decide)
  rw [← hs22] at Fs22
  have vs22 : iI s22 47 = 0 := by rw [hs22]; exact iI_u (by decide)
  have ws22_46 : iI s22 46 = iI s16 46 := by rw [hs22]; rfl
  have ws22_43 : iI s22 43 = iI s16 43 := by rw [hs22]; rfl
  have ws22_44 : iI s22 44 = iI s16 44 := by rw [hs22]; rfl
  refine z_const X (show cdA 1 130 = some (.iconst 0, 1, 0, 0, 0) from rfl) ?_
  refine z_store X (lv' := [(6, .int (Int32.ofInt 0)), (0, .ref (A 93)), (1, .long aj), (3, .long bj)]) (show cdA 1 131 = some (.istore 6, 2, 0, 0, 0) from rfl) (by decide) (fun _ h => h) ?_
  refine WS_lv (lv := [(0, .ref (A 93)), (1, .long aj), (3, .long bj), (6, .int (Int32.ofInt 0))]) (List.forall_mem_cons.mpr ⟨(List.Mem.tail _ (List.Mem.head _)), (List.forall_mem_cons.mpr ⟨(List.Mem.tail _ (List.Mem.tail _ (List.Mem.head _))), (List.forall_mem_cons.mpr ⟨(List.Mem.tail _ (List.Mem.tail _ (List.Mem.tail _ (List.Mem.head _)))), (List.forall_mem_cons.mpr ⟨(List.Mem.head _), (fun q h => absurd h List.not_mem_nil)⟩)⟩)⟩)⟩) ?_
  refine L133 ((66 - 0 : Int).toNat + 1) s22 aj bj 0 Is22 Fs22 (by first | exact ⟨by decide, by decide, oq_1af0b4f8 vs22⟩ | omega) (Nat.lt_succ_self _) ?_
  intro s23 x24 Is23 Fs23 hs23
  have b25 : (0 : Int) ≤ iI s23 46 ∧ iI s23 46 ≤ 12 := Is23.1 46
  have b26 : (0 : Int) ≤ iI s23 47 ∧ iI s23 47 ≤ 66 := Is23.1 47
  have b27 : (0 : Int) ≤ iI s23 43 ∧ iI s23 43 ≤ 12 := Is23.1 43
  have b28 : (0 : Int) ≤ iI s23 44 ∧ iI s23 44 ≤ 66 := Is23.1 44
  exact w_vret X.1 q hRt (ax_d X (show cdA 1 260 = some (.return_, 1, 0, 0, 0) from rfl)) (Nat.zero_le _) (Nat.zero_le _) ⟨_, rfl, Is23, Fs23, rfl, trivial⟩
set_option maxRecDepth 4000 in
theorem c0_hear_93 (G : GX l s0 D tys a0 dT) (I : Bd s) {x y : Int} (p0 : 0 ≤ x ∧ x ≤ 23) (p1 : rng y) : CT l s0 D A dT 3 (rmN 3) [.ref (A 93), .int (Int32.ofInt x), .int (Int32.ofInt y)] s (fun o t => Bd t ∧ Fm [] [87] s t ∧ o = .inl none ∧ (True)) := by
  refine ct_ofX G (by decide) (Nat.le_of_ble_eq_true rfl) (fun k X E ET hRt hXt q => ?_)
  show WS k 0 [(0, .ref (A 93)), (1, .int (Int32.ofInt x)), (2, .int (Int32.ofInt y))] [] _ 0 0
  have F : Fm [] [87] s s := fm_rf _ _ s
  have b1 : (0 : Int) ≤ iI s 46 ∧ iI s 46 ≤ 12 := I.1 46
  have b2 : (0 : Int) ≤ iI s 47 ∧ iI s 47 ≤ 66 := I.1 47
  have L20 : ∀ (n : Nat) (t : PS) (yv ro wa cr ov cl c : Int), Bd t → Fm [] [87] s t → (rng yv ∧ (0 ≤ ro ∧ ro ≤ 276) ∧ rng wa ∧ rng cr ∧ rng ov ∧ rng cl ∧ 0 ≤ c ∧ c ≤ 12) → (12 - c : Int).toNat < n → (∀ (t' : PS) (wa' cr' ov' cl' c' : Int), Bd t' → Fm [] [87] s t' → (rng yv ∧ (0 ≤ ro ∧ ro ≤ 276) ∧ rng wa' ∧ rng cr' ∧ rng ov' ∧ rng cl' ∧ 0 ≤ c' ∧ c' ≤ 12) → WS k 106 [(0, .ref (A 93)), (2, .int (Int32.ofInt yv)), (3, .int (Int32.ofInt ro)), (4, .int (Int32.ofInt wa')), (5, .int (Int32.ofInt cr')), (6, .int (Int32.ofInt ov')), (7, .int (Int32.ofInt cl')), (8, .int (Int32.ofInt c'))] [] (Wd A dT t') 0 0) → WS k 20 [(0, .ref (A 93)), (2, .int (Int32.ofInt yv)), (3, .int (Int32.ofInt ro)), (4, .int (Int32.ofInt wa)), (5, .int (Int32.ofInt cr)), (6, .int (Int32.ofInt ov)), (7, .int (Int32.ofInt cl)), (8, .int (Int32.ofInt c))] [] (Wd A dT t) 0 0 := by
    intro n
    induction n with
    | zero =>
      intro t yv ro wa cr ov cl c I F hi hm kx
      exact absurd hm (Nat.not_lt_zero _)
    | succ n ih =>
      intro t yv ro wa cr ov cl c I F hi hm kx
      have b1001 : (0 : Int) ≤ iI t 46 ∧ iI t 46 ≤ 12 := I.1 46
      have b1002 : (0 : Int) ≤ iI t 47 ∧ iI t 47 ≤ 66 := I.1 47
      refine z_load X (x := c) (show cdA 3 20 = some (.iload 8, 2, 0, 0, 0) from rfl) (List.Mem.tail _ (List.Mem.tail _ (List.Mem.tail _ (List.Mem.tail _ (List.Mem.tail _ (List.Mem.tail _ (List.Mem.tail _ (List.Mem.head _)))))))) ?_
      refine z_aload_n X (x := A 93) (show cdA 3 22 = some (.aload_n 0, 1, 0, 0, 0) from rfl) (List.Mem.head _) ?_
      refine z_getI X 93 (show cdA 3 23 = some (.getfield 57, 3, 0, 2, 0) from rfl) (by decide) rfl rfl ?_
      have b1003 : (0 : Int) ≤ iI t 46 ∧ iI t 46 ≤ 12 := I.1 46
      refine z_icmp_ge X (t := 106) (show cdA 3 26 = some (.if_icmp .ge 80, 3, 3, 0, 0) from rfl) (by decide) ⟨by first | exact oq_fa4e5087 hi.2.2.2.2.2.2.1 | omega, by first | exact oq_78843a64 hi.2.2.2.2.2.2.2 | omega⟩ (rng_to _) (fun g1004 => ?_) (fun g1004 => ?_)
      ·
        refine WS_lv (lv := [(0, .ref (A 93)), (2, .int (Int32.ofInt yv)), (3, .int (Int32.ofInt ro)), (4, .int (Int32.ofInt wa)), (5, .int (Int32.ofInt cr)), (6, .int (Int32.ofInt ov)), (7, .int (Int32.ofInt cl)), (8, .int (Int32.ofInt c))]) (List.forall_mem_cons.mpr ⟨(List.Mem.head _), (List.forall_mem_cons.mpr ⟨(List.Mem.tail _ (List.Mem.head _)), (List.forall_mem_cons.mpr ⟨(List.Mem.tail _ (List.Mem.tail _ (List.Mem.head _))), (List.forall_mem_cons.mpr ⟨(List.Mem.tail _ (List.Mem.tail _ (List.Mem.tail _ (List.Mem.head _)))), (List.forall_mem_cons.mpr ⟨(List.Mem.tail _ (List.Mem.tail _ (List.Mem.tail _ (List.Mem.tail _ (List.Mem.head _))))), (List.forall_mem_cons.mpr ⟨(List.Mem.tail _ (List.Mem.tail _ (List.Mem.tail _ (List.Mem.tail _ (List.Mem.tail _ (List.Mem.head _)))))), (List.forall_mem_cons.mpr ⟨(List.Mem.tail _ (List.Mem.tail _ (List.Mem.tail _ (List.Mem.tail _ (List.Mem.tail _ (List.Mem.tail _ (List.Mem.head _))))))), (List.forall_mem_cons.mpr ⟨(List.Mem.tail _ (List.Mem.tail _ (List.Mem.tail _ (List.Mem.tail _ (List.Mem.tail _ (List.Mem.tail _ (List.Mem.tail _ (List.Mem.head _)))))))), (fun q h => absurd h List.not_mem_nil)⟩)⟩)⟩)⟩)⟩)⟩)⟩)⟩) ?_
        exact kx _ wa cr ov cl c I F (by first | exact ⟨And.intro (hi.1.1) (hi.1.2), And.intro (hi.2.1.1) (hi.2.1.2), And.intro (hi.2.2.1.1) (hi.2.2.1.2), And.intro (hi.2.2.2.1.1) (hi.2.2.2.1.2), And.intro (hi.2.2.2.2.1.1) (hi.2.2.2.2.1.2), And.intro (hi.2.2.2.2.2.1.1) (hi.2.2.2.2.2.1.2), hi.2.2.2.2.2.2.1, hi.2.2.2.2.2.2.2⟩ | omega)
      ·
        refine z_aload_n X (x := A 93) (show cdA 3 29 = some (.aload_n 0, 1, 0, 0, 0) from rfl) (List.Mem.head _) ?_
        refine s_getR X 93 (show cdA 3 30 = some (.getfield 9, 3, 0, 3, 0) from rfl) (by decide) rfl rfl ?_
        refine z_load X (x := c) (show cdA 3 33 = some (.iload 8, 2, 0, 0, 0) from rfl) (List.Mem.tail _ (List.Mem.tail _ (List.Mem.tail _ (List.Mem.tail _ (List.Mem.tail _ (List.Mem.tail _ (List.Mem.tail _ (List.Mem.head _)))))))) ?_
        refine z_ald X 94 (show cdA 3 35 = some (.iaload, 1, 0, 0, 0) from rfl) (by decide) rfl (by first | exact hi.2.2.2.2.2.2.1 | omega) (show c < 12 by first | exact oq_f36e82a8 g1004 b1003.2 | omega) (by decide) ?_
        have b1005 : (0 : Int) ≤ iC t 80 (c).toNat ∧ iC t 80 (c).toNat ≤ 11 := I.2 80 _ (show (c).toNat < 12 by first | exact oq_2dac6850 g1004 b1003.2 | omega)
        refine z_load_n X (x := yv) (show cdA 3 36 = some (.iload_n 2, 1, 0, 0, 0) from rfl) (List.Mem.tail _ (List.Mem.head _)) ?_
        have N1006 : ∀ e1007 : Int, ((((iC t 80 (c).toNat) ≠ yv) ∧ ((0 : Int) ≤ iC t 80 (c).toNat ∧ iC t 80 (c).toNat ≤ 11) ∧ ((0 : Int) ≤ iC t 67 ((ro + (iC t 80 (c).toNat))).toNat ∧ iC t 67 ((ro + (iC t 80 (c).toNat))).toNat ≤ 50) ∧ e1007 = (iC t 67 ((ro + (iC t 80 (c).toNat))).toNat)) ∨ (((iC t 80 (c).toNat) = yv) ∧ e1007 = 0)) → WS k 61 [(0, .ref (A 93)), (2, .int (Int32.ofInt yv)), (3, .int (Int32.ofInt ro)), (4, .int (Int32.ofInt wa)), (5, .int (Int32.ofInt cr)), (6, .int (Int32.ofInt ov)), (7, .int (Int32.ofInt cl)), (8, .int (Int32.ofInt c))] [.int (Int32.ofInt e1007)] (Wd A dT t) 0 0 := by
          intro e1007 he1007
          refine z_store X (lv' := [(9, .int (Int32.ofInt e1007)), (0, .ref (A 93)), (2, .int (Int32.ofInt yv)), (3, .int (Int32.ofInt ro)), (4, .int (Int32.ofInt wa)), (5, .int (Int32.ofInt cr)), (6, .int (Int32.ofInt ov)), (7, .int (Int32.ofInt cl)), (8, .int (Int32.ofInt c))]) (show cdA 3 61 = some (.istore 9, 2, 0, 0, 0) from rfl) (by decide) (fun _ h => h) ?_
          refine z_load X (x := wa) (show cdA 3 63 = some (.iload 4, 2, 0, 0, 0) from rfl) (List.Mem.tail _ (List.Mem.tail _ (List.Mem.tail _ (List.Mem.tail _ (List.Mem.head _))))) ?_
          refine z_load X (x := e1007) (show cdA 3 65 = some (.iload 9, 2, 0, 0, 0) from rfl) (List.Mem.head _) ?_
          refine z_add X (show cdA 3 67 = some (.iadd, 1, 0, 0, 0) from rfl) ?_
          refine z_any (fun y1008 hy1008 => ?_)
          refine z_store X (lv' := [(4, .int (Int32.ofInt y1008)), (9, .int (Int32.ofInt e1007)), (0, .ref (A 93)), (2, .int (Int32.ofInt yv)), (3, .int (Int32.ofInt ro)), (5, .int (Int32.ofInt cr)), (6, .int (Int32.ofInt ov)), (7, .int (Int32.ofInt cl)), (8, .int (Int32.ofInt c))]) (show cdA 3 68 = some (.istore 4, 2, 0, 0, 0) from rfl) (by decide) (fun _ h => h) ?_
          refine z_load X (x := ov) (show cdA 3 70 = some (.iload 6, 2, 0, 0, 0) from rfl) (List.Mem.tail _ (List.Mem.tail _ (List.Mem.tail _ (List.Mem.tail _ (List.Mem.tail _ (List.Mem.tail _ (List.Mem.head _))))))) ?_
          refine z_load X (x := e1007) (show cdA 3 72 = some (.iload 9, 2, 0, 0, 0) from rfl) (List.Mem.tail _ (List.Mem.head _)) ?_
          refine z_aload_n X (x := A 93) (show cdA 3 74 = some (.aload_n 0, 1, 0, 0, 0) from rfl) (List.Mem.tail _ (List.Mem.tail _ (List.Mem.head _))) ?_
          refine s_getR X 93 (show cdA 3 75 = some (.getfield 15, 3, 0, 4, 0) from rfl) (by decide) rfl rfl ?_
          refine z_load X (x := c) (show cdA 3 78 = some (.iload 8, 2, 0, 0, 0) from rfl) (List.Mem.tail _ (List.Mem.tail _ (List.Mem.tail _ (List.Mem.tail _ (List.Mem.tail _ (List.Mem.tail _ (List.Mem.tail _ (List.Mem.tail _ (List.Mem.head _))))))))) ?_
          refine z_ald X 95 (show cdA 3 80 = some (.iaload, 1, 0, 0, 0) from rfl) (by decide) rfl (by first | exact hi.2.2.2.2.2.2.1 | omega) (show c < 12 by first | exact oq_f36e82a8 g1004 b1003.2 | omega) (by decide) ?_
          have b1009 : ((-2147483648) : Int) ≤ iC t 81 (c).toNat ∧ iC t 81 (c).toNat ≤ 2147483647 := I.2 81 _ (show (c).toNat < 12 by first | exact oq_2dac6850 g1004 b1003.2 | omega)
          refine z_mul X (show cdA 3 81 = some (.imul, 1, 0, 0, 0) from rfl) ?_
          refine z_any (fun y1010 hy1010 => ?_)
          refine z_add X (show cdA 3 82 = some (.iadd, 1, 0, 0, 0) from rfl) ?_
          refine z_any (fun y1011 hy1011 => ?_)
          refine z_store X (lv' := [(6, .int (Int32.ofInt y1011)), (4, .int (Int32.ofInt y1008)), (9, .int (Int32.ofInt e1007)), (0, .ref (A 93)), (2, .int (Int32.ofInt yv)), (3, .int (Int32.ofInt ro)), (5, .int (Int32.ofInt cr)), (7, .int (Int32.ofInt cl)), (8, .int (Int32.ofInt c))]) (show cdA 3 83 = some (.istore 6, 2, 0, 0, 0) from rfl) (by decide) (fun _ h => h) ?_
          refine z_load X (x := cl) (show cdA 3 85 = some (.iload 7, 2, 0, 0, 0) from rfl) (List.Mem.tail _ (List.Mem.tail _ (List.Mem.tail _ (List.Mem.tail _ (List.Mem.tail _ (List.Mem.tail _ (List.Mem.tail _ (List.Mem.head _)))))))) ?_
          refine z_load X (x := e1007) (show cdA 3 87 = some (.iload 9, 2, 0, 0, 0) from rfl) (List.Mem.tail _ (List.Mem.tail _ (List.Mem.head _))) ?_
          refine z_aload_n X (x := A 93) (show cdA 3 89 = some (.aload_n 0, 1, 0, 0, 0) from rfl) (List.Mem.tail _ (List.Mem.tail _ (List.Mem.tail _ (List.Mem.head _)))) ?_
          refine s_getR X 93 (show cdA 3 90 = some (.getfield 21, 3, 0, 6, 0) from rfl) (by decide) rfl rfl ?_
          refine z_load X (x := c) (show cdA 3 93 = some (.iload 8, 2, 0, 0, 0) from rfl) (List.Mem.tail _ (List.Mem.tail _ (List.Mem.tail _ (List.Mem.tail _ (List.Mem.tail _ (List.Mem.tail _ (List.Mem.tail _ (List.Mem.tail _ (List.Mem.head _))))))))) ?_
          refine z_ald X 97 (show cdA 3 95 = some (.iaload, 1, 0, 0, 0) from rfl) (by decide) rfl (by first | exact hi.2.2.2.2.2.2.1 | omega) (show c < 12 by first | exact oq_f36e82a8 g1004 b1003.2 | omega) (by decide) ?_
          have b1012 : ((-2147483648) : Int) ≤ iC t 83 (c).toNat ∧ iC t 83 (c).toNat ≤ 2147483647 := I.2 83 _ (show (c).toNat < 12 by first | exact oq_2dac6850 g1004 b1003.2 | omega)
          refine z_mul X (show cdA 3 96 = some (.imul, 1, 0, 0, 0) from rfl) ?_
          refine z_any (fun y1013 hy1013 => ?_)
          refine z_add X (show cdA 3 97 = some (.iadd, 1, 0, 0, 0) from rfl) ?_
          refine z_any (fun y1014 hy1014 => ?_)
          refine z_store X (lv' := [(7, .int (Int32.ofInt y1014)), (6, .int (Int32.ofInt y1011)), (4, .int (Int32.ofInt y1008)), (9, .int (Int32.ofInt e1007)), (0, .ref (A 93)), (2, .int (Int32.ofInt yv)), (3, .int (Int32.ofInt ro)), (5, .int (Int32.ofInt cr)), (8, .int (Int32.ofInt c))]) (show cdA 3 98 = some (.istore 7, 2, 0, 0, 0) from rfl) (by decide) (fun _ h => h) ?_
          refine z_inc X (x := c) (lv' := [(8, .int (Int32.ofInt (c + 1))), (7, .int (Int32.ofInt y1014)), (6, .int (Int32.ofInt y1011)), (4, .int (Int32.ofInt y1008)), (9, .int (Int32.ofInt e1007)), (0, .ref (A 93)), (2, .int (Int32.ofInt yv)), (3, .int (Int32.ofInt ro)), (5, .int (Int32.ofInt cr))]) (show cdA 3 100 = some (.iinc 8 1, 3, 0, 0, 0) from rfl) (by decide) (List.Mem.tail _ (List.Mem.tail _ (List.Mem.tail _ (List.Mem.tail _ (List.Mem.tail _ (List.Mem.tail _ (List.Mem.tail _ (List.Mem.tail _ (List.Mem.head _))))))))) (fun _ h => h) ?_
          refine z_goto X (t := 20) (show cdA 3 103 = some (.goto (-83), 3, 0, 0, 0) from rfl) (by decide) ?_
          refine WS_lv (lv := [(0, .ref (A 93)), (2, .int (Int32.ofInt yv)), (3, .int (Int32.ofInt ro)), (4, .int (Int32.ofInt y1008)), (5, .int (Int32.ofInt cr)), (6, .int (Int32.ofInt y1011)), (7, .int (Int32.ofInt y1014)), (8, .int (Int32.ofInt (c + 1)))]) (List.forall_mem_cons.mpr ⟨(List.Mem.tail _ (List.Mem.tail _ (List.Mem.tail _ (List.Mem.tail _ (List.Mem.tail _ (List.Mem.head _)))))), (List.forall_mem_cons.mpr ⟨(List.Mem.tail _ (List.Mem.tail _ (List.Mem.tail _ (List.Mem.tail _ (List.Mem.tail _ (List.Mem.tail _ (List.Mem.head _))))))), (List.forall_mem_cons.mpr ⟨(List.Mem.tail _ (List.Mem.tail _ (List.Mem.tail _ (List.Mem.tail _ (List.Mem.tail _ (List.Mem.tail _ (List.Mem.tail _ (List.Mem.head _)))))))), (List.forall_mem_cons.mpr ⟨(List.Mem.tail _ (List.Mem.tail _ (List.Mem.tail _ (List.Mem.head _)))), (List.forall_mem_cons.mpr ⟨(List.Mem.tail _ (List.Mem.tail _ (List.Mem.tail _ (List.Mem.tail _ (List.Mem.tail _ (List.Mem.tail _ (List.Mem.tail _ (List.Mem.tail _ (List.Mem.head _))))))))), (List.forall_mem_cons.mpr ⟨(List.Mem.tail _ (List.Mem.tail _ (List.Mem.head _))), (List.forall_mem_cons.mpr ⟨(List.Mem.tail _ (List.Mem.head _)), (List.forall_mem_cons.mpr ⟨(List.Mem.head _), (fun q h => absurd h List.not_mem_nil)⟩)⟩)⟩)⟩)⟩)⟩)⟩)⟩) ?_
          exact ih _ yv ro y1008 cr y1011 y1014 (c + 1) I F (by first | exact ⟨And.intro (hi.1.1) (hi.1.2), And.intro (hi.2.1.1) (hi.2.1.2), And.intro (hy1008.1) (hy1008.2), And.intro (hi.2.2.2.1.1) (hi.2.2.2.1.2), And.intro (hy1011.1) (hy1011.2), And.intro (hy1014.1) (hy1014.2), oq_54f49eb5 hi.2.2.2.2.2.2.1, oq_4dae995e g1004 b1003.2⟩ | omega) (by first | exact qk_me hm (by decide) (oq_b575e8c1 g1004 b1003.2) | omega) kx
        refine z_icmp_ne X (t := 44) (show cdA 3 37 = some (.if_icmp .ne 7, 3, 1, 0, 0) from rfl) (by decide) (rng_to _) ⟨by first | exact hi.1.1 | omega, by first | exact hi.1.2 | omega⟩ (fun g1015 => ?_) (fun g1015 => ?_)
        ·
          refine z_aload_n X (x := A 93) (show cdA 3 44 = some (.aload_n 0, 1, 0, 0, 0) from rfl) (List.Mem.head _) ?_
          refine s_getR X 93 (show cdA 3 45 = some (.getfield 43, 3, 0, 0, 0) from rfl) (by decide) rfl rfl ?_
          refine s_getR X 68 (show cdA 3 48 = some (.getfield 87, 3, 9, 12, 0) from rfl) (by decide) rfl rfl ?_
          refine z_load_n X (x := ro) (show cdA 3 51 = some (.iload_n 3, 1, 0, 0, 0) from rfl) (List.Mem.tail _ (List.Mem.tail _ (List.Mem.head _))) ?_
          refine z_aload_n X (x := A 93) (show cdA 3 52 = some (.aload_n 0, 1, 0, 0, 0) from rfl) (List.Mem.head _) ?_
          refine s_getR X 93 (show cdA 3 53 = some (.getfield 9, 3, 0, 3, 0) from rfl) (by decide) rfl rfl ?_
          refine z_load X (x := c) (show cdA 3 56 = some (.iload 8, 2, 0, 0, 0) from rfl) (List.Mem.tail _ (List.Mem.tail _ (List.Mem.tail _ (List.Mem.tail _ (List.Mem.tail _ (List.Mem.tail _ (List.Mem.tail _ (List.Mem.head _)))))))) ?_
          refine z_ald X 94 (show cdA 3 58 = some (.iaload, 1, 0, 0, 0) from rfl) (by decide) rfl (by first | exact hi.2.2.2.2.2.2.1 | omega) (show c < 12 by first | exact oq_f36e82a8 g1004 b1003.2 | omega) (by decide) ?_
          have b1016 : (0 : Int) ≤ iC t 80 (c).toNat ∧ iC t 80 (c).toNat ≤ 11 := I.2 80 _ (show (c).toNat < 12 by first | exact oq_2dac6850 g1004 b1003.2 | omega)
          refine z_add X (show cdA 3 59 = some (.iadd, 1, 0, 0, 0) from rfl) ?_
          refine z_ald X 79 (show cdA 3 60 = some (.iaload, 1, 0, 0, 0) from rfl) (by decide) rfl (by first | exact oq_dd29f52d hi.2.1.1 b1016.1 | omega) (show (ro + (iC t 80 (c).toNat)) < 288 by first | exact oq_f94a0088 hi.2.1.2 b1016.2 | omega) (by decide) ?_
          have b1017 : (0 : Int) ≤ iC t 67 ((ro + (iC t 80 (c).toNat))).toNat ∧ iC t 67 ((ro + (iC t 80 (c).toNat))).toNat ≤ 50 := I.2 67 _ (show ((ro + (iC t 80 (c).toNat))).toNat < 288 by first | exact oq_3d7ae1dd hi.2.1.2 b1016.2 | omega)
          exact N1006 _ (Or.inl ⟨g1015, b1016, b1017, rfl⟩)
        ·
          refine z_const X (show cdA 3 40 = some (.iconst 0, 1, 0, 0, 0) from rfl) ?_
          refine z_goto X (t := 61) (show cdA 3 41 = some (.goto 20, 3, 0, 0, 0) from rfl) (by decide) ?_
          exact N1006 _ (Or.inr (⟨g1015, rfl⟩))
  have L109 : ∀ (n : Nat) (t : PS) (yv ro wa cr ov cl c : Int), Bd t → Fm [] [87] s t → (rng yv ∧ (0 ≤ ro ∧ ro ≤ 276) ∧ rng wa ∧ rng cr ∧ rng ov ∧ rng cl ∧ 0 ≤ c ∧ c ≤ 66) → (66 - c : Int).toNat < n → (∀ (t' : PS) (cr' c' : Int), Bd t' → Fm [] [87] s t' → (rng yv ∧ (0 ≤ ro ∧ ro ≤ 276) ∧ rng wa ∧ rng cr' ∧ rng ov ∧ rng cl ∧ 0 ≤ c' ∧ c' ≤ 66) → WS k 196 [(0, .ref (A 93)), (2, .int (Int32.ofInt yv)), (3, .int (Int32.ofInt ro)), (4, .int (Int32.ofInt wa)), (5, .int (Int32.ofInt cr')), (6, .int (Int32.ofInt ov)), (7, .int (Int32.ofInt cl)), (8, .int (Int32.ofInt c'))] [] (Wd A dT t') 0 0) → WS k 109 [(0, .ref (A 93)), (2, .int (Int32.ofInt yv)), (3, .int (Int32.ofInt ro)), (4, .int (Int32.ofInt wa)), (5, .int (Int32.ofInt cr)), (6, .int (Int32.ofInt ov)), (7, .int (Int32.ofInt cl)), (8, .int (Int32.ofInt c))] [] (Wd A dT t) 0 0 := by
    intro n
    induction n with
    | zero =>
      intro t yv ro wa cr ov cl c I F hi hm kx
      exact absurd hm (Nat.not_lt_zero _)
    | succ n ih =>
      intro t yv ro wa cr ov cl c I F hi hm kx
      have b2001 : (0 : Int) ≤ iI t 46 ∧ iI t 46 ≤ 12 := I.1 46
      have b2002 : (0 : Int) ≤ iI t 47 ∧ iI t 47 ≤ 66 := I.1 47
      refine z_load X (x := c) (show cdA 3 109 = some (.iload 8, 2, 0, 0, 0) from rfl) (List.Mem.tail _ (List.Mem.tail _ (List.Mem.tail _ (List.Mem.tail _ (List.Mem.tail _ (List.Mem.tail _ (List.Mem.tail _ (List.Mem.head _)))))))) ?_
      refine z_aload_n X (x := A 93) (show cdA 3 111 = some (.aload_n 0, 1, 0, 0, 0) from rfl) (List.Mem.head _) ?_
      refine z_getI X 93 (show cdA 3 112 = some (.getfield 72, 3, 0, 7, 0) from rfl) (by decide) rfl rfl ?_
      have b2003 : (0 : Int) ≤ iI t 47 ∧ iI t 47 ≤ 66 := I.1 47
      refine z_icmp_ge X (t := 196) (show cdA 3 115 = some (.if_icmp .ge 81, 3, 3, 0, 0) from rfl) (by decide) ⟨by first | exact oq_fa4e5087 hi.2.2.2.2.2.2.1 | omega, by first | exact oq_64f2e926 hi.2.2.2.2.2.2.2 | omega⟩ (rng_to _) (fun g2004 => ?_) (fun g2004 => ?_)
      ·
        refine WS_lv (lv := [(0, .ref (A 93)), (2, .int (Int32.ofInt yv)), (3, .int (Int32.ofInt ro)), (4, .int (Int32.ofInt wa)), (5, .int (Int32.ofInt cr)), (6, .int (Int32.ofInt ov)), (7, .int (Int32.ofInt cl)), (8, .int (Int32.ofInt c))]) (List.forall_mem_cons.mpr ⟨(List.Mem.head _), (List.forall_mem_cons.mpr ⟨(List.Mem.tail _ (List.Mem.head _)), (List.forall_mem_cons.mpr ⟨(List.Mem.tail _ (List.Mem.tail _ (List.Mem.head _))), (List.forall_mem_cons.mpr ⟨(List.Mem.tail _ (List.Mem.tail _ (List.Mem.tail _ (List.Mem.head _)))), (List.forall_mem_cons.mpr ⟨(List.Mem.tail _ (List.Mem.tail _ (List.Mem.tail _ (List.Mem.tail _ (List.Mem.head _))))), (List.forall_mem_cons.mpr ⟨(List.Mem.tail _ (List.Mem.tail _ (List.Mem.tail _ (List.Mem.tail _ (List.Mem.tail _ (List.Mem.head _)))))), (List.forall_mem_cons.mpr ⟨(List.Mem.tail _ (List.Mem.tail _ (List.Mem.tail _ (List.Mem.tail _ (List.Mem.tail _ (List.Mem.tail _ (List.Mem.head _))))))), (List.forall_mem_cons.mpr ⟨(List.Mem.tail _ (List.Mem.tail _ (List.Mem.tail _ (List.Mem.tail _ (List.Mem.tail _ (List.Mem.tail _ (List.Mem.tail _ (List.Mem.head _)))))))), (fun q h => absurd h List.not_mem_nil)⟩)⟩)⟩)⟩)⟩)⟩)⟩)⟩) ?_
        exact kx _ cr c I F (by first | exact ⟨And.intro (hi.1.1) (hi.1.2), And.intro (hi.2.1.1) (hi.2.1.2), And.intro (hi.2.2.1.1) (hi.2.2.1.2), And.intro (hi.2.2.2.1.1) (hi.2.2.2.1.2), And.intro (hi.2.2.2.2.1.1) (hi.2.2.2.2.1.2), And.intro (hi.2.2.2.2.2.1.1) (hi.2.2.2.2.2.1.2), hi.2.2.2.2.2.2.1, hi.2.2.2.2.2.2.2⟩ | omega)
      ·
        refine z_aload_n X (x := A 93) (show cdA 3 118 = some (.aload_n 0, 1, 0, 0, 0) from rfl) (List.Mem.head _) ?_
        refine s_getR X 93 (show cdA 3 119 = some (.getfield 26, 3, 0, 8, 0) from rfl) (by decide) rfl rfl ?_
        refine z_load X (x := c) (show cdA 3 122 = some (.iload 8, 2, 0, 0, 0) from rfl) (List.Mem.tail _ (List.Mem.tail _ (List.Mem.tail _ (List.Mem.tail _ (List.Mem.tail _ (List.Mem.tail _ (List.Mem.tail _ (List.Mem.head _)))))))) ?_
        refine z_ald X 98 (show cdA 3 124 = some (.iaload, 1, 0, 0, 0) from rfl) (by decide) rfl (by first | exact hi.2.2.2.2.2.2.1 | omega) (show c < 66 by first | exact oq_256e4529 g2004 b2003.2 | omega) (by decide) ?_
        have b2005 : (0 : Int) ≤ iC t 84 (c).toNat ∧ iC t 84 (c).toNat ≤ 11 := I.2 84 _ (show (c).toNat < 66 by first | exact oq_d7ff7873 g2004 b2003.2 | omega)
        refine z_load_n X (x := yv) (show cdA 3 125 = some (.iload_n 2, 1, 0, 0, 0) from rfl) (List.Mem.tail _ (List.Mem.head _)) ?_
        refine z_icmp_eq X (t := 190) (show cdA 3 126 = some (.if_icmp .eq 64, 3, 0, 0, 0) from rfl) (by decide) (rng_to _) ⟨by first | exact hi.1.1 | omega, by first | exact hi.1.2 | omega⟩ (fun g2006 => ?_) (fun g2006 => ?_)
        ·
          refine z_inc X (x := c) (lv' := [(8, .int (Int32.ofInt (c + 1))), (0, .ref (A 93)), (2, .int (Int32.ofInt yv)), (3, .int (Int32.ofInt ro)), (4, .int (Int32.ofInt wa)), (5, .int (Int32.ofInt cr)), (6, .int (Int32.ofInt ov)), (7, .int (Int32.ofInt cl))]) (show cdA 3 190 = some (.iinc 8 1, 3, 0, 0, 0) from rfl) (by decide) (List.Mem.tail _ (List.Mem.tail _ (List.Mem.tail _ (List.Mem.tail _ (List.Mem.tail _ (List.Mem.tail _ (List.Mem.tail _ (List.Mem.head _)))))))) (fun _ h => h) ?_
          refine z_goto X (t := 109) (show cdA 3 193 = some (.goto (-84), 3, 0, 0, 0) from rfl) (by decide) ?_
          refine WS_lv (lv := [(0, .ref (A 93)), (2, .int (Int32.ofInt yv)), (3, .int (Int32.ofInt ro)), (4, .int (Int32.ofInt wa)), (5, .int (Int32.ofInt cr)), (6, .int (Int32.ofInt ov)), (7, .int (Int32.ofInt cl)), (8, .int (Int32.ofInt (c + 1)))]) (List.forall_mem_cons.mpr ⟨(List.Mem.tail _ (List.Mem.head _)), (List.forall_mem_cons.mpr ⟨(List.Mem.tail _ (List.Mem.tail _ (List.Mem.head _))), (List.forall_mem_cons.mpr ⟨(List.Mem.tail _ (List.Mem.tail _ (List.Mem.tail _ (List.Mem.head _)))), (List.forall_mem_cons.mpr ⟨(List.Mem.tail _ (List.Mem.tail _ (List.Mem.tail _ (List.Mem.tail _ (List.Mem.head _))))), (List.forall_mem_cons.mpr ⟨(List.Mem.tail _ (List.Mem.tail _ (List.Mem.tail _ (List.Mem.tail _ (List.Mem.tail _ (List.Mem.head _)))))), (List.forall_mem_cons.mpr ⟨(List.Mem.tail _ (List.Mem.tail _ (List.Mem.tail _ (List.Mem.tail _ (List.Mem.tail _ (List.Mem.tail _ (List.Mem.head _))))))), (List.forall_mem_cons.mpr ⟨(List.Mem.tail _ (List.Mem.tail _ (List.Mem.tail _ (List.Mem.tail _ (List.Mem.tail _ (List.Mem.tail _ (List.Mem.tail _ (List.Mem.head _)))))))), (List.forall_mem_cons.mpr ⟨(List.Mem.head _), (fun q h => absurd h List.not_mem_nil)⟩)⟩)⟩)⟩)⟩)⟩)⟩)⟩) ?_
          exact ih _ yv ro wa cr ov cl (c + 1) I F (by first | exact ⟨And.intro (hi.1.1) (hi.1.2), And.intro (hi.2.1.1) (hi.2.1.2), And.intro (hi.2.2.1.1) (hi.2.2.1.2), And.intro (hi.2.2.2.1.1) (hi.2.2.2.1.2), And.intro (hi.2.2.2.2.1.1) (hi.2.2.2.2.1.2), And.intro (hi.2.2.2.2.2.1.1) (hi.2.2.2.2.2.1.2), oq_54f49eb5 hi.2.2.2.2.2.2.1, oq_319a18a4 g2004 b2003.2⟩ | omega) (by first | exact qk_me hm (by decide) (oq_dd0e9829 g2004 b2003.2) | omega) kx
        ·
          refine z_aload_n X (x := A 93) (show cdA 3 129 = some (.aload_n 0, 1, 0, 0, 0) from rfl) (List.Mem.head _) ?_
          refine s_getR X 93 (show cdA 3 130 = some (.getfield 29, 3, 0, 9, 0) from rfl) (by decide) rfl rfl ?_
          refine z_load X (x := c) (show cdA 3 133 = some (.iload 8, 2, 0, 0, 0) from rfl) (List.Mem.tail _ (List.Mem.tail _ (List.Mem.tail _ (List.Mem.tail _ (List.Mem.tail _ (List.Mem.tail _ (List.Mem.tail _ (List.Mem.head _)))))))) ?_
          refine z_ald X 99 (show cdA 3 135 = some (.iaload, 1, 0, 0, 0) from rfl) (by decide) rfl (by first | exact hi.2.2.2.2.2.2.1 | omega) (show c < 66 by first | exact oq_256e4529 g2004 b2003.2 | omega) (by decide) ?_
          have b2007 : (0 : Int) ≤ iC t 85 (c).toNat ∧ iC t 85 (c).toNat ≤ 11 := I.2 85 _ (show (c).toNat < 66 by first | exact oq_d7ff7873 g2004 b2003.2 | omega)
          refine z_load_n X (x := yv) (show cdA 3 136 = some (.iload_n 2, 1, 0, 0, 0) from rfl) (List.Mem.tail _ (List.Mem.head _)) ?_
          refine z_icmp_eq X (t := 190) (show cdA 3 137 = some (.if_icmp .eq 53, 3, 0, 0, 0) from rfl) (by decide) (rng_to _) ⟨by first | exact hi.1.1 | omega, by first | exact hi.1.2 | omega⟩ (fun g2008 => ?_) (fun g2008 => ?_)
          ·
            refine z_inc X (x := c) (lv' := [(8, .int (Int32.ofInt (c + 1))), (0, .ref (A 93)), (2, .int (Int32.ofInt yv)), (3, .int (Int32.ofInt ro)), (4, .int (Int32.ofInt wa)), (5, .int (Int32.ofInt cr)), (6, .int (Int32.ofInt ov)), (7, .int (Int32.ofInt cl))]) (show cdA 3 190 = some (.iinc 8 1, 3, 0, 0, 0) from rfl) (by decide) (List.Mem.tail _ (List.Mem.tail _ (List.Mem.tail _ (List.Mem.tail _ (List.Mem.tail _ (List.Mem.tail _ (List.Mem.tail _ (List.Mem.head _)))))))) (fun _ h => h) ?_
            refine z_goto X (t := 109) (show cdA 3 193 = some (.goto (-84), 3, 0, 0, 0) from rfl) (by decide) ?_
            refine WS_lv (lv := [(0, .ref (A 93)), (2, .int (Int32.ofInt yv)), (3, .int (Int32.ofInt ro)), (4, .int (Int32.ofInt wa)), (5, .int (Int32.ofInt cr)), (6, .int (Int32.ofInt ov)), (7, .int (Int32.ofInt cl)), (8, .int (Int32.ofInt (c + 1)))]) (List.forall_mem_cons.mpr ⟨(List.Mem.tail _ (List.Mem.head _)), (List.forall_mem_cons.mpr ⟨(List.Mem.tail _ (List.Mem.tail _ (List.Mem.head _))), (List.forall_mem_cons.mpr ⟨(List.Mem.tail _ (List.Mem.tail _ (List.Mem.tail _ (List.Mem.head _)))), (List.forall_mem_cons.mpr ⟨(List.Mem.tail _ (List.Mem.tail _ (List.Mem.tail _ (List.Mem.tail _ (List.Mem.head _))))), (List.forall_mem_cons.mpr ⟨(List.Mem.tail _ (List.Mem.tail _ (List.Mem.tail _ (List.Mem.tail _ (List.Mem.tail _ (List.Mem.head _)))))), (List.forall_mem_cons.mpr ⟨(List.Mem.tail _ (List.Mem.tail _ (List.Mem.tail _ (List.Mem.tail _ (List.Mem.tail _ (List.Mem.tail _ (List.Mem.head _))))))), (List.forall_mem_cons.mpr ⟨(List.Mem.tail _ (List.Mem.tail _ (List.Mem.tail _ (List.Mem.tail _ (List.Mem.tail _ (List.Mem.tail _ (List.Mem.tail _ (List.Mem.head _)))))))), (List.forall_mem_cons.mpr ⟨(List.Mem.head _), (fun q h => absurd h List.not_mem_nil)⟩)⟩)⟩)⟩)⟩)⟩)⟩)⟩) ?_
            exact ih _ yv ro wa cr ov cl (c + 1) I F (by first | exact ⟨And.intro (hi.1.1) (hi.1.2), And.intro (hi.2.1.1) (hi.2.1.2), And.intro (hi.2.2.1.1) (hi.2.2.1.2), And.intro (hi.2.2.2.1.1) (hi.2.2.2.1.2), And.intro (hi.2.2.2.2.1.1) (hi.2.2.2.2.1.2), And.intro (hi.2.2.2.2.2.1.1) (hi.2.2.2.2.2.1.2), oq_54f49eb5 hi.2.2.2.2.2.2.1, oq_319a18a4 g2004 b2003.2⟩ | omega) (by first | exact qk_me hm (by decide) (oq_dd0e9829 g2004 b2003.2) | omega) kx
          ·
            refine z_load X (x := cr) (show cdA 3 140 = some (.iload 5, 2, 0, 0, 0) from rfl) (List.Mem.tail _ (List.Mem.tail _ (List.Mem.tail _ (List.Mem.tail _ (List.Mem.head _))))) ?_
            refine z_aload_n X (x := A 93) (show cdA 3 142 = some (.aload_n 0, 1, 0, 0, 0) from rfl) (List.Mem.head _) ?_
            refine s_getR X 93 (show cdA 3 143 = some (.getfield 32, 3, 0, 10, 0) from rfl) (by decide) rfl rfl ?_
            refine z_load X (x := c) (show cdA 3 146 = some (.iload 8, 2, 0, 0, 0) from rfl) (List.Mem.tail _ (List.Mem.tail _ (List.Mem.tail _ (List.Mem.tail _ (List.Mem.tail _ (List.Mem.tail _ (List.Mem.tail _ (List.Mem.head _)))))))) ?_
            refine z_ald X 100 (show cdA 3 148 = some (.iaload, 1, 0, 0, 0) from rfl) (by decide) rfl (by first | exact hi.2.2.2.2.2.2.1 | omega) (show c < 66 by first | exact oq_256e4529 g2004 b2003.2 | omega) (by decide) ?_
            have b2009 : ((-2147483648) : Int) ≤ iC t 86 (c).toNat ∧ iC t 86 (c).toNat ≤ 2147483647 := I.2 86 _ (show (c).toNat < 66 by first | exact oq_d7ff7873 g2004 b2003.2 | omega)
            refine z_aload_n X (x := A 93) (show cdA 3 149 = some (.aload_n 0, 1, 0, 0, 0) from rfl) (List.Mem.head _) ?_
            refine s_getR X 93 (show cdA 3 150 = some (.getfield 43, 3, 0, 0, 0) from rfl) (by decide) rfl rfl ?_
            refine s_getR X 68 (show cdA 3 153 = some (.getfield 87, 3, 9, 12, 0) from rfl) (by decide) rfl rfl ?_
            refine z_load_n X (x := ro) (show cdA 3 156 = some (.iload_n 3, 1, 0, 0, 0) from rfl) (List.Mem.tail _ (List.Mem.tail _ (List.Mem.head _))) ?_
            refine z_aload_n X (x := A 93) (show cdA 3 157 = some (.aload_n 0, 1, 0, 0, 0) from rfl) (List.Mem.head _) ?_
            refine s_getR X 93 (show cdA 3 158 = some (.getfield 26, 3, 0, 8, 0) from rfl) (by decide) rfl rfl ?_
            refine z_load X (x := c) (show cdA 3 161 = some (.iload 8, 2, 0, 0, 0) from rfl) (List.Mem.tail _ (List.Mem.tail _ (List.Mem.tail _ (List.Mem.tail _ (List.Mem.tail _ (List.Mem.tail _ (List.Mem.tail _ (List.Mem.head _)))))))) ?_
            refine z_ald X 98 (show cdA 3 163 = some (.iaload, 1, 0, 0, 0) from rfl) (by decide) rfl (by first | exact hi.2.2.2.2.2.2.1 | omega) (show c < 66 by first | exact oq_256e4529 g2004 b2003.2 | omega) (by decide) ?_
            have b2010 : (0 : Int) ≤ iC t 84 (c).toNat ∧ iC t 84 (c).toNat ≤ 11 := I.2 84 _ (show (c).toNat < 66 by first | exact oq_d7ff7873 g2004 b2003.2 | omega)
            refine z_add X (show cdA 3 164 = some (.iadd, 1, 0, 0, 0) from rfl) ?_
            refine z_ald X 79 (show cdA 3 165 = some (.iaload, 1, 0, 0, 0) from rfl) (by decide) rfl (by first | exact oq_dd29f52d hi.2.1.1 b2010.1 | omega) (show (ro + (iC t 84 (c).toNat)) < 288 by first | exact oq_f94a0088 hi.2.1.2 b2010.2 | omega) (by decide) ?_
            have b2011 : (0 : Int) ≤ iC t 67 ((ro + (iC t 84 (c).toNat))).toNat ∧ iC t 67 ((ro + (iC t 84 (c).toNat))).toNat ≤ 50 := I.2 67 _ (show ((ro + (iC t 84 (c).toNat))).toNat < 288 by first | exact oq_3d7ae1dd hi.2.1.2 b2010.2 | omega)
            refine z_aload_n X (x := A 93) (show cdA 3 166 = some (.aload_n 0, 1, 0, 0, 0) from rfl) (List.Mem.head _) ?_
            refine s_getR X 93 (show cdA 3 167 = some (.getfield 43, 3, 0, 0, 0) from rfl) (by decide) rfl rfl ?_
            refine s_getR X 68 (show cdA 3 170 = some (.getfield 87, 3, 9, 12, 0) from rfl) (by decide) rfl rfl ?_
            refine z_load_n X (x := ro) (show cdA 3 173 = some (.iload_n 3, 1, 0, 0, 0) from rfl) (List.Mem.tail _ (List.Mem.tail _ (List.Mem.head _))) ?_
            refine z_aload_n X (x := A 93) (show cdA 3 174 = some (.aload_n 0, 1, 0, 0, 0) from rfl) (List.Mem.head _) ?_
            refine s_getR X 93 (show cdA 3 175 = some (.getfield 29, 3, 0, 9, 0) from rfl) (by decide) rfl rfl ?_
            refine z_load X (x := c) (show cdA 3 178 = some (.iload 8, 2, 0, 0, 0) from rfl) (List.Mem.tail _ (List.Mem.tail _ (List.Mem.tail _ (List.Mem.tail _ (List.Mem.tail _ (List.Mem.tail _ (List.Mem.tail _ (List.Mem.head _)))))))) ?_
            refine z_ald X 99 (show cdA 3 180 = some (.iaload, 1, 0, 0, 0) from rfl) (by decide) rfl (by first | exact hi.2.2.2.2.2.2.1 | omega) (show c < 66 by first | exact oq_256e4529 g2004 b2003.2 | omega) (by decide) ?_
            have b2012 : (0 : Int) ≤ iC t 85 (c).toNat ∧ iC t 85 (c).toNat ≤ 11 := I.2 85 _ (show (c).toNat < 66 by first | exact oq_d7ff7873 g2004 b2003.2 | omega)
            refine z_add X (show cdA 3 181 = some (.iadd, 1, 0, 0, 0) from rfl) ?_
            refine z_ald X 79 (show cdA 3 182 = some (.iaload, 1, 0, 0, 0) from rfl) (by decide) rfl (by first | exact oq_dd29f52d hi.2.1.1 b2012.1 | omega) (show (ro + (iC t 85 (c).toNat)) < 288 by first | exact oq_f94a0088 hi.2.1.2 b2012.2 | omega) (by decide) ?_
            have b2013 : (0 : Int) ≤ iC t 67 ((ro + (iC t 85 (c).toNat))).toNat ∧ iC t 67 ((ro + (iC t 85 (c).toNat))).toNat ≤ 50 := I.2 67 _ (show ((ro + (iC t 85 (c).toNat))).toNat < 288 by first | exact oq_3d7ae1dd hi.2.1.2 b2012.2 | omega)
            refine z_min X (show cdA 3 183 = some (.invokestatic 90, 3, 0, 8, 0) from rfl) (rng_to _) (rng_to _) (by rw [E.2.2.2]; decide) (by rw [E.2.2.2]; exact Nat.le_of_ble_eq_true rfl) (Nat.zero_le _) (Nat.zero_le _) (fun e2014 he2014 => ?_)
            refine z_mul X (show cdA 3 186 = some (.imul, 1, 0, 0, 0) from rfl) ?_
            refine z_any (fun y2015 hy2015 => ?_)
            refine z_add X (show cdA 3 187 = some (.iadd, 1, 0, 0, 0) from rfl) ?_
            refine z_any (fun y2016 hy2016 => ?_)
            refine z_store X (lv' := [(5, .int (Int32.ofInt y2016)), (0, .ref (A 93)), (2, .int (Int32.ofInt yv)), (3, .int (Int32.ofInt ro)), (4, .int (Int32.ofInt wa)), (6, .int (Int32.ofInt ov)), (7, .int (Int32.ofInt cl)), (8, .int (Int32.ofInt c))]) (show cdA 3 188 = some (.istore 5, 2, 0, 0, 0) from rfl) (by decide) (fun _ h => h) ?_
            refine z_inc X (x := c) (lv' := [(8, .int (Int32.ofInt (c + 1))), (5, .int (Int32.ofInt y2016)), (0, .ref (A 93)), (2, .int (Int32.ofInt yv)), (3, .int (Int32.ofInt ro)), (4, .int (Int32.ofInt wa)), (6, .int (Int32.ofInt ov)), (7, .int (Int32.ofInt cl))]) (show cdA 3 190 = some (.iinc 8 1, 3, 0, 0, 0) from rfl) (by decide) (List.Mem.tail _ (List.Mem.tail _ (List.Mem.tail _ (List.Mem.tail _ (List.Mem.tail _ (List.Mem.tail _ (List.Mem.tail _ (List.Mem.head _)))))))) (fun _ h => h) ?_
            refine z_goto X (t := 109) (show cdA 3 193 = some (.goto (-84), 3, 0, 0, 0) from rfl) (by decide) ?_
            refine WS_lv (lv := [(0, .ref (A 93)), (2, .int (Int32.ofInt yv)), (3, .int (Int32.ofInt ro)), (4, .int (Int32.ofInt wa)), (5, .int (Int32.ofInt y2016)), (6, .int (Int32.ofInt ov)), (7, .int (Int32.ofInt cl)), (8, .int (Int32.ofInt (c + 1)))]) (List.forall_mem_cons.mpr ⟨(List.Mem.tail _ (List.Mem.tail _ (List.Mem.head _))), (List.forall_mem_cons.mpr ⟨(List.Mem.tail _ (List.Mem.tail _ (List.Mem.tail _ (List.Mem.head _)))), (List.forall_mem_cons.mpr ⟨(List.Mem.tail _ (List.Mem.tail _ (List.Mem.tail _ (List.Mem.tail _ (List.Mem.head _))))), (List.forall_mem_cons.mpr ⟨(List.Mem.tail _ (List.Mem.tail _ (List.Mem.tail _ (List.Mem.tail _ (List.Mem.tail _ (List.Mem.head _)))))), (List.forall_mem_cons.mpr ⟨(List.Mem.tail _ (List.Mem.head _)), (List.forall_mem_cons.mpr ⟨(List.Mem.tail _ (List.Mem.tail _ (List.Mem.tail _ (List.Mem.tail _ (List.Mem.tail _ (List.Mem.tail _ (List.Mem.head _))))))), (List.forall_mem_cons.mpr ⟨(List.Mem.tail _ (List.Mem.tail _ (List.Mem.tail _ (List.Mem.tail _ (List.Mem.tail _ (List.Mem.tail _ (List.Mem.tail _ (List.Mem.head _)))))))), (List.forall_mem_cons.mpr ⟨(List.Mem.head _), (fun q h => absurd h List.not_mem_nil)⟩)⟩)⟩)⟩)⟩)⟩)⟩)⟩) ?_
            exact ih _ yv ro wa y2016 ov cl (c + 1) I F (by first | exact ⟨And.intro (hi.1.1) (hi.1.2), And.intro (hi.2.1.1) (hi.2.1.2), And.intro (hi.2.2.1.1) (hi.2.2.1.2), And.intro (hy2016.1) (hy2016.2), And.intro (hi.2.2.2.2.1.1) (hi.2.2.2.2.1.2), And.intro (hi.2.2.2.2.2.1.1) (hi.2.2.2.2.2.1.2), oq_54f49eb5 hi.2.2.2.2.2.2.1, oq_319a18a4 g2004 b2003.2⟩ | omega) (by first | exact qk_me hm (by decide) (oq_dd0e9829 g2004 b2003.2) | omega) kx
  refine z_load_n X (x := x) (show cdA 3 0 = some (.iload_n 1, 1, 0, 0, 0) from rfl) (List.Mem.tail _ (List.Mem.head _)) ?_
  refine z_bipush X (show cdA 3 1 = some (.bipush 12, 2, 0, 0, 12) from rfl) ?_
  refine z_mul X (show cdA 3 3 = some (.imul, 1, 0, 0, 0) from rfl) ?_
  refine z_store_n X (lv' := [(3, .int (Int32.ofInt (x * 12))), (0, .ref (A 93)), (1, .int (Int32.ofInt x)), (2, .int (Int32.ofInt y))]) (show cdA 3 4 = some (.istore_n 3, 1, 0, 0, 0) from rfl) (by decide) (fun _ h => h) ?_
  refine z_const X (show cdA 3 5 = some (.iconst 0, 1, 0, 0, 0) from rfl) ?_
  refine z_store X (lv' := [(4, .int (Int32.ofInt 0)), (3, .int (Int32.ofInt (x * 12))), (0, .ref (A 93)), (1, .int (Int32.ofInt x)), (2, .int (Int32.ofInt y))]) (show cdA 3 6 = some (.istore 4, 2, 0, 0, 0) from rfl) (by decide) (fun _ h => h) ?_
  refine z_const X (show cdA 3 8 = some (.iconst 0, 1, 0, 0, 0) from rfl) ?_
  refine z_store X (lv' := [(5, .int (Int32.ofInt 0)), (4, .int (Int32.ofInt 0)), (3, .int (Int32.ofInt (x * 12))), (0, .ref (A 93)), (1, .int (Int32.ofInt x)), (2, .int (Int32.ofInt y))]) (show cdA 3 9 = some (.istore 5, 2, 0, 0, 0) from rfl) (by decide) (fun _ h => h) ?_
  refine z_const X (show cdA 3 11 = some (.iconst 0, 1, 0, 0, 0) from rfl) ?_
  refine z_store X (lv' := [(6, .int (Int32.ofInt 0)), (5, .int (Int32.ofInt 0)), (4, .int (Int32.ofInt 0)), (3, .int (Int32.ofInt (x * 12))), (0, .ref (A 93)), (1, .int (Int32.ofInt x)), (2, .int (Int32.ofInt y))]) (show cdA 3 12 = some (.istore 6, 2, 0, 0, 0) from rfl) (by decide) (fun _ h => h) ?_
  refine z_const X (show cdA 3 14 = some (.iconst 0, 1, 0, 0, 0) from rfl) ?_
  refine z_store X (lv' := [(7, .int (Int32.ofInt 0)), (6, .int (Int32.ofInt 0)), (5, .int (Int32.ofInt 0)), (4, .int (Int32.ofInt 0)), (3, .int (Int32.ofInt (x * 12))), (0, .ref (A 93)), (1, .int (Int32.ofInt x)), (2, .int (Int32.ofInt y))]) (show cdA 3 15 = some (.istore 7, 2, 0, 0, 0) from rfl) (by decide) (fun _ h => h) ?_
  refine z_const X (show cdA 3 17 = some (.iconst 0, 1, 0, 0, 0) from rfl) ?_
  refine z_store X (lv' := [(8, .int (Int32.ofInt 0)), (7, .int (Int32.ofInt 0)), (6, .int (Int32.ofInt 0)), (5, .int (Int32.ofInt 0)), (4, .int (Int32.ofInt 0)), (3, .int (Int32.ofInt (x * 12))), (0, .ref (A 93)), (1, .int (Int32.ofInt x)), (2, .int (Int32.ofInt y))]) (show cdA 3 18 = some (.istore 8, 2, 0, 0, 0) from rfl) (by decide) (fun _ h => h) ?_
  refine WS_lv (lv := [(0, .ref (A 93)), (2, .int (Int32.ofInt y)), (3, .int (Int32.ofInt (x * 12))), (4, .int (Int32.ofInt 0)), (5, .int (Int32.ofInt 0)), (6, .int (Int32.ofInt 0)), (7, .int (Int32.ofInt 0)), (8, .int (Int32.ofInt 0))]) (List.forall_mem_cons.mpr ⟨(List.Mem.tail _ (List.Mem.tail _ (List.Mem.tail _ (List.Mem.tail _ (List.Mem.tail _ (List.Mem.tail _ (List.Mem.head _))))))), (List.forall_mem_cons.mpr ⟨(List.Mem.tail _ (List.Mem.tail _ (List.Mem.tail _ (List.Mem.tail _ (List.Mem.tail _ (List.Mem.tail _ (List.Mem.tail _ (List.Mem.tail _ (List.Mem.head _))))))))), (List.forall_mem_cons.mpr ⟨(List.Mem.tail _ (List.Mem.tail _ (List.Mem.tail _ (List.Mem.tail _ (List.Mem.tail _ (List.Mem.head _)))))), (List.forall_mem_cons.mpr ⟨(List.Mem.tail _ (List.Mem.tail _ (List.Mem.tail _ (List.Mem.tail _ (List.Mem.head _))))), (List.forall_mem_cons.mpr ⟨(List.Mem.tail _ (List.Mem.tail _ (List.Mem.tail _ (List.Mem.head _)))), (List.forall_mem_cons.mpr ⟨(List.Mem.tail _ (List.Mem.tail _ (List.Mem.head _))), (List.forall_mem_cons.mpr ⟨(List.Mem.tail _ (List.Mem.head _)), (List.forall_mem_cons.mpr ⟨(List.Mem.head _), (fun q h => absurd h List.not_mem_nil)⟩)⟩)⟩)⟩)⟩)⟩)⟩)⟩) ?_
  refine L20 ((12 - 0 : Int).toNat + 1) s y (x * 12) 0 0 0 0 0 I F (by first | exact ⟨And.intro (p1.1) (p1.2), And.intro (oq_6b8c39bb p0.1) (oq_70eefe4f p0.2), And.intro (by decide) (by decide), And.intro (by decide) (by decide), And.intro (by decide) (by decide), And.intro (by decide) (by decide), by decide, by decide⟩ | omega) (Nat.lt_succ_self _) ?_
  intro s3 x4 x5 x6 x7 x8 Is3 Fs3 hs3
  have b9 : (0 : Int) ≤ iI s3 46 ∧ iI s3 46 ≤ 12 := Is3.1 46
  have b10 : (0 : Int) ≤ iI s3 47 ∧ iI s3 47 ≤ 66 := Is3.1 47
  refine z_const X (show cdA 3 106 = some (.iconst 0, 1, 0, 0, 0) from rfl) ?_
  refine z_store X (lv' := [(8, .int (Int32.ofInt 0)), (0, .ref (A 93)), (2, .int (Int32.ofInt y)), (3, .int (Int32.ofInt (x * 12))), (4, .int (Int32.ofInt x4)), (5, .int (Int32.ofInt x5)), (6, .int (Int32.ofInt x6)), (7, .int (Int32.ofInt x7))]) (show cdA 3 107 = some (.istore 8, 2, 0, 0, 0) from rfl) (by decide) (fun _ h => h) ?_
  refine WS_lv (lv := [(0, .ref (A 93)), (2, .int (Int32.ofInt y)), (3, .int (Int32.ofInt (x * 12))), (4, .int (Int32.ofInt x4)), (5, .int (Int32.ofInt x5)), (6, .int (Int32.ofInt x6)), (7, .int (Int32.ofInt x7)), (8, .int (Int32.ofInt 0))]) (List.forall_mem_cons.mpr ⟨(List.Mem.tail _ (List.Mem.head _)), (List.forall_mem_cons.mpr ⟨(List.Mem.tail _ (List.Mem.tail _ (List.Mem.head _))), (List.forall_mem_cons.mpr ⟨(List.Mem.tail _ (List.Mem.tail _ (List.Mem.tail _ (List.Mem.head _)))), (List.forall_mem_cons.mpr ⟨(List.Mem.tail _ (List.Mem.tail _ (List.Mem.tail _ (List.Mem.tail _ (List.Mem.head _))))), (List.forall_mem_cons.mpr ⟨(List.Mem.tail _ (List.Mem.tail _ (List.Mem.tail _ (List.Mem.tail _ (List.Mem.tail _ (List.Mem.head _)))))), (List.forall_mem_cons.mpr ⟨(List.Mem.tail _ (List.Mem.tail _ (List.Mem.tail _ (List.Mem.tail _ (List.Mem.tail _ (List.Mem.tail _ (List.Mem.head _))))))), (List.forall_mem_cons.mpr ⟨(List.Mem.tail _ (List.Mem.tail _ (List.Mem.tail _ (List.Mem.tail _ (List.Mem.tail _ (List.Mem.tail _ (List.Mem.tail _ (List.Mem.head _)))))))), (List.forall_mem_cons.mpr ⟨(List.Mem.head _), (fun q h => absurd h List.not_mem_nil)⟩)⟩)⟩)⟩)⟩)⟩)⟩)⟩) ?_
  refine L109 ((66 - 0 : Int).toNat + 1) s3 y (x * 12) x4 x5 x6 x7 0 Is3 Fs3 (by first | exact ⟨And.intro (hs3.1.1) (hs3.1.2), And.intro (hs3.2.1.1) (hs3.2.1.2), And.intro (hs3.2.2.1.1) (hs3.2.2.1.2), And.intro (hs3.2.2.2.1.1) (hs3.2.2.2.1.2), And.intro (hs3.2.2.2.2.1.1) (hs3.2.2.2.2.1.2), And.intro (hs3.2.2.2.2.2.1.1) (hs3.2.2.2.2.2.1.2), by decide, by decide⟩ | omega) (Nat.lt_succ_self _) ?_
  intro s11 x12 x13 Is11 Fs11 hs11
  have b14 : (0 : Int) ≤ iI s11 46 ∧ iI s11 46 ≤ 12 := Is11.1 46
  have b15 : (0 : Int) ≤ iI s11 47 ∧ iI s11 47 ≤ 66 := Is11.1 47
  refine z_aload_n X (x := A 93) (show cdA 3 196 = some (.aload_n 0, 1, 0, 0, 0) from rfl) (List.Mem.head _) ?_
  refine s_getR X 93 (show cdA 3 197 = some (.getfield 37, 3, 0, 11, 0) from rfl) (by decide) rfl rfl ?_
  refine z_const X (show cdA 3 200 = some (.iconst 0, 1, 0, 0, 0) from rfl) ?_
  refine z_load X (x := x4) (show cdA 3 201 = some (.iload 4, 2, 0, 0, 0) from rfl) (List.Mem.tail _ (List.Mem.tail _ (List.Mem.tail _ (List.Mem.head _)))) ?_
  refine z_ast X 101 (show cdA 3 203 = some (.iastore, 1, 0, 0, 0) from rfl) (by decide) rfl (by decide) (show 0 < 7 by decide) (by decide) ?_
  obtain ⟨s16, hs16⟩ : ∃ x0, x0 = uC s11 87 (0 : Int).toNat (Int32.ofInt x4) := ⟨_, rfl⟩
  rw [← hs16]
  have Is16 : Bd s16 := by rw [hs16]; exact bd_C Is11 (show ((-2147483648) : Int) ≤ x4 ∧ x4 ≤ 2147483647 by first | exact ⟨hs11.2.2.1.1, hs11.2.2.1.2⟩ | omega) ⟨by first | exact hs11.2.2.1.1 | omega, by first | exact hs11.2.2.1.2 | omega⟩
  have Fs16 := fm_C (i := (0 : Int).toNat) (x := Int32.ofInt x4) Fs11 (show 87 ∈ _ by decide)
  rw [← hs16] at Fs16
  have ws16_46 : iI s16 46 = iI s11 46 := by rw [hs16]; rfl
  have ws16_47 : iI s16 47 = iI s11 47 := by rw [hs16]; rfl
  refine z_aload_n X (x := A 93) (show cdA 3 204 = some (.aload_n 0, 1, 0, 0, 0) from rfl) (List.Mem.head _) ?_
  refine s_getR X 93 (show cdA 3 205 = some (.getfield 37, 3, 0, 11, 0) from rfl) (by decide) rfl rfl ?_
  refine z_const X (show cdA 3 208 = some (.iconst 1, 1, 0, 0, 0) from rfl) ?_
  refine z_load X (x := x12) (show cdA 3 209 = some (.iload 5, 2, 0, 0, 0) from rfl) (List.Mem.tail _ (List.Mem.tail _ (List.Mem.tail _ (List.Mem.tail _ (List.Mem.head _))))) ?_
  refine z_ast X 101 (show cdA 3 211 = some (.iastore, 1, 0, 0, 0) from rfl) (by decide) rfl (by decide) (show 1 < 7 by decide) (by decide) ?_
  obtain ⟨s17, hs17⟩ : ∃ x0, x0 = uC s16 87 (1 : Int).toNat (Int32.ofInt x12) := ⟨_, rfl⟩
  rw [← hs17]
  have Is17 : Bd s17 := by rw [hs17]; exact bd_C Is16 (show ((-2147483648) : Int) ≤ x12 ∧ x12 ≤ 2147483647 by first | exact ⟨hs11.2.2.2.1.1, hs11.2.2.2.1.2⟩ | omega) ⟨by first | exact hs11.2.2.2.1.1 | omega, by first | exact hs11.2.2.2.1.2 | omega⟩
  have Fs17 := fm_C (i := (1 : Int).toNat) (x := Int32.ofInt x12) Fs16 (show 87 ∈ _ by decide)
  rw [← hs17] at Fs17
  have ws17_46 : iI s17 46 = iI s16 46 := by rw [hs17]; rfl
  have ws17_47 : iI s17 47 = iI s16 47 := by rw [hs17]; rfl
  refine z_aload_n X (x := A 93) (show cdA 3 212 = some (.aload_n 0, 1, 0, 0, 0) from rfl) (List.Mem.head _) ?_
  refine s_getR X 93 (show cdA 3 213 = some (.getfield 37, 3, 0, 11, 0) from rfl) (by decide) rfl rfl ?_
  refine z_const X (show cdA 3 216 = some (.iconst 2, 1, 0, 0, 0) from rfl) ?_
  refine z_load X (x := x6) (show cdA 3 217 = some (.iload 6, 2, 0, 0, 0) from rfl) (List.Mem.tail _ (List.Mem.tail _ (List.Mem.tail _ (List.Mem.tail _ (List.Mem.tail _ (List.Mem.head _)))))) ?_
  refine z_ast X 101 (show cdA 3 219 = some (.iastore, 1, 0, 0, 0) from rfl) (by decide) rfl (by decide) (show 2 < 7 by decide) (by decide) ?_
  obtain ⟨s18, hs18⟩ : ∃ x0, x0 = uC s17 87 (2 : Int).toNat (Int32.ofInt x6) := ⟨_, rfl⟩
  rw [← hs18]
  have Is18 : Bd s18 := by rw [hs18]; exact bd_C Is17 (show ((-2147483648) : Int) ≤ x6 ∧ x6 ≤ 2147483647 by first | exact ⟨hs11.2.2.2.2.1.1, hs11.2.2.2.2.1.2⟩ | omega) ⟨by first | exact hs11.2.2.2.2.1.1 | omega, by first | exact hs11.2.2.2.2.1.2 | omega⟩
  have Fs18 := fm_C (i := (2 : Int).toNat) (x := Int32.ofInt x6) Fs17 (show 87 ∈ _ by decide)
  rw [← hs18] at Fs18
  have ws18_46 : iI s18 46 = iI s17 46 := by rw [hs18]; rfl
  have ws18_47 : iI s18 47 = iI s17 47 := by rw [hs18]; rfl
  refine z_aload_n X (x := A 93) (show cdA 3 220 = some (.aload_n 0, 1, 0, 0, 0) from rfl) (List.Mem.head _) ?_
  refine s_getR X 93 (show cdA 3 221 = some (.getfield 37, 3, 0, 11, 0) from rfl) (by decide) rfl rfl ?_
  refine z_const X (show cdA 3 224 = some (.iconst 3, 1, 0, 0, 0) from rfl) ?_
  refine z_load X (x := x7) (show cdA 3 225 = some (.iload 7, 2, 0, 0, 0) from rfl) (List.Mem.tail _ (List.Mem.tail _ (List.Mem.tail _ (List.Mem.tail _ (List.Mem.tail _ (List.Mem.tail _ (List.Mem.head _))))))) ?_
  refine z_ast X 101 (show cdA 3 227 = some (.iastore, 1, 0, 0, 0) from rfl) (by decide) rfl (by decide) (show 3 < 7 by decide) (by decide) ?_
  obtain ⟨s19, hs19⟩ : ∃ x0, x0 = uC s18 87 (3 : Int).toNat (Int32.ofInt x7) := ⟨_, rfl⟩
  rw [← hs19]
  have Is19 : Bd s19 := by rw [hs19]; exact bd_C Is18 (show ((-2147483648) : Int) ≤ x7 ∧ x7 ≤ 2147483647 by first | exact ⟨hs11.2.2.2.2.2.1.1, hs11.2.2.2.2.2.1.2⟩ | omega) ⟨by first | exact hs11.2.2.2.2.2.1.1 | omega, by first | exact hs11.2.2.2.2.2.1.2 | omega⟩
  have Fs19 := fm_C (i := (3 : Int).toNat) (x := Int32.ofInt x7) Fs18 (show 87 ∈ _ by decide)
  rw [← hs19] at Fs19
  have ws19_46 : iI s19 46 = iI s18 46 := by rw [hs19]; rfl
  have ws19_47 : iI s19 47 = iI s18 47 := by rw [hs19]; rfl
  exact w_vret X.1 q hRt (ax_d X (show cdA 3 228 = some (.return_, 1, 0, 0, 0) from rfl)) (Nat.zero_le _) (Nat.zero_le _) ⟨_, rfl, Is19, Fs19, rfl, trivial⟩
set_option maxRecDepth 4000 in
theorem c7_work_93 (G : GX l s0 D tys a0 dT) (I : Bd s) {x : Int} (p0 : -1 ≤ x ∧ x ≤ 7) : CT l s0 D A dT 84 (rmN 84) [.ref (A 19), .int (Int32.ofInt x), .ref (A 101)] s (fun o t => Bd t ∧ Fm [] [20] s t ∧ ∃ e, o = .inl (some (.int (Int32.ofInt e))) ∧ rng e ∧ (True)) := by
  refine ct_ofX G (by decide) (Nat.le_of_ble_eq_true rfl) (fun k X E ET hRt hXt q => ?_)
  show WS k 0 [(0, .ref (A 19)), (1, .int (Int32.ofInt x)), (2, .ref (A 101))] [] _ 0 0
  have F : Fm [] [20] s s := fm_rf _ _ s
  have L28 : ∀ (n : Nat) (t : PS) (xv dp c : Int), Bd t → Fm [] [20] s t → ((0 ≤ xv ∧ xv ≤ 7) ∧ (0 ≤ dp ∧ dp ≤ 200) ∧ 0 ≤ c ∧ c ≤ 200) → (200 - c : Int).toNat < n → (∀ (t' : PS) (dp' c' : Int), Bd t' → Fm [] [20] s t' → ((0 ≤ xv ∧ xv ≤ 7) ∧ (0 ≤ dp' ∧ dp' ≤ 200) ∧ 0 ≤ c' ∧ c' ≤ 200) → WS k 163 [(0, .ref (A 19)), (2, .ref (A 101)), (1, .int (Int32.ofInt xv)), (3, .int (Int32.ofInt dp')), (4, .int (Int32.ofInt c'))] [] (Wd A dT t') 0 0) → WS k 28 [(0, .ref (A 19)), (2, .ref (A 101)), (1, .int (Int32.ofInt xv)), (3, .int (Int32.ofInt dp)), (4, .int (Int32.ofInt c))] [] (Wd A dT t) 0 0 := by
    intro n
    induction n with
    | zero =>
      intro t xv dp c I F hi hm kx
      exact absurd hm (Nat.not_lt_zero _)
    | succ n ih =>
      intro t xv dp c I F hi hm kx
      refine z_load X (x := c) (show cdA 84 28 = some (.iload 4, 2, 0, 0, 0) from rfl) (List.Mem.tail _ (List.Mem.tail _ (List.Mem.tail _ (List.Mem.tail _ (List.Mem.head _))))) ?_
      refine z_aload_n X (x := A 19) (show cdA 84 30 = some (.aload_n 0, 1, 0, 0, 0) from rfl) (List.Mem.head _) ?_
      refine s_getR X 19 (show cdA 84 31 = some (.getfield 15, 3, 7, 2, 0) from rfl) (by decide) rfl rfl ?_
      refine z_load_n X (x := xv) (show cdA 84 34 = some (.iload_n 1, 1, 0, 0, 0) from rfl) (List.Mem.tail _ (List.Mem.tail _ (List.Mem.head _))) ?_
      refine z_ald X 21 (show cdA 84 35 = some (.iaload, 1, 0, 0, 0) from rfl) (by decide) rfl (by first | exact hi.1.1 | omega) (show xv < 8 by first | exact oq_aaea290e hi.1.2 | omega) (by decide) ?_
      have b1001 : (0 : Int) ≤ iC t 17 (xv).toNat ∧ iC t 17 (xv).toNat ≤ 200 := I.2 17 _ (show (xv).toNat < 8 by first | exact oq_c19a3aae hi.1.2 | omega)
      refine z_icmp_ge X (t := 163) (show cdA 84 36 = some (.if_icmp .ge 127, 3, 3, 0, 0) from rfl) (by decide) ⟨by first | exact oq_fa4e5087 hi.2.2.1 | omega, by first | exact oq_52af2b96 hi.2.2.2 | omega⟩ (rng_to _) (fun g1002 => ?_) (fun g1002 => ?_)
      ·
        refine WS_lv (lv := [(0, .ref (A 19)), (2, .ref (A 101)), (1, .int (Int32.ofInt xv)), (3, .int (Int32.ofInt dp)), (4, .int (Int32.ofInt c))]) (List.forall_mem_cons.mpr ⟨(List.Mem.head _), (List.forall_mem_cons.mpr ⟨(List.Mem.tail _ (List.Mem.head _)), (List.forall_mem_cons.mpr ⟨(List.Mem.tail _ (List.Mem.tail _ (List.Mem.head _))), (List.forall_mem_cons.mpr ⟨(List.Mem.tail _ (List.Mem.tail _ (List.Mem.tail _ (List.Mem.head _)))), (List.forall_mem_cons.mpr ⟨(List.Mem.tail _ (List.Mem.tail _ (List.Mem.tail _ (List.Mem.tail _ (List.Mem.head _))))), (fun q h => absurd h List.not_mem_nil)⟩)⟩)⟩)⟩)⟩) ?_
        exact kx _ dp c I F (by first | exact ⟨And.intro (hi.1.1) (hi.1.2), And.intro (hi.2.1.1) (hi.2.1.2), hi.2.2.1, hi.2.2.2⟩ | omega)
      ·
        refine z_aload_n X (x := A 19) (show cdA 84 39 = some (.aload_n 0, 1, 0, 0, 0) from rfl) (List.Mem.head _) ?_
        refine s_getR X 19 (show cdA 84 40 = some (.getfield 11, 3, 7, 1, 0) from rfl) (by decide) rfl rfl ?_
        refine z_load X (x := c) (show cdA 84 43 = some (.iload 4, 2, 0, 0, 0) from rfl) (List.Mem.tail _ (List.Mem.tail _ (List.Mem.tail _ (List.Mem.tail _ (List.Mem.head _))))) ?_
        refine z_ald X 20 (show cdA 84 45 = some (.iaload, 1, 0, 0, 0) from rfl) (by decide) rfl (by first | exact hi.2.2.1 | omega) (show c < 200 by first | exact oq_6fca3d72 g1002 b1001.2 | omega) (by decide) ?_
        have b1003 : ((-2147483648) : Int) ≤ iC t 16 (c).toNat ∧ iC t 16 (c).toNat ≤ 2147483647 := I.2 16 _ (show (c).toNat < 200 by first | exact oq_b70289d5 g1002 b1001.2 | omega)
        refine z_store X (lv' := [(5, .int (Int32.ofInt (iC t 16 (c).toNat))), (0, .ref (A 19)), (2, .ref (A 101)), (1, .int (Int32.ofInt xv)), (3, .int (Int32.ofInt dp)), (4, .int (Int32.ofInt c))]) (show cdA 84 46 = some (.istore 5, 2, 0, 0, 0) from rfl) (by decide) (fun _ h => h) ?_
        refine z_load X (x := (iC t 16 (c).toNat)) (show cdA 84 48 = some (.iload 5, 2, 0, 0, 0) from rfl) (List.Mem.head _) ?_
        refine z_bipush X (show cdA 84 50 = some (.bipush (-8), 2, 0, 0, (-8)) from rfl) ?_
        refine z_icmp_le X (t := 90) (show cdA 84 52 = some (.if_icmp .le 38, 3, 5, 0, 0) from rfl) (by decide) (rng_to _) (by decide) (fun g1004 => ?_) (fun g1004 => ?_)
        ·
          refine z_load X (x := (iC t 16 (c).toNat)) (show cdA 84 90 = some (.iload 5, 2, 0, 0, 0) from rfl) (List.Mem.head _) ?_
          refine z_bipush X (show cdA 84 92 = some (.bipush (-8), 2, 0, 0, (-8)) from rfl) ?_
          refine z_icmp_ne X (t := 122) (show cdA 84 94 = some (.if_icmp .ne 28, 3, 1, 0, 0) from rfl) (by decide) (rng_to _) (by decide) (fun g1005 => ?_) (fun g1005 => ?_)
          ·
            refine z_load_n X (x := dp) (show cdA 84 122 = some (.iload_n 3, 1, 0, 0, 0) from rfl) (List.Mem.tail _ (List.Mem.tail _ (List.Mem.tail _ (List.Mem.tail _ (List.Mem.head _))))) ?_
            refine z_const X (show cdA 84 123 = some (.iconst 1, 1, 0, 0, 0) from rfl) ?_
            refine z_icmp_le X (t := 157) (show cdA 84 124 = some (.if_icmp .le 33, 3, 5, 0, 0) from rfl) (by decide) ⟨by first | exact oq_fa4e5087 hi.2.1.1 | omega, by first | exact oq_52af2b96 hi.2.1.2 | omega⟩ (by decide) (fun g1006 => ?_) (fun g1006 => ?_)
            ·
              refine z_inc X (x := c) (lv' := [(4, .int (Int32.ofInt (c + 1))), (5, .int (Int32.ofInt (iC t 16 (c).toNat))), (0, .ref (A 19)), (2, .ref (A 101)), (1, .int (Int32.ofInt xv)), (3, .int (Int32.ofInt dp))]) (show cdA 84 157 = some (.iinc 4 1, 3, 0, 0, 0) from rfl) (by decide) (List.Mem.tail _ (List.Mem.tail _ (List.Mem.tail _ (List.Mem.tail _ (List.Mem.tail _ (List.Mem.head _)))))) (fun _ h => h) ?_
              refine z_goto X (t := 28) (show cdA 84 160 = some (.goto (-132), 3, 0, 0, 0) from rfl) (by decide) ?_
              refine WS_lv (lv := [(0, .ref (A 19)), (2, .ref (A 101)), (1, .int (Int32.ofInt xv)), (3, .int (Int32.ofInt dp)), (4, .int (Int32.ofInt (c + 1)))]) (List.forall_mem_cons.mpr ⟨(List.Mem.tail _ (List.Mem.tail _ (List.Mem.head _))), (List.forall_mem_cons.mpr ⟨(List.Mem.tail _ (List.Mem.tail _ (List.Mem.tail _ (List.Mem.head _)))), (List.forall_mem_cons.mpr ⟨(List.Mem.tail _ (List.Mem.tail _ (List.Mem.tail _ (List.Mem.tail _ (List.Mem.head _))))), (List.forall_mem_cons.mpr ⟨(List.Mem.tail _ (List.Mem.tail _ (List.Mem.tail _ (List.Mem.tail _ (List.Mem.tail _ (List.Mem.head _)))))), (List.forall_mem_cons.mpr ⟨(List.Mem.head _), (fun q h => absurd h List.not_mem_nil)⟩)⟩)⟩)⟩)⟩) ?_
              exact ih _ xv dp (c + 1) I F (by first | exact ⟨And.intro (hi.1.1) (hi.1.2), And.intro (hi.2.1.1) (hi.2.1.2), oq_54f49eb5 hi.2.2.1, oq_228270fa g1002 b1001.2⟩ | omega) (by first | exact qk_me hm (by decide) (oq_b0a4f3e2 g1002 b1001.2) | omega) kx
            ·
              refine z_inc X (x := dp) (lv' := [(3, .int (Int32.ofInt (dp + (-1)))), (5, .int (Int32.ofInt (iC t 16 (c).toNat))), (0, .ref (A 19)), (2, .ref (A 101)), (1, .int (Int32.ofInt xv)), (4, .int (Int32.ofInt c))]) (show cdA 84 127 = some (.iinc 3 (-1), 3, 0, 0, 0) from rfl) (by decide) (List.Mem.tail _ (List.Mem.tail _ (List.Mem.tail _ (List.Mem.tail _ (List.Mem.head _))))) (fun _ h => h) ?_
              refine z_aload_n X (x := A 19) (show cdA 84 130 = some (.aload_n 0, 1, 0, 0, 0) from rfl) (List.Mem.tail _ (List.Mem.tail _ (List.Mem.head _))) ?_
              refine s_getR X 19 (show cdA 84 131 = some (.getfield 28, 3, 7, 13, 0) from rfl) (by decide) rfl rfl ?_
              refine z_load_n X (x := (dp + (-1))) (show cdA 84 134 = some (.iload_n 3, 1, 0, 0, 0) from rfl) (List.Mem.head _) ?_
              refine z_const X (show cdA 84 135 = some (.iconst 1, 1, 0, 0, 0) from rfl) ?_
              refine z_sub X (show cdA 84 136 = some (.isub, 1, 0, 0, 0) from rfl) ?_
              refine z_load X (x := (iC t 16 (c).toNat)) (show cdA 84 137 = some (.iload 5, 2, 0, 0, 0) from rfl) (List.Mem.tail _ (List.Mem.head _)) ?_
              refine z_aload_n X (x := A 19) (show cdA 84 139 = some (.aload_n 0, 1, 0, 0, 0) from rfl) (List.Mem.tail _ (List.Mem.tail _ (List.Mem.head _))) ?_
              refine s_getR X 19 (show cdA 84 140 = some (.getfield 28, 3, 7, 13, 0) from rfl) (by decide) rfl rfl ?_
              refine z_load_n X (x := (dp + (-1))) (show cdA 84 143 = some (.iload_n 3, 1, 0, 0, 0) from rfl) (List.Mem.head _) ?_
              refine z_const X (show cdA 84 144 = some (.iconst 1, 1, 0, 0, 0) from rfl) ?_
              refine z_sub X (show cdA 84 145 = some (.isub, 1, 0, 0, 0) from rfl) ?_
              refine z_ald X 24 (show cdA 84 146 = some (.iaload, 1, 0, 0, 0) from rfl) (by decide) rfl (by first | exact oq_d588e9be g1006 | omega) (show ((dp + (-1)) - 1) < 200 by first | exact oq_f9b4958f hi.2.1.2 | omega) (by decide) ?_
              have b1007 : ((-2147483648) : Int) ≤ iC t 20 (((dp + (-1)) - 1)).toNat ∧ iC t 20 (((dp + (-1)) - 1)).toNat ≤ 2147483647 := I.2 20 _ (show (((dp + (-1)) - 1)).toNat < 200 by first | exact oq_ab8c951f hi.2.1.2 | omega)
              refine z_aload_n X (x := A 19) (show cdA 84 147 = some (.aload_n 0, 1, 0, 0, 0) from rfl) (List.Mem.tail _ (List.Mem.tail _ (List.Mem.head _))) ?_
              refine s_getR X 19 (show cdA 84 148 = some (.getfield 28, 3, 7, 13, 0) from rfl) (by decide) rfl rfl ?_
              refine z_load_n X (x := (dp + (-1))) (show cdA 84 151 = some (.iload_n 3, 1, 0, 0, 0) from rfl) (List.Mem.head _) ?_
              refine z_ald X 24 (show cdA 84 152 = some (.iaload, 1, 0, 0, 0) from rfl) (by decide) rfl (by first | exact oq_6c14892a g1006 | omega) (show (dp + (-1)) < 200 by first | exact oq_2dcece94 hi.2.1.2 | omega) (by decide) ?_
              have b1008 : ((-2147483648) : Int) ≤ iC t 20 ((dp + (-1))).toNat ∧ iC t 20 ((dp + (-1))).toNat ≤ 2147483647 := I.2 20 _ (show ((dp + (-1))).toNat < 200 by first | exact oq_323b4624 hi.2.1.2 | omega)
              refine z_callS X (rm := rmN 85) (As := [.int (Int32.ofInt (iC t 16 (c).toNat)), .int (Int32.ofInt (iC t 20 (((dp + (-1)) - 1)).toNat)), .int (Int32.ofInt (iC t 20 ((dp + (-1))).toNat))]) (st := [.int (Int32.ofInt ((dp + (-1)) - 1)), .ref (A 24)]) (show cdA 84 153 = some (.invokestatic 154, 3, 85, 1, 0) from rfl) rfl (by rw [E.1, E.2.1, E.2.2.1]; exact c7_joined G I (by first | exact ⟨b1003.1, b1003.2⟩ | omega) (by first | exact ⟨b1007.1, b1007.2⟩ | omega) (by first | exact ⟨b1008.1, b1008.2⟩ | omega)) ⟨by rw [E.2.2.2]; exact (show (rmN 85).frames + 1 ≤ (rmN 84).frames by decide), by rw [E.2.2.2]; exact (show 8 + (mNL (miB 85) + 11) + (rmN 85).locals ≤ (rmN 84).locals by decide), by rw [E.2.2.2]; exact (show 0 + (rmN 85).cells ≤ (rmN 84).cells by decide), by rw [E.2.2.2]; exact (show 0 + (rmN 85).slots ≤ (rmN 84).slots by decide)⟩ (Nat.le_of_ble_eq_true rfl) (fun vv s1009 hq => ?_) (fun ee s1009 hq => ?_)
              rotate_left
              · obtain ⟨rfl, e1010, hv, hrs1009, hps1009⟩ := hq; cases hv
              obtain ⟨rfl, e1010, hv, hrs1009, hps1009⟩ := hq
              cases hv
              show WS k 156 [(3, .int (Int32.ofInt (dp + (-1)))), (5, .int (Int32.ofInt (iC t 16 (c).toNat))), (0, .ref (A 19)), (2, .ref (A 101)), (1, .int (Int32.ofInt xv)), (4, .int (Int32.ofInt c))] [.int (Int32.ofInt e1010), .int (Int32.ofInt ((dp + (-1)) - 1)), .ref (A 24)] (Wd A dT t) 0 0
              refine z_ast X 24 (show cdA 84 156 = some (.iastore, 1, 0, 0, 0) from rfl) (by decide) rfl (by first | exact oq_d588e9be g1006 | omega) (show ((dp + (-1)) - 1) < 200 by first | exact oq_f9b4958f hi.2.1.2 | omega) (by decide) ?_
              obtain ⟨s1011, hs1011⟩ : ∃ x0, x0 = uC t 20 (((dp + (-1)) - 1)).toNat (Int32.ofInt e1010) := ⟨_, rfl⟩
              rw [← hs1011]
              have Is1011 : Bd s1011 := by rw [hs1011]; exact bd_C I (show ((-2147483648) : Int) ≤ e1010 ∧ e1010 ≤ 2147483647 by first | exact ⟨hps1009.1, hps1009.2⟩ | omega) hrs1009
              have Fs1011 := fm_C (i := (((dp + (-1)) - 1)).toNat) (x := Int32.ofInt e1010) F (show 20 ∈ _ by decide)
              rw [← hs1011] at Fs1011
              refine z_inc X (x := c) (lv' := [(4, .int (Int32.ofInt (c + 1))), (3, .int (Int32.ofInt (dp + (-1)))), (5, .int (Int32.ofInt (iC t 16 (c).toNat))), (0, .ref (A 19)), (2, .ref (A 101)), (1, .int (Int32.ofInt xv))]) (show cdA 84 157 = some (.iinc 4 1, 3, 0, 0, 0) from rfl) (by decide) (List.Mem.tail _ (List.Mem.tail _ (List.Mem.tail _ (List.Mem.tail _ (List.Mem.tail _ (List.Mem.head _)))))) (fun _ h => h) ?_
              refine z_goto X (t := 28) (show cdA 84 160 = some (.goto (-132), 3, 0, 0, 0) from rfl) (by decide) ?_
              refine WS_lv (lv := [(0, .ref (A 19)), (2, .ref (A 101)), (1, .int (Int32.ofInt xv)), (3, .int (Int32.ofInt (dp + (-1)))), (4, .int (Int32.ofInt (c + 1)))]) (List.forall_mem_cons.mpr ⟨(List.Mem.tail _ (List.Mem.tail _ (List.Mem.tail _ (List.Mem.head _)))), (List.forall_mem_cons.mpr ⟨(List.Mem.tail _ (List.Mem.tail _ (List.Mem.tail _ (List.Mem.tail _ (List.Mem.head _))))), (List.forall_mem_cons.mpr ⟨(List.Mem.tail _ (List.Mem.tail _ (List.Mem.tail _ (List.Mem.tail _ (List.Mem.tail _ (List.Mem.head _)))))), (List.forall_mem_cons.mpr ⟨(List.Mem.tail _ (List.Mem.head _)), (List.forall_mem_cons.mpr ⟨(List.Mem.head _), (fun q h => absurd h List.not_mem_nil)⟩)⟩)⟩)⟩)⟩) ?_
              exact ih _ xv (dp + (-1)) (c + 1) Is1011 Fs1011 (by first | exact ⟨And.intro (hi.1.1) (hi.1.2), And.intro (oq_6c14892a g1006) (oq_af76c38b hi.2.1.2), oq_54f49eb5 hi.2.2.1, oq_228270fa g1002 b1001.2⟩ | omega) (by first | exact qk_me hm (by decide) (oq_b0a4f3e2 g1002 b1001.2) | omega) kx
          ·
            refine z_load_n X (x := dp) (show cdA 84 97 = some (.iload_n 3, 1, 0, 0, 0) from rfl) (List.Mem.tail _ (List.Mem.tail _ (List.Mem.tail _ (List.Mem.tail _ (List.Mem.head _))))) ?_
            refine z_if_le X (t := 157) (show cdA 84 98 = some (.ifCond .le 59, 3, 5, 0, 0) from rfl) (by decide) ⟨by first | exact oq_fa4e5087 hi.2.1.1 | omega, by first | exact oq_52af2b96 hi.2.1.2 | omega⟩ (fun g1012 => ?_) (fun g1012 => ?_)
            ·
              refine z_inc X (x := c) (lv' := [(4, .int (Int32.ofInt (c + 1))), (5, .int (Int32.ofInt (iC t 16 (c).toNat))), (0, .ref (A 19)), (2, .ref (A 101)), (1, .int (Int32.ofInt xv)), (3, .int (Int32.ofInt dp))]) (show cdA 84 157 = some (.iinc 4 1, 3, 0, 0, 0) from rfl) (by decide) (List.Mem.tail _ (List.Mem.tail _ (List.Mem.tail _ (List.Mem.tail _ (List.Mem.tail _ (List.Mem.head _)))))) (fun _ h => h) ?_
              refine z_goto X (t := 28) (show cdA 84 160 = some (.goto (-132), 3, 0, 0, 0) from rfl) (by decide) ?_
              refine WS_lv (lv := [(0, .ref (A 19)), (2, .ref (A 101)), (1, .int (Int32.ofInt xv)), (3, .int (Int32.ofInt dp)), (4, .int (Int32.ofInt (c + 1)))]) (List.forall_mem_cons.mpr ⟨(List.Mem.tail _ (List.Mem.tail _ (List.Mem.head _))), (List.forall_mem_cons.mpr ⟨(List.Mem.tail _ (List.Mem.tail _ (List.Mem.tail _ (List.Mem.head _)))), (List.forall_mem_cons.mpr ⟨(List.Mem.tail _ (List.Mem.tail _ (List.Mem.tail _ (List.Mem.tail _ (List.Mem.head _))))), (List.forall_mem_cons.mpr ⟨(List.Mem.tail _ (List.Mem.tail _ (List.Mem.tail _ (List.Mem.tail _ (List.Mem.tail _ (List.Mem.head _)))))), (List.forall_mem_cons.mpr ⟨(List.Mem.head _), (fun q h => absurd h List.not_mem_nil)⟩)⟩)⟩)⟩)⟩) ?_
              exact ih _ xv dp (c + 1) I F (by first | exact ⟨And.intro (hi.1.1) (hi.1.2), And.intro (hi.2.1.1) (hi.2.1.2), oq_54f49eb5 hi.2.2.1, oq_228270fa g1002 b1001.2⟩ | omega) (by first | exact qk_me hm (by decide) (oq_b0a4f3e2 g1002 b1001.2) | omega) kx
            ·
              refine z_aload_n X (x := A 19) (show cdA 84 101 = some (.aload_n 0, 1, 0, 0, 0) from rfl) (List.Mem.tail _ (List.Mem.head _)) ?_
              refine s_getR X 19 (show cdA 84 102 = some (.getfield 28, 3, 7, 13, 0) from rfl) (by decide) rfl rfl ?_
              refine z_load_n X (x := dp) (show cdA 84 105 = some (.iload_n 3, 1, 0, 0, 0) from rfl) (List.Mem.tail _ (List.Mem.tail _ (List.Mem.tail _ (List.Mem.tail _ (List.Mem.head _))))) ?_
              refine z_const X (show cdA 84 106 = some (.iconst 1, 1, 0, 0, 0) from rfl) ?_
              refine z_sub X (show cdA 84 107 = some (.isub, 1, 0, 0, 0) from rfl) ?_
              refine z_const X (show cdA 84 108 = some (.iconst 1, 1, 0, 0, 0) from rfl) ?_
              refine z_aload_n X (x := A 19) (show cdA 84 109 = some (.aload_n 0, 1, 0, 0, 0) from rfl) (List.Mem.tail _ (List.Mem.head _)) ?_
              refine s_getR X 19 (show cdA 84 110 = some (.getfield 28, 3, 7, 13, 0) from rfl) (by decide) rfl rfl ?_
              refine z_load_n X (x := dp) (show cdA 84 113 = some (.iload_n 3, 1, 0, 0, 0) from rfl) (List.Mem.tail _ (List.Mem.tail _ (List.Mem.tail _ (List.Mem.tail _ (List.Mem.head _))))) ?_
              refine z_const X (show cdA 84 114 = some (.iconst 1, 1, 0, 0, 0) from rfl) ?_
              refine z_sub X (show cdA 84 115 = some (.isub, 1, 0, 0, 0) from rfl) ?_
              refine z_ald X 24 (show cdA 84 116 = some (.iaload, 1, 0, 0, 0) from rfl) (by decide) rfl (by first | exact oq_a4f22177 g1012 | omega) (show (dp - 1) < 200 by first | exact oq_76ad2bb2 hi.2.1.2 | omega) (by decide) ?_
              have b1013 : ((-2147483648) : Int) ≤ iC t 20 ((dp - 1)).toNat ∧ iC t 20 ((dp - 1)).toNat ≤ 2147483647 := I.2 20 _ (show ((dp - 1)).toNat < 200 by first | exact oq_a03494ec hi.2.1.2 | omega)
              refine z_sub X (show cdA 84 117 = some (.isub, 1, 0, 0, 0) from rfl) ?_
              refine z_any (fun y1014 hy1014 => ?_)
              refine z_ast X 24 (show cdA 84 118 = some (.iastore, 1, 0, 0, 0) from rfl) (by decide) rfl (by first | exact oq_a4f22177 g1012 | omega) (show (dp - 1) < 200 by first | exact oq_76ad2bb2 hi.2.1.2 | omega) (by decide) ?_
              obtain ⟨s1015, hs1015⟩ : ∃ x0, x0 = uC t 20 ((dp - 1)).toNat (Int32.ofInt y1014) := ⟨_, rfl⟩
              rw [← hs1015]
              have Is1015 : Bd s1015 := by rw [hs1015]; exact bd_C I (show ((-2147483648) : Int) ≤ y1014 ∧ y1014 ≤ 2147483647 by first | exact ⟨hy1014.1, hy1014.2⟩ | omega) hy1014
              have Fs1015 := fm_C (i := ((dp - 1)).toNat) (x := Int32.ofInt y1014) F (show 20 ∈ _ by decide)
              rw [← hs1015] at Fs1015
              refine z_goto X (t := 157) (show cdA 84 119 = some (.goto 38, 3, 0, 0, 0) from rfl) (by decide) ?_
              refine z_inc X (x := c) (lv' := [(4, .int (Int32.ofInt (c + 1))), (5, .int (Int32.ofInt (iC t 16 (c).toNat))), (0, .ref (A 19)), (2, .ref (A 101)), (1, .int (Int32.ofInt xv)), (3, .int (Int32.ofInt dp))]) (show cdA 84 157 = some (.iinc 4 1, 3, 0, 0, 0) from rfl) (by decide) (List.Mem.tail _ (List.Mem.tail _ (List.Mem.tail _ (List.Mem.tail _ (List.Mem.tail _ (List.Mem.head _)))))) (fun _ h => h) ?_
              refine z_goto X (t := 28) (show cdA 84 160 = some (.goto (-132), 3, 0, 0, 0) from rfl) (by decide) ?_
              refine WS_lv (lv := [(0, .ref (A 19)), (2, .ref (A 101)), (1, .int (Int32.ofInt xv)), (3, .int (Int32.ofInt dp)), (4, .int (Int32.ofInt (c + 1)))]) (List.forall_mem_cons.mpr ⟨(List.Mem.tail _ (List.Mem.tail _ (List.Mem.head _))), (List.forall_mem_cons.mpr ⟨(List.Mem.tail _ (List.Mem.tail _ (List.Mem.tail _ (List.Mem.head _)))), (List.forall_mem_cons.mpr ⟨(List.Mem.tail _ (List.Mem.tail _ (List.Mem.tail _ (List.Mem.tail _ (List.Mem.head _))))), (List.forall_mem_cons.mpr ⟨(List.Mem.tail _ (List.Mem.tail _ (List.Mem.tail _ (List.Mem.tail _ (List.Mem.tail _ (List.Mem.head _)))))), (List.forall_mem_cons.mpr ⟨(List.Mem.head _), (fun q h => absurd h List.not_mem_nil)⟩)⟩)⟩)⟩)⟩) ?_
              exact ih _ xv dp (c + 1) Is1015 Fs1015 (by first | exact ⟨And.intro (hi.1.1) (hi.1.2), And.intro (hi.2.1.1) (hi.2.1.2), oq_54f49eb5 hi.2.2.1, oq_228270fa g1002 b1001.2⟩ | omega) (by first | exact qk_me hm (by decide) (oq_b0a4f3e2 g1002 b1001.2) | omega) kx
        ·
          refine z_load_n X (x := dp) (show cdA 84 55 = some (.iload_n 3, 1, 0, 0, 0) from rfl) (List.Mem.tail _ (List.Mem.tail _ (List.Mem.tail _ (List.Mem.tail _ (List.Mem.head _))))) ?_
          refine z_sipush X (show cdA 84 56 = some (.sipush 200, 3, 0, 0, 200) from rfl) ?_
          refine z_icmp_ge X (t := 157) (show cdA 84 59 = some (.if_icmp .ge 98, 3, 3, 0, 0) from rfl) (by decide) ⟨by first | exact oq_fa4e5087 hi.2.1.1 | omega, by first | exact oq_52af2b96 hi.2.1.2 | omega⟩ (by decide) (fun g1016 => ?_) (fun g1016 => ?_)
          ·
            refine z_inc X (x := c) (lv' := [(4, .int (Int32.ofInt (c + 1))), (5, .int (Int32.ofInt (iC t 16 (c).toNat))), (0, .ref (A 19)), (2, .ref (A 101)), (1, .int (Int32.ofInt xv)), (3, .int (Int32.ofInt dp))]) (show cdA 84 157 = some (.iinc 4 1, 3, 0, 0, 0) from rfl) (by decide) (List.Mem.tail _ (List.Mem.tail _ (List.Mem.tail _ (List.Mem.tail _ (List.Mem.tail _ (List.Mem.head _)))))) (fun _ h => h) ?_
            refine z_goto X (t := 28) (show cdA 84 160 = some (.goto (-132), 3, 0, 0, 0) from rfl) (by decide) ?_
            refine WS_lv (lv := [(0, .ref (A 19)), (2, .ref (A 101)), (1, .int (Int32.ofInt xv)), (3, .int (Int32.ofInt dp)), (4, .int (Int32.ofInt (c + 1)))]) (List.forall_mem_cons.mpr ⟨(List.Mem.tail _ (List.Mem.tail _ (List.Mem.head _))), (List.forall_mem_cons.mpr ⟨(List.Mem.tail _ (List.Mem.tail _ (List.Mem.tail _ (List.Mem.head _)))), (List.forall_mem_cons.mpr ⟨(List.Mem.tail _ (List.Mem.tail _ (List.Mem.tail _ (List.Mem.tail _ (List.Mem.head _))))), (List.forall_mem_cons.mpr ⟨(List.Mem.tail _ (List.Mem.tail _ (List.Mem.tail _ (List.Mem.tail _ (List.Mem.tail _ (List.Mem.head _)))))), (List.forall_mem_cons.mpr ⟨(List.Mem.head _), (fun q h => absurd h List.not_mem_nil)⟩)⟩)⟩)⟩)⟩) ?_
            exact ih _ xv dp (c + 1) I F (by first | exact ⟨And.intro (hi.1.1) (hi.1.2), And.intro (hi.2.1.1) (hi.2.1.2), oq_54f49eb5 hi.2.2.1, oq_228270fa g1002 b1001.2⟩ | omega) (by first | exact qk_me hm (by decide) (oq_b0a4f3e2 g1002 b1001.2) | omega) kx
          ·
            refine z_aload_n X (x := A 19) (show cdA 84 62 = some (.aload_n 0, 1, 0, 0, 0) from rfl) (List.Mem.tail _ (List.Mem.head _)) ?_
            refine s_getR X 19 (show cdA 84 63 = some (.getfield 28, 3, 7, 13, 0) from rfl) (by decide) rfl rfl ?_
            refine z_load_n X (x := dp) (show cdA 84 66 = some (.iload_n 3, 1, 0, 0, 0) from rfl) (List.Mem.tail _ (List.Mem.tail _ (List.Mem.tail _ (List.Mem.tail _ (List.Mem.head _))))) ?_
            refine z_load X (x := (iC t 16 (c).toNat)) (show cdA 84 67 = some (.iload 5, 2, 0, 0, 0) from rfl) (List.Mem.head _) ?_
            have N1017 : ∀ e1018 : Int, ((((iC t 16 (c).toNat) < 0) ∧ (((-2147483648) : Int) ≤ iC t 87 (((-1) - (iC t 16 (c).toNat))).toNat ∧ iC t 87 (((-1) - (iC t 16 (c).toNat))).toNat ≤ 2147483647) ∧ e1018 = (iC t 87 (((-1) - (iC t 16 (c).toNat))).toNat)) ∨ ((0 ≤ (iC t 16 (c).toNat)) ∧ e1018 = (iC t 16 (c).toNat))) → WS k 83 [(5, .int (Int32.ofInt (iC t 16 (c).toNat))), (0, .ref (A 19)), (2, .ref (A 101)), (1, .int (Int32.ofInt xv)), (3, .int (Int32.ofInt dp)), (4, .int (Int32.ofInt c))] [.int (Int32.ofInt e1018), .int (Int32.ofInt dp), .ref (A 24)] (Wd A dT t) 0 0 := by
              intro e1018 he1018
              refine z_ast X 24 (show cdA 84 83 = some (.iastore, 1, 0, 0, 0) from rfl) (by decide) rfl (by first | exact hi.2.1.1 | omega) (show dp < 200 by first | exact g1016 | omega) (by decide) ?_
              obtain ⟨s1019, hs1019⟩ : ∃ x0, x0 = uC t 20 (dp).toNat (Int32.ofInt e1018) := ⟨_, rfl⟩
              rw [← hs1019]
              have Is1019 : Bd s1019 := by rw [hs1019]; exact bd_C I (show ((-2147483648) : Int) ≤ e1018 ∧ e1018 ≤ 2147483647 by first | exact ⟨oq_05aece2f he1018, oq_93cedf2b he1018 b1003.2⟩ | omega) ⟨by first | exact oq_05aece2f he1018 | omega, by first | exact oq_93cedf2b he1018 b1003.2 | omega⟩
              have Fs1019 := fm_C (i := (dp).toNat) (x := Int32.ofInt e1018) F (show 20 ∈ _ by decide)
              rw [← hs1019] at Fs1019
              refine z_inc X (x := dp) (lv' := [(3, .int (Int32.ofInt (dp + 1))), (5, .int (Int32.ofInt (iC t 16 (c).toNat))), (0, .ref (A 19)), (2, .ref (A 101)), (1, .int (Int32.ofInt xv)), (4, .int (Int32.ofInt c))]) (show cdA 84 84 = some (.iinc 3 1, 3, 0, 0, 0) from rfl) (by decide) (List.Mem.tail _ (List.Mem.tail _ (List.Mem.tail _ (List.Mem.tail _ (List.Mem.head _))))) (fun _ h => h) ?_
              refine z_goto X (t := 157) (show cdA 84 87 = some (.goto 70, 3, 0, 0, 0) from rfl) (by decide) ?_
              refine z_inc X (x := c) (lv' := [(4, .int (Int32.ofInt (c + 1))), (3, .int (Int32.ofInt (dp + 1))), (5, .int (Int32.ofInt (iC t 16 (c).toNat))), (0, .ref (A 19)), (2, .ref (A 101)), (1, .int (Int32.ofInt xv))]) (show cdA 84 157 = some (.iinc 4 1, 3, 0, 0, 0) from rfl) (by decide) (List.Mem.tail _ (List.Mem.tail _ (List.Mem.tail _ (List.Mem.tail _ (List.Mem.tail _ (List.Mem.head _)))))) (fun _ h => h) ?_
              refine z_goto X (t := 28) (show cdA 84 160 = some (.goto (-132), 3, 0, 0, 0) from rfl) (by decide) ?_
              refine WS_lv (lv := [(0, .ref (A 19)), (2, .ref (A 101)), (1, .int (Int32.ofInt xv)), (3, .int (Int32.ofInt (dp + 1))), (4, .int (Int32.ofInt (c + 1)))]) (List.forall_mem_cons.mpr ⟨(List.Mem.tail _ (List.Mem.tail _ (List.Mem.tail _ (List.Mem.head _)))), (List.forall_mem_cons.mpr ⟨(List.Mem.tail _ (List.Mem.tail _ (List.Mem.tail _ (List.Mem.tail _ (List.Mem.head _))))), (List.forall_mem_cons.mpr ⟨(List.Mem.tail _ (List.Mem.tail _ (List.Mem.tail _ (List.Mem.tail _ (List.Mem.tail _ (List.Mem.head _)))))), (List.forall_mem_cons.mpr ⟨(List.Mem.tail _ (List.Mem.head _)), (List.forall_mem_cons.mpr ⟨(List.Mem.head _), (fun q h => absurd h List.not_mem_nil)⟩)⟩)⟩)⟩)⟩) ?_
              exact ih _ xv (dp + 1) (c + 1) Is1019 Fs1019 (by first | exact ⟨And.intro (hi.1.1) (hi.1.2), And.intro (oq_54f49eb5 hi.2.1.1) (oq_0cb6ab8a g1016), oq_54f49eb5 hi.2.2.1, oq_228270fa g1002 b1001.2⟩ | omega) (by first | exact qk_me hm (by decide) (oq_b0a4f3e2 g1002 b1001.2) | omega) kx
            refine z_if_lt X (t := 77) (show cdA 84 69 = some (.ifCond .lt 8, 3, 2, 0, 0) from rfl) (by decide) (rng_to _) (fun g1020 => ?_) (fun g1020 => ?_)
            ·
              refine z_aload_n X (x := A 101) (show cdA 84 77 = some (.aload_n 2, 1, 0, 0, 0) from rfl) (List.Mem.tail _ (List.Mem.tail _ (List.Mem.head _))) ?_
              refine z_const X (show cdA 84 78 = some (.iconst (-1), 1, 0, 0, 0) from rfl) ?_
              refine z_load X (x := (iC t 16 (c).toNat)) (show cdA 84 79 = some (.iload 5, 2, 0, 0, 0) from rfl) (List.Mem.head _) ?_
              refine z_sub X (show cdA 84 81 = some (.isub, 1, 0, 0, 0) from rfl) ?_
              refine z_ald X 101 (show cdA 84 82 = some (.iaload, 1, 0, 0, 0) from rfl) (by decide) rfl (by first | exact oq_c38d07c4 g1020 | omega) (show ((-1) - (iC t 16 (c).toNat)) < 7 by first | exact oq_a1f4cde5 g1004 | omega) (by decide) ?_
              have b1021 : ((-2147483648) : Int) ≤ iC t 87 (((-1) - (iC t 16 (c).toNat))).toNat ∧ iC t 87 (((-1) - (iC t 16 (c).toNat))).toNat ≤ 2147483647 := I.2 87 _ (show (((-1) - (iC t 16 (c).toNat))).toNat < 7 by first | exact oq_91b916ba g1004 | omega)
              exact N1017 _ (Or.inl ⟨g1020, b1021, rfl⟩)
            ·
              refine z_load X (x := (iC t 16 (c).toNat)) (show cdA 84 72 = some (.iload 5, 2, 0, 0, 0) from rfl) (List.Mem.head _) ?_
              refine z_goto X (t := 83) (show cdA 84 74 = some (.goto 9, 3, 0, 0, 0) from rfl) (by decide) ?_
              exact N1017 _ (Or.inr (⟨g1020, rfl⟩))
  refine z_load_n X (x := x) (show cdA 84 0 = some (.iload_n 1, 1, 0, 0, 0) from rfl) (List.Mem.tail _ (List.Mem.head _)) ?_
  refine z_const X (show cdA 84 1 = some (.iconst (-1), 1, 0, 0, 0) from rfl) ?_
  refine z_icmp_ne X (t := 19) (show cdA 84 2 = some (.if_icmp .ne 17, 3, 1, 0, 0) from rfl) (by decide) ⟨by first | exact oq_97ee2c2a p0.1 | omega, by first | exact oq_0e78ca7d p0.2 | omega⟩ (by decide) (fun g1 => ?_) (fun g1 => ?_)
  ·
    refine z_const X (show cdA 84 19 = some (.iconst 0, 1, 0, 0, 0) from rfl) ?_
    refine z_store_n X (lv' := [(3, .int (Int32.ofInt 0)), (0, .ref (A 19)), (1, .int (Int32.ofInt x)), (2, .ref (A 101))]) (show cdA 84 20 = some (.istore_n 3, 1, 0, 0, 0) from rfl) (by decide) (fun _ h => h) ?_
    refine z_aload_n X (x := A 19) (show cdA 84 21 = some (.aload_n 0, 1, 0, 0, 0) from rfl) (List.Mem.tail _ (List.Mem.head _)) ?_
    refine z_load_n X (x := x) (show cdA 84 22 = some (.iload_n 1, 1, 0, 0, 0) from rfl) (List.Mem.tail _ (List.Mem.tail _ (List.Mem.head _))) ?_
    refine z_callV X 19 (rm := rmN 70) (As := [.int (Int32.ofInt x)]) (st := []) (show cdA 84 23 = some (.invokevirtual 70, 3, 70, 0, 0) from rfl) rfl (by decide) rfl (by rw [E.1, E.2.1, E.2.2.1]; exact c7_beginOf_19 G I (by first | exact ⟨oq_7a1025bf g1 p0.1, p0.2⟩ | omega)) ⟨by rw [E.2.2.2]; exact (show (rmN 70).frames + 1 ≤ (rmN 84).frames by decide), by rw [E.2.2.2]; exact (show 8 + (mNL (miB 70) + 11) + (rmN 70).locals ≤ (rmN 84).locals by decide), by rw [E.2.2.2]; exact (show 0 + (rmN 70).cells ≤ (rmN 84).cells by decide), by rw [E.2.2.2]; exact (show 0 + (rmN 70).slots ≤ (rmN 84).slots by decide)⟩ (Nat.le_of_ble_eq_true rfl) (fun vv s2 hq => ?_) (fun ee s2 hq => ?_)
    rotate_left
    · obtain ⟨Is2, Fs2, e3, hv, hrs2, hps2⟩ := hq; cases hv
    obtain ⟨Is2, Fs2, e3, hv, hrs2, hps2⟩ := hq
    cases hv
    have Gs2 := fm_ts F Fs2 (by decide) (by decide)
    show WS k 26 [(3, .int (Int32.ofInt 0)), (0, .ref (A 19)), (1, .int (Int32.ofInt x)), (2, .ref (A 101))] [.int (Int32.ofInt e3)] (Wd A dT s2) 0 0
    refine z_store X (lv' := [(4, .int (Int32.ofInt e3)), (3, .int (Int32.ofInt 0)), (0, .ref (A 19)), (1, .int (Int32.ofInt x)), (2, .ref (A 101))]) (show cdA 84 26 = some (.istore 4, 2, 0, 0, 0) from rfl) (by decide) (fun _ h => h) ?_
    refine WS_lv (lv := [(0, .ref (A 19)), (2, .ref (A 101)), (1, .int (Int32.ofInt x)), (3, .int (Int32.ofInt 0)), (4, .int (Int32.ofInt e3))]) (List.forall_mem_cons.mpr ⟨(List.Mem.tail _ (List.Mem.tail _ (List.Mem.head _))), (List.forall_mem_cons.mpr ⟨(List.Mem.tail _ (List.Mem.tail _ (List.Mem.tail _ (List.Mem.tail _ (List.Mem.head _))))), (List.forall_mem_cons.mpr ⟨(List.Mem.tail _ (List.Mem.tail _ (List.Mem.tail _ (List.Mem.head _)))), (List.forall_mem_cons.mpr ⟨(List.Mem.tail _ (List.Mem.head _)), (List.forall_mem_cons.mpr ⟨(List.Mem.head _), (fun q h => absurd h List.not_mem_nil)⟩)⟩)⟩)⟩)⟩) ?_
    refine L28 ((200 - e3 : Int).toNat + 1) s2 x 0 e3 Is2 Gs2 (by first | exact ⟨oq_b629d6d6 g1 p0.2 p0.1, And.intro (by decide) (by decide), hps2.1, hps2.2⟩ | omega) (Nat.lt_succ_self _) ?_
    intro s4 x5 x6 Is4 Fs4 hs4
    refine z_aload_n X (x := A 19) (show cdA 84 163 = some (.aload_n 0, 1, 0, 0, 0) from rfl) (List.Mem.head _) ?_
    refine s_getR X 19 (show cdA 84 164 = some (.getfield 28, 3, 7, 13, 0) from rfl) (by decide) rfl rfl ?_
    refine z_const X (show cdA 84 167 = some (.iconst 0, 1, 0, 0, 0) from rfl) ?_
    refine z_ald X 24 (show cdA 84 168 = some (.iaload, 1, 0, 0, 0) from rfl) (by decide) rfl (by decide) (show 0 < 200 by decide) (by decide) ?_
    have b7 : ((-2147483648) : Int) ≤ iC s4 20 (0 : Int).toNat ∧ iC s4 20 (0 : Int).toNat ≤ 2147483647 := Is4.2 20 _ (show (0 : Int).toNat < 200 by first | exact oq_e7d7c2b9 | omega)
    exact w_iret X.1 q hRt rfl (ax_d X (show cdA 84 169 = some (.ireturn, 1, 0, 0, 0) from rfl)) (Nat.zero_le _) (Nat.zero_le _) ⟨_, rfl, Is4, Fs4, (iC s4 20 (0 : Int).toNat), rfl, (rng_to _), trivial⟩
  ·
    refine z_aload_n X (x := A 101) (show cdA 84 5 = some (.aload_n 2, 1, 0, 0, 0) from rfl) (List.Mem.tail _ (List.Mem.tail _ (List.Mem.head _))) ?_
    refine z_const X (show cdA 84 6 = some (.iconst 0, 1, 0, 0, 0) from rfl) ?_
    refine z_ald X 101 (show cdA 84 7 = some (.iaload, 1, 0, 0, 0) from rfl) (by decide) rfl (by decide) (show 0 < 7 by decide) (by decide) ?_
    have b8 : ((-2147483648) : Int) ≤ iC s 87 (0 : Int).toNat ∧ iC s 87 (0 : Int).toNat ≤ 2147483647 := I.2 87 _ (show (0 : Int).toNat < 7 by first | exact oq_e8ec3fa8 | omega)
    refine z_const X (show cdA 84 8 = some (.iconst 2, 1, 0, 0, 0) from rfl) ?_
    refine z_aload_n X (x := A 101) (show cdA 84 9 = some (.aload_n 2, 1, 0, 0, 0) from rfl) (List.Mem.tail _ (List.Mem.tail _ (List.Mem.head _))) ?_
    refine z_const X (show cdA 84 10 = some (.iconst 1, 1, 0, 0, 0) from rfl) ?_
    refine z_ald X 101 (show cdA 84 11 = some (.iaload, 1, 0, 0, 0) from rfl) (by decide) rfl (by decide) (show 1 < 7 by decide) (by decide) ?_
    have b9 : ((-2147483648) : Int) ≤ iC s 87 (1 : Int).toNat ∧ iC s 87 (1 : Int).toNat ≤ 2147483647 := I.2 87 _ (show (1 : Int).toNat < 7 by first | exact oq_a32b659c | omega)
    refine z_mul X (show cdA 84 12 = some (.imul, 1, 0, 0, 0) from rfl) ?_
    refine z_any (fun y10 hy10 => ?_)
    refine z_add X (show cdA 84 13 = some (.iadd, 1, 0, 0, 0) from rfl) ?_
    refine z_any (fun y11 hy11 => ?_)
    refine z_aload_n X (x := A 101) (show cdA 84 14 = some (.aload_n 2, 1, 0, 0, 0) from rfl) (List.Mem.tail _ (List.Mem.tail _ (List.Mem.head _))) ?_
    refine z_const X (show cdA 84 15 = some (.iconst 2, 1, 0, 0, 0) from rfl) ?_
    refine z_ald X 101 (show cdA 84 16 = some (.iaload, 1, 0, 0, 0) from rfl) (by decide) rfl (by decide) (show 2 < 7 by decide) (by decide) ?_
    have b12 : ((-2147483648) : Int) ≤ iC s 87 (2 : Int).toNat ∧ iC s 87 (2 : Int).toNat ≤ 2147483647 := I.2 87 _ (show (2 : Int).toNat < 7 by first | exact oq_62527c24 | omega)
    refine z_add X (show cdA 84 17 = some (.iadd, 1, 0, 0, 0) from rfl) ?_
    refine z_any (fun y13 hy13 => ?_)
    exact w_iret X.1 q hRt rfl (ax_d X (show cdA 84 18 = some (.ireturn, 1, 0, 0, 0) from rfl)) (Nat.zero_le _) (Nat.zero_le _) ⟨_, rfl, I, F, y13, rfl, hy13, trivial⟩
set_option maxRecDepth 4000 in
theorem c0_loadAt_93 (G : GX l s0 D tys a0 dT) (I : Bd s) {x y : Int} (p0 : 0 ≤ x ∧ x ≤ 23) (p1 : rng y) : CT l s0 D A dT 4 (rmN 4) [.ref (A 93), .int (Int32.ofInt x), .int (Int32.ofInt y)] s (fun o t => Bd t ∧ Fm [] [87, 20] s t ∧ ∃ e, o = .inl (some (.int (Int32.ofInt e))) ∧ rng e ∧ (True)) := by
  refine ct_ofX G (by decide) (Nat.le_of_ble_eq_true rfl) (fun k X E ET hRt hXt q => ?_)
  show WS k 0 [(0, .ref (A 93)), (1, .int (Int32.ofInt x)), (2, .int (Int32.ofInt y))] [] _ 0 0
  have F : Fm [] [87, 20] s s := fm_rf _ _ s
  refine z_aload_n X (x := A 93) (show cdA 4 0 = some (.aload_n 0, 1, 0, 0, 0) from rfl) (List.Mem.head _) ?_
  refine z_load_n X (x := x) (show cdA 4 1 = some (.iload_n 1, 1, 0, 0, 0) from rfl) (List.Mem.tail _ (List.Mem.head _)) ?_
  refine z_load_n X (x := y) (show cdA 4 2 = some (.iload_n 2, 1, 0, 0, 0) from rfl) (List.Mem.tail _ (List.Mem.tail _ (List.Mem.head _))) ?_
  refine z_callV X 93 (rm := rmN 3) (As := [.int (Int32.ofInt x), .int (Int32.ofInt y)]) (st := []) (show cdA 4 3 = some (.invokevirtual 96, 3, 3, 0, 0) from rfl) rfl (by decide) rfl (by rw [E.1, E.2.1, E.2.2.1]; exact c0_hear_93 G I (by first | exact ⟨p0.1, p0.2⟩ | omega) (by first | exact ⟨p1.1, p1.2⟩ | omega)) ⟨by rw [E.2.2.2]; exact (show (rmN 3).frames + 1 ≤ (rmN 4).frames by decide), by rw [E.2.2.2]; exact (show 8 + (mNL (miB 3) + 11) + (rmN 3).locals ≤ (rmN 4).locals by decide), by rw [E.2.2.2]; exact (show 0 + (rmN 3).cells ≤ (rmN 4).cells by decide), by rw [E.2.2.2]; exact (show 0 + (rmN 3).slots ≤ (rmN 4).slots by decide)⟩ (Nat.le_of_ble_eq_true rfl) (fun vv s1 hq => ?_) (fun ee s1 hq => ?_)
  rotate_left
  · obtain ⟨Is1, Fs1, hv, hps1⟩ := hq; cases hv
  obtain ⟨Is1, Fs1, hv, hps1⟩ := hq
  cases hv
  have Gs1 := fm_ts F Fs1 (by decide) (by decide)
  show WS k 6 [(0, .ref (A 93)), (1, .int (Int32.ofInt x)), (2, .int (Int32.ofInt y))] [] (Wd A dT s1) 0 0
  refine z_aload_n X (x := A 93) (show cdA 4 6 = some (.aload_n 0, 1, 0, 0, 0) from rfl) (List.Mem.head _) ?_
  refine s_getR X 93 (show cdA 4 7 = some (.getfield 47, 3, 0, 1, 0) from rfl) (by decide) rfl rfl ?_
  refine z_aload_n X (x := A 93) (show cdA 4 10 = some (.aload_n 0, 1, 0, 0, 0) from rfl) (List.Mem.head _) ?_
  refine s_getR X 93 (show cdA 4 11 = some (.getfield 47, 3, 0, 1, 0) from rfl) (by decide) rfl rfl ?_
  refine z_getI X 19 (show cdA 4 14 = some (.getfield 100, 3, 7, 4, 0) from rfl) (by decide) rfl rfl ?_
  have b3 : ((-1) : Int) ≤ iI s1 13 ∧ iI s1 13 ≤ 7 := Is1.1 13
  refine z_aload_n X (x := A 93) (show cdA 4 17 = some (.aload_n 0, 1, 0, 0, 0) from rfl) (List.Mem.head _) ?_
  refine s_getR X 93 (show cdA 4 18 = some (.getfield 37, 3, 0, 11, 0) from rfl) (by decide) rfl rfl ?_
  refine z_callV X 19 (rm := rmN 84) (As := [.int (Int32.ofInt (iI s1 13)), .ref (A 101)]) (st := []) (show cdA 4 21 = some (.invokevirtual 103, 3, 84, 0, 0) from rfl) rfl (by decide) rfl (by rw [E.1, E.2.1, E.2.2.1]; exact c7_work_93 G Is1 (by first | exact ⟨b3.1, b3.2⟩ | omega)) ⟨by rw [E.2.2.2]; exact (show (rmN 84).frames + 1 ≤ (rmN 4).frames by decide), by rw [E.2.2.2]; exact (show 8 + (mNL (miB 84) + 11) + (rmN 84).locals ≤ (rmN 4).locals by decide), by rw [E.2.2.2]; exact (show 0 + (rmN 84).cells ≤ (rmN 4).cells by decide), by rw [E.2.2.2]; exact (show 0 + (rmN 84).slots ≤ (rmN 4).slots by decide)⟩ (Nat.le_of_ble_eq_true rfl) (fun vv s4 hq => ?_) (fun ee s4 hq => ?_)
  rotate_left
  · obtain ⟨Is4, Fs4, e5, hv, hrs4, hps4⟩ := hq; cases hv
  obtain ⟨Is4, Fs4, e5, hv, hrs4, hps4⟩ := hq
  cases hv
  have Gs4 := fm_ts Gs1 Fs4 (by decide) (by decide)
  show WS k 24 [(0, .ref (A 93)), (1, .int (Int32.ofInt x)), (2, .int (Int32.ofInt y))] [.int (Int32.ofInt e5)] (Wd A dT s4) 0 0
  exact w_iret X.1 q hRt rfl (ax_d X (show cdA 4 24 = some (.ireturn, 1, 0, 0, 0) from rfl)) (Nat.zero_le _) (Nat.zero_le _) ⟨_, rfl, Is4, Gs4, e5, rfl, hrs4, trivial⟩
set_option maxRecDepth 4000 in
theorem c0_followSteps_103 (G : GX l s0 D tys a0 dT) (I : Bd s) {x : Int} {aj bj : Int64} (p0 : 0 ≤ x ∧ x ≤ 11) (p1 : iI s 49 ≤ 11) : CT l s0 D A dT 2 (rmN 2) [.ref (A 103), .int (Int32.ofInt x), .long aj, .long bj] s (fun o t => Bd t ∧ Fm [] [90, 91, 92] s t ∧ o = .inl none ∧ (True)) := by
  refine ct_ofX G (by decide) (Nat.le_of_ble_eq_true rfl) (fun k X E ET hRt hXt q => ?_)
  show WS k 0 [(0, .ref (A 103)), (1, .int (Int32.ofInt x)), (2, .long aj), (4, .long bj)] [] _ 0 0
  have F : Fm [] [90, 91, 92] s s := fm_rf _ _ s
  have b1 : (0 : Int) ≤ iI s 49 ∧ iI s 49 ≤ 12 := I.1 49
  have L12 : ∀ (n : Nat) (t : PS) (xv : Int) (av : Int64) (bv : Int64) (ov : Int) (wi : Int) (cl : Int) (kd : Int), Bd t → Fm [] [90, 91, 92] s t → ((0 ≤ xv ∧ xv ≤ 11) ∧ rng ov ∧ rng wi ∧ rng cl ∧ 0 ≤ kd ∧ kd ≤ 5 ∧ iI t 49 ≤ 11) → (5 - kd : Int).toNat < n → (∀ (t' : PS) (ov' : Int) (wi' : Int) (cl' : Int) (kd' : Int), Bd t' → Fm [] [90, 91, 92] s t' → ((0 ≤ xv ∧ xv ≤ 11) ∧ rng ov' ∧ rng wi' ∧ rng cl' ∧ 0 ≤ kd' ∧ kd' ≤ 5 ∧ iI t' 49 ≤ 11) → WS k 148 [(0, .ref (A 103)), (1, .int (Int32.ofInt xv)), (2, .long av), (4, .long bv), (6, .int (Int32.ofInt ov')), (7, .int (Int32.ofInt wi')), (8, .int (Int32.ofInt cl')), (9, .int (Int32.ofInt kd'))] [] (Wd A dT t') 0 0) → WS k 12 [(0, .ref (A 103)), (1, .int (Int32.ofInt xv)), (2, .long av), (4, .long bv), (6, .int (Int32.ofInt ov)), (7, .int (Int32.ofInt wi)), (8, .int (Int32.ofInt cl)), (9, .int (Int32.ofInt kd))] [] (Wd A dT t) 0 0 := by
    intro n
    induction n with
    | zero =>
      intro t xv av bv ov wi cl kd I F hi hm kx
      exact absurd hm (Nat.not_lt_zero _)
    | succ n ih =>
      intro t xv av bv ov wi cl kd I F hi hm kx
      have b1001 : (0 : Int) ≤ iI t 49 ∧ iI t 49 ≤ 12 := I.1 49
      refine z_load X (x := kd) (show cdA 2 12 = some (.iload 9, 2, 0, 0, 0) from rfl) (List.Mem.tail _ (List.Mem.tail _ (List.Mem.tail _ (List.Mem.tail _ (List.Mem.tail _ (List.Mem.tail _ (List.Mem.tail _ (List.Mem.head _)))))))) ?_
      refine z_const X (show cdA 2 14 = some (.iconst 5, 1, 0, 0, 0) from rfl) ?_
      refine z_icmp_ge X (t := 148) (show cdA 2 15 = some (.if_icmp .ge 133, 3, 3, 0, 0) from rfl) (by decide) ⟨by first | exact oq_fa4e5087 hi.2.2.2.2.1 | omega, by first | exact oq_a3dd55e5 hi.2.2.2.2.2.1 | omega⟩ (by decide) (fun g1002 => ?_) (fun g1002 => ?_)
      ·
        refine WS_lv (lv := [(0, .ref (A 103)), (1, .int (Int32.ofInt xv)), (2, .long av), (4, .long bv), (6, .int (Int32.ofInt ov)), (7, .int (Int32.ofInt wi)), (8, .int (Int32.ofInt cl)), (9, .int (Int32.ofInt kd))]) (List.forall_mem_cons.mpr ⟨(List.Mem.head _), (List.forall_mem_cons.mpr ⟨(List.Mem.tail _ (List.Mem.head _)), (List.forall_mem_cons.mpr ⟨(List.Mem.tail _ (List.Mem.tail _ (List.Mem.head _))), (List.forall_mem_cons.mpr ⟨(List.Mem.tail _ (List.Mem.tail _ (List.Mem.tail _ (List.Mem.head _)))), (List.forall_mem_cons.mpr ⟨(List.Mem.tail _ (List.Mem.tail _ (List.Mem.tail _ (List.Mem.tail _ (List.Mem.head _))))), (List.forall_mem_cons.mpr ⟨(List.Mem.tail _ (List.Mem.tail _ (List.Mem.tail _ (List.Mem.tail _ (List.Mem.tail _ (List.Mem.head _)))))), (List.forall_mem_cons.mpr ⟨(List.Mem.tail _ (List.Mem.tail _ (List.Mem.tail _ (List.Mem.tail _ (List.Mem.tail _ (List.Mem.tail _ (List.Mem.head _))))))), (List.forall_mem_cons.mpr ⟨(List.Mem.tail _ (List.Mem.tail _ (List.Mem.tail _ (List.Mem.tail _ (List.Mem.tail _ (List.Mem.tail _ (List.Mem.tail _ (List.Mem.head _)))))))), (fun q h => absurd h List.not_mem_nil)⟩)⟩)⟩)⟩)⟩)⟩)⟩)⟩) ?_
        exact kx _ ov wi cl kd I F (by first | exact ⟨And.intro (hi.1.1) (hi.1.2), And.intro (hi.2.1.1) (hi.2.1.2), And.intro (hi.2.2.1.1) (hi.2.2.1.2), And.intro (hi.2.2.2.1.1) (hi.2.2.2.1.2), hi.2.2.2.2.1, hi.2.2.2.2.2.1, hi.2.2.2.2.2.2⟩ | omega)
      ·
        refine z_aload_n X (x := A 103) (show cdA 2 18 = some (.aload_n 0, 1, 0, 0, 0) from rfl) (List.Mem.head _) ?_
        refine s_getR X 103 (show cdA 2 19 = some (.getfield 43, 3, 0, 0, 0) from rfl) (by decide) rfl rfl ?_
        refine s_getR X 68 (show cdA 2 22 = some (.getfield 84, 3, 9, 5, 0) from rfl) (by decide) rfl rfl ?_
        refine z_load_n X (x := xv) (show cdA 2 25 = some (.iload_n 1, 1, 0, 0, 0) from rfl) (List.Mem.tail _ (List.Mem.head _)) ?_
        refine z_const X (show cdA 2 26 = some (.iconst 5, 1, 0, 0, 0) from rfl) ?_
        refine z_mul X (show cdA 2 27 = some (.imul, 1, 0, 0, 0) from rfl) ?_
        refine z_load X (x := kd) (show cdA 2 28 = some (.iload 9, 2, 0, 0, 0) from rfl) (List.Mem.tail _ (List.Mem.tail _ (List.Mem.tail _ (List.Mem.tail _ (List.Mem.tail _ (List.Mem.tail _ (List.Mem.tail _ (List.Mem.head _)))))))) ?_
        refine z_add X (show cdA 2 30 = some (.iadd, 1, 0, 0, 0) from rfl) ?_
        refine z_lald X 73 (show cdA 2 31 = some (.laload, 1, 0, 0, 0) from rfl) (by decide) rfl (by first | exact oq_59a253bd hi.1.1 hi.2.2.2.2.1 | omega) (show ((xv * 5) + kd) < 60 by first | exact oq_7279bf48 hi.1.2 g1002 | omega) (by decide) (fun j1003 => ?_)
        refine w_lstore X.1 (lv' := [(10, .long j1003), (0, .ref (A 103)), (1, .int (Int32.ofInt xv)), (2, .long av), (4, .long bv), (6, .int (Int32.ofInt ov)), (7, .int (Int32.ofInt wi)), (8, .int (Int32.ofInt cl)), (9, .int (Int32.ofInt kd))]) (ax_d X (show cdA 2 32 = some (.lstore 10, 2, 0, 0, 0) from rfl)) (by rw [X.2.1.2.2]; decide) (fun _ h => h) ?_
        refine w_lload X.1 (ax_d X (show cdA 2 34 = some (.lload 10, 2, 0, 0, 0) from rfl)) (x := j1003) (List.Mem.head _) ?_
        refine w_lconst X.1 (ax_d X (show cdA 2 36 = some (.lconst 0, 1, 0, 0, 0) from rfl)) rfl ?_
        refine z_anyJ (fun j1004 => ?_)
        refine w_lcmp X.1 (ax_d X (show cdA 2 37 = some (.lcmp, 1, 0, 0, 0) from rfl)) ?_
        refine z_any (fun y1005 hy1005 => ?_)
        refine z_if_eq X (t := 142) (show cdA 2 38 = some (.ifCond .eq 104, 3, 0, 0, 0) from rfl) (by decide) hy1005 (fun g1006 => ?_) (fun g1006 => ?_)
        ·
          refine z_inc X (x := kd) (lv' := [(9, .int (Int32.ofInt (kd + 1))), (10, .long j1003), (0, .ref (A 103)), (1, .int (Int32.ofInt xv)), (2, .long av), (4, .long bv), (6, .int (Int32.ofInt ov)), (7, .int (Int32.ofInt wi)), (8, .int (Int32.ofInt cl))]) (show cdA 2 142 = some (.iinc 9 1, 3, 0, 0, 0) from rfl) (by decide) (List.Mem.tail _ (List.Mem.tail _ (List.Mem.tail _ (List.Mem.tail _ (List.Mem.tail _ (List.Mem.tail _ (List.Mem.tail _ (List.Mem.tail _ (List.Mem.head _))))))))) (fun _ h => h) ?_
          refine z_goto X (t := 12) (show cdA 2 145 = some (.goto (-133), 3, 0, 0, 0) from rfl) (by decide) ?_
          refine WS_lv (lv := [(0, .ref (A 103)), (1, .int (Int32.ofInt xv)), (2, .long av), (4, .long bv), (6, .int (Int32.ofInt ov)), (7, .int (Int32.ofInt wi)), (8, .int (Int32.ofInt cl)), (9, .int (Int32.ofInt (kd + 1)))]) (List.forall_mem_cons.mpr ⟨(List.Mem.tail _ (List.Mem.tail _ (List.Mem.head _))), (List.forall_mem_cons.mpr ⟨(List.Mem.tail _ (List.Mem.tail _ (List.Mem.tail _ (List.Mem.head _)))), (List.forall_mem_cons.mpr ⟨(List.Mem.tail _ (List.Mem.tail _ (List.Mem.tail _ (List.Mem.tail _ (List.Mem.head _))))), (List.forall_mem_cons.mpr ⟨(List.Mem.tail _ (List.Mem.tail _ (List.Mem.tail _ (List.Mem.tail _ (List.Mem.tail _ (List.Mem.head _)))))), (List.forall_mem_cons.mpr ⟨(List.Mem.tail _ (List.Mem.tail _ (List.Mem.tail _ (List.Mem.tail _ (List.Mem.tail _ (List.Mem.tail _ (List.Mem.head _))))))), (List.forall_mem_cons.mpr ⟨(List.Mem.tail _ (List.Mem.tail _ (List.Mem.tail _ (List.Mem.tail _ (List.Mem.tail _ (List.Mem.tail _ (List.Mem.tail _ (List.Mem.head _)))))))), (List.forall_mem_cons.mpr ⟨(List.Mem.tail _ (List.Mem.tail _ (List.Mem.tail _ (List.Mem.tail _ (List.Mem.tail _ (List.Mem.tail _ (List.Mem.tail _ (List.Mem.tail _ (List.Mem.head _))))))))), (List.forall_mem_cons.mpr ⟨(List.Mem.head _), (fun q h => absurd h List.not_mem_nil)⟩)⟩)⟩)⟩)⟩)⟩)⟩)⟩) ?_
          exact ih _ xv av bv ov wi cl (kd + 1) I F (by first | exact ⟨And.intro (hi.1.1) (hi.1.2), And.intro (hi.2.1.1) (hi.2.1.2), And.intro (hi.2.2.1.1) (hi.2.2.1.2), And.intro (hi.2.2.2.1.1) (hi.2.2.2.1.2), oq_54f49eb5 hi.2.2.2.2.1, oq_c2445583 g1002, hi.2.2.2.2.2.2⟩ | omega) (by first | exact qk_me hm (by decide) (oq_33241a94 g1002) | omega) kx
        ·
          refine z_load X (x := kd) (show cdA 2 41 = some (.iload 9, 2, 0, 0, 0) from rfl) (List.Mem.tail _ (List.Mem.tail _ (List.Mem.tail _ (List.Mem.tail _ (List.Mem.tail _ (List.Mem.tail _ (List.Mem.tail _ (List.Mem.tail _ (List.Mem.head _))))))))) ?_
          refine z_const X (show cdA 2 43 = some (.iconst 1, 1, 0, 0, 0) from rfl) ?_
          have N1007 : ∀ j1008 : Int64, WS k 59 [(10, .long j1003), (0, .ref (A 103)), (1, .int (Int32.ofInt xv)), (2, .long av), (4, .long bv), (6, .int (Int32.ofInt ov)), (7, .int (Int32.ofInt wi)), (8, .int (Int32.ofInt cl)), (9, .int (Int32.ofInt kd))] [.long j1008] (Wd A dT t) 0 0 := by
            intro j1008
            refine w_lstore X.1 (lv' := [(12, .long j1008), (10, .long j1003), (0, .ref (A 103)), (1, .int (Int32.ofInt xv)), (2, .long av), (4, .long bv), (6, .int (Int32.ofInt ov)), (7, .int (Int32.ofInt wi)), (8, .int (Int32.ofInt cl)), (9, .int (Int32.ofInt kd))]) (ax_d X (show cdA 2 59 = some (.lstore 12, 2, 0, 0, 0) from rfl)) (by rw [X.2.1.2.2]; decide) (fun _ h => h) ?_
            refine z_load X (x := kd) (show cdA 2 61 = some (.iload 9, 2, 0, 0, 0) from rfl) (List.Mem.tail _ (List.Mem.tail _ (List.Mem.tail _ (List.Mem.tail _ (List.Mem.tail _ (List.Mem.tail _ (List.Mem.tail _ (List.Mem.tail _ (List.Mem.tail _ (List.Mem.head _)))))))))) ?_
            refine z_const X (show cdA 2 63 = some (.iconst 4, 1, 0, 0, 0) from rfl) ?_
            have N1009 : ∀ j1010 : Int64, WS k 90 [(12, .long j1008), (10, .long j1003), (0, .ref (A 103)), (1, .int (Int32.ofInt xv)), (2, .long av), (4, .long bv), (6, .int (Int32.ofInt ov)), (7, .int (Int32.ofInt wi)), (8, .int (Int32.ofInt cl)), (9, .int (Int32.ofInt kd))] [.long j1010] (Wd A dT t) 0 0 := by
              intro j1010
              refine w_lstore X.1 (lv' := [(14, .long j1010), (12, .long j1008), (10, .long j1003), (0, .ref (A 103)), (1, .int (Int32.ofInt xv)), (2, .long av), (4, .long bv), (6, .int (Int32.ofInt ov)), (7, .int (Int32.ofInt wi)), (8, .int (Int32.ofInt cl)), (9, .int (Int32.ofInt kd))]) (ax_d X (show cdA 2 90 = some (.lstore 14, 2, 0, 0, 0) from rfl)) (by rw [X.2.1.2.2]; decide) (fun _ h => h) ?_
              refine w_lload X.1 (ax_d X (show cdA 2 92 = some (.lload 10, 2, 0, 0, 0) from rfl)) (x := j1003) (List.Mem.tail _ (List.Mem.tail _ (List.Mem.head _))) ?_
              refine w_lload X.1 (ax_d X (show cdA 2 94 = some (.lload 12, 2, 0, 0, 0) from rfl)) (x := j1008) (List.Mem.tail _ (List.Mem.head _)) ?_
              refine w_land X.1 (ax_d X (show cdA 2 96 = some (.land, 1, 0, 0, 0) from rfl)) ?_
              refine z_anyJ (fun j1011 => ?_)
              refine w_lload X.1 (ax_d X (show cdA 2 97 = some (.lload 14, 2, 0, 0, 0) from rfl)) (x := j1010) (List.Mem.head _) ?_
              refine w_land X.1 (ax_d X (show cdA 2 99 = some (.land, 1, 0, 0, 0) from rfl)) ?_
              refine z_anyJ (fun j1012 => ?_)
              refine z_callS X (rm := rmN 298) (As := [.long j1012]) (st := []) (show cdA 2 100 = some (.invokestatic 51, 3, 298, 1, 0) from rfl) rfl (by rw [E.1, E.2.1, E.2.2.1]; exact j_bitL G I ) ⟨by rw [E.2.2.2]; exact (show (rmN 298).frames + 1 ≤ (rmN 2).frames by decide), by rw [E.2.2.2]; exact (show 8 + (mNL (miB 298) + 11) + (rmN 298).locals ≤ (rmN 2).locals by decide), by rw [E.2.2.2]; exact (show 0 + (rmN 298).cells ≤ (rmN 2).cells by decide), by rw [E.2.2.2]; exact (show 0 + (rmN 298).slots ≤ (rmN 2).slots by decide)⟩ (Nat.le_of_ble_eq_true rfl) (fun vv s1013 hq => ?_) (fun ee s1013 hq => ?_)
              rotate_left
              · obtain ⟨Is1013, Fs1013, e1014, hv, hrs1013, hps1013⟩ := hq; cases hv
              obtain ⟨Is1013, Fs1013, e1014, hv, hrs1013, hps1013⟩ := hq
              cases hv
              have Gs1013 := fm_ts F Fs1013 (by decide) (by decide)
              have ws1013_49 : iI s1013 49 = iI t 49 := fm_i Fs1013 (by decide)
              show WS k 103 [(14, .long j1010), (12, .long j1008), (10, .long j1003), (0, .ref (A 103)), (1, .int (Int32.ofInt xv)), (2, .long av), (4, .long bv), (6, .int (Int32.ofInt ov)), (7, .int (Int32.ofInt wi)), (8, .int (Int32.ofInt cl)), (9, .int (Int32.ofInt kd))] [.int (Int32.ofInt e1014)] (Wd A dT s1013) 0 0
              refine z_store X (lv' := [(16, .int (Int32.ofInt e1014)), (14, .long j1010), (12, .long j1008), (10, .long j1003), (0, .ref (A 103)), (1, .int (Int32.ofInt xv)), (2, .long av), (4, .long bv), (6, .int (Int32.ofInt ov)), (7, .int (Int32.ofInt wi)), (8, .int (Int32.ofInt cl)), (9, .int (Int32.ofInt kd))]) (show cdA 2 103 = some (.istore 16, 2, 0, 0, 0) from rfl) (by decide) (fun _ h => h) ?_
              refine z_load X (x := ov) (show cdA 2 105 = some (.iload 6, 2, 0, 0, 0) from rfl) (List.Mem.tail _ (List.Mem.tail _ (List.Mem.tail _ (List.Mem.tail _ (List.Mem.tail _ (List.Mem.tail _ (List.Mem.tail _ (List.Mem.tail _ (List.Mem.head _))))))))) ?_
              refine w_lload X.1 (ax_d X (show cdA 2 107 = some (.lload 10, 2, 0, 0, 0) from rfl)) (x := j1003) (List.Mem.tail _ (List.Mem.tail _ (List.Mem.tail _ (List.Mem.head _)))) ?_
              refine w_lload X.1 (ax_d X (show cdA 2 109 = some (.lload 12, 2, 0, 0, 0) from rfl)) (x := j1008) (List.Mem.tail _ (List.Mem.tail _ (List.Mem.head _))) ?_
              refine w_lload X.1 (ax_d X (show cdA 2 111 = some (.lload 14, 2, 0, 0, 0) from rfl)) (x := j1010) (List.Mem.tail _ (List.Mem.head _)) ?_
              refine w_lxor X.1 (ax_d X (show cdA 2 113 = some (.lxor, 1, 0, 0, 0) from rfl)) ?_
              refine z_anyJ (fun j1015 => ?_)
              refine w_land X.1 (ax_d X (show cdA 2 114 = some (.land, 1, 0, 0, 0) from rfl)) ?_
              refine z_anyJ (fun j1016 => ?_)
              refine z_callS X (rm := rmN 298) (As := [.long j1016]) (st := [.int (Int32.ofInt ov)]) (show cdA 2 115 = some (.invokestatic 51, 3, 298, 1, 0) from rfl) rfl (by rw [E.1, E.2.1, E.2.2.1]; exact j_bitL G Is1013 ) ⟨by rw [E.2.2.2]; exact (show (rmN 298).frames + 1 ≤ (rmN 2).frames by decide), by rw [E.2.2.2]; exact (show 8 + (mNL (miB 298) + 11) + (rmN 298).locals ≤ (rmN 2).locals by decide), by rw [E.2.2.2]; exact (show 0 + (rmN 298).cells ≤ (rmN 2).cells by decide), by rw [E.2.2.2]; exact (show 0 + (rmN 298).slots ≤ (rmN 2).slots by decide)⟩ (Nat.le_of_ble_eq_true rfl) (fun vv s1017 hq => ?_) (fun ee s1017 hq => ?_)
              rotate_left
              · obtain ⟨Is1017, Fs1017, e1018, hv, hrs1017, hps1017⟩ := hq; cases hv
              obtain ⟨Is1017, Fs1017, e1018, hv, hrs1017, hps1017⟩ := hq
              cases hv
              have Gs1017 := fm_ts Gs1013 Fs1017 (by decide) (by decide)
              have ws1017_49 : iI s1017 49 = iI s1013 49 := fm_i Fs1017 (by decide)
              show WS k 118 [(16, .int (Int32.ofInt e1014)), (14, .long j1010), (12, .long j1008), (10, .long j1003), (0, .ref (A 103)), (1, .int (Int32.ofInt xv)), (2, .long av), (4, .long bv), (6, .int (Int32.ofInt ov)), (7, .int (Int32.ofInt wi)), (8, .int (Int32.ofInt cl)), (9, .int (Int32.ofInt kd))] [.int (Int32.ofInt e1018), .int (Int32.ofInt ov)] (Wd A dT s1017) 0 0
              refine z_add X (show cdA 2 118 = some (.iadd, 1, 0, 0, 0) from rfl) ?_
              refine z_any (fun y1019 hy1019 => ?_)
              refine z_store X (lv' := [(6, .int (Int32.ofInt y1019)), (16, .int (Int32.ofInt e1014)), (14, .long j1010), (12, .long j1008), (10, .long j1003), (0, .ref (A 103)), (1, .int (Int32.ofInt xv)), (2, .long av), (4, .long bv), (7, .int (Int32.ofInt wi)), (8, .int (Int32.ofInt cl)), (9, .int (Int32.ofInt kd))]) (show cdA 2 119 = some (.istore 6, 2, 0, 0, 0) from rfl) (by decide) (fun _ h => h) ?_
              refine z_load X (x := wi) (show cdA 2 121 = some (.iload 7, 2, 0, 0, 0) from rfl) (List.Mem.tail _ (List.Mem.tail _ (List.Mem.tail _ (List.Mem.tail _ (List.Mem.tail _ (List.Mem.tail _ (List.Mem.tail _ (List.Mem.tail _ (List.Mem.tail _ (List.Mem.head _)))))))))) ?_
              refine z_load X (x := e1014) (show cdA 2 123 = some (.iload 16, 2, 0, 0, 0) from rfl) (List.Mem.tail _ (List.Mem.head _)) ?_
              refine z_add X (show cdA 2 125 = some (.iadd, 1, 0, 0, 0) from rfl) ?_
              refine z_any (fun y1020 hy1020 => ?_)
              refine z_store X (lv' := [(7, .int (Int32.ofInt y1020)), (6, .int (Int32.ofInt y1019)), (16, .int (Int32.ofInt e1014)), (14, .long j1010), (12, .long j1008), (10, .long j1003), (0, .ref (A 103)), (1, .int (Int32.ofInt xv)), (2, .long av), (4, .long bv), (8, .int (Int32.ofInt cl)), (9, .int (Int32.ofInt kd))]) (show cdA 2 126 = some (.istore 7, 2, 0, 0, 0) from rfl) (by decide) (fun _ h => h) ?_
              refine z_load X (x := kd) (show cdA 2 128 = some (.iload 9, 2, 0, 0, 0) from rfl) (List.Mem.tail _ (List.Mem.tail _ (List.Mem.tail _ (List.Mem.tail _ (List.Mem.tail _ (List.Mem.tail _ (List.Mem.tail _ (List.Mem.tail _ (List.Mem.tail _ (List.Mem.tail _ (List.Mem.tail _ (List.Mem.head _)))))))))))) ?_
              refine z_const X (show cdA 2 130 = some (.iconst 4, 1, 0, 0, 0) from rfl) ?_
              have N1021 : ∀ e1022 : Int, (((kd ≠ 4) ∧ e1022 = 0) ∨ ((kd = 4) ∧ e1022 = e1014)) → WS k 140 [(7, .int (Int32.ofInt y1020)), (6, .int (Int32.ofInt y1019)), (16, .int (Int32.ofInt e1014)), (14, .long j1010), (12, .long j1008), (10, .long j1003), (0, .ref (A 103)), (1, .int (Int32.ofInt xv)), (2, .long av), (4, .long bv), (8, .int (Int32.ofInt cl)), (9, .int (Int32.ofInt kd))] [.int (Int32.ofInt e1022)] (Wd A dT s1017) 0 0 := by
                intro e1022 he1022
                refine z_store X (lv' := [(8, .int (Int32.ofInt e1022)), (7, .int (Int32.ofInt y1020)), (6, .int (Int32.ofInt y1019)), (16, .int (Int32.ofInt e1014)), (14, .long j1010), (12, .long j1008), (10, .long j1003), (0, .ref (A 103)), (1, .int (Int32.ofInt xv)), (2, .long av), (4, .long bv), (9, .int (Int32.ofInt kd))]) (show cdA 2 140 = some (.istore 8, 2, 0, 0, 0) from rfl) (by decide) (fun _ h => h) ?_
                refine z_inc X (x := kd) (lv' := [(9, .int (Int32.ofInt (kd + 1))), (8, .int (Int32.ofInt e1022)), (7, .int (Int32.ofInt y1020)), (6, .int (Int32.ofInt y1019)), (16, .int (Int32.ofInt e1014)), (14, .long j1010), (12, .long j1008), (10, .long j1003), (0, .ref (A 103)), (1, .int (Int32.ofInt xv)), (2, .long av), (4, .long bv)]) (show cdA 2 142 = some (.iinc 9 1, 3, 0, 0, 0) from rfl) (by decide) (List.Mem.tail _ (List.Mem.tail _ (List.Mem.tail _ (List.Mem.tail _ (List.Mem.tail _ (List.Mem.tail _ (List.Mem.tail _ (List.Mem.tail _ (List.Mem.tail _ (List.Mem.tail _ (List.Mem.tail _ (List.Mem.head _)))))))))))) (fun _ h => h) ?_
                refine z_goto X (t := 12) (show cdA 2 145 = some (.goto (-133), 3, 0, 0, 0) from rfl) (by decide) ?_
                refine WS_lv (lv := [(0, .ref (A 103)), (1, .int (Int32.ofInt xv)), (2, .long av), (4, .long bv), (6, .int (Int32.ofInt y1019)), (7, .int (Int32.ofInt y1020)), (8, .int (Int32.ofInt e1022)), (9, .int (Int32.ofInt (kd + 1)))]) (List.forall_mem_cons.mpr ⟨(List.Mem.tail _ (List.Mem.tail _ (List.Mem.tail _ (List.Mem.tail _ (List.Mem.tail _ (List.Mem.tail _ (List.Mem.tail _ (List.Mem.tail _ (List.Mem.head _))))))))), (List.forall_mem_cons.mpr ⟨(List.Mem.tail _ (List.Mem.tail _ (List.Mem.tail _ (List.Mem.tail _ (List.Mem.tail _ (List.Mem.tail _ (List.Mem.tail _ (List.Mem.tail _ (List.Mem.tail _ (List.Mem.head _)))))))))), (List.forall_mem_cons.mpr ⟨(List.Mem.tail _ (List.Mem.tail _ (List.Mem.tail _ (List.Mem.tail _ (List.Mem.tail _ (List.Mem.tail _ (List.Mem.tail _ (List.Mem.tail _ (List.Mem.tail _ (List.Mem.tail _ (List.Mem.head _))))))))))), (List.forall_mem_cons.mpr ⟨(List.Mem.tail _ (List.Mem.tail _ (List.Mem.tail _ (List.Mem.tail _ (List.Mem.tail _ (List.Mem.tail _ (List.Mem.tail _ (List.Mem.tail _ (List.Mem.tail _ (List.Mem.tail _ (List.Mem.tail _ (List.Mem.head _)))))))))))), (List.forall_mem_cons.mpr ⟨(List.Mem.tail _ (List.Mem.tail _ (List.Mem.tail _ (List.Mem.head _)))), (List.forall_mem_cons.mpr ⟨(List.Mem.tail _ (List.Mem.tail _ (List.Mem.head _))), (List.forall_mem_cons.mpr ⟨(List.Mem.tail _ (List.Mem.head _)), (List.forall_mem_cons.mpr ⟨(List.Mem.head _), (fun q h => absurd h List.not_mem_nil)⟩)⟩)⟩)⟩)⟩)⟩)⟩)⟩) ?_
                exact ih _ xv av bv y1019 y1020 e1022 (kd + 1) Is1017 Gs1017 (by first | exact ⟨And.intro (hi.1.1) (hi.1.2), And.intro (hy1019.1) (hy1019.2), And.intro (hy1020.1) (hy1020.2), by omega, oq_54f49eb5 hi.2.2.2.2.1, oq_c2445583 g1002, oq_9a920414 ws1017_49 ws1013_49 hi.2.2.2.2.2.2⟩ | omega) (by first | exact qk_me hm (by decide) (oq_33241a94 g1002) | omega) kx
              refine z_icmp_ne X (t := 139) (show cdA 2 131 = some (.if_icmp .ne 8, 3, 1, 0, 0) from rfl) (by decide) ⟨by first | exact oq_fa4e5087 hi.2.2.2.2.1 | omega, by first | exact oq_85aa3fe6 g1002 | omega⟩ (by decide) (fun g1023 => ?_) (fun g1023 => ?_)
              ·
                refine z_const X (show cdA 2 139 = some (.iconst 0, 1, 0, 0, 0) from rfl) ?_
                exact N1021 _ (Or.inl ⟨g1023, rfl⟩)
              ·
                refine z_load X (x := e1014) (show cdA 2 134 = some (.iload 16, 2, 0, 0, 0) from rfl) (List.Mem.tail _ (List.Mem.tail _ (List.Mem.head _))) ?_
                refine z_goto X (t := 140) (show cdA 2 136 = some (.goto 4, 3, 0, 0, 0) from rfl) (by decide) ?_
                exact N1021 _ (Or.inr (⟨g1023, rfl⟩))
            refine z_icmp_ne X (t := 72) (show cdA 2 64 = some (.if_icmp .ne 8, 3, 1, 0, 0) from rfl) (by decide) ⟨by first | exact oq_fa4e5087 hi.2.2.2.2.1 | omega, by first | exact oq_85aa3fe6 g1002 | omega⟩ (by decide) (fun g1024 => ?_) (fun g1024 => ?_)
            ·
              refine z_load X (x := kd) (show cdA 2 72 = some (.iload 9, 2, 0, 0, 0) from rfl) (List.Mem.tail _ (List.Mem.tail _ (List.Mem.tail _ (List.Mem.tail _ (List.Mem.tail _ (List.Mem.tail _ (List.Mem.tail _ (List.Mem.tail _ (List.Mem.tail _ (List.Mem.head _)))))))))) ?_
              refine z_const X (show cdA 2 74 = some (.iconst 2, 1, 0, 0, 0) from rfl) ?_
              refine z_icmp_ge X (t := 85) (show cdA 2 75 = some (.if_icmp .ge 10, 3, 3, 0, 0) from rfl) (by decide) ⟨by first | exact oq_fa4e5087 hi.2.2.2.2.1 | omega, by first | exact oq_85aa3fe6 g1002 | omega⟩ (by decide) (fun g1025 => ?_) (fun g1025 => ?_)
              ·
                refine w_lload X.1 (ax_d X (show cdA 2 85 = some (.lload 12, 2, 0, 0, 0) from rfl)) (x := j1008) (List.Mem.head _) ?_
                refine z_bipush X (show cdA 2 87 = some (.bipush 8, 2, 0, 0, 8) from rfl) ?_
                refine w_lushr X.1 (ax_d X (show cdA 2 89 = some (.lushr, 1, 0, 0, 0) from rfl)) ?_
                refine z_anyJ (fun j1026 => ?_)
                exact N1009 _
              ·
                refine w_lload X.1 (ax_d X (show cdA 2 78 = some (.lload 12, 2, 0, 0, 0) from rfl)) (x := j1008) (List.Mem.head _) ?_
                refine z_const X (show cdA 2 80 = some (.iconst 1, 1, 0, 0, 0) from rfl) ?_
                refine w_lushr X.1 (ax_d X (show cdA 2 81 = some (.lushr, 1, 0, 0, 0) from rfl)) ?_
                refine z_anyJ (fun j1027 => ?_)
                refine z_goto X (t := 90) (show cdA 2 82 = some (.goto 8, 3, 0, 0, 0) from rfl) (by decide) ?_
                exact N1009 _
            ·
              refine w_lload X.1 (ax_d X (show cdA 2 67 = some (.lload 4, 2, 0, 0, 0) from rfl)) (x := bv) (List.Mem.tail _ (List.Mem.tail _ (List.Mem.tail _ (List.Mem.tail _ (List.Mem.tail _ (List.Mem.head _)))))) ?_
              refine z_goto X (t := 90) (show cdA 2 69 = some (.goto 21, 3, 0, 0, 0) from rfl) (by decide) ?_
              exact N1009 _
          refine z_icmp_eq X (t := 53) (show cdA 2 44 = some (.if_icmp .eq 9, 3, 0, 0, 0) from rfl) (by decide) ⟨by first | exact oq_fa4e5087 hi.2.2.2.2.1 | omega, by first | exact oq_85aa3fe6 g1002 | omega⟩ (by decide) (fun g1028 => ?_) (fun g1028 => ?_)
          ·
            refine w_lload X.1 (ax_d X (show cdA 2 53 = some (.lload 4, 2, 0, 0, 0) from rfl)) (x := bv) (List.Mem.tail _ (List.Mem.tail _ (List.Mem.tail _ (List.Mem.tail _ (List.Mem.head _))))) ?_
            refine z_goto X (t := 59) (show cdA 2 55 = some (.goto 4, 3, 0, 0, 0) from rfl) (by decide) ?_
            exact N1007 _
          ·
            refine z_load X (x := kd) (show cdA 2 47 = some (.iload 9, 2, 0, 0, 0) from rfl) (List.Mem.tail _ (List.Mem.tail _ (List.Mem.tail _ (List.Mem.tail _ (List.Mem.tail _ (List.Mem.tail _ (List.Mem.tail _ (List.Mem.tail _ (List.Mem.head _))))))))) ?_
            refine z_const X (show cdA 2 49 = some (.iconst 3, 1, 0, 0, 0) from rfl) ?_
            refine z_icmp_ne X (t := 58) (show cdA 2 50 = some (.if_icmp .ne 8, 3, 1, 0, 0) from rfl) (by decide) ⟨by first | exact oq_fa4e5087 hi.2.2.2.2.1 | omega, by first | exact oq_85aa3fe6 g1002 | omega⟩ (by decide) (fun g1029 => ?_) (fun g1029 => ?_)
            ·
              refine w_lload_n X.1 (ax_d X (show cdA 2 58 = some (.lload_n 2, 1, 0, 0, 0) from rfl)) (x := av) (List.Mem.tail _ (List.Mem.tail _ (List.Mem.tail _ (List.Mem.head _)))) ?_
              exact N1007 _
            ·
              refine w_lload X.1 (ax_d X (show cdA 2 53 = some (.lload 4, 2, 0, 0, 0) from rfl)) (x := bv) (List.Mem.tail _ (List.Mem.tail _ (List.Mem.tail _ (List.Mem.tail _ (List.Mem.head _))))) ?_
              refine z_goto X (t := 59) (show cdA 2 55 = some (.goto 4, 3, 0, 0, 0) from rfl) (by decide) ?_
              exact N1007 _
  refine z_const X (show cdA 2 0 = some (.iconst 0, 1, 0, 0, 0) from rfl) ?_
  refine z_store X (lv' := [(6, .int (Int32.ofInt 0)), (0, .ref (A 103)), (1, .int (Int32.ofInt x)), (2, .long aj), (4, .long bj)]) (show cdA 2 1 = some (.istore 6, 2, 0, 0, 0) from rfl) (by decide) (fun _ h => h) ?_
  refine z_const X (show cdA 2 3 = some (.iconst 0, 1, 0, 0, 0) from rfl) ?_
  refine z_store X (lv' := [(7, .int (Int32.ofInt 0)), (6, .int (Int32.ofInt 0)), (0, .ref (A 103)), (1, .int (Int32.ofInt x)), (2, .long aj), (4, .long bj)]) (show cdA 2 4 = some (.istore 7, 2, 0, 0, 0) from rfl) (by decide) (fun _ h => h) ?_
  refine z_const X (show cdA 2 6 = some (.iconst 0, 1, 0, 0, 0) from rfl) ?_
  refine z_store X (lv' := [(8, .int (Int32.ofInt 0)), (7, .int (Int32.ofInt 0)), (6, .int (Int32.ofInt 0)), (0, .ref (A 103)), (1, .int (Int32.ofInt x)), (2, .long aj), (4, .long bj)]) (show cdA 2 7 = some (.istore 8, 2, 0, 0, 0) from rfl) (by decide) (fun _ h => h) ?_
  refine z_const X (show cdA 2 9 = some (.iconst 0, 1, 0, 0, 0) from rfl) ?_
  refine z_store X (lv' := [(9, .int (Int32.ofInt 0)), (8, .int (Int32.ofInt 0)), (7, .int (Int32.ofInt 0)), (6, .int (Int32.ofInt 0)), (0, .ref (A 103)), (1, .int (Int32.ofInt x)), (2, .long aj), (4, .long bj)]) (show cdA 2 10 = some (.istore 9, 2, 0, 0, 0) from rfl) (by decide) (fun _ h => h) ?_
  refine WS_lv (lv := [(0, .ref (A 103)), (1, .int (Int32.ofInt x)), (2, .long aj), (4, .long bj), (6, .int (Int32.ofInt 0)), (7, .int (Int32.ofInt 0)), (8, .int (Int32.ofInt 0)), (9, .int (Int32.ofInt 0))]) (List.forall_mem_cons.mpr ⟨(List.Mem.tail _ (List.Mem.tail _ (List.Mem.tail _ (List.Mem.tail _ (List.Mem.head _))))), (List.forall_mem_cons.mpr ⟨(List.Mem.tail _ (List.Mem.tail _ (List.Mem.tail _ (List.Mem.tail _ (List.Mem.tail _ (List.Mem.head _)))))), (List.forall_mem_cons.mpr ⟨(List.Mem.tail _ (List.Mem.tail _ (List.Mem.tail _ (List.Mem.tail _ (List.Mem.tail _ (List.Mem.tail _ (List.Mem.head _))))))), (List.forall_mem_cons.mpr ⟨(List.Mem.tail _ (List.Mem.tail _ (List.Mem.tail _ (List.Mem.tail _ (List.Mem.tail _ (List.Mem.tail _ (List.Mem.tail _ (List.Mem.head _)))))))), (List.forall_mem_cons.mpr ⟨(List.Mem.tail _ (List.Mem.tail _ (List.Mem.tail _ (List.Mem.head _)))), (List.forall_mem_cons.mpr ⟨(List.Mem.tail _ (List.Mem.tail _ (List.Mem.head _))), (List.forall_mem_cons.mpr ⟨(List.Mem.tail _ (List.Mem.head _)), (List.forall_mem_cons.mpr ⟨(List.Mem.head _), (fun q h => absurd h List.not_mem_nil)⟩)⟩)⟩)⟩)⟩)⟩)⟩)⟩) ?_
  refine L12 ((5 - 0 : Int).toNat + 1) s x aj bj 0 0 0 0 I F (by first | exact ⟨And.intro (p0.1) (p0.2), And.intro (by decide) (by decide), And.intro (by decide) (by decide), And.intro (by decide) (by decide), by decide, by decide, p1⟩ | omega) (Nat.lt_succ_self _) ?_
  intro s2 x3 x4 x5 x6 Is2 Fs2 hs2
  have b7 : (0 : Int) ≤ iI s2 49 ∧ iI s2 49 ≤ 12 := Is2.1 49
  refine z_aload_n X (x := A 103) (show cdA 2 148 = some (.aload_n 0, 1, 0, 0, 0) from rfl) (List.Mem.head _) ?_
  refine s_getR X 103 (show cdA 2 149 = some (.getfield 15, 3, 0, 4, 0) from rfl) (by decide) rfl rfl ?_
  refine z_aload_n X (x := A 103) (show cdA 2 152 = some (.aload_n 0, 1, 0, 0, 0) from rfl) (List.Mem.head _) ?_
  refine z_getI X 103 (show cdA 2 153 = some (.getfield 57, 3, 0, 2, 0) from rfl) (by decide) rfl rfl ?_
  have b8 : (0 : Int) ≤ iI s2 49 ∧ iI s2 49 ≤ 12 := Is2.1 49
  refine z_load X (x := x3) (show cdA 2 156 = some (.iload 6, 2, 0, 0, 0) from rfl) (List.Mem.tail _ (List.Mem.tail _ (List.Mem.tail _ (List.Mem.tail _ (List.Mem.head _))))) ?_
  refine z_ast X 105 (show cdA 2 158 = some (.iastore, 1, 0, 0, 0) from rfl) (by decide) rfl (by first | exact b8.1 | omega) (show (iI s2 49) < 12 by first | exact oq_0ddfcfee hs2.2.2.2.2.2.2 | omega) (by decide) ?_
  obtain ⟨s9, hs9⟩ : ∃ x0, x0 = uC s2 90 ((iI s2 49)).toNat (Int32.ofInt x3) := ⟨_, rfl⟩
  rw [← hs9]
  have Is9 : Bd s9 := by rw [hs9]; exact bd_C Is2 (show ((-2147483648) : Int) ≤ x3 ∧ x3 ≤ 2147483647 by first | exact ⟨hs2.2.1.1, hs2.2.1.2⟩ | omega) ⟨by first | exact hs2.2.1.1 | omega, by first | exact hs2.2.1.2 | omega⟩
  have Fs9 := fm_C (i := ((iI s2 49)).toNat) (x := Int32.ofInt x3) Fs2 (show 90 ∈ _ by decide)
  rw [← hs9] at Fs9
  have ws9_49 : iI s9 49 = iI s2 49 := by rw [hs9]; rfl
  refine z_aload_n X (x := A 103) (show cdA 2 159 = some (.aload_n 0, 1, 0, 0, 0) from rfl) (List.Mem.head _) ?_
  refine s_getR X 103 (show cdA 2 160 = some (.getfield 18, 3, 0, 5, 0) from rfl) (by decide) rfl rfl ?_
  refine z_aload_n X (x := A 103) (show cdA 2 163 = some (.aload_n 0, 1, 0, 0, 0) from rfl) (List.Mem.head _) ?_
  refine z_getI X 103 (show cdA 2 164 = some (.getfield 57, 3, 0, 2, 0) from rfl) (by decide) rfl rfl ?_
  have b10 : (0 : Int) ≤ iI s9 49 ∧ iI s9 49 ≤ 12 := Is9.1 49
  refine z_load X (x := x4) (show cdA 2 167 = some (.iload 7, 2, 0, 0, 0) from rfl) (List.Mem.tail _ (List.Mem.tail _ (List.Mem.tail _ (List.Mem.tail _ (List.Mem.tail _ (List.Mem.head _)))))) ?_
  refine z_ast X 106 (show cdA 2 169 = some (.iastore, 1, 0, 0, 0) from rfl) (by decide) rfl (by first | exact b10.1 | omega) (show (iI s9 49) < 12 by first | exact oq_210fcd76 ws9_49 hs2.2.2.2.2.2.2 | omega) (by decide) ?_
  obtain ⟨s11, hs11⟩ : ∃ x0, x0 = uC s9 91 ((iI s9 49)).toNat (Int32.ofInt x4) := ⟨_, rfl⟩
  rw [← hs11]
  have Is11 : Bd s11 := by rw [hs11]; exact bd_C Is9 (show ((-2147483648) : Int) ≤ x4 ∧ x4 ≤ 2147483647 by first | exact ⟨hs2.2.2.1.1, hs2.2.2.1.2⟩ | omega) ⟨by first | exact hs2.2.2.1.1 | omega, by first | exact hs2.2.2.1.2 | omega⟩
  have Fs11 := fm_C (i := ((iI s9 49)).toNat) (x := Int32.ofInt x4) Fs9 (show 91 ∈ _ by decide)
  rw [← hs11] at Fs11
  have ws11_49 : iI s11 49 = iI s9 49 := by rw [hs11]; rfl
  refine z_aload_n X (x := A 103) (show cdA 2 170 = some (.aload_n 0, 1, 0, 0, 0) from rfl) (List.Mem.head _) ?_
  refine s_getR X 103 (show cdA 2 171 = some (.getfield 21, 3, 0, 6, 0) from rfl) (by decide) rfl rfl ?_
  refine z_aload_n X (x := A 103) (show cdA 2 174 = some (.aload_n 0, 1, 0, 0, 0) from rfl) (List.Mem.head _) ?_
  refine z_getI X 103 (show cdA 2 175 = some (.getfield 57, 3, 0, 2, 0) from rfl) (by decide) rfl rfl ?_
  have b12 : (0 : Int) ≤ iI s11 49 ∧ iI s11 49 ≤ 12 := Is11.1 49
  refine z_load X (x := x5) (show cdA 2 178 = some (.iload 8, 2, 0, 0, 0) from rfl) (List.Mem.tail _ (List.Mem.tail _ (List.Mem.tail _ (List.Mem.tail _ (List.Mem.tail _ (List.Mem.tail _ (List.Mem.head _))))))) ?_
  refine z_ast X 107 (show cdA 2 180 = some (.iastore, 1, 0, 0, 0) from rfl) (by decide) rfl (by first | exact b12.1 | omega) (show (iI s11 49) < 12 by first | exact oq_e2284db0 ws11_49 ws9_49 hs2.2.2.2.2.2.2 | omega) (by decide) ?_
  obtain ⟨s13, hs13⟩ : ∃ x0, x0 = uC s11 92 ((iI s11 49)).toNat (Int32.ofInt x5) := ⟨_, rfl⟩
  rw [← hs13]
  have Is13 : Bd s13 := by rw [hs13]; exact bd_C Is11 (show ((-2147483648) : Int) ≤ x5 ∧ x5 ≤ 2147483647 by first | exact ⟨hs2.2.2.2.1.1, hs2.2.2.2.1.2⟩ | omega) ⟨by first | exact hs2.2.2.2.1.1 | omega, by first | exact hs2.2.2.2.1.2 | omega⟩
  have Fs13 := fm_C (i := ((iI s11 49)).toNat) (x := Int32.ofInt x5) Fs11 (show 92 ∈ _ by decide)
  rw [← hs13] at Fs13
  have ws13_49 : iI s13 49 = iI s11 49 := by rw [hs13]; rfl
  exact w_vret X.1 q hRt (ax_d X (show cdA 2 181 = some (.return_, 1, 0, 0, 0) from rfl)) (Nat.zero_le _) (Nat.zero_le _) ⟨_, rfl, Is13, Fs13, rfl, trivial⟩
set_option maxRecDepth 4000 in
theorem c0_listen_103 (G : GX l s0 D tys a0 dT) (I : Bd s) {x : Int} {aj bj : Int64} (p0 : rng x) : CT l s0 D A dT 1 (rmN 1) [.ref (A 103), .long aj, .long bj, .int (Int32.ofInt x)] s (fun o t => Bd t ∧ Fm [49, 50] [96, 89, 90, 91, 92, 93, 94, 95] s t ∧ o = .inl none ∧ (True)) := by
  refine ct_ofX G (by decide) (Nat.le_of_ble_eq_true rfl) (fun k X E ET hRt hXt q => ?_)
  show WS k 0 [(0, .ref (A 103)), (1, .long aj), (3, .long bj), (5, .int (Int32.ofInt x))] [] _ 0 0
  have F : Fm [49, 50] [96, 89, 90, 91, 92, 93, 94, 95] s s := fm_rf _ _ s
  have b1 : (0 : Int) ≤ iI s 49 ∧ iI s 49 ≤ 12 := I.1 49
  have b2 : (0 : Int) ≤ iI s 50 ∧ iI s 50 ≤ 66 := I.1 50
  have b3 : (0 : Int) ≤ iI s 43 ∧ iI s 43 ≤ 12 := I.1 43
  have b4 : (0 : Int) ≤ iI s 44 ∧ iI s 44 ≤ 66 := I.1 44
  have L42 : ∀ (n : Nat) (t : PS) (av : Int64) (bv : Int64) (c : Int), Bd t → Fm [49, 50] [96, 89, 90, 91, 92, 93, 94, 95] s t → (0 ≤ c ∧ c ≤ 12 ∧ iI t 49 ≤ c) → (12 - c : Int).toNat < n → (∀ (t' : PS) (c' : Int), Bd t' → Fm [49, 50] [96, 89, 90, 91, 92, 93, 94, 95] s t' → (0 ≤ c' ∧ c' ≤ 12 ∧ iI t' 49 ≤ c') → WS k 125 [(0, .ref (A 103)), (1, .long av), (3, .long bv), (6, .int (Int32.ofInt c'))] [] (Wd A dT t') 0 0) → WS k 42 [(0, .ref (A 103)), (1, .long av), (3, .long bv), (6, .int (Int32.ofInt c))] [] (Wd A dT t) 0 0 := by
    intro n
    induction n with
    | zero =>
      intro t av bv c I F hi hm kx
      exact absurd hm (Nat.not_lt_zero _)
    | succ n ih =>
      intro t av bv c I F hi hm kx
      have b1001 : (0 : Int) ≤ iI t 49 ∧ iI t 49 ≤ 12 := I.1 49
      have b1002 : (0 : Int) ≤ iI t 50 ∧ iI t 50 ≤ 66 := I.1 50
      have b1003 : (0 : Int) ≤ iI t 43 ∧ iI t 43 ≤ 12 := I.1 43
      have b1004 : (0 : Int) ≤ iI t 44 ∧ iI t 44 ≤ 66 := I.1 44
      refine z_load X (x := c) (show cdA 1 42 = some (.iload 6, 2, 0, 0, 0) from rfl) (List.Mem.tail _ (List.Mem.tail _ (List.Mem.tail _ (List.Mem.head _)))) ?_
      refine z_aload_n X (x := A 103) (show cdA 1 44 = some (.aload_n 0, 1, 0, 0, 0) from rfl) (List.Mem.head _) ?_
      refine s_getR X 103 (show cdA 1 45 = some (.getfield 43, 3, 0, 0, 0) from rfl) (by decide) rfl rfl ?_
      refine z_getI X 68 (show cdA 1 48 = some (.getfield 61, 3, 9, 0, 0) from rfl) (by decide) rfl rfl ?_
      have b1005 : (0 : Int) ≤ iI t 43 ∧ iI t 43 ≤ 12 := I.1 43
      refine z_icmp_ge X (t := 125) (show cdA 1 51 = some (.if_icmp .ge 74, 3, 3, 0, 0) from rfl) (by decide) ⟨by first | exact oq_fa4e5087 hi.1 | omega, by first | exact oq_78843a64 hi.2.1 | omega⟩ (rng_to _) (fun g1006 => ?_) (fun g1006 => ?_)
      ·
        refine WS_lv (lv := [(0, .ref (A 103)), (1, .long av), (3, .long bv), (6, .int (Int32.ofInt c))]) (List.forall_mem_cons.mpr ⟨(List.Mem.head _), (List.forall_mem_cons.mpr ⟨(List.Mem.tail _ (List.Mem.head _)), (List.forall_mem_cons.mpr ⟨(List.Mem.tail _ (List.Mem.tail _ (List.Mem.head _))), (List.forall_mem_cons.mpr ⟨(List.Mem.tail _ (List.Mem.tail _ (List.Mem.tail _ (List.Mem.head _)))), (fun q h => absurd h List.not_mem_nil)⟩)⟩)⟩)⟩) ?_
        exact kx _ c I F (by first | exact ⟨hi.1, hi.2.1, hi.2.2⟩ | omega)
      ·
        refine z_aload_n X (x := A 103) (show cdA 1 54 = some (.aload_n 0, 1, 0, 0, 0) from rfl) (List.Mem.head _) ?_
        refine s_getR X 103 (show cdA 1 55 = some (.getfield 43, 3, 0, 0, 0) from rfl) (by decide) rfl rfl ?_
        refine s_getR X 68 (show cdA 1 58 = some (.getfield 64, 3, 9, 3, 0) from rfl) (by decide) rfl rfl ?_
        refine z_load X (x := c) (show cdA 1 61 = some (.iload 6, 2, 0, 0, 0) from rfl) (List.Mem.tail _ (List.Mem.tail _ (List.Mem.tail _ (List.Mem.head _)))) ?_
        refine z_const X (show cdA 1 63 = some (.iconst 2, 1, 0, 0, 0) from rfl) ?_
        refine z_mul X (show cdA 1 64 = some (.imul, 1, 0, 0, 0) from rfl) ?_
        refine z_lald X 71 (show cdA 1 65 = some (.laload, 1, 0, 0, 0) from rfl) (by decide) rfl (by first | exact oq_cfc6ac54 hi.1 | omega) (show (c * 2) < 24 by first | exact oq_e062d2c8 g1006 b1005.2 | omega) (by decide) (fun j1007 => ?_)
        refine w_lload_n X.1 (ax_d X (show cdA 1 66 = some (.lload_n 1, 1, 0, 0, 0) from rfl)) (x := av) (List.Mem.tail _ (List.Mem.head _)) ?_
        refine w_land X.1 (ax_d X (show cdA 1 67 = some (.land, 1, 0, 0, 0) from rfl)) ?_
        refine z_anyJ (fun j1008 => ?_)
        refine z_aload_n X (x := A 103) (show cdA 1 68 = some (.aload_n 0, 1, 0, 0, 0) from rfl) (List.Mem.head _) ?_
        refine s_getR X 103 (show cdA 1 69 = some (.getfield 43, 3, 0, 0, 0) from rfl) (by decide) rfl rfl ?_
        refine s_getR X 68 (show cdA 1 72 = some (.getfield 64, 3, 9, 3, 0) from rfl) (by decide) rfl rfl ?_
        refine z_load X (x := c) (show cdA 1 75 = some (.iload 6, 2, 0, 0, 0) from rfl) (List.Mem.tail _ (List.Mem.tail _ (List.Mem.tail _ (List.Mem.head _)))) ?_
        refine z_const X (show cdA 1 77 = some (.iconst 2, 1, 0, 0, 0) from rfl) ?_
        refine z_mul X (show cdA 1 78 = some (.imul, 1, 0, 0, 0) from rfl) ?_
        refine z_const X (show cdA 1 79 = some (.iconst 1, 1, 0, 0, 0) from rfl) ?_
        refine z_add X (show cdA 1 80 = some (.iadd, 1, 0, 0, 0) from rfl) ?_
        refine z_lald X 71 (show cdA 1 81 = some (.laload, 1, 0, 0, 0) from rfl) (by decide) rfl (by first | exact oq_8a3e0277 hi.1 | omega) (show ((c * 2) + 1) < 24 by first | exact oq_0edc0603 g1006 b1005.2 | omega) (by decide) (fun j1009 => ?_)
        refine w_lload_n X.1 (ax_d X (show cdA 1 82 = some (.lload_n 3, 1, 0, 0, 0) from rfl)) (x := bv) (List.Mem.tail _ (List.Mem.tail _ (List.Mem.head _))) ?_
        refine w_land X.1 (ax_d X (show cdA 1 83 = some (.land, 1, 0, 0, 0) from rfl)) ?_
        refine z_anyJ (fun j1010 => ?_)
        refine w_lor X.1 (ax_d X (show cdA 1 84 = some (.lor, 1, 0, 0, 0) from rfl)) ?_
        refine z_anyJ (fun j1011 => ?_)
        refine w_lconst X.1 (ax_d X (show cdA 1 85 = some (.lconst 0, 1, 0, 0, 0) from rfl)) rfl ?_
        refine z_anyJ (fun j1012 => ?_)
        refine w_lcmp X.1 (ax_d X (show cdA 1 86 = some (.lcmp, 1, 0, 0, 0) from rfl)) ?_
        refine z_any (fun y1013 hy1013 => ?_)
        refine z_if_eq X (t := 119) (show cdA 1 87 = some (.ifCond .eq 32, 3, 0, 0, 0) from rfl) (by decide) hy1013 (fun g1014 => ?_) (fun g1014 => ?_)
        ·
          refine z_inc X (x := c) (lv' := [(6, .int (Int32.ofInt (c + 1))), (0, .ref (A 103)), (1, .long av), (3, .long bv)]) (show cdA 1 119 = some (.iinc 6 1, 3, 0, 0, 0) from rfl) (by decide) (List.Mem.tail _ (List.Mem.tail _ (List.Mem.tail _ (List.Mem.head _)))) (fun _ h => h) ?_
          refine z_goto X (t := 42) (show cdA 1 122 = some (.goto (-80), 3, 0, 0, 0) from rfl) (by decide) ?_
          refine WS_lv (lv := [(0, .ref (A 103)), (1, .long av), (3, .long bv), (6, .int (Int32.ofInt (c + 1)))]) (List.forall_mem_cons.mpr ⟨(List.Mem.tail _ (List.Mem.head _)), (List.forall_mem_cons.mpr ⟨(List.Mem.tail _ (List.Mem.tail _ (List.Mem.head _))), (List.forall_mem_cons.mpr ⟨(List.Mem.tail _ (List.Mem.tail _ (List.Mem.tail _ (List.Mem.head _)))), (List.forall_mem_cons.mpr ⟨(List.Mem.head _), (fun q h => absurd h List.not_mem_nil)⟩)⟩)⟩)⟩) ?_
          exact ih _ av bv (c + 1) I F (by first | exact ⟨oq_54f49eb5 hi.1, oq_4dae995e g1006 b1005.2, oq_03182e9e hi.2.2⟩ | omega) (by first | exact qk_me hm (by decide) (oq_b575e8c1 g1006 b1005.2) | omega) kx
        ·
          refine z_aload_n X (x := A 103) (show cdA 1 90 = some (.aload_n 0, 1, 0, 0, 0) from rfl) (List.Mem.head _) ?_
          refine s_getR X 103 (show cdA 1 91 = some (.getfield 9, 3, 0, 3, 0) from rfl) (by decide) rfl rfl ?_
          refine z_aload_n X (x := A 103) (show cdA 1 94 = some (.aload_n 0, 1, 0, 0, 0) from rfl) (List.Mem.head _) ?_
          refine z_getI X 103 (show cdA 1 95 = some (.getfield 57, 3, 0, 2, 0) from rfl) (by decide) rfl rfl ?_
          have b1015 : (0 : Int) ≤ iI t 49 ∧ iI t 49 ≤ 12 := I.1 49
          refine z_load X (x := c) (show cdA 1 98 = some (.iload 6, 2, 0, 0, 0) from rfl) (List.Mem.tail _ (List.Mem.tail _ (List.Mem.tail _ (List.Mem.head _)))) ?_
          refine z_ast X 104 (show cdA 1 100 = some (.iastore, 1, 0, 0, 0) from rfl) (by decide) rfl (by first | exact b1015.1 | omega) (show (iI t 49) < 12 by first | exact oq_79196c7f hi.2.2 g1006 b1005.2 | omega) (by decide) ?_
          obtain ⟨s1016, hs1016⟩ : ∃ x0, x0 = uC t 89 ((iI t 49)).toNat (Int32.ofInt c) := ⟨_, rfl⟩
          rw [← hs1016]
          have Is1016 : Bd s1016 := by rw [hs1016]; exact bd_C I (show (0 : Int) ≤ c ∧ c ≤ 11 by first | exact ⟨hi.1, oq_e4d7f3c5 g1006 b1005.2⟩ | omega) ⟨by first | exact oq_fa4e5087 hi.1 | omega, by first | exact oq_78843a64 hi.2.1 | omega⟩
          have Fs1016 := fm_C (i := ((iI t 49)).toNat) (x := Int32.ofInt c) F (show 89 ∈ _ by decide)
          rw [← hs1016] at Fs1016
          have ws1016_49 : iI s1016 49 = iI t 49 := by rw [hs1016]; rfl
          have ws1016_50 : iI s1016 50 = iI t 50 := by rw [hs1016]; rfl
          have ws1016_43 : iI s1016 43 = iI t 43 := by rw [hs1016]; rfl
          have ws1016_44 : iI s1016 44 = iI t 44 := by rw [hs1016]; rfl
          refine z_aload_n X (x := A 103) (show cdA 1 101 = some (.aload_n 0, 1, 0, 0, 0) from rfl) (List.Mem.head _) ?_
          refine z_load X (x := c) (show cdA 1 102 = some (.iload 6, 2, 0, 0, 0) from rfl) (List.Mem.tail _ (List.Mem.tail _ (List.Mem.tail _ (List.Mem.head _)))) ?_
          refine w_lload_n X.1 (ax_d X (show cdA 1 104 = some (.lload_n 1, 1, 0, 0, 0) from rfl)) (x := av) (List.Mem.tail _ (List.Mem.head _)) ?_
          refine w_lload_n X.1 (ax_d X (show cdA 1 105 = some (.lload_n 3, 1, 0, 0, 0) from rfl)) (x := bv) (List.Mem.tail _ (List.Mem.tail _ (List.Mem.head _))) ?_
          refine z_callV X 103 (rm := rmN 2) (As := [.int (Int32.ofInt c), .long av, .long bv]) (st := []) (show cdA 1 106 = some (.invokevirtual 68, 3, 2, 0, 0) from rfl) rfl (by decide) rfl (by rw [E.1, E.2.1, E.2.2.1]; exact c0_followSteps_103 G Is1016 (by first | exact ⟨hi.1, oq_e4d7f3c5 g1006 b1005.2⟩ | omega) (by first | exact oq_2f168143 ws1016_49 hi.2.2 g1006 b1005.2 | omega)) ⟨by rw [E.2.2.2]; exact (show (rmN 2).frames + 1 ≤ (rmN 1).frames by decide), by rw [E.2.2.2]; exact (show 8 + (mNL (miB 2) + 11) + (rmN 2).locals ≤ (rmN 1).locals by decide), by rw [E.2.2.2]; exact (show 0 + (rmN 2).cells ≤ (rmN 1).cells by decide), by rw [E.2.2.2]; exact (show 0 + (rmN 2).slots ≤ (rmN 1).slots by decide)⟩ (Nat.le_of_ble_eq_true rfl) (fun vv s1017 hq => ?_) (fun ee s1017 hq => ?_)
          rotate_left
          · obtain ⟨Is1017, Fs1017, hv, hps1017⟩ := hq; cases hv
          obtain ⟨Is1017, Fs1017, hv, hps1017⟩ := hq
          cases hv
          have Gs1017 := fm_ts Fs1016 Fs1017 (by decide) (by decide)
          have ws1017_49 : iI s1017 49 = iI s1016 49 := fm_i Fs1017 (by decide)
          have ws1017_50 : iI s1017 50 = iI s1016 50 := fm_i Fs1017 (by decide)
          have ws1017_43 : iI s1017 43 = iI s1016 43 := fm_i Fs1017 (by decide)
          have ws1017_44 : iI s1017 44 = iI s1016 44 := fm_i Fs1017 (by decide)
          show WS k 109 [(0, .ref (A 103)), (1, .long av), (3, .long bv), (6, .int (Int32.ofInt c))] [] (Wd A dT s1017) 0 0
          refine z_aload_n X (x := A 103) (show cdA 1 109 = some (.aload_n 0, 1, 0, 0, 0) from rfl) (List.Mem.head _) ?_
          refine w_dup X.1 (ax_d X (show cdA 1 110 = some (.dup, 1, 0, 0, 0) from rfl)) rfl ?_
          refine z_getI X 103 (show cdA 1 111 = some (.getfield 57, 3, 0, 2, 0) from rfl) (by decide) rfl rfl ?_
          have b1019 : (0 : Int) ≤ iI s1017 49 ∧ iI s1017 49 ≤ 12 := Is1017.1 49
          refine z_const X (show cdA 1 114 = some (.iconst 1, 1, 0, 0, 0) from rfl) ?_
          refine z_add X (show cdA 1 115 = some (.iadd, 1, 0, 0, 0) from rfl) ?_
          refine s_putI X 103 (show cdA 1 116 = some (.putfield 57, 3, 0, 2, 0) from rfl) (by decide) rfl rfl (by decide) rfl rfl rfl ?_
          obtain ⟨s1020, hs1020⟩ : ∃ x0, x0 = uI s1017 49 (Int32.ofInt ((iI s1017 49) + 1)) := ⟨_, rfl⟩
          rw [← hs1020]
          have Is1020 : Bd s1020 := by rw [hs1020]; exact bd_I Is1017 (show (0 : Int) ≤ ((iI s1017 49) + 1) ∧ ((iI s1017 49) + 1) ≤ 12 by first | exact ⟨oq_54f49eb5 b1019.1, oq_1fea0193 ws1017_49 ws1016_49 hi.2.2 g1006 b1005.2⟩ | omega) ⟨by first | exact oq_74de1e16 b1019.1 | omega, by first | exact oq_76a8a5b7 b1019.2 | omega⟩
          have Fs1020 := fm_I (x := Int32.ofInt ((iI s1017 49) + 1)) Gs1017 (show 49 ∈ _ by decide)
          rw [← hs1020] at Fs1020
          have vs1020 : iI s1020 49 = ((iI s1017 49) + 1) := by rw [hs1020]; exact iI_u ⟨by first | exact oq_74de1e16 b1019.1 | omega, by first | exact oq_76a8a5b7 b1019.2 | omega⟩
          have ws1020_50 : iI s1020 50 = iI s1017 50 := by rw [hs1020]; rfl
          have ws1020_43 : iI s1020 43 = iI s1017 43 := by rw [hs1020]; rfl
          have ws1020_44 : iI s1020 44 = iI s1017 44 := by rw [hs1020]; rfl
          refine z_inc X (x := c) (lv' := [(6, .int (Int32.ofInt (c + 1))), (0, .ref (A 103)), (1, .long av), (3, .long bv)]) (show cdA 1 119 = some (.iinc 6 1, 3, 0, 0, 0) from rfl) (by decide) (List.Mem.tail _ (List.Mem.tail _ (List.Mem.tail _ (List.Mem.head _)))) (fun _ h => h) ?_
          refine z_goto X (t := 42) (show cdA 1 122 = some (.goto (-80), 3, 0, 0, 0) from rfl) (by decide) ?_
          refine WS_lv (lv := [(0, .ref (A 103)), (1, .long av), (3, .long bv), (6, .int (Int32.ofInt (c + 1)))]) (List.forall_mem_cons.mpr ⟨(List.Mem.tail _ (List.Mem.head _)), (List.forall_mem_cons.mpr ⟨(List.Mem.tail _ (List.Mem.tail _ (List.Mem.head _))), (List.forall_mem_cons.mpr ⟨(List.Mem.tail _ (List.Mem.tail _ (List.Mem.tail _ (List.Mem.head _)))), (List.forall_mem_cons.mpr ⟨(List.Mem.head _), (fun q h => absurd h List.not_mem_nil)⟩)⟩)⟩)⟩) ?_
          exact ih _ av bv (c + 1) Is1020 Fs1020 (by first | exact ⟨oq_54f49eb5 hi.1, oq_4dae995e g1006 b1005.2, oq_ecb13324 vs1020 hi.2.2 ws1017_49 ws1016_49⟩ | omega) (by first | exact qk_me hm (by decide) (oq_b575e8c1 g1006 b1005.2) | omega) kx
  have L133 : ∀ (n : Nat) (t : PS) (av : Int64) (bv : Int64) (c : Int), Bd t → Fm [49, 50] [96, 89, 90, 91, 92, 93, 94, 95] s t → (0 ≤ c ∧ c ≤ 66 ∧ iI t 50 ≤ c) → (66 - c : Int).toNat < n → (∀ (t' : PS) (c' : Int), Bd t' → Fm [49, 50] [96, 89, 90, 91, 92, 93, 94, 95] s t' → (0 ≤ c' ∧ c' ≤ 66 ∧ iI t' 50 ≤ c') → WS k 260 [(0, .ref (A 103)), (1, .long av), (3, .long bv), (6, .int (Int32.ofInt c'))] [] (Wd A dT t') 0 0) → WS k 133 [(0, .ref (A 103)), (1, .long av), (3, .long bv), (6, .int (Int32.ofInt c))] [] (Wd A dT t) 0 0 := by
    intro n
    induction n with
    | zero =>
      intro t av bv c I F hi hm kx
      exact absurd hm (Nat.not_lt_zero _)
    | succ n ih =>
      intro t av bv c I F hi hm kx
      have b2001 : (0 : Int) ≤ iI t 49 ∧ iI t 49 ≤ 12 := I.1 49
      have b2002 : (0 : Int) ≤ iI t 50 ∧ iI t 50 ≤ 66 := I.1 50
      have b2003 : (0 : Int) ≤ iI t 43 ∧ iI t 43 ≤ 12 := I.1 43
      have b2004 : (0 : Int) ≤ iI t 44 ∧ iI t 44 ≤ 66 := I.1 44
      refine z_load X (x := c) (show cdA 1 133 = some (.iload 6, 2, 0, 0, 0) from rfl) (List.Mem.tail _ (List.Mem.tail _ (List.Mem.tail _ (List.Mem.head _)))) ?_
      refine z_aload_n X (x := A 103) (show cdA 1 135 = some (.aload_n 0, 1, 0, 0, 0) from rfl) (List.Mem.head _) ?_
      refine s_getR X 103 (show cdA 1 136 = some (.getfield 43, 3, 0, 0, 0) from rfl) (by decide) rfl rfl ?_
      refine z_getI X 68 (show cdA 1 139 = some (.getfield 75, 3, 9, 8, 0) from rfl) (by decide) rfl rfl ?_
      have b2005 : (0 : Int) ≤ iI t 44 ∧ iI t 44 ≤ 66 := I.1 44
      refine z_icmp_ge X (t := 260) (show cdA 1 142 = some (.if_icmp .ge 118, 3, 3, 0, 0) from rfl) (by decide) ⟨by first | exact oq_fa4e5087 hi.1 | omega, by first | exact oq_64f2e926 hi.2.1 | omega⟩ (rng_to _) (fun g2006 => ?_) (fun g2006 => ?_)
      ·
        refine WS_lv (lv := [(0, .ref (A 103)), (1, .long av), (3, .long bv), (6, .int (Int32.ofInt c))]) (List.forall_mem_cons.mpr ⟨(List.Mem.head _), (List.forall_mem_cons.mpr ⟨(List.Mem.tail _ (List.Mem.head _)), (List.forall_mem_cons.mpr ⟨(List.Mem.tail _ (List.Mem.tail _ (List.Mem.head _))), (List.forall_mem_cons.mpr ⟨(List.Mem.tail _ (List.Mem.tail _ (List.Mem.tail _ (List.Mem.head _)))), (fun q h => absurd h List.not_mem_nil)⟩)⟩)⟩)⟩) ?_
        exact kx _ c I F (by first | exact ⟨hi.1, hi.2.1, hi.2.2⟩ | omega)
      ·
        refine z_aload_n X (x := A 103) (show cdA 1 145 = some (.aload_n 0, 1, 0, 0, 0) from rfl) (List.Mem.head _) ?_
        refine s_getR X 103 (show cdA 1 146 = some (.getfield 43, 3, 0, 0, 0) from rfl) (by decide) rfl rfl ?_
        refine s_getR X 68 (show cdA 1 149 = some (.getfield 78, 3, 9, 7, 0) from rfl) (by decide) rfl rfl ?_
        refine z_load X (x := c) (show cdA 1 152 = some (.iload 6, 2, 0, 0, 0) from rfl) (List.Mem.tail _ (List.Mem.tail _ (List.Mem.tail _ (List.Mem.head _)))) ?_
        refine z_const X (show cdA 1 154 = some (.iconst 2, 1, 0, 0, 0) from rfl) ?_
        refine z_mul X (show cdA 1 155 = some (.imul, 1, 0, 0, 0) from rfl) ?_
        refine z_lald X 75 (show cdA 1 156 = some (.laload, 1, 0, 0, 0) from rfl) (by decide) rfl (by first | exact oq_cfc6ac54 hi.1 | omega) (show (c * 2) < 132 by first | exact oq_ff78435a g2006 b2005.2 | omega) (by decide) (fun j2007 => ?_)
        refine w_lload_n X.1 (ax_d X (show cdA 1 157 = some (.lload_n 1, 1, 0, 0, 0) from rfl)) (x := av) (List.Mem.tail _ (List.Mem.head _)) ?_
        refine w_land X.1 (ax_d X (show cdA 1 158 = some (.land, 1, 0, 0, 0) from rfl)) ?_
        refine z_anyJ (fun j2008 => ?_)
        refine z_callS X (rm := rmN 298) (As := [.long j2008]) (st := []) (show cdA 1 159 = some (.invokestatic 51, 3, 298, 1, 0) from rfl) rfl (by rw [E.1, E.2.1, E.2.2.1]; exact j_bitL G I ) ⟨by rw [E.2.2.2]; exact (show (rmN 298).frames + 1 ≤ (rmN 1).frames by decide), by rw [E.2.2.2]; exact (show 8 + (mNL (miB 298) + 11) + (rmN 298).locals ≤ (rmN 1).locals by decide), by rw [E.2.2.2]; exact (show 0 + (rmN 298).cells ≤ (rmN 1).cells by decide), by rw [E.2.2.2]; exact (show 0 + (rmN 298).slots ≤ (rmN 1).slots by decide)⟩ (Nat.le_of_ble_eq_true rfl) (fun vv s2009 hq => ?_) (fun ee s2009 hq => ?_)
        rotate_left
        · obtain ⟨Is2009, Fs2009, e2010, hv, hrs2009, hps2009⟩ := hq; cases hv
        obtain ⟨Is2009, Fs2009, e2010, hv, hrs2009, hps2009⟩ := hq
        cases hv
        have Gs2009 := fm_ts F Fs2009 (by decide) (by decide)
        have ws2009_49 : iI s2009 49 = iI t 49 := fm_i Fs2009 (by decide)
        have ws2009_50 : iI s2009 50 = iI t 50 := fm_i Fs2009 (by decide)
        have ws2009_43 : iI s2009 43 = iI t 43 := fm_i Fs2009 (by decide)
        have ws2009_44 : iI s2009 44 = iI t 44 := fm_i Fs2009 (by decide)
        show WS k 162 [(0, .ref (A 103)), (1, .long av), (3, .long bv), (6, .int (Int32.ofInt c))] [.int (Int32.ofInt e2010)] (Wd A dT s2009) 0 0
        refine z_aload_n X (x := A 103) (show cdA 1 162 = some (.aload_n 0, 1, 0, 0, 0) from rfl) (List.Mem.head _) ?_
        refine s_getR X 103 (show cdA 1 163 = some (.getfield 43, 3, 0, 0, 0) from rfl) (by decide) rfl rfl ?_
        refine s_getR X 68 (show cdA 1 166 = some (.getfield 78, 3, 9, 7, 0) from rfl) (by decide) rfl rfl ?_
        refine z_load X (x := c) (show cdA 1 169 = some (.iload 6, 2, 0, 0, 0) from rfl) (List.Mem.tail _ (List.Mem.tail _ (List.Mem.tail _ (List.Mem.head _)))) ?_
        refine z_const X (show cdA 1 171 = some (.iconst 2, 1, 0, 0, 0) from rfl) ?_
        refine z_mul X (show cdA 1 172 = some (.imul, 1, 0, 0, 0) from rfl) ?_
        refine z_const X (show cdA 1 173 = some (.iconst 1, 1, 0, 0, 0) from rfl) ?_
        refine z_add X (show cdA 1 174 = some (.iadd, 1, 0, 0, 0) from rfl) ?_
        refine z_lald X 75 (show cdA 1 175 = some (.laload, 1, 0, 0, 0) from rfl) (by decide) rfl (by first | exact oq_8a3e0277 hi.1 | omega) (show ((c * 2) + 1) < 132 by first | exact oq_643e2065 g2006 b2005.2 | omega) (by decide) (fun j2011 => ?_)
        refine w_lload_n X.1 (ax_d X (show cdA 1 176 = some (.lload_n 3, 1, 0, 0, 0) from rfl)) (x := bv) (List.Mem.tail _ (List.Mem.tail _ (List.Mem.head _))) ?_
        refine w_land X.1 (ax_d X (show cdA 1 177 = some (.land, 1, 0, 0, 0) from rfl)) ?_
        refine z_anyJ (fun j2012 => ?_)
        refine z_callS X (rm := rmN 298) (As := [.long j2012]) (st := [.int (Int32.ofInt e2010)]) (show cdA 1 178 = some (.invokestatic 51, 3, 298, 1, 0) from rfl) rfl (by rw [E.1, E.2.1, E.2.2.1]; exact j_bitL G Is2009 ) ⟨by rw [E.2.2.2]; exact (show (rmN 298).frames + 1 ≤ (rmN 1).frames by decide), by rw [E.2.2.2]; exact (show 8 + (mNL (miB 298) + 11) + (rmN 298).locals ≤ (rmN 1).locals by decide), by rw [E.2.2.2]; exact (show 0 + (rmN 298).cells ≤ (rmN 1).cells by decide), by rw [E.2.2.2]; exact (show 0 + (rmN 298).slots ≤ (rmN 1).slots by decide)⟩ (Nat.le_of_ble_eq_true rfl) (fun vv s2013 hq => ?_) (fun ee s2013 hq => ?_)
        rotate_left
        · obtain ⟨Is2013, Fs2013, e2014, hv, hrs2013, hps2013⟩ := hq; cases hv
        obtain ⟨Is2013, Fs2013, e2014, hv, hrs2013, hps2013⟩ := hq
        cases hv
        have Gs2013 := fm_ts Gs2009 Fs2013 (by decide) (by decide)
        have ws2013_49 : iI s2013 49 = iI s2009 49 := fm_i Fs2013 (by decide)
        have ws2013_50 : iI s2013 50 = iI s2009 50 := fm_i Fs2013 (by decide)
        have ws2013_43 : iI s2013 43 = iI s2009 43 := fm_i Fs2013 (by decide)
        have ws2013_44 : iI s2013 44 = iI s2009 44 := fm_i Fs2013 (by decide)
        show WS k 181 [(0, .ref (A 103)), (1, .long av), (3, .long bv), (6, .int (Int32.ofInt c))] [.int (Int32.ofInt e2014), .int (Int32.ofInt e2010)] (Wd A dT s2013) 0 0
        refine z_add X (show cdA 1 181 = some (.iadd, 1, 0, 0, 0) from rfl) ?_
        refine z_any (fun y2015 hy2015 => ?_)
        refine z_store X (lv' := [(7, .int (Int32.ofInt y2015)), (0, .ref (A 103)), (1, .long av), (3, .long bv), (6, .int (Int32.ofInt c))]) (show cdA 1 182 = some (.istore 7, 2, 0, 0, 0) from rfl) (by decide) (fun _ h => h) ?_
        refine z_load X (x := y2015) (show cdA 1 184 = some (.iload 7, 2, 0, 0, 0) from rfl) (List.Mem.head _) ?_
        refine z_if_le X (t := 254) (show cdA 1 186 = some (.ifCond .le 68, 3, 5, 0, 0) from rfl) (by decide) hy2015 (fun g2016 => ?_) (fun g2016 => ?_)
        ·
          refine z_inc X (x := c) (lv' := [(6, .int (Int32.ofInt (c + 1))), (7, .int (Int32.ofInt y2015)), (0, .ref (A 103)), (1, .long av), (3, .long bv)]) (show cdA 1 254 = some (.iinc 6 1, 3, 0, 0, 0) from rfl) (by decide) (List.Mem.tail _ (List.Mem.tail _ (List.Mem.tail _ (List.Mem.tail _ (List.Mem.head _))))) (fun _ h => h) ?_
          refine z_goto X (t := 133) (show cdA 1 257 = some (.goto (-124), 3, 0, 0, 0) from rfl) (by decide) ?_
          refine WS_lv (lv := [(0, .ref (A 103)), (1, .long av), (3, .long bv), (6, .int (Int32.ofInt (c + 1)))]) (List.forall_mem_cons.mpr ⟨(List.Mem.tail _ (List.Mem.tail _ (List.Mem.head _))), (List.forall_mem_cons.mpr ⟨(List.Mem.tail _ (List.Mem.tail _ (List.Mem.tail _ (List.Mem.head _)))), (List.forall_mem_cons.mpr ⟨(List.Mem.tail _ (List.Mem.tail _ (List.Mem.tail _ (List.Mem.tail _ (List.Mem.head _))))), (List.forall_mem_cons.mpr ⟨(List.Mem.head _), (fun q h => absurd h List.not_mem_nil)⟩)⟩)⟩)⟩) ?_
          exact ih _ av bv (c + 1) Is2013 Gs2013 (by first | exact ⟨oq_54f49eb5 hi.1, oq_319a18a4 g2006 b2005.2, oq_2e1f687c ws2013_50 hi.2.2 ws2009_50⟩ | omega) (by first | exact qk_me hm (by decide) (oq_dd0e9829 g2006 b2005.2) | omega) kx
        ·
          refine z_aload_n X (x := A 103) (show cdA 1 189 = some (.aload_n 0, 1, 0, 0, 0) from rfl) (List.Mem.tail _ (List.Mem.head _)) ?_
          refine s_getR X 103 (show cdA 1 190 = some (.getfield 26, 3, 0, 8, 0) from rfl) (by decide) rfl rfl ?_
          refine z_aload_n X (x := A 103) (show cdA 1 193 = some (.aload_n 0, 1, 0, 0, 0) from rfl) (List.Mem.tail _ (List.Mem.head _)) ?_
          refine z_getI X 103 (show cdA 1 194 = some (.getfield 72, 3, 0, 7, 0) from rfl) (by decide) rfl rfl ?_
          have b2017 : (0 : Int) ≤ iI s2013 50 ∧ iI s2013 50 ≤ 66 := Is2013.1 50
          refine z_aload_n X (x := A 103) (show cdA 1 197 = some (.aload_n 0, 1, 0, 0, 0) from rfl) (List.Mem.tail _ (List.Mem.head _)) ?_
          refine s_getR X 103 (show cdA 1 198 = some (.getfield 43, 3, 0, 0, 0) from rfl) (by decide) rfl rfl ?_
          refine s_getR X 68 (show cdA 1 201 = some (.getfield 81, 3, 9, 6, 0) from rfl) (by decide) rfl rfl ?_
          refine z_load X (x := c) (show cdA 1 204 = some (.iload 6, 2, 0, 0, 0) from rfl) (List.Mem.tail _ (List.Mem.tail _ (List.Mem.tail _ (List.Mem.tail _ (List.Mem.head _))))) ?_
          refine z_ald X 74 (show cdA 1 206 = some (.iaload, 1, 0, 0, 0) from rfl) (by decide) rfl (by first | exact hi.1 | omega) (show c < 66 by first | exact oq_256e4529 g2006 b2005.2 | omega) (by decide) ?_
          have b2018 : (0 : Int) ≤ iC s2013 62 (c).toNat ∧ iC s2013 62 (c).toNat ≤ 143 := Is2013.2 62 _ (show (c).toNat < 66 by first | exact oq_d7ff7873 g2006 b2005.2 | omega)
          refine z_bipush X (show cdA 1 207 = some (.bipush 12, 2, 0, 0, 12) from rfl) ?_
          refine z_quot X (show cdA 1 209 = some (.idiv, 1, 0, 0, 0) from rfl) (by first | exact b2018.1 | omega) (rng_to _) (by decide) (by decide) ?_
          refine z_ast X 108 (show cdA 1 210 = some (.iastore, 1, 0, 0, 0) from rfl) (by decide) rfl (by first | exact b2017.1 | omega) (show (iI s2013 50) < 66 by first | exact oq_141bb310 ws2013_50 ws2009_50 hi.2.2 g2006 b2005.2 | omega) (by decide) ?_
          obtain ⟨s2019, hs2019⟩ : ∃ x0, x0 = uC s2013 93 ((iI s2013 50)).toNat (Int32.ofInt ((iC s2013 62 (c).toNat) / 12)) := ⟨_, rfl⟩
          rw [← hs2019]
          have Is2019 : Bd s2019 := by rw [hs2019]; exact bd_C Is2013 (show (0 : Int) ≤ ((iC s2013 62 (c).toNat) / 12) ∧ ((iC s2013 62 (c).toNat) / 12) ≤ 11 by first | exact ⟨oq_37eb78e0 b2018.1, oq_a03fe580 b2018.2⟩ | omega) ⟨by first | exact oq_e17ab641 b2018.1 | omega, by first | exact oq_c285d9d6 b2018.2 | omega⟩
          have Fs2019 := fm_C (i := ((iI s2013 50)).toNat) (x := Int32.ofInt ((iC s2013 62 (c).toNat) / 12)) Gs2013 (show 93 ∈ _ by decide)
          rw [← hs2019] at Fs2019
          have ws2019_49 : iI s2019 49 = iI s2013 49 := by rw [hs2019]; rfl
          have ws2019_50 : iI s2019 50 = iI s2013 50 := by rw [hs2019]; rfl
          have ws2019_43 : iI s2019 43 = iI s2013 43 := by rw [hs2019]; rfl
          have ws2019_44 : iI s2019 44 = iI s2013 44 := by rw [hs2019]; rfl
          refine z_aload_n X (x := A 103) (show cdA 1 211 = some (.aload_n 0, 1, 0, 0, 0) from rfl) (List.Mem.tail _ (List.Mem.head _)) ?_
          refine s_getR X 103 (show cdA 1 212 = some (.getfield 29, 3, 0, 9, 0) from rfl) (by decide) rfl rfl ?_
          refine z_aload_n X (x := A 103) (show cdA 1 215 = some (.aload_n 0, 1, 0, 0, 0) from rfl) (List.Mem.tail _ (List.Mem.head _)) ?_
          refine z_getI X 103 (show cdA 1 216 = some (.getfield 72, 3, 0, 7, 0) from rfl) (by decide) rfl rfl ?_
          have b2020 : (0 : Int) ≤ iI s2019 50 ∧ iI s2019 50 ≤ 66 := Is2019.1 50
          refine z_aload_n X (x := A 103) (show cdA 1 219 = some (.aload_n 0, 1, 0, 0, 0) from rfl) (List.Mem.tail _ (List.Mem.head _)) ?_
          refine s_getR X 103 (show cdA 1 220 = some (.getfield 43, 3, 0, 0, 0) from rfl) (by decide) rfl rfl ?_
          refine s_getR X 68 (show cdA 1 223 = some (.getfield 81, 3, 9, 6, 0) from rfl) (by decide) rfl rfl ?_
          refine z_load X (x := c) (show cdA 1 226 = some (.iload 6, 2, 0, 0, 0) from rfl) (List.Mem.tail _ (List.Mem.tail _ (List.Mem.tail _ (List.Mem.tail _ (List.Mem.head _))))) ?_
          refine z_ald X 74 (show cdA 1 228 = some (.iaload, 1, 0, 0, 0) from rfl) (by decide) rfl (by first | exact hi.1 | omega) (show c < 66 by first | exact oq_256e4529 g2006 b2005.2 | omega) (by decide) ?_
          have b2021 : (0 : Int) ≤ iC s2019 62 (c).toNat ∧ iC s2019 62 (c).toNat ≤ 143 := Is2019.2 62 _ (show (c).toNat < 66 by first | exact oq_d7ff7873 g2006 b2005.2 | omega)
          refine z_bipush X (show cdA 1 229 = some (.bipush 12, 2, 0, 0, 12) from rfl) ?_
          refine z_mod X (show cdA 1 231 = some (.irem, 1, 0, 0, 0) from rfl) (by first | exact b2021.1 | omega) (rng_to _) (by decide) (by decide) ?_
          refine z_ast X 109 (show cdA 1 232 = some (.iastore, 1, 0, 0, 0) from rfl) (by decide) rfl (by first | exact b2020.1 | omega) (show (iI s2019 50) < 66 by first | exact oq_47fd6e20 ws2019_50 ws2013_50 ws2009_50 g2006 b2005.2 hi.2.2 | omega) (by decide) ?_
          obtain ⟨s2022, hs2022⟩ : ∃ x0, x0 = uC s2019 94 ((iI s2019 50)).toNat (Int32.ofInt ((iC s2019 62 (c).toNat) % 12)) := ⟨_, rfl⟩
          rw [← hs2022]
          have Is2022 : Bd s2022 := by rw [hs2022]; exact bd_C Is2019 (show (0 : Int) ≤ ((iC s2019 62 (c).toNat) % 12) ∧ ((iC s2019 62 (c).toNat) % 12) ≤ 11 by first | exact ⟨oq_b83041cc, oq_e286272e⟩ | omega) ⟨by first | exact oq_9d26ea27 | omega, by first | exact oq_6634e3d0 | omega⟩
          have Fs2022 := fm_C (i := ((iI s2019 50)).toNat) (x := Int32.ofInt ((iC s2019 62 (c).toNat) % 12)) Fs2019 (show 94 ∈ _ by decide)
          rw [← hs2022] at Fs2022
          have ws2022_49 : iI s2022 49 = iI s2019 49 := by rw [hs2022]; rfl
          have ws2022_50 : iI s2022 50 = iI s2019 50 := by rw [hs2022]; rfl
          have ws2022_43 : iI s2022 43 = iI s2019 43 := by rw [hs2022]; rfl
          have ws2022_44 : iI s2022 44 = iI s2019 44 := by rw [hs2022]; rfl
          refine z_aload_n X (x := A 103) (show cdA 1 233 = some (.aload_n 0, 1, 0, 0, 0) from rfl) (List.Mem.tail _ (List.Mem.head _)) ?_
          refine s_getR X 103 (show cdA 1 234 = some (.getfield 32, 3, 0, 10, 0) from rfl) (by decide) rfl rfl ?_
          refine z_aload_n X (x := A 103) (show cdA 1 237 = some (.aload_n 0, 1, 0, 0, 0) from rfl) (List.Mem.tail _ (List.Mem.head _)) ?_
          refine z_getI X 103 (show cdA 1 238 = some (.getfield 72, 3, 0, 7, 0) from rfl) (by decide) rfl rfl ?_
          have b2023 : (0 : Int) ≤ iI s2022 50 ∧ iI s2022 50 ≤ 66 := Is2022.1 50
          refine z_load X (x := y2015) (show cdA 1 241 = some (.iload 7, 2, 0, 0, 0) from rfl) (List.Mem.head _) ?_
          refine z_ast X 110 (show cdA 1 243 = some (.iastore, 1, 0, 0, 0) from rfl) (by decide) rfl (by first | exact b2023.1 | omega) (show (iI s2022 50) < 66 by first | exact oq_3af0036b ws2022_50 ws2019_50 ws2013_50 ws2009_50 g2006 b2005.2 hi.2.2 | omega) (by decide) ?_
          obtain ⟨s2024, hs2024⟩ : ∃ x0, x0 = uC s2022 95 ((iI s2022 50)).toNat (Int32.ofInt y2015) := ⟨_, rfl⟩
          rw [← hs2024]
          have Is2024 : Bd s2024 := by rw [hs2024]; exact bd_C Is2022 (show ((-2147483648) : Int) ≤ y2015 ∧ y2015 ≤ 2147483647 by first | exact ⟨hy2015.1, hy2015.2⟩ | omega) hy2015
          have Fs2024 := fm_C (i := ((iI s2022 50)).toNat) (x := Int32.ofInt y2015) Fs2022 (show 95 ∈ _ by decide)
          rw [← hs2024] at Fs2024
          have ws2024_49 : iI s2024 49 = iI s2022 49 := by rw [hs2024]; rfl
          have ws2024_50 : iI s2024 50 = iI s2022 50 := by rw [hs2024]; rfl
          have ws2024_43 : iI s2024 43 = iI s2022 43 := by rw [hs2024]; rfl
          have ws2024_44 : iI s2024 44 = iI s2022 44 := by rw [hs2024]; rfl
          refine z_aload_n X (x := A 103) (show cdA 1 244 = some (.aload_n 0, 1, 0, 0, 0) from rfl) (List.Mem.tail _ (List.Mem.head _)) ?_
          refine w_dup X.1 (ax_d X (show cdA 1 245 = some (.dup, 1, 0, 0, 0) from rfl)) rfl ?_
          refine z_getI X 103 (show cdA 1 246 = some (.getfield 72, 3, 0, 7, 0) from rfl) (by decide) rfl rfl ?_
          have b2025 : (0 : Int) ≤ iI s2024 50 ∧ iI s2024 50 ≤ 66 := Is2024.1 50
          refine z_const X (show cdA 1 249 = some (.iconst 1, 1, 0, 0, 0) from rfl) ?_
          refine z_add X (show cdA 1 250 = some (.iadd, 1, 0, 0, 0) from rfl) ?_
          refine s_putI X 103 (show cdA 1 251 = some (.putfield 72, 3, 0, 7, 0) from rfl) (by decide) rfl rfl (by decide) rfl rfl rfl ?_
          obtain ⟨s2026, hs2026⟩ : ∃ x0, x0 = uI s2024 50 (Int32.ofInt ((iI s2024 50) + 1)) := ⟨_, rfl⟩
          rw [← hs2026]
          have Is2026 : Bd s2026 := by rw [hs2026]; exact bd_I Is2024 (show (0 : Int) ≤ ((iI s2024 50) + 1) ∧ ((iI s2024 50) + 1) ≤ 66 by first | exact ⟨oq_54f49eb5 b2025.1, oq_d0eb7b2e ws2024_50 ws2022_50 ws2019_50 ws2013_50 ws2009_50 g2006 b2005.2 hi.2.2⟩ | omega) ⟨by first | exact oq_74de1e16 b2025.1 | omega, by first | exact oq_d99c2177 b2025.2 | omega⟩
          have Fs2026 := fm_I (x := Int32.ofInt ((iI s2024 50) + 1)) Fs2024 (show 50 ∈ _ by decide)
          rw [← hs2026] at Fs2026
          have vs2026 : iI s2026 50 = ((iI s2024 50) + 1) := by rw [hs2026]; exact iI_u ⟨by first | exact oq_74de1e16 b2025.1 | omega, by first | exact oq_d99c2177 b2025.2 | omega⟩
          have ws2026_49 : iI s2026 49 = iI s2024 49 := by rw [hs2026]; rfl
          have ws2026_43 : iI s2026 43 = iI s2024 43 := by rw [hs2026]; rfl
          have ws2026_44 : iI s2026 44 = iI s2024 44 := by rw [hs2026]; rfl
          refine z_inc X (x := c) (lv' := [(6, .int (Int32.ofInt (c + 1))), (7, .int (Int32.ofInt y2015)), (0, .ref (A 103)), (1, .long av), (3, .long bv)]) (show cdA 1 254 = some (.iinc 6 1, 3, 0, 0, 0) from rfl) (by decide) (List.Mem.tail _ (List.Mem.tail _ (List.Mem.tail _ (List.Mem.tail _ (List.Mem.head _))))) (fun _ h => h) ?_
          refine z_goto X (t := 133) (show cdA 1 257 = some (.goto (-124), 3, 0, 0, 0) from rfl) (by decide) ?_
          refine WS_lv (lv := [(0, .ref (A 103)), (1, .long av), (3, .long bv), (6, .int (Int32.ofInt (c + 1)))]) (List.forall_mem_cons.mpr ⟨(List.Mem.tail _ (List.Mem.tail _ (List.Mem.head _))), (List.forall_mem_cons.mpr ⟨(List.Mem.tail _ (List.Mem.tail _ (List.Mem.tail _ (List.Mem.head _)))), (List.forall_mem_cons.mpr ⟨(List.Mem.tail _ (List.Mem.tail _ (List.Mem.tail _ (List.Mem.tail _ (List.Mem.head _))))), (List.forall_mem_cons.mpr ⟨(List.Mem.head _), (fun q h => absurd h List.not_mem_nil)⟩)⟩)⟩)⟩) ?_
          exact ih _ av bv (c + 1) Is2026 Fs2026 (by first | exact ⟨oq_54f49eb5 hi.1, oq_319a18a4 g2006 b2005.2, oq_6fc60775 vs2026 ws2024_50 ws2022_50 ws2019_50 ws2013_50 ws2009_50 hi.2.2⟩ | omega) (by first | exact qk_me hm (by decide) (oq_dd0e9829 g2006 b2005.2) | omega) kx
  refine z_aload_n X (x := A 103) (show cdA 1 0 = some (.aload_n 0, 1, 0, 0, 0) from rfl) (List.Mem.head _) ?_
  refine s_getR X 103 (show cdA 1 1 = some (.getfield 37, 3, 0, 11, 0) from rfl) (by decide) rfl rfl ?_
  refine z_const X (show cdA 1 4 = some (.iconst 4, 1, 0, 0, 0) from rfl) ?_
  refine w_lload_n X.1 (ax_d X (show cdA 1 5 = some (.lload_n 1, 1, 0, 0, 0) from rfl)) (x := aj) (List.Mem.tail _ (List.Mem.head _)) ?_
  refine z_callS X (rm := rmN 298) (As := [.long aj]) (st := [.int (Int32.ofInt 4), .ref (A 111)]) (show cdA 1 6 = some (.invokestatic 51, 3, 298, 1, 0) from rfl) rfl (by rw [E.1, E.2.1, E.2.2.1]; exact j_bitL G I ) ⟨by rw [E.2.2.2]; exact (show (rmN 298).frames + 1 ≤ (rmN 1).frames by decide), by rw [E.2.2.2]; exact (show 8 + (mNL (miB 298) + 11) + (rmN 298).locals ≤ (rmN 1).locals by decide), by rw [E.2.2.2]; exact (show 0 + (rmN 298).cells ≤ (rmN 1).cells by decide), by rw [E.2.2.2]; exact (show 0 + (rmN 298).slots ≤ (rmN 1).slots by decide)⟩ (Nat.le_of_ble_eq_true rfl) (fun vv s5 hq => ?_) (fun ee s5 hq => ?_)
  rotate_left
  · obtain ⟨Is5, Fs5, e6, hv, hrs5, hps5⟩ := hq; cases hv
  obtain ⟨Is5, Fs5, e6, hv, hrs5, hps5⟩ := hq
  cases hv
  have Gs5 := fm_ts F Fs5 (by decide) (by decide)
  have ws5_49 : iI s5 49 = iI s 49 := fm_i Fs5 (by decide)
  have ws5_50 : iI s5 50 = iI s 50 := fm_i Fs5 (by decide)
  have ws5_43 : iI s5 43 = iI s 43 := fm_i Fs5 (by decide)
  have ws5_44 : iI s5 44 = iI s 44 := fm_i Fs5 (by decide)
  show WS k 9 [(0, .ref (A 103)), (1, .long aj), (3, .long bj), (5, .int (Int32.ofInt x))] [.int (Int32.ofInt e6), .int (Int32.ofInt 4), .ref (A 111)] (Wd A dT s5) 0 0
  refine w_lload_n X.1 (ax_d X (show cdA 1 9 = some (.lload_n 3, 1, 0, 0, 0) from rfl)) (x := bj) (List.Mem.tail _ (List.Mem.tail _ (List.Mem.head _))) ?_
  refine z_callS X (rm := rmN 298) (As := [.long bj]) (st := [.int (Int32.ofInt e6), .int (Int32.ofInt 4), .ref (A 111)]) (show cdA 1 10 = some (.invokestatic 51, 3, 298, 1, 0) from rfl) rfl (by rw [E.1, E.2.1, E.2.2.1]; exact j_bitL G Is5 ) ⟨by rw [E.2.2.2]; exact (show (rmN 298).frames + 1 ≤ (rmN 1).frames by decide), by rw [E.2.2.2]; exact (show 8 + (mNL (miB 298) + 11) + (rmN 298).locals ≤ (rmN 1).locals by decide), by rw [E.2.2.2]; exact (show 0 + (rmN 298).cells ≤ (rmN 1).cells by decide), by rw [E.2.2.2]; exact (show 0 + (rmN 298).slots ≤ (rmN 1).slots by decide)⟩ (Nat.le_of_ble_eq_true rfl) (fun vv s7 hq => ?_) (fun ee s7 hq => ?_)
  rotate_left
  · obtain ⟨Is7, Fs7, e8, hv, hrs7, hps7⟩ := hq; cases hv
  obtain ⟨Is7, Fs7, e8, hv, hrs7, hps7⟩ := hq
  cases hv
  have Gs7 := fm_ts Gs5 Fs7 (by decide) (by decide)
  have ws7_49 : iI s7 49 = iI s5 49 := fm_i Fs7 (by decide)
  have ws7_50 : iI s7 50 = iI s5 50 := fm_i Fs7 (by decide)
  have ws7_43 : iI s7 43 = iI s5 43 := fm_i Fs7 (by decide)
  have ws7_44 : iI s7 44 = iI s5 44 := fm_i Fs7 (by decide)
  show WS k 13 [(0, .ref (A 103)), (1, .long aj), (3, .long bj), (5, .int (Int32.ofInt x))] [.int (Int32.ofInt e8), .int (Int32.ofInt e6), .int (Int32.ofInt 4), .ref (A 111)] (Wd A dT s7) 0 0
  refine z_add X (show cdA 1 13 = some (.iadd, 1, 0, 0, 0) from rfl) ?_
  refine z_any (fun y9 hy9 => ?_)
  refine z_ast X 111 (show cdA 1 14 = some (.iastore, 1, 0, 0, 0) from rfl) (by decide) rfl (by decide) (show 4 < 7 by decide) (by decide) ?_
  obtain ⟨s10, hs10⟩ : ∃ x0, x0 = uC s7 96 (4 : Int).toNat (Int32.ofInt y9) := ⟨_, rfl⟩
  rw [← hs10]
  have Is10 : Bd s10 := by rw [hs10]; exact bd_C Is7 (show ((-2147483648) : Int) ≤ y9 ∧ y9 ≤ 2147483647 by first | exact ⟨hy9.1, hy9.2⟩ | omega) hy9
  have Fs10 := fm_C (i := (4 : Int).toNat) (x := Int32.ofInt y9) Gs7 (show 96 ∈ _ by decide)
  rw [← hs10] at Fs10
  have ws10_49 : iI s10 49 = iI s7 49 := by rw [hs10]; rfl
  have ws10_50 : iI s10 50 = iI s7 50 := by rw [hs10]; rfl
  have ws10_43 : iI s10 43 = iI s7 43 := by rw [hs10]; rfl
  have ws10_44 : iI s10 44 = iI s7 44 := by rw [hs10]; rfl
  refine z_aload_n X (x := A 103) (show cdA 1 15 = some (.aload_n 0, 1, 0, 0, 0) from rfl) (List.Mem.head _) ?_
  refine s_getR X 103 (show cdA 1 16 = some (.getfield 37, 3, 0, 11, 0) from rfl) (by decide) rfl rfl ?_
  refine z_const X (show cdA 1 19 = some (.iconst 5, 1, 0, 0, 0) from rfl) ?_
  refine w_lload_n X.1 (ax_d X (show cdA 1 20 = some (.lload_n 1, 1, 0, 0, 0) from rfl)) (x := aj) (List.Mem.tail _ (List.Mem.head _)) ?_
  refine z_callS X (rm := rmN 298) (As := [.long aj]) (st := [.int (Int32.ofInt 5), .ref (A 111)]) (show cdA 1 21 = some (.invokestatic 51, 3, 298, 1, 0) from rfl) rfl (by rw [E.1, E.2.1, E.2.2.1]; exact j_bitL G Is10 ) ⟨by rw [E.2.2.2]; exact (show (rmN 298).frames + 1 ≤ (rmN 1).frames by decide), by rw [E.2.2.2]; exact (show 8 + (mNL (miB 298) + 11) + (rmN 298).locals ≤ (rmN 1).locals by decide), by rw [E.2.2.2]; exact (show 0 + (rmN 298).cells ≤ (rmN 1).cells by decide), by rw [E.2.2.2]; exact (show 0 + (rmN 298).slots ≤ (rmN 1).slots by decide)⟩ (Nat.le_of_ble_eq_true rfl) (fun vv s11 hq => ?_) (fun ee s11 hq => ?_)
  rotate_left
  · obtain ⟨Is11, Fs11, e12, hv, hrs11, hps11⟩ := hq; cases hv
  obtain ⟨Is11, Fs11, e12, hv, hrs11, hps11⟩ := hq
  cases hv
  have Gs11 := fm_ts Fs10 Fs11 (by decide) (by decide)
  have ws11_49 : iI s11 49 = iI s10 49 := fm_i Fs11 (by decide)
  have ws11_50 : iI s11 50 = iI s10 50 := fm_i Fs11 (by decide)
  have ws11_43 : iI s11 43 = iI s10 43 := fm_i Fs11 (by decide)
  have ws11_44 : iI s11 44 = iI s10 44 := fm_i Fs11 (by decide)
  show WS k 24 [(0, .ref (A 103)), (1, .long aj), (3, .long bj), (5, .int (Int32.ofInt x))] [.int (Int32.ofInt e12), .int (Int32.ofInt 5), .ref (A 111)] (Wd A dT s11) 0 0
  refine z_ast X 111 (show cdA 1 24 = some (.iastore, 1, 0, 0, 0) from rfl) (by decide) rfl (by decide) (show 5 < 7 by decide) (by decide) ?_
  obtain ⟨s13, hs13⟩ : ∃ x0, x0 = uC s11 96 (5 : Int).toNat (Int32.ofInt e12) := ⟨_, rfl⟩
  rw [← hs13]
  have Is13 : Bd s13 := by rw [hs13]; exact bd_C Is11 (show ((-2147483648) : Int) ≤ e12 ∧ e12 ≤ 2147483647 by omega) hrs11
  have Fs13 := fm_C (i := (5 : Int).toNat) (x := Int32.ofInt e12) Gs11 (show 96 ∈ _ by decide)
  rw [← hs13] at Fs13
  have ws13_49 : iI s13 49 = iI s11 49 := by rw [hs13]; rfl
  have ws13_50 : iI s13 50 = iI s11 50 := by rw [hs13]; rfl
  have ws13_43 : iI s13 43 = iI s11 43 := by rw [hs13]; rfl
  have ws13_44 : iI s13 44 = iI s11 44 := by rw [hs13]; rfl
  refine z_aload_n X (x := A 103) (show cdA 1 25 = some (.aload_n 0, 1, 0, 0, 0) from rfl) (List.Mem.head _) ?_
  refine s_getR X 103 (show cdA 1 26 = some (.getfield 37, 3, 0, 11, 0) from rfl) (by decide) rfl rfl ?_
  refine z_bipush X (show cdA 1 29 = some (.bipush 6, 2, 0, 0, 6) from rfl) ?_
  refine z_load X (x := x) (show cdA 1 31 = some (.iload 5, 2, 0, 0, 0) from rfl) (List.Mem.tail _ (List.Mem.tail _ (List.Mem.tail _ (List.Mem.head _)))) ?_
  refine z_ast X 111 (show cdA 1 33 = some (.iastore, 1, 0, 0, 0) from rfl) (by decide) rfl (by decide) (show 6 < 7 by decide) (by decide) ?_
  obtain ⟨s14, hs14⟩ : ∃ x0, x0 = uC s13 96 (6 : Int).toNat (Int32.ofInt x) := ⟨_, rfl⟩
  rw [← hs14]
  have Is14 : Bd s14 := by rw [hs14]; exact bd_C Is13 (show ((-2147483648) : Int) ≤ x ∧ x ≤ 2147483647 by first | exact ⟨p0.1, p0.2⟩ | omega) ⟨by first | exact p0.1 | omega, by first | exact p0.2 | omega⟩
  have Fs14 := fm_C (i := (6 : Int).toNat) (x := Int32.ofInt x) Fs13 (show 96 ∈ _ by decide)
  rw [← hs14] at Fs14
  have ws14_49 : iI s14 49 = iI s13 49 := by rw [hs14]; rfl
  have ws14_50 : iI s14 50 = iI s13 50 := by rw [hs14]; rfl
  have ws14_43 : iI s14 43 = iI s13 43 := by rw [hs14]; rfl
  have ws14_44 : iI s14 44 = iI s13 44 := by rw [hs14]; rfl
  refine z_aload_n X (x := A 103) (show cdA 1 34 = some (.aload_n 0, 1, 0, 0, 0) from rfl) (List.Mem.head _) ?_
  refine z_const X (show cdA 1 35 = some (.iconst 0, 1, 0, 0, 0) from rfl) ?_
  refine s_putI X 103 (show cdA 1 36 = some (.putfield 57, 3, 0, 2, 0) from rfl) (by decide) rfl rfl (by decide) rfl rfl rfl ?_
  obtain ⟨s15, hs15⟩ : ∃ x0, x0 = uI s14 49 (Int32.ofInt 0) := ⟨_, rfl⟩
  rw [← hs15]
  have Is15 : Bd s15 := by rw [hs15]; exact bd_I Is14 (show (0 : Int) ≤ 0 ∧ 0 ≤ 12 by first | exact ⟨by decide, by decide⟩ | omega) (by decide)
  have Fs15 := fm_I (x := Int32.ofInt 0) Fs14 (show 49 ∈ _ by decide)
  rw [← hs15] at Fs15
  have vs15 : iI s15 49 = 0 := by rw [hs15]; exact iI_u (by decide)
  have ws15_50 : iI s15 50 = iI s14 50 := by rw [hs15]; rfl
  have ws15_43 : iI s15 43 = iI s14 43 := by rw [hs15]; rfl
  have ws15_44 : iI s15 44 = iI s14 44 := by rw [hs15]; rfl
  refine z_const X (show cdA 1 39 = some (.iconst 0, 1, 0, 0, 0) from rfl) ?_
  refine z_store X (lv' := [(6, .int (Int32.ofInt 0)), (0, .ref (A 103)), (1, .long aj), (3, .long bj), (5, .int (Int32.ofInt x))]) (show cdA 1 40 = some (.istore 6, 2, 0, 0, 0) from rfl) (by decide) (fun _ h => h) ?_
  refine WS_lv (lv := [(0, .ref (A 103)), (1, .long aj), (3, .long bj), (6, .int (Int32.ofInt 0))]) (List.forall_mem_cons.mpr ⟨(List.Mem.tail _ (List.Mem.head _)), (List.forall_mem_cons.mpr ⟨(List.Mem.tail _ (List.Mem.tail _ (List.Mem.head _))), (List.forall_mem_cons.mpr ⟨(List.Mem.tail _ (List.Mem.tail _ (List.Mem.tail _ (List.Mem.head _)))), (List.forall_mem_cons.mpr ⟨(List.Mem.head _), (fun q h => absurd h List.not_mem_nil)⟩)⟩)⟩)⟩) ?_
  refine L42 ((12 - 0 : Int).toNat + 1) s15 aj bj 0 Is15 Fs15 (by first | exact ⟨by decide, by decide, oq_1af0b4f8 vs15⟩ | omega) (Nat.lt_succ_self _) ?_
  intro s16 x17 Is16 Fs16 hs16
  have b18 : (0 : Int) ≤ iI s16 49 ∧ iI s16 49 ≤ 12 := Is16.1 49
  have b19 : (0 : Int) ≤ iI s16 50 ∧ iI s16 50 ≤ 66 := Is16.1 50
  have b20 : (0 : Int) ≤ iI s16 43 ∧ iI s16 43 ≤ 12 := Is16.1 43
  have b21 : (0 : Int) ≤ iI s16 44 ∧ iI s16 44 ≤ 66 := Is16.1 44
  refine z_aload_n X (x := A 103) (show cdA 1 125 = some (.aload_n 0, 1, 0, 0, 0) from rfl) (List.Mem.head _) ?_
  refine z_const X (show cdA 1 126 = some (.iconst 0, 1, 0, 0, 0) from rfl) ?_
  refine s_putI X 103 (show cdA 1 127 = some (.putfield 72, 3, 0, 7, 0) from rfl) (by decide) rfl rfl (by decide) rfl rfl rfl ?_
  obtain ⟨s22, hs22⟩ : ∃ x0, x0 = uI s16 50 (Int32.ofInt 0) := ⟨_, rfl⟩
  rw [← hs22]
  have Is22 : Bd s22 := by rw [hs22]; exact bd_I Is16 (show (0 : Int) ≤ 0 ∧ 0 ≤ 66 by first | exact ⟨by decide, by decide⟩ | omega) (by decide)
  have Fs22 := fm_I (x := Int32.ofInt 0) Fs16 (show 50 ∈ _ by decide)
  rw [← hs22] at Fs22
  have vs22 : iI s22 50 = 0 := by rw [hs22]; exact iI_u (by decide)
  have ws22_49 : iI s22 49 = iI s16 49 := by rw [hs22]; rfl
  have ws22_43 : iI s22 43 = iI s16 43 := by rw [hs22]; rfl
  have ws22_44 : iI s22 44 = iI s16 44 := by rw [hs22]; rfl
  refine z_const X (show cdA 1 130 = some (.iconst 0, 1, 0, 0, 0) from rfl) ?_
  refine z_store X (lv' := [(6, .int (Int32.ofInt 0)), (0, .ref (A 103)), (1, .long aj), (3, .long bj)]) (show cdA 1 131 = some (.istore 6, 2, 0, 0, 0) from rfl) (by decide) (fun _ h => h) ?_
  refine WS_lv (lv := [(0, .ref (A 103)), (1, .long aj), (3, .long bj), (6, .int (Int32.ofInt 0))]) (List.forall_mem_cons.mpr ⟨(List.Mem.tail _ (List.Mem.head _)), (List.forall_mem_cons.mpr ⟨(List.Mem.tail _ (List.Mem.tail _ (List.Mem.head _))), (List.forall_mem_cons.mpr ⟨(List.Mem.tail _ (List.Mem.tail _ (List.Mem.tail _ (List.Mem.head _)))), (List.forall_mem_cons.mpr ⟨(List.Mem.head _), (fun q h => absurd h List.not_mem_nil)⟩)⟩)⟩)⟩) ?_
  refine L133 ((66 - 0 : Int).toNat + 1) s22 aj bj 0 Is22 Fs22 (by first | exact ⟨by decide, by decide, oq_1af0b4f8 vs22⟩ | omega) (Nat.lt_succ_self _) ?_
  intro s23 x24 Is23 Fs23 hs23
  have b25 : (0 : Int) ≤ iI s23 49 ∧ iI s23 49 ≤ 12 := Is23.1 49
  have b26 : (0 : Int) ≤ iI s23 50 ∧ iI s23 50 ≤ 66 := Is23.1 50
  have b27 : (0 : Int) ≤ iI s23 43 ∧ iI s23 43 ≤ 12 := Is23.1 43
  have b28 : (0 : Int) ≤ iI s23 44 ∧ iI s23 44 ≤ 66 := Is23.1 44
  exact w_vret X.1 q hRt (ax_d X (show cdA 1 260 = some (.return_, 1, 0, 0, 0) from rfl)) (Nat.zero_le _) (Nat.zero_le _) ⟨_, rfl, Is23, Fs23, rfl, trivial⟩
set_option maxRecDepth 4000 in
theorem c0_hear_103 (G : GX l s0 D tys a0 dT) (I : Bd s) {x y : Int} (p0 : 0 ≤ x ∧ x ≤ 23) (p1 : rng y) : CT l s0 D A dT 3 (rmN 3) [.ref (A 103), .int (Int32.ofInt x), .int (Int32.ofInt y)] s (fun o t => Bd t ∧ Fm [] [96] s t ∧ o = .inl none ∧ (True)) := by
  refine ct_ofX G (by decide) (Nat.le_of_ble_eq_true rfl) (fun k X E ET hRt hXt q => ?_)
  show WS k 0 [(0, .ref (A 103)), (1, .int (Int32.ofInt x)), (2, .int (Int32.ofInt y))] [] _ 0 0
  have F : Fm [] [96] s s := fm_rf _ _ s
  have b1 : (0 : Int) ≤ iI s 49 ∧ iI s 49 ≤ 12 := I.1 49
  have b2 : (0 : Int) ≤ iI s 50 ∧ iI s 50 ≤ 66 := I.1 50
  have L20 : ∀ (n : Nat) (t : PS) (yv ro wa cr ov cl c : Int), Bd t → Fm [] [96] s t → (rng yv ∧ (0 ≤ ro ∧ ro ≤ 276) ∧ rng wa ∧ rng cr ∧ rng ov ∧ rng cl ∧ 0 ≤ c ∧ c ≤ 12) → (12 - c : Int).toNat < n → (∀ (t' : PS) (wa' cr' ov' cl' c' : Int), Bd t' → Fm [] [96] s t' → (rng yv ∧ (0 ≤ ro ∧ ro ≤ 276) ∧ rng wa' ∧ rng cr' ∧ rng ov' ∧ rng cl' ∧ 0 ≤ c' ∧ c' ≤ 12) → WS k 106 [(0, .ref (A 103)), (2, .int (Int32.ofInt yv)), (3, .int (Int32.ofInt ro)), (4, .int (Int32.ofInt wa')), (5, .int (Int32.ofInt cr')), (6, .int (Int32.ofInt ov')), (7, .int (Int32.ofInt cl')), (8, .int (Int32.ofInt c'))] [] (Wd A dT t') 0 0) → WS k 20 [(0, .ref (A 103)), (2, .int (Int32.ofInt yv)), (3, .int (Int32.ofInt ro)), (4, .int (Int32.ofInt wa)), (5, .int (Int32.ofInt cr)), (6, .int (Int32.ofInt ov)), (7, .int (Int32.ofInt cl)), (8, .int (Int32.ofInt c))] [] (Wd A dT t) 0 0 := by
    intro n
    induction n with
    | zero =>
      intro t yv ro wa cr ov cl c I F hi hm kx
      exact absurd hm (Nat.not_lt_zero _)
    | succ n ih =>
      intro t yv ro wa cr ov cl c I F hi hm kx
      have b1001 : (0 : Int) ≤ iI t 49 ∧ iI t 49 ≤ 12 := I.1 49
      have b1002 : (0 : Int) ≤ iI t 50 ∧ iI t 50 ≤ 66 := I.1 50
      refine z_load X (x := c) (show cdA 3 20 = some (.iload 8, 2, 0, 0, 0) from rfl) (List.Mem.tail _ (List.Mem.tail _ (List.Mem.tail _ (List.Mem.tail _ (List.Mem.tail _ (List.Mem.tail _ (List.Mem.tail _ (List.Mem.head _)))))))) ?_
      refine z_aload_n X (x := A 103) (show cdA 3 22 = some (.aload_n 0, 1, 0, 0, 0) from rfl) (List.Mem.head _) ?_
      refine z_getI X 103 (show cdA 3 23 = some (.getfield 57, 3, 0, 2, 0) from rfl) (by decide) rfl rfl ?_
      have b1003 : (0 : Int) ≤ iI t 49 ∧ iI t 49 ≤ 12 := I.1 49
      refine z_icmp_ge X (t := 106) (show cdA 3 26 = some (.if_icmp .ge 80, 3, 3, 0, 0) from rfl) (by decide) ⟨by first | exact oq_fa4e5087 hi.2.2.2.2.2.2.1 | omega, by first | exact oq_78843a64 hi.2.2.2.2.2.2.2 | omega⟩ (rng_to _) (fun g1004 => ?_) (fun g1004 => ?_)
      ·
        refine WS_lv (lv := [(0, .ref (A 103)), (2, .int (Int32.ofInt yv)), (3, .int (Int32.ofInt ro)), (4, .int (Int32.ofInt wa)), (5, .int (Int32.ofInt cr)), (6, .int (Int32.ofInt ov)), (7, .int (Int32.ofInt cl)), (8, .int (Int32.ofInt c))]) (List.forall_mem_cons.mpr ⟨(List.Mem.head _), (List.forall_mem_cons.mpr ⟨(List.Mem.tail _ (List.Mem.head _)), (List.forall_mem_cons.mpr ⟨(List.Mem.tail _ (List.Mem.tail _ (List.Mem.head _))), (List.forall_mem_cons.mpr ⟨(List.Mem.tail _ (List.Mem.tail _ (List.Mem.tail _ (List.Mem.head _)))), (List.forall_mem_cons.mpr ⟨(List.Mem.tail _ (List.Mem.tail _ (List.Mem.tail _ (List.Mem.tail _ (List.Mem.head _))))), (List.forall_mem_cons.mpr ⟨(List.Mem.tail _ (List.Mem.tail _ (List.Mem.tail _ (List.Mem.tail _ (List.Mem.tail _ (List.Mem.head _)))))), (List.forall_mem_cons.mpr ⟨(List.Mem.tail _ (List.Mem.tail _ (List.Mem.tail _ (List.Mem.tail _ (List.Mem.tail _ (List.Mem.tail _ (List.Mem.head _))))))), (List.forall_mem_cons.mpr ⟨(List.Mem.tail _ (List.Mem.tail _ (List.Mem.tail _ (List.Mem.tail _ (List.Mem.tail _ (List.Mem.tail _ (List.Mem.tail _ (List.Mem.head _)))))))), (fun q h => absurd h List.not_mem_nil)⟩)⟩)⟩)⟩)⟩)⟩)⟩)⟩) ?_
        exact kx _ wa cr ov cl c I F (by first | exact ⟨And.intro (hi.1.1) (hi.1.2), And.intro (hi.2.1.1) (hi.2.1.2), And.intro (hi.2.2.1.1) (hi.2.2.1.2), And.intro (hi.2.2.2.1.1) (hi.2.2.2.1.2), And.intro (hi.2.2.2.2.1.1) (hi.2.2.2.2.1.2), And.intro (hi.2.2.2.2.2.1.1) (hi.2.2.2.2.2.1.2), hi.2.2.2.2.2.2.1, hi.2.2.2.2.2.2.2⟩ | omega)
      ·
        refine z_aload_n X (x := A 103) (show cdA 3 29 = some (.aload_n 0, 1, 0, 0, 0) from rfl) (List.Mem.head _) ?_
        refine s_getR X 103 (show cdA 3 30 = some (.getfield 9, 3, 0, 3, 0) from rfl) (by decide) rfl rfl ?_
        refine z_load X (x := c) (show cdA 3 33 = some (.iload 8, 2, 0, 0, 0) from rfl) (List.Mem.tail _ (List.Mem.tail _ (List.Mem.tail _ (List.Mem.tail _ (List.Mem.tail _ (List.Mem.tail _ (List.Mem.tail _ (List.Mem.head _)))))))) ?_
        refine z_ald X 104 (show cdA 3 35 = some (.iaload, 1, 0, 0, 0) from rfl) (by decide) rfl (by first | exact hi.2.2.2.2.2.2.1 | omega) (show c < 12 by first | exact oq_f36e82a8 g1004 b1003.2 | omega) (by decide) ?_
        have b1005 : (0 : Int) ≤ iC t 89 (c).toNat ∧ iC t 89 (c).toNat ≤ 11 := I.2 89 _ (show (c).toNat < 12 by first | exact oq_2dac6850 g1004 b1003.2 | omega)
        refine z_load_n X (x := yv) (show cdA 3 36 = some (.iload_n 2, 1, 0, 0, 0) from rfl) (List.Mem.tail _ (List.Mem.head _)) ?_
        have N1006 : ∀ e1007 : Int, ((((iC t 89 (c).toNat) ≠ yv) ∧ ((0 : Int) ≤ iC t 89 (c).toNat ∧ iC t 89 (c).toNat ≤ 11) ∧ ((0 : Int) ≤ iC t 67 ((ro + (iC t 89 (c).toNat))).toNat ∧ iC t 67 ((ro + (iC t 89 (c).toNat))).toNat ≤ 50) ∧ e1007 = (iC t 67 ((ro + (iC t 89 (c).toNat))).toNat)) ∨ (((iC t 89 (c).toNat) = yv) ∧ e1007 = 0)) → WS k 61 [(0, .ref (A 103)), (2, .int (Int32.ofInt yv)), (3, .int (Int32.ofInt ro)), (4, .int (Int32.ofInt wa)), (5, .int (Int32.ofInt cr)), (6, .int (Int32.ofInt ov)), (7, .int (Int32.ofInt cl)), (8, .int (Int32.ofInt c))] [.int (Int32.ofInt e1007)] (Wd A dT t) 0 0 := by
          intro e1007 he1007
          refine z_store X (lv' := [(9, .int (Int32.ofInt e1007)), (0, .ref (A 103)), (2, .int (Int32.ofInt yv)), (3, .int (Int32.ofInt ro)), (4, .int (Int32.ofInt wa)), (5, .int (Int32.ofInt cr)), (6, .int (Int32.ofInt ov)), (7, .int (Int32.ofInt cl)), (8, .int (Int32.ofInt c))]) (show cdA 3 61 = some (.istore 9, 2, 0, 0, 0) from rfl) (by decide) (fun _ h => h) ?_
          refine z_load X (x := wa) (show cdA 3 63 = some (.iload 4, 2, 0, 0, 0) from rfl) (List.Mem.tail _ (List.Mem.tail _ (List.Mem.tail _ (List.Mem.tail _ (List.Mem.head _))))) ?_
          refine z_load X (x := e1007) (show cdA 3 65 = some (.iload 9, 2, 0, 0, 0) from rfl) (List.Mem.head _) ?_
          refine z_add X (show cdA 3 67 = some (.iadd, 1, 0, 0, 0) from rfl) ?_
          refine z_any (fun y1008 hy1008 => ?_)
          refine z_store X (lv' := [(4, .int (Int32.ofInt y1008)), (9, .int (Int32.ofInt e1007)), (0, .ref (A 103)), (2, .int (Int32.ofInt yv)), (3, .int (Int32.ofInt ro)), (5, .int (Int32.ofInt cr)), (6, .int (Int32.ofInt ov)), (7, .int (Int32.ofInt cl)), (8, .int (Int32.ofInt c))]) (show cdA 3 68 = some (.istore 4, 2, 0, 0, 0) from rfl) (by decide) (fun _ h => h) ?_
          refine z_load X (x := ov) (show cdA 3 70 = some (.iload 6, 2, 0, 0, 0) from rfl) (List.Mem.tail _ (List.Mem.tail _ (List.Mem.tail _ (List.Mem.tail _ (List.Mem.tail _ (List.Mem.tail _ (List.Mem.head _))))))) ?_
          refine z_load X (x := e1007) (show cdA 3 72 = some (.iload 9, 2, 0, 0, 0) from rfl) (List.Mem.tail _ (List.Mem.head _)) ?_
          refine z_aload_n X (x := A 103) (show cdA 3 74 = some (.aload_n 0, 1, 0, 0, 0) from rfl) (List.Mem.tail _ (List.Mem.tail _ (List.Mem.head _))) ?_
          refine s_getR X 103 (show cdA 3 75 = some (.getfield 15, 3, 0, 4, 0) from rfl) (by decide) rfl rfl ?_
          refine z_load X (x := c) (show cdA 3 78 = some (.iload 8, 2, 0, 0, 0) from rfl) (List.Mem.tail _ (List.Mem.tail _ (List.Mem.tail _ (List.Mem.tail _ (List.Mem.tail _ (List.Mem.tail _ (List.Mem.tail _ (List.Mem.tail _ (List.Mem.head _))))))))) ?_
          refine z_ald X 105 (show cdA 3 80 = some (.iaload, 1, 0, 0, 0) from rfl) (by decide) rfl (by first | exact hi.2.2.2.2.2.2.1 | omega) (show c < 12 by first | exact oq_f36e82a8 g1004 b1003.2 | omega) (by decide) ?_
          have b1009 : ((-2147483648) : Int) ≤ iC t 90 (c).toNat ∧ iC t 90 (c).toNat ≤ 2147483647 := I.2 90 _ (show (c).toNat < 12 by first | exact oq_2dac6850 g1004 b1003.2 | omega)
          refine z_mul X (show cdA 3 81 = some (.imul, 1, 0, 0, 0) from rfl) ?_
          refine z_any (fun y1010 hy1010 => ?_)
          refine z_add X (show cdA 3 82 = some (.iadd, 1, 0, 0, 0) from rfl) ?_
          refine z_any (fun y1011 hy1011 => ?_)
          refine z_store X (lv' := [(6, .int (Int32.ofInt y1011)), (4, .int (Int32.ofInt y1008)), (9, .int (Int32.ofInt e1007)), (0, .ref (A 103)), (2, .int (Int32.ofInt yv)), (3, .int (Int32.ofInt ro)), (5, .int (Int32.ofInt cr)), (7, .int (Int32.ofInt cl)), (8, .int (Int32.ofInt c))]) (show cdA 3 83 = some (.istore 6, 2, 0, 0, 0) from rfl) (by decide) (fun _ h => h) ?_
          refine z_load X (x := cl) (show cdA 3 85 = some (.iload 7, 2, 0, 0, 0) from rfl) (List.Mem.tail _ (List.Mem.tail _ (List.Mem.tail _ (List.Mem.tail _ (List.Mem.tail _ (List.Mem.tail _ (List.Mem.tail _ (List.Mem.head _)))))))) ?_
          refine z_load X (x := e1007) (show cdA 3 87 = some (.iload 9, 2, 0, 0, 0) from rfl) (List.Mem.tail _ (List.Mem.tail _ (List.Mem.head _))) ?_
          refine z_aload_n X (x := A 103) (show cdA 3 89 = some (.aload_n 0, 1, 0, 0, 0) from rfl) (List.Mem.tail _ (List.Mem.tail _ (List.Mem.tail _ (List.Mem.head _)))) ?_
          refine s_getR X 103 (show cdA 3 90 = some (.getfield 21, 3, 0, 6, 0) from rfl) (by decide) rfl rfl ?_
          refine z_load X (x := c) (show cdA 3 93 = some (.iload 8, 2, 0, 0, 0) from rfl) (List.Mem.tail _ (List.Mem.tail _ (List.Mem.tail _ (List.Mem.tail _ (List.Mem.tail _ (List.Mem.tail _ (List.Mem.tail _ (List.Mem.tail _ (List.Mem.head _))))))))) ?_
          refine z_ald X 107 (show cdA 3 95 = some (.iaload, 1, 0, 0, 0) from rfl) (by decide) rfl (by first | exact hi.2.2.2.2.2.2.1 | omega) (show c < 12 by first | exact oq_f36e82a8 g1004 b1003.2 | omega) (by decide) ?_
          have b1012 : ((-2147483648) : Int) ≤ iC t 92 (c).toNat ∧ iC t 92 (c).toNat ≤ 2147483647 := I.2 92 _ (show (c).toNat < 12 by first | exact oq_2dac6850 g1004 b1003.2 | omega)
          refine z_mul X (show cdA 3 96 = some (.imul, 1, 0, 0, 0) from rfl) ?_
          refine z_any (fun y1013 hy1013 => ?_)
          refine z_add X (show cdA 3 97 = some (.iadd, 1, 0, 0, 0) from rfl) ?_
          refine z_any (fun y1014 hy1014 => ?_)
          refine z_store X (lv' := [(7, .int (Int32.ofInt y1014)), (6, .int (Int32.ofInt y1011)), (4, .int (Int32.ofInt y1008)), (9, .int (Int32.ofInt e1007)), (0, .ref (A 103)), (2, .int (Int32.ofInt yv)), (3, .int (Int32.ofInt ro)), (5, .int (Int32.ofInt cr)), (8, .int (Int32.ofInt c))]) (show cdA 3 98 = some (.istore 7, 2, 0, 0, 0) from rfl) (by decide) (fun _ h => h) ?_
          refine z_inc X (x := c) (lv' := [(8, .int (Int32.ofInt (c + 1))), (7, .int (Int32.ofInt y1014)), (6, .int (Int32.ofInt y1011)), (4, .int (Int32.ofInt y1008)), (9, .int (Int32.ofInt e1007)), (0, .ref (A 103)), (2, .int (Int32.ofInt yv)), (3, .int (Int32.ofInt ro)), (5, .int (Int32.ofInt cr))]) (show cdA 3 100 = some (.iinc 8 1, 3, 0, 0, 0) from rfl) (by decide) (List.Mem.tail _ (List.Mem.tail _ (List.Mem.tail _ (List.Mem.tail _ (List.Mem.tail _ (List.Mem.tail _ (List.Mem.tail _ (List.Mem.tail _ (List.Mem.head _))))))))) (fun _ h => h) ?_
          refine z_goto X (t := 20) (show cdA 3 103 = some (.goto (-83), 3, 0, 0, 0) from rfl) (by decide) ?_
          refine WS_lv (lv := [(0, .ref (A 103)), (2, .int (Int32.ofInt yv)), (3, .int (Int32.ofInt ro)), (4, .int (Int32.ofInt y1008)), (5, .int (Int32.ofInt cr)), (6, .int (Int32.ofInt y1011)), (7, .int (Int32.ofInt y1014)), (8, .int (Int32.ofInt (c + 1)))]) (List.forall_mem_cons.mpr ⟨(List.Mem.tail _ (List.Mem.tail _ (List.Mem.tail _ (List.Mem.tail _ (List.Mem.tail _ (List.Mem.head _)))))), (List.forall_mem_cons.mpr ⟨(List.Mem.tail _ (List.Mem.tail _ (List.Mem.tail _ (List.Mem.tail _ (List.Mem.tail _ (List.Mem.tail _ (List.Mem.head _))))))), (List.forall_mem_cons.mpr ⟨(List.Mem.tail _ (List.Mem.tail _ (List.Mem.tail _ (List.Mem.tail _ (List.Mem.tail _ (List.Mem.tail _ (List.Mem.tail _ (List.Mem.head _)))))))), (List.forall_mem_cons.mpr ⟨(List.Mem.tail _ (List.Mem.tail _ (List.Mem.tail _ (List.Mem.head _)))), (List.forall_mem_cons.mpr ⟨(List.Mem.tail _ (List.Mem.tail _ (List.Mem.tail _ (List.Mem.tail _ (List.Mem.tail _ (List.Mem.tail _ (List.Mem.tail _ (List.Mem.tail _ (List.Mem.head _))))))))), (List.forall_mem_cons.mpr ⟨(List.Mem.tail _ (List.Mem.tail _ (List.Mem.head _))), (List.forall_mem_cons.mpr ⟨(List.Mem.tail _ (List.Mem.head _)), (List.forall_mem_cons.mpr ⟨(List.Mem.head _), (fun q h => absurd h List.not_mem_nil)⟩)⟩)⟩)⟩)⟩)⟩)⟩)⟩) ?_
          exact ih _ yv ro y1008 cr y1011 y1014 (c + 1) I F (by first | exact ⟨And.intro (hi.1.1) (hi.1.2), And.intro (hi.2.1.1) (hi.2.1.2), And.intro (hy1008.1) (hy1008.2), And.intro (hi.2.2.2.1.1) (hi.2.2.2.1.2), And.intro (hy1011.1) (hy1011.2), And.intro (hy1014.1) (hy1014.2), oq_54f49eb5 hi.2.2.2.2.2.2.1, oq_4dae995e g1004 b1003.2⟩ | omega) (by first | exact qk_me hm (by decide) (oq_b575e8c1 g1004 b1003.2) | omega) kx
        refine z_icmp_ne X (t := 44) (show cdA 3 37 = some (.if_icmp .ne 7, 3, 1, 0, 0) from rfl) (by decide) (rng_to _) ⟨by first | exact hi.1.1 | omega, by first | exact hi.1.2 | omega⟩ (fun g1015 => ?_) (fun g1015 => ?_)
        ·
          refine z_aload_n X (x := A 103) (show cdA 3 44 = some (.aload_n 0, 1, 0, 0, 0) from rfl) (List.Mem.head _) ?_
          refine s_getR X 103 (show cdA 3 45 = some (.getfield 43, 3, 0, 0, 0) from rfl) (by decide) rfl rfl ?_
          refine s_getR X 68 (show cdA 3 48 = some (.getfield 87, 3, 9, 12, 0) from rfl) (by decide) rfl rfl ?_
          refine z_load_n X (x := ro) (show cdA 3 51 = some (.iload_n 3, 1, 0, 0, 0) from rfl) (List.Mem.tail _ (List.Mem.tail _ (List.Mem.head _))) ?_
          refine z_aload_n X (x := A 103) (show cdA 3 52 = some (.aload_n 0, 1, 0, 0, 0) from rfl) (List.Mem.head _) ?_
          refine s_getR X 103 (show cdA 3 53 = some (.getfield 9, 3, 0, 3, 0) from rfl) (by decide) rfl rfl ?_
          refine z_load X (x := c) (show cdA 3 56 = some (.iload 8, 2, 0, 0, 0) from rfl) (List.Mem.tail _ (List.Mem.tail _ (List.Mem.tail _ (List.Mem.tail _ (List.Mem.tail _ (List.Mem.tail _ (List.Mem.tail _ (List.Mem.head _)))))))) ?_
          refine z_ald X 104 (show cdA 3 58 = some (.iaload, 1, 0, 0, 0) from rfl) (by decide) rfl (by first | exact hi.2.2.2.2.2.2.1 | omega) (show c < 12 by first | exact oq_f36e82a8 g1004 b1003.2 | omega) (by decide) ?_
          have b1016 : (0 : Int) ≤ iC t 89 (c).toNat ∧ iC t 89 (c).toNat ≤ 11 := I.2 89 _ (show (c).toNat < 12 by first | exact oq_2dac6850 g1004 b1003.2 | omega)
          refine z_add X (show cdA 3 59 = some (.iadd, 1, 0, 0, 0) from rfl) ?_
          refine z_ald X 79 (show cdA 3 60 = some (.iaload, 1, 0, 0, 0) from rfl) (by decide) rfl (by first | exact oq_dd29f52d hi.2.1.1 b1016.1 | omega) (show (ro + (iC t 89 (c).toNat)) < 288 by first | exact oq_f94a0088 hi.2.1.2 b1016.2 | omega) (by decide) ?_
          have b1017 : (0 : Int) ≤ iC t 67 ((ro + (iC t 89 (c).toNat))).toNat ∧ iC t 67 ((ro + (iC t 89 (c).toNat))).toNat ≤ 50 := I.2 67 _ (show ((ro + (iC t 89 (c).toNat))).toNat < 288 by first | exact oq_3d7ae1dd hi.2.1.2 b1016.2 | omega)
          exact N1006 _ (Or.inl ⟨g1015, b1016, b1017, rfl⟩)
        ·
          refine z_const X (show cdA 3 40 = some (.iconst 0, 1, 0, 0, 0) from rfl) ?_
          refine z_goto X (t := 61) (show cdA 3 41 = some (.goto 20, 3, 0, 0, 0) from rfl) (by decide) ?_
          exact N1006 _ (Or.inr (⟨g1015, rfl⟩))
  have L109 : ∀ (n : Nat) (t : PS) (yv ro wa cr ov cl c : Int), Bd t → Fm [] [96] s t → (rng yv ∧ (0 ≤ ro ∧ ro ≤ 276) ∧ rng wa ∧ rng cr ∧ rng ov ∧ rng cl ∧ 0 ≤ c ∧ c ≤ 66) → (66 - c : Int).toNat < n → (∀ (t' : PS) (cr' c' : Int), Bd t' → Fm [] [96] s t' → (rng yv ∧ (0 ≤ ro ∧ ro ≤ 276) ∧ rng wa ∧ rng cr' ∧ rng ov ∧ rng cl ∧ 0 ≤ c' ∧ c' ≤ 66) → WS k 196 [(0, .ref (A 103)), (2, .int (Int32.ofInt yv)), (3, .int (Int32.ofInt ro)), (4, .int (Int32.ofInt wa)), (5, .int (Int32.ofInt cr')), (6, .int (Int32.ofInt ov)), (7, .int (Int32.ofInt cl)), (8, .int (Int32.ofInt c'))] [] (Wd A dT t') 0 0) → WS k 109 [(0, .ref (A 103)), (2, .int (Int32.ofInt yv)), (3, .int (Int32.ofInt ro)), (4, .int (Int32.ofInt wa)), (5, .int (Int32.ofInt cr)), (6, .int (Int32.ofInt ov)), (7, .int (Int32.ofInt cl)), (8, .int (Int32.ofInt c))] [] (Wd A dT t) 0 0 := by
    intro n
    induction n with
    | zero =>
      intro t yv ro wa cr ov cl c I F hi hm kx
      exact absurd hm (Nat.not_lt_zero _)
    | succ n ih =>
      intro t yv ro wa cr ov cl c I F hi hm kx
      have b2001 : (0 : Int) ≤ iI t 49 ∧ iI t 49 ≤ 12 := I.1 49
      have b2002 : (0 : Int) ≤ iI t 50 ∧ iI t 50 ≤ 66 := I.1 50
      refine z_load X (x := c) (show cdA 3 109 = some (.iload 8, 2, 0, 0, 0) from rfl) (List.Mem.tail _ (List.Mem.tail _ (List.Mem.tail _ (List.Mem.tail _ (List.Mem.tail _ (List.Mem.tail _ (List.Mem.tail _ (List.Mem.head _)))))))) ?_
      refine z_aload_n X (x := A 103) (show cdA 3 111 = some (.aload_n 0, 1, 0, 0, 0) from rfl) (List.Mem.head _) ?_
      refine z_getI X 103 (show cdA 3 112 = some (.getfield 72, 3, 0, 7, 0) from rfl) (by decide) rfl rfl ?_
      have b2003 : (0 : Int) ≤ iI t 50 ∧ iI t 50 ≤ 66 := I.1 50
      refine z_icmp_ge X (t := 196) (show cdA 3 115 = some (.if_icmp .ge 81, 3, 3, 0, 0) from rfl) (by decide) ⟨by first | exact oq_fa4e5087 hi.2.2.2.2.2.2.1 | omega, by first | exact oq_64f2e926 hi.2.2.2.2.2.2.2 | omega⟩ (rng_to _) (fun g2004 => ?_) (fun g2004 => ?_)
      ·
        refine WS_lv (lv := [(0, .ref (A 103)), (2, .int (Int32.ofInt yv)), (3, .int (Int32.ofInt ro)), (4, .int (Int32.ofInt wa)), (5, .int (Int32.ofInt cr)), (6, .int (Int32.ofInt ov)), (7, .int (Int32.ofInt cl)), (8, .int (Int32.ofInt c))]) (List.forall_mem_cons.mpr ⟨(List.Mem.head _), (List.forall_mem_cons.mpr ⟨(List.Mem.tail _ (List.Mem.head _)), (List.forall_mem_cons.mpr ⟨(List.Mem.tail _ (List.Mem.tail _ (List.Mem.head _))), (List.forall_mem_cons.mpr ⟨(List.Mem.tail _ (List.Mem.tail _ (List.Mem.tail _ (List.Mem.head _)))), (List.forall_mem_cons.mpr ⟨(List.Mem.tail _ (List.Mem.tail _ (List.Mem.tail _ (List.Mem.tail _ (List.Mem.head _))))), (List.forall_mem_cons.mpr ⟨(List.Mem.tail _ (List.Mem.tail _ (List.Mem.tail _ (List.Mem.tail _ (List.Mem.tail _ (List.Mem.head _)))))), (List.forall_mem_cons.mpr ⟨(List.Mem.tail _ (List.Mem.tail _ (List.Mem.tail _ (List.Mem.tail _ (List.Mem.tail _ (List.Mem.tail _ (List.Mem.head _))))))), (List.forall_mem_cons.mpr ⟨(List.Mem.tail _ (List.Mem.tail _ (List.Mem.tail _ (List.Mem.tail _ (List.Mem.tail _ (List.Mem.tail _ (List.Mem.tail _ (List.Mem.head _)))))))), (fun q h => absurd h List.not_mem_nil)⟩)⟩)⟩)⟩)⟩)⟩)⟩)⟩) ?_
        exact kx _ cr c I F (by first | exact ⟨And.intro (hi.1.1) (hi.1.2), And.intro (hi.2.1.1) (hi.2.1.2), And.intro (hi.2.2.1.1) (hi.2.2.1.2), And.intro (hi.2.2.2.1.1) (hi.2.2.2.1.2), And.intro (hi.2.2.2.2.1.1) (hi.2.2.2.2.1.2), And.intro (hi.2.2.2.2.2.1.1) (hi.2.2.2.2.2.1.2), hi.2.2.2.2.2.2.1, hi.2.2.2.2.2.2.2⟩ | omega)
      ·
        refine z_aload_n X (x := A 103) (show cdA 3 118 = some (.aload_n 0, 1, 0, 0, 0) from rfl) (List.Mem.head _) ?_
        refine s_getR X 103 (show cdA 3 119 = some (.getfield 26, 3, 0, 8, 0) from rfl) (by decide) rfl rfl ?_
        refine z_load X (x := c) (show cdA 3 122 = some (.iload 8, 2, 0, 0, 0) from rfl) (List.Mem.tail _ (List.Mem.tail _ (List.Mem.tail _ (List.Mem.tail _ (List.Mem.tail _ (List.Mem.tail _ (List.Mem.tail _ (List.Mem.head _)))))))) ?_
        refine z_ald X 108 (show cdA 3 124 = some (.iaload, 1, 0, 0, 0) from rfl) (by decide) rfl (by first | exact hi.2.2.2.2.2.2.1 | omega) (show c < 66 by first | exact oq_256e4529 g2004 b2003.2 | omega) (by decide) ?_
        have b2005 : (0 : Int) ≤ iC t 93 (c).toNat ∧ iC t 93 (c).toNat ≤ 11 := I.2 93 _ (show (c).toNat < 66 by first | exact oq_d7ff7873 g2004 b2003.2 | omega)
        refine z_load_n X (x := yv) (show cdA 3 125 = some (.iload_n 2, 1, 0, 0, 0) from rfl) (List.Mem.tail _ (List.Mem.head _)) ?_
        refine z_icmp_eq X (t := 190) (show cdA 3 126 = some (.if_icmp .eq 64, 3, 0, 0, 0) from rfl) (by decide) (rng_to _) ⟨by first | exact hi.1.1 | omega, by first | exact hi.1.2 | omega⟩ (fun g2006 => ?_) (fun g2006 => ?_)
        ·
          refine z_inc X (x := c) (lv' := [(8, .int (Int32.ofInt (c + 1))), (0, .ref (A 103)), (2, .int (Int32.ofInt yv)), (3, .int (Int32.ofInt ro)), (4, .int (Int32.ofInt wa)), (5, .int (Int32.ofInt cr)), (6, .int (Int32.ofInt ov)), (7, .int (Int32.ofInt cl))]) (show cdA 3 190 = some (.iinc 8 1, 3, 0, 0, 0) from rfl) (by decide) (List.Mem.tail _ (List.Mem.tail _ (List.Mem.tail _ (List.Mem.tail _ (List.Mem.tail _ (List.Mem.tail _ (List.Mem.tail _ (List.Mem.head _)))))))) (fun _ h => h) ?_
          refine z_goto X (t := 109) (show cdA 3 193 = some (.goto (-84), 3, 0, 0, 0) from rfl) (by decide) ?_
          refine WS_lv (lv := [(0, .ref (A 103)), (2, .int (Int32.ofInt yv)), (3, .int (Int32.ofInt ro)), (4, .int (Int32.ofInt wa)), (5, .int (Int32.ofInt cr)), (6, .int (Int32.ofInt ov)), (7, .int (Int32.ofInt cl)), (8, .int (Int32.ofInt (c + 1)))]) (List.forall_mem_cons.mpr ⟨(List.Mem.tail _ (List.Mem.head _)), (List.forall_mem_cons.mpr ⟨(List.Mem.tail _ (List.Mem.tail _ (List.Mem.head _))), (List.forall_mem_cons.mpr ⟨(List.Mem.tail _ (List.Mem.tail _ (List.Mem.tail _ (List.Mem.head _)))), (List.forall_mem_cons.mpr ⟨(List.Mem.tail _ (List.Mem.tail _ (List.Mem.tail _ (List.Mem.tail _ (List.Mem.head _))))), (List.forall_mem_cons.mpr ⟨(List.Mem.tail _ (List.Mem.tail _ (List.Mem.tail _ (List.Mem.tail _ (List.Mem.tail _ (List.Mem.head _)))))), (List.forall_mem_cons.mpr ⟨(List.Mem.tail _ (List.Mem.tail _ (List.Mem.tail _ (List.Mem.tail _ (List.Mem.tail _ (List.Mem.tail _ (List.Mem.head _))))))), (List.forall_mem_cons.mpr ⟨(List.Mem.tail _ (List.Mem.tail _ (List.Mem.tail _ (List.Mem.tail _ (List.Mem.tail _ (List.Mem.tail _ (List.Mem.tail _ (List.Mem.head _)))))))), (List.forall_mem_cons.mpr ⟨(List.Mem.head _), (fun q h => absurd h List.not_mem_nil)⟩)⟩)⟩)⟩)⟩)⟩)⟩)⟩) ?_
          exact ih _ yv ro wa cr ov cl (c + 1) I F (by first | exact ⟨And.intro (hi.1.1) (hi.1.2), And.intro (hi.2.1.1) (hi.2.1.2), And.intro (hi.2.2.1.1) (hi.2.2.1.2), And.intro (hi.2.2.2.1.1) (hi.2.2.2.1.2), And.intro (hi.2.2.2.2.1.1) (hi.2.2.2.2.1.2), And.intro (hi.2.2.2.2.2.1.1) (hi.2.2.2.2.2.1.2), oq_54f49eb5 hi.2.2.2.2.2.2.1, oq_319a18a4 g2004 b2003.2⟩ | omega) (by first | exact qk_me hm (by decide) (oq_dd0e9829 g2004 b2003.2) | omega) kx
        ·
          refine z_aload_n X (x := A 103) (show cdA 3 129 = some (.aload_n 0, 1, 0, 0, 0) from rfl) (List.Mem.head _) ?_
          refine s_getR X 103 (show cdA 3 130 = some (.getfield 29, 3, 0, 9, 0) from rfl) (by decide) rfl rfl ?_
          refine z_load X (x := c) (show cdA 3 133 = some (.iload 8, 2, 0, 0, 0) from rfl) (List.Mem.tail _ (List.Mem.tail _ (List.Mem.tail _ (List.Mem.tail _ (List.Mem.tail _ (List.Mem.tail _ (List.Mem.tail _ (List.Mem.head _)))))))) ?_
          refine z_ald X 109 (show cdA 3 135 = some (.iaload, 1, 0, 0, 0) from rfl) (by decide) rfl (by first | exact hi.2.2.2.2.2.2.1 | omega) (show c < 66 by first | exact oq_256e4529 g2004 b2003.2 | omega) (by decide) ?_
          have b2007 : (0 : Int) ≤ iC t 94 (c).toNat ∧ iC t 94 (c).toNat ≤ 11 := I.2 94 _ (show (c).toNat < 66 by first | exact oq_d7ff7873 g2004 b2003.2 | omega)
          refine z_load_n X (x := yv) (show cdA 3 136 = some (.iload_n 2, 1, 0, 0, 0) from rfl) (List.Mem.tail _ (List.Mem.head _)) ?_
          refine z_icmp_eq X (t := 190) (show cdA 3 137 = some (.if_icmp .eq 53, 3, 0, 0, 0) from rfl) (by decide) (rng_to _) ⟨by first | exact hi.1.1 | omega, by first | exact hi.1.2 | omega⟩ (fun g2008 => ?_) (fun g2008 => ?_)
          ·
            refine z_inc X (x := c) (lv' := [(8, .int (Int32.ofInt (c + 1))), (0, .ref (A 103)), (2, .int (Int32.ofInt yv)), (3, .int (Int32.ofInt ro)), (4, .int (Int32.ofInt wa)), (5, .int (Int32.ofInt cr)), (6, .int (Int32.ofInt ov)), (7, .int (Int32.ofInt cl))]) (show cdA 3 190 = some (.iinc 8 1, 3, 0, 0, 0) from rfl) (by decide) (List.Mem.tail _ (List.Mem.tail _ (List.Mem.tail _ (List.Mem.tail _ (List.Mem.tail _ (List.Mem.tail _ (List.Mem.tail _ (List.Mem.head _)))))))) (fun _ h => h) ?_
            refine z_goto X (t := 109) (show cdA 3 193 = some (.goto (-84), 3, 0, 0, 0) from rfl) (by decide) ?_
            refine WS_lv (lv := [(0, .ref (A 103)), (2, .int (Int32.ofInt yv)), (3, .int (Int32.ofInt ro)), (4, .int (Int32.ofInt wa)), (5, .int (Int32.ofInt cr)), (6, .int (Int32.ofInt ov)), (7, .int (Int32.ofInt cl)), (8, .int (Int32.ofInt (c + 1)))]) (List.forall_mem_cons.mpr ⟨(List.Mem.tail _ (List.Mem.head _)), (List.forall_mem_cons.mpr ⟨(List.Mem.tail _ (List.Mem.tail _ (List.Mem.head _))), (List.forall_mem_cons.mpr ⟨(List.Mem.tail _ (List.Mem.tail _ (List.Mem.tail _ (List.Mem.head _)))), (List.forall_mem_cons.mpr ⟨(List.Mem.tail _ (List.Mem.tail _ (List.Mem.tail _ (List.Mem.tail _ (List.Mem.head _))))), (List.forall_mem_cons.mpr ⟨(List.Mem.tail _ (List.Mem.tail _ (List.Mem.tail _ (List.Mem.tail _ (List.Mem.tail _ (List.Mem.head _)))))), (List.forall_mem_cons.mpr ⟨(List.Mem.tail _ (List.Mem.tail _ (List.Mem.tail _ (List.Mem.tail _ (List.Mem.tail _ (List.Mem.tail _ (List.Mem.head _))))))), (List.forall_mem_cons.mpr ⟨(List.Mem.tail _ (List.Mem.tail _ (List.Mem.tail _ (List.Mem.tail _ (List.Mem.tail _ (List.Mem.tail _ (List.Mem.tail _ (List.Mem.head _)))))))), (List.forall_mem_cons.mpr ⟨(List.Mem.head _), (fun q h => absurd h List.not_mem_nil)⟩)⟩)⟩)⟩)⟩)⟩)⟩)⟩) ?_
            exact ih _ yv ro wa cr ov cl (c + 1) I F (by first | exact ⟨And.intro (hi.1.1) (hi.1.2), And.intro (hi.2.1.1) (hi.2.1.2), And.intro (hi.2.2.1.1) (hi.2.2.1.2), And.intro (hi.2.2.2.1.1) (hi.2.2.2.1.2), And.intro (hi.2.2.2.2.1.1) (hi.2.2.2.2.1.2), And.intro (hi.2.2.2.2.2.1.1) (hi.2.2.2.2.2.1.2), oq_54f49eb5 hi.2.2.2.2.2.2.1, oq_319a18a4 g2004 b2003.2⟩ | omega) (by first | exact qk_me hm (by decide) (oq_dd0e9829 g2004 b2003.2) | omega) kx
          ·
            refine z_load X (x := cr) (show cdA 3 140 = some (.iload 5, 2, 0, 0, 0) from rfl) (List.Mem.tail _ (List.Mem.tail _ (List.Mem.tail _ (List.Mem.tail _ (List.Mem.head _))))) ?_
            refine z_aload_n X (x := A 103) (show cdA 3 142 = some (.aload_n 0, 1, 0, 0, 0) from rfl) (List.Mem.head _) ?_
            refine s_getR X 103 (show cdA 3 143 = some (.getfield 32, 3, 0, 10, 0) from rfl) (by decide) rfl rfl ?_
            refine z_load X (x := c) (show cdA 3 146 = some (.iload 8, 2, 0, 0, 0) from rfl) (List.Mem.tail _ (List.Mem.tail _ (List.Mem.tail _ (List.Mem.tail _ (List.Mem.tail _ (List.Mem.tail _ (List.Mem.tail _ (List.Mem.head _)))))))) ?_
            refine z_ald X 110 (show cdA 3 148 = some (.iaload, 1, 0, 0, 0) from rfl) (by decide) rfl (by first | exact hi.2.2.2.2.2.2.1 | omega) (show c < 66 by first | exact oq_256e4529 g2004 b2003.2 | omega) (by decide) ?_
            have b2009 : ((-2147483648) : Int) ≤ iC t 95 (c).toNat ∧ iC t 95 (c).toNat ≤ 2147483647 := I.2 95 _ (show (c).toNat < 66 by first | exact oq_d7ff7873 g2004 b2003.2 | omega)
            refine z_aload_n X (x := A 103) (show cdA 3 149 = some (.aload_n 0, 1, 0, 0, 0) from rfl) (List.Mem.head _) ?_
            refine s_getR X 103 (show cdA 3 150 = some (.getfield 43, 3, 0, 0, 0) from rfl) (by decide) rfl rfl ?_
            refine s_getR X 68 (show cdA 3 153 = some (.getfield 87, 3, 9, 12, 0) from rfl) (by decide) rfl rfl ?_
            refine z_load_n X (x := ro) (show cdA 3 156 = some (.iload_n 3, 1, 0, 0, 0) from rfl) (List.Mem.tail _ (List.Mem.tail _ (List.Mem.head _))) ?_
            refine z_aload_n X (x := A 103) (show cdA 3 157 = some (.aload_n 0, 1, 0, 0, 0) from rfl) (List.Mem.head _) ?_
            refine s_getR X 103 (show cdA 3 158 = some (.getfield 26, 3, 0, 8, 0) from rfl) (by decide) rfl rfl ?_
            refine z_load X (x := c) (show cdA 3 161 = some (.iload 8, 2, 0, 0, 0) from rfl) (List.Mem.tail _ (List.Mem.tail _ (List.Mem.tail _ (List.Mem.tail _ (List.Mem.tail _ (List.Mem.tail _ (List.Mem.tail _ (List.Mem.head _)))))))) ?_
            refine z_ald X 108 (show cdA 3 163 = some (.iaload, 1, 0, 0, 0) from rfl) (by decide) rfl (by first | exact hi.2.2.2.2.2.2.1 | omega) (show c < 66 by first | exact oq_256e4529 g2004 b2003.2 | omega) (by decide) ?_
            have b2010 : (0 : Int) ≤ iC t 93 (c).toNat ∧ iC t 93 (c).toNat ≤ 11 := I.2 93 _ (show (c).toNat < 66 by first | exact oq_d7ff7873 g2004 b2003.2 | omega)
            refine z_add X (show cdA 3 164 = some (.iadd, 1, 0, 0, 0) from rfl) ?_
            refine z_ald X 79 (show cdA 3 165 = some (.iaload, 1, 0, 0, 0) from rfl) (by decide) rfl (by first | exact oq_dd29f52d hi.2.1.1 b2010.1 | omega) (show (ro + (iC t 93 (c).toNat)) < 288 by first | exact oq_f94a0088 hi.2.1.2 b2010.2 | omega) (by decide) ?_
            have b2011 : (0 : Int) ≤ iC t 67 ((ro + (iC t 93 (c).toNat))).toNat ∧ iC t 67 ((ro + (iC t 93 (c).toNat))).toNat ≤ 50 := I.2 67 _ (show ((ro + (iC t 93 (c).toNat))).toNat < 288 by first | exact oq_3d7ae1dd hi.2.1.2 b2010.2 | omega)
            refine z_aload_n X (x := A 103) (show cdA 3 166 = some (.aload_n 0, 1, 0, 0, 0) from rfl) (List.Mem.head _) ?_
            refine s_getR X 103 (show cdA 3 167 = some (.getfield 43, 3, 0, 0, 0) from rfl) (by decide) rfl rfl ?_
            refine s_getR X 68 (show cdA 3 170 = some (.getfield 87, 3, 9, 12, 0) from rfl) (by decide) rfl rfl ?_
            refine z_load_n X (x := ro) (show cdA 3 173 = some (.iload_n 3, 1, 0, 0, 0) from rfl) (List.Mem.tail _ (List.Mem.tail _ (List.Mem.head _))) ?_
            refine z_aload_n X (x := A 103) (show cdA 3 174 = some (.aload_n 0, 1, 0, 0, 0) from rfl) (List.Mem.head _) ?_
            refine s_getR X 103 (show cdA 3 175 = some (.getfield 29, 3, 0, 9, 0) from rfl) (by decide) rfl rfl ?_
            refine z_load X (x := c) (show cdA 3 178 = some (.iload 8, 2, 0, 0, 0) from rfl) (List.Mem.tail _ (List.Mem.tail _ (List.Mem.tail _ (List.Mem.tail _ (List.Mem.tail _ (List.Mem.tail _ (List.Mem.tail _ (List.Mem.head _)))))))) ?_
            refine z_ald X 109 (show cdA 3 180 = some (.iaload, 1, 0, 0, 0) from rfl) (by decide) rfl (by first | exact hi.2.2.2.2.2.2.1 | omega) (show c < 66 by first | exact oq_256e4529 g2004 b2003.2 | omega) (by decide) ?_
            have b2012 : (0 : Int) ≤ iC t 94 (c).toNat ∧ iC t 94 (c).toNat ≤ 11 := I.2 94 _ (show (c).toNat < 66 by first | exact oq_d7ff7873 g2004 b2003.2 | omega)
            refine z_add X (show cdA 3 181 = some (.iadd, 1, 0, 0, 0) from rfl) ?_
            refine z_ald X 79 (show cdA 3 182 = some (.iaload, 1, 0, 0, 0) from rfl) (by decide) rfl (by first | exact oq_dd29f52d hi.2.1.1 b2012.1 | omega) (show (ro + (iC t 94 (c).toNat)) < 288 by first | exact oq_f94a0088 hi.2.1.2 b2012.2 | omega) (by decide) ?_
            have b2013 : (0 : Int) ≤ iC t 67 ((ro + (iC t 94 (c).toNat))).toNat ∧ iC t 67 ((ro + (iC t 94 (c).toNat))).toNat ≤ 50 := I.2 67 _ (show ((ro + (iC t 94 (c).toNat))).toNat < 288 by first | exact oq_3d7ae1dd hi.2.1.2 b2012.2 | omega)
            refine z_min X (show cdA 3 183 = some (.invokestatic 90, 3, 0, 8, 0) from rfl) (rng_to _) (rng_to _) (by rw [E.2.2.2]; decide) (by rw [E.2.2.2]; exact Nat.le_of_ble_eq_true rfl) (Nat.zero_le _) (Nat.zero_le _) (fun e2014 he2014 => ?_)
            refine z_mul X (show cdA 3 186 = some (.imul, 1, 0, 0, 0) from rfl) ?_
            refine z_any (fun y2015 hy2015 => ?_)
            refine z_add X (show cdA 3 187 = some (.iadd, 1, 0, 0, 0) from rfl) ?_
            refine z_any (fun y2016 hy2016 => ?_)
            refine z_store X (lv' := [(5, .int (Int32.ofInt y2016)), (0, .ref (A 103)), (2, .int (Int32.ofInt yv)), (3, .int (Int32.ofInt ro)), (4, .int (Int32.ofInt wa)), (6, .int (Int32.ofInt ov)), (7, .int (Int32.ofInt cl)), (8, .int (Int32.ofInt c))]) (show cdA 3 188 = some (.istore 5, 2, 0, 0, 0) from rfl) (by decide) (fun _ h => h) ?_
            refine z_inc X (x := c) (lv' := [(8, .int (Int32.ofInt (c + 1))), (5, .int (Int32.ofInt y2016)), (0, .ref (A 103)), (2, .int (Int32.ofInt yv)), (3, .int (Int32.ofInt ro)), (4, .int (Int32.ofInt wa)), (6, .int (Int32.ofInt ov)), (7, .int (Int32.ofInt cl))]) (show cdA 3 190 = some (.iinc 8 1, 3, 0, 0, 0) from rfl) (by decide) (List.Mem.tail _ (List.Mem.tail _ (List.Mem.tail _ (List.Mem.tail _ (List.Mem.tail _ (List.Mem.tail _ (List.Mem.tail _ (List.Mem.head _)))))))) (fun _ h => h) ?_
            refine z_goto X (t := 109) (show cdA 3 193 = some (.goto (-84), 3, 0, 0, 0) from rfl) (by decide) ?_
            refine WS_lv (lv := [(0, .ref (A 103)), (2, .int (Int32.ofInt yv)), (3, .int (Int32.ofInt ro)), (4, .int (Int32.ofInt wa)), (5, .int (Int32.ofInt y2016)), (6, .int (Int32.ofInt ov)), (7, .int (Int32.ofInt cl)), (8, .int (Int32.ofInt (c + 1)))]) (List.forall_mem_cons.mpr ⟨(List.Mem.tail _ (List.Mem.tail _ (List.Mem.head _))), (List.forall_mem_cons.mpr ⟨(List.Mem.tail _ (List.Mem.tail _ (List.Mem.tail _ (List.Mem.head _)))), (List.forall_mem_cons.mpr ⟨(List.Mem.tail _ (List.Mem.tail _ (List.Mem.tail _ (List.Mem.tail _ (List.Mem.head _))))), (List.forall_mem_cons.mpr ⟨(List.Mem.tail _ (List.Mem.tail _ (List.Mem.tail _ (List.Mem.tail _ (List.Mem.tail _ (List.Mem.head _)))))), (List.forall_mem_cons.mpr ⟨(List.Mem.tail _ (List.Mem.head _)), (List.forall_mem_cons.mpr ⟨(List.Mem.tail _ (List.Mem.tail _ (List.Mem.tail _ (List.Mem.tail _ (List.Mem.tail _ (List.Mem.tail _ (List.Mem.head _))))))), (List.forall_mem_cons.mpr ⟨(List.Mem.tail _ (List.Mem.tail _ (List.Mem.tail _ (List.Mem.tail _ (List.Mem.tail _ (List.Mem.tail _ (List.Mem.tail _ (List.Mem.head _)))))))), (List.forall_mem_cons.mpr ⟨(List.Mem.head _), (fun q h => absurd h List.not_mem_nil)⟩)⟩)⟩)⟩)⟩)⟩)⟩)⟩) ?_
            exact ih _ yv ro wa y2016 ov cl (c + 1) I F (by first | exact ⟨And.intro (hi.1.1) (hi.1.2), And.intro (hi.2.1.1) (hi.2.1.2), And.intro (hi.2.2.1.1) (hi.2.2.1.2), And.intro (hy2016.1) (hy2016.2), And.intro (hi.2.2.2.2.1.1) (hi.2.2.2.2.1.2), And.intro (hi.2.2.2.2.2.1.1) (hi.2.2.2.2.2.1.2), oq_54f49eb5 hi.2.2.2.2.2.2.1, oq_319a18a4 g2004 b2003.2⟩ | omega) (by first | exact qk_me hm (by decide) (oq_dd0e9829 g2004 b2003.2) | omega) kx
  refine z_load_n X (x := x) (show cdA 3 0 = some (.iload_n 1, 1, 0, 0, 0) from rfl) (List.Mem.tail _ (List.Mem.head _)) ?_
  refine z_bipush X (show cdA 3 1 = some (.bipush 12, 2, 0, 0, 12) from rfl) ?_
  refine z_mul X (show cdA 3 3 = some (.imul, 1, 0, 0, 0) from rfl) ?_
  refine z_store_n X (lv' := [(3, .int (Int32.ofInt (x * 12))), (0, .ref (A 103)), (1, .int (Int32.ofInt x)), (2, .int (Int32.ofInt y))]) (show cdA 3 4 = some (.istore_n 3, 1, 0, 0, 0) from rfl) (by decide) (fun _ h => h) ?_
  refine z_const X (show cdA 3 5 = some (.iconst 0, 1, 0, 0, 0) from rfl) ?_
  refine z_store X (lv' := [(4, .int (Int32.ofInt 0)), (3, .int (Int32.ofInt (x * 12))), (0, .ref (A 103)), (1, .int (Int32.ofInt x)), (2, .int (Int32.ofInt y))]) (show cdA 3 6 = some (.istore 4, 2, 0, 0, 0) from rfl) (by decide) (fun _ h => h) ?_
  refine z_const X (show cdA 3 8 = some (.iconst 0, 1, 0, 0, 0) from rfl) ?_
  refine z_store X (lv' := [(5, .int (Int32.ofInt 0)), (4, .int (Int32.ofInt 0)), (3, .int (Int32.ofInt (x * 12))), (0, .ref (A 103)), (1, .int (Int32.ofInt x)), (2, .int (Int32.ofInt y))]) (show cdA 3 9 = some (.istore 5, 2, 0, 0, 0) from rfl) (by decide) (fun _ h => h) ?_
  refine z_const X (show cdA 3 11 = some (.iconst 0, 1, 0, 0, 0) from rfl) ?_
  refine z_store X (lv' := [(6, .int (Int32.ofInt 0)), (5, .int (Int32.ofInt 0)), (4, .int (Int32.ofInt 0)), (3, .int (Int32.ofInt (x * 12))), (0, .ref (A 103)), (1, .int (Int32.ofInt x)), (2, .int (Int32.ofInt y))]) (show cdA 3 12 = some (.istore 6, 2, 0, 0, 0) from rfl) (by decide) (fun _ h => h) ?_
  refine z_const X (show cdA 3 14 = some (.iconst 0, 1, 0, 0, 0) from rfl) ?_
  refine z_store X (lv' := [(7, .int (Int32.ofInt 0)), (6, .int (Int32.ofInt 0)), (5, .int (Int32.ofInt 0)), (4, .int (Int32.ofInt 0)), (3, .int (Int32.ofInt (x * 12))), (0, .ref (A 103)), (1, .int (Int32.ofInt x)), (2, .int (Int32.ofInt y))]) (show cdA 3 15 = some (.istore 7, 2, 0, 0, 0) from rfl) (by decide) (fun _ h => h) ?_
  refine z_const X (show cdA 3 17 = some (.iconst 0, 1, 0, 0, 0) from rfl) ?_
  refine z_store X (lv' := [(8, .int (Int32.ofInt 0)), (7, .int (Int32.ofInt 0)), (6, .int (Int32.ofInt 0)), (5, .int (Int32.ofInt 0)), (4, .int (Int32.ofInt 0)), (3, .int (Int32.ofInt (x * 12))), (0, .ref (A 103)), (1, .int (Int32.ofInt x)), (2, .int (Int32.ofInt y))]) (show cdA 3 18 = some (.istore 8, 2, 0, 0, 0) from rfl) (by decide) (fun _ h => h) ?_
  refine WS_lv (lv := [(0, .ref (A 103)), (2, .int (Int32.ofInt y)), (3, .int (Int32.ofInt (x * 12))), (4, .int (Int32.ofInt 0)), (5, .int (Int32.ofInt 0)), (6, .int (Int32.ofInt 0)), (7, .int (Int32.ofInt 0)), (8, .int (Int32.ofInt 0))]) (List.forall_mem_cons.mpr ⟨(List.Mem.tail _ (List.Mem.tail _ (List.Mem.tail _ (List.Mem.tail _ (List.Mem.tail _ (List.Mem.tail _ (List.Mem.head _))))))), (List.forall_mem_cons.mpr ⟨(List.Mem.tail _ (List.Mem.tail _ (List.Mem.tail _ (List.Mem.tail _ (List.Mem.tail _ (List.Mem.tail _ (List.Mem.tail _ (List.Mem.tail _ (List.Mem.head _))))))))), (List.forall_mem_cons.mpr ⟨(List.Mem.tail _ (List.Mem.tail _ (List.Mem.tail _ (List.Mem.tail _ (List.Mem.tail _ (List.Mem.head _)))))), (List.forall_mem_cons.mpr ⟨(List.Mem.tail _ (List.Mem.tail _ (List.Mem.tail _ (List.Mem.tail _ (List.Mem.head _))))), (List.forall_mem_cons.mpr ⟨(List.Mem.tail _ (List.Mem.tail _ (List.Mem.tail _ (List.Mem.head _)))), (List.forall_mem_cons.mpr ⟨(List.Mem.tail _ (List.Mem.tail _ (List.Mem.head _))), (List.forall_mem_cons.mpr ⟨(List.Mem.tail _ (List.Mem.head _)), (List.forall_mem_cons.mpr ⟨(List.Mem.head _), (fun q h => absurd h List.not_mem_nil)⟩)⟩)⟩)⟩)⟩)⟩)⟩)⟩) ?_
  refine L20 ((12 - 0 : Int).toNat + 1) s y (x * 12) 0 0 0 0 0 I F (by first | exact ⟨And.intro (p1.1) (p1.2), And.intro (oq_6b8c39bb p0.1) (oq_70eefe4f p0.2), And.intro (by decide) (by decide), And.intro (by decide) (by decide), And.intro (by decide) (by decide), And.intro (by decide) (by decide), by decide, by decide⟩ | omega) (Nat.lt_succ_self _) ?_
  intro s3 x4 x5 x6 x7 x8 Is3 Fs3 hs3
  have b9 : (0 : Int) ≤ iI s3 49 ∧ iI s3 49 ≤ 12 := Is3.1 49
  have b10 : (0 : Int) ≤ iI s3 50 ∧ iI s3 50 ≤ 66 := Is3.1 50
  refine z_const X (show cdA 3 106 = some (.iconst 0, 1, 0, 0, 0) from rfl) ?_
  refine z_store X (lv' := [(8, .int (Int32.ofInt 0)), (0, .ref (A 103)), (2, .int (Int32.ofInt y)), (3, .int (Int32.ofInt (x * 12))), (4, .int (Int32.ofInt x4)), (5, .int (Int32.ofInt x5)), (6, .int (Int32.ofInt x6)), (7, .int (Int32.ofInt x7))]) (show cdA 3 107 = some (.istore 8, 2, 0, 0, 0) from rfl) (by decide) (fun _ h => h) ?_
  refine WS_lv (lv := [(0, .ref (A 103)), (2, .int (Int32.ofInt y)), (3, .int (Int32.ofInt (x * 12))), (4, .int (Int32.ofInt x4)), (5, .int (Int32.ofInt x5)), (6, .int (Int32.ofInt x6)), (7, .int (Int32.ofInt x7)), (8, .int (Int32.ofInt 0))]) (List.forall_mem_cons.mpr ⟨(List.Mem.tail _ (List.Mem.head _)), (List.forall_mem_cons.mpr ⟨(List.Mem.tail _ (List.Mem.tail _ (List.Mem.head _))), (List.forall_mem_cons.mpr ⟨(List.Mem.tail _ (List.Mem.tail _ (List.Mem.tail _ (List.Mem.head _)))), (List.forall_mem_cons.mpr ⟨(List.Mem.tail _ (List.Mem.tail _ (List.Mem.tail _ (List.Mem.tail _ (List.Mem.head _))))), (List.forall_mem_cons.mpr ⟨(List.Mem.tail _ (List.Mem.tail _ (List.Mem.tail _ (List.Mem.tail _ (List.Mem.tail _ (List.Mem.head _)))))), (List.forall_mem_cons.mpr ⟨(List.Mem.tail _ (List.Mem.tail _ (List.Mem.tail _ (List.Mem.tail _ (List.Mem.tail _ (List.Mem.tail _ (List.Mem.head _))))))), (List.forall_mem_cons.mpr ⟨(List.Mem.tail _ (List.Mem.tail _ (List.Mem.tail _ (List.Mem.tail _ (List.Mem.tail _ (List.Mem.tail _ (List.Mem.tail _ (List.Mem.head _)))))))), (List.forall_mem_cons.mpr ⟨(List.Mem.head _), (fun q h => absurd h List.not_mem_nil)⟩)⟩)⟩)⟩)⟩)⟩)⟩)⟩) ?_
  refine L109 ((66 - 0 : Int).toNat + 1) s3 y (x * 12) x4 x5 x6 x7 0 Is3 Fs3 (by first | exact ⟨And.intro (hs3.1.1) (hs3.1.2), And.intro (hs3.2.1.1) (hs3.2.1.2), And.intro (hs3.2.2.1.1) (hs3.2.2.1.2), And.intro (hs3.2.2.2.1.1) (hs3.2.2.2.1.2), And.intro (hs3.2.2.2.2.1.1) (hs3.2.2.2.2.1.2), And.intro (hs3.2.2.2.2.2.1.1) (hs3.2.2.2.2.2.1.2), by decide, by decide⟩ | omega) (Nat.lt_succ_self _) ?_
  intro s11 x12 x13 Is11 Fs11 hs11
  have b14 : (0 : Int) ≤ iI s11 49 ∧ iI s11 49 ≤ 12 := Is11.1 49
  have b15 : (0 : Int) ≤ iI s11 50 ∧ iI s11 50 ≤ 66 := Is11.1 50
  refine z_aload_n X (x := A 103) (show cdA 3 196 = some (.aload_n 0, 1, 0, 0, 0) from rfl) (List.Mem.head _) ?_
  refine s_getR X 103 (show cdA 3 197 = some (.getfield 37, 3, 0, 11, 0) from rfl) (by decide) rfl rfl ?_
  refine z_const X (show cdA 3 200 = some (.iconst 0, 1, 0, 0, 0) from rfl) ?_
  refine z_load X (x := x4) (show cdA 3 201 = some (.iload 4, 2, 0, 0, 0) from rfl) (List.Mem.tail _ (List.Mem.tail _ (List.Mem.tail _ (List.Mem.head _)))) ?_
  refine z_ast X 111 (show cdA 3 203 = some (.iastore, 1, 0, 0, 0) from rfl) (by decide) rfl (by decide) (show 0 < 7 by decide) (by decide) ?_
  obtain ⟨s16, hs16⟩ : ∃ x0, x0 = uC s11 96 (0 : Int).toNat (Int32.ofInt x4) := ⟨_, rfl⟩
  rw [← hs16]
  have Is16 : Bd s16 := by rw [hs16]; exact bd_C Is11 (show ((-2147483648) : Int) ≤ x4 ∧ x4 ≤ 2147483647 by first | exact ⟨hs11.2.2.1.1, hs11.2.2.1.2⟩ | omega) ⟨by first | exact hs11.2.2.1.1 | omega, by first | exact hs11.2.2.1.2 | omega⟩
  have Fs16 := fm_C (i := (0 : Int).toNat) (x := Int32.ofInt x4) Fs11 (show 96 ∈ _ by decide)
  rw [← hs16] at Fs16
  have ws16_49 : iI s16 49 = iI s11 49 := by rw [hs16]; rfl
  have ws16_50 : iI s16 50 = iI s11 50 := by rw [hs16]; rfl
  refine z_aload_n X (x := A 103) (show cdA 3 204 = some (.aload_n 0, 1, 0, 0, 0) from rfl) (List.Mem.head _) ?_
  refine s_getR X 103 (show cdA 3 205 = some (.getfield 37, 3, 0, 11, 0) from rfl) (by decide) rfl rfl ?_
  refine z_const X (show cdA 3 208 = some (.iconst 1, 1, 0, 0, 0) from rfl) ?_
  refine z_load X (x := x12) (show cdA 3 209 = some (.iload 5, 2, 0, 0, 0) from rfl) (List.Mem.tail _ (List.Mem.tail _ (List.Mem.tail _ (List.Mem.tail _ (List.Mem.head _))))) ?_
  refine z_ast X 111 (show cdA 3 211 = some (.iastore, 1, 0, 0, 0) from rfl) (by decide) rfl (by decide) (show 1 < 7 by decide) (by decide) ?_
  obtain ⟨s17, hs17⟩ : ∃ x0, x0 = uC s16 96 (1 : Int).toNat (Int32.ofInt x12) := ⟨_, rfl⟩
  rw [← hs17]
  have Is17 : Bd s17 := by rw [hs17]; exact bd_C Is16 (show ((-2147483648) : Int) ≤ x12 ∧ x12 ≤ 2147483647 by first | exact ⟨hs11.2.2.2.1.1, hs11.2.2.2.1.2⟩ | omega) ⟨by first | exact hs11.2.2.2.1.1 | omega, by first | exact hs11.2.2.2.1.2 | omega⟩
  have Fs17 := fm_C (i := (1 : Int).toNat) (x := Int32.ofInt x12) Fs16 (show 96 ∈ _ by decide)
  rw [← hs17] at Fs17
  have ws17_49 : iI s17 49 = iI s16 49 := by rw [hs17]; rfl
  have ws17_50 : iI s17 50 = iI s16 50 := by rw [hs17]; rfl
  refine z_aload_n X (x := A 103) (show cdA 3 212 = some (.aload_n 0, 1, 0, 0, 0) from rfl) (List.Mem.head _) ?_
  refine s_getR X 103 (show cdA 3 213 = some (.getfield 37, 3, 0, 11, 0) from rfl) (by decide) rfl rfl ?_
  refine z_const X (show cdA 3 216 = some (.iconst 2, 1, 0, 0, 0) from rfl) ?_
  refine z_load X (x := x6) (show cdA 3 217 = some (.iload 6, 2, 0, 0, 0) from rfl) (List.Mem.tail _ (List.Mem.tail _ (List.Mem.tail _ (List.Mem.tail _ (List.Mem.tail _ (List.Mem.head _)))))) ?_
  refine z_ast X 111 (show cdA 3 219 = some (.iastore, 1, 0, 0, 0) from rfl) (by decide) rfl (by decide) (show 2 < 7 by decide) (by decide) ?_
  obtain ⟨s18, hs18⟩ : ∃ x0, x0 = uC s17 96 (2 : Int).toNat (Int32.ofInt x6) := ⟨_, rfl⟩
  rw [← hs18]
  have Is18 : Bd s18 := by rw [hs18]; exact bd_C Is17 (show ((-2147483648) : Int) ≤ x6 ∧ x6 ≤ 2147483647 by first | exact ⟨hs11.2.2.2.2.1.1, hs11.2.2.2.2.1.2⟩ | omega) ⟨by first | exact hs11.2.2.2.2.1.1 | omega, by first | exact hs11.2.2.2.2.1.2 | omega⟩
  have Fs18 := fm_C (i := (2 : Int).toNat) (x := Int32.ofInt x6) Fs17 (show 96 ∈ _ by decide)
  rw [← hs18] at Fs18
  have ws18_49 : iI s18 49 = iI s17 49 := by rw [hs18]; rfl
  have ws18_50 : iI s18 50 = iI s17 50 := by rw [hs18]; rfl
  refine z_aload_n X (x := A 103) (show cdA 3 220 = some (.aload_n 0, 1, 0, 0, 0) from rfl) (List.Mem.head _) ?_
  refine s_getR X 103 (show cdA 3 221 = some (.getfield 37, 3, 0, 11, 0) from rfl) (by decide) rfl rfl ?_
  refine z_const X (show cdA 3 224 = some (.iconst 3, 1, 0, 0, 0) from rfl) ?_
  refine z_load X (x := x7) (show cdA 3 225 = some (.iload 7, 2, 0, 0, 0) from rfl) (List.Mem.tail _ (List.Mem.tail _ (List.Mem.tail _ (List.Mem.tail _ (List.Mem.tail _ (List.Mem.tail _ (List.Mem.head _))))))) ?_
  refine z_ast X 111 (show cdA 3 227 = some (.iastore, 1, 0, 0, 0) from rfl) (by decide) rfl (by decide) (show 3 < 7 by decide) (by decide) ?_
  obtain ⟨s19, hs19⟩ : ∃ x0, x0 = uC s18 96 (3 : Int).toNat (Int32.ofInt x7) := ⟨_, rfl⟩
  rw [← hs19]
  have Is19 : Bd s19 := by rw [hs19]; exact bd_C Is18 (show ((-2147483648) : Int) ≤ x7 ∧ x7 ≤ 2147483647 by first | exact ⟨hs11.2.2.2.2.2.1.1, hs11.2.2.2.2.2.1.2⟩ | omega) ⟨by first | exact hs11.2.2.2.2.2.1.1 | omega, by first | exact hs11.2.2.2.2.2.1.2 | omega⟩
  have Fs19 := fm_C (i := (3 : Int).toNat) (x := Int32.ofInt x7) Fs18 (show 96 ∈ _ by decide)
  rw [← hs19] at Fs19
  have ws19_49 : iI s19 49 = iI s18 49 := by rw [hs19]; rfl
  have ws19_50 : iI s19 50 = iI s18 50 := by rw [hs19]; rfl
  exact w_vret X.1 q hRt (ax_d X (show cdA 3 228 = some (.return_, 1, 0, 0, 0) from rfl)) (Nat.zero_le _) (Nat.zero_le _) ⟨_, rfl, Is19, Fs19, rfl, trivial⟩
set_option maxRecDepth 4000 in
theorem c7_work_103 (G : GX l s0 D tys a0 dT) (I : Bd s) {x : Int} (p0 : -1 ≤ x ∧ x ≤ 7) : CT l s0 D A dT 84 (rmN 84) [.ref (A 19), .int (Int32.ofInt x), .ref (A 111)] s (fun o t => Bd t ∧ Fm [] [20] s t ∧ ∃ e, o = .inl (some (.int (Int32.ofInt e))) ∧ rng e ∧ (True)) := by
  refine ct_ofX G (by decide) (Nat.le_of_ble_eq_true rfl) (fun k X E ET hRt hXt q => ?_)
  show WS k 0 [(0, .ref (A 19)), (1, .int (Int32.ofInt x)), (2, .ref (A 111))] [] _ 0 0
  have F : Fm [] [20] s s := fm_rf _ _ s
  have L28 : ∀ (n : Nat) (t : PS) (xv dp c : Int), Bd t → Fm [] [20] s t → ((0 ≤ xv ∧ xv ≤ 7) ∧ (0 ≤ dp ∧ dp ≤ 200) ∧ 0 ≤ c ∧ c ≤ 200) → (200 - c : Int).toNat < n → (∀ (t' : PS) (dp' c' : Int), Bd t' → Fm [] [20] s t' → ((0 ≤ xv ∧ xv ≤ 7) ∧ (0 ≤ dp' ∧ dp' ≤ 200) ∧ 0 ≤ c' ∧ c' ≤ 200) → WS k 163 [(0, .ref (A 19)), (2, .ref (A 111)), (1, .int (Int32.ofInt xv)), (3, .int (Int32.ofInt dp')), (4, .int (Int32.ofInt c'))] [] (Wd A dT t') 0 0) → WS k 28 [(0, .ref (A 19)), (2, .ref (A 111)), (1, .int (Int32.ofInt xv)), (3, .int (Int32.ofInt dp)), (4, .int (Int32.ofInt c))] [] (Wd A dT t) 0 0 := by
    intro n
    induction n with
    | zero =>
      intro t xv dp c I F hi hm kx
      exact absurd hm (Nat.not_lt_zero _)
    | succ n ih =>
      intro t xv dp c I F hi hm kx
      refine z_load X (x := c) (show cdA 84 28 = some (.iload 4, 2, 0, 0, 0) from rfl) (List.Mem.tail _ (List.Mem.tail _ (List.Mem.tail _ (List.Mem.tail _ (List.Mem.head _))))) ?_
      refine z_aload_n X (x := A 19) (show cdA 84 30 = some (.aload_n 0, 1, 0, 0, 0) from rfl) (List.Mem.head _) ?_
      refine s_getR X 19 (show cdA 84 31 = some (.getfield 15, 3, 7, 2, 0) from rfl) (by decide) rfl rfl ?_
      refine z_load_n X (x := xv) (show cdA 84 34 = some (.iload_n 1, 1, 0, 0, 0) from rfl) (List.Mem.tail _ (List.Mem.tail _ (List.Mem.head _))) ?_
      refine z_ald X 21 (show cdA 84 35 = some (.iaload, 1, 0, 0, 0) from rfl) (by decide) rfl (by first | exact hi.1.1 | omega) (show xv < 8 by first | exact oq_aaea290e hi.1.2 | omega) (by decide) ?_
      have b1001 : (0 : Int) ≤ iC t 17 (xv).toNat ∧ iC t 17 (xv).toNat ≤ 200 := I.2 17 _ (show (xv).toNat < 8 by first | exact oq_c19a3aae hi.1.2 | omega)
      refine z_icmp_ge X (t := 163) (show cdA 84 36 = some (.if_icmp .ge 127, 3, 3, 0, 0) from rfl) (by decide) ⟨by first | exact oq_fa4e5087 hi.2.2.1 | omega, by first | exact oq_52af2b96 hi.2.2.2 | omega⟩ (rng_to _) (fun g1002 => ?_) (fun g1002 => ?_)
      ·
        refine WS_lv (lv := [(0, .ref (A 19)), (2, .ref (A 111)), (1, .int (Int32.ofInt xv)), (3, .int (Int32.ofInt dp)), (4, .int (Int32.ofInt c))]) (List.forall_mem_cons.mpr ⟨(List.Mem.head _), (List.forall_mem_cons.mpr ⟨(List.Mem.tail _ (List.Mem.head _)), (List.forall_mem_cons.mpr ⟨(List.Mem.tail _ (List.Mem.tail _ (List.Mem.head _))), (List.forall_mem_cons.mpr ⟨(List.Mem.tail _ (List.Mem.tail _ (List.Mem.tail _ (List.Mem.head _)))), (List.forall_mem_cons.mpr ⟨(List.Mem.tail _ (List.Mem.tail _ (List.Mem.tail _ (List.Mem.tail _ (List.Mem.head _))))), (fun q h => absurd h List.not_mem_nil)⟩)⟩)⟩)⟩)⟩) ?_
        exact kx _ dp c I F (by first | exact ⟨And.intro (hi.1.1) (hi.1.2), And.intro (hi.2.1.1) (hi.2.1.2), hi.2.2.1, hi.2.2.2⟩ | omega)
      ·
        refine z_aload_n X (x := A 19) (show cdA 84 39 = some (.aload_n 0, 1, 0, 0, 0) from rfl) (List.Mem.head _) ?_
        refine s_getR X 19 (show cdA 84 40 = some (.getfield 11, 3, 7, 1, 0) from rfl) (by decide) rfl rfl ?_
        refine z_load X (x := c) (show cdA 84 43 = some (.iload 4, 2, 0, 0, 0) from rfl) (List.Mem.tail _ (List.Mem.tail _ (List.Mem.tail _ (List.Mem.tail _ (List.Mem.head _))))) ?_
        refine z_ald X 20 (show cdA 84 45 = some (.iaload, 1, 0, 0, 0) from rfl) (by decide) rfl (by first | exact hi.2.2.1 | omega) (show c < 200 by first | exact oq_6fca3d72 g1002 b1001.2 | omega) (by decide) ?_
        have b1003 : ((-2147483648) : Int) ≤ iC t 16 (c).toNat ∧ iC t 16 (c).toNat ≤ 2147483647 := I.2 16 _ (show (c).toNat < 200 by first | exact oq_b70289d5 g1002 b1001.2 | omega)
        refine z_store X (lv' := [(5, .int (Int32.ofInt (iC t 16 (c).toNat))), (0, .ref (A 19)), (2, .ref (A 111)), (1, .int (Int32.ofInt xv)), (3, .int (Int32.ofInt dp)), (4, .int (Int32.ofInt c))]) (show cdA 84 46 = some (.istore 5, 2, 0, 0, 0) from rfl) (by decide) (fun _ h => h) ?_
        refine z_load X (x := (iC t 16 (c).toNat)) (show cdA 84 48 = some (.iload 5, 2, 0, 0, 0) from rfl) (List.Mem.head _) ?_
        refine z_bipush X (show cdA 84 50 = some (.bipush (-8), 2, 0, 0, (-8)) from rfl) ?_
        refine z_icmp_le X (t := 90) (show cdA 84 52 = some (.if_icmp .le 38, 3, 5, 0, 0) from rfl) (by decide) (rng_to _) (by decide) (fun g1004 => ?_) (fun g1004 => ?_)
        ·
          refine z_load X (x := (iC t 16 (c).toNat)) (show cdA 84 90 = some (.iload 5, 2, 0, 0, 0) from rfl) (List.Mem.head _) ?_
          refine z_bipush X (show cdA 84 92 = some (.bipush (-8), 2, 0, 0, (-8)) from rfl) ?_
          refine z_icmp_ne X (t := 122) (show cdA 84 94 = some (.if_icmp .ne 28, 3, 1, 0, 0) from rfl) (by decide) (rng_to _) (by decide) (fun g1005 => ?_) (fun g1005 => ?_)
          ·
            refine z_load_n X (x := dp) (show cdA 84 122 = some (.iload_n 3, 1, 0, 0, 0) from rfl) (List.Mem.tail _ (List.Mem.tail _ (List.Mem.tail _ (List.Mem.tail _ (List.Mem.head _))))) ?_
            refine z_const X (show cdA 84 123 = some (.iconst 1, 1, 0, 0, 0) from rfl) ?_
            refine z_icmp_le X (t := 157) (show cdA 84 124 = some (.if_icmp .le 33, 3, 5, 0, 0) from rfl) (by decide) ⟨by first | exact oq_fa4e5087 hi.2.1.1 | omega, by first | exact oq_52af2b96 hi.2.1.2 | omega⟩ (by decide) (fun g1006 => ?_) (fun g1006 => ?_)
            ·
              refine z_inc X (x := c) (lv' := [(4, .int (Int32.ofInt (c + 1))), (5, .int (Int32.ofInt (iC t 16 (c).toNat))), (0, .ref (A 19)), (2, .ref (A 111)), (1, .int (Int32.ofInt xv)), (3, .int (Int32.ofInt dp))]) (show cdA 84 157 = some (.iinc 4 1, 3, 0, 0, 0) from rfl) (by decide) (List.Mem.tail _ (List.Mem.tail _ (List.Mem.tail _ (List.Mem.tail _ (List.Mem.tail _ (List.Mem.head _)))))) (fun _ h => h) ?_
              refine z_goto X (t := 28) (show cdA 84 160 = some (.goto (-132), 3, 0, 0, 0) from rfl) (by decide) ?_
              refine WS_lv (lv := [(0, .ref (A 19)), (2, .ref (A 111)), (1, .int (Int32.ofInt xv)), (3, .int (Int32.ofInt dp)), (4, .int (Int32.ofInt (c + 1)))]) (List.forall_mem_cons.mpr ⟨(List.Mem.tail _ (List.Mem.tail _ (List.Mem.head _))), (List.forall_mem_cons.mpr ⟨(List.Mem.tail _ (List.Mem.tail _ (List.Mem.tail _ (List.Mem.head _)))), (List.forall_mem_cons.mpr ⟨(List.Mem.tail _ (List.Mem.tail _ (List.Mem.tail _ (List.Mem.tail _ (List.Mem.head _))))), (List.forall_mem_cons.mpr ⟨(List.Mem.tail _ (List.Mem.tail _ (List.Mem.tail _ (List.Mem.tail _ (List.Mem.tail _ (List.Mem.head _)))))), (List.forall_mem_cons.mpr ⟨(List.Mem.head _), (fun q h => absurd h List.not_mem_nil)⟩)⟩)⟩)⟩)⟩) ?_
              exact ih _ xv dp (c + 1) I F (by first | exact ⟨And.intro (hi.1.1) (hi.1.2), And.intro (hi.2.1.1) (hi.2.1.2), oq_54f49eb5 hi.2.2.1, oq_228270fa g1002 b1001.2⟩ | omega) (by first | exact qk_me hm (by decide) (oq_b0a4f3e2 g1002 b1001.2) | omega) kx
            ·
              refine z_inc X (x := dp) (lv' := [(3, .int (Int32.ofInt (dp + (-1)))), (5, .int (Int32.ofInt (iC t 16 (c).toNat))), (0, .ref (A 19)), (2, .ref (A 111)), (1, .int (Int32.ofInt xv)), (4, .int (Int32.ofInt c))]) (show cdA 84 127 = some (.iinc 3 (-1), 3, 0, 0, 0) from rfl) (by decide) (List.Mem.tail _ (List.Mem.tail _ (List.Mem.tail _ (List.Mem.tail _ (List.Mem.head _))))) (fun _ h => h) ?_
              refine z_aload_n X (x := A 19) (show cdA 84 130 = some (.aload_n 0, 1, 0, 0, 0) from rfl) (List.Mem.tail _ (List.Mem.tail _ (List.Mem.head _))) ?_
              refine s_getR X 19 (show cdA 84 131 = some (.getfield 28, 3, 7, 13, 0) from rfl) (by decide) rfl rfl ?_
              refine z_load_n X (x := (dp + (-1))) (show cdA 84 134 = some (.iload_n 3, 1, 0, 0, 0) from rfl) (List.Mem.head _) ?_
              refine z_const X (show cdA 84 135 = some (.iconst 1, 1, 0, 0, 0) from rfl) ?_
              refine z_sub X (show cdA 84 136 = some (.isub, 1, 0, 0, 0) from rfl) ?_
              refine z_load X (x := (iC t 16 (c).toNat)) (show cdA 84 137 = some (.iload 5, 2, 0, 0, 0) from rfl) (List.Mem.tail _ (List.Mem.head _)) ?_
              refine z_aload_n X (x := A 19) (show cdA 84 139 = some (.aload_n 0, 1, 0, 0, 0) from rfl) (List.Mem.tail _ (List.Mem.tail _ (List.Mem.head _))) ?_
              refine s_getR X 19 (show cdA 84 140 = some (.getfield 28, 3, 7, 13, 0) from rfl) (by decide) rfl rfl ?_
              refine z_load_n X (x := (dp + (-1))) (show cdA 84 143 = some (.iload_n 3, 1, 0, 0, 0) from rfl) (List.Mem.head _) ?_
              refine z_const X (show cdA 84 144 = some (.iconst 1, 1, 0, 0, 0) from rfl) ?_
              refine z_sub X (show cdA 84 145 = some (.isub, 1, 0, 0, 0) from rfl) ?_
              refine z_ald X 24 (show cdA 84 146 = some (.iaload, 1, 0, 0, 0) from rfl) (by decide) rfl (by first | exact oq_d588e9be g1006 | omega) (show ((dp + (-1)) - 1) < 200 by first | exact oq_f9b4958f hi.2.1.2 | omega) (by decide) ?_
              have b1007 : ((-2147483648) : Int) ≤ iC t 20 (((dp + (-1)) - 1)).toNat ∧ iC t 20 (((dp + (-1)) - 1)).toNat ≤ 2147483647 := I.2 20 _ (show (((dp + (-1)) - 1)).toNat < 200 by first | exact oq_ab8c951f hi.2.1.2 | omega)
              refine z_aload_n X (x := A 19) (show cdA 84 147 = some (.aload_n 0, 1, 0, 0, 0) from rfl) (List.Mem.tail _ (List.Mem.tail _ (List.Mem.head _))) ?_
              refine s_getR X 19 (show cdA 84 148 = some (.getfield 28, 3, 7, 13, 0) from rfl) (by decide) rfl rfl ?_
              refine z_load_n X (x := (dp + (-1))) (show cdA 84 151 = some (.iload_n 3, 1, 0, 0, 0) from rfl) (List.Mem.head _) ?_
              refine z_ald X 24 (show cdA 84 152 = some (.iaload, 1, 0, 0, 0) from rfl) (by decide) rfl (by first | exact oq_6c14892a g1006 | omega) (show (dp + (-1)) < 200 by first | exact oq_2dcece94 hi.2.1.2 | omega) (by decide) ?_
              have b1008 : ((-2147483648) : Int) ≤ iC t 20 ((dp + (-1))).toNat ∧ iC t 20 ((dp + (-1))).toNat ≤ 2147483647 := I.2 20 _ (show ((dp + (-1))).toNat < 200 by first | exact oq_323b4624 hi.2.1.2 | omega)
              refine z_callS X (rm := rmN 85) (As := [.int (Int32.ofInt (iC t 16 (c).toNat)), .int (Int32.ofInt (iC t 20 (((dp + (-1)) - 1)).toNat)), .int (Int32.ofInt (iC t 20 ((dp + (-1))).toNat))]) (st := [.int (Int32.ofInt ((dp + (-1)) - 1)), .ref (A 24)]) (show cdA 84 153 = some (.invokestatic 154, 3, 85, 1, 0) from rfl) rfl (by rw [E.1, E.2.1, E.2.2.1]; exact c7_joined G I (by first | exact ⟨b1003.1, b1003.2⟩ | omega) (by first | exact ⟨b1007.1, b1007.2⟩ | omega) (by first | exact ⟨b1008.1, b1008.2⟩ | omega)) ⟨by rw [E.2.2.2]; exact (show (rmN 85).frames + 1 ≤ (rmN 84).frames by decide), by rw [E.2.2.2]; exact (show 8 + (mNL (miB 85) + 11) + (rmN 85).locals ≤ (rmN 84).locals by decide), by rw [E.2.2.2]; exact (show 0 + (rmN 85).cells ≤ (rmN 84).cells by decide), by rw [E.2.2.2]; exact (show 0 + (rmN 85).slots ≤ (rmN 84).slots by decide)⟩ (Nat.le_of_ble_eq_true rfl) (fun vv s1009 hq => ?_) (fun ee s1009 hq => ?_)
              rotate_left
              · obtain ⟨rfl, e1010, hv, hrs1009, hps1009⟩ := hq; cases hv
              obtain ⟨rfl, e1010, hv, hrs1009, hps1009⟩ := hq
              cases hv
              show WS k 156 [(3, .int (Int32.ofInt (dp + (-1)))), (5, .int (Int32.ofInt (iC t 16 (c).toNat))), (0, .ref (A 19)), (2, .ref (A 111)), (1, .int (Int32.ofInt xv)), (4, .int (Int32.ofInt c))] [.int (Int32.ofInt e1010), .int (Int32.ofInt ((dp + (-1)) - 1)), .ref (A 24)] (Wd A dT t) 0 0
              refine z_ast X 24 (show cdA 84 156 = some (.iastore, 1, 0, 0, 0) from rfl) (by decide) rfl (by first | exact oq_d588e9be g1006 | omega) (show ((dp + (-1)) - 1) < 200 by first | exact oq_f9b4958f hi.2.1.2 | omega) (by decide) ?_
              obtain ⟨s1011, hs1011⟩ : ∃ x0, x0 = uC t 20 (((dp + (-1)) - 1)).toNat (Int32.ofInt e1010) := ⟨_, rfl⟩
              rw [← hs1011]
              have Is1011 : Bd s1011 := by rw [hs1011]; exact bd_C I (show ((-2147483648) : Int) ≤ e1010 ∧ e1010 ≤ 2147483647 by first | exact ⟨hps1009.1, hps1009.2⟩ | omega) hrs1009
              have Fs1011 := fm_C (i := (((dp + (-1)) - 1)).toNat) (x := Int32.ofInt e1010) F (show 20 ∈ _ by decide)
              rw [← hs1011] at Fs1011
              refine z_inc X (x := c) (lv' := [(4, .int (Int32.ofInt (c + 1))), (3, .int (Int32.ofInt (dp + (-1)))), (5, .int (Int32.ofInt (iC t 16 (c).toNat))), (0, .ref (A 19)), (2, .ref (A 111)), (1, .int (Int32.ofInt xv))]) (show cdA 84 157 = some (.iinc 4 1, 3, 0, 0, 0) from rfl) (by decide) (List.Mem.tail _ (List.Mem.tail _ (List.Mem.tail _ (List.Mem.tail _ (List.Mem.tail _ (List.Mem.head _)))))) (fun _ h => h) ?_
              refine z_goto X (t := 28) (show cdA 84 160 = some (.goto (-132), 3, 0, 0, 0) from rfl) (by decide) ?_
              refine WS_lv (lv := [(0, .ref (A 19)), (2, .ref (A 111)), (1, .int (Int32.ofInt xv)), (3, .int (Int32.ofInt (dp + (-1)))), (4, .int (Int32.ofInt (c + 1)))]) (List.forall_mem_cons.mpr ⟨(List.Mem.tail _ (List.Mem.tail _ (List.Mem.tail _ (List.Mem.head _)))), (List.forall_mem_cons.mpr ⟨(List.Mem.tail _ (List.Mem.tail _ (List.Mem.tail _ (List.Mem.tail _ (List.Mem.head _))))), (List.forall_mem_cons.mpr ⟨(List.Mem.tail _ (List.Mem.tail _ (List.Mem.tail _ (List.Mem.tail _ (List.Mem.tail _ (List.Mem.head _)))))), (List.forall_mem_cons.mpr ⟨(List.Mem.tail _ (List.Mem.head _)), (List.forall_mem_cons.mpr ⟨(List.Mem.head _), (fun q h => absurd h List.not_mem_nil)⟩)⟩)⟩)⟩)⟩) ?_
              exact ih _ xv (dp + (-1)) (c + 1) Is1011 Fs1011 (by first | exact ⟨And.intro (hi.1.1) (hi.1.2), And.intro (oq_6c14892a g1006) (oq_af76c38b hi.2.1.2), oq_54f49eb5 hi.2.2.1, oq_228270fa g1002 b1001.2⟩ | omega) (by first | exact qk_me hm (by decide) (oq_b0a4f3e2 g1002 b1001.2) | omega) kx
          ·
            refine z_load_n X (x := dp) (show cdA 84 97 = some (.iload_n 3, 1, 0, 0, 0) from rfl) (List.Mem.tail _ (List.Mem.tail _ (List.Mem.tail _ (List.Mem.tail _ (List.Mem.head _))))) ?_
            refine z_if_le X (t := 157) (show cdA 84 98 = some (.ifCond .le 59, 3, 5, 0, 0) from rfl) (by decide) ⟨by first | exact oq_fa4e5087 hi.2.1.1 | omega, by first | exact oq_52af2b96 hi.2.1.2 | omega⟩ (fun g1012 => ?_) (fun g1012 => ?_)
            ·
              refine z_inc X (x := c) (lv' := [(4, .int (Int32.ofInt (c + 1))), (5, .int (Int32.ofInt (iC t 16 (c).toNat))), (0, .ref (A 19)), (2, .ref (A 111)), (1, .int (Int32.ofInt xv)), (3, .int (Int32.ofInt dp))]) (show cdA 84 157 = some (.iinc 4 1, 3, 0, 0, 0) from rfl) (by decide) (List.Mem.tail _ (List.Mem.tail _ (List.Mem.tail _ (List.Mem.tail _ (List.Mem.tail _ (List.Mem.head _)))))) (fun _ h => h) ?_
              refine z_goto X (t := 28) (show cdA 84 160 = some (.goto (-132), 3, 0, 0, 0) from rfl) (by decide) ?_
              refine WS_lv (lv := [(0, .ref (A 19)), (2, .ref (A 111)), (1, .int (Int32.ofInt xv)), (3, .int (Int32.ofInt dp)), (4, .int (Int32.ofInt (c + 1)))]) (List.forall_mem_cons.mpr ⟨(List.Mem.tail _ (List.Mem.tail _ (List.Mem.head _))), (List.forall_mem_cons.mpr ⟨(List.Mem.tail _ (List.Mem.tail _ (List.Mem.tail _ (List.Mem.head _)))), (List.forall_mem_cons.mpr ⟨(List.Mem.tail _ (List.Mem.tail _ (List.Mem.tail _ (List.Mem.tail _ (List.Mem.head _))))), (List.forall_mem_cons.mpr ⟨(List.Mem.tail _ (List.Mem.tail _ (List.Mem.tail _ (List.Mem.tail _ (List.Mem.tail _ (List.Mem.head _)))))), (List.forall_mem_cons.mpr ⟨(List.Mem.head _), (fun q h => absurd h List.not_mem_nil)⟩)⟩)⟩)⟩)⟩) ?_
              exact ih _ xv dp (c + 1) I F (by first | exact ⟨And.intro (hi.1.1) (hi.1.2), And.intro (hi.2.1.1) (hi.2.1.2), oq_54f49eb5 hi.2.2.1, oq_228270fa g1002 b1001.2⟩ | omega) (by first | exact qk_me hm (by decide) (oq_b0a4f3e2 g1002 b1001.2) | omega) kx
            ·
              refine z_aload_n X (x := A 19) (show cdA 84 101 = some (.aload_n 0, 1, 0, 0, 0) from rfl) (List.Mem.tail _ (List.Mem.head _)) ?_
              refine s_getR X 19 (show cdA 84 102 = some (.getfield 28, 3, 7, 13, 0) from rfl) (by decide) rfl rfl ?_
              refine z_load_n X (x := dp) (show cdA 84 105 = some (.iload_n 3, 1, 0, 0, 0) from rfl) (List.Mem.tail _ (List.Mem.tail _ (List.Mem.tail _ (List.Mem.tail _ (List.Mem.head _))))) ?_
              refine z_const X (show cdA 84 106 = some (.iconst 1, 1, 0, 0, 0) from rfl) ?_
              refine z_sub X (show cdA 84 107 = some (.isub, 1, 0, 0, 0) from rfl) ?_
              refine z_const X (show cdA 84 108 = some (.iconst 1, 1, 0, 0, 0) from rfl) ?_
              refine z_aload_n X (x := A 19) (show cdA 84 109 = some (.aload_n 0, 1, 0, 0, 0) from rfl) (List.Mem.tail _ (List.Mem.head _)) ?_
              refine s_getR X 19 (show cdA 84 110 = some (.getfield 28, 3, 7, 13, 0) from rfl) (by decide) rfl rfl ?_
              refine z_load_n X (x := dp) (show cdA 84 113 = some (.iload_n 3, 1, 0, 0, 0) from rfl) (List.Mem.tail _ (List.Mem.tail _ (List.Mem.tail _ (List.Mem.tail _ (List.Mem.head _))))) ?_
              refine z_const X (show cdA 84 114 = some (.iconst 1, 1, 0, 0, 0) from rfl) ?_
              refine z_sub X (show cdA 84 115 = some (.isub, 1, 0, 0, 0) from rfl) ?_
              refine z_ald X 24 (show cdA 84 116 = some (.iaload, 1, 0, 0, 0) from rfl) (by decide) rfl (by first | exact oq_a4f22177 g1012 | omega) (show (dp - 1) < 200 by first | exact oq_76ad2bb2 hi.2.1.2 | omega) (by decide) ?_
              have b1013 : ((-2147483648) : Int) ≤ iC t 20 ((dp - 1)).toNat ∧ iC t 20 ((dp - 1)).toNat ≤ 2147483647 := I.2 20 _ (show ((dp - 1)).toNat < 200 by first | exact oq_a03494ec hi.2.1.2 | omega)
              refine z_sub X (show cdA 84 117 = some (.isub, 1, 0, 0, 0) from rfl) ?_
              refine z_any (fun y1014 hy1014 => ?_)
              refine z_ast X 24 (show cdA 84 118 = some (.iastore, 1, 0, 0, 0) from rfl) (by decide) rfl (by first | exact oq_a4f22177 g1012 | omega) (show (dp - 1) < 200 by first | exact oq_76ad2bb2 hi.2.1.2 | omega) (by decide) ?_
              obtain ⟨s1015, hs1015⟩ : ∃ x0, x0 = uC t 20 ((dp - 1)).toNat (Int32.ofInt y1014) := ⟨_, rfl⟩
              rw [← hs1015]
              have Is1015 : Bd s1015 := by rw [hs1015]; exact bd_C I (show ((-2147483648) : Int) ≤ y1014 ∧ y1014 ≤ 2147483647 by first | exact ⟨hy1014.1, hy1014.2⟩ | omega) hy1014
              have Fs1015 := fm_C (i := ((dp - 1)).toNat) (x := Int32.ofInt y1014) F (show 20 ∈ _ by decide)
              rw [← hs1015] at Fs1015
              refine z_goto X (t := 157) (show cdA 84 119 = some (.goto 38, 3, 0, 0, 0) from rfl) (by decide) ?_
              refine z_inc X (x := c) (lv' := [(4, .int (Int32.ofInt (c + 1))), (5, .int (Int32.ofInt (iC t 16 (c).toNat))), (0, .ref (A 19)), (2, .ref (A 111)), (1, .int (Int32.ofInt xv)), (3, .int (Int32.ofInt dp))]) (show cdA 84 157 = some (.iinc 4 1, 3, 0, 0, 0) from rfl) (by decide) (List.Mem.tail _ (List.Mem.tail _ (List.Mem.tail _ (List.Mem.tail _ (List.Mem.tail _ (List.Mem.head _)))))) (fun _ h => h) ?_
              refine z_goto X (t := 28) (show cdA 84 160 = some (.goto (-132), 3, 0, 0, 0) from rfl) (by decide) ?_
              refine WS_lv (lv := [(0, .ref (A 19)), (2, .ref (A 111)), (1, .int (Int32.ofInt xv)), (3, .int (Int32.ofInt dp)), (4, .int (Int32.ofInt (c + 1)))]) (List.forall_mem_cons.mpr ⟨(List.Mem.tail _ (List.Mem.tail _ (List.Mem.head _))), (List.forall_mem_cons.mpr ⟨(List.Mem.tail _ (List.Mem.tail _ (List.Mem.tail _ (List.Mem.head _)))), (List.forall_mem_cons.mpr ⟨(List.Mem.tail _ (List.Mem.tail _ (List.Mem.tail _ (List.Mem.tail _ (List.Mem.head _))))), (List.forall_mem_cons.mpr ⟨(List.Mem.tail _ (List.Mem.tail _ (List.Mem.tail _ (List.Mem.tail _ (List.Mem.tail _ (List.Mem.head _)))))), (List.forall_mem_cons.mpr ⟨(List.Mem.head _), (fun q h => absurd h List.not_mem_nil)⟩)⟩)⟩)⟩)⟩) ?_
              exact ih _ xv dp (c + 1) Is1015 Fs1015 (by first | exact ⟨And.intro (hi.1.1) (hi.1.2), And.intro (hi.2.1.1) (hi.2.1.2), oq_54f49eb5 hi.2.2.1, oq_228270fa g1002 b1001.2⟩ | omega) (by first | exact qk_me hm (by decide) (oq_b0a4f3e2 g1002 b1001.2) | omega) kx
        ·
          refine z_load_n X (x := dp) (show cdA 84 55 = some (.iload_n 3, 1, 0, 0, 0) from rfl) (List.Mem.tail _ (List.Mem.tail _ (List.Mem.tail _ (List.Mem.tail _ (List.Mem.head _))))) ?_
          refine z_sipush X (show cdA 84 56 = some (.sipush 200, 3, 0, 0, 200) from rfl) ?_
          refine z_icmp_ge X (t := 157) (show cdA 84 59 = some (.if_icmp .ge 98, 3, 3, 0, 0) from rfl) (by decide) ⟨by first | exact oq_fa4e5087 hi.2.1.1 | omega, by first | exact oq_52af2b96 hi.2.1.2 | omega⟩ (by decide) (fun g1016 => ?_) (fun g1016 => ?_)
          ·
            refine z_inc X (x := c) (lv' := [(4, .int (Int32.ofInt (c + 1))), (5, .int (Int32.ofInt (iC t 16 (c).toNat))), (0, .ref (A 19)), (2, .ref (A 111)), (1, .int (Int32.ofInt xv)), (3, .int (Int32.ofInt dp))]) (show cdA 84 157 = some (.iinc 4 1, 3, 0, 0, 0) from rfl) (by decide) (List.Mem.tail _ (List.Mem.tail _ (List.Mem.tail _ (List.Mem.tail _ (List.Mem.tail _ (List.Mem.head _)))))) (fun _ h => h) ?_
            refine z_goto X (t := 28) (show cdA 84 160 = some (.goto (-132), 3, 0, 0, 0) from rfl) (by decide) ?_
            refine WS_lv (lv := [(0, .ref (A 19)), (2, .ref (A 111)), (1, .int (Int32.ofInt xv)), (3, .int (Int32.ofInt dp)), (4, .int (Int32.ofInt (c + 1)))]) (List.forall_mem_cons.mpr ⟨(List.Mem.tail _ (List.Mem.tail _ (List.Mem.head _))), (List.forall_mem_cons.mpr ⟨(List.Mem.tail _ (List.Mem.tail _ (List.Mem.tail _ (List.Mem.head _)))), (List.forall_mem_cons.mpr ⟨(List.Mem.tail _ (List.Mem.tail _ (List.Mem.tail _ (List.Mem.tail _ (List.Mem.head _))))), (List.forall_mem_cons.mpr ⟨(List.Mem.tail _ (List.Mem.tail _ (List.Mem.tail _ (List.Mem.tail _ (List.Mem.tail _ (List.Mem.head _)))))), (List.forall_mem_cons.mpr ⟨(List.Mem.head _), (fun q h => absurd h List.not_mem_nil)⟩)⟩)⟩)⟩)⟩) ?_
            exact ih _ xv dp (c + 1) I F (by first | exact ⟨And.intro (hi.1.1) (hi.1.2), And.intro (hi.2.1.1) (hi.2.1.2), oq_54f49eb5 hi.2.2.1, oq_228270fa g1002 b1001.2⟩ | omega) (by first | exact qk_me hm (by decide) (oq_b0a4f3e2 g1002 b1001.2) | omega) kx
          ·
            refine z_aload_n X (x := A 19) (show cdA 84 62 = some (.aload_n 0, 1, 0, 0, 0) from rfl) (List.Mem.tail _ (List.Mem.head _)) ?_
            refine s_getR X 19 (show cdA 84 63 = some (.getfield 28, 3, 7, 13, 0) from rfl) (by decide) rfl rfl ?_
            refine z_load_n X (x := dp) (show cdA 84 66 = some (.iload_n 3, 1, 0, 0, 0) from rfl) (List.Mem.tail _ (List.Mem.tail _ (List.Mem.tail _ (List.Mem.tail _ (List.Mem.head _))))) ?_
            refine z_load X (x := (iC t 16 (c).toNat)) (show cdA 84 67 = some (.iload 5, 2, 0, 0, 0) from rfl) (List.Mem.head _) ?_
            have N1017 : ∀ e1018 : Int, ((((iC t 16 (c).toNat) < 0) ∧ (((-2147483648) : Int) ≤ iC t 96 (((-1) - (iC t 16 (c).toNat))).toNat ∧ iC t 96 (((-1) - (iC t 16 (c).toNat))).toNat ≤ 2147483647) ∧ e1018 = (iC t 96 (((-1) - (iC t 16 (c).toNat))).toNat)) ∨ ((0 ≤ (iC t 16 (c).toNat)) ∧ e1018 = (iC t 16 (c).toNat))) → WS k 83 [(5, .int (Int32.ofInt (iC t 16 (c).toNat))), (0, .ref (A 19)), (2, .ref (A 111)), (1, .int (Int32.ofInt xv)), (3, .int (Int32.ofInt dp)), (4, .int (Int32.ofInt c))] [.int (Int32.ofInt e1018), .int (Int32.ofInt dp), .ref (A 24)] (Wd A dT t) 0 0 := by
              intro e1018 he1018
              refine z_ast X 24 (show cdA 84 83 = some (.iastore, 1, 0, 0, 0) from rfl) (by decide) rfl (by first | exact hi.2.1.1 | omega) (show dp < 200 by first | exact g1016 | omega) (by decide) ?_
              obtain ⟨s1019, hs1019⟩ : ∃ x0, x0 = uC t 20 (dp).toNat (Int32.ofInt e1018) := ⟨_, rfl⟩
              rw [← hs1019]
              have Is1019 : Bd s1019 := by rw [hs1019]; exact bd_C I (show ((-2147483648) : Int) ≤ e1018 ∧ e1018 ≤ 2147483647 by first | exact ⟨oq_05aece2f he1018, oq_93cedf2b he1018 b1003.2⟩ | omega) ⟨by first | exact oq_05aece2f he1018 | omega, by first | exact oq_93cedf2b he1018 b1003.2 | omega⟩
              have Fs1019 := fm_C (i := (dp).toNat) (x := Int32.ofInt e1018) F (show 20 ∈ _ by decide)
              rw [← hs1019] at Fs1019
              refine z_inc X (x := dp) (lv' := [(3, .int (Int32.ofInt (dp + 1))), (5, .int (Int32.ofInt (iC t 16 (c).toNat))), (0, .ref (A 19)), (2, .ref (A 111)), (1, .int (Int32.ofInt xv)), (4, .int (Int32.ofInt c))]) (show cdA 84 84 = some (.iinc 3 1, 3, 0, 0, 0) from rfl) (by decide) (List.Mem.tail _ (List.Mem.tail _ (List.Mem.tail _ (List.Mem.tail _ (List.Mem.head _))))) (fun _ h => h) ?_
              refine z_goto X (t := 157) (show cdA 84 87 = some (.goto 70, 3, 0, 0, 0) from rfl) (by decide) ?_
              refine z_inc X (x := c) (lv' := [(4, .int (Int32.ofInt (c + 1))), (3, .int (Int32.ofInt (dp + 1))), (5, .int (Int32.ofInt (iC t 16 (c).toNat))), (0, .ref (A 19)), (2, .ref (A 111)), (1, .int (Int32.ofInt xv))]) (show cdA 84 157 = some (.iinc 4 1, 3, 0, 0, 0) from rfl) (by decide) (List.Mem.tail _ (List.Mem.tail _ (List.Mem.tail _ (List.Mem.tail _ (List.Mem.tail _ (List.Mem.head _)))))) (fun _ h => h) ?_
              refine z_goto X (t := 28) (show cdA 84 160 = some (.goto (-132), 3, 0, 0, 0) from rfl) (by decide) ?_
              refine WS_lv (lv := [(0, .ref (A 19)), (2, .ref (A 111)), (1, .int (Int32.ofInt xv)), (3, .int (Int32.ofInt (dp + 1))), (4, .int (Int32.ofInt (c + 1)))]) (List.forall_mem_cons.mpr ⟨(List.Mem.tail _ (List.Mem.tail _ (List.Mem.tail _ (List.Mem.head _)))), (List.forall_mem_cons.mpr ⟨(List.Mem.tail _ (List.Mem.tail _ (List.Mem.tail _ (List.Mem.tail _ (List.Mem.head _))))), (List.forall_mem_cons.mpr ⟨(List.Mem.tail _ (List.Mem.tail _ (List.Mem.tail _ (List.Mem.tail _ (List.Mem.tail _ (List.Mem.head _)))))), (List.forall_mem_cons.mpr ⟨(List.Mem.tail _ (List.Mem.head _)), (List.forall_mem_cons.mpr ⟨(List.Mem.head _), (fun q h => absurd h List.not_mem_nil)⟩)⟩)⟩)⟩)⟩) ?_
              exact ih _ xv (dp + 1) (c + 1) Is1019 Fs1019 (by first | exact ⟨And.intro (hi.1.1) (hi.1.2), And.intro (oq_54f49eb5 hi.2.1.1) (oq_0cb6ab8a g1016), oq_54f49eb5 hi.2.2.1, oq_228270fa g1002 b1001.2⟩ | omega) (by first | exact qk_me hm (by decide) (oq_b0a4f3e2 g1002 b1001.2) | omega) kx
            refine z_if_lt X (t := 77) (show cdA 84 69 = some (.ifCond .lt 8, 3, 2, 0, 0) from rfl) (by decide) (rng_to _) (fun g1020 => ?_) (fun g1020 => ?_)
            ·
              refine z_aload_n X (x := A 111) (show cdA 84 77 = some (.aload_n 2, 1, 0, 0, 0) from rfl) (List.Mem.tail _ (List.Mem.tail _ (List.Mem.head _))) ?_
              refine z_const X (show cdA 84 78 = some (.iconst (-1), 1, 0, 0, 0) from rfl) ?_
              refine z_load X (x := (iC t 16 (c).toNat)) (show cdA 84 79 = some (.iload 5, 2, 0, 0, 0) from rfl) (List.Mem.head _) ?_
              refine z_sub X (show cdA 84 81 = some (.isub, 1, 0, 0, 0) from rfl) ?_
              refine z_ald X 111 (show cdA 84 82 = some (.iaload, 1, 0, 0, 0) from rfl) (by decide) rfl (by first | exact oq_c38d07c4 g1020 | omega) (show ((-1) - (iC t 16 (c).toNat)) < 7 by first | exact oq_a1f4cde5 g1004 | omega) (by decide) ?_
              have b1021 : ((-2147483648) : Int) ≤ iC t 96 (((-1) - (iC t 16 (c).toNat))).toNat ∧ iC t 96 (((-1) - (iC t 16 (c).toNat))).toNat ≤ 2147483647 := I.2 96 _ (show (((-1) - (iC t 16 (c).toNat))).toNat < 7 by first | exact oq_91b916ba g1004 | omega)
              exact N1017 _ (Or.inl ⟨g1020, b1021, rfl⟩)
            ·
              refine z_load X (x := (iC t 16 (c).toNat)) (show cdA 84 72 = some (.iload 5, 2, 0, 0, 0) from rfl) (List.Mem.head _) ?_
              refine z_goto X (t := 83) (show cdA 84 74 = some (.goto 9, 3, 0, 0, 0) from rfl) (by decide) ?_
              exact N1017 _ (Or.inr (⟨g1020, rfl⟩))
  refine z_load_n X (x := x) (show cdA 84 0 = some (.iload_n 1, 1, 0, 0, 0) from rfl) (List.Mem.tail _ (List.Mem.head _)) ?_
  refine z_const X (show cdA 84 1 = some (.iconst (-1), 1, 0, 0, 0) from rfl) ?_
  refine z_icmp_ne X (t := 19) (show cdA 84 2 = some (.if_icmp .ne 17, 3, 1, 0, 0) from rfl) (by decide) ⟨by first | exact oq_97ee2c2a p0.1 | omega, by first | exact oq_0e78ca7d p0.2 | omega⟩ (by decide) (fun g1 => ?_) (fun g1 => ?_)
  ·
    refine z_const X (show cdA 84 19 = some (.iconst 0, 1, 0, 0, 0) from rfl) ?_
    refine z_store_n X (lv' := [(3, .int (Int32.ofInt 0)), (0, .ref (A 19)), (1, .int (Int32.ofInt x)), (2, .ref (A 111))]) (show cdA 84 20 = some (.istore_n 3, 1, 0, 0, 0) from rfl) (by decide) (fun _ h => h) ?_
    refine z_aload_n X (x := A 19) (show cdA 84 21 = some (.aload_n 0, 1, 0, 0, 0) from rfl) (List.Mem.tail _ (List.Mem.head _)) ?_
    refine z_load_n X (x := x) (show cdA 84 22 = some (.iload_n 1, 1, 0, 0, 0) from rfl) (List.Mem.tail _ (List.Mem.tail _ (List.Mem.head _))) ?_
    refine z_callV X 19 (rm := rmN 70) (As := [.int (Int32.ofInt x)]) (st := []) (show cdA 84 23 = some (.invokevirtual 70, 3, 70, 0, 0) from rfl) rfl (by decide) rfl (by rw [E.1, E.2.1, E.2.2.1]; exact c7_beginOf_19 G I (by first | exact ⟨oq_7a1025bf g1 p0.1, p0.2⟩ | omega)) ⟨by rw [E.2.2.2]; exact (show (rmN 70).frames + 1 ≤ (rmN 84).frames by decide), by rw [E.2.2.2]; exact (show 8 + (mNL (miB 70) + 11) + (rmN 70).locals ≤ (rmN 84).locals by decide), by rw [E.2.2.2]; exact (show 0 + (rmN 70).cells ≤ (rmN 84).cells by decide), by rw [E.2.2.2]; exact (show 0 + (rmN 70).slots ≤ (rmN 84).slots by decide)⟩ (Nat.le_of_ble_eq_true rfl) (fun vv s2 hq => ?_) (fun ee s2 hq => ?_)
    rotate_left
    · obtain ⟨Is2, Fs2, e3, hv, hrs2, hps2⟩ := hq; cases hv
    obtain ⟨Is2, Fs2, e3, hv, hrs2, hps2⟩ := hq
    cases hv
    have Gs2 := fm_ts F Fs2 (by decide) (by decide)
    show WS k 26 [(3, .int (Int32.ofInt 0)), (0, .ref (A 19)), (1, .int (Int32.ofInt x)), (2, .ref (A 111))] [.int (Int32.ofInt e3)] (Wd A dT s2) 0 0
    refine z_store X (lv' := [(4, .int (Int32.ofInt e3)), (3, .int (Int32.ofInt 0)), (0, .ref (A 19)), (1, .int (Int32.ofInt x)), (2, .ref (A 111))]) (show cdA 84 26 = some (.istore 4, 2, 0, 0, 0) from rfl) (by decide) (fun _ h => h) ?_
    refine WS_lv (lv := [(0, .ref (A 19)), (2, .ref (A 111)), (1, .int (Int32.ofInt x)), (3, .int (Int32.ofInt 0)), (4, .int (Int32.ofInt e3))]) (List.forall_mem_cons.mpr ⟨(List.Mem.tail _ (List.Mem.tail _ (List.Mem.head _))), (List.forall_mem_cons.mpr ⟨(List.Mem.tail _ (List.Mem.tail _ (List.Mem.tail _ (List.Mem.tail _ (List.Mem.head _))))), (List.forall_mem_cons.mpr ⟨(List.Mem.tail _ (List.Mem.tail _ (List.Mem.tail _ (List.Mem.head _)))), (List.forall_mem_cons.mpr ⟨(List.Mem.tail _ (List.Mem.head _)), (List.forall_mem_cons.mpr ⟨(List.Mem.head _), (fun q h => absurd h List.not_mem_nil)⟩)⟩)⟩)⟩)⟩) ?_
    refine L28 ((200 - e3 : Int).toNat + 1) s2 x 0 e3 Is2 Gs2 (by first | exact ⟨oq_b629d6d6 g1 p0.2 p0.1, And.intro (by decide) (by decide), hps2.1, hps2.2⟩ | omega) (Nat.lt_succ_self _) ?_
    intro s4 x5 x6 Is4 Fs4 hs4
    refine z_aload_n X (x := A 19) (show cdA 84 163 = some (.aload_n 0, 1, 0, 0, 0) from rfl) (List.Mem.head _) ?_
    refine s_getR X 19 (show cdA 84 164 = some (.getfield 28, 3, 7, 13, 0) from rfl) (by decide) rfl rfl ?_
    refine z_const X (show cdA 84 167 = some (.iconst 0, 1, 0, 0, 0) from rfl) ?_
    refine z_ald X 24 (show cdA 84 168 = some (.iaload, 1, 0, 0, 0) from rfl) (by decide) rfl (by decide) (show 0 < 200 by decide) (by decide) ?_
    have b7 : ((-2147483648) : Int) ≤ iC s4 20 (0 : Int).toNat ∧ iC s4 20 (0 : Int).toNat ≤ 2147483647 := Is4.2 20 _ (show (0 : Int).toNat < 200 by first | exact oq_e7d7c2b9 | omega)
    exact w_iret X.1 q hRt rfl (ax_d X (show cdA 84 169 = some (.ireturn, 1, 0, 0, 0) from rfl)) (Nat.zero_le _) (Nat.zero_le _) ⟨_, rfl, Is4, Fs4, (iC s4 20 (0 : Int).toNat), rfl, (rng_to _), trivial⟩
  ·
    refine z_aload_n X (x := A 111) (show cdA 84 5 = some (.aload_n 2, 1, 0, 0, 0) from rfl) (List.Mem.tail _ (List.Mem.tail _ (List.Mem.head _))) ?_
    refine z_const X (show cdA 84 6 = some (.iconst 0, 1, 0, 0, 0) from rfl) ?_
    refine z_ald X 111 (show cdA 84 7 = some (.iaload, 1, 0, 0, 0) from rfl) (by decide) rfl (by decide) (show 0 < 7 by decide) (by decide) ?_
    have b8 : ((-2147483648) : Int) ≤ iC s 96 (0 : Int).toNat ∧ iC s 96 (0 : Int).toNat ≤ 2147483647 := I.2 96 _ (show (0 : Int).toNat < 7 by first | exact oq_e8ec3fa8 | omega)
    refine z_const X (show cdA 84 8 = some (.iconst 2, 1, 0, 0, 0) from rfl) ?_
    refine z_aload_n X (x := A 111) (show cdA 84 9 = some (.aload_n 2, 1, 0, 0, 0) from rfl) (List.Mem.tail _ (List.Mem.tail _ (List.Mem.head _))) ?_
    refine z_const X (show cdA 84 10 = some (.iconst 1, 1, 0, 0, 0) from rfl) ?_
    refine z_ald X 111 (show cdA 84 11 = some (.iaload, 1, 0, 0, 0) from rfl) (by decide) rfl (by decide) (show 1 < 7 by decide) (by decide) ?_
    have b9 : ((-2147483648) : Int) ≤ iC s 96 (1 : Int).toNat ∧ iC s 96 (1 : Int).toNat ≤ 2147483647 := I.2 96 _ (show (1 : Int).toNat < 7 by first | exact oq_a32b659c | omega)
    refine z_mul X (show cdA 84 12 = some (.imul, 1, 0, 0, 0) from rfl) ?_
    refine z_any (fun y10 hy10 => ?_)
    refine z_add X (show cdA 84 13 = some (.iadd, 1, 0, 0, 0) from rfl) ?_
    refine z_any (fun y11 hy11 => ?_)
    refine z_aload_n X (x := A 111) (show cdA 84 14 = some (.aload_n 2, 1, 0, 0, 0) from rfl) (List.Mem.tail _ (List.Mem.tail _ (List.Mem.head _))) ?_
    refine z_const X (show cdA 84 15 = some (.iconst 2, 1, 0, 0, 0) from rfl) ?_
    refine z_ald X 111 (show cdA 84 16 = some (.iaload, 1, 0, 0, 0) from rfl) (by decide) rfl (by decide) (show 2 < 7 by decide) (by decide) ?_
    have b12 : ((-2147483648) : Int) ≤ iC s 96 (2 : Int).toNat ∧ iC s 96 (2 : Int).toNat ≤ 2147483647 := I.2 96 _ (show (2 : Int).toNat < 7 by first | exact oq_62527c24 | omega)
    refine z_add X (show cdA 84 17 = some (.iadd, 1, 0, 0, 0) from rfl) ?_
    refine z_any (fun y13 hy13 => ?_)
    exact w_iret X.1 q hRt rfl (ax_d X (show cdA 84 18 = some (.ireturn, 1, 0, 0, 0) from rfl)) (Nat.zero_le _) (Nat.zero_le _) ⟨_, rfl, I, F, y13, rfl, hy13, trivial⟩
set_option maxRecDepth 4000 in
theorem c0_loadAt_103 (G : GX l s0 D tys a0 dT) (I : Bd s) {x y : Int} (p0 : 0 ≤ x ∧ x ≤ 23) (p1 : rng y) : CT l s0 D A dT 4 (rmN 4) [.ref (A 103), .int (Int32.ofInt x), .int (Int32.ofInt y)] s (fun o t => Bd t ∧ Fm [] [96, 20] s t ∧ ∃ e, o = .inl (some (.int (Int32.ofInt e))) ∧ rng e ∧ (True)) := by
  refine ct_ofX G (by decide) (Nat.le_of_ble_eq_true rfl) (fun k X E ET hRt hXt q => ?_)
  show WS k 0 [(0, .ref (A 103)), (1, .int (Int32.ofInt x)), (2, .int (Int32.ofInt y))] [] _ 0 0
  have F : Fm [] [96, 20] s s := fm_rf _ _ s
  refine z_aload_n X (x := A 103) (show cdA 4 0 = some (.aload_n 0, 1, 0, 0, 0) from rfl) (List.Mem.head _) ?_
  refine z_load_n X (x := x) (show cdA 4 1 = some (.iload_n 1, 1, 0, 0, 0) from rfl) (List.Mem.tail _ (List.Mem.head _)) ?_
  refine z_load_n X (x := y) (show cdA 4 2 = some (.iload_n 2, 1, 0, 0, 0) from rfl) (List.Mem.tail _ (List.Mem.tail _ (List.Mem.head _))) ?_
  refine z_callV X 103 (rm := rmN 3) (As := [.int (Int32.ofInt x), .int (Int32.ofInt y)]) (st := []) (show cdA 4 3 = some (.invokevirtual 96, 3, 3, 0, 0) from rfl) rfl (by decide) rfl (by rw [E.1, E.2.1, E.2.2.1]; exact c0_hear_103 G I (by first | exact ⟨p0.1, p0.2⟩ | omega) (by first | exact ⟨p1.1, p1.2⟩ | omega)) ⟨by rw [E.2.2.2]; exact (show (rmN 3).frames + 1 ≤ (rmN 4).frames by decide), by rw [E.2.2.2]; exact (show 8 + (mNL (miB 3) + 11) + (rmN 3).locals ≤ (rmN 4).locals by decide), by rw [E.2.2.2]; exact (show 0 + (rmN 3).cells ≤ (rmN 4).cells by decide), by rw [E.2.2.2]; exact (show 0 + (rmN 3).slots ≤ (rmN 4).slots by decide)⟩ (Nat.le_of_ble_eq_true rfl) (fun vv s1 hq => ?_) (fun ee s1 hq => ?_)
  rotate_left
  · obtain ⟨Is1, Fs1, hv, hps1⟩ := hq; cases hv
  obtain ⟨Is1, Fs1, hv, hps1⟩ := hq
  cases hv
  have Gs1 := fm_ts F Fs1 (by decide) (by decide)
  show WS k 6 [(0, .ref (A 103)), (1, .int (Int32.ofInt x)), (2, .int (Int32.ofInt y))] [] (Wd A dT s1) 0 0
  refine z_aload_n X (x := A 103) (show cdA 4 6 = some (.aload_n 0, 1, 0, 0, 0) from rfl) (List.Mem.head _) ?_
  refine s_getR X 103 (show cdA 4 7 = some (.getfield 47, 3, 0, 1, 0) from rfl) (by decide) rfl rfl ?_
  refine z_aload_n X (x := A 103) (show cdA 4 10 = some (.aload_n 0, 1, 0, 0, 0) from rfl) (List.Mem.head _) ?_
  refine s_getR X 103 (show cdA 4 11 = some (.getfield 47, 3, 0, 1, 0) from rfl) (by decide) rfl rfl ?_
  refine z_getI X 19 (show cdA 4 14 = some (.getfield 100, 3, 7, 4, 0) from rfl) (by decide) rfl rfl ?_
  have b3 : ((-1) : Int) ≤ iI s1 13 ∧ iI s1 13 ≤ 7 := Is1.1 13
  refine z_aload_n X (x := A 103) (show cdA 4 17 = some (.aload_n 0, 1, 0, 0, 0) from rfl) (List.Mem.head _) ?_
  refine s_getR X 103 (show cdA 4 18 = some (.getfield 37, 3, 0, 11, 0) from rfl) (by decide) rfl rfl ?_
  refine z_callV X 19 (rm := rmN 84) (As := [.int (Int32.ofInt (iI s1 13)), .ref (A 111)]) (st := []) (show cdA 4 21 = some (.invokevirtual 103, 3, 84, 0, 0) from rfl) rfl (by decide) rfl (by rw [E.1, E.2.1, E.2.2.1]; exact c7_work_103 G Is1 (by first | exact ⟨b3.1, b3.2⟩ | omega)) ⟨by rw [E.2.2.2]; exact (show (rmN 84).frames + 1 ≤ (rmN 4).frames by decide), by rw [E.2.2.2]; exact (show 8 + (mNL (miB 84) + 11) + (rmN 84).locals ≤ (rmN 4).locals by decide), by rw [E.2.2.2]; exact (show 0 + (rmN 84).cells ≤ (rmN 4).cells by decide), by rw [E.2.2.2]; exact (show 0 + (rmN 84).slots ≤ (rmN 4).slots by decide)⟩ (Nat.le_of_ble_eq_true rfl) (fun vv s4 hq => ?_) (fun ee s4 hq => ?_)
  rotate_left
  · obtain ⟨Is4, Fs4, e5, hv, hrs4, hps4⟩ := hq; cases hv
  obtain ⟨Is4, Fs4, e5, hv, hrs4, hps4⟩ := hq
  cases hv
  have Gs4 := fm_ts Gs1 Fs4 (by decide) (by decide)
  show WS k 24 [(0, .ref (A 103)), (1, .int (Int32.ofInt x)), (2, .int (Int32.ofInt y))] [.int (Int32.ofInt e5)] (Wd A dT s4) 0 0
  exact w_iret X.1 q hRt rfl (ax_d X (show cdA 4 24 = some (.ireturn, 1, 0, 0, 0) from rfl)) (Nat.zero_le _) (Nat.zero_le _) ⟨_, rfl, Is4, Gs4, e5, rfl, hrs4, trivial⟩
set_option maxRecDepth 4000 in
theorem c0_followSteps_113 (G : GX l s0 D tys a0 dT) (I : Bd s) {x : Int} {aj bj : Int64} (p0 : 0 ≤ x ∧ x ≤ 11) (p1 : iI s 52 ≤ 11) : CT l s0 D A dT 2 (rmN 2) [.ref (A 113), .int (Int32.ofInt x), .long aj, .long bj] s (fun o t => Bd t ∧ Fm [] [99, 100, 101] s t ∧ o = .inl none ∧ (True)) := by
  refine ct_ofX G (by decide) (Nat.le_of_ble_eq_true rfl) (fun k X E ET hRt hXt q => ?_)
  show WS k 0 [(0, .ref (A 113)), (1, .int (Int32.ofInt x)), (2, .long aj), (4, .long bj)] [] _ 0 0
  have F : Fm [] [99, 100, 101] s s := fm_rf _ _ s
  have b1 : (0 : Int) ≤ iI s 52 ∧ iI s 52 ≤ 12 := I.1 52
  have L12 : ∀ (n : Nat) (t : PS) (xv : Int) (av : Int64) (bv : Int64) (ov : Int) (wi : Int) (cl : Int) (kd : Int), Bd t → Fm [] [99, 100, 101] s t → ((0 ≤ xv ∧ xv ≤ 11) ∧ rng ov ∧ rng wi ∧ rng cl ∧ 0 ≤ kd ∧ kd ≤ 5 ∧ iI t 52 ≤ 11) → (5 - kd : Int).toNat < n → (∀ (t' : PS) (ov' : Int) (wi' : Int) (cl' : Int) (kd' : Int), Bd t' → Fm [] [99, 100, 101] s t' → ((0 ≤ xv ∧ xv ≤ 11) ∧ rng ov' ∧ rng wi' ∧ rng cl' ∧ 0 ≤ kd' ∧ kd' ≤ 5 ∧ iI t' 52 ≤ 11) → WS k 148 [(0, .ref (A 113)), (1, .int (Int32.ofInt xv)), (2, .long av), (4, .long bv), (6, .int (Int32.ofInt ov')), (7, .int (Int32.ofInt wi')), (8, .int (Int32.ofInt cl')), (9, .int (Int32.ofInt kd'))] [] (Wd A dT t') 0 0) → WS k 12 [(0, .ref (A 113)), (1, .int (Int32.ofInt xv)), (2, .long av), (4, .long bv), (6, .int (Int32.ofInt ov)), (7, .int (Int32.ofInt wi)), (8, .int (Int32.ofInt cl)), (9, .int (Int32.ofInt kd))] [] (Wd A dT t) 0 0 := by
    intro n
    induction n with
    | zero =>
      intro t xv av bv ov wi cl kd I F hi hm kx
      exact absurd hm (Nat.not_lt_zero _)
    | succ n ih =>
      intro t xv av bv ov wi cl kd I F hi hm kx
      have b1001 : (0 : Int) ≤ iI t 52 ∧ iI t 52 ≤ 12 := I.1 52
      refine z_load X (x := kd) (show cdA 2 12 = some (.iload 9, 2, 0, 0, 0) from rfl) (List.Mem.tail _ (List.Mem.tail _ (List.Mem.tail _ (List.Mem.tail _ (List.Mem.tail _ (List.Mem.tail _ (List.Mem.tail _ (List.Mem.head _)))))))) ?_
      refine z_const X (show cdA 2 14 = some (.iconst 5, 1, 0, 0, 0) from rfl) ?_
      refine z_icmp_ge X (t := 148) (show cdA 2 15 = some (.if_icmp .ge 133, 3, 3, 0, 0) from rfl) (by decide) ⟨by first | exact oq_fa4e5087 hi.2.2.2.2.1 | omega, by first | exact oq_a3dd55e5 hi.2.2.2.2.2.1 | omega⟩ (by decide) (fun g1002 => ?_) (fun g1002 => ?_)
      ·
        refine WS_lv (lv := [(0, .ref (A 113)), (1, .int (Int32.ofInt xv)), (2, .long av), (4, .long bv), (6, .int (Int32.ofInt ov)), (7, .int (Int32.ofInt wi)), (8, .int (Int32.ofInt cl)), (9, .int (Int32.ofInt kd))]) (List.forall_mem_cons.mpr ⟨(List.Mem.head _), (List.forall_mem_cons.mpr ⟨(List.Mem.tail _ (List.Mem.head _)), (List.forall_mem_cons.mpr ⟨(List.Mem.tail _ (List.Mem.tail _ (List.Mem.head _))), (List.forall_mem_cons.mpr ⟨(List.Mem.tail _ (List.Mem.tail _ (List.Mem.tail _ (List.Mem.head _)))), (List.forall_mem_cons.mpr ⟨(List.Mem.tail _ (List.Mem.tail _ (List.Mem.tail _ (List.Mem.tail _ (List.Mem.head _))))), (List.forall_mem_cons.mpr ⟨(List.Mem.tail _ (List.Mem.tail _ (List.Mem.tail _ (List.Mem.tail _ (List.Mem.tail _ (List.Mem.head _)))))), (List.forall_mem_cons.mpr ⟨(List.Mem.tail _ (List.Mem.tail _ (List.Mem.tail _ (List.Mem.tail _ (List.Mem.tail _ (List.Mem.tail _ (List.Mem.head _))))))), (List.forall_mem_cons.mpr ⟨(List.Mem.tail _ (List.Mem.tail _ (List.Mem.tail _ (List.Mem.tail _ (List.Mem.tail _ (List.Mem.tail _ (List.Mem.tail _ (List.Mem.head _)))))))), (fun q h => absurd h List.not_mem_nil)⟩)⟩)⟩)⟩)⟩)⟩)⟩)⟩) ?_
        exact kx _ ov wi cl kd I F (by first | exact ⟨And.intro (hi.1.1) (hi.1.2), And.intro (hi.2.1.1) (hi.2.1.2), And.intro (hi.2.2.1.1) (hi.2.2.1.2), And.intro (hi.2.2.2.1.1) (hi.2.2.2.1.2), hi.2.2.2.2.1, hi.2.2.2.2.2.1, hi.2.2.2.2.2.2⟩ | omega)
      ·
        refine z_aload_n X (x := A 113) (show cdA 2 18 = some (.aload_n 0, 1, 0, 0, 0) from rfl) (List.Mem.head _) ?_
        refine s_getR X 113 (show cdA 2 19 = some (.getfield 43, 3, 0, 0, 0) from rfl) (by decide) rfl rfl ?_
        refine s_getR X 68 (show cdA 2 22 = some (.getfield 84, 3, 9, 5, 0) from rfl) (by decide) rfl rfl ?_
        refine z_load_n X (x := xv) (show cdA 2 25 = some (.iload_n 1, 1, 0, 0, 0) from rfl) (List.Mem.tail _ (List.Mem.head _)) ?_
        refine z_const X (show cdA 2 26 = some (.iconst 5, 1, 0, 0, 0) from rfl) ?_
        refine z_mul X (show cdA 2 27 = some (.imul, 1, 0, 0, 0) from rfl) ?_
        refine z_load X (x := kd) (show cdA 2 28 = some (.iload 9, 2, 0, 0, 0) from rfl) (List.Mem.tail _ (List.Mem.tail _ (List.Mem.tail _ (List.Mem.tail _ (List.Mem.tail _ (List.Mem.tail _ (List.Mem.tail _ (List.Mem.head _)))))))) ?_
        refine z_add X (show cdA 2 30 = some (.iadd, 1, 0, 0, 0) from rfl) ?_
        refine z_lald X 73 (show cdA 2 31 = some (.laload, 1, 0, 0, 0) from rfl) (by decide) rfl (by first | exact oq_59a253bd hi.1.1 hi.2.2.2.2.1 | omega) (show ((xv * 5) + kd) < 60 by first | exact oq_7279bf48 hi.1.2 g1002 | omega) (by decide) (fun j1003 => ?_)
        refine w_lstore X.1 (lv' := [(10, .long j1003), (0, .ref (A 113)), (1, .int (Int32.ofInt xv)), (2, .long av), (4, .long bv), (6, .int (Int32.ofInt ov)), (7, .int (Int32.ofInt wi)), (8, .int (Int32.ofInt cl)), (9, .int (Int32.ofInt kd))]) (ax_d X (show cdA 2 32 = some (.lstore 10, 2, 0, 0, 0) from rfl)) (by rw [X.2.1.2.2]; decide) (fun _ h => h) ?_
        refine w_lload X.1 (ax_d X (show cdA 2 34 = some (.lload 10, 2, 0, 0, 0) from rfl)) (x := j1003) (List.Mem.head _) ?_
        refine w_lconst X.1 (ax_d X (show cdA 2 36 = some (.lconst 0, 1, 0, 0, 0) from rfl)) rfl ?_
        refine z_anyJ (fun j1004 => ?_)
        refine w_lcmp X.1 (ax_d X (show cdA 2 37 = some (.lcmp, 1, 0, 0, 0) from rfl)) ?_
        refine z_any (fun y1005 hy1005 => ?_)
        refine z_if_eq X (t := 142) (show cdA 2 38 = some (.ifCond .eq 104, 3, 0, 0, 0) from rfl) (by decide) hy1005 (fun g1006 => ?_) (fun g1006 => ?_)
        ·
          refine z_inc X (x := kd) (lv' := [(9, .int (Int32.ofInt (kd + 1))), (10, .long j1003), (0, .ref (A 113)), (1, .int (Int32.ofInt xv)), (2, .long av), (4, .long bv), (6, .int (Int32.ofInt ov)), (7, .int (Int32.ofInt wi)), (8, .int (Int32.ofInt cl))]) (show cdA 2 142 = some (.iinc 9 1, 3, 0, 0, 0) from rfl) (by decide) (List.Mem.tail _ (List.Mem.tail _ (List.Mem.tail _ (List.Mem.tail _ (List.Mem.tail _ (List.Mem.tail _ (List.Mem.tail _ (List.Mem.tail _ (List.Mem.head _))))))))) (fun _ h => h) ?_
          refine z_goto X (t := 12) (show cdA 2 145 = some (.goto (-133), 3, 0, 0, 0) from rfl) (by decide) ?_
          refine WS_lv (lv := [(0, .ref (A 113)), (1, .int (Int32.ofInt xv)), (2, .long av), (4, .long bv), (6, .int (Int32.ofInt ov)), (7, .int (Int32.ofInt wi)), (8, .int (Int32.ofInt cl)), (9, .int (Int32.ofInt (kd + 1)))]) (List.forall_mem_cons.mpr ⟨(List.Mem.tail _ (List.Mem.tail _ (List.Mem.head _))), (List.forall_mem_cons.mpr ⟨(List.Mem.tail _ (List.Mem.tail _ (List.Mem.tail _ (List.Mem.head _)))), (List.forall_mem_cons.mpr ⟨(List.Mem.tail _ (List.Mem.tail _ (List.Mem.tail _ (List.Mem.tail _ (List.Mem.head _))))), (List.forall_mem_cons.mpr ⟨(List.Mem.tail _ (List.Mem.tail _ (List.Mem.tail _ (List.Mem.tail _ (List.Mem.tail _ (List.Mem.head _)))))), (List.forall_mem_cons.mpr ⟨(List.Mem.tail _ (List.Mem.tail _ (List.Mem.tail _ (List.Mem.tail _ (List.Mem.tail _ (List.Mem.tail _ (List.Mem.head _))))))), (List.forall_mem_cons.mpr ⟨(List.Mem.tail _ (List.Mem.tail _ (List.Mem.tail _ (List.Mem.tail _ (List.Mem.tail _ (List.Mem.tail _ (List.Mem.tail _ (List.Mem.head _)))))))), (List.forall_mem_cons.mpr ⟨(List.Mem.tail _ (List.Mem.tail _ (List.Mem.tail _ (List.Mem.tail _ (List.Mem.tail _ (List.Mem.tail _ (List.Mem.tail _ (List.Mem.tail _ (List.Mem.head _))))))))), (List.forall_mem_cons.mpr ⟨(List.Mem.head _), (fun q h => absurd h List.not_mem_nil)⟩)⟩)⟩)⟩)⟩)⟩)⟩)⟩) ?_
          exact ih _ xv av bv ov wi cl (kd + 1) I F (by first | exact ⟨And.intro (hi.1.1) (hi.1.2), And.intro (hi.2.1.1) (hi.2.1.2), And.intro (hi.2.2.1.1) (hi.2.2.1.2), And.intro (hi.2.2.2.1.1) (hi.2.2.2.1.2), oq_54f49eb5 hi.2.2.2.2.1, oq_c2445583 g1002, hi.2.2.2.2.2.2⟩ | omega) (by first | exact qk_me hm (by decide) (oq_33241a94 g1002) | omega) kx
        ·
          refine z_load X (x := kd) (show cdA 2 41 = some (.iload 9, 2, 0, 0, 0) from rfl) (List.Mem.tail _ (List.Mem.tail _ (List.Mem.tail _ (List.Mem.tail _ (List.Mem.tail _ (List.Mem.tail _ (List.Mem.tail _ (List.Mem.tail _ (List.Mem.head _))))))))) ?_
          refine z_const X (show cdA 2 43 = some (.iconst 1, 1, 0, 0, 0) from rfl) ?_
          have N1007 : ∀ j1008 : Int64, WS k 59 [(10, .long j1003), (0, .ref (A 113)), (1, .int (Int32.ofInt xv)), (2, .long av), (4, .long bv), (6, .int (Int32.ofInt ov)), (7, .int (Int32.ofInt wi)), (8, .int (Int32.ofInt cl)), (9, .int (Int32.ofInt kd))] [.long j1008] (Wd A dT t) 0 0 := by
            intro j1008
            refine w_lstore X.1 (lv' := [(12, .long j1008), (10, .long j1003), (0, .ref (A 113)), (1, .int (Int32.ofInt xv)), (2, .long av), (4, .long bv), (6, .int (Int32.ofInt ov)), (7, .int (Int32.ofInt wi)), (8, .int (Int32.ofInt cl)), (9, .int (Int32.ofInt kd))]) (ax_d X (show cdA 2 59 = some (.lstore 12, 2, 0, 0, 0) from rfl)) (by rw [X.2.1.2.2]; decide) (fun _ h => h) ?_
            refine z_load X (x := kd) (show cdA 2 61 = some (.iload 9, 2, 0, 0, 0) from rfl) (List.Mem.tail _ (List.Mem.tail _ (List.Mem.tail _ (List.Mem.tail _ (List.Mem.tail _ (List.Mem.tail _ (List.Mem.tail _ (List.Mem.tail _ (List.Mem.tail _ (List.Mem.head _)))))))))) ?_
            refine z_const X (show cdA 2 63 = some (.iconst 4, 1, 0, 0, 0) from rfl) ?_
            have N1009 : ∀ j1010 : Int64, WS k 90 [(12, .long j1008), (10, .long j1003), (0, .ref (A 113)), (1, .int (Int32.ofInt xv)), (2, .long av), (4, .long bv), (6, .int (Int32.ofInt ov)), (7, .int (Int32.ofInt wi)), (8, .int (Int32.ofInt cl)), (9, .int (Int32.ofInt kd))] [.long j1010] (Wd A dT t) 0 0 := by
              intro j1010
              refine w_lstore X.1 (lv' := [(14, .long j1010), (12, .long j1008), (10, .long j1003), (0, .ref (A 113)), (1, .int (Int32.ofInt xv)), (2, .long av), (4, .long bv), (6, .int (Int32.ofInt ov)), (7, .int (Int32.ofInt wi)), (8, .int (Int32.ofInt cl)), (9, .int (Int32.ofInt kd))]) (ax_d X (show cdA 2 90 = some (.lstore 14, 2, 0, 0, 0) from rfl)) (by rw [X.2.1.2.2]; decide) (fun _ h => h) ?_
              refine w_lload X.1 (ax_d X (show cdA 2 92 = some (.lload 10, 2, 0, 0, 0) from rfl)) (x := j1003) (List.Mem.tail _ (List.Mem.tail _ (List.Mem.head _))) ?_
              refine w_lload X.1 (ax_d X (show cdA 2 94 = some (.lload 12, 2, 0, 0, 0) from rfl)) (x := j1008) (List.Mem.tail _ (List.Mem.head _)) ?_
              refine w_land X.1 (ax_d X (show cdA 2 96 = some (.land, 1, 0, 0, 0) from rfl)) ?_
              refine z_anyJ (fun j1011 => ?_)
              refine w_lload X.1 (ax_d X (show cdA 2 97 = some (.lload 14, 2, 0, 0, 0) from rfl)) (x := j1010) (List.Mem.head _) ?_
              refine w_land X.1 (ax_d X (show cdA 2 99 = some (.land, 1, 0, 0, 0) from rfl)) ?_
              refine z_anyJ (fun j1012 => ?_)
              refine z_callS X (rm := rmN 298) (As := [.long j1012]) (st := []) (show cdA 2 100 = some (.invokestatic 51, 3, 298, 1, 0) from rfl) rfl (by rw [E.1, E.2.1, E.2.2.1]; exact j_bitL G I ) ⟨by rw [E.2.2.2]; exact (show (rmN 298).frames + 1 ≤ (rmN 2).frames by decide), by rw [E.2.2.2]; exact (show 8 + (mNL (miB 298) + 11) + (rmN 298).locals ≤ (rmN 2).locals by decide), by rw [E.2.2.2]; exact (show 0 + (rmN 298).cells ≤ (rmN 2).cells by decide), by rw [E.2.2.2]; exact (show 0 + (rmN 298).slots ≤ (rmN 2).slots by decide)⟩ (Nat.le_of_ble_eq_true rfl) (fun vv s1013 hq => ?_) (fun ee s1013 hq => ?_)
              rotate_left
              · obtain ⟨Is1013, Fs1013, e1014, hv, hrs1013, hps1013⟩ := hq; cases hv
              obtain ⟨Is1013, Fs1013, e1014, hv, hrs1013, hps1013⟩ := hq
              cases hv
              have Gs1013 := fm_ts F Fs1013 (by decide) (by decide)
              have ws1013_52 : iI s1013 52 = iI t 52 := fm_i Fs1013 (by decide)
              show WS k 103 [(14, .long j1010), (12, .long j1008), (10, .long j1003), (0, .ref (A 113)), (1, .int (Int32.ofInt xv)), (2, .long av), (4, .long bv), (6, .int (Int32.ofInt ov)), (7, .int (Int32.ofInt wi)), (8, .int (Int32.ofInt cl)), (9, .int (Int32.ofInt kd))] [.int (Int32.ofInt e1014)] (Wd A dT s1013) 0 0
              refine z_store X (lv' := [(16, .int (Int32.ofInt e1014)), (14, .long j1010), (12, .long j1008), (10, .long j1003), (0, .ref (A 113)), (1, .int (Int32.ofInt xv)), (2, .long av), (4, .long bv), (6, .int (Int32.ofInt ov)), (7, .int (Int32.ofInt wi)), (8, .int (Int32.ofInt cl)), (9, .int (Int32.ofInt kd))]) (show cdA 2 103 = some (.istore 16, 2, 0, 0, 0) from rfl) (by decide) (fun _ h => h) ?_
              refine z_load X (x := ov) (show cdA 2 105 = some (.iload 6, 2, 0, 0, 0) from rfl) (List.Mem.tail _ (List.Mem.tail _ (List.Mem.tail _ (List.Mem.tail _ (List.Mem.tail _ (List.Mem.tail _ (List.Mem.tail _ (List.Mem.tail _ (List.Mem.head _))))))))) ?_
              refine w_lload X.1 (ax_d X (show cdA 2 107 = some (.lload 10, 2, 0, 0, 0) from rfl)) (x := j1003) (List.Mem.tail _ (List.Mem.tail _ (List.Mem.tail _ (List.Mem.head _)))) ?_
              refine w_lload X.1 (ax_d X (show cdA 2 109 = some (.lload 12, 2, 0, 0, 0) from rfl)) (x := j1008) (List.Mem.tail _ (List.Mem.tail _ (List.Mem.head _))) ?_
              refine w_lload X.1 (ax_d X (show cdA 2 111 = some (.lload 14, 2, 0, 0, 0) from rfl)) (x := j1010) (List.Mem.tail _ (List.Mem.head _)) ?_
              refine w_lxor X.1 (ax_d X (show cdA 2 113 = some (.lxor, 1, 0, 0, 0) from rfl)) ?_
              refine z_anyJ (fun j1015 => ?_)
              refine w_land X.1 (ax_d X (show cdA 2 114 = some (.land, 1, 0, 0, 0) from rfl)) ?_
              refine z_anyJ (fun j1016 => ?_)
              refine z_callS X (rm := rmN 298) (As := [.long j1016]) (st := [.int (Int32.ofInt ov)]) (show cdA 2 115 = some (.invokestatic 51, 3, 298, 1, 0) from rfl) rfl (by rw [E.1, E.2.1, E.2.2.1]; exact j_bitL G Is1013 ) ⟨by rw [E.2.2.2]; exact (show (rmN 298).frames + 1 ≤ (rmN 2).frames by decide), by rw [E.2.2.2]; exact (show 8 + (mNL (miB 298) + 11) + (rmN 298).locals ≤ (rmN 2).locals by decide), by rw [E.2.2.2]; exact (show 0 + (rmN 298).cells ≤ (rmN 2).cells by decide), by rw [E.2.2.2]; exact (show 0 + (rmN 298).slots ≤ (rmN 2).slots by decide)⟩ (Nat.le_of_ble_eq_true rfl) (fun vv s1017 hq => ?_) (fun ee s1017 hq => ?_)
              rotate_left
              · obtain ⟨Is1017, Fs1017, e1018, hv, hrs1017, hps1017⟩ := hq; cases hv
              obtain ⟨Is1017, Fs1017, e1018, hv, hrs1017, hps1017⟩ := hq
              cases hv
              have Gs1017 := fm_ts Gs1013 Fs1017 (by decide) (by decide)
              have ws1017_52 : iI s1017 52 = iI s1013 52 := fm_i Fs1017 (by decide)
              show WS k 118 [(16, .int (Int32.ofInt e1014)), (14, .long j1010), (12, .long j1008), (10, .long j1003), (0, .ref (A 113)), (1, .int (Int32.ofInt xv)), (2, .long av), (4, .long bv), (6, .int (Int32.ofInt ov)), (7, .int (Int32.ofInt wi)), (8, .int (Int32.ofInt cl)), (9, .int (Int32.ofInt kd))] [.int (Int32.ofInt e1018), .int (Int32.ofInt ov)] (Wd A dT s1017) 0 0
              refine z_add X (show cdA 2 118 = some (.iadd, 1, 0, 0, 0) from rfl) ?_
              refine z_any (fun y1019 hy1019 => ?_)
              refine z_store X (lv' := [(6, .int (Int32.ofInt y1019)), (16, .int (Int32.ofInt e1014)), (14, .long j1010), (12, .long j1008), (10, .long j1003), (0, .ref (A 113)), (1, .int (Int32.ofInt xv)), (2, .long av), (4, .long bv), (7, .int (Int32.ofInt wi)), (8, .int (Int32.ofInt cl)), (9, .int (Int32.ofInt kd))]) (show cdA 2 119 = some (.istore 6, 2, 0, 0, 0) from rfl) (by decide) (fun _ h => h) ?_
              refine z_load X (x := wi) (show cdA 2 121 = some (.iload 7, 2, 0, 0, 0) from rfl) (List.Mem.tail _ (List.Mem.tail _ (List.Mem.tail _ (List.Mem.tail _ (List.Mem.tail _ (List.Mem.tail _ (List.Mem.tail _ (List.Mem.tail _ (List.Mem.tail _ (List.Mem.head _)))))))))) ?_
              refine z_load X (x := e1014) (show cdA 2 123 = some (.iload 16, 2, 0, 0, 0) from rfl) (List.Mem.tail _ (List.Mem.head _)) ?_
              refine z_add X (show cdA 2 125 = some (.iadd, 1, 0, 0, 0) from rfl) ?_
              refine z_any (fun y1020 hy1020 => ?_)
              refine z_store X (lv' := [(7, .int (Int32.ofInt y1020)), (6, .int (Int32.ofInt y1019)), (16, .int (Int32.ofInt e1014)), (14, .long j1010), (12, .long j1008), (10, .long j1003), (0, .ref (A 113)), (1, .int (Int32.ofInt xv)), (2, .long av), (4, .long bv), (8, .int (Int32.ofInt cl)), (9, .int (Int32.ofInt kd))]) (show cdA 2 126 = some (.istore 7, 2, 0, 0, 0) from rfl) (by decide) (fun _ h => h) ?_
              refine z_load X (x := kd) (show cdA 2 128 = some (.iload 9, 2, 0, 0, 0) from rfl) (List.Mem.tail _ (List.Mem.tail _ (List.Mem.tail _ (List.Mem.tail _ (List.Mem.tail _ (List.Mem.tail _ (List.Mem.tail _ (List.Mem.tail _ (List.Mem.tail _ (List.Mem.tail _ (List.Mem.tail _ (List.Mem.head _)))))))))))) ?_
              refine z_const X (show cdA 2 130 = some (.iconst 4, 1, 0, 0, 0) from rfl) ?_
              have N1021 : ∀ e1022 : Int, (((kd ≠ 4) ∧ e1022 = 0) ∨ ((kd = 4) ∧ e1022 = e1014)) → WS k 140 [(7, .int (Int32.ofInt y1020)), (6, .int (Int32.ofInt y1019)), (16, .int (Int32.ofInt e1014)), (14, .long j1010), (12, .long j1008), (10, .long j1003), (0, .ref (A 113)), (1, .int (Int32.ofInt xv)), (2, .long av), (4, .long bv), (8, .int (Int32.ofInt cl)), (9, .int (Int32.ofInt kd))] [.int (Int32.ofInt e1022)] (Wd A dT s1017) 0 0 := by
                intro e1022 he1022
                refine z_store X (lv' := [(8, .int (Int32.ofInt e1022)), (7, .int (Int32.ofInt y1020)), (6, .int (Int32.ofInt y1019)), (16, .int (Int32.ofInt e1014)), (14, .long j1010), (12, .long j1008), (10, .long j1003), (0, .ref (A 113)), (1, .int (Int32.ofInt xv)), (2, .long av), (4, .long bv), (9, .int (Int32.ofInt kd))]) (show cdA 2 140 = some (.istore 8, 2, 0, 0, 0) from rfl) (by decide) (fun _ h => h) ?_
                refine z_inc X (x := kd) (lv' := [(9, .int (Int32.ofInt (kd + 1))), (8, .int (Int32.ofInt e1022)), (7, .int (Int32.ofInt y1020)), (6, .int (Int32.ofInt y1019)), (16, .int (Int32.ofInt e1014)), (14, .long j1010), (12, .long j1008), (10, .long j1003), (0, .ref (A 113)), (1, .int (Int32.ofInt xv)), (2, .long av), (4, .long bv)]) (show cdA 2 142 = some (.iinc 9 1, 3, 0, 0, 0) from rfl) (by decide) (List.Mem.tail _ (List.Mem.tail _ (List.Mem.tail _ (List.Mem.tail _ (List.Mem.tail _ (List.Mem.tail _ (List.Mem.tail _ (List.Mem.tail _ (List.Mem.tail _ (List.Mem.tail _ (List.Mem.tail _ (List.Mem.head _)))))))))))) (fun _ h => h) ?_
                refine z_goto X (t := 12) (show cdA 2 145 = some (.goto (-133), 3, 0, 0, 0) from rfl) (by decide) ?_
                refine WS_lv (lv := [(0, .ref (A 113)), (1, .int (Int32.ofInt xv)), (2, .long av), (4, .long bv), (6, .int (Int32.ofInt y1019)), (7, .int (Int32.ofInt y1020)), (8, .int (Int32.ofInt e1022)), (9, .int (Int32.ofInt (kd + 1)))]) (List.forall_mem_cons.mpr ⟨(List.Mem.tail _ (List.Mem.tail _ (List.Mem.tail _ (List.Mem.tail _ (List.Mem.tail _ (List.Mem.tail _ (List.Mem.tail _ (List.Mem.tail _ (List.Mem.head _))))))))), (List.forall_mem_cons.mpr ⟨(List.Mem.tail _ (List.Mem.tail _ (List.Mem.tail _ (List.Mem.tail _ (List.Mem.tail _ (List.Mem.tail _ (List.Mem.tail _ (List.Mem.tail _ (List.Mem.tail _ (List.Mem.head _)))))))))), (List.forall_mem_cons.mpr ⟨(List.Mem.tail _ (List.Mem.tail _ (List.Mem.tail _ (List.Mem.tail _ (List.Mem.tail _ (List.Mem.tail _ (List.Mem.tail _ (List.Mem.tail _ (List.Mem.tail _ (List.Mem.tail _ (List.Mem.head _))))))))))), (List.forall_mem_cons.mpr ⟨(List.Mem.tail _ (List.Mem.tail _ (List.Mem.tail _ (List.Mem.tail _ (List.Mem.tail _ (List.Mem.tail _ (List.Mem.tail _ (List.Mem.tail _ (List.Mem.tail _ (List.Mem.tail _ (List.Mem.tail _ (List.Mem.head _)))))))))))), (List.forall_mem_cons.mpr ⟨(List.Mem.tail _ (List.Mem.tail _ (List.Mem.tail _ (List.Mem.head _)))), (List.forall_mem_cons.mpr ⟨(List.Mem.tail _ (List.Mem.tail _ (List.Mem.head _))), (List.forall_mem_cons.mpr ⟨(List.Mem.tail _ (List.Mem.head _)), (List.forall_mem_cons.mpr ⟨(List.Mem.head _), (fun q h => absurd h List.not_mem_nil)⟩)⟩)⟩)⟩)⟩)⟩)⟩)⟩) ?_
                exact ih _ xv av bv y1019 y1020 e1022 (kd + 1) Is1017 Gs1017 (by first | exact ⟨And.intro (hi.1.1) (hi.1.2), And.intro (hy1019.1) (hy1019.2), And.intro (hy1020.1) (hy1020.2), by omega, oq_54f49eb5 hi.2.2.2.2.1, oq_c2445583 g1002, oq_9a920414 ws1017_52 ws1013_52 hi.2.2.2.2.2.2⟩ | omega) (by first | exact qk_me hm (by decide) (oq_33241a94 g1002) | omega) kx
              refine z_icmp_ne X (t := 139) (show cdA 2 131 = some (.if_icmp .ne 8, 3, 1, 0, 0) from rfl) (by decide) ⟨by first | exact oq_fa4e5087 hi.2.2.2.2.1 | omega, by first | exact oq_85aa3fe6 g1002 | omega⟩ (by decide) (fun g1023 => ?_) (fun g1023 => ?_)
              ·
                refine z_const X (show cdA 2 139 = some (.iconst 0, 1, 0, 0, 0) from rfl) ?_
                exact N1021 _ (Or.inl ⟨g1023, rfl⟩)
              ·
                refine z_load X (x := e1014) (show cdA 2 134 = some (.iload 16, 2, 0, 0, 0) from rfl) (List.Mem.tail _ (List.Mem.tail _ (List.Mem.head _))) ?_
                refine z_goto X (t := 140) (show cdA 2 136 = some (.goto 4, 3, 0, 0, 0) from rfl) (by decide) ?_
                exact N1021 _ (Or.inr (⟨g1023, rfl⟩))
            refine z_icmp_ne X (t := 72) (show cdA 2 64 = some (.if_icmp .ne 8, 3, 1, 0, 0) from rfl) (by decide) ⟨by first | exact oq_fa4e5087 hi.2.2.2.2.1 | omega, by first | exact oq_85aa3fe6 g1002 | omega⟩ (by decide) (fun g1024 => ?_) (fun g1024 => ?_)
            ·
              refine z_load X (x := kd) (show cdA 2 72 = some (.iload 9, 2, 0, 0, 0) from rfl) (List.Mem.tail _ (List.Mem.tail _ (List.Mem.tail _ (List.Mem.tail _ (List.Mem.tail _ (List.Mem.tail _ (List.Mem.tail _ (List.Mem.tail _ (List.Mem.tail _ (List.Mem.head _)))))))))) ?_
              refine z_const X (show cdA 2 74 = some (.iconst 2, 1, 0, 0, 0) from rfl) ?_
              refine z_icmp_ge X (t := 85) (show cdA 2 75 = some (.if_icmp .ge 10, 3, 3, 0, 0) from rfl) (by decide) ⟨by first | exact oq_fa4e5087 hi.2.2.2.2.1 | omega, by first | exact oq_85aa3fe6 g1002 | omega⟩ (by decide) (fun g1025 => ?_) (fun g1025 => ?_)
              ·
                refine w_lload X.1 (ax_d X (show cdA 2 85 = some (.lload 12, 2, 0, 0, 0) from rfl)) (x := j1008) (List.Mem.head _) ?_
                refine z_bipush X (show cdA 2 87 = some (.bipush 8, 2, 0, 0, 8) from rfl) ?_
                refine w_lushr X.1 (ax_d X (show cdA 2 89 = some (.lushr, 1, 0, 0, 0) from rfl)) ?_
                refine z_anyJ (fun j1026 => ?_)
                exact N1009 _
              ·
                refine w_lload X.1 (ax_d X (show cdA 2 78 = some (.lload 12, 2, 0, 0, 0) from rfl)) (x := j1008) (List.Mem.head _) ?_
                refine z_const X (show cdA 2 80 = some (.iconst 1, 1, 0, 0, 0) from rfl) ?_
                refine w_lushr X.1 (ax_d X (show cdA 2 81 = some (.lushr, 1, 0, 0, 0) from rfl)) ?_
                refine z_anyJ (fun j1027 => ?_)
                refine z_goto X (t := 90) (show cdA 2 82 = some (.goto 8, 3, 0, 0, 0) from rfl) (by decide) ?_
                exact N1009 _
            ·
              refine w_lload X.1 (ax_d X (show cdA 2 67 = some (.lload 4, 2, 0, 0, 0) from rfl)) (x := bv) (List.Mem.tail _ (List.Mem.tail _ (List.Mem.tail _ (List.Mem.tail _ (List.Mem.tail _ (List.Mem.head _)))))) ?_
              refine z_goto X (t := 90) (show cdA 2 69 = some (.goto 21, 3, 0, 0, 0) from rfl) (by decide) ?_
              exact N1009 _
          refine z_icmp_eq X (t := 53) (show cdA 2 44 = some (.if_icmp .eq 9, 3, 0, 0, 0) from rfl) (by decide) ⟨by first | exact oq_fa4e5087 hi.2.2.2.2.1 | omega, by first | exact oq_85aa3fe6 g1002 | omega⟩ (by decide) (fun g1028 => ?_) (fun g1028 => ?_)
          ·
            refine w_lload X.1 (ax_d X (show cdA 2 53 = some (.lload 4, 2, 0, 0, 0) from rfl)) (x := bv) (List.Mem.tail _ (List.Mem.tail _ (List.Mem.tail _ (List.Mem.tail _ (List.Mem.head _))))) ?_
            refine z_goto X (t := 59) (show cdA 2 55 = some (.goto 4, 3, 0, 0, 0) from rfl) (by decide) ?_
            exact N1007 _
          ·
            refine z_load X (x := kd) (show cdA 2 47 = some (.iload 9, 2, 0, 0, 0) from rfl) (List.Mem.tail _ (List.Mem.tail _ (List.Mem.tail _ (List.Mem.tail _ (List.Mem.tail _ (List.Mem.tail _ (List.Mem.tail _ (List.Mem.tail _ (List.Mem.head _))))))))) ?_
            refine z_const X (show cdA 2 49 = some (.iconst 3, 1, 0, 0, 0) from rfl) ?_
            refine z_icmp_ne X (t := 58) (show cdA 2 50 = some (.if_icmp .ne 8, 3, 1, 0, 0) from rfl) (by decide) ⟨by first | exact oq_fa4e5087 hi.2.2.2.2.1 | omega, by first | exact oq_85aa3fe6 g1002 | omega⟩ (by decide) (fun g1029 => ?_) (fun g1029 => ?_)
            ·
              refine w_lload_n X.1 (ax_d X (show cdA 2 58 = some (.lload_n 2, 1, 0, 0, 0) from rfl)) (x := av) (List.Mem.tail _ (List.Mem.tail _ (List.Mem.tail _ (List.Mem.head _)))) ?_
              exact N1007 _
            ·
              refine w_lload X.1 (ax_d X (show cdA 2 53 = some (.lload 4, 2, 0, 0, 0) from rfl)) (x := bv) (List.Mem.tail _ (List.Mem.tail _ (List.Mem.tail _ (List.Mem.tail _ (List.Mem.head _))))) ?_
              refine z_goto X (t := 59) (show cdA 2 55 = some (.goto 4, 3, 0, 0, 0) from rfl) (by decide) ?_
              exact N1007 _
  refine z_const X (show cdA 2 0 = some (.iconst 0, 1, 0, 0, 0) from rfl) ?_
  refine z_store X (lv' := [(6, .int (Int32.ofInt 0)), (0, .ref (A 113)), (1, .int (Int32.ofInt x)), (2, .long aj), (4, .long bj)]) (show cdA 2 1 = some (.istore 6, 2, 0, 0, 0) from rfl) (by decide) (fun _ h => h) ?_
  refine z_const X (show cdA 2 3 = some (.iconst 0, 1, 0, 0, 0) from rfl) ?_
  refine z_store X (lv' := [(7, .int (Int32.ofInt 0)), (6, .int (Int32.ofInt 0)), (0, .ref (A 113)), (1, .int (Int32.ofInt x)), (2, .long aj), (4, .long bj)]) (show cdA 2 4 = some (.istore 7, 2, 0, 0, 0) from rfl) (by decide) (fun _ h => h) ?_
  refine z_const X (show cdA 2 6 = some (.iconst 0, 1, 0, 0, 0) from rfl) ?_
  refine z_store X (lv' := [(8, .int (Int32.ofInt 0)), (7, .int (Int32.ofInt 0)), (6, .int (Int32.ofInt 0)), (0, .ref (A 113)), (1, .int (Int32.ofInt x)), (2, .long aj), (4, .long bj)]) (show cdA 2 7 = some (.istore 8, 2, 0, 0, 0) from rfl) (by decide) (fun _ h => h) ?_
  refine z_const X (show cdA 2 9 = some (.iconst 0, 1, 0, 0, 0) from rfl) ?_
  refine z_store X (lv' := [(9, .int (Int32.ofInt 0)), (8, .int (Int32.ofInt 0)), (7, .int (Int32.ofInt 0)), (6, .int (Int32.ofInt 0)), (0, .ref (A 113)), (1, .int (Int32.ofInt x)), (2, .long aj), (4, .long bj)]) (show cdA 2 10 = some (.istore 9, 2, 0, 0, 0) from rfl) (by decide) (fun _ h => h) ?_
  refine WS_lv (lv := [(0, .ref (A 113)), (1, .int (Int32.ofInt x)), (2, .long aj), (4, .long bj), (6, .int (Int32.ofInt 0)), (7, .int (Int32.ofInt 0)), (8, .int (Int32.ofInt 0)), (9, .int (Int32.ofInt 0))]) (List.forall_mem_cons.mpr ⟨(List.Mem.tail _ (List.Mem.tail _ (List.Mem.tail _ (List.Mem.tail _ (List.Mem.head _))))), (List.forall_mem_cons.mpr ⟨(List.Mem.tail _ (List.Mem.tail _ (List.Mem.tail _ (List.Mem.tail _ (List.Mem.tail _ (List.Mem.head _)))))), (List.forall_mem_cons.mpr ⟨(List.Mem.tail _ (List.Mem.tail _ (List.Mem.tail _ (List.Mem.tail _ (List.Mem.tail _ (List.Mem.tail _ (List.Mem.head _))))))), (List.forall_mem_cons.mpr ⟨(List.Mem.tail _ (List.Mem.tail _ (List.Mem.tail _ (List.Mem.tail _ (List.Mem.tail _ (List.Mem.tail _ (List.Mem.tail _ (List.Mem.head _)))))))), (List.forall_mem_cons.mpr ⟨(List.Mem.tail _ (List.Mem.tail _ (List.Mem.tail _ (List.Mem.head _)))), (List.forall_mem_cons.mpr ⟨(List.Mem.tail _ (List.Mem.tail _ (List.Mem.head _))), (List.forall_mem_cons.mpr ⟨(List.Mem.tail _ (List.Mem.head _)), (List.forall_mem_cons.mpr ⟨(List.Mem.head _), (fun q h => absurd h List.not_mem_nil)⟩)⟩)⟩)⟩)⟩)⟩)⟩)⟩) ?_
  refine L12 ((5 - 0 : Int).toNat + 1) s x aj bj 0 0 0 0 I F (by first | exact ⟨And.intro (p0.1) (p0.2), And.intro (by decide) (by decide), And.intro (by decide) (by decide), And.intro (by decide) (by decide), by decide, by decide, p1⟩ | omega) (Nat.lt_succ_self _) ?_
  intro s2 x3 x4 x5 x6 Is2 Fs2 hs2
  have b7 : (0 : Int) ≤ iI s2 52 ∧ iI s2 52 ≤ 12 := Is2.1 52
  refine z_aload_n X (x := A 113) (show cdA 2 148 = some (.aload_n 0, 1, 0, 0, 0) from rfl) (List.Mem.head _) ?_
  refine s_getR X 113 (show cdA 2 149 = some (.getfield 15, 3, 0, 4, 0) from rfl) (by decide) rfl rfl ?_
  refine z_aload_n X (x := A 113) (show cdA 2 152 = some (.aload_n 0, 1, 0, 0, 0) from rfl) (List.Mem.head _) ?_
  refine z_getI X 113 (show cdA 2 153 = some (.getfield 57, 3, 0, 2, 0) from rfl) (by decide) rfl rfl ?_
  have b8 : (0 : Int) ≤ iI s2 52 ∧ iI s2 52 ≤ 12 := Is2.1 52
  refine z_load X (x := x3) (show cdA 2 156 = some (.iload 6, 2, 0, 0, 0) from rfl) (List.Mem.tail _ (List.Mem.tail _ (List.Mem.tail _ (List.Mem.tail _ (List.Mem.head _))))) ?_
  refine z_ast X 115 (show cdA 2 158 = some (.iastore, 1, 0, 0, 0) from rfl) (by decide) rfl (by first | exact b8.1 | omega) (show (iI s2 52) < 12 by first | exact oq_0ddfcfee hs2.2.2.2.2.2.2 | omega) (by decide) ?_
  obtain ⟨s9, hs9⟩ : ∃ x0, x0 = uC s2 99 ((iI s2 52)).toNat (Int32.ofInt x3) := ⟨_, rfl⟩
  rw [← hs9]
  have Is9 : Bd s9 := by rw [hs9]; exact bd_C Is2 (show ((-2147483648) : Int) ≤ x3 ∧ x3 ≤ 2147483647 by first | exact ⟨hs2.2.1.1, hs2.2.1.2⟩ | omega) ⟨by first | exact hs2.2.1.1 | omega, by first | exact hs2.2.1.2 | omega⟩
  have Fs9 := fm_C (i := ((iI s2 52)).toNat) (x := Int32.ofInt x3) Fs2 (show 99 ∈ _ by decide)
  rw [← hs9] at Fs9
  have ws9_52 : iI s9 52 = iI s2 52 := by rw [hs9]; rfl
  refine z_aload_n X (x := A 113) (show cdA 2 159 = some (.aload_n 0, 1, 0, 0, 0) from rfl) (List.Mem.head _) ?_
  refine s_getR X 113 (show cdA 2 160 = some (.getfield 18, 3, 0, 5, 0) from rfl) (by decide) rfl rfl ?_
  refine z_aload_n X (x := A 113) (show cdA 2 163 = some (.aload_n 0, 1, 0, 0, 0) from rfl) (List.Mem.head _) ?_
  refine z_getI X 113 (show cdA 2 164 = some (.getfield 57, 3, 0, 2, 0) from rfl) (by decide) rfl rfl ?_
  have b10 : (0 : Int) ≤ iI s9 52 ∧ iI s9 52 ≤ 12 := Is9.1 52
  refine z_load X (x := x4) (show cdA 2 167 = some (.iload 7, 2, 0, 0, 0) from rfl) (List.Mem.tail _ (List.Mem.tail _ (List.Mem.tail _ (List.Mem.tail _ (List.Mem.tail _ (List.Mem.head _)))))) ?_
  refine z_ast X 116 (show cdA 2 169 = some (.iastore, 1, 0, 0, 0) from rfl) (by decide) rfl (by first | exact b10.1 | omega) (show (iI s9 52) < 12 by first | exact oq_210fcd76 ws9_52 hs2.2.2.2.2.2.2 | omega) (by decide) ?_
  obtain ⟨s11, hs11⟩ : ∃ x0, x0 = uC s9 100 ((iI s9 52)).toNat (Int32.ofInt x4) := ⟨_, rfl⟩
  rw [← hs11]
  have Is11 : Bd s11 := by rw [hs11]; exact bd_C Is9 (show ((-2147483648) : Int) ≤ x4 ∧ x4 ≤ 2147483647 by first | exact ⟨hs2.2.2.1.1, hs2.2.2.1.2⟩ | omega) ⟨by first | exact hs2.2.2.1.1 | omega, by first | exact hs2.2.2.1.2 | omega⟩
  have Fs11 := fm_C (i := ((iI s9 52)).toNat) (x := Int32.ofInt x4) Fs9 (show 100 ∈ _ by decide)
  rw [← hs11] at Fs11
  have ws11_52 : iI s11 52 = iI s9 52 := by rw [hs11]; rfl
  refine z_aload_n X (x := A 113) (show cdA 2 170 = some (.aload_n 0, 1, 0, 0, 0) from rfl) (List.Mem.head _) ?_
  refine s_getR X 113 (show cdA 2 171 = some (.getfield 21, 3, 0, 6, 0) from rfl) (by decide) rfl rfl ?_
  refine z_aload_n X (x := A 113) (show cdA 2 174 = some (.aload_n 0, 1, 0, 0, 0) from rfl) (List.Mem.head _) ?_
  refine z_getI X 113 (show cdA 2 175 = some (.getfield 57, 3, 0, 2, 0) from rfl) (by decide) rfl rfl ?_
  have b12 : (0 : Int) ≤ iI s11 52 ∧ iI s11 52 ≤ 12 := Is11.1 52
  refine z_load X (x := x5) (show cdA 2 178 = some (.iload 8, 2, 0, 0, 0) from rfl) (List.Mem.tail _ (List.Mem.tail _ (List.Mem.tail _ (List.Mem.tail _ (List.Mem.tail _ (List.Mem.tail _ (List.Mem.head _))))))) ?_
  refine z_ast X 117 (show cdA 2 180 = some (.iastore, 1, 0, 0, 0) from rfl) (by decide) rfl (by first | exact b12.1 | omega) (show (iI s11 52) < 12 by first | exact oq_e2284db0 ws11_52 ws9_52 hs2.2.2.2.2.2.2 | omega) (by decide) ?_
  obtain ⟨s13, hs13⟩ : ∃ x0, x0 = uC s11 101 ((iI s11 52)).toNat (Int32.ofInt x5) := ⟨_, rfl⟩
  rw [← hs13]
  have Is13 : Bd s13 := by rw [hs13]; exact bd_C Is11 (show ((-2147483648) : Int) ≤ x5 ∧ x5 ≤ 2147483647 by first | exact ⟨hs2.2.2.2.1.1, hs2.2.2.2.1.2⟩ | omega) ⟨by first | exact hs2.2.2.2.1.1 | omega, by first | exact hs2.2.2.2.1.2 | omega⟩
  have Fs13 := fm_C (i := ((iI s11 52)).toNat) (x := Int32.ofInt x5) Fs11 (show 101 ∈ _ by decide)
  rw [← hs13] at Fs13
  have ws13_52 : iI s13 52 = iI s11 52 := by rw [hs13]; rfl
  exact w_vret X.1 q hRt (ax_d X (show cdA 2 181 = some (.return_, 1, 0, 0, 0) from rfl)) (Nat.zero_le _) (Nat.zero_le _) ⟨_, rfl, Is13, Fs13, rfl, trivial⟩
set_option maxRecDepth 4000 in
theorem c0_listen_113 (G : GX l s0 D tys a0 dT) (I : Bd s) {x : Int} {aj bj : Int64} (p0 : rng x) : CT l s0 D A dT 1 (rmN 1) [.ref (A 113), .long aj, .long bj, .int (Int32.ofInt x)] s (fun o t => Bd t ∧ Fm [52, 53] [105, 98, 99, 100, 101, 102, 103, 104] s t ∧ o = .inl none ∧ (True)) := by
  refine ct_ofX G (by decide) (Nat.le_of_ble_eq_true rfl) (fun k X E ET hRt hXt q => ?_)
  show WS k 0 [(0, .ref (A 113)), (1, .long aj), (3, .long bj), (5, .int (Int32.ofInt x))] [] _ 0 0
  have F : Fm [52, 53] [105, 98, 99, 100, 101, 102, 103, 104] s s := fm_rf _ _ s
  have b1 : (0 : Int) ≤ iI s 52 ∧ iI s 52 ≤ 12 := I.1 52
  have b2 : (0 : Int) ≤ iI s 53 ∧ iI s 53 ≤ 66 := I.1 53
  have b3 : (0 : Int) ≤ iI s 43 ∧ iI s 43 ≤ 12 := I.1 43
  have b4 : (0 : Int) ≤ iI s 44 ∧ iI s 44 ≤ 66 := I.1 44
  have L42 : ∀ (n : Nat) (t : PS) (av : Int64) (bv : Int64) (c : Int), Bd t → Fm [52, 53] [105, 98, 99, 100, 101, 102, 103, 104] s t → (0 ≤ c ∧ c ≤ 12 ∧ iI t 52 ≤ c) → (12 - c : Int).toNat < n → (∀ (t' : PS) (c' : Int), Bd t' → Fm [52, 53] [105, 98, 99, 100, 101, 102, 103, 104] s t' → (0 ≤ c' ∧ c' ≤ 12 ∧ iI t' 52 ≤ c') → WS k 125 [(0, .ref (A 113)), (1, .long av), (3, .long bv), (6, .int (Int32.ofInt c'))] [] (Wd A dT t') 0 0) → WS k 42 [(0, .ref (A 113)), (1, .long av), (3, .long bv), (6, .int (Int32.ofInt c))] [] (Wd A dT t) 0 0 := by
    intro n
    induction n with
    | zero =>
      intro t av bv c I F hi hm kx
      exact absurd hm (Nat.not_lt_zero _)
    | succ n ih =>
      intro t av bv c I F hi hm kx
      have b1001 : (0 : Int) ≤ iI t 52 ∧ iI t 52 ≤ 12 := I.1 52
      have b1002 : (0 : Int) ≤ iI t 53 ∧ iI t 53 ≤ 66 := I.1 53
      have b1003 : (0 : Int) ≤ iI t 43 ∧ iI t 43 ≤ 12 := I.1 43
      have b1004 : (0 : Int) ≤ iI t 44 ∧ iI t 44 ≤ 66 := I.1 44
      refine z_load X (x := c) (show cdA 1 42 = some (.iload 6, 2, 0, 0, 0) from rfl) (List.Mem.tail _ (List.Mem.tail _ (List.Mem.tail _ (List.Mem.head _)))) ?_
      refine z_aload_n X (x := A 113) (show cdA 1 44 = some (.aload_n 0, 1, 0, 0, 0) from rfl) (List.Mem.head _) ?_
      refine s_getR X 113 (show cdA 1 45 = some (.getfield 43, 3, 0, 0, 0) from rfl) (by decide) rfl rfl ?_
      refine z_getI X 68 (show cdA 1 48 = some (.getfield 61, 3, 9, 0, 0) from rfl) (by decide) rfl rfl ?_
      have b1005 : (0 : Int) ≤ iI t 43 ∧ iI t 43 ≤ 12 := I.1 43
      refine z_icmp_ge X (t := 125) (show cdA 1 51 = some (.if_icmp .ge 74, 3, 3, 0, 0) from rfl) (by decide) ⟨by first | exact oq_fa4e5087 hi.1 | omega, by first | exact oq_78843a64 hi.2.1 | omega⟩ (rng_to _) (fun g1006 => ?_) (fun g1006 => ?_)
      ·
        refine WS_lv (lv := [(0, .ref (A 113)), (1, .long av), (3, .long bv), (6, .int (Int32.ofInt c))]) (List.forall_mem_cons.mpr ⟨(List.Mem.head _), (List.forall_mem_cons.mpr ⟨(List.Mem.tail _ (List.Mem.head _)), (List.forall_mem_cons.mpr ⟨(List.Mem.tail _ (List.Mem.tail _ (List.Mem.head _))), (List.forall_mem_cons.mpr ⟨(List.Mem.tail _ (List.Mem.tail _ (List.Mem.tail _ (List.Mem.head _)))), (fun q h => absurd h List.not_mem_nil)⟩)⟩)⟩)⟩) ?_
        exact kx _ c I F (by first | exact ⟨hi.1, hi.2.1, hi.2.2⟩ | omega)
      ·
        refine z_aload_n X (x := A 113) (show cdA 1 54 = some (.aload_n 0, 1, 0, 0, 0) from rfl) (List.Mem.head _) ?_
        refine s_getR X 113 (show cdA 1 55 = some (.getfield 43, 3, 0, 0, 0) from rfl) (by decide) rfl rfl ?_
        refine s_getR X 68 (show cdA 1 58 = some (.getfield 64, 3, 9, 3, 0) from rfl) (by decide) rfl rfl ?_
        refine z_load X (x := c) (show cdA 1 61 = some (.iload 6, 2, 0, 0, 0) from rfl) (List.Mem.tail _ (List.Mem.tail _ (List.Mem.tail _ (List.Mem.head _)))) ?_
        refine z_const X (show cdA 1 63 = some (.iconst 2, 1, 0, 0, 0) from rfl) ?_
        refine z_mul X (show cdA 1 64 = some (.imul, 1, 0, 0, 0) from rfl) ?_
        refine z_lald X 71 (show cdA 1 65 = some (.laload, 1, 0, 0, 0) from rfl) (by decide) rfl (by first | exact oq_cfc6ac54 hi.1 | omega) (show (c * 2) < 24 by first | exact oq_e062d2c8 g1006 b1005.2 | omega) (by decide) (fun j1007 => ?_)
        refine w_lload_n X.1 (ax_d X (show cdA 1 66 = some (.lload_n 1, 1, 0, 0, 0) from rfl)) (x := av) (List.Mem.tail _ (List.Mem.head _)) ?_
        refine w_land X.1 (ax_d X (show cdA 1 67 = some (.land, 1, 0, 0, 0) from rfl)) ?_
        refine z_anyJ (fun j1008 => ?_)
        refine z_aload_n X (x := A 113) (show cdA 1 68 = some (.aload_n 0, 1, 0, 0, 0) from rfl) (List.Mem.head _) ?_
        refine s_getR X 113 (show cdA 1 69 = some (.getfield 43, 3, 0, 0, 0) from rfl) (by decide) rfl rfl ?_
        refine s_getR X 68 (show cdA 1 72 = some (.getfield 64, 3, 9, 3, 0) from rfl) (by decide) rfl rfl ?_
        refine z_load X (x := c) (show cdA 1 75 = some (.iload 6, 2, 0, 0, 0) from rfl) (List.Mem.tail _ (List.Mem.tail _ (List.Mem.tail _ (List.Mem.head _)))) ?_
        refine z_const X (show cdA 1 77 = some (.iconst 2, 1, 0, 0, 0) from rfl) ?_
        refine z_mul X (show cdA 1 78 = some (.imul, 1, 0, 0, 0) from rfl) ?_
        refine z_const X (show cdA 1 79 = some (.iconst 1, 1, 0, 0, 0) from rfl) ?_
        refine z_add X (show cdA 1 80 = some (.iadd, 1, 0, 0, 0) from rfl) ?_
        refine z_lald X 71 (show cdA 1 81 = some (.laload, 1, 0, 0, 0) from rfl) (by decide) rfl (by first | exact oq_8a3e0277 hi.1 | omega) (show ((c * 2) + 1) < 24 by first | exact oq_0edc0603 g1006 b1005.2 | omega) (by decide) (fun j1009 => ?_)
        refine w_lload_n X.1 (ax_d X (show cdA 1 82 = some (.lload_n 3, 1, 0, 0, 0) from rfl)) (x := bv) (List.Mem.tail _ (List.Mem.tail _ (List.Mem.head _))) ?_
        refine w_land X.1 (ax_d X (show cdA 1 83 = some (.land, 1, 0, 0, 0) from rfl)) ?_
        refine z_anyJ (fun j1010 => ?_)
        refine w_lor X.1 (ax_d X (show cdA 1 84 = some (.lor, 1, 0, 0, 0) from rfl)) ?_
        refine z_anyJ (fun j1011 => ?_)
        refine w_lconst X.1 (ax_d X (show cdA 1 85 = some (.lconst 0, 1, 0, 0, 0) from rfl)) rfl ?_
        refine z_anyJ (fun j1012 => ?_)
        refine w_lcmp X.1 (ax_d X (show cdA 1 86 = some (.lcmp, 1, 0, 0, 0) from rfl)) ?_
        refine z_any (fun y1013 hy1013 => ?_)
        refine z_if_eq X (t := 119) (show cdA 1 87 = some (.ifCond .eq 32, 3, 0, 0, 0) from rfl) (by decide) hy1013 (fun g1014 => ?_) (fun g1014 => ?_)
        ·
          refine z_inc X (x := c) (lv' := [(6, .int (Int32.ofInt (c + 1))), (0, .ref (A 113)), (1, .long av), (3, .long bv)]) (show cdA 1 119 = some (.iinc 6 1, 3, 0, 0, 0) from rfl) (by decide) (List.Mem.tail _ (List.Mem.tail _ (List.Mem.tail _ (List.Mem.head _)))) (fun _ h => h) ?_
          refine z_goto X (t := 42) (show cdA 1 122 = some (.goto (-80), 3, 0, 0, 0) from rfl) (by decide) ?_
          refine WS_lv (lv := [(0, .ref (A 113)), (1, .long av), (3, .long bv), (6, .int (Int32.ofInt (c + 1)))]) (List.forall_mem_cons.mpr ⟨(List.Mem.tail _ (List.Mem.head _)), (List.forall_mem_cons.mpr ⟨(List.Mem.tail _ (List.Mem.tail _ (List.Mem.head _))), (List.forall_mem_cons.mpr ⟨(List.Mem.tail _ (List.Mem.tail _ (List.Mem.tail _ (List.Mem.head _)))), (List.forall_mem_cons.mpr ⟨(List.Mem.head _), (fun q h => absurd h List.not_mem_nil)⟩)⟩)⟩)⟩) ?_
          exact ih _ av bv (c + 1) I F (by first | exact ⟨oq_54f49eb5 hi.1, oq_4dae995e g1006 b1005.2, oq_03182e9e hi.2.2⟩ | omega) (by first | exact qk_me hm (by decide) (oq_b575e8c1 g1006 b1005.2) | omega) kx
        ·
          refine z_aload_n X (x := A 113) (show cdA 1 90 = some (.aload_n 0, 1, 0, 0, 0) from rfl) (List.Mem.head _) ?_
          refine s_getR X 113 (show cdA 1 91 = some (.getfield 9, 3, 0, 3, 0) from rfl) (by decide) rfl rfl ?_
          refine z_aload_n X (x := A 113) (show cdA 1 94 = some (.aload_n 0, 1, 0, 0, 0) from rfl) (List.Mem.head _) ?_
          refine z_getI X 113 (show cdA 1 95 = some (.getfield 57, 3, 0, 2, 0) from rfl) (by decide) rfl rfl ?_
          have b1015 : (0 : Int) ≤ iI t 52 ∧ iI t 52 ≤ 12 := I.1 52
          refine z_load X (x := c) (show cdA 1 98 = some (.iload 6, 2, 0, 0, 0) from rfl) (List.Mem.tail _ (List.Mem.tail _ (List.Mem.tail _ (List.Mem.head _)))) ?_
          refine z_ast X 114 (show cdA 1 100 = some (.iastore, 1, 0, 0, 0) from rfl) (by decide) rfl (by first | exact b1015.1 | omega) (show (iI t 52) < 12 by first | exact oq_79196c7f hi.2.2 g1006 b1005.2 | omega) (by decide) ?_
          obtain ⟨s1016, hs1016⟩ : ∃ x0, x0 = uC t 98 ((iI t 52)).toNat (Int32.ofInt c) := ⟨_, rfl⟩
          rw [← hs1016]
          have Is1016 : Bd s1016 := by rw [hs1016]; exact bd_C I (show (0 : Int) ≤ c ∧ c ≤ 11 by first | exact ⟨hi.1, oq_e4d7f3c5 g1006 b1005.2⟩ | omega) ⟨by first | exact oq_fa4e5087 hi.1 | omega, by first | exact oq_78843a64 hi.2.1 | omega⟩
          have Fs1016 := fm_C (i := ((iI t 52)).toNat) (x := Int32.ofInt c) F (show 98 ∈ _ by decide)
          rw [← hs1016] at Fs1016
          have ws1016_52 : iI s1016 52 = iI t 52 := by rw [hs1016]; rfl
          have ws1016_53 : iI s1016 53 = iI t 53 := by rw [hs1016]; rfl
          have ws1016_43 : iI s1016 43 = iI t 43 := by rw [hs1016]; rfl
          have ws1016_44 : iI s1016 44 = iI t 44 := by rw [hs1016]; rfl
          refine z_aload_n X (x := A 113) (show cdA 1 101 = some (.aload_n 0, 1, 0, 0, 0) from rfl) (List.Mem.head _) ?_
          refine z_load X (x := c) (show cdA 1 102 = some (.iload 6, 2, 0, 0, 0) from rfl) (List.Mem.tail _ (List.Mem.tail _ (List.Mem.tail _ (List.Mem.head _)))) ?_
          refine w_lload_n X.1 (ax_d X (show cdA 1 104 = some (.lload_n 1, 1, 0, 0, 0) from rfl)) (x := av) (List.Mem.tail _ (List.Mem.head _)) ?_
          refine w_lload_n X.1 (ax_d X (show cdA 1 105 = some (.lload_n 3, 1, 0, 0, 0) from rfl)) (x := bv) (List.Mem.tail _ (List.Mem.tail _ (List.Mem.head _))) ?_
          refine z_callV X 113 (rm := rmN 2) (As := [.int (Int32.ofInt c), .long av, .long bv]) (st := []) (show cdA 1 106 = some (.invokevirtual 68, 3, 2, 0, 0) from rfl) rfl (by decide) rfl (by rw [E.1, E.2.1, E.2.2.1]; exact c0_followSteps_113 G Is1016 (by first | exact ⟨hi.1, oq_e4d7f3c5 g1006 b1005.2⟩ | omega) (by first | exact oq_2f168143 ws1016_52 hi.2.2 g1006 b1005.2 | omega)) ⟨by rw [E.2.2.2]; exact (show (rmN 2).frames + 1 ≤ (rmN 1).frames by decide), by rw [E.2.2.2]; exact (show 8 + (mNL (miB 2) + 11) + (rmN 2).locals ≤ (rmN 1).locals by decide), by rw [E.2.2.2]; exact (show 0 + (rmN 2).cells ≤ (rmN 1).cells by decide), by rw [E.2.2.2]; exact (show 0 + (rmN 2).slots ≤ (rmN 1).slots by decide)⟩ (Nat.le_of_ble_eq_true rfl) (fun vv s1017 hq => ?_) (fun ee s1017 hq => ?_)
          rotate_left
          · obtain ⟨Is1017, Fs1017, hv, hps1017⟩ := hq; cases hv
          obtain ⟨Is1017, Fs1017, hv, hps1017⟩ := hq
          cases hv
          have Gs1017 := fm_ts Fs1016 Fs1017 (by decide) (by decide)
          have ws1017_52 : iI s1017 52 = iI s1016 52 := fm_i Fs1017 (by decide)
          have ws1017_53 : iI s1017 53 = iI s1016 53 := fm_i Fs1017 (by decide)
          have ws1017_43 : iI s1017 43 = iI s1016 43 := fm_i Fs1017 (by decide)
          have ws1017_44 : iI s1017 44 = iI s1016 44 := fm_i Fs1017 (by decide)
          show WS k 109 [(0, .ref (A 113)), (1, .long av), (3, .long bv), (6, .int (Int32.ofInt c))] [] (Wd A dT s1017) 0 0
          refine z_aload_n X (x := A 113) (show cdA 1 109 = some (.aload_n 0, 1, 0, 0, 0) from rfl) (List.Mem.head _) ?_
          refine w_dup X.1 (ax_d X (show cdA 1 110 = some (.dup, 1, 0, 0, 0) from rfl)) rfl ?_
          refine z_getI X 113 (show cdA 1 111 = some (.getfield 57, 3, 0, 2, 0) from rfl) (by decide) rfl rfl ?_
          have b1019 : (0 : Int) ≤ iI s1017 52 ∧ iI s1017 52 ≤ 12 := Is1017.1 52
          refine z_const X (show cdA 1 114 = some (.iconst 1, 1, 0, 0, 0) from rfl) ?_
          refine z_add X (show cdA 1 115 = some (.iadd, 1, 0, 0, 0) from rfl) ?_
          refine s_putI X 113 (show cdA 1 116 = some (.putfield 57, 3, 0, 2, 0) from rfl) (by decide) rfl rfl (by decide) rfl rfl rfl ?_
          obtain ⟨s1020, hs1020⟩ : ∃ x0, x0 = uI s1017 52 (Int32.ofInt ((iI s1017 52) + 1)) := ⟨_, rfl⟩
          rw [← hs1020]
          have Is1020 : Bd s1020 := by rw [hs1020]; exact bd_I Is1017 (show (0 : Int) ≤ ((iI s1017 52) + 1) ∧ ((iI s1017 52) + 1) ≤ 12 by first | exact ⟨oq_54f49eb5 b1019.1, oq_1fea0193 ws1017_52 ws1016_52 hi.2.2 g1006 b1005.2⟩ | omega) ⟨by first | exact oq_74de1e16 b1019.1 | omega, by first | exact oq_76a8a5b7 b1019.2 | omega⟩
          have Fs1020 := fm_I (x := Int32.ofInt ((iI s1017 52) + 1)) Gs1017 (show 52 ∈ _ by decide)
          rw [← hs1020] at Fs1020
          have vs1020 : iI s1020 52 = ((iI s1017 52) + 1) := by rw [hs1020]; exact iI_u ⟨by first | exact oq_74de1e16 b1019.1 | omega, by first | exact oq_76a8a5b7 b1019.2 | omega⟩
          have ws1020_53 : iI s1020 53 = iI s1017 53 := by rw [hs1020]; rfl
          have ws1020_43 : iI s1020 43 = iI s1017 43 := by rw [hs1020]; rfl
          have ws1020_44 : iI s1020 44 = iI s1017 44 := by rw [hs1020]; rfl
          refine z_inc X (x := c) (lv' := [(6, .int (Int32.ofInt (c + 1))), (0, .ref (A 113)), (1, .long av), (3, .long bv)]) (show cdA 1 119 = some (.iinc 6 1, 3, 0, 0, 0) from rfl) (by decide) (List.Mem.tail _ (List.Mem.tail _ (List.Mem.tail _ (List.Mem.head _)))) (fun _ h => h) ?_
          refine z_goto X (t := 42) (show cdA 1 122 = some (.goto (-80), 3, 0, 0, 0) from rfl) (by decide) ?_
          refine WS_lv (lv := [(0, .ref (A 113)), (1, .long av), (3, .long bv), (6, .int (Int32.ofInt (c + 1)))]) (List.forall_mem_cons.mpr ⟨(List.Mem.tail _ (List.Mem.head _)), (List.forall_mem_cons.mpr ⟨(List.Mem.tail _ (List.Mem.tail _ (List.Mem.head _))), (List.forall_mem_cons.mpr ⟨(List.Mem.tail _ (List.Mem.tail _ (List.Mem.tail _ (List.Mem.head _)))), (List.forall_mem_cons.mpr ⟨(List.Mem.head _), (fun q h => absurd h List.not_mem_nil)⟩)⟩)⟩)⟩) ?_
          exact ih _ av bv (c + 1) Is1020 Fs1020 (by first | exact ⟨oq_54f49eb5 hi.1, oq_4dae995e g1006 b1005.2, oq_ecb13324 vs1020 hi.2.2 ws1017_52 ws1016_52⟩ | omega) (by first | exact qk_me hm (by decide) (oq_b575e8c1 g1006 b1005.2) | omega) kx
  have L133 : ∀ (n : Nat) (t : PS) (av : Int64) (bv : Int64) (c : Int), Bd t → Fm [52, 53] [105, 98, 99, 100, 101, 102, 103, 104] s t → (0 ≤ c ∧ c ≤ 66 ∧ iI t 53 ≤ c) → (66 - c : Int).toNat < n → (∀ (t' : PS) (c' : Int), Bd t' → Fm [52, 53] [105, 98, 99, 100, 101, 102, 103, 104] s t' → (0 ≤ c' ∧ c' ≤ 66 ∧ iI t' 53 ≤ c') → WS k 260 [(0, .ref (A 113)), (1, .long av), (3, .long bv), (6, .int (Int32.ofInt c'))] [] (Wd A dT t') 0 0) → WS k 133 [(0, .ref (A 113)), (1, .long av), (3, .long bv), (6, .int (Int32.ofInt c))] [] (Wd A dT t) 0 0 := by
    intro n
    induction n with
    | zero =>
      intro t av bv c I F hi hm kx
      exact absurd hm (Nat.not_lt_zero _)
    | succ n ih =>
      intro t av bv c I F hi hm kx
      have b2001 : (0 : Int) ≤ iI t 52 ∧ iI t 52 ≤ 12 := I.1 52
      have b2002 : (0 : Int) ≤ iI t 53 ∧ iI t 53 ≤ 66 := I.1 53
      have b2003 : (0 : Int) ≤ iI t 43 ∧ iI t 43 ≤ 12 := I.1 43
      have b2004 : (0 : Int) ≤ iI t 44 ∧ iI t 44 ≤ 66 := I.1 44
      refine z_load X (x := c) (show cdA 1 133 = some (.iload 6, 2, 0, 0, 0) from rfl) (List.Mem.tail _ (List.Mem.tail _ (List.Mem.tail _ (List.Mem.head _)))) ?_
      refine z_aload_n X (x := A 113) (show cdA 1 135 = some (.aload_n 0, 1, 0, 0, 0) from rfl) (List.Mem.head _) ?_
      refine s_getR X 113 (show cdA 1 136 = some (.getfield 43, 3, 0, 0, 0) from rfl) (by decide) rfl rfl ?_
      refine z_getI X 68 (show cdA 1 139 = some (.getfield 75, 3, 9, 8, 0) from rfl) (by decide) rfl rfl ?_
      have b2005 : (0 : Int) ≤ iI t 44 ∧ iI t 44 ≤ 66 := I.1 44
      refine z_icmp_ge X (t := 260) (show cdA 1 142 = some (.if_icmp .ge 118, 3, 3, 0, 0) from rfl) (by decide) ⟨by first | exact oq_fa4e5087 hi.1 | omega, by first | exact oq_64f2e926 hi.2.1 | omega⟩ (rng_to _) (fun g2006 => ?_) (fun g2006 => ?_)
      ·
        refine WS_lv (lv := [(0, .ref (A 113)), (1, .long av), (3, .long bv), (6, .int (Int32.ofInt c))]) (List.forall_mem_cons.mpr ⟨(List.Mem.head _), (List.forall_mem_cons.mpr ⟨(List.Mem.tail _ (List.Mem.head _)), (List.forall_mem_cons.mpr ⟨(List.Mem.tail _ (List.Mem.tail _ (List.Mem.head _))), (List.forall_mem_cons.mpr ⟨(List.Mem.tail _ (List.Mem.tail _ (List.Mem.tail _ (List.Mem.head _)))), (fun q h => absurd h List.not_mem_nil)⟩)⟩)⟩)⟩) ?_
        exact kx _ c I F (by first | exact ⟨hi.1, hi.2.1, hi.2.2⟩ | omega)
      ·
        refine z_aload_n X (x := A 113) (show cdA 1 145 = some (.aload_n 0, 1, 0, 0, 0) from rfl) (List.Mem.head _) ?_
        refine s_getR X 113 (show cdA 1 146 = some (.getfield 43, 3, 0, 0, 0) from rfl) (by decide) rfl rfl ?_
        refine s_getR X 68 (show cdA 1 149 = some (.getfield 78, 3, 9, 7, 0) from rfl) (by decide) rfl rfl ?_
        refine z_load X (x := c) (show cdA 1 152 = some (.iload 6, 2, 0, 0, 0) from rfl) (List.Mem.tail _ (List.Mem.tail _ (List.Mem.tail _ (List.Mem.head _)))) ?_
        refine z_const X (show cdA 1 154 = some (.iconst 2, 1, 0, 0, 0) from rfl) ?_
        refine z_mul X (show cdA 1 155 = some (.imul, 1, 0, 0, 0) from rfl) ?_
        refine z_lald X 75 (show cdA 1 156 = some (.laload, 1, 0, 0, 0) from rfl) (by decide) rfl (by first | exact oq_cfc6ac54 hi.1 | omega) (show (c * 2) < 132 by first | exact oq_ff78435a g2006 b2005.2 | omega) (by decide) (fun j2007 => ?_)
        refine w_lload_n X.1 (ax_d X (show cdA 1 157 = some (.lload_n 1, 1, 0, 0, 0) from rfl)) (x := av) (List.Mem.tail _ (List.Mem.head _)) ?_
        refine w_land X.1 (ax_d X (show cdA 1 158 = some (.land, 1, 0, 0, 0) from rfl)) ?_
        refine z_anyJ (fun j2008 => ?_)
        refine z_callS X (rm := rmN 298) (As := [.long j2008]) (st := []) (show cdA 1 159 = some (.invokestatic 51, 3, 298, 1, 0) from rfl) rfl (by rw [E.1, E.2.1, E.2.2.1]; exact j_bitL G I ) ⟨by rw [E.2.2.2]; exact (show (rmN 298).frames + 1 ≤ (rmN 1).frames by decide), by rw [E.2.2.2]; exact (show 8 + (mNL (miB 298) + 11) + (rmN 298).locals ≤ (rmN 1).locals by decide), by rw [E.2.2.2]; exact (show 0 + (rmN 298).cells ≤ (rmN 1).cells by decide), by rw [E.2.2.2]; exact (show 0 + (rmN 298).slots ≤ (rmN 1).slots by decide)⟩ (Nat.le_of_ble_eq_true rfl) (fun vv s2009 hq => ?_) (fun ee s2009 hq => ?_)
        rotate_left
        · obtain ⟨Is2009, Fs2009, e2010, hv, hrs2009, hps2009⟩ := hq; cases hv
        obtain ⟨Is2009, Fs2009, e2010, hv, hrs2009, hps2009⟩ := hq
        cases hv
        have Gs2009 := fm_ts F Fs2009 (by decide) (by decide)
        have ws2009_52 : iI s2009 52 = iI t 52 := fm_i Fs2009 (by decide)
        have ws2009_53 : iI s2009 53 = iI t 53 := fm_i Fs2009 (by decide)
        have ws2009_43 : iI s2009 43 = iI t 43 := fm_i Fs2009 (by decide)
        have ws2009_44 : iI s2009 44 = iI t 44 := fm_i Fs2009 (by decide)
        show WS k 162 [(0, .ref (A 113)), (1, .long av), (3, .long bv), (6, .int (Int32.ofInt c))] [.int (Int32.ofInt e2010)] (Wd A dT s2009) 0 0
        refine z_aload_n X (x := A 113) (show cdA 1 162 = some (.aload_n 0, 1, 0, 0, 0) from rfl) (List.Mem.head _) ?_
        refine s_getR X 113 (show cdA 1 163 = some (.getfield 43, 3, 0, 0, 0) from rfl) (by decide) rfl rfl ?_
        refine s_getR X 68 (show cdA 1 166 = some (.getfield 78, 3, 9, 7, 0) from rfl) (by decide) rfl rfl ?_
        refine z_load X (x := c) (show cdA 1 169 = some (.iload 6, 2, 0, 0, 0) from rfl) (List.Mem.tail _ (List.Mem.tail _ (List.Mem.tail _ (List.Mem.head _)))) ?_
        refine z_const X (show cdA 1 171 = some (.iconst 2, 1, 0, 0, 0) from rfl) ?_
        refine z_mul X (show cdA 1 172 = some (.imul, 1, 0, 0, 0) from rfl) ?_
        refine z_const X (show cdA 1 173 = some (.iconst 1, 1, 0, 0, 0) from rfl) ?_
        refine z_add X (show cdA 1 174 = some (.iadd, 1, 0, 0, 0) from rfl) ?_
        refine z_lald X 75 (show cdA 1 175 = some (.laload, 1, 0, 0, 0) from rfl) (by decide) rfl (by first | exact oq_8a3e0277 hi.1 | omega) (show ((c * 2) + 1) < 132 by first | exact oq_643e2065 g2006 b2005.2 | omega) (by decide) (fun j2011 => ?_)
        refine w_lload_n X.1 (ax_d X (show cdA 1 176 = some (.lload_n 3, 1, 0, 0, 0) from rfl)) (x := bv) (List.Mem.tail _ (List.Mem.tail _ (List.Mem.head _))) ?_
        refine w_land X.1 (ax_d X (show cdA 1 177 = some (.land, 1, 0, 0, 0) from rfl)) ?_
        refine z_anyJ (fun j2012 => ?_)
        refine z_callS X (rm := rmN 298) (As := [.long j2012]) (st := [.int (Int32.ofInt e2010)]) (show cdA 1 178 = some (.invokestatic 51, 3, 298, 1, 0) from rfl) rfl (by rw [E.1, E.2.1, E.2.2.1]; exact j_bitL G Is2009 ) ⟨by rw [E.2.2.2]; exact (show (rmN 298).frames + 1 ≤ (rmN 1).frames by decide), by rw [E.2.2.2]; exact (show 8 + (mNL (miB 298) + 11) + (rmN 298).locals ≤ (rmN 1).locals by decide), by rw [E.2.2.2]; exact (show 0 + (rmN 298).cells ≤ (rmN 1).cells by decide), by rw [E.2.2.2]; exact (show 0 + (rmN 298).slots ≤ (rmN 1).slots by decide)⟩ (Nat.le_of_ble_eq_true rfl) (fun vv s2013 hq => ?_) (fun ee s2013 hq => ?_)
        rotate_left
        · obtain ⟨Is2013, Fs2013, e2014, hv, hrs2013, hps2013⟩ := hq; cases hv
        obtain ⟨Is2013, Fs2013, e2014, hv, hrs2013, hps2013⟩ := hq
        cases hv
        have Gs2013 := fm_ts Gs2009 Fs2013 (by decide) (by decide)
        have ws2013_52 : iI s2013 52 = iI s2009 52 := fm_i Fs2013 (by decide)
        have ws2013_53 : iI s2013 53 = iI s2009 53 := fm_i Fs2013 (by decide)
        have ws2013_43 : iI s2013 43 = iI s2009 43 := fm_i Fs2013 (by decide)
        have ws2013_44 : iI s2013 44 = iI s2009 44 := fm_i Fs2013 (by decide)
        show WS k 181 [(0, .ref (A 113)), (1, .long av), (3, .long bv), (6, .int (Int32.ofInt c))] [.int (Int32.ofInt e2014), .int (Int32.ofInt e2010)] (Wd A dT s2013) 0 0
        refine z_add X (show cdA 1 181 = some (.iadd, 1, 0, 0, 0) from rfl) ?_
        refine z_any (fun y2015 hy2015 => ?_)
        refine z_store X (lv' := [(7, .int (Int32.ofInt y2015)), (0, .ref (A 113)), (1, .long av), (3, .long bv), (6, .int (Int32.ofInt c))]) (show cdA 1 182 = some (.istore 7, 2, 0, 0, 0) from rfl) (by decide) (fun _ h => h) ?_
        refine z_load X (x := y2015) (show cdA 1 184 = some (.iload 7, 2, 0, 0, 0) from rfl) (List.Mem.head _) ?_
        refine z_if_le X (t := 254) (show cdA 1 186 = some (.ifCond .le 68, 3, 5, 0, 0) from rfl) (by decide) hy2015 (fun g2016 => ?_) (fun g2016 => ?_)
        ·
          refine z_inc X (x := c) (lv' := [(6, .int (Int32.ofInt (c + 1))), (7, .int (Int32.ofInt y2015)), (0, .ref (A 113)), (1, .long av), (3, .long bv)]) (show cdA 1 254 = some (.iinc 6 1, 3, 0, 0, 0) from rfl) (by decide) (List.Mem.tail _ (List.Mem.tail _ (List.Mem.tail _ (List.Mem.tail _ (List.Mem.head _))))) (fun _ h => h) ?_
          refine z_goto X (t := 133) (show cdA 1 257 = some (.goto (-124), 3, 0, 0, 0) from rfl) (by decide) ?_
          refine WS_lv (lv := [(0, .ref (A 113)), (1, .long av), (3, .long bv), (6, .int (Int32.ofInt (c + 1)))]) (List.forall_mem_cons.mpr ⟨(List.Mem.tail _ (List.Mem.tail _ (List.Mem.head _))), (List.forall_mem_cons.mpr ⟨(List.Mem.tail _ (List.Mem.tail _ (List.Mem.tail _ (List.Mem.head _)))), (List.forall_mem_cons.mpr ⟨(List.Mem.tail _ (List.Mem.tail _ (List.Mem.tail _ (List.Mem.tail _ (List.Mem.head _))))), (List.forall_mem_cons.mpr ⟨(List.Mem.head _), (fun q h => absurd h List.not_mem_nil)⟩)⟩)⟩)⟩) ?_
          exact ih _ av bv (c + 1) Is2013 Gs2013 (by first | exact ⟨oq_54f49eb5 hi.1, oq_319a18a4 g2006 b2005.2, oq_2e1f687c ws2013_53 hi.2.2 ws2009_53⟩ | omega) (by first | exact qk_me hm (by decide) (oq_dd0e9829 g2006 b2005.2) | omega) kx
        ·
          refine z_aload_n X (x := A 113) (show cdA 1 189 = some (.aload_n 0, 1, 0, 0, 0) from rfl) (List.Mem.tail _ (List.Mem.head _)) ?_
          refine s_getR X 113 (show cdA 1 190 = some (.getfield 26, 3, 0, 8, 0) from rfl) (by decide) rfl rfl ?_
          refine z_aload_n X (x := A 113) (show cdA 1 193 = some (.aload_n 0, 1, 0, 0, 0) from rfl) (List.Mem.tail _ (List.Mem.head _)) ?_
          refine z_getI X 113 (show cdA 1 194 = some (.getfield 72, 3, 0, 7, 0) from rfl) (by decide) rfl rfl ?_
          have b2017 : (0 : Int) ≤ iI s2013 53 ∧ iI s2013 53 ≤ 66 := Is2013.1 53
          refine z_aload_n X (x := A 113) (show cdA 1 197 = some (.aload_n 0, 1, 0, 0, 0) from rfl) (List.Mem.tail _ (List.Mem.head _)) ?_
          refine s_getR X 113 (show cdA 1 198 = some (.getfield 43, 3, 0, 0, 0) from rfl) (by decide) rfl rfl ?_
          refine s_getR X 68 (show cdA 1 201 = some (.getfield 81, 3, 9, 6, 0) from rfl) (by decide) rfl rfl ?_
          refine z_load X (x := c) (show cdA 1 204 = some (.iload 6, 2, 0, 0, 0) from rfl) (List.Mem.tail _ (List.Mem.tail _ (List.Mem.tail _ (List.Mem.tail _ (List.Mem.head _))))) ?_
          refine z_ald X 74 (show cdA 1 206 = some (.iaload, 1, 0, 0, 0) from rfl) (by decide) rfl (by first | exact hi.1 | omega) (show c < 66 by first | exact oq_256e4529 g2006 b2005.2 | omega) (by decide) ?_
          have b2018 : (0 : Int) ≤ iC s2013 62 (c).toNat ∧ iC s2013 62 (c).toNat ≤ 143 := Is2013.2 62 _ (show (c).toNat < 66 by first | exact oq_d7ff7873 g2006 b2005.2 | omega)
          refine z_bipush X (show cdA 1 207 = some (.bipush 12, 2, 0, 0, 12) from rfl) ?_
          refine z_quot X (show cdA 1 209 = some (.idiv, 1, 0, 0, 0) from rfl) (by first | exact b2018.1 | omega) (rng_to _) (by decide) (by decide) ?_
          refine z_ast X 118 (show cdA 1 210 = some (.iastore, 1, 0, 0, 0) from rfl) (by decide) rfl (by first | exact b2017.1 | omega) (show (iI s2013 53) < 66 by first | exact oq_141bb310 ws2013_53 ws2009_53 hi.2.2 g2006 b2005.2 | omega) (by decide) ?_
          obtain ⟨s2019, hs2019⟩ : ∃ x0, x0 = uC s2013 102 ((iI s2013 53)).toNat (Int32.ofInt ((iC s2013 62 (c).toNat) / 12)) := ⟨_, rfl⟩
          rw [← hs2019]
          have Is2019 : Bd s2019 := by rw [hs2019]; exact bd_C Is2013 (show (0 : Int) ≤ ((iC s2013 62 (c).toNat) / 12) ∧ ((iC s2013 62 (c).toNat) / 12) ≤ 11 by first | exact ⟨oq_37eb78e0 b2018.1, oq_a03fe580 b2018.2⟩ | omega) ⟨by first | exact oq_e17ab641 b2018.1 | omega, by first | exact oq_c285d9d6 b2018.2 | omega⟩
          have Fs2019 := fm_C (i := ((iI s2013 53)).toNat) (x := Int32.ofInt ((iC s2013 62 (c).toNat) / 12)) Gs2013 (show 102 ∈ _ by decide)
          rw [← hs2019] at Fs2019
          have ws2019_52 : iI s2019 52 = iI s2013 52 := by rw [hs2019]; rfl
          have ws2019_53 : iI s2019 53 = iI s2013 53 := by rw [hs2019]; rfl
          have ws2019_43 : iI s2019 43 = iI s2013 43 := by rw [hs2019]; rfl
          have ws2019_44 : iI s2019 44 = iI s2013 44 := by rw [hs2019]; rfl
          refine z_aload_n X (x := A 113) (show cdA 1 211 = some (.aload_n 0, 1, 0, 0, 0) from rfl) (List.Mem.tail _ (List.Mem.head _)) ?_
          refine s_getR X 113 (show cdA 1 212 = some (.getfield 29, 3, 0, 9, 0) from rfl) (by decide) rfl rfl ?_
          refine z_aload_n X (x := A 113) (show cdA 1 215 = some (.aload_n 0, 1, 0, 0, 0) from rfl) (List.Mem.tail _ (List.Mem.head _)) ?_
          refine z_getI X 113 (show cdA 1 216 = some (.getfield 72, 3, 0, 7, 0) from rfl) (by decide) rfl rfl ?_
          have b2020 : (0 : Int) ≤ iI s2019 53 ∧ iI s2019 53 ≤ 66 := Is2019.1 53
          refine z_aload_n X (x := A 113) (show cdA 1 219 = some (.aload_n 0, 1, 0, 0, 0) from rfl) (List.Mem.tail _ (List.Mem.head _)) ?_
          refine s_getR X 113 (show cdA 1 220 = some (.getfield 43, 3, 0, 0, 0) from rfl) (by decide) rfl rfl ?_
          refine s_getR X 68 (show cdA 1 223 = some (.getfield 81, 3, 9, 6, 0) from rfl) (by decide) rfl rfl ?_
          refine z_load X (x := c) (show cdA 1 226 = some (.iload 6, 2, 0, 0, 0) from rfl) (List.Mem.tail _ (List.Mem.tail _ (List.Mem.tail _ (List.Mem.tail _ (List.Mem.head _))))) ?_
          refine z_ald X 74 (show cdA 1 228 = some (.iaload, 1, 0, 0, 0) from rfl) (by decide) rfl (by first | exact hi.1 | omega) (show c < 66 by first | exact oq_256e4529 g2006 b2005.2 | omega) (by decide) ?_
          have b2021 : (0 : Int) ≤ iC s2019 62 (c).toNat ∧ iC s2019 62 (c).toNat ≤ 143 := Is2019.2 62 _ (show (c).toNat < 66 by first | exact oq_d7ff7873 g2006 b2005.2 | omega)
          refine z_bipush X (show cdA 1 229 = some (.bipush 12, 2, 0, 0, 12) from rfl) ?_
          refine z_mod X (show cdA 1 231 = some (.irem, 1, 0, 0, 0) from rfl) (by first | exact b2021.1 | omega) (rng_to _) (by decide) (by decide) ?_
          refine z_ast X 119 (show cdA 1 232 = some (.iastore, 1, 0, 0, 0) from rfl) (by decide) rfl (by first | exact b2020.1 | omega) (show (iI s2019 53) < 66 by first | exact oq_47fd6e20 ws2019_53 ws2013_53 ws2009_53 g2006 b2005.2 hi.2.2 | omega) (by decide) ?_
          obtain ⟨s2022, hs2022⟩ : ∃ x0, x0 = uC s2019 103 ((iI s2019 53)).toNat (Int32.ofInt ((iC s2019 62 (c).toNat) % 12)) := ⟨_, rfl⟩
          rw [← hs2022]
          have Is2022 : Bd s2022 := by rw [hs2022]; exact bd_C Is2019 (show (0 : Int) ≤ ((iC s2019 62 (c).toNat) % 12) ∧ ((iC s2019 62 (c).toNat) % 12) ≤ 11 by first | exact ⟨oq_b83041cc, oq_e286272e⟩ | omega) ⟨by first | exact oq_9d26ea27 | omega, by first | exact oq_6634e3d0 | omega⟩
          have Fs2022 := fm_C (i := ((iI s2019 53)).toNat) (x := Int32.ofInt ((iC s2019 62 (c).toNat) % 12)) Fs2019 (show 103 ∈ _ by decide)
          rw [← hs2022] at Fs2022
          have ws2022_52 : iI s2022 52 = iI s2019 52 := by rw [hs2022]; rfl
          have ws2022_53 : iI s2022 53 = iI s2019 53 := by rw [hs2022]; rfl
          have ws2022_43 : iI s2022 43 = iI s2019 43 := by rw [hs2022]; rfl
          have ws2022_44 : iI s2022 44 = iI s2019 44 := by rw [hs2022]; rfl
          refine z_aload_n X (x := A 113) (show cdA 1 233 = some (.aload_n 0, 1, 0, 0, 0) from rfl) (List.Mem.tail _ (List.Mem.head _)) ?_
          refine s_getR X 113 (show cdA 1 234 = some (.getfield 32, 3, 0, 10, 0) from rfl) (by decide) rfl rfl ?_
          refine z_aload_n X (x := A 113) (show cdA 1 237 = some (.aload_n 0, 1, 0, 0, 0) from rfl) (List.Mem.tail _ (List.Mem.head _)) ?_
          refine z_getI X 113 (show cdA 1 238 = some (.getfield 72, 3, 0, 7, 0) from rfl) (by decide) rfl rfl ?_
          have b2023 : (0 : Int) ≤ iI s2022 53 ∧ iI s2022 53 ≤ 66 := Is2022.1 53
          refine z_load X (x := y2015) (show cdA 1 241 = some (.iload 7, 2, 0, 0, 0) from rfl) (List.Mem.head _) ?_
          refine z_ast X 120 (show cdA 1 243 = some (.iastore, 1, 0, 0, 0) from rfl) (by decide) rfl (by first | exact b2023.1 | omega) (show (iI s2022 53) < 66 by first | exact oq_3af0036b ws2022_53 ws2019_53 ws2013_53 ws2009_53 g2006 b2005.2 hi.2.2 | omega) (by decide) ?_
          obtain ⟨s2024, hs2024⟩ : ∃ x0, x0 = uC s2022 104 ((iI s2022 53)).toNat (Int32.ofInt y2015) := ⟨_, rfl⟩
          rw [← hs2024]
          have Is2024 : Bd s2024 := by rw [hs2024]; exact bd_C Is2022 (show ((-2147483648) : Int) ≤ y2015 ∧ y2015 ≤ 2147483647 by first | exact ⟨hy2015.1, hy2015.2⟩ | omega) hy2015
          have Fs2024 := fm_C (i := ((iI s2022 53)).toNat) (x := Int32.ofInt y2015) Fs2022 (show 104 ∈ _ by decide)
          rw [← hs2024] at Fs2024
          have ws2024_52 : iI s2024 52 = iI s2022 52 := by rw [hs2024]; rfl
          have ws2024_53 : iI s2024 53 = iI s2022 53 := by rw [hs2024]; rfl
          have ws2024_43 : iI s2024 43 = iI s2022 43 := by rw [hs2024]; rfl
          have ws2024_44 : iI s2024 44 = iI s2022 44 := by rw [hs2024]; rfl
          refine z_aload_n X (x := A 113) (show cdA 1 244 = some (.aload_n 0, 1, 0, 0, 0) from rfl) (List.Mem.tail _ (List.Mem.head _)) ?_
          refine w_dup X.1 (ax_d X (show cdA 1 245 = some (.dup, 1, 0, 0, 0) from rfl)) rfl ?_
          refine z_getI X 113 (show cdA 1 246 = some (.getfield 72, 3, 0, 7, 0) from rfl) (by decide) rfl rfl ?_
          have b2025 : (0 : Int) ≤ iI s2024 53 ∧ iI s2024 53 ≤ 66 := Is2024.1 53
          refine z_const X (show cdA 1 249 = some (.iconst 1, 1, 0, 0, 0) from rfl) ?_
          refine z_add X (show cdA 1 250 = some (.iadd, 1, 0, 0, 0) from rfl) ?_
          refine s_putI X 113 (show cdA 1 251 = some (.putfield 72, 3, 0, 7, 0) from rfl) (by decide) rfl rfl (by decide) rfl rfl rfl ?_
          obtain ⟨s2026, hs2026⟩ : ∃ x0, x0 = uI s2024 53 (Int32.ofInt ((iI s2024 53) + 1)) := ⟨_, rfl⟩
          rw [← hs2026]
          have Is2026 : Bd s2026 := by rw [hs2026]; exact bd_I Is2024 (show (0 : Int) ≤ ((iI s2024 53) + 1) ∧ ((iI s2024 53) + 1) ≤ 66 by first | exact ⟨oq_54f49eb5 b2025.1, oq_d0eb7b2e ws2024_53 ws2022_53 ws2019_53 ws2013_53 ws2009_53 g2006 b2005.2 hi.2.2⟩ | omega) ⟨by first | exact oq_74de1e16 b2025.1 | omega, by first | exact oq_d99c2177 b2025.2 | omega⟩
          have Fs2026 := fm_I (x := Int32.ofInt ((iI s2024 53) + 1)) Fs2024 (show 53 ∈ _ by decide)
          rw [← hs2026] at Fs2026
          have vs2026 : iI s2026 53 = ((iI s2024 53) + 1) := by rw [hs2026]; exact iI_u ⟨by first | exact oq_74de1e16 b2025.1 | omega, by first | exact oq_d99c2177 b2025.2 | omega⟩
          have ws2026_52 : iI s2026 52 = iI s2024 52 := by rw [hs2026]; rfl
          have ws2026_43 : iI s2026 43 = iI s2024 43 := by rw [hs2026]; rfl
          have ws2026_44 : iI s2026 44 = iI s2024 44 := by rw [hs2026]; rfl
          refine z_inc X (x := c) (lv' := [(6, .int (Int32.ofInt (c + 1))), (7, .int (Int32.ofInt y2015)), (0, .ref (A 113)), (1, .long av), (3, .long bv)]) (show cdA 1 254 = some (.iinc 6 1, 3, 0, 0, 0) from rfl) (by decide) (List.Mem.tail _ (List.Mem.tail _ (List.Mem.tail _ (List.Mem.tail _ (List.Mem.head _))))) (fun _ h => h) ?_
          refine z_goto X (t := 133) (show cdA 1 257 = some (.goto (-124), 3, 0, 0, 0) from rfl) (by decide) ?_
          refine WS_lv (lv := [(0, .ref (A 113)), (1, .long av), (3, .long bv), (6, .int (Int32.ofInt (c + 1)))]) (List.forall_mem_cons.mpr ⟨(List.Mem.tail _ (List.Mem.tail _ (List.Mem.head _))), (List.forall_mem_cons.mpr ⟨(List.Mem.tail _ (List.Mem.tail _ (List.Mem.tail _ (List.Mem.head _)))), (List.forall_mem_cons.mpr ⟨(List.Mem.tail _ (List.Mem.tail _ (List.Mem.tail _ (List.Mem.tail _ (List.Mem.head _))))), (List.forall_mem_cons.mpr ⟨(List.Mem.head _), (fun q h => absurd h List.not_mem_nil)⟩)⟩)⟩)⟩) ?_
          exact ih _ av bv (c + 1) Is2026 Fs2026 (by first | exact ⟨oq_54f49eb5 hi.1, oq_319a18a4 g2006 b2005.2, oq_6fc60775 vs2026 ws2024_53 ws2022_53 ws2019_53 ws2013_53 ws2009_53 hi.2.2⟩ | omega) (by first | exact qk_me hm (by decide) (oq_dd0e9829 g2006 b2005.2) | omega) kx
  refine z_aload_n X (x := A 113) (show cdA 1 0 = some (.aload_n 0, 1, 0, 0, 0) from rfl) (List.Mem.head _) ?_
  refine s_getR X 113 (show cdA 1 1 = some (.getfield 37, 3, 0, 11, 0) from rfl) (by decide) rfl rfl ?_
  refine z_const X (show cdA 1 4 = some (.iconst 4, 1, 0, 0, 0) from rfl) ?_
  refine w_lload_n X.1 (ax_d X (show cdA 1 5 = some (.lload_n 1, 1, 0, 0, 0) from rfl)) (x := aj) (List.Mem.tail _ (List.Mem.head _)) ?_
  refine z_callS X (rm := rmN 298) (As := [.long aj]) (st := [.int (Int32.ofInt 4), .ref (A 121)]) (show cdA 1 6 = some (.invokestatic 51, 3, 298, 1, 0) from rfl) rfl (by rw [E.1, E.2.1, E.2.2.1]; exact j_bitL G I ) ⟨by rw [E.2.2.2]; exact (show (rmN 298).frames + 1 ≤ (rmN 1).frames by decide), by rw [E.2.2.2]; exact (show 8 + (mNL (miB 298) + 11) + (rmN 298).locals ≤ (rmN 1).locals by decide), by rw [E.2.2.2]; exact (show 0 + (rmN 298).cells ≤ (rmN 1).cells by decide), by rw [E.2.2.2]; exact (show 0 + (rmN 298).slots ≤ (rmN 1).slots by decide)⟩ (Nat.le_of_ble_eq_true rfl) (fun vv s5 hq => ?_) (fun ee s5 hq => ?_)
  rotate_left
  · obtain ⟨Is5, Fs5, e6, hv, hrs5, hps5⟩ := hq; cases hv
  obtain ⟨Is5, Fs5, e6, hv, hrs5, hps5⟩ := hq
  cases hv
  have Gs5 := fm_ts F Fs5 (by decide) (by decide)
  have ws5_52 : iI s5 52 = iI s 52 := fm_i Fs5 (by decide)
  have ws5_53 : iI s5 53 = iI s 53 := fm_i Fs5 (by decide)
  have ws5_43 : iI s5 43 = iI s 43 := fm_i Fs5 (by decide)
  have ws5_44 : iI s5 44 = iI s 44 := fm_i Fs5 (by decide)
  show WS k 9 [(0, .ref (A 113)), (1, .long aj), (3, .long bj), (5, .int (Int32.ofInt x))] [.int (Int32.ofInt e6), .int (Int32.ofInt 4), .ref (A 121)] (Wd A dT s5) 0 0
  refine w_lload_n X.1 (ax_d X (show cdA 1 9 = some (.lload_n 3, 1, 0, 0, 0) from rfl)) (x := bj) (List.Mem.tail _ (List.Mem.tail _ (List.Mem.head _))) ?_
  refine z_callS X (rm := rmN 298) (As := [.long bj]) (st := [.int (Int32.ofInt e6), .int (Int32.ofInt 4), .ref (A 121)]) (show cdA 1 10 = some (.invokestatic 51, 3, 298, 1, 0) from rfl) rfl (by rw [E.1, E.2.1, E.2.2.1]; exact j_bitL G Is5 ) ⟨by rw [E.2.2.2]; exact (show (rmN 298).frames + 1 ≤ (rmN 1).frames by decide), by rw [E.2.2.2]; exact (show 8 + (mNL (miB 298) + 11) + (rmN 298).locals ≤ (rmN 1).locals by decide), by rw [E.2.2.2]; exact (show 0 + (rmN 298).cells ≤ (rmN 1).cells by decide), by rw [E.2.2.2]; exact (show 0 + (rmN 298).slots ≤ (rmN 1).slots by decide)⟩ (Nat.le_of_ble_eq_true rfl) (fun vv s7 hq => ?_) (fun ee s7 hq => ?_)
  rotate_left
  · obtain ⟨Is7, Fs7, e8, hv, hrs7, hps7⟩ := hq; cases hv
  obtain ⟨Is7, Fs7, e8, hv, hrs7, hps7⟩ := hq
  cases hv
  have Gs7 := fm_ts Gs5 Fs7 (by decide) (by decide)
  have ws7_52 : iI s7 52 = iI s5 52 := fm_i Fs7 (by decide)
  have ws7_53 : iI s7 53 = iI s5 53 := fm_i Fs7 (by decide)
  have ws7_43 : iI s7 43 = iI s5 43 := fm_i Fs7 (by decide)
  have ws7_44 : iI s7 44 = iI s5 44 := fm_i Fs7 (by decide)
  show WS k 13 [(0, .ref (A 113)), (1, .long aj), (3, .long bj), (5, .int (Int32.ofInt x))] [.int (Int32.ofInt e8), .int (Int32.ofInt e6), .int (Int32.ofInt 4), .ref (A 121)] (Wd A dT s7) 0 0
  refine z_add X (show cdA 1 13 = some (.iadd, 1, 0, 0, 0) from rfl) ?_
  refine z_any (fun y9 hy9 => ?_)
  refine z_ast X 121 (show cdA 1 14 = some (.iastore, 1, 0, 0, 0) from rfl) (by decide) rfl (by decide) (show 4 < 7 by decide) (by decide) ?_
  obtain ⟨s10, hs10⟩ : ∃ x0, x0 = uC s7 105 (4 : Int).toNat (Int32.ofInt y9) := ⟨_, rfl⟩
  rw [← hs10]
  have Is10 : Bd s10 := by rw [hs10]; exact bd_C Is7 (show ((-2147483648) : Int) ≤ y9 ∧ y9 ≤ 2147483647 by first | exact ⟨hy9.1, hy9.2⟩ | omega) hy9
  have Fs10 := fm_C (i := (4 : Int).toNat) (x := Int32.ofInt y9) Gs7 (show 105 ∈ _ by decide)
  rw [← hs10] at Fs10
  have ws10_52 : iI s10 52 = iI s7 52 := by rw [hs10]; rfl
  have ws10_53 : iI s10 53 = iI s7 53 := by rw [hs10]; rfl
  have ws10_43 : iI s10 43 = iI s7 43 := by rw [hs10]; rfl
  have ws10_44 : iI s10 44 = iI s7 44 := by rw [hs10]; rfl
  refine z_aload_n X (x := A 113) (show cdA 1 15 = some (.aload_n 0, 1, 0, 0, 0) from rfl) (List.Mem.head _) ?_
  refine s_getR X 113 (show cdA 1 16 = some (.getfield 37, 3, 0, 11, 0) from rfl) (by decide) rfl rfl ?_
  refine z_const X (show cdA 1 19 = some (.iconst 5, 1, 0, 0, 0) from rfl) ?_
  refine w_lload_n X.1 (ax_d X (show cdA 1 20 = some (.lload_n 1, 1, 0, 0, 0) from rfl)) (x := aj) (List.Mem.tail _ (List.Mem.head _)) ?_
  refine z_callS X (rm := rmN 298) (As := [.long aj]) (st := [.int (Int32.ofInt 5), .ref (A 121)]) (show cdA 1 21 = some (.invokestatic 51, 3, 298, 1, 0) from rfl) rfl (by rw [E.1, E.2.1, E.2.2.1]; exact j_bitL G Is10 ) ⟨by rw [E.2.2.2]; exact (show (rmN 298).frames + 1 ≤ (rmN 1).frames by decide), by rw [E.2.2.2]; exact (show 8 + (mNL (miB 298) + 11) + (rmN 298).locals ≤ (rmN 1).locals by decide), by rw [E.2.2.2]; exact (show 0 + (rmN 298).cells ≤ (rmN 1).cells by decide), by rw [E.2.2.2]; exact (show 0 + (rmN 298).slots ≤ (rmN 1).slots by decide)⟩ (Nat.le_of_ble_eq_true rfl) (fun vv s11 hq => ?_) (fun ee s11 hq => ?_)
  rotate_left
  · obtain ⟨Is11, Fs11, e12, hv, hrs11, hps11⟩ := hq; cases hv
  obtain ⟨Is11, Fs11, e12, hv, hrs11, hps11⟩ := hq
  cases hv
  have Gs11 := fm_ts Fs10 Fs11 (by decide) (by decide)
  have ws11_52 : iI s11 52 = iI s10 52 := fm_i Fs11 (by decide)
  have ws11_53 : iI s11 53 = iI s10 53 := fm_i Fs11 (by decide)
  have ws11_43 : iI s11 43 = iI s10 43 := fm_i Fs11 (by decide)
  have ws11_44 : iI s11 44 = iI s10 44 := fm_i Fs11 (by decide)
  show WS k 24 [(0, .ref (A 113)), (1, .long aj), (3, .long bj), (5, .int (Int32.ofInt x))] [.int (Int32.ofInt e12), .int (Int32.ofInt 5), .ref (A 121)] (Wd A dT s11) 0 0
  refine z_ast X 121 (show cdA 1 24 = some (.iastore, 1, 0, 0, 0) from rfl) (by decide) rfl (by decide) (show 5 < 7 by decide) (by decide) ?_
  obtain ⟨s13, hs13⟩ : ∃ x0, x0 = uC s11 105 (5 : Int).toNat (Int32.ofInt e12) := ⟨_, rfl⟩
  rw [← hs13]
  have Is13 : Bd s13 := by rw [hs13]; exact bd_C Is11 (show ((-2147483648) : Int) ≤ e12 ∧ e12 ≤ 2147483647 by omega) hrs11
  have Fs13 := fm_C (i := (5 : Int).toNat) (x := Int32.ofInt e12) Gs11 (show 105 ∈ _ by decide)
  rw [← hs13] at Fs13
  have ws13_52 : iI s13 52 = iI s11 52 := by rw [hs13]; rfl
  have ws13_53 : iI s13 53 = iI s11 53 := by rw [hs13]; rfl
  have ws13_43 : iI s13 43 = iI s11 43 := by rw [hs13]; rfl
  have ws13_44 : iI s13 44 = iI s11 44 := by rw [hs13]; rfl
  refine z_aload_n X (x := A 113) (show cdA 1 25 = some (.aload_n 0, 1, 0, 0, 0) from rfl) (List.Mem.head _) ?_
  refine s_getR X 113 (show cdA 1 26 = some (.getfield 37, 3, 0, 11, 0) from rfl) (by decide) rfl rfl ?_
  refine z_bipush X (show cdA 1 29 = some (.bipush 6, 2, 0, 0, 6) from rfl) ?_
  refine z_load X (x := x) (show cdA 1 31 = some (.iload 5, 2, 0, 0, 0) from rfl) (List.Mem.tail _ (List.Mem.tail _ (List.Mem.tail _ (List.Mem.head _)))) ?_
  refine z_ast X 121 (show cdA 1 33 = some (.iastore, 1, 0, 0, 0) from rfl) (by decide) rfl (by decide) (show 6 < 7 by decide) (by decide) ?_
  obtain ⟨s14, hs14⟩ : ∃ x0, x0 = uC s13 105 (6 : Int).toNat (Int32.ofInt x) := ⟨_, rfl⟩
  rw [← hs14]
  have Is14 : Bd s14 := by rw [hs14]; exact bd_C Is13 (show ((-2147483648) : Int) ≤ x ∧ x ≤ 2147483647 by first | exact ⟨p0.1, p0.2⟩ | omega) ⟨by first | exact p0.1 | omega, by first | exact p0.2 | omega⟩
  have Fs14 := fm_C (i := (6 : Int).toNat) (x := Int32.ofInt x) Fs13 (show 105 ∈ _ by decide)
  rw [← hs14] at Fs14
  have ws14_52 : iI s14 52 = iI s13 52 := by rw [hs14]; rfl
  have ws14_53 : iI s14 53 = iI s13 53 := by rw [hs14]; rfl
  have ws14_43 : iI s14 43 = iI s13 43 := by rw [hs14]; rfl
  have ws14_44 : iI s14 44 = iI s13 44 := by rw [hs14]; rfl
  refine z_aload_n X (x := A 113) (show cdA 1 34 = some (.aload_n 0, 1, 0, 0, 0) from rfl) (List.Mem.head _) ?_
  refine z_const X (show cdA 1 35 = some (.iconst 0, 1, 0, 0, 0) from rfl) ?_
  refine s_putI X 113 (show cdA 1 36 = some (.putfield 57, 3, 0, 2, 0) from rfl) (by decide) rfl rfl (by decide) rfl rfl rfl ?_
  obtain ⟨s15, hs15⟩ : ∃ x0, x0 = uI s14 52 (Int32.ofInt 0) := ⟨_, rfl⟩
  rw [← hs15]
  have Is15 : Bd s15 := by rw [hs15]; exact bd_I Is14 (show (0 : Int) ≤ 0 ∧ 0 ≤ 12 by first | exact ⟨by decide, by decide⟩ | omega) (by decide)
  have Fs15 := fm_I (x := Int32.ofInt 0) Fs14 (show 52 ∈ _ by decide)
  rw [← hs15] at Fs15
  have vs15 : iI s15 52 = 0 := by rw [hs15]; exact iI_u (by decide)
  have ws15_53 : iI s15 53 = iI s14 53 := by rw [hs15]; rfl
  have ws15_43 : iI s15 43 = iI s14 43 := by rw [hs15]; rfl
  have ws15_44 : iI s15 44 = iI s14 44 := by rw [hs15]; rfl
  refine z_const X (show cdA 1 39 = some (.iconst 0, 1, 0, 0, 0) from rfl) ?_
  refine z_store X (lv' := [(6, .int (Int32.ofInt 0)), (0, .ref (A 113)), (1, .long aj), (3, .long bj), (5, .int (Int32.ofInt x))]) (show cdA 1 40 = some (.istore 6, 2, 0, 0, 0) from rfl) (by decide) (fun _ h => h) ?_
  refine WS_lv (lv := [(0, .ref (A 113)), (1, .long aj), (3, .long bj), (6, .int (Int32.ofInt 0))]) (List.forall_mem_cons.mpr ⟨(List.Mem.tail _ (List.Mem.head _)), (List.forall_mem_cons.mpr ⟨(List.Mem.tail _ (List.Mem.tail _ (List.Mem.head _))), (List.forall_mem_cons.mpr ⟨(List.Mem.tail _ (List.Mem.tail _ (List.Mem.tail _ (List.Mem.head _)))), (List.forall_mem_cons.mpr ⟨(List.Mem.head _), (fun q h => absurd h List.not_mem_nil)⟩)⟩)⟩)⟩) ?_
  refine L42 ((12 - 0 : Int).toNat + 1) s15 aj bj 0 Is15 Fs15 (by first | exact ⟨by decide, by decide, oq_1af0b4f8 vs15⟩ | omega) (Nat.lt_succ_self _) ?_
  intro s16 x17 Is16 Fs16 hs16
  have b18 : (0 : Int) ≤ iI s16 52 ∧ iI s16 52 ≤ 12 := Is16.1 52
  have b19 : (0 : Int) ≤ iI s16 53 ∧ iI s16 53 ≤ 66 := Is16.1 53
  have b20 : (0 : Int) ≤ iI s16 43 ∧ iI s16 43 ≤ 12 := Is16.1 43
  have b21 : (0 : Int) ≤ iI s16 44 ∧ iI s16 44 ≤ 66 := Is16.1 44
  refine z_aload_n X (x := A 113) (show cdA 1 125 = some (.aload_n 0, 1, 0, 0, 0) from rfl) (List.Mem.head _) ?_
  refine z_const X (show cdA 1 126 = some (.iconst 0, 1, 0, 0, 0) from rfl) ?_
  refine s_putI X 113 (show cdA 1 127 = some (.putfield 72, 3, 0, 7, 0) from rfl) (by decide) rfl rfl (by decide) rfl rfl rfl ?_
  obtain ⟨s22, hs22⟩ : ∃ x0, x0 = uI s16 53 (Int32.ofInt 0) := ⟨_, rfl⟩
  rw [← hs22]
  have Is22 : Bd s22 := by rw [hs22]; exact bd_I Is16 (show (0 : Int) ≤ 0 ∧ 0 ≤ 66 by first | exact ⟨by decide, by decide⟩ | omega) (by decide)
  have Fs22 := fm_I (x := Int32.ofInt 0) Fs16 (show 53 ∈ _ by decide)
  rw [← hs22] at Fs22
  have vs22 : iI s22 53 = 0 := by rw [hs22]; exact iI_u (by decide)
  have ws22_52 : iI s22 52 = iI s16 52 := by rw [hs22]; rfl
  have ws22_43 : iI s22 43 = iI s16 43 := by rw [hs22]; rfl
  have ws22_44 : iI s22 44 = iI s16 44 := by rw [hs22]; rfl
  refine z_const X (show cdA 1 130 = some (.iconst 0, 1, 0, 0, 0) from rfl) ?_
  refine z_store X (lv' := [(6, .int (Int32.ofInt 0)), (0, .ref (A 113)), (1, .long aj), (3, .long bj)]) (show cdA 1 131 = some (.istore 6, 2, 0, 0, 0) from rfl) (by decide) (fun _ h => h) ?_
  refine WS_lv (lv := [(0, .ref (A 113)), (1, .long aj), (3, .long bj), (6, .int (Int32.ofInt 0))]) (List.forall_mem_cons.mpr ⟨(List.Mem.tail _ (List.Mem.head _)), (List.forall_mem_cons.mpr ⟨(List.Mem.tail _ (List.Mem.tail _ (List.Mem.head _))), (List.forall_mem_cons.mpr ⟨(List.Mem.tail _ (List.Mem.tail _ (List.Mem.tail _ (List.Mem.head _)))), (List.forall_mem_cons.mpr ⟨(List.Mem.head _), (fun q h => absurd h List.not_mem_nil)⟩)⟩)⟩)⟩) ?_
  refine L133 ((66 - 0 : Int).toNat + 1) s22 aj bj 0 Is22 Fs22 (by first | exact ⟨by decide, by decide, oq_1af0b4f8 vs22⟩ | omega) (Nat.lt_succ_self _) ?_
  intro s23 x24 Is23 Fs23 hs23
  have b25 : (0 : Int) ≤ iI s23 52 ∧ iI s23 52 ≤ 12 := Is23.1 52
  have b26 : (0 : Int) ≤ iI s23 53 ∧ iI s23 53 ≤ 66 := Is23.1 53
  have b27 : (0 : Int) ≤ iI s23 43 ∧ iI s23 43 ≤ 12 := Is23.1 43
  have b28 : (0 : Int) ≤ iI s23 44 ∧ iI s23 44 ≤ 66 := Is23.1 44
  exact w_vret X.1 q hRt (ax_d X (show cdA 1 260 = some (.return_, 1, 0, 0, 0) from rfl)) (Nat.zero_le _) (Nat.zero_le _) ⟨_, rfl, Is23, Fs23, rfl, trivial⟩
set_option maxRecDepth 4000 in
theorem c0_hear_113 (G : GX l s0 D tys a0 dT) (I : Bd s) {x y : Int} (p0 : 0 ≤ x ∧ x ≤ 23) (p1 : rng y) : CT l s0 D A dT 3 (rmN 3) [.ref (A 113), .int (Int32.ofInt x), .int (Int32.ofInt y)] s (fun o t => Bd t ∧ Fm [] [105] s t ∧ o = .inl none ∧ (True)) := by
  refine ct_ofX G (by decide) (Nat.le_of_ble_eq_true rfl) (fun k X E ET hRt hXt q => ?_)
  show WS k 0 [(0, .ref (A 113)), (1, .int (Int32.ofInt x)), (2, .int (Int32.ofInt y))] [] _ 0 0
  have F : Fm [] [105] s s := fm_rf _ _ s
  have b1 : (0 : Int) ≤ iI s 52 ∧ iI s 52 ≤ 12 := I.1 52
  have b2 : (0 : Int) ≤ iI s 53 ∧ iI s 53 ≤ 66 := I.1 53
  have L20 : ∀ (n : Nat) (t : PS) (yv ro wa cr ov cl c : Int), Bd t → Fm [] [105] s t → (rng yv ∧ (0 ≤ ro ∧ ro ≤ 276) ∧ rng wa ∧ rng cr ∧ rng ov ∧ rng cl ∧ 0 ≤ c ∧ c ≤ 12) → (12 - c : Int).toNat < n → (∀ (t' : PS) (wa' cr' ov' cl' c' : Int), Bd t' → Fm [] [105] s t' → (rng yv ∧ (0 ≤ ro ∧ ro ≤ 276) ∧ rng wa' ∧ rng cr' ∧ rng ov' ∧ rng cl' ∧ 0 ≤ c' ∧ c' ≤ 12) → WS k 106 [(0, .ref (A 113)), (2, .int (Int32.ofInt yv)), (3, .int (Int32.ofInt ro)), (4, .int (Int32.ofInt wa')), (5, .int (Int32.ofInt cr')), (6, .int (Int32.ofInt ov')), (7, .int (Int32.ofInt cl')), (8, .int (Int32.ofInt c'))] [] (Wd A dT t') 0 0) → WS k 20 [(0, .ref (A 113)), (2, .int (Int32.ofInt yv)), (3, .int (Int32.ofInt ro)), (4, .int (Int32.ofInt wa)), (5, .int (Int32.ofInt cr)), (6, .int (Int32.ofInt ov)), (7, .int (Int32.ofInt cl)), (8, .int (Int32.ofInt c))] [] (Wd A dT t) 0 0 := by
    intro n
    induction n with
    | zero =>
      intro t yv ro wa cr ov cl c I F hi hm kx
      exact absurd hm (Nat.not_lt_zero _)
    | succ n ih =>
      intro t yv ro wa cr ov cl c I F hi hm kx
      have b1001 : (0 : Int) ≤ iI t 52 ∧ iI t 52 ≤ 12 := I.1 52
      have b1002 : (0 : Int) ≤ iI t 53 ∧ iI t 53 ≤ 66 := I.1 53
      refine z_load X (x := c) (show cdA 3 20 = some (.iload 8, 2, 0, 0, 0) from rfl) (List.Mem.tail _ (List.Mem.tail _ (List.Mem.tail _ (List.Mem.tail _ (List.Mem.tail _ (List.Mem.tail _ (List.Mem.tail _ (List.Mem.head _)))))))) ?_
      refine z_aload_n X (x := A 113) (show cdA 3 22 = some (.aload_n 0, 1, 0, 0, 0) from rfl) (List.Mem.head _) ?_
      refine z_getI X 113 (show cdA 3 23 = some (.getfield 57, 3, 0, 2, 0) from rfl) (by decide) rfl rfl ?_
      have b1003 : (0 : Int) ≤ iI t 52 ∧ iI t 52 ≤ 12 := I.1 52
      refine z_icmp_ge X (t := 106) (show cdA 3 26 = some (.if_icmp .ge 80, 3, 3, 0, 0) from rfl) (by decide) ⟨by first | exact oq_fa4e5087 hi.2.2.2.2.2.2.1 | omega, by first | exact oq_78843a64 hi.2.2.2.2.2.2.2 | omega⟩ (rng_to _) (fun g1004 => ?_) (fun g1004 => ?_)
      ·
        refine WS_lv (lv := [(0, .ref (A 113)), (2, .int (Int32.ofInt yv)), (3, .int (Int32.ofInt ro)), (4, .int (Int32.ofInt wa)), (5, .int (Int32.ofInt cr)), (6, .int (Int32.ofInt ov)), (7, .int (Int32.ofInt cl)), (8, .int (Int32.ofInt c))]) (List.forall_mem_cons.mpr ⟨(List.Mem.head _), (List.forall_mem_cons.mpr ⟨(List.Mem.tail _ (List.Mem.head _)), (List.forall_mem_cons.mpr ⟨(List.Mem.tail _ (List.Mem.tail _ (List.Mem.head _))), (List.forall_mem_cons.mpr ⟨(List.Mem.tail _ (List.Mem.tail _ (List.Mem.tail _ (List.Mem.head _)))), (List.forall_mem_cons.mpr ⟨(List.Mem.tail _ (List.Mem.tail _ (List.Mem.tail _ (List.Mem.tail _ (List.Mem.head _))))), (List.forall_mem_cons.mpr ⟨(List.Mem.tail _ (List.Mem.tail _ (List.Mem.tail _ (List.Mem.tail _ (List.Mem.tail _ (List.Mem.head _)))))), (List.forall_mem_cons.mpr ⟨(List.Mem.tail _ (List.Mem.tail _ (List.Mem.tail _ (List.Mem.tail _ (List.Mem.tail _ (List.Mem.tail _ (List.Mem.head _))))))), (List.forall_mem_cons.mpr ⟨(List.Mem.tail _ (List.Mem.tail _ (List.Mem.tail _ (List.Mem.tail _ (List.Mem.tail _ (List.Mem.tail _ (List.Mem.tail _ (List.Mem.head _)))))))), (fun q h => absurd h List.not_mem_nil)⟩)⟩)⟩)⟩)⟩)⟩)⟩)⟩) ?_
        exact kx _ wa cr ov cl c I F (by first | exact ⟨And.intro (hi.1.1) (hi.1.2), And.intro (hi.2.1.1) (hi.2.1.2), And.intro (hi.2.2.1.1) (hi.2.2.1.2), And.intro (hi.2.2.2.1.1) (hi.2.2.2.1.2), And.intro (hi.2.2.2.2.1.1) (hi.2.2.2.2.1.2), And.intro (hi.2.2.2.2.2.1.1) (hi.2.2.2.2.2.1.2), hi.2.2.2.2.2.2.1, hi.2.2.2.2.2.2.2⟩ | omega)
      ·
        refine z_aload_n X (x := A 113) (show cdA 3 29 = some (.aload_n 0, 1, 0, 0, 0) from rfl) (List.Mem.head _) ?_
        refine s_getR X 113 (show cdA 3 30 = some (.getfield 9, 3, 0, 3, 0) from rfl) (by decide) rfl rfl ?_
        refine z_load X (x := c) (show cdA 3 33 = some (.iload 8, 2, 0, 0, 0) from rfl) (List.Mem.tail _ (List.Mem.tail _ (List.Mem.tail _ (List.Mem.tail _ (List.Mem.tail _ (List.Mem.tail _ (List.Mem.tail _ (List.Mem.head _)))))))) ?_
        refine z_ald X 114 (show cdA 3 35 = some (.iaload, 1, 0, 0, 0) from rfl) (by decide) rfl (by first | exact hi.2.2.2.2.2.2.1 | omega) (show c < 12 by first | exact oq_f36e82a8 g1004 b1003.2 | omega) (by decide) ?_
        have b1005 : (0 : Int) ≤ iC t 98 (c).toNat ∧ iC t 98 (c).toNat ≤ 11 := I.2 98 _ (show (c).toNat < 12 by first | exact oq_2dac6850 g1004 b1003.2 | omega)
        refine z_load_n X (x := yv) (show cdA 3 36 = some (.iload_n 2, 1, 0, 0, 0) from rfl) (List.Mem.tail _ (List.Mem.head _)) ?_
        have N1006 : ∀ e1007 : Int, ((((iC t 98 (c).toNat) ≠ yv) ∧ ((0 : Int) ≤ iC t 98 (c).toNat ∧ iC t 98 (c).toNat ≤ 11) ∧ ((0 : Int) ≤ iC t 67 ((ro + (iC t 98 (c).toNat))).toNat ∧ iC t 67 ((ro + (iC t 98 (c).toNat))).toNat ≤ 50) ∧ e1007 = (iC t 67 ((ro + (iC t 98 (c).toNat))).toNat)) ∨ (((iC t 98 (c).toNat) = yv) ∧ e1007 = 0)) → WS k 61 [(0, .ref (A 113)), (2, .int (Int32.ofInt yv)), (3, .int (Int32.ofInt ro)), (4, .int (Int32.ofInt wa)), (5, .int (Int32.ofInt cr)), (6, .int (Int32.ofInt ov)), (7, .int (Int32.ofInt cl)), (8, .int (Int32.ofInt c))] [.int (Int32.ofInt e1007)] (Wd A dT t) 0 0 := by
          intro e1007 he1007
          refine z_store X (lv' := [(9, .int (Int32.ofInt e1007)), (0, .ref (A 113)), (2, .int (Int32.ofInt yv)), (3, .int (Int32.ofInt ro)), (4, .int (Int32.ofInt wa)), (5, .int (Int32.ofInt cr)), (6, .int (Int32.ofInt ov)), (7, .int (Int32.ofInt cl)), (8, .int (Int32.ofInt c))]) (show cdA 3 61 = some (.istore 9, 2, 0, 0, 0) from rfl) (by decide) (fun _ h => h) ?_
          refine z_load X (x := wa) (show cdA 3 63 = some (.iload 4, 2, 0, 0, 0) from rfl) (List.Mem.tail _ (List.Mem.tail _ (List.Mem.tail _ (List.Mem.tail _ (List.Mem.head _))))) ?_
          refine z_load X (x := e1007) (show cdA 3 65 = some (.iload 9, 2, 0, 0, 0) from rfl) (List.Mem.head _) ?_
          refine z_add X (show cdA 3 67 = some (.iadd, 1, 0, 0, 0) from rfl) ?_
          refine z_any (fun y1008 hy1008 => ?_)
          refine z_store X (lv' := [(4, .int (Int32.ofInt y1008)), (9, .int (Int32.ofInt e1007)), (0, .ref (A 113)), (2, .int (Int32.ofInt yv)), (3, .int (Int32.ofInt ro)), (5, .int (Int32.ofInt cr)), (6, .int (Int32.ofInt ov)), (7, .int (Int32.ofInt cl)), (8, .int (Int32.ofInt c))]) (show cdA 3 68 = some (.istore 4, 2, 0, 0, 0) from rfl) (by decide) (fun _ h => h) ?_
          refine z_load X (x := ov) (show cdA 3 70 = some (.iload 6, 2, 0, 0, 0) from rfl) (List.Mem.tail _ (List.Mem.tail _ (List.Mem.tail _ (List.Mem.tail _ (List.Mem.tail _ (List.Mem.tail _ (List.Mem.head _))))))) ?_
          refine z_load X (x := e1007) (show cdA 3 72 = some (.iload 9, 2, 0, 0, 0) from rfl) (List.Mem.tail _ (List.Mem.head _)) ?_
          refine z_aload_n X (x := A 113) (show cdA 3 74 = some (.aload_n 0, 1, 0, 0, 0) from rfl) (List.Mem.tail _ (List.Mem.tail _ (List.Mem.head _))) ?_
          refine s_getR X 113 (show cdA 3 75 = some (.getfield 15, 3, 0, 4, 0) from rfl) (by decide) rfl rfl ?_
          refine z_load X (x := c) (show cdA 3 78 = some (.iload 8, 2, 0, 0, 0) from rfl) (List.Mem.tail _ (List.Mem.tail _ (List.Mem.tail _ (List.Mem.tail _ (List.Mem.tail _ (List.Mem.tail _ (List.Mem.tail _ (List.Mem.tail _ (List.Mem.head _))))))))) ?_
          refine z_ald X 115 (show cdA 3 80 = some (.iaload, 1, 0, 0, 0) from rfl) (by decide) rfl (by first | exact hi.2.2.2.2.2.2.1 | omega) (show c < 12 by first | exact oq_f36e82a8 g1004 b1003.2 | omega) (by decide) ?_
          have b1009 : ((-2147483648) : Int) ≤ iC t 99 (c).toNat ∧ iC t 99 (c).toNat ≤ 2147483647 := I.2 99 _ (show (c).toNat < 12 by first | exact oq_2dac6850 g1004 b1003.2 | omega)
          refine z_mul X (show cdA 3 81 = some (.imul, 1, 0, 0, 0) from rfl) ?_
          refine z_any (fun y1010 hy1010 => ?_)
          refine z_add X (show cdA 3 82 = some (.iadd, 1, 0, 0, 0) from rfl) ?_
          refine z_any (fun y1011 hy1011 => ?_)
          refine z_store X (lv' := [(6, .int (Int32.ofInt y1011)), (4, .int (Int32.ofInt y1008)), (9, .int (Int32.ofInt e1007)), (0, .ref (A 113)), (2, .int (Int32.ofInt yv)), (3, .int (Int32.ofInt ro)), (5, .int (Int32.ofInt cr)), (7, .int (Int32.ofInt cl)), (8, .int (Int32.ofInt c))]) (show cdA 3 83 = some (.istore 6, 2, 0, 0, 0) from rfl) (by decide) (fun _ h => h) ?_
          refine z_load X (x := cl) (show cdA 3 85 = some (.iload 7, 2, 0, 0, 0) from rfl) (List.Mem.tail _ (List.Mem.tail _ (List.Mem.tail _ (List.Mem.tail _ (List.Mem.tail _ (List.Mem.tail _ (List.Mem.tail _ (List.Mem.head _)))))))) ?_
          refine z_load X (x := e1007) (show cdA 3 87 = some (.iload 9, 2, 0, 0, 0) from rfl) (List.Mem.tail _ (List.Mem.tail _ (List.Mem.head _))) ?_
          refine z_aload_n X (x := A 113) (show cdA 3 89 = some (.aload_n 0, 1, 0, 0, 0) from rfl) (List.Mem.tail _ (List.Mem.tail _ (List.Mem.tail _ (List.Mem.head _)))) ?_
          refine s_getR X 113 (show cdA 3 90 = some (.getfield 21, 3, 0, 6, 0) from rfl) (by decide) rfl rfl ?_
          refine z_load X (x := c) (show cdA 3 93 = some (.iload 8, 2, 0, 0, 0) from rfl) (List.Mem.tail _ (List.Mem.tail _ (List.Mem.tail _ (List.Mem.tail _ (List.Mem.tail _ (List.Mem.tail _ (List.Mem.tail _ (List.Mem.tail _ (List.Mem.head _))))))))) ?_
          refine z_ald X 117 (show cdA 3 95 = some (.iaload, 1, 0, 0, 0) from rfl) (by decide) rfl (by first | exact hi.2.2.2.2.2.2.1 | omega) (show c < 12 by first | exact oq_f36e82a8 g1004 b1003.2 | omega) (by decide) ?_
          have b1012 : ((-2147483648) : Int) ≤ iC t 101 (c).toNat ∧ iC t 101 (c).toNat ≤ 2147483647 := I.2 101 _ (show (c).toNat < 12 by first | exact oq_2dac6850 g1004 b1003.2 | omega)
          refine z_mul X (show cdA 3 96 = some (.imul, 1, 0, 0, 0) from rfl) ?_
          refine z_any (fun y1013 hy1013 => ?_)
          refine z_add X (show cdA 3 97 = some (.iadd, 1, 0, 0, 0) from rfl) ?_
          refine z_any (fun y1014 hy1014 => ?_)
          refine z_store X (lv' := [(7, .int (Int32.ofInt y1014)), (6, .int (Int32.ofInt y1011)), (4, .int (Int32.ofInt y1008)), (9, .int (Int32.ofInt e1007)), (0, .ref (A 113)), (2, .int (Int32.ofInt yv)), (3, .int (Int32.ofInt ro)), (5, .int (Int32.ofInt cr)), (8, .int (Int32.ofInt c))]) (show cdA 3 98 = some (.istore 7, 2, 0, 0, 0) from rfl) (by decide) (fun _ h => h) ?_
          refine z_inc X (x := c) (lv' := [(8, .int (Int32.ofInt (c + 1))), (7, .int (Int32.ofInt y1014)), (6, .int (Int32.ofInt y1011)), (4, .int (Int32.ofInt y1008)), (9, .int (Int32.ofInt e1007)), (0, .ref (A 113)), (2, .int (Int32.ofInt yv)), (3, .int (Int32.ofInt ro)), (5, .int (Int32.ofInt cr))]) (show cdA 3 100 = some (.iinc 8 1, 3, 0, 0, 0) from rfl) (by decide) (List.Mem.tail _ (List.Mem.tail _ (List.Mem.tail _ (List.Mem.tail _ (List.Mem.tail _ (List.Mem.tail _ (List.Mem.tail _ (List.Mem.tail _ (List.Mem.head _))))))))) (fun _ h => h) ?_
          refine z_goto X (t := 20) (show cdA 3 103 = some (.goto (-83), 3, 0, 0, 0) from rfl) (by decide) ?_
          refine WS_lv (lv := [(0, .ref (A 113)), (2, .int (Int32.ofInt yv)), (3, .int (Int32.ofInt ro)), (4, .int (Int32.ofInt y1008)), (5, .int (Int32.ofInt cr)), (6, .int (Int32.ofInt y1011)), (7, .int (Int32.ofInt y1014)), (8, .int (Int32.ofInt (c + 1)))]) (List.forall_mem_cons.mpr ⟨(List.Mem.tail _ (List.Mem.tail _ (List.Mem.tail _ (List.Mem.tail _ (List.Mem.tail _ (List.Mem.head _)))))), (List.forall_mem_cons.mpr ⟨(List.Mem.tail _ (List.Mem.tail _ (List.Mem.tail _ (List.Mem.tail _ (List.Mem.tail _ (List.Mem.tail _ (List.Mem.head _))))))), (List.forall_mem_cons.mpr ⟨(List.Mem.tail _ (List.Mem.tail _ (List.Mem.tail _ (List.Mem.tail _ (List.Mem.tail _ (List.Mem.tail _ (List.Mem.tail _ (List.Mem.head _)))))))), (List.forall_mem_cons.mpr ⟨(List.Mem.tail _ (List.Mem.tail _ (List.Mem.tail _ (List.Mem.head _)))), (List.forall_mem_cons.mpr ⟨(List.Mem.tail _ (List.Mem.tail _ (List.Mem.tail _ (List.Mem.tail _ (List.Mem.tail _ (List.Mem.tail _ (List.Mem.tail _ (List.Mem.tail _ (List.Mem.head _))))))))), (List.forall_mem_cons.mpr ⟨(List.Mem.tail _ (List.Mem.tail _ (List.Mem.head _))), (List.forall_mem_cons.mpr ⟨(List.Mem.tail _ (List.Mem.head _)), (List.forall_mem_cons.mpr ⟨(List.Mem.head _), (fun q h => absurd h List.not_mem_nil)⟩)⟩)⟩)⟩)⟩)⟩)⟩)⟩) ?_
          exact ih _ yv ro y1008 cr y1011 y1014 (c + 1) I F (by first | exact ⟨And.intro (hi.1.1) (hi.1.2), And.intro (hi.2.1.1) (hi.2.1.2), And.intro (hy1008.1) (hy1008.2), And.intro (hi.2.2.2.1.1) (hi.2.2.2.1.2), And.intro (hy1011.1) (hy1011.2), And.intro (hy1014.1) (hy1014.2), oq_54f49eb5 hi.2.2.2.2.2.2.1, oq_4dae995e g1004 b1003.2⟩ | omega) (by first | exact qk_me hm (by decide) (oq_b575e8c1 g1004 b1003.2) | omega) kx
        refine z_icmp_ne X (t := 44) (show cdA 3 37 = some (.if_icmp .ne 7, 3, 1, 0, 0) from rfl) (by decide) (rng_to _) ⟨by first | exact hi.1.1 | omega, by first | exact hi.1.2 | omega⟩ (fun g1015 => ?_) (fun g1015 => ?_)
        ·
          refine z_aload_n X (x := A 113) (show cdA 3 44 = some (.aload_n 0, 1, 0, 0, 0) from rfl) (List.Mem.head _) ?_
          refine s_getR X 113 (show cdA 3 45 = some (.getfield 43, 3, 0, 0, 0) from rfl) (by decide) rfl rfl ?_
          refine s_getR X 68 (show cdA 3 48 = some (.getfield 87, 3, 9, 12, 0) from rfl) (by decide) rfl rfl ?_
          refine z_load_n X (x := ro) (show cdA 3 51 = some (.iload_n 3, 1, 0, 0, 0) from rfl) (List.Mem.tail _ (List.Mem.tail _ (List.Mem.head _))) ?_
          refine z_aload_n X (x := A 113) (show cdA 3 52 = some (.aload_n 0, 1, 0, 0, 0) from rfl) (List.Mem.head _) ?_
          refine s_getR X 113 (show cdA 3 53 = some (.getfield 9, 3, 0, 3, 0) from rfl) (by decide) rfl rfl ?_
          refine z_load X (x := c) (show cdA 3 56 = some (.iload 8, 2, 0, 0, 0) from rfl) (List.Mem.tail _ (List.Mem.tail _ (List.Mem.tail _ (List.Mem.tail _ (List.Mem.tail _ (List.Mem.tail _ (List.Mem.tail _ (List.Mem.head _)))))))) ?_
          refine z_ald X 114 (show cdA 3 58 = some (.iaload, 1, 0, 0, 0) from rfl) (by decide) rfl (by first | exact hi.2.2.2.2.2.2.1 | omega) (show c < 12 by first | exact oq_f36e82a8 g1004 b1003.2 | omega) (by decide) ?_
          have b1016 : (0 : Int) ≤ iC t 98 (c).toNat ∧ iC t 98 (c).toNat ≤ 11 := I.2 98 _ (show (c).toNat < 12 by first | exact oq_2dac6850 g1004 b1003.2 | omega)
          refine z_add X (show cdA 3 59 = some (.iadd, 1, 0, 0, 0) from rfl) ?_
          refine z_ald X 79 (show cdA 3 60 = some (.iaload, 1, 0, 0, 0) from rfl) (by decide) rfl (by first | exact oq_dd29f52d hi.2.1.1 b1016.1 | omega) (show (ro + (iC t 98 (c).toNat)) < 288 by first | exact oq_f94a0088 hi.2.1.2 b1016.2 | omega) (by decide) ?_
          have b1017 : (0 : Int) ≤ iC t 67 ((ro + (iC t 98 (c).toNat))).toNat ∧ iC t 67 ((ro + (iC t 98 (c).toNat))).toNat ≤ 50 := I.2 67 _ (show ((ro + (iC t 98 (c).toNat))).toNat < 288 by first | exact oq_3d7ae1dd hi.2.1.2 b1016.2 | omega)
          exact N1006 _ (Or.inl ⟨g1015, b1016, b1017, rfl⟩)
        ·
          refine z_const X (show cdA 3 40 = some (.iconst 0, 1, 0, 0, 0) from rfl) ?_
          refine z_goto X (t := 61) (show cdA 3 41 = some (.goto 20, 3, 0, 0, 0) from rfl) (by decide) ?_
          exact N1006 _ (Or.inr (⟨g1015, rfl⟩))
  have L109 : ∀ (n : Nat) (t : PS) (yv ro wa cr ov cl c : Int), Bd t → Fm [] [105] s t → (rng yv ∧ (0 ≤ ro ∧ ro ≤ 276) ∧ rng wa ∧ rng cr ∧ rng ov ∧ rng cl ∧ 0 ≤ c ∧ c ≤ 66) → (66 - c : Int).toNat < n → (∀ (t' : PS) (cr' c' : Int), Bd t' → Fm [] [105] s t' → (rng yv ∧ (0 ≤ ro ∧ ro ≤ 276) ∧ rng wa ∧ rng cr' ∧ rng ov ∧ rng cl ∧ 0 ≤ c' ∧ c' ≤ 66) → WS k 196 [(0, .ref (A 113)), (2, .int (Int32.ofInt yv)), (3, .int (Int32.ofInt ro)), (4, .int (Int32.ofInt wa)), (5, .int (Int32.ofInt cr')), (6, .int (Int32.ofInt ov)), (7, .int (Int32.ofInt cl)), (8, .int (Int32.ofInt c'))] [] (Wd A dT t') 0 0) → WS k 109 [(0, .ref (A 113)), (2, .int (Int32.ofInt yv)), (3, .int (Int32.ofInt ro)), (4, .int (Int32.ofInt wa)), (5, .int (Int32.ofInt cr)), (6, .int (Int32.ofInt ov)), (7, .int (Int32.ofInt cl)), (8, .int (Int32.ofInt c))] [] (Wd A dT t) 0 0 := by
    intro n
    induction n with
    | zero =>
      intro t yv ro wa cr ov cl c I F hi hm kx
      exact absurd hm (Nat.not_lt_zero _)
    | succ n ih =>
      intro t yv ro wa cr ov cl c I F hi hm kx
      have b2001 : (0 : Int) ≤ iI t 52 ∧ iI t 52 ≤ 12 := I.1 52
      have b2002 : (0 : Int) ≤ iI t 53 ∧ iI t 53 ≤ 66 := I.1 53
      refine z_load X (x := c) (show cdA 3 109 = some (.iload 8, 2, 0, 0, 0) from rfl) (List.Mem.tail _ (List.Mem.tail _ (List.Mem.tail _ (List.Mem.tail _ (List.Mem.tail _ (List.Mem.tail _ (List.Mem.tail _ (List.Mem.head _)))))))) ?_
      refine z_aload_n X (x := A 113) (show cdA 3 111 = some (.aload_n 0, 1, 0, 0, 0) from rfl) (List.Mem.head _) ?_
      refine z_getI X 113 (show cdA 3 112 = some (.getfield 72, 3, 0, 7, 0) from rfl) (by decide) rfl rfl ?_
      have b2003 : (0 : Int) ≤ iI t 53 ∧ iI t 53 ≤ 66 := I.1 53
      refine z_icmp_ge X (t := 196) (show cdA 3 115 = some (.if_icmp .ge 81, 3, 3, 0, 0) from rfl) (by decide) ⟨by first | exact oq_fa4e5087 hi.2.2.2.2.2.2.1 | omega, by first | exact oq_64f2e926 hi.2.2.2.2.2.2.2 | omega⟩ (rng_to _) (fun g2004 => ?_) (fun g2004 => ?_)
      ·
        refine WS_lv (lv := [(0, .ref (A 113)), (2, .int (Int32.ofInt yv)), (3, .int (Int32.ofInt ro)), (4, .int (Int32.ofInt wa)), (5, .int (Int32.ofInt cr)), (6, .int (Int32.ofInt ov)), (7, .int (Int32.ofInt cl)), (8, .int (Int32.ofInt c))]) (List.forall_mem_cons.mpr ⟨(List.Mem.head _), (List.forall_mem_cons.mpr ⟨(List.Mem.tail _ (List.Mem.head _)), (List.forall_mem_cons.mpr ⟨(List.Mem.tail _ (List.Mem.tail _ (List.Mem.head _))), (List.forall_mem_cons.mpr ⟨(List.Mem.tail _ (List.Mem.tail _ (List.Mem.tail _ (List.Mem.head _)))), (List.forall_mem_cons.mpr ⟨(List.Mem.tail _ (List.Mem.tail _ (List.Mem.tail _ (List.Mem.tail _ (List.Mem.head _))))), (List.forall_mem_cons.mpr ⟨(List.Mem.tail _ (List.Mem.tail _ (List.Mem.tail _ (List.Mem.tail _ (List.Mem.tail _ (List.Mem.head _)))))), (List.forall_mem_cons.mpr ⟨(List.Mem.tail _ (List.Mem.tail _ (List.Mem.tail _ (List.Mem.tail _ (List.Mem.tail _ (List.Mem.tail _ (List.Mem.head _))))))), (List.forall_mem_cons.mpr ⟨(List.Mem.tail _ (List.Mem.tail _ (List.Mem.tail _ (List.Mem.tail _ (List.Mem.tail _ (List.Mem.tail _ (List.Mem.tail _ (List.Mem.head _)))))))), (fun q h => absurd h List.not_mem_nil)⟩)⟩)⟩)⟩)⟩)⟩)⟩)⟩) ?_
        exact kx _ cr c I F (by first | exact ⟨And.intro (hi.1.1) (hi.1.2), And.intro (hi.2.1.1) (hi.2.1.2), And.intro (hi.2.2.1.1) (hi.2.2.1.2), And.intro (hi.2.2.2.1.1) (hi.2.2.2.1.2), And.intro (hi.2.2.2.2.1.1) (hi.2.2.2.2.1.2), And.intro (hi.2.2.2.2.2.1.1) (hi.2.2.2.2.2.1.2), hi.2.2.2.2.2.2.1, hi.2.2.2.2.2.2.2⟩ | omega)
      ·
        refine z_aload_n X (x := A 113) (show cdA 3 118 = some (.aload_n 0, 1, 0, 0, 0) from rfl) (List.Mem.head _) ?_
        refine s_getR X 113 (show cdA 3 119 = some (.getfield 26, 3, 0, 8, 0) from rfl) (by decide) rfl rfl ?_
        refine z_load X (x := c) (show cdA 3 122 = some (.iload 8, 2, 0, 0, 0) from rfl) (List.Mem.tail _ (List.Mem.tail _ (List.Mem.tail _ (List.Mem.tail _ (List.Mem.tail _ (List.Mem.tail _ (List.Mem.tail _ (List.Mem.head _)))))))) ?_
        refine z_ald X 118 (show cdA 3 124 = some (.iaload, 1, 0, 0, 0) from rfl) (by decide) rfl (by first | exact hi.2.2.2.2.2.2.1 | omega) (show c < 66 by first | exact oq_256e4529 g2004 b2003.2 | omega) (by decide) ?_
        have b2005 : (0 : Int) ≤ iC t 102 (c).toNat ∧ iC t 102 (c).toNat ≤ 11 := I.2 102 _ (show (c).toNat < 66 by first | exact oq_d7ff7873 g2004 b2003.2 | omega)
        refine z_load_n X (x := yv) (show cdA 3 125 = some (.iload_n 2, 1, 0, 0, 0) from rfl) (List.Mem.tail _ (List.Mem.head _)) ?_
        refine z_icmp_eq X (t := 190) (show cdA 3 126 = some (.if_icmp .eq 64, 3, 0, 0, 0) from rfl) (by decide) (rng_to _) ⟨by first | exact hi.1.1 | omega, by first | exact hi.1.2 | omega⟩ (fun g2006 => ?_) (fun g2006 => ?_)
        ·
          refine z_inc X (x := c) (lv' := [(8, .int (Int32.ofInt (c + 1))), (0, .ref (A 113)), (2, .int (Int32.ofInt yv)), (3, .int (Int32.ofInt ro)), (4, .int (Int32.ofInt wa)), (5, .int (Int32.ofInt cr)), (6, .int (Int32.ofInt ov)), (7, .int (Int32.ofInt cl))]) (show cdA 3 190 = some (.iinc 8 1, 3, 0, 0, 0) from rfl) (by decide) (List.Mem.tail _ (List.Mem.tail _ (List.Mem.tail _ (List.Mem.tail _ (List.Mem.tail _ (List.Mem.tail _ (List.Mem.tail _ (List.Mem.head _)))))))) (fun _ h => h) ?_
          refine z_goto X (t := 109) (show cdA 3 193 = some (.goto (-84), 3, 0, 0, 0) from rfl) (by decide) ?_
          refine WS_lv (lv := [(0, .ref (A 113)), (2, .int (Int32.ofInt yv)), (3, .int (Int32.ofInt ro)), (4, .int (Int32.ofInt wa)), (5, .int (Int32.ofInt cr)), (6, .int (Int32.ofInt ov)), (7, .int (Int32.ofInt cl)), (8, .int (Int32.ofInt (c + 1)))]) (List.forall_mem_cons.mpr ⟨(List.Mem.tail _ (List.Mem.head _)), (List.forall_mem_cons.mpr ⟨(List.Mem.tail _ (List.Mem.tail _ (List.Mem.head _))), (List.forall_mem_cons.mpr ⟨(List.Mem.tail _ (List.Mem.tail _ (List.Mem.tail _ (List.Mem.head _)))), (List.forall_mem_cons.mpr ⟨(List.Mem.tail _ (List.Mem.tail _ (List.Mem.tail _ (List.Mem.tail _ (List.Mem.head _))))), (List.forall_mem_cons.mpr ⟨(List.Mem.tail _ (List.Mem.tail _ (List.Mem.tail _ (List.Mem.tail _ (List.Mem.tail _ (List.Mem.head _)))))), (List.forall_mem_cons.mpr ⟨(List.Mem.tail _ (List.Mem.tail _ (List.Mem.tail _ (List.Mem.tail _ (List.Mem.tail _ (List.Mem.tail _ (List.Mem.head _))))))), (List.forall_mem_cons.mpr ⟨(List.Mem.tail _ (List.Mem.tail _ (List.Mem.tail _ (List.Mem.tail _ (List.Mem.tail _ (List.Mem.tail _ (List.Mem.tail _ (List.Mem.head _)))))))), (List.forall_mem_cons.mpr ⟨(List.Mem.head _), (fun q h => absurd h List.not_mem_nil)⟩)⟩)⟩)⟩)⟩)⟩)⟩)⟩) ?_
          exact ih _ yv ro wa cr ov cl (c + 1) I F (by first | exact ⟨And.intro (hi.1.1) (hi.1.2), And.intro (hi.2.1.1) (hi.2.1.2), And.intro (hi.2.2.1.1) (hi.2.2.1.2), And.intro (hi.2.2.2.1.1) (hi.2.2.2.1.2), And.intro (hi.2.2.2.2.1.1) (hi.2.2.2.2.1.2), And.intro (hi.2.2.2.2.2.1.1) (hi.2.2.2.2.2.1.2), oq_54f49eb5 hi.2.2.2.2.2.2.1, oq_319a18a4 g2004 b2003.2⟩ | omega) (by first | exact qk_me hm (by decide) (oq_dd0e9829 g2004 b2003.2) | omega) kx
        ·
          refine z_aload_n X (x := A 113) (show cdA 3 129 = some (.aload_n 0, 1, 0, 0, 0) from rfl) (List.Mem.head _) ?_
          refine s_getR X 113 (show cdA 3 130 = some (.getfield 29, 3, 0, 9, 0) from rfl) (by decide) rfl rfl ?_
          refine z_load X (x := c) (show cdA 3 133 = some (.iload 8, 2, 0, 0, 0) from rfl) (List.Mem.tail _ (List.Mem.tail _ (List.Mem.tail _ (List.Mem.tail _ (List.Mem.tail _ (List.Mem.tail _ (List.Mem.tail _ (List.Mem.head _)))))))) ?_
          refine z_ald X 119 (show cdA 3 135 = some (.iaload, 1, 0, 0, 0) from rfl) (by decide) rfl (by first | exact hi.2.2.2.2.2.2.1 | omega) (show c < 66 by first | exact oq_256e4529 g2004 b2003.2 | omega) (by decide) ?_
          have b2007 : (0 : Int) ≤ iC t 103 (c).toNat ∧ iC t 103 (c).toNat ≤ 11 := I.2 103 _ (show (c).toNat < 66 by first | exact oq_d7ff7873 g2004 b2003.2 | omega)
          refine z_load_n X (x := yv) (show cdA 3 136 = some (.iload_n 2, 1, 0, 0, 0) from rfl) (List.Mem.tail _ (List.Mem.head _)) ?_
          refine z_icmp_eq X (t := 190) (show cdA 3 137 = some (.if_icmp .eq 53, 3, 0, 0, 0) from rfl) (by decide) (rng_to _) ⟨by first | exact hi.1.1 | omega, by first | exact hi.1.2 | omega⟩ (fun g2008 => ?_) (fun g2008 => ?_)
          ·
            refine z_inc X (x := c) (lv' := [(8, .int (Int32.ofInt (c + 1))), (0, .ref (A 113)), (2, .int (Int32.ofInt yv)), (3, .int (Int32.ofInt ro)), (4, .int (Int32.ofInt wa)), (5, .int (Int32.ofInt cr)), (6, .int (Int32.ofInt ov)), (7, .int (Int32.ofInt cl))]) (show cdA 3 190 = some (.iinc 8 1, 3, 0, 0, 0) from rfl) (by decide) (List.Mem.tail _ (List.Mem.tail _ (List.Mem.tail _ (List.Mem.tail _ (List.Mem.tail _ (List.Mem.tail _ (List.Mem.tail _ (List.Mem.head _)))))))) (fun _ h => h) ?_
            refine z_goto X (t := 109) (show cdA 3 193 = some (.goto (-84), 3, 0, 0, 0) from rfl) (by decide) ?_
            refine WS_lv (lv := [(0, .ref (A 113)), (2, .int (Int32.ofInt yv)), (3, .int (Int32.ofInt ro)), (4, .int (Int32.ofInt wa)), (5, .int (Int32.ofInt cr)), (6, .int (Int32.ofInt ov)), (7, .int (Int32.ofInt cl)), (8, .int (Int32.ofInt (c + 1)))]) (List.forall_mem_cons.mpr ⟨(List.Mem.tail _ (List.Mem.head _)), (List.forall_mem_cons.mpr ⟨(List.Mem.tail _ (List.Mem.tail _ (List.Mem.head _))), (List.forall_mem_cons.mpr ⟨(List.Mem.tail _ (List.Mem.tail _ (List.Mem.tail _ (List.Mem.head _)))), (List.forall_mem_cons.mpr ⟨(List.Mem.tail _ (List.Mem.tail _ (List.Mem.tail _ (List.Mem.tail _ (List.Mem.head _))))), (List.forall_mem_cons.mpr ⟨(List.Mem.tail _ (List.Mem.tail _ (List.Mem.tail _ (List.Mem.tail _ (List.Mem.tail _ (List.Mem.head _)))))), (List.forall_mem_cons.mpr ⟨(List.Mem.tail _ (List.Mem.tail _ (List.Mem.tail _ (List.Mem.tail _ (List.Mem.tail _ (List.Mem.tail _ (List.Mem.head _))))))), (List.forall_mem_cons.mpr ⟨(List.Mem.tail _ (List.Mem.tail _ (List.Mem.tail _ (List.Mem.tail _ (List.Mem.tail _ (List.Mem.tail _ (List.Mem.tail _ (List.Mem.head _)))))))), (List.forall_mem_cons.mpr ⟨(List.Mem.head _), (fun q h => absurd h List.not_mem_nil)⟩)⟩)⟩)⟩)⟩)⟩)⟩)⟩) ?_
            exact ih _ yv ro wa cr ov cl (c + 1) I F (by first | exact ⟨And.intro (hi.1.1) (hi.1.2), And.intro (hi.2.1.1) (hi.2.1.2), And.intro (hi.2.2.1.1) (hi.2.2.1.2), And.intro (hi.2.2.2.1.1) (hi.2.2.2.1.2), And.intro (hi.2.2.2.2.1.1) (hi.2.2.2.2.1.2), And.intro (hi.2.2.2.2.2.1.1) (hi.2.2.2.2.2.1.2), oq_54f49eb5 hi.2.2.2.2.2.2.1, oq_319a18a4 g2004 b2003.2⟩ | omega) (by first | exact qk_me hm (by decide) (oq_dd0e9829 g2004 b2003.2) | omega) kx
          ·
            refine z_load X (x := cr) (show cdA 3 140 = some (.iload 5, 2, 0, 0, 0) from rfl) (List.Mem.tail _ (List.Mem.tail _ (List.Mem.tail _ (List.Mem.tail _ (List.Mem.head _))))) ?_
            refine z_aload_n X (x := A 113) (show cdA 3 142 = some (.aload_n 0, 1, 0, 0, 0) from rfl) (List.Mem.head _) ?_
            refine s_getR X 113 (show cdA 3 143 = some (.getfield 32, 3, 0, 10, 0) from rfl) (by decide) rfl rfl ?_
            refine z_load X (x := c) (show cdA 3 146 = some (.iload 8, 2, 0, 0, 0) from rfl) (List.Mem.tail _ (List.Mem.tail _ (List.Mem.tail _ (List.Mem.tail _ (List.Mem.tail _ (List.Mem.tail _ (List.Mem.tail _ (List.Mem.head _)))))))) ?_
            refine z_ald X 120 (show cdA 3 148 = some (.iaload, 1, 0, 0, 0) from rfl) (by decide) rfl (by first | exact hi.2.2.2.2.2.2.1 | omega) (show c < 66 by first | exact oq_256e4529 g2004 b2003.2 | omega) (by decide) ?_
            have b2009 : ((-2147483648) : Int) ≤ iC t 104 (c).toNat ∧ iC t 104 (c).toNat ≤ 2147483647 := I.2 104 _ (show (c).toNat < 66 by first | exact oq_d7ff7873 g2004 b2003.2 | omega)
            refine z_aload_n X (x := A 113) (show cdA 3 149 = some (.aload_n 0, 1, 0, 0, 0) from rfl) (List.Mem.head _) ?_
            refine s_getR X 113 (show cdA 3 150 = some (.getfield 43, 3, 0, 0, 0) from rfl) (by decide) rfl rfl ?_
            refine s_getR X 68 (show cdA 3 153 = some (.getfield 87, 3, 9, 12, 0) from rfl) (by decide) rfl rfl ?_
            refine z_load_n X (x := ro) (show cdA 3 156 = some (.iload_n 3, 1, 0, 0, 0) from rfl) (List.Mem.tail _ (List.Mem.tail _ (List.Mem.head _))) ?_
            refine z_aload_n X (x := A 113) (show cdA 3 157 = some (.aload_n 0, 1, 0, 0, 0) from rfl) (List.Mem.head _) ?_
            refine s_getR X 113 (show cdA 3 158 = some (.getfield 26, 3, 0, 8, 0) from rfl) (by decide) rfl rfl ?_
            refine z_load X (x := c) (show cdA 3 161 = some (.iload 8, 2, 0, 0, 0) from rfl) (List.Mem.tail _ (List.Mem.tail _ (List.Mem.tail _ (List.Mem.tail _ (List.Mem.tail _ (List.Mem.tail _ (List.Mem.tail _ (List.Mem.head _)))))))) ?_
            refine z_ald X 118 (show cdA 3 163 = some (.iaload, 1, 0, 0, 0) from rfl) (by decide) rfl (by first | exact hi.2.2.2.2.2.2.1 | omega) (show c < 66 by first | exact oq_256e4529 g2004 b2003.2 | omega) (by decide) ?_
            have b2010 : (0 : Int) ≤ iC t 102 (c).toNat ∧ iC t 102 (c).toNat ≤ 11 := I.2 102 _ (show (c).toNat < 66 by first | exact oq_d7ff7873 g2004 b2003.2 | omega)
            refine z_add X (show cdA 3 164 = some (.iadd, 1, 0, 0, 0) from rfl) ?_
            refine z_ald X 79 (show cdA 3 165 = some (.iaload, 1, 0, 0, 0) from rfl) (by decide) rfl (by first | exact oq_dd29f52d hi.2.1.1 b2010.1 | omega) (show (ro + (iC t 102 (c).toNat)) < 288 by first | exact oq_f94a0088 hi.2.1.2 b2010.2 | omega) (by decide) ?_
            have b2011 : (0 : Int) ≤ iC t 67 ((ro + (iC t 102 (c).toNat))).toNat ∧ iC t 67 ((ro + (iC t 102 (c).toNat))).toNat ≤ 50 := I.2 67 _ (show ((ro + (iC t 102 (c).toNat))).toNat < 288 by first | exact oq_3d7ae1dd hi.2.1.2 b2010.2 | omega)
            refine z_aload_n X (x := A 113) (show cdA 3 166 = some (.aload_n 0, 1, 0, 0, 0) from rfl) (List.Mem.head _) ?_
            refine s_getR X 113 (show cdA 3 167 = some (.getfield 43, 3, 0, 0, 0) from rfl) (by decide) rfl rfl ?_
            refine s_getR X 68 (show cdA 3 170 = some (.getfield 87, 3, 9, 12, 0) from rfl) (by decide) rfl rfl ?_
            refine z_load_n X (x := ro) (show cdA 3 173 = some (.iload_n 3, 1, 0, 0, 0) from rfl) (List.Mem.tail _ (List.Mem.tail _ (List.Mem.head _))) ?_
            refine z_aload_n X (x := A 113) (show cdA 3 174 = some (.aload_n 0, 1, 0, 0, 0) from rfl) (List.Mem.head _) ?_
            refine s_getR X 113 (show cdA 3 175 = some (.getfield 29, 3, 0, 9, 0) from rfl) (by decide) rfl rfl ?_
            refine z_load X (x := c) (show cdA 3 178 = some (.iload 8, 2, 0, 0, 0) from rfl) (List.Mem.tail _ (List.Mem.tail _ (List.Mem.tail _ (List.Mem.tail _ (List.Mem.tail _ (List.Mem.tail _ (List.Mem.tail _ (List.Mem.head _)))))))) ?_
            refine z_ald X 119 (show cdA 3 180 = some (.iaload, 1, 0, 0, 0) from rfl) (by decide) rfl (by first | exact hi.2.2.2.2.2.2.1 | omega) (show c < 66 by first | exact oq_256e4529 g2004 b2003.2 | omega) (by decide) ?_
            have b2012 : (0 : Int) ≤ iC t 103 (c).toNat ∧ iC t 103 (c).toNat ≤ 11 := I.2 103 _ (show (c).toNat < 66 by first | exact oq_d7ff7873 g2004 b2003.2 | omega)
            refine z_add X (show cdA 3 181 = some (.iadd, 1, 0, 0, 0) from rfl) ?_
            refine z_ald X 79 (show cdA 3 182 = some (.iaload, 1, 0, 0, 0) from rfl) (by decide) rfl (by first | exact oq_dd29f52d hi.2.1.1 b2012.1 | omega) (show (ro + (iC t 103 (c).toNat)) < 288 by first | exact oq_f94a0088 hi.2.1.2 b2012.2 | omega) (by decide) ?_
            have b2013 : (0 : Int) ≤ iC t 67 ((ro + (iC t 103 (c).toNat))).toNat ∧ iC t 67 ((ro + (iC t 103 (c).toNat))).toNat ≤ 50 := I.2 67 _ (show ((ro + (iC t 103 (c).toNat))).toNat < 288 by first | exact oq_3d7ae1dd hi.2.1.2 b2012.2 | omega)
            refine z_min X (show cdA 3 183 = some (.invokestatic 90, 3, 0, 8, 0) from rfl) (rng_to _) (rng_to _) (by rw [E.2.2.2]; decide) (by rw [E.2.2.2]; exact Nat.le_of_ble_eq_true rfl) (Nat.zero_le _) (Nat.zero_le _) (fun e2014 he2014 => ?_)
            refine z_mul X (show cdA 3 186 = some (.imul, 1, 0, 0, 0) from rfl) ?_
            refine z_any (fun y2015 hy2015 => ?_)
            refine z_add X (show cdA 3 187 = some (.iadd, 1, 0, 0, 0) from rfl) ?_
            refine z_any (fun y2016 hy2016 => ?_)
            refine z_store X (lv' := [(5, .int (Int32.ofInt y2016)), (0, .ref (A 113)), (2, .int (Int32.ofInt yv)), (3, .int (Int32.ofInt ro)), (4, .int (Int32.ofInt wa)), (6, .int (Int32.ofInt ov)), (7, .int (Int32.ofInt cl)), (8, .int (Int32.ofInt c))]) (show cdA 3 188 = some (.istore 5, 2, 0, 0, 0) from rfl) (by decide) (fun _ h => h) ?_
            refine z_inc X (x := c) (lv' := [(8, .int (Int32.ofInt (c + 1))), (5, .int (Int32.ofInt y2016)), (0, .ref (A 113)), (2, .int (Int32.ofInt yv)), (3, .int (Int32.ofInt ro)), (4, .int (Int32.ofInt wa)), (6, .int (Int32.ofInt ov)), (7, .int (Int32.ofInt cl))]) (show cdA 3 190 = some (.iinc 8 1, 3, 0, 0, 0) from rfl) (by decide) (List.Mem.tail _ (List.Mem.tail _ (List.Mem.tail _ (List.Mem.tail _ (List.Mem.tail _ (List.Mem.tail _ (List.Mem.tail _ (List.Mem.head _)))))))) (fun _ h => h) ?_
            refine z_goto X (t := 109) (show cdA 3 193 = some (.goto (-84), 3, 0, 0, 0) from rfl) (by decide) ?_
            refine WS_lv (lv := [(0, .ref (A 113)), (2, .int (Int32.ofInt yv)), (3, .int (Int32.ofInt ro)), (4, .int (Int32.ofInt wa)), (5, .int (Int32.ofInt y2016)), (6, .int (Int32.ofInt ov)), (7, .int (Int32.ofInt cl)), (8, .int (Int32.ofInt (c + 1)))]) (List.forall_mem_cons.mpr ⟨(List.Mem.tail _ (List.Mem.tail _ (List.Mem.head _))), (List.forall_mem_cons.mpr ⟨(List.Mem.tail _ (List.Mem.tail _ (List.Mem.tail _ (List.Mem.head _)))), (List.forall_mem_cons.mpr ⟨(List.Mem.tail _ (List.Mem.tail _ (List.Mem.tail _ (List.Mem.tail _ (List.Mem.head _))))), (List.forall_mem_cons.mpr ⟨(List.Mem.tail _ (List.Mem.tail _ (List.Mem.tail _ (List.Mem.tail _ (List.Mem.tail _ (List.Mem.head _)))))), (List.forall_mem_cons.mpr ⟨(List.Mem.tail _ (List.Mem.head _)), (List.forall_mem_cons.mpr ⟨(List.Mem.tail _ (List.Mem.tail _ (List.Mem.tail _ (List.Mem.tail _ (List.Mem.tail _ (List.Mem.tail _ (List.Mem.head _))))))), (List.forall_mem_cons.mpr ⟨(List.Mem.tail _ (List.Mem.tail _ (List.Mem.tail _ (List.Mem.tail _ (List.Mem.tail _ (List.Mem.tail _ (List.Mem.tail _ (List.Mem.head _)))))))), (List.forall_mem_cons.mpr ⟨(List.Mem.head _), (fun q h => absurd h List.not_mem_nil)⟩)⟩)⟩)⟩)⟩)⟩)⟩)⟩) ?_
            exact ih _ yv ro wa y2016 ov cl (c + 1) I F (by first | exact ⟨And.intro (hi.1.1) (hi.1.2), And.intro (hi.2.1.1) (hi.2.1.2), And.intro (hi.2.2.1.1) (hi.2.2.1.2), And.intro (hy2016.1) (hy2016.2), And.intro (hi.2.2.2.2.1.1) (hi.2.2.2.2.1.2), And.intro (hi.2.2.2.2.2.1.1) (hi.2.2.2.2.2.1.2), oq_54f49eb5 hi.2.2.2.2.2.2.1, oq_319a18a4 g2004 b2003.2⟩ | omega) (by first | exact qk_me hm (by decide) (oq_dd0e9829 g2004 b2003.2) | omega) kx
  refine z_load_n X (x := x) (show cdA 3 0 = some (.iload_n 1, 1, 0, 0, 0) from rfl) (List.Mem.tail _ (List.Mem.head _)) ?_
  refine z_bipush X (show cdA 3 1 = some (.bipush 12, 2, 0, 0, 12) from rfl) ?_
  refine z_mul X (show cdA 3 3 = some (.imul, 1, 0, 0, 0) from rfl) ?_
  refine z_store_n X (lv' := [(3, .int (Int32.ofInt (x * 12))), (0, .ref (A 113)), (1, .int (Int32.ofInt x)), (2, .int (Int32.ofInt y))]) (show cdA 3 4 = some (.istore_n 3, 1, 0, 0, 0) from rfl) (by decide) (fun _ h => h) ?_
  refine z_const X (show cdA 3 5 = some (.iconst 0, 1, 0, 0, 0) from rfl) ?_
  refine z_store X (lv' := [(4, .int (Int32.ofInt 0)), (3, .int (Int32.ofInt (x * 12))), (0, .ref (A 113)), (1, .int (Int32.ofInt x)), (2, .int (Int32.ofInt y))]) (show cdA 3 6 = some (.istore 4, 2, 0, 0, 0) from rfl) (by decide) (fun _ h => h) ?_
  refine z_const X (show cdA 3 8 = some (.iconst 0, 1, 0, 0, 0) from rfl) ?_
  refine z_store X (lv' := [(5, .int (Int32.ofInt 0)), (4, .int (Int32.ofInt 0)), (3, .int (Int32.ofInt (x * 12))), (0, .ref (A 113)), (1, .int (Int32.ofInt x)), (2, .int (Int32.ofInt y))]) (show cdA 3 9 = some (.istore 5, 2, 0, 0, 0) from rfl) (by decide) (fun _ h => h) ?_
  refine z_const X (show cdA 3 11 = some (.iconst 0, 1, 0, 0, 0) from rfl) ?_
  refine z_store X (lv' := [(6, .int (Int32.ofInt 0)), (5, .int (Int32.ofInt 0)), (4, .int (Int32.ofInt 0)), (3, .int (Int32.ofInt (x * 12))), (0, .ref (A 113)), (1, .int (Int32.ofInt x)), (2, .int (Int32.ofInt y))]) (show cdA 3 12 = some (.istore 6, 2, 0, 0, 0) from rfl) (by decide) (fun _ h => h) ?_
  refine z_const X (show cdA 3 14 = some (.iconst 0, 1, 0, 0, 0) from rfl) ?_
  refine z_store X (lv' := [(7, .int (Int32.ofInt 0)), (6, .int (Int32.ofInt 0)), (5, .int (Int32.ofInt 0)), (4, .int (Int32.ofInt 0)), (3, .int (Int32.ofInt (x * 12))), (0, .ref (A 113)), (1, .int (Int32.ofInt x)), (2, .int (Int32.ofInt y))]) (show cdA 3 15 = some (.istore 7, 2, 0, 0, 0) from rfl) (by decide) (fun _ h => h) ?_
  refine z_const X (show cdA 3 17 = some (.iconst 0, 1, 0, 0, 0) from rfl) ?_
  refine z_store X (lv' := [(8, .int (Int32.ofInt 0)), (7, .int (Int32.ofInt 0)), (6, .int (Int32.ofInt 0)), (5, .int (Int32.ofInt 0)), (4, .int (Int32.ofInt 0)), (3, .int (Int32.ofInt (x * 12))), (0, .ref (A 113)), (1, .int (Int32.ofInt x)), (2, .int (Int32.ofInt y))]) (show cdA 3 18 = some (.istore 8, 2, 0, 0, 0) from rfl) (by decide) (fun _ h => h) ?_
  refine WS_lv (lv := [(0, .ref (A 113)), (2, .int (Int32.ofInt y)), (3, .int (Int32.ofInt (x * 12))), (4, .int (Int32.ofInt 0)), (5, .int (Int32.ofInt 0)), (6, .int (Int32.ofInt 0)), (7, .int (Int32.ofInt 0)), (8, .int (Int32.ofInt 0))]) (List.forall_mem_cons.mpr ⟨(List.Mem.tail _ (List.Mem.tail _ (List.Mem.tail _ (List.Mem.tail _ (List.Mem.tail _ (List.Mem.tail _ (List.Mem.head _))))))), (List.forall_mem_cons.mpr ⟨(List.Mem.tail _ (List.Mem.tail _ (List.Mem.tail _ (List.Mem.tail _ (List.Mem.tail _ (List.Mem.tail _ (List.Mem.tail _ (List.Mem.tail _ (List.Mem.head _))))))))), (List.forall_mem_cons.mpr ⟨(List.Mem.tail _ (List.Mem.tail _ (List.Mem.tail _ (List.Mem.tail _ (List.Mem.tail _ (List.Mem.head _)))))), (List.forall_mem_cons.mpr ⟨(List.Mem.tail _ (List.Mem.tail _ (List.Mem.tail _ (List.Mem.tail _ (List.Mem.head _))))), (List.forall_mem_cons.mpr ⟨(List.Mem.tail _ (List.Mem.tail _ (List.Mem.tail _ (List.Mem.head _)))), (List.forall_mem_cons.mpr ⟨(List.Mem.tail _ (List.Mem.tail _ (List.Mem.head _))), (List.forall_mem_cons.mpr ⟨(List.Mem.tail _ (List.Mem.head _)), (List.forall_mem_cons.mpr ⟨(List.Mem.head _), (fun q h => absurd h List.not_mem_nil)⟩)⟩)⟩)⟩)⟩)⟩)⟩)⟩) ?_
  refine L20 ((12 - 0 : Int).toNat + 1) s y (x * 12) 0 0 0 0 0 I F (by first | exact ⟨And.intro (p1.1) (p1.2), And.intro (oq_6b8c39bb p0.1) (oq_70eefe4f p0.2), And.intro (by decide) (by decide), And.intro (by decide) (by decide), And.intro (by decide) (by decide), And.intro (by decide) (by decide), by decide, by decide⟩ | omega) (Nat.lt_succ_self _) ?_
  intro s3 x4 x5 x6 x7 x8 Is3 Fs3 hs3
  have b9 : (0 : Int) ≤ iI s3 52 ∧ iI s3 52 ≤ 12 := Is3.1 52
  have b10 : (0 : Int) ≤ iI s3 53 ∧ iI s3 53 ≤ 66 := Is3.1 53
  refine z_const X (show cdA 3 106 = some (.iconst 0, 1, 0, 0, 0) from rfl) ?_
  refine z_store X (lv' := [(8, .int (Int32.ofInt 0)), (0, .ref (A 113)), (2, .int (Int32.ofInt y)), (3, .int (Int32.ofInt (x * 12))), (4, .int (Int32.ofInt x4)), (5, .int (Int32.ofInt x5)), (6, .int (Int32.ofInt x6)), (7, .int (Int32.ofInt x7))]) (show cdA 3 107 = some (.istore 8, 2, 0, 0, 0) from rfl) (by decide) (fun _ h => h) ?_
  refine WS_lv (lv := [(0, .ref (A 113)), (2, .int (Int32.ofInt y)), (3, .int (Int32.ofInt (x * 12))), (4, .int (Int32.ofInt x4)), (5, .int (Int32.ofInt x5)), (6, .int (Int32.ofInt x6)), (7, .int (Int32.ofInt x7)), (8, .int (Int32.ofInt 0))]) (List.forall_mem_cons.mpr ⟨(List.Mem.tail _ (List.Mem.head _)), (List.forall_mem_cons.mpr ⟨(List.Mem.tail _ (List.Mem.tail _ (List.Mem.head _))), (List.forall_mem_cons.mpr ⟨(List.Mem.tail _ (List.Mem.tail _ (List.Mem.tail _ (List.Mem.head _)))), (List.forall_mem_cons.mpr ⟨(List.Mem.tail _ (List.Mem.tail _ (List.Mem.tail _ (List.Mem.tail _ (List.Mem.head _))))), (List.forall_mem_cons.mpr ⟨(List.Mem.tail _ (List.Mem.tail _ (List.Mem.tail _ (List.Mem.tail _ (List.Mem.tail _ (List.Mem.head _)))))), (List.forall_mem_cons.mpr ⟨(List.Mem.tail _ (List.Mem.tail _ (List.Mem.tail _ (List.Mem.tail _ (List.Mem.tail _ (List.Mem.tail _ (List.Mem.head _))))))), (List.forall_mem_cons.mpr ⟨(List.Mem.tail _ (List.Mem.tail _ (List.Mem.tail _ (List.Mem.tail _ (List.Mem.tail _ (List.Mem.tail _ (List.Mem.tail _ (List.Mem.head _)))))))), (List.forall_mem_cons.mpr ⟨(List.Mem.head _), (fun q h => absurd h List.not_mem_nil)⟩)⟩)⟩)⟩)⟩)⟩)⟩)⟩) ?_
  refine L109 ((66 - 0 : Int).toNat + 1) s3 y (x * 12) x4 x5 x6 x7 0 Is3 Fs3 (by first | exact ⟨And.intro (hs3.1.1) (hs3.1.2), And.intro (hs3.2.1.1) (hs3.2.1.2), And.intro (hs3.2.2.1.1) (hs3.2.2.1.2), And.intro (hs3.2.2.2.1.1) (hs3.2.2.2.1.2), And.intro (hs3.2.2.2.2.1.1) (hs3.2.2.2.2.1.2), And.intro (hs3.2.2.2.2.2.1.1) (hs3.2.2.2.2.2.1.2), by decide, by decide⟩ | omega) (Nat.lt_succ_self _) ?_
  intro s11 x12 x13 Is11 Fs11 hs11
  have b14 : (0 : Int) ≤ iI s11 52 ∧ iI s11 52 ≤ 12 := Is11.1 52
  have b15 : (0 : Int) ≤ iI s11 53 ∧ iI s11 53 ≤ 66 := Is11.1 53
  refine z_aload_n X (x := A 113) (show cdA 3 196 = some (.aload_n 0, 1, 0, 0, 0) from rfl) (List.Mem.head _) ?_
  refine s_getR X 113 (show cdA 3 197 = some (.getfield 37, 3, 0, 11, 0) from rfl) (by decide) rfl rfl ?_
  refine z_const X (show cdA 3 200 = some (.iconst 0, 1, 0, 0, 0) from rfl) ?_
  refine z_load X (x := x4) (show cdA 3 201 = some (.iload 4, 2, 0, 0, 0) from rfl) (List.Mem.tail _ (List.Mem.tail _ (List.Mem.tail _ (List.Mem.head _)))) ?_
  refine z_ast X 121 (show cdA 3 203 = some (.iastore, 1, 0, 0, 0) from rfl) (by decide) rfl (by decide) (show 0 < 7 by decide) (by decide) ?_
  obtain ⟨s16, hs16⟩ : ∃ x0, x0 = uC s11 105 (0 : Int).toNat (Int32.ofInt x4) := ⟨_, rfl⟩
  rw [← hs16]
  have Is16 : Bd s16 := by rw [hs16]; exact bd_C Is11 (show ((-2147483648) : Int) ≤ x4 ∧ x4 ≤ 2147483647 by first | exact ⟨hs11.2.2.1.1, hs11.2.2.1.2⟩ | omega) ⟨by first | exact hs11.2.2.1.1 | omega, by first | exact hs11.2.2.1.2 | omega⟩
  have Fs16 := fm_C (i := (0 : Int).toNat) (x := Int32.ofInt x4) Fs11 (show 105 ∈ _ by decide)
  rw [← hs16] at Fs16
  have ws16_52 : iI s16 52 = iI s11 52 := by rw [hs16]; rfl
  have ws16_53 : iI s16 53 = iI s11 53 := by rw [hs16]; rfl
  refine z_aload_n X (x := A 113) (show cdA 3 204 = some (.aload_n 0, 1, 0, 0, 0) from rfl) (List.Mem.head _) ?_
  refine s_getR X 113 (show cdA 3 205 = some (.getfield 37, 3, 0, 11, 0) from rfl) (by decide) rfl rfl ?_
  refine z_const X (show cdA 3 208 = some (.iconst 1, 1, 0, 0, 0) from rfl) ?_
  refine z_load X (x := x12) (show cdA 3 209 = some (.iload 5, 2, 0, 0, 0) from rfl) (List.Mem.tail _ (List.Mem.tail _ (List.Mem.tail _ (List.Mem.tail _ (List.Mem.head _))))) ?_
  refine z_ast X 121 (show cdA 3 211 = some (.iastore, 1, 0, 0, 0) from rfl) (by decide) rfl (by decide) (show 1 < 7 by decide) (by decide) ?_
  obtain ⟨s17, hs17⟩ : ∃ x0, x0 = uC s16 105 (1 : Int).toNat (Int32.ofInt x12) := ⟨_, rfl⟩
  rw [← hs17]
  have Is17 : Bd s17 := by rw [hs17]; exact bd_C Is16 (show ((-2147483648) : Int) ≤ x12 ∧ x12 ≤ 2147483647 by first | exact ⟨hs11.2.2.2.1.1, hs11.2.2.2.1.2⟩ | omega) ⟨by first | exact hs11.2.2.2.1.1 | omega, by first | exact hs11.2.2.2.1.2 | omega⟩
  have Fs17 := fm_C (i := (1 : Int).toNat) (x := Int32.ofInt x12) Fs16 (show 105 ∈ _ by decide)
  rw [← hs17] at Fs17
  have ws17_52 : iI s17 52 = iI s16 52 := by rw [hs17]; rfl
  have ws17_53 : iI s17 53 = iI s16 53 := by rw [hs17]; rfl
  refine z_aload_n X (x := A 113) (show cdA 3 212 = some (.aload_n 0, 1, 0, 0, 0) from rfl) (List.Mem.head _) ?_
  refine s_getR X 113 (show cdA 3 213 = some (.getfield 37, 3, 0, 11, 0) from rfl) (by decide) rfl rfl ?_
  refine z_const X (show cdA 3 216 = some (.iconst 2, 1, 0, 0, 0) from rfl) ?_
  refine z_load X (x := x6) (show cdA 3 217 = some (.iload 6, 2, 0, 0, 0) from rfl) (List.Mem.tail _ (List.Mem.tail _ (List.Mem.tail _ (List.Mem.tail _ (List.Mem.tail _ (List.Mem.head _)))))) ?_
  refine z_ast X 121 (show cdA 3 219 = some (.iastore, 1, 0, 0, 0) from rfl) (by decide) rfl (by decide) (show 2 < 7 by decide) (by decide) ?_
  obtain ⟨s18, hs18⟩ : ∃ x0, x0 = uC s17 105 (2 : Int).toNat (Int32.ofInt x6) := ⟨_, rfl⟩
  rw [← hs18]
  have Is18 : Bd s18 := by rw [hs18]; exact bd_C Is17 (show ((-2147483648) : Int) ≤ x6 ∧ x6 ≤ 2147483647 by first | exact ⟨hs11.2.2.2.2.1.1, hs11.2.2.2.2.1.2⟩ | omega) ⟨by first | exact hs11.2.2.2.2.1.1 | omega, by first | exact hs11.2.2.2.2.1.2 | omega⟩
  have Fs18 := fm_C (i := (2 : Int).toNat) (x := Int32.ofInt x6) Fs17 (show 105 ∈ _ by decide)
  rw [← hs18] at Fs18
  have ws18_52 : iI s18 52 = iI s17 52 := by rw [hs18]; rfl
  have ws18_53 : iI s18 53 = iI s17 53 := by rw [hs18]; rfl
  refine z_aload_n X (x := A 113) (show cdA 3 220 = some (.aload_n 0, 1, 0, 0, 0) from rfl) (List.Mem.head _) ?_
  refine s_getR X 113 (show cdA 3 221 = some (.getfield 37, 3, 0, 11, 0) from rfl) (by decide) rfl rfl ?_
  refine z_const X (show cdA 3 224 = some (.iconst 3, 1, 0, 0, 0) from rfl) ?_
  refine z_load X (x := x7) (show cdA 3 225 = some (.iload 7, 2, 0, 0, 0) from rfl) (List.Mem.tail _ (List.Mem.tail _ (List.Mem.tail _ (List.Mem.tail _ (List.Mem.tail _ (List.Mem.tail _ (List.Mem.head _))))))) ?_
  refine z_ast X 121 (show cdA 3 227 = some (.iastore, 1, 0, 0, 0) from rfl) (by decide) rfl (by decide) (show 3 < 7 by decide) (by decide) ?_
  obtain ⟨s19, hs19⟩ : ∃ x0, x0 = uC s18 105 (3 : Int).toNat (Int32.ofInt x7) := ⟨_, rfl⟩
  rw [← hs19]
  have Is19 : Bd s19 := by rw [hs19]; exact bd_C Is18 (show ((-2147483648) : Int) ≤ x7 ∧ x7 ≤ 2147483647 by first | exact ⟨hs11.2.2.2.2.2.1.1, hs11.2.2.2.2.2.1.2⟩ | omega) ⟨by first | exact hs11.2.2.2.2.2.1.1 | omega, by first | exact hs11.2.2.2.2.2.1.2 | omega⟩
  have Fs19 := fm_C (i := (3 : Int).toNat) (x := Int32.ofInt x7) Fs18 (show 105 ∈ _ by decide)
  rw [← hs19] at Fs19
  have ws19_52 : iI s19 52 = iI s18 52 := by rw [hs19]; rfl
  have ws19_53 : iI s19 53 = iI s18 53 := by rw [hs19]; rfl
  exact w_vret X.1 q hRt (ax_d X (show cdA 3 228 = some (.return_, 1, 0, 0, 0) from rfl)) (Nat.zero_le _) (Nat.zero_le _) ⟨_, rfl, Is19, Fs19, rfl, trivial⟩
set_option maxRecDepth 4000 in
theorem c7_work_113 (G : GX l s0 D tys a0 dT) (I : Bd s) {x : Int} (p0 : -1 ≤ x ∧ x ≤ 7) : CT l s0 D A dT 84 (rmN 84) [.ref (A 19), .int (Int32.ofInt x), .ref (A 121)] s (fun o t => Bd t ∧ Fm [] [20] s t ∧ ∃ e, o = .inl (some (.int (Int32.ofInt e))) ∧ rng e ∧ (True)) := by
  refine ct_ofX G (by decide) (Nat.le_of_ble_eq_true rfl) (fun k X E ET hRt hXt q => ?_)
  show WS k 0 [(0, .ref (A 19)), (1, .int (Int32.ofInt x)), (2, .ref (A 121))] [] _ 0 0
  have F : Fm [] [20] s s := fm_rf _ _ s
  have L28 : ∀ (n : Nat) (t : PS) (xv dp c : Int), Bd t → Fm [] [20] s t → ((0 ≤ xv ∧ xv ≤ 7) ∧ (0 ≤ dp ∧ dp ≤ 200) ∧ 0 ≤ c ∧ c ≤ 200) → (200 - c : Int).toNat < n → (∀ (t' : PS) (dp' c' : Int), Bd t' → Fm [] [20] s t' → ((0 ≤ xv ∧ xv ≤ 7) ∧ (0 ≤ dp' ∧ dp' ≤ 200) ∧ 0 ≤ c' ∧ c' ≤ 200) → WS k 163 [(0, .ref (A 19)), (2, .ref (A 121)), (1, .int (Int32.ofInt xv)), (3, .int (Int32.ofInt dp')), (4, .int (Int32.ofInt c'))] [] (Wd A dT t') 0 0) → WS k 28 [(0, .ref (A 19)), (2, .ref (A 121)), (1, .int (Int32.ofInt xv)), (3, .int (Int32.ofInt dp)), (4, .int (Int32.ofInt c))] [] (Wd A dT t) 0 0 := by
    intro n
    induction n with
    | zero =>
      intro t xv dp c I F hi hm kx
      exact absurd hm (Nat.not_lt_zero _)
    | succ n ih =>
      intro t xv dp c I F hi hm kx
      refine z_load X (x := c) (show cdA 84 28 = some (.iload 4, 2, 0, 0, 0) from rfl) (List.Mem.tail _ (List.Mem.tail _ (List.Mem.tail _ (List.Mem.tail _ (List.Mem.head _))))) ?_
      refine z_aload_n X (x := A 19) (show cdA 84 30 = some (.aload_n 0, 1, 0, 0, 0) from rfl) (List.Mem.head _) ?_
      refine s_getR X 19 (show cdA 84 31 = some (.getfield 15, 3, 7, 2, 0) from rfl) (by decide) rfl rfl ?_
      refine z_load_n X (x := xv) (show cdA 84 34 = some (.iload_n 1, 1, 0, 0, 0) from rfl) (List.Mem.tail _ (List.Mem.tail _ (List.Mem.head _))) ?_
      refine z_ald X 21 (show cdA 84 35 = some (.iaload, 1, 0, 0, 0) from rfl) (by decide) rfl (by first | exact hi.1.1 | omega) (show xv < 8 by first | exact oq_aaea290e hi.1.2 | omega) (by decide) ?_
      have b1001 : (0 : Int) ≤ iC t 17 (xv).toNat ∧ iC t 17 (xv).toNat ≤ 200 := I.2 17 _ (show (xv).toNat < 8 by first | exact oq_c19a3aae hi.1.2 | omega)
      refine z_icmp_ge X (t := 163) (show cdA 84 36 = some (.if_icmp .ge 127, 3, 3, 0, 0) from rfl) (by decide) ⟨by first | exact oq_fa4e5087 hi.2.2.1 | omega, by first | exact oq_52af2b96 hi.2.2.2 | omega⟩ (rng_to _) (fun g1002 => ?_) (fun g1002 => ?_)
      ·
        refine WS_lv (lv := [(0, .ref (A 19)), (2, .ref (A 121)), (1, .int (Int32.ofInt xv)), (3, .int (Int32.ofInt dp)), (4, .int (Int32.ofInt c))]) (List.forall_mem_cons.mpr ⟨(List.Mem.head _), (List.forall_mem_cons.mpr ⟨(List.Mem.tail _ (List.Mem.head _)), (List.forall_mem_cons.mpr ⟨(List.Mem.tail _ (List.Mem.tail _ (List.Mem.head _))), (List.forall_mem_cons.mpr ⟨(List.Mem.tail _ (List.Mem.tail _ (List.Mem.tail _ (List.Mem.head _)))), (List.forall_mem_cons.mpr ⟨(List.Mem.tail _ (List.Mem.tail _ (List.Mem.tail _ (List.Mem.tail _ (List.Mem.head _))))), (fun q h => absurd h List.not_mem_nil)⟩)⟩)⟩)⟩)⟩) ?_
        exact kx _ dp c I F (by first | exact ⟨And.intro (hi.1.1) (hi.1.2), And.intro (hi.2.1.1) (hi.2.1.2), hi.2.2.1, hi.2.2.2⟩ | omega)
      ·
        refine z_aload_n X (x := A 19) (show cdA 84 39 = some (.aload_n 0, 1, 0, 0, 0) from rfl) (List.Mem.head _) ?_
        refine s_getR X 19 (show cdA 84 40 = some (.getfield 11, 3, 7, 1, 0) from rfl) (by decide) rfl rfl ?_
        refine z_load X (x := c) (show cdA 84 43 = some (.iload 4, 2, 0, 0, 0) from rfl) (List.Mem.tail _ (List.Mem.tail _ (List.Mem.tail _ (List.Mem.tail _ (List.Mem.head _))))) ?_
        refine z_ald X 20 (show cdA 84 45 = some (.iaload, 1, 0, 0, 0) from rfl) (by decide) rfl (by first | exact hi.2.2.1 | omega) (show c < 200 by first | exact oq_6fca3d72 g1002 b1001.2 | omega) (by decide) ?_
        have b1003 : ((-2147483648) : Int) ≤ iC t 16 (c).toNat ∧ iC t 16 (c).toNat ≤ 2147483647 := I.2 16 _ (show (c).toNat < 200 by first | exact oq_b70289d5 g1002 b1001.2 | omega)
        refine z_store X (lv' := [(5, .int (Int32.ofInt (iC t 16 (c).toNat))), (0, .ref (A 19)), (2, .ref (A 121)), (1, .int (Int32.ofInt xv)), (3, .int (Int32.ofInt dp)), (4, .int (Int32.ofInt c))]) (show cdA 84 46 = some (.istore 5, 2, 0, 0, 0) from rfl) (by decide) (fun _ h => h) ?_
        refine z_load X (x := (iC t 16 (c).toNat)) (show cdA 84 48 = some (.iload 5, 2, 0, 0, 0) from rfl) (List.Mem.head _) ?_
        refine z_bipush X (show cdA 84 50 = some (.bipush (-8), 2, 0, 0, (-8)) from rfl) ?_
        refine z_icmp_le X (t := 90) (show cdA 84 52 = some (.if_icmp .le 38, 3, 5, 0, 0) from rfl) (by decide) (rng_to _) (by decide) (fun g1004 => ?_) (fun g1004 => ?_)
        ·
          refine z_load X (x := (iC t 16 (c).toNat)) (show cdA 84 90 = some (.iload 5, 2, 0, 0, 0) from rfl) (List.Mem.head _) ?_
          refine z_bipush X (show cdA 84 92 = some (.bipush (-8), 2, 0, 0, (-8)) from rfl) ?_
          refine z_icmp_ne X (t := 122) (show cdA 84 94 = some (.if_icmp .ne 28, 3, 1, 0, 0) from rfl) (by decide) (rng_to _) (by decide) (fun g1005 => ?_) (fun g1005 => ?_)
          ·
            refine z_load_n X (x := dp) (show cdA 84 122 = some (.iload_n 3, 1, 0, 0, 0) from rfl) (List.Mem.tail _ (List.Mem.tail _ (List.Mem.tail _ (List.Mem.tail _ (List.Mem.head _))))) ?_
            refine z_const X (show cdA 84 123 = some (.iconst 1, 1, 0, 0, 0) from rfl) ?_
            refine z_icmp_le X (t := 157) (show cdA 84 124 = some (.if_icmp .le 33, 3, 5, 0, 0) from rfl) (by decide) ⟨by first | exact oq_fa4e5087 hi.2.1.1 | omega, by first | exact oq_52af2b96 hi.2.1.2 | omega⟩ (by decide) (fun g1006 => ?_) (fun g1006 => ?_)
            ·
              refine z_inc X (x := c) (lv' := [(4, .int (Int32.ofInt (c + 1))), (5, .int (Int32.ofInt (iC t 16 (c).toNat))), (0, .ref (A 19)), (2, .ref (A 121)), (1, .int (Int32.ofInt xv)), (3, .int (Int32.ofInt dp))]) (show cdA 84 157 = some (.iinc 4 1, 3, 0, 0, 0) from rfl) (by decide) (List.Mem.tail _ (List.Mem.tail _ (List.Mem.tail _ (List.Mem.tail _ (List.Mem.tail _ (List.Mem.head _)))))) (fun _ h => h) ?_
              refine z_goto X (t := 28) (show cdA 84 160 = some (.goto (-132), 3, 0, 0, 0) from rfl) (by decide) ?_
              refine WS_lv (lv := [(0, .ref (A 19)), (2, .ref (A 121)), (1, .int (Int32.ofInt xv)), (3, .int (Int32.ofInt dp)), (4, .int (Int32.ofInt (c + 1)))]) (List.forall_mem_cons.mpr ⟨(List.Mem.tail _ (List.Mem.tail _ (List.Mem.head _))), (List.forall_mem_cons.mpr ⟨(List.Mem.tail _ (List.Mem.tail _ (List.Mem.tail _ (List.Mem.head _)))), (List.forall_mem_cons.mpr ⟨(List.Mem.tail _ (List.Mem.tail _ (List.Mem.tail _ (List.Mem.tail _ (List.Mem.head _))))), (List.forall_mem_cons.mpr ⟨(List.Mem.tail _ (List.Mem.tail _ (List.Mem.tail _ (List.Mem.tail _ (List.Mem.tail _ (List.Mem.head _)))))), (List.forall_mem_cons.mpr ⟨(List.Mem.head _), (fun q h => absurd h List.not_mem_nil)⟩)⟩)⟩)⟩)⟩) ?_
              exact ih _ xv dp (c + 1) I F (by first | exact ⟨And.intro (hi.1.1) (hi.1.2), And.intro (hi.2.1.1) (hi.2.1.2), oq_54f49eb5 hi.2.2.1, oq_228270fa g1002 b1001.2⟩ | omega) (by first | exact qk_me hm (by decide) (oq_b0a4f3e2 g1002 b1001.2) | omega) kx
            ·
              refine z_inc X (x := dp) (lv' := [(3, .int (Int32.ofInt (dp + (-1)))), (5, .int (Int32.ofInt (iC t 16 (c).toNat))), (0, .ref (A 19)), (2, .ref (A 121)), (1, .int (Int32.ofInt xv)), (4, .int (Int32.ofInt c))]) (show cdA 84 127 = some (.iinc 3 (-1), 3, 0, 0, 0) from rfl) (by decide) (List.Mem.tail _ (List.Mem.tail _ (List.Mem.tail _ (List.Mem.tail _ (List.Mem.head _))))) (fun _ h => h) ?_
              refine z_aload_n X (x := A 19) (show cdA 84 130 = some (.aload_n 0, 1, 0, 0, 0) from rfl) (List.Mem.tail _ (List.Mem.tail _ (List.Mem.head _))) ?_
              refine s_getR X 19 (show cdA 84 131 = some (.getfield 28, 3, 7, 13, 0) from rfl) (by decide) rfl rfl ?_
              refine z_load_n X (x := (dp + (-1))) (show cdA 84 134 = some (.iload_n 3, 1, 0, 0, 0) from rfl) (List.Mem.head _) ?_
              refine z_const X (show cdA 84 135 = some (.iconst 1, 1, 0, 0, 0) from rfl) ?_
              refine z_sub X (show cdA 84 136 = some (.isub, 1, 0, 0, 0) from rfl) ?_
              refine z_load X (x := (iC t 16 (c).toNat)) (show cdA 84 137 = some (.iload 5, 2, 0, 0, 0) from rfl) (List.Mem.tail _ (List.Mem.head _)) ?_
              refine z_aload_n X (x := A 19) (show cdA 84 139 = some (.aload_n 0, 1, 0, 0, 0) from rfl) (List.Mem.tail _ (List.Mem.tail _ (List.Mem.head _))) ?_
              refine s_getR X 19 (show cdA 84 140 = some (.getfield 28, 3, 7, 13, 0) from rfl) (by decide) rfl rfl ?_
              refine z_load_n X (x := (dp + (-1))) (show cdA 84 143 = some (.iload_n 3, 1, 0, 0, 0) from rfl) (List.Mem.head _) ?_
              refine z_const X (show cdA 84 144 = some (.iconst 1, 1, 0, 0, 0) from rfl) ?_
              refine z_sub X (show cdA 84 145 = some (.isub, 1, 0, 0, 0) from rfl) ?_
              refine z_ald X 24 (show cdA 84 146 = some (.iaload, 1, 0, 0, 0) from rfl) (by decide) rfl (by first | exact oq_d588e9be g1006 | omega) (show ((dp + (-1)) - 1) < 200 by first | exact oq_f9b4958f hi.2.1.2 | omega) (by decide) ?_
              have b1007 : ((-2147483648) : Int) ≤ iC t 20 (((dp + (-1)) - 1)).toNat ∧ iC t 20 (((dp + (-1)) - 1)).toNat ≤ 2147483647 := I.2 20 _ (show (((dp + (-1)) - 1)).toNat < 200 by first | exact oq_ab8c951f hi.2.1.2 | omega)
              refine z_aload_n X (x := A 19) (show cdA 84 147 = some (.aload_n 0, 1, 0, 0, 0) from rfl) (List.Mem.tail _ (List.Mem.tail _ (List.Mem.head _))) ?_
              refine s_getR X 19 (show cdA 84 148 = some (.getfield 28, 3, 7, 13, 0) from rfl) (by decide) rfl rfl ?_
              refine z_load_n X (x := (dp + (-1))) (show cdA 84 151 = some (.iload_n 3, 1, 0, 0, 0) from rfl) (List.Mem.head _) ?_
              refine z_ald X 24 (show cdA 84 152 = some (.iaload, 1, 0, 0, 0) from rfl) (by decide) rfl (by first | exact oq_6c14892a g1006 | omega) (show (dp + (-1)) < 200 by first | exact oq_2dcece94 hi.2.1.2 | omega) (by decide) ?_
              have b1008 : ((-2147483648) : Int) ≤ iC t 20 ((dp + (-1))).toNat ∧ iC t 20 ((dp + (-1))).toNat ≤ 2147483647 := I.2 20 _ (show ((dp + (-1))).toNat < 200 by first | exact oq_323b4624 hi.2.1.2 | omega)
              refine z_callS X (rm := rmN 85) (As := [.int (Int32.ofInt (iC t 16 (c).toNat)), .int (Int32.ofInt (iC t 20 (((dp + (-1)) - 1)).toNat)), .int (Int32.ofInt (iC t 20 ((dp + (-1))).toNat))]) (st := [.int (Int32.ofInt ((dp + (-1)) - 1)), .ref (A 24)]) (show cdA 84 153 = some (.invokestatic 154, 3, 85, 1, 0) from rfl) rfl (by rw [E.1, E.2.1, E.2.2.1]; exact c7_joined G I (by first | exact ⟨b1003.1, b1003.2⟩ | omega) (by first | exact ⟨b1007.1, b1007.2⟩ | omega) (by first | exact ⟨b1008.1, b1008.2⟩ | omega)) ⟨by rw [E.2.2.2]; exact (show (rmN 85).frames + 1 ≤ (rmN 84).frames by decide), by rw [E.2.2.2]; exact (show 8 + (mNL (miB 85) + 11) + (rmN 85).locals ≤ (rmN 84).locals by decide), by rw [E.2.2.2]; exact (show 0 + (rmN 85).cells ≤ (rmN 84).cells by decide), by rw [E.2.2.2]; exact (show 0 + (rmN 85).slots ≤ (rmN 84).slots by decide)⟩ (Nat.le_of_ble_eq_true rfl) (fun vv s1009 hq => ?_) (fun ee s1009 hq => ?_)
              rotate_left
              · obtain ⟨rfl, e1010, hv, hrs1009, hps1009⟩ := hq; cases hv
              obtain ⟨rfl, e1010, hv, hrs1009, hps1009⟩ := hq
              cases hv
              show WS k 156 [(3, .int (Int32.ofInt (dp + (-1)))), (5, .int (Int32.ofInt (iC t 16 (c).toNat))), (0, .ref (A 19)), (2, .ref (A 121)), (1, .int (Int32.ofInt xv)), (4, .int (Int32.ofInt c))] [.int (Int32.ofInt e1010), .int (Int32.ofInt ((dp + (-1)) - 1)), .ref (A 24)] (Wd A dT t) 0 0
              refine z_ast X 24 (show cdA 84 156 = some (.iastore, 1, 0, 0, 0) from rfl) (by decide) rfl (by first | exact oq_d588e9be g1006 | omega) (show ((dp + (-1)) - 1) < 200 by first | exact oq_f9b4958f hi.2.1.2 | omega) (by decide) ?_
              obtain ⟨s1011, hs1011⟩ : ∃ x0, x0 = uC t 20 (((dp + (-1)) - 1)).toNat (Int32.ofInt e1010) := ⟨_, rfl⟩
              rw [← hs1011]
              have Is1011 : Bd s1011 := by rw [hs1011]; exact bd_C I (show ((-2147483648) : Int) ≤ e1010 ∧ e1010 ≤ 2147483647 by first | exact ⟨hps1009.1, hps1009.2⟩ | omega) hrs1009
              have Fs1011 := fm_C (i := (((dp + (-1)) - 1)).toNat) (x := Int32.ofInt e1010) F (show 20 ∈ _ by decide)
              rw [← hs1011] at Fs1011
              refine z_inc X (x := c) (lv' := [(4, .int (Int32.ofInt (c + 1))), (3, .int (Int32.ofInt (dp + (-1)))), (5, .int (Int32.ofInt (iC t 16 (c).toNat))), (0, .ref (A 19)), (2, .ref (A 121)), (1, .int (Int32.ofInt xv))]) (show cdA 84 157 = some (.iinc 4 1, 3, 0, 0, 0) from rfl) (by decide) (List.Mem.tail _ (List.Mem.tail _ (List.Mem.tail _ (List.Mem.tail _ (List.Mem.tail _ (List.Mem.head _)))))) (fun _ h => h) ?_
              refine z_goto X (t := 28) (show cdA 84 160 = some (.goto (-132), 3, 0, 0, 0) from rfl) (by decide) ?_
              refine WS_lv (lv := [(0, .ref (A 19)), (2, .ref (A 121)), (1, .int (Int32.ofInt xv)), (3, .int (Int32.ofInt (dp + (-1)))), (4, .int (Int32.ofInt (c + 1)))]) (List.forall_mem_cons.mpr ⟨(List.Mem.tail _ (List.Mem.tail _ (List.Mem.tail _ (List.Mem.head _)))), (List.forall_mem_cons.mpr ⟨(List.Mem.tail _ (List.Mem.tail _ (List.Mem.tail _ (List.Mem.tail _ (List.Mem.head _))))), (List.forall_mem_cons.mpr ⟨(List.Mem.tail _ (List.Mem.tail _ (List.Mem.tail _ (List.Mem.tail _ (List.Mem.tail _ (List.Mem.head _)))))), (List.forall_mem_cons.mpr ⟨(List.Mem.tail _ (List.Mem.head _)), (List.forall_mem_cons.mpr ⟨(List.Mem.head _), (fun q h => absurd h List.not_mem_nil)⟩)⟩)⟩)⟩)⟩) ?_
              exact ih _ xv (dp + (-1)) (c + 1) Is1011 Fs1011 (by first | exact ⟨And.intro (hi.1.1) (hi.1.2), And.intro (oq_6c14892a g1006) (oq_af76c38b hi.2.1.2), oq_54f49eb5 hi.2.2.1, oq_228270fa g1002 b1001.2⟩ | omega) (by first | exact qk_me hm (by decide) (oq_b0a4f3e2 g1002 b1001.2) | omega) kx
          ·
            refine z_load_n X (x := dp) (show cdA 84 97 = some (.iload_n 3, 1, 0, 0, 0) from rfl) (List.Mem.tail _ (List.Mem.tail _ (List.Mem.tail _ (List.Mem.tail _ (List.Mem.head _))))) ?_
            refine z_if_le X (t := 157) (show cdA 84 98 = some (.ifCond .le 59, 3, 5, 0, 0) from rfl) (by decide) ⟨by first | exact oq_fa4e5087 hi.2.1.1 | omega, by first | exact oq_52af2b96 hi.2.1.2 | omega⟩ (fun g1012 => ?_) (fun g1012 => ?_)
            ·
              refine z_inc X (x := c) (lv' := [(4, .int (Int32.ofInt (c + 1))), (5, .int (Int32.ofInt (iC t 16 (c).toNat))), (0, .ref (A 19)), (2, .ref (A 121)), (1, .int (Int32.ofInt xv)), (3, .int (Int32.ofInt dp))]) (show cdA 84 157 = some (.iinc 4 1, 3, 0, 0, 0) from rfl) (by decide) (List.Mem.tail _ (List.Mem.tail _ (List.Mem.tail _ (List.Mem.tail _ (List.Mem.tail _ (List.Mem.head _)))))) (fun _ h => h) ?_
              refine z_goto X (t := 28) (show cdA 84 160 = some (.goto (-132), 3, 0, 0, 0) from rfl) (by decide) ?_
              refine WS_lv (lv := [(0, .ref (A 19)), (2, .ref (A 121)), (1, .int (Int32.ofInt xv)), (3, .int (Int32.ofInt dp)), (4, .int (Int32.ofInt (c + 1)))]) (List.forall_mem_cons.mpr ⟨(List.Mem.tail _ (List.Mem.tail _ (List.Mem.head _))), (List.forall_mem_cons.mpr ⟨(List.Mem.tail _ (List.Mem.tail _ (List.Mem.tail _ (List.Mem.head _)))), (List.forall_mem_cons.mpr ⟨(List.Mem.tail _ (List.Mem.tail _ (List.Mem.tail _ (List.Mem.tail _ (List.Mem.head _))))), (List.forall_mem_cons.mpr ⟨(List.Mem.tail _ (List.Mem.tail _ (List.Mem.tail _ (List.Mem.tail _ (List.Mem.tail _ (List.Mem.head _)))))), (List.forall_mem_cons.mpr ⟨(List.Mem.head _), (fun q h => absurd h List.not_mem_nil)⟩)⟩)⟩)⟩)⟩) ?_
              exact ih _ xv dp (c + 1) I F (by first | exact ⟨And.intro (hi.1.1) (hi.1.2), And.intro (hi.2.1.1) (hi.2.1.2), oq_54f49eb5 hi.2.2.1, oq_228270fa g1002 b1001.2⟩ | omega) (by first | exact qk_me hm (by decide) (oq_b0a4f3e2 g1002 b1001.2) | omega) kx
            ·
              refine z_aload_n X (x := A 19) (show cdA 84 101 = some (.aload_n 0, 1, 0, 0, 0) from rfl) (List.Mem.tail _ (List.Mem.head _)) ?_
              refine s_getR X 19 (show cdA 84 102 = some (.getfield 28, 3, 7, 13, 0) from rfl) (by decide) rfl rfl ?_
              refine z_load_n X (x := dp) (show cdA 84 105 = some (.iload_n 3, 1, 0, 0, 0) from rfl) (List.Mem.tail _ (List.Mem.tail _ (List.Mem.tail _ (List.Mem.tail _ (List.Mem.head _))))) ?_
              refine z_const X (show cdA 84 106 = some (.iconst 1, 1, 0, 0, 0) from rfl) ?_
              refine z_sub X (show cdA 84 107 = some (.isub, 1, 0, 0, 0) from rfl) ?_
              refine z_const X (show cdA 84 108 = some (.iconst 1, 1, 0, 0, 0) from rfl) ?_
              refine z_aload_n X (x := A 19) (show cdA 84 109 = some (.aload_n 0, 1, 0, 0, 0) from rfl) (List.Mem.tail _ (List.Mem.head _)) ?_
              refine s_getR X 19 (show cdA 84 110 = some (.getfield 28, 3, 7, 13, 0) from rfl) (by decide) rfl rfl ?_
              refine z_load_n X (x := dp) (show cdA 84 113 = some (.iload_n 3, 1, 0, 0, 0) from rfl) (List.Mem.tail _ (List.Mem.tail _ (List.Mem.tail _ (List.Mem.tail _ (List.Mem.head _))))) ?_
              refine z_const X (show cdA 84 114 = some (.iconst 1, 1, 0, 0, 0) from rfl) ?_
              refine z_sub X (show cdA 84 115 = some (.isub, 1, 0, 0, 0) from rfl) ?_
              refine z_ald X 24 (show cdA 84 116 = some (.iaload, 1, 0, 0, 0) from rfl) (by decide) rfl (by first | exact oq_a4f22177 g1012 | omega) (show (dp - 1) < 200 by first | exact oq_76ad2bb2 hi.2.1.2 | omega) (by decide) ?_
              have b1013 : ((-2147483648) : Int) ≤ iC t 20 ((dp - 1)).toNat ∧ iC t 20 ((dp - 1)).toNat ≤ 2147483647 := I.2 20 _ (show ((dp - 1)).toNat < 200 by first | exact oq_a03494ec hi.2.1.2 | omega)
              refine z_sub X (show cdA 84 117 = some (.isub, 1, 0, 0, 0) from rfl) ?_
              refine z_any (fun y1014 hy1014 => ?_)
              refine z_ast X 24 (show cdA 84 118 = some (.iastore, 1, 0, 0, 0) from rfl) (by decide) rfl (by first | exact oq_a4f22177 g1012 | omega) (show (dp - 1) < 200 by first | exact oq_76ad2bb2 hi.2.1.2 | omega) (by decide) ?_
              obtain ⟨s1015, hs1015⟩ : ∃ x0, x0 = uC t 20 ((dp - 1)).toNat (Int32.ofInt y1014) := ⟨_, rfl⟩
              rw [← hs1015]
              have Is1015 : Bd s1015 := by rw [hs1015]; exact bd_C I (show ((-2147483648) : Int) ≤ y1014 ∧ y1014 ≤ 2147483647 by first | exact ⟨hy1014.1, hy1014.2⟩ | omega) hy1014
              have Fs1015 := fm_C (i := ((dp - 1)).toNat) (x := Int32.ofInt y1014) F (show 20 ∈ _ by decide)
              rw [← hs1015] at Fs1015
              refine z_goto X (t := 157) (show cdA 84 119 = some (.goto 38, 3, 0, 0, 0) from rfl) (by decide) ?_
              refine z_inc X (x := c) (lv' := [(4, .int (Int32.ofInt (c + 1))), (5, .int (Int32.ofInt (iC t 16 (c).toNat))), (0, .ref (A 19)), (2, .ref (A 121)), (1, .int (Int32.ofInt xv)), (3, .int (Int32.ofInt dp))]) (show cdA 84 157 = some (.iinc 4 1, 3, 0, 0, 0) from rfl) (by decide) (List.Mem.tail _ (List.Mem.tail _ (List.Mem.tail _ (List.Mem.tail _ (List.Mem.tail _ (List.Mem.head _)))))) (fun _ h => h) ?_
              refine z_goto X (t := 28) (show cdA 84 160 = some (.goto (-132), 3, 0, 0, 0) from rfl) (by decide) ?_
              refine WS_lv (lv := [(0, .ref (A 19)), (2, .ref (A 121)), (1, .int (Int32.ofInt xv)), (3, .int (Int32.ofInt dp)), (4, .int (Int32.ofInt (c + 1)))]) (List.forall_mem_cons.mpr ⟨(List.Mem.tail _ (List.Mem.tail _ (List.Mem.head _))), (List.forall_mem_cons.mpr ⟨(List.Mem.tail _ (List.Mem.tail _ (List.Mem.tail _ (List.Mem.head _)))), (List.forall_mem_cons.mpr ⟨(List.Mem.tail _ (List.Mem.tail _ (List.Mem.tail _ (List.Mem.tail _ (List.Mem.head _))))), (List.forall_mem_cons.mpr ⟨(List.Mem.tail _ (List.Mem.tail _ (List.Mem.tail _ (List.Mem.tail _ (List.Mem.tail _ (List.Mem.head _)))))), (List.forall_mem_cons.mpr ⟨(List.Mem.head _), (fun q h => absurd h List.not_mem_nil)⟩)⟩)⟩)⟩)⟩) ?_
              exact ih _ xv dp (c + 1) Is1015 Fs1015 (by first | exact ⟨And.intro (hi.1.1) (hi.1.2), And.intro (hi.2.1.1) (hi.2.1.2), oq_54f49eb5 hi.2.2.1, oq_228270fa g1002 b1001.2⟩ | omega) (by first | exact qk_me hm (by decide) (oq_b0a4f3e2 g1002 b1001.2) | omega) kx
        ·
          refine z_load_n X (x := dp) (show cdA 84 55 = some (.iload_n 3, 1, 0, 0, 0) from rfl) (List.Mem.tail _ (List.Mem.tail _ (List.Mem.tail _ (List.Mem.tail _ (List.Mem.head _))))) ?_
          refine z_sipush X (show cdA 84 56 = some (.sipush 200, 3, 0, 0, 200) from rfl) ?_
          refine z_icmp_ge X (t := 157) (show cdA 84 59 = some (.if_icmp .ge 98, 3, 3, 0, 0) from rfl) (by decide) ⟨by first | exact oq_fa4e5087 hi.2.1.1 | omega, by first | exact oq_52af2b96 hi.2.1.2 | omega⟩ (by decide) (fun g1016 => ?_) (fun g1016 => ?_)
          ·
            refine z_inc X (x := c) (lv' := [(4, .int (Int32.ofInt (c + 1))), (5, .int (Int32.ofInt (iC t 16 (c).toNat))), (0, .ref (A 19)), (2, .ref (A 121)), (1, .int (Int32.ofInt xv)), (3, .int (Int32.ofInt dp))]) (show cdA 84 157 = some (.iinc 4 1, 3, 0, 0, 0) from rfl) (by decide) (List.Mem.tail _ (List.Mem.tail _ (List.Mem.tail _ (List.Mem.tail _ (List.Mem.tail _ (List.Mem.head _)))))) (fun _ h => h) ?_
            refine z_goto X (t := 28) (show cdA 84 160 = some (.goto (-132), 3, 0, 0, 0) from rfl) (by decide) ?_
            refine WS_lv (lv := [(0, .ref (A 19)), (2, .ref (A 121)), (1, .int (Int32.ofInt xv)), (3, .int (Int32.ofInt dp)), (4, .int (Int32.ofInt (c + 1)))]) (List.forall_mem_cons.mpr ⟨(List.Mem.tail _ (List.Mem.tail _ (List.Mem.head _))), (List.forall_mem_cons.mpr ⟨(List.Mem.tail _ (List.Mem.tail _ (List.Mem.tail _ (List.Mem.head _)))), (List.forall_mem_cons.mpr ⟨(List.Mem.tail _ (List.Mem.tail _ (List.Mem.tail _ (List.Mem.tail _ (List.Mem.head _))))), (List.forall_mem_cons.mpr ⟨(List.Mem.tail _ (List.Mem.tail _ (List.Mem.tail _ (List.Mem.tail _ (List.Mem.tail _ (List.Mem.head _)))))), (List.forall_mem_cons.mpr ⟨(List.Mem.head _), (fun q h => absurd h List.not_mem_nil)⟩)⟩)⟩)⟩)⟩) ?_
            exact ih _ xv dp (c + 1) I F (by first | exact ⟨And.intro (hi.1.1) (hi.1.2), And.intro (hi.2.1.1) (hi.2.1.2), oq_54f49eb5 hi.2.2.1, oq_228270fa g1002 b1001.2⟩ | omega) (by first | exact qk_me hm (by decide) (oq_b0a4f3e2 g1002 b1001.2) | omega) kx
          ·
            refine z_aload_n X (x := A 19) (show cdA 84 62 = some (.aload_n 0, 1, 0, 0, 0) from rfl) (List.Mem.tail _ (List.Mem.head _)) ?_
            refine s_getR X 19 (show cdA 84 63 = some (.getfield 28, 3, 7, 13, 0) from rfl) (by decide) rfl rfl ?_
            refine z_load_n X (x := dp) (show cdA 84 66 = some (.iload_n 3, 1, 0, 0, 0) from rfl) (List.Mem.tail _ (List.Mem.tail _ (List.Mem.tail _ (List.Mem.tail _ (List.Mem.head _))))) ?_
            refine z_load X (x := (iC t 16 (c).toNat)) (show cdA 84 67 = some (.iload 5, 2, 0, 0, 0) from rfl) (List.Mem.head _) ?_
            have N1017 : ∀ e1018 : Int, ((((iC t 16 (c).toNat) < 0) ∧ (((-2147483648) : Int) ≤ iC t 105 (((-1) - (iC t 16 (c).toNat))).toNat ∧ iC t 105 (((-1) - (iC t 16 (c).toNat))).toNat ≤ 2147483647) ∧ e1018 = (iC t 105 (((-1) - (iC t 16 (c).toNat))).toNat)) ∨ ((0 ≤ (iC t 16 (c).toNat)) ∧ e1018 = (iC t 16 (c).toNat))) → WS k 83 [(5, .int (Int32.ofInt (iC t 16 (c).toNat))), (0, .ref (A 19)), (2, .ref (A 121)), (1, .int (Int32.ofInt xv)), (3, .int (Int32.ofInt dp)), (4, .int (Int32.ofInt c))] [.int (Int32.ofInt e1018), .int (Int32.ofInt dp), .ref (A 24)] (Wd A dT t) 0 0 := by
              intro e1018 he1018
              refine z_ast X 24 (show cdA 84 83 = some (.iastore, 1, 0, 0, 0) from rfl) (by decide) rfl (by first | exact hi.2.1.1 | omega) (show dp < 200 by first | exact g1016 | omega) (by decide) ?_
              obtain ⟨s1019, hs1019⟩ : ∃ x0, x0 = uC t 20 (dp).toNat (Int32.ofInt e1018) := ⟨_, rfl⟩
              rw [← hs1019]
              have Is1019 : Bd s1019 := by rw [hs1019]; exact bd_C I (show ((-2147483648) : Int) ≤ e1018 ∧ e1018 ≤ 2147483647 by first | exact ⟨oq_05aece2f he1018, oq_93cedf2b he1018 b1003.2⟩ | omega) ⟨by first | exact oq_05aece2f he1018 | omega, by first | exact oq_93cedf2b he1018 b1003.2 | omega⟩
              have Fs1019 := fm_C (i := (dp).toNat) (x := Int32.ofInt e1018) F (show 20 ∈ _ by decide)
              rw [← hs1019] at Fs1019
              refine z_inc X (x := dp) (lv' := [(3, .int (Int32.ofInt (dp + 1))), (5, .int (Int32.ofInt (iC t 16 (c).toNat))), (0, .ref (A 19)), (2, .ref (A 121)), (1, .int (Int32.ofInt xv)), (4, .int (Int32.ofInt c))]) (show cdA 84 84 = some (.iinc 3 1, 3, 0, 0, 0) from rfl) (by decide) (List.Mem.tail _ (List.Mem.tail _ (List.Mem.tail _ (List.Mem.tail _ (List.Mem.head _))))) (fun _ h => h) ?_
              refine z_goto X (t := 157) (show cdA 84 87 = some (.goto 70, 3, 0, 0, 0) from rfl) (by decide) ?_
              refine z_inc X (x := c) (lv' := [(4, .int (Int32.ofInt (c + 1))), (3, .int (Int32.ofInt (dp + 1))), (5, .int (Int32.ofInt (iC t 16 (c).toNat))), (0, .ref (A 19)), (2, .ref (A 121)), (1, .int (Int32.ofInt xv))]) (show cdA 84 157 = some (.iinc 4 1, 3, 0, 0, 0) from rfl) (by decide) (List.Mem.tail _ (List.Mem.tail _ (List.Mem.tail _ (List.Mem.tail _ (List.Mem.tail _ (List.Mem.head _)))))) (fun _ h => h) ?_
              refine z_goto X (t := 28) (show cdA 84 160 = some (.goto (-132), 3, 0, 0, 0) from rfl) (by decide) ?_
              refine WS_lv (lv := [(0, .ref (A 19)), (2, .ref (A 121)), (1, .int (Int32.ofInt xv)), (3, .int (Int32.ofInt (dp + 1))), (4, .int (Int32.ofInt (c + 1)))]) (List.forall_mem_cons.mpr ⟨(List.Mem.tail _ (List.Mem.tail _ (List.Mem.tail _ (List.Mem.head _)))), (List.forall_mem_cons.mpr ⟨(List.Mem.tail _ (List.Mem.tail _ (List.Mem.tail _ (List.Mem.tail _ (List.Mem.head _))))), (List.forall_mem_cons.mpr ⟨(List.Mem.tail _ (List.Mem.tail _ (List.Mem.tail _ (List.Mem.tail _ (List.Mem.tail _ (List.Mem.head _)))))), (List.forall_mem_cons.mpr ⟨(List.Mem.tail _ (List.Mem.head _)), (List.forall_mem_cons.mpr ⟨(List.Mem.head _), (fun q h => absurd h List.not_mem_nil)⟩)⟩)⟩)⟩)⟩) ?_
              exact ih _ xv (dp + 1) (c + 1) Is1019 Fs1019 (by first | exact ⟨And.intro (hi.1.1) (hi.1.2), And.intro (oq_54f49eb5 hi.2.1.1) (oq_0cb6ab8a g1016), oq_54f49eb5 hi.2.2.1, oq_228270fa g1002 b1001.2⟩ | omega) (by first | exact qk_me hm (by decide) (oq_b0a4f3e2 g1002 b1001.2) | omega) kx
            refine z_if_lt X (t := 77) (show cdA 84 69 = some (.ifCond .lt 8, 3, 2, 0, 0) from rfl) (by decide) (rng_to _) (fun g1020 => ?_) (fun g1020 => ?_)
            ·
              refine z_aload_n X (x := A 121) (show cdA 84 77 = some (.aload_n 2, 1, 0, 0, 0) from rfl) (List.Mem.tail _ (List.Mem.tail _ (List.Mem.head _))) ?_
              refine z_const X (show cdA 84 78 = some (.iconst (-1), 1, 0, 0, 0) from rfl) ?_
              refine z_load X (x := (iC t 16 (c).toNat)) (show cdA 84 79 = some (.iload 5, 2, 0, 0, 0) from rfl) (List.Mem.head _) ?_
              refine z_sub X (show cdA 84 81 = some (.isub, 1, 0, 0, 0) from rfl) ?_
              refine z_ald X 121 (show cdA 84 82 = some (.iaload, 1, 0, 0, 0) from rfl) (by decide) rfl (by first | exact oq_c38d07c4 g1020 | omega) (show ((-1) - (iC t 16 (c).toNat)) < 7 by first | exact oq_a1f4cde5 g1004 | omega) (by decide) ?_
              have b1021 : ((-2147483648) : Int) ≤ iC t 105 (((-1) - (iC t 16 (c).toNat))).toNat ∧ iC t 105 (((-1) - (iC t 16 (c).toNat))).toNat ≤ 2147483647 := I.2 105 _ (show (((-1) - (iC t 16 (c).toNat))).toNat < 7 by first | exact oq_91b916ba g1004 | omega)
              exact N1017 _ (Or.inl ⟨g1020, b1021, rfl⟩)
            ·
              refine z_load X (x := (iC t 16 (c).toNat)) (show cdA 84 72 = some (.iload 5, 2, 0, 0, 0) from rfl) (List.Mem.head _) ?_
              refine z_goto X (t := 83) (show cdA 84 74 = some (.goto 9, 3, 0, 0, 0) from rfl) (by decide) ?_
              exact N1017 _ (Or.inr (⟨g1020, rfl⟩))
  refine z_load_n X (x := x) (show cdA 84 0 = some (.iload_n 1, 1, 0, 0, 0) from rfl) (List.Mem.tail _ (List.Mem.head _)) ?_
  refine z_const X (show cdA 84 1 = some (.iconst (-1), 1, 0, 0, 0) from rfl) ?_
  refine z_icmp_ne X (t := 19) (show cdA 84 2 = some (.if_icmp .ne 17, 3, 1, 0, 0) from rfl) (by decide) ⟨by first | exact oq_97ee2c2a p0.1 | omega, by first | exact oq_0e78ca7d p0.2 | omega⟩ (by decide) (fun g1 => ?_) (fun g1 => ?_)
  ·
    refine z_const X (show cdA 84 19 = some (.iconst 0, 1, 0, 0, 0) from rfl) ?_
    refine z_store_n X (lv' := [(3, .int (Int32.ofInt 0)), (0, .ref (A 19)), (1, .int (Int32.ofInt x)), (2, .ref (A 121))]) (show cdA 84 20 = some (.istore_n 3, 1, 0, 0, 0) from rfl) (by decide) (fun _ h => h) ?_
    refine z_aload_n X (x := A 19) (show cdA 84 21 = some (.aload_n 0, 1, 0, 0, 0) from rfl) (List.Mem.tail _ (List.Mem.head _)) ?_
    refine z_load_n X (x := x) (show cdA 84 22 = some (.iload_n 1, 1, 0, 0, 0) from rfl) (List.Mem.tail _ (List.Mem.tail _ (List.Mem.head _))) ?_
    refine z_callV X 19 (rm := rmN 70) (As := [.int (Int32.ofInt x)]) (st := []) (show cdA 84 23 = some (.invokevirtual 70, 3, 70, 0, 0) from rfl) rfl (by decide) rfl (by rw [E.1, E.2.1, E.2.2.1]; exact c7_beginOf_19 G I (by first | exact ⟨oq_7a1025bf g1 p0.1, p0.2⟩ | omega)) ⟨by rw [E.2.2.2]; exact (show (rmN 70).frames + 1 ≤ (rmN 84).frames by decide), by rw [E.2.2.2]; exact (show 8 + (mNL (miB 70) + 11) + (rmN 70).locals ≤ (rmN 84).locals by decide), by rw [E.2.2.2]; exact (show 0 + (rmN 70).cells ≤ (rmN 84).cells by decide), by rw [E.2.2.2]; exact (show 0 + (rmN 70).slots ≤ (rmN 84).slots by decide)⟩ (Nat.le_of_ble_eq_true rfl) (fun vv s2 hq => ?_) (fun ee s2 hq => ?_)
    rotate_left
    · obtain ⟨Is2, Fs2, e3, hv, hrs2, hps2⟩ := hq; cases hv
    obtain ⟨Is2, Fs2, e3, hv, hrs2, hps2⟩ := hq
    cases hv
    have Gs2 := fm_ts F Fs2 (by decide) (by decide)
    show WS k 26 [(3, .int (Int32.ofInt 0)), (0, .ref (A 19)), (1, .int (Int32.ofInt x)), (2, .ref (A 121))] [.int (Int32.ofInt e3)] (Wd A dT s2) 0 0
    refine z_store X (lv' := [(4, .int (Int32.ofInt e3)), (3, .int (Int32.ofInt 0)), (0, .ref (A 19)), (1, .int (Int32.ofInt x)), (2, .ref (A 121))]) (show cdA 84 26 = some (.istore 4, 2, 0, 0, 0) from rfl) (by decide) (fun _ h => h) ?_
    refine WS_lv (lv := [(0, .ref (A 19)), (2, .ref (A 121)), (1, .int (Int32.ofInt x)), (3, .int (Int32.ofInt 0)), (4, .int (Int32.ofInt e3))]) (List.forall_mem_cons.mpr ⟨(List.Mem.tail _ (List.Mem.tail _ (List.Mem.head _))), (List.forall_mem_cons.mpr ⟨(List.Mem.tail _ (List.Mem.tail _ (List.Mem.tail _ (List.Mem.tail _ (List.Mem.head _))))), (List.forall_mem_cons.mpr ⟨(List.Mem.tail _ (List.Mem.tail _ (List.Mem.tail _ (List.Mem.head _)))), (List.forall_mem_cons.mpr ⟨(List.Mem.tail _ (List.Mem.head _)), (List.forall_mem_cons.mpr ⟨(List.Mem.head _), (fun q h => absurd h List.not_mem_nil)⟩)⟩)⟩)⟩)⟩) ?_
    refine L28 ((200 - e3 : Int).toNat + 1) s2 x 0 e3 Is2 Gs2 (by first | exact ⟨oq_b629d6d6 g1 p0.2 p0.1, And.intro (by decide) (by decide), hps2.1, hps2.2⟩ | omega) (Nat.lt_succ_self _) ?_
    intro s4 x5 x6 Is4 Fs4 hs4
    refine z_aload_n X (x := A 19) (show cdA 84 163 = some (.aload_n 0, 1, 0, 0, 0) from rfl) (List.Mem.head _) ?_
    refine s_getR X 19 (show cdA 84 164 = some (.getfield 28, 3, 7, 13, 0) from rfl) (by decide) rfl rfl ?_
    refine z_const X (show cdA 84 167 = some (.iconst 0, 1, 0, 0, 0) from rfl) ?_
    refine z_ald X 24 (show cdA 84 168 = some (.iaload, 1, 0, 0, 0) from rfl) (by decide) rfl (by decide) (show 0 < 200 by decide) (by decide) ?_
    have b7 : ((-2147483648) : Int) ≤ iC s4 20 (0 : Int).toNat ∧ iC s4 20 (0 : Int).toNat ≤ 2147483647 := Is4.2 20 _ (show (0 : Int).toNat < 200 by first | exact oq_e7d7c2b9 | omega)
    exact w_iret X.1 q hRt rfl (ax_d X (show cdA 84 169 = some (.ireturn, 1, 0, 0, 0) from rfl)) (Nat.zero_le _) (Nat.zero_le _) ⟨_, rfl, Is4, Fs4, (iC s4 20 (0 : Int).toNat), rfl, (rng_to _), trivial⟩
  ·
    refine z_aload_n X (x := A 121) (show cdA 84 5 = some (.aload_n 2, 1, 0, 0, 0) from rfl) (List.Mem.tail _ (List.Mem.tail _ (List.Mem.head _))) ?_
    refine z_const X (show cdA 84 6 = some (.iconst 0, 1, 0, 0, 0) from rfl) ?_
    refine z_ald X 121 (show cdA 84 7 = some (.iaload, 1, 0, 0, 0) from rfl) (by decide) rfl (by decide) (show 0 < 7 by decide) (by decide) ?_
    have b8 : ((-2147483648) : Int) ≤ iC s 105 (0 : Int).toNat ∧ iC s 105 (0 : Int).toNat ≤ 2147483647 := I.2 105 _ (show (0 : Int).toNat < 7 by first | exact oq_e8ec3fa8 | omega)
    refine z_const X (show cdA 84 8 = some (.iconst 2, 1, 0, 0, 0) from rfl) ?_
    refine z_aload_n X (x := A 121) (show cdA 84 9 = some (.aload_n 2, 1, 0, 0, 0) from rfl) (List.Mem.tail _ (List.Mem.tail _ (List.Mem.head _))) ?_
    refine z_const X (show cdA 84 10 = some (.iconst 1, 1, 0, 0, 0) from rfl) ?_
    refine z_ald X 121 (show cdA 84 11 = some (.iaload, 1, 0, 0, 0) from rfl) (by decide) rfl (by decide) (show 1 < 7 by decide) (by decide) ?_
    have b9 : ((-2147483648) : Int) ≤ iC s 105 (1 : Int).toNat ∧ iC s 105 (1 : Int).toNat ≤ 2147483647 := I.2 105 _ (show (1 : Int).toNat < 7 by first | exact oq_a32b659c | omega)
    refine z_mul X (show cdA 84 12 = some (.imul, 1, 0, 0, 0) from rfl) ?_
    refine z_any (fun y10 hy10 => ?_)
    refine z_add X (show cdA 84 13 = some (.iadd, 1, 0, 0, 0) from rfl) ?_
    refine z_any (fun y11 hy11 => ?_)
    refine z_aload_n X (x := A 121) (show cdA 84 14 = some (.aload_n 2, 1, 0, 0, 0) from rfl) (List.Mem.tail _ (List.Mem.tail _ (List.Mem.head _))) ?_
    refine z_const X (show cdA 84 15 = some (.iconst 2, 1, 0, 0, 0) from rfl) ?_
    refine z_ald X 121 (show cdA 84 16 = some (.iaload, 1, 0, 0, 0) from rfl) (by decide) rfl (by decide) (show 2 < 7 by decide) (by decide) ?_
    have b12 : ((-2147483648) : Int) ≤ iC s 105 (2 : Int).toNat ∧ iC s 105 (2 : Int).toNat ≤ 2147483647 := I.2 105 _ (show (2 : Int).toNat < 7 by first | exact oq_62527c24 | omega)
    refine z_add X (show cdA 84 17 = some (.iadd, 1, 0, 0, 0) from rfl) ?_
    refine z_any (fun y13 hy13 => ?_)
    exact w_iret X.1 q hRt rfl (ax_d X (show cdA 84 18 = some (.ireturn, 1, 0, 0, 0) from rfl)) (Nat.zero_le _) (Nat.zero_le _) ⟨_, rfl, I, F, y13, rfl, hy13, trivial⟩
set_option maxRecDepth 4000 in
theorem c0_loadAt_113 (G : GX l s0 D tys a0 dT) (I : Bd s) {x y : Int} (p0 : 0 ≤ x ∧ x ≤ 23) (p1 : rng y) : CT l s0 D A dT 4 (rmN 4) [.ref (A 113), .int (Int32.ofInt x), .int (Int32.ofInt y)] s (fun o t => Bd t ∧ Fm [] [105, 20] s t ∧ ∃ e, o = .inl (some (.int (Int32.ofInt e))) ∧ rng e ∧ (True)) := by
  refine ct_ofX G (by decide) (Nat.le_of_ble_eq_true rfl) (fun k X E ET hRt hXt q => ?_)
  show WS k 0 [(0, .ref (A 113)), (1, .int (Int32.ofInt x)), (2, .int (Int32.ofInt y))] [] _ 0 0
  have F : Fm [] [105, 20] s s := fm_rf _ _ s
  refine z_aload_n X (x := A 113) (show cdA 4 0 = some (.aload_n 0, 1, 0, 0, 0) from rfl) (List.Mem.head _) ?_
  refine z_load_n X (x := x) (show cdA 4 1 = some (.iload_n 1, 1, 0, 0, 0) from rfl) (List.Mem.tail _ (List.Mem.head _)) ?_
  refine z_load_n X (x := y) (show cdA 4 2 = some (.iload_n 2, 1, 0, 0, 0) from rfl) (List.Mem.tail _ (List.Mem.tail _ (List.Mem.head _))) ?_
  refine z_callV X 113 (rm := rmN 3) (As := [.int (Int32.ofInt x), .int (Int32.ofInt y)]) (st := []) (show cdA 4 3 = some (.invokevirtual 96, 3, 3, 0, 0) from rfl) rfl (by decide) rfl (by rw [E.1, E.2.1, E.2.2.1]; exact c0_hear_113 G I (by first | exact ⟨p0.1, p0.2⟩ | omega) (by first | exact ⟨p1.1, p1.2⟩ | omega)) ⟨by rw [E.2.2.2]; exact (show (rmN 3).frames + 1 ≤ (rmN 4).frames by decide), by rw [E.2.2.2]; exact (show 8 + (mNL (miB 3) + 11) + (rmN 3).locals ≤ (rmN 4).locals by decide), by rw [E.2.2.2]; exact (show 0 + (rmN 3).cells ≤ (rmN 4).cells by decide), by rw [E.2.2.2]; exact (show 0 + (rmN 3).slots ≤ (rmN 4).slots by decide)⟩ (Nat.le_of_ble_eq_true rfl) (fun vv s1 hq => ?_) (fun ee s1 hq => ?_)
  rotate_left
  · obtain ⟨Is1, Fs1, hv, hps1⟩ := hq; cases hv
  obtain ⟨Is1, Fs1, hv, hps1⟩ := hq
  cases hv
  have Gs1 := fm_ts F Fs1 (by decide) (by decide)
  show WS k 6 [(0, .ref (A 113)), (1, .int (Int32.ofInt x)), (2, .int (Int32.ofInt y))] [] (Wd A dT s1) 0 0
  refine z_aload_n X (x := A 113) (show cdA 4 6 = some (.aload_n 0, 1, 0, 0, 0) from rfl) (List.Mem.head _) ?_
  refine s_getR X 113 (show cdA 4 7 = some (.getfield 47, 3, 0, 1, 0) from rfl) (by decide) rfl rfl ?_
  refine z_aload_n X (x := A 113) (show cdA 4 10 = some (.aload_n 0, 1, 0, 0, 0) from rfl) (List.Mem.head _) ?_
  refine s_getR X 113 (show cdA 4 11 = some (.getfield 47, 3, 0, 1, 0) from rfl) (by decide) rfl rfl ?_
  refine z_getI X 19 (show cdA 4 14 = some (.getfield 100, 3, 7, 4, 0) from rfl) (by decide) rfl rfl ?_
  have b3 : ((-1) : Int) ≤ iI s1 13 ∧ iI s1 13 ≤ 7 := Is1.1 13
  refine z_aload_n X (x := A 113) (show cdA 4 17 = some (.aload_n 0, 1, 0, 0, 0) from rfl) (List.Mem.head _) ?_
  refine s_getR X 113 (show cdA 4 18 = some (.getfield 37, 3, 0, 11, 0) from rfl) (by decide) rfl rfl ?_
  refine z_callV X 19 (rm := rmN 84) (As := [.int (Int32.ofInt (iI s1 13)), .ref (A 121)]) (st := []) (show cdA 4 21 = some (.invokevirtual 103, 3, 84, 0, 0) from rfl) rfl (by decide) rfl (by rw [E.1, E.2.1, E.2.2.1]; exact c7_work_113 G Is1 (by first | exact ⟨b3.1, b3.2⟩ | omega)) ⟨by rw [E.2.2.2]; exact (show (rmN 84).frames + 1 ≤ (rmN 4).frames by decide), by rw [E.2.2.2]; exact (show 8 + (mNL (miB 84) + 11) + (rmN 84).locals ≤ (rmN 4).locals by decide), by rw [E.2.2.2]; exact (show 0 + (rmN 84).cells ≤ (rmN 4).cells by decide), by rw [E.2.2.2]; exact (show 0 + (rmN 84).slots ≤ (rmN 4).slots by decide)⟩ (Nat.le_of_ble_eq_true rfl) (fun vv s4 hq => ?_) (fun ee s4 hq => ?_)
  rotate_left
  · obtain ⟨Is4, Fs4, e5, hv, hrs4, hps4⟩ := hq; cases hv
  obtain ⟨Is4, Fs4, e5, hv, hrs4, hps4⟩ := hq
  cases hv
  have Gs4 := fm_ts Gs1 Fs4 (by decide) (by decide)
  show WS k 24 [(0, .ref (A 113)), (1, .int (Int32.ofInt x)), (2, .int (Int32.ofInt y))] [.int (Int32.ofInt e5)] (Wd A dT s4) 0 0
  exact w_iret X.1 q hRt rfl (ax_d X (show cdA 4 24 = some (.ireturn, 1, 0, 0, 0) from rfl)) (Nat.zero_le _) (Nat.zero_le _) ⟨_, rfl, Is4, Gs4, e5, rfl, hrs4, trivial⟩
set_option maxRecDepth 4000 in
theorem c0_followSteps_123 (G : GX l s0 D tys a0 dT) (I : Bd s) {x : Int} {aj bj : Int64} (p0 : 0 ≤ x ∧ x ≤ 11) (p1 : iI s 55 ≤ 11) : CT l s0 D A dT 2 (rmN 2) [.ref (A 123), .int (Int32.ofInt x), .long aj, .long bj] s (fun o t => Bd t ∧ Fm [] [108, 109, 110] s t ∧ o = .inl none ∧ (True)) := by
  refine ct_ofX G (by decide) (Nat.le_of_ble_eq_true rfl) (fun k X E ET hRt hXt q => ?_)
  show WS k 0 [(0, .ref (A 123)), (1, .int (Int32.ofInt x)), (2, .long aj), (4, .long bj)] [] _ 0 0
  have F : Fm [] [108, 109, 110] s s := fm_rf _ _ s
  have b1 : (0 : Int) ≤ iI s 55 ∧ iI s 55 ≤ 12 := I.1 55
  have L12 : ∀ (n : Nat) (t : PS) (xv : Int) (av : Int64) (bv : Int64) (ov : Int) (wi : Int) (cl : Int) (kd : Int), Bd t → Fm [] [108, 109, 110] s t → ((0 ≤ xv ∧ xv ≤ 11) ∧ rng ov ∧ rng wi ∧ rng cl ∧ 0 ≤ kd ∧ kd ≤ 5 ∧ iI t 55 ≤ 11) → (5 - kd : Int).toNat < n → (∀ (t' : PS) (ov' : Int) (wi' : Int) (cl' : Int) (kd' : Int), Bd t' → Fm [] [108, 109, 110] s t' → ((0 ≤ xv ∧ xv ≤ 11) ∧ rng ov' ∧ rng wi' ∧ rng cl' ∧ 0 ≤ kd' ∧ kd' ≤ 5 ∧ iI t' 55 ≤ 11) → WS k 148 [(0, .ref (A 123)), (1, .int (Int32.ofInt xv)), (2, .long av), (4, .long bv), (6, .int (Int32.ofInt ov')), (7, .int (Int32.ofInt wi')), (8, .int (Int32.ofInt cl')), (9, .int (Int32.ofInt kd'))] [] (Wd A dT t') 0 0) → WS k 12 [(0, .ref (A 123)), (1, .int (Int32.ofInt xv)), (2, .long av), (4, .long bv), (6, .int (Int32.ofInt ov)), (7, .int (Int32.ofInt wi)), (8, .int (Int32.ofInt cl)), (9, .int (Int32.ofInt kd))] [] (Wd A dT t) 0 0 := by
    intro n
    induction n with
    | zero =>
      intro t xv av bv ov wi cl kd I F hi hm kx
      exact absurd hm (Nat.not_lt_zero _)
    | succ n ih =>
      intro t xv av bv ov wi cl kd I F hi hm kx
      have b1001 : (0 : Int) ≤ iI t 55 ∧ iI t 55 ≤ 12 := I.1 55
      refine z_load X (x := kd) (show cdA 2 12 = some (.iload 9, 2, 0, 0, 0) from rfl) (List.Mem.tail _ (List.Mem.tail _ (List.Mem.tail _ (List.Mem.tail _ (List.Mem.tail _ (List.Mem.tail _ (List.Mem.tail _ (List.Mem.head _)))))))) ?_
      refine z_const X (show cdA 2 14 = some (.iconst 5, 1, 0, 0, 0) from rfl) ?_
      refine z_icmp_ge X (t := 148) (show cdA 2 15 = some (.if_icmp .ge 133, 3, 3, 0, 0) from rfl) (by decide) ⟨by first | exact oq_fa4e5087 hi.2.2.2.2.1 | omega, by first | exact oq_a3dd55e5 hi.2.2.2.2.2.1 | omega⟩ (by decide) (fun g1002 => ?_) (fun g1002 => ?_)
      ·
        refine WS_lv (lv := [(0, .ref (A 123)), (1, .int (Int32.ofInt xv)), (2, .long av), (4, .long bv), (6, .int (Int32.ofInt ov)), (7, .int (Int32.ofInt wi)), (8, .int (Int32.ofInt cl)), (9, .int (Int32.ofInt kd))]) (List.forall_mem_cons.mpr ⟨(List.Mem.head _), (List.forall_mem_cons.mpr ⟨(List.Mem.tail _ (List.Mem.head _)), (List.forall_mem_cons.mpr ⟨(List.Mem.tail _ (List.Mem.tail _ (List.Mem.head _))), (List.forall_mem_cons.mpr ⟨(List.Mem.tail _ (List.Mem.tail _ (List.Mem.tail _ (List.Mem.head _)))), (List.forall_mem_cons.mpr ⟨(List.Mem.tail _ (List.Mem.tail _ (List.Mem.tail _ (List.Mem.tail _ (List.Mem.head _))))), (List.forall_mem_cons.mpr ⟨(List.Mem.tail _ (List.Mem.tail _ (List.Mem.tail _ (List.Mem.tail _ (List.Mem.tail _ (List.Mem.head _)))))), (List.forall_mem_cons.mpr ⟨(List.Mem.tail _ (List.Mem.tail _ (List.Mem.tail _ (List.Mem.tail _ (List.Mem.tail _ (List.Mem.tail _ (List.Mem.head _))))))), (List.forall_mem_cons.mpr ⟨(List.Mem.tail _ (List.Mem.tail _ (List.Mem.tail _ (List.Mem.tail _ (List.Mem.tail _ (List.Mem.tail _ (List.Mem.tail _ (List.Mem.head _)))))))), (fun q h => absurd h List.not_mem_nil)⟩)⟩)⟩)⟩)⟩)⟩)⟩)⟩) ?_
        exact kx _ ov wi cl kd I F (by first | exact ⟨And.intro (hi.1.1) (hi.1.2), And.intro (hi.2.1.1) (hi.2.1.2), And.intro (hi.2.2.1.1) (hi.2.2.1.2), And.intro (hi.2.2.2.1.1) (hi.2.2.2.1.2), hi.2.2.2.2.1, hi.2.2.2.2.2.1, hi.2.2.2.2.2.2⟩ | omega)
      ·
        refine z_aload_n X (x := A 123) (show cdA 2 18 = some (.aload_n 0, 1, 0, 0, 0) from rfl) (List.Mem.head _) ?_
        refine s_getR X 123 (show cdA 2 19 = some (.getfield 43, 3, 0, 0, 0) from rfl) (by decide) rfl rfl ?_
        refine s_getR X 68 (show cdA 2 22 = some (.getfield 84, 3, 9, 5, 0) from rfl) (by decide) rfl rfl ?_
        refine z_load_n X (x := xv) (show cdA 2 25 = some (.iload_n 1, 1, 0, 0, 0) from rfl) (List.Mem.tail _ (List.Mem.head _)) ?_
        refine z_const X (show cdA 2 26 = some (.iconst 5, 1, 0, 0, 0) from rfl) ?_
        refine z_mul X (show cdA 2 27 = some (.imul, 1, 0, 0, 0) from rfl) ?_
        refine z_load X (x := kd) (show cdA 2 28 = some (.iload 9, 2, 0, 0, 0) from rfl) (List.Mem.tail _ (List.Mem.tail _ (List.Mem.tail _ (List.Mem.tail _ (List.Mem.tail _ (List.Mem.tail _ (List.Mem.tail _ (List.Mem.head _)))))))) ?_
        refine z_add X (show cdA 2 30 = some (.iadd, 1, 0, 0, 0) from rfl) ?_
        refine z_lald X 73 (show cdA 2 31 = some (.laload, 1, 0, 0, 0) from rfl) (by decide) rfl (by first | exact oq_59a253bd hi.1.1 hi.2.2.2.2.1 | omega) (show ((xv * 5) + kd) < 60 by first | exact oq_7279bf48 hi.1.2 g1002 | omega) (by decide) (fun j1003 => ?_)
        refine w_lstore X.1 (lv' := [(10, .long j1003), (0, .ref (A 123)), (1, .int (Int32.ofInt xv)), (2, .long av), (4, .long bv), (6, .int (Int32.ofInt ov)), (7, .int (Int32.ofInt wi)), (8, .int (Int32.ofInt cl)), (9, .int (Int32.ofInt kd))]) (ax_d X (show cdA 2 32 = some (.lstore 10, 2, 0, 0, 0) from rfl)) (by rw [X.2.1.2.2]; decide) (fun _ h => h) ?_
        refine w_lload X.1 (ax_d X (show cdA 2 34 = some (.lload 10, 2, 0, 0, 0) from rfl)) (x := j1003) (List.Mem.head _) ?_
        refine w_lconst X.1 (ax_d X (show cdA 2 36 = some (.lconst 0, 1, 0, 0, 0) from rfl)) rfl ?_
        refine z_anyJ (fun j1004 => ?_)
        refine w_lcmp X.1 (ax_d X (show cdA 2 37 = some (.lcmp, 1, 0, 0, 0) from rfl)) ?_
        refine z_any (fun y1005 hy1005 => ?_)
        refine z_if_eq X (t := 142) (show cdA 2 38 = some (.ifCond .eq 104, 3, 0, 0, 0) from rfl) (by decide) hy1005 (fun g1006 => ?_) (fun g1006 => ?_)
        ·
          refine z_inc X (x := kd) (lv' := [(9, .int (Int32.ofInt (kd + 1))), (10, .long j1003), (0, .ref (A 123)), (1, .int (Int32.ofInt xv)), (2, .long av), (4, .long bv), (6, .int (Int32.ofInt ov)), (7, .int (Int32.ofInt wi)), (8, .int (Int32.ofInt cl))]) (show cdA 2 142 = some (.iinc 9 1, 3, 0, 0, 0) from rfl) (by decide) (List.Mem.tail _ (List.Mem.tail _ (List.Mem.tail _ (List.Mem.tail _ (List.Mem.tail _ (List.Mem.tail _ (List.Mem.tail _ (List.Mem.tail _ (List.Mem.head _))))))))) (fun _ h => h) ?_
          refine z_goto X (t := 12) (show cdA 2 145 = some (.goto (-133), 3, 0, 0, 0) from rfl) (by decide) ?_
          refine WS_lv (lv := [(0, .ref (A 123)), (1, .int (Int32.ofInt xv)), (2, .long av), (4, .long bv), (6, .int (Int32.ofInt ov)), (7, .int (Int32.ofInt wi)), (8, .int (Int32.ofInt cl)), (9, .int (Int32.ofInt (kd + 1)))]) (List.forall_mem_cons.mpr ⟨(List.Mem.tail _ (List.Mem.tail _ (List.Mem.head _))), (List.forall_mem_cons.mpr ⟨(List.Mem.tail _ (List.Mem.tail _ (List.Mem.tail _ (List.Mem.head _)))), (List.forall_mem_cons.mpr ⟨(List.Mem.tail _ (List.Mem.tail _ (List.Mem.tail _ (List.Mem.tail _ (List.Mem.head _))))), (List.forall_mem_cons.mpr ⟨(List.Mem.tail _ (List.Mem.tail _ (List.Mem.tail _ (List.Mem.tail _ (List.Mem.tail _ (List.Mem.head _)))))), (List.forall_mem_cons.mpr ⟨(List.Mem.tail _ (List.Mem.tail _ (List.Mem.tail _ (List.Mem.tail _ (List.Mem.tail _ (List.Mem.tail _ (List.Mem.head _))))))), (List.forall_mem_cons.mpr ⟨(List.Mem.tail _ (List.Mem.tail _ (List.Mem.tail _ (List.Mem.tail _ (List.Mem.tail _ (List.Mem.tail _ (List.Mem.tail _ (List.Mem.head _)))))))), (List.forall_mem_cons.mpr ⟨(List.Mem.tail _ (List.Mem.tail _ (List.Mem.tail _ (List.Mem.tail _ (List.Mem.tail _ (List.Mem.tail _ (List.Mem.tail _ (List.Mem.tail _ (List.Mem.head _))))))))), (List.forall_mem_cons.mpr ⟨(List.Mem.head _), (fun q h => absurd h List.not_mem_nil)⟩)⟩)⟩)⟩)⟩)⟩)⟩)⟩) ?_
          exact ih _ xv av bv ov wi cl (kd + 1) I F (by first | exact ⟨And.intro (hi.1.1) (hi.1.2), And.intro (hi.2.1.1) (hi.2.1.2), And.intro (hi.2.2.1.1) (hi.2.2.1.2), And.intro (hi.2.2.2.1.1) (hi.2.2.2.1.2), oq_54f49eb5 hi.2.2.2.2.1, oq_c2445583 g1002, hi.2.2.2.2.2.2⟩ | omega) (by first | exact qk_me hm (by decide) (oq_33241a94 g1002) | omega) kx
        ·
          refine z_load X (x := kd) (show cdA 2 41 = some (.iload 9, 2, 0, 0, 0) from rfl) (List.Mem.tail _ (List.Mem.tail _ (List.Mem.tail _ (List.Mem.tail _ (List.Mem.tail _ (List.Mem.tail _ (List.Mem.tail _ (List.Mem.tail _ (List.Mem.head _))))))))) ?_
          refine z_const X (show cdA 2 43 = some (.iconst 1, 1, 0, 0, 0) from rfl) ?_
          have N1007 : ∀ j1008 : Int64, WS k 59 [(10, .long j1003), (0, .ref (A 123)), (1, .int (Int32.ofInt xv)), (2, .long av), (4, .long bv), (6, .int (Int32.ofInt ov)), (7, .int (Int32.ofInt wi)), (8, .int (Int32.ofInt cl)), (9, .int (Int32.ofInt kd))] [.long j1008] (Wd A dT t) 0 0 := by
            intro j1008
            refine w_lstore X.1 (lv' := [(12, .long j1008), (10, .long j1003), (0, .ref (A 123)), (1, .int (Int32.ofInt xv)), (2, .long av), (4, .long bv), (6, .int (Int32.ofInt ov)), (7, .int (Int32.ofInt wi)), (8, .int (Int32.ofInt cl)), (9, .int (Int32.ofInt kd))]) (ax_d X (show cdA 2 59 = some (.lstore 12, 2, 0, 0, 0) from rfl)) (by rw [X.2.1.2.2]; decide) (fun _ h => h) ?_
            refine z_load X (x := kd) (show cdA 2 61 = some (.iload 9, 2, 0, 0, 0) from rfl) (List.Mem.tail _ (List.Mem.tail _ (List.Mem.tail _ (List.Mem.tail _ (List.Mem.tail _ (List.Mem.tail _ (List.Mem.tail _ (List.Mem.tail _ (List.Mem.tail _ (List.Mem.head _)))))))))) ?_
            refine z_const X (show cdA 2 63 = some (.iconst 4, 1, 0, 0, 0) from rfl) ?_
            have N1009 : ∀ j1010 : Int64, WS k 90 [(12, .long j1008), (10, .long j1003), (0, .ref (A 123)), (1, .int (Int32.ofInt xv)), (2, .long av), (4, .long bv), (6, .int (Int32.ofInt ov)), (7, .int (Int32.ofInt wi)), (8, .int (Int32.ofInt cl)), (9, .int (Int32.ofInt kd))] [.long j1010] (Wd A dT t) 0 0 := by
              intro j1010
              refine w_lstore X.1 (lv' := [(14, .long j1010), (12, .long j1008), (10, .long j1003), (0, .ref (A 123)), (1, .int (Int32.ofInt xv)), (2, .long av), (4, .long bv), (6, .int (Int32.ofInt ov)), (7, .int (Int32.ofInt wi)), (8, .int (Int32.ofInt cl)), (9, .int (Int32.ofInt kd))]) (ax_d X (show cdA 2 90 = some (.lstore 14, 2, 0, 0, 0) from rfl)) (by rw [X.2.1.2.2]; decide) (fun _ h => h) ?_
              refine w_lload X.1 (ax_d X (show cdA 2 92 = some (.lload 10, 2, 0, 0, 0) from rfl)) (x := j1003) (List.Mem.tail _ (List.Mem.tail _ (List.Mem.head _))) ?_
              refine w_lload X.1 (ax_d X (show cdA 2 94 = some (.lload 12, 2, 0, 0, 0) from rfl)) (x := j1008) (List.Mem.tail _ (List.Mem.head _)) ?_
              refine w_land X.1 (ax_d X (show cdA 2 96 = some (.land, 1, 0, 0, 0) from rfl)) ?_
              refine z_anyJ (fun j1011 => ?_)
              refine w_lload X.1 (ax_d X (show cdA 2 97 = some (.lload 14, 2, 0, 0, 0) from rfl)) (x := j1010) (List.Mem.head _) ?_
              refine w_land X.1 (ax_d X (show cdA 2 99 = some (.land, 1, 0, 0, 0) from rfl)) ?_
              refine z_anyJ (fun j1012 => ?_)
              refine z_callS X (rm := rmN 298) (As := [.long j1012]) (st := []) (show cdA 2 100 = some (.invokestatic 51, 3, 298, 1, 0) from rfl) rfl (by rw [E.1, E.2.1, E.2.2.1]; exact j_bitL G I ) ⟨by rw [E.2.2.2]; exact (show (rmN 298).frames + 1 ≤ (rmN 2).frames by decide), by rw [E.2.2.2]; exact (show 8 + (mNL (miB 298) + 11) + (rmN 298).locals ≤ (rmN 2).locals by decide), by rw [E.2.2.2]; exact (show 0 + (rmN 298).cells ≤ (rmN 2).cells by decide), by rw [E.2.2.2]; exact (show 0 + (rmN 298).slots ≤ (rmN 2).slots by decide)⟩ (Nat.le_of_ble_eq_true rfl) (fun vv s1013 hq => ?_) (fun ee s1013 hq => ?_)
              rotate_left
              · obtain ⟨Is1013, Fs1013, e1014, hv, hrs1013, hps1013⟩ := hq; cases hv
              obtain ⟨Is1013, Fs1013, e1014, hv, hrs1013, hps1013⟩ := hq
              cases hv
              have Gs1013 := fm_ts F Fs1013 (by decide) (by decide)
              have ws1013_55 : iI s1013 55 = iI t 55 := fm_i Fs1013 (by decide)
              show WS k 103 [(14, .long j1010), (12, .long j1008), (10, .long j1003), (0, .ref (A 123)), (1, .int (Int32.ofInt xv)), (2, .long av), (4, .long bv), (6, .int (Int32.ofInt ov)), (7, .int (Int32.ofInt wi)), (8, .int (Int32.ofInt cl)), (9, .int (Int32.ofInt kd))] [.int (Int32.ofInt e1014)] (Wd A dT s1013) 0 0
              refine z_store X (lv' := [(16, .int (Int32.ofInt e1014)), (14, .long j1010), (12, .long j1008), (10, .long j1003), (0, .ref (A 123)), (1, .int (Int32.ofInt xv)), (2, .long av), (4, .long bv), (6, .int (Int32.ofInt ov)), (7, .int (Int32.ofInt wi)), (8, .int (Int32.ofInt cl)), (9, .int (Int32.ofInt kd))]) (show cdA 2 103 = some (.istore 16, 2, 0, 0, 0) from rfl) (by decide) (fun _ h => h) ?_
              refine z_load X (x := ov) (show cdA 2 105 = some (.iload 6, 2, 0, 0, 0) from rfl) (List.Mem.tail _ (List.Mem.tail _ (List.Mem.tail _ (List.Mem.tail _ (List.Mem.tail _ (List.Mem.tail _ (List.Mem.tail _ (List.Mem.tail _ (List.Mem.head _))))))))) ?_
              refine w_lload X.1 (ax_d X (show cdA 2 107 = some (.lload 10, 2, 0, 0, 0) from rfl)) (x := j1003) (List.Mem.tail _ (List.Mem.tail _ (List.Mem.tail _ (List.Mem.head _)))) ?_
              refine w_lload X.1 (ax_d X (show cdA 2 109 = some (.lload 12, 2, 0, 0, 0) from rfl)) (x := j1008) (List.Mem.tail _ (List.Mem.tail _ (List.Mem.head _))) ?_
              refine w_lload X.1 (ax_d X (show cdA 2 111 = some (.lload 14, 2, 0, 0, 0) from rfl)) (x := j1010) (List.Mem.tail _ (List.Mem.head _)) ?_
              refine w_lxor X.1 (ax_d X (show cdA 2 113 = some (.lxor, 1, 0, 0, 0) from rfl)) ?_
              refine z_anyJ (fun j1015 => ?_)
              refine w_land X.1 (ax_d X (show cdA 2 114 = some (.land, 1, 0, 0, 0) from rfl)) ?_
              refine z_anyJ (fun j1016 => ?_)
              refine z_callS X (rm := rmN 298) (As := [.long j1016]) (st := [.int (Int32.ofInt ov)]) (show cdA 2 115 = some (.invokestatic 51, 3, 298, 1, 0) from rfl) rfl (by rw [E.1, E.2.1, E.2.2.1]; exact j_bitL G Is1013 ) ⟨by rw [E.2.2.2]; exact (show (rmN 298).frames + 1 ≤ (rmN 2).frames by decide), by rw [E.2.2.2]; exact (show 8 + (mNL (miB 298) + 11) + (rmN 298).locals ≤ (rmN 2).locals by decide), by rw [E.2.2.2]; exact (show 0 + (rmN 298).cells ≤ (rmN 2).cells by decide), by rw [E.2.2.2]; exact (show 0 + (rmN 298).slots ≤ (rmN 2).slots by decide)⟩ (Nat.le_of_ble_eq_true rfl) (fun vv s1017 hq => ?_) (fun ee s1017 hq => ?_)
              rotate_left
              · obtain ⟨Is1017, Fs1017, e1018, hv, hrs1017, hps1017⟩ := hq; cases hv
              obtain ⟨Is1017, Fs1017, e1018, hv, hrs1017, hps1017⟩ := hq
              cases hv
              have Gs1017 := fm_ts Gs1013 Fs1017 (by decide) (by decide)
              have ws1017_55 : iI s1017 55 = iI s1013 55 := fm_i Fs1017 (by decide)
              show WS k 118 [(16, .int (Int32.ofInt e1014)), (14, .long j1010), (12, .long j1008), (10, .long j1003), (0, .ref (A 123)), (1, .int (Int32.ofInt xv)), (2, .long av), (4, .long bv), (6, .int (Int32.ofInt ov)), (7, .int (Int32.ofInt wi)), (8, .int (Int32.ofInt cl)), (9, .int (Int32.ofInt kd))] [.int (Int32.ofInt e1018), .int (Int32.ofInt ov)] (Wd A dT s1017) 0 0
              refine z_add X (show cdA 2 118 = some (.iadd, 1, 0, 0, 0) from rfl) ?_
              refine z_any (fun y1019 hy1019 => ?_)
              refine z_store X (lv' := [(6, .int (Int32.ofInt y1019)), (16, .int (Int32.ofInt e1014)), (14, .long j1010), (12, .long j1008), (10, .long j1003), (0, .ref (A 123)), (1, .int (Int32.ofInt xv)), (2, .long av), (4, .long bv), (7, .int (Int32.ofInt wi)), (8, .int (Int32.ofInt cl)), (9, .int (Int32.ofInt kd))]) (show cdA 2 119 = some (.istore 6, 2, 0, 0, 0) from rfl) (by decide) (fun _ h => h) ?_
              refine z_load X (x := wi) (show cdA 2 121 = some (.iload 7, 2, 0, 0, 0) from rfl) (List.Mem.tail _ (List.Mem.tail _ (List.Mem.tail _ (List.Mem.tail _ (List.Mem.tail _ (List.Mem.tail _ (List.Mem.tail _ (List.Mem.tail _ (List.Mem.tail _ (List.Mem.head _)))))))))) ?_
              refine z_load X (x := e1014) (show cdA 2 123 = some (.iload 16, 2, 0, 0, 0) from rfl) (List.Mem.tail _ (List.Mem.head _)) ?_
              refine z_add X (show cdA 2 125 = some (.iadd, 1, 0, 0, 0) from rfl) ?_
              refine z_any (fun y1020 hy1020 => ?_)
              refine z_store X (lv' := [(7, .int (Int32.ofInt y1020)), (6, .int (Int32.ofInt y1019)), (16, .int (Int32.ofInt e1014)), (14, .long j1010), (12, .long j1008), (10, .long j1003), (0, .ref (A 123)), (1, .int (Int32.ofInt xv)), (2, .long av), (4, .long bv), (8, .int (Int32.ofInt cl)), (9, .int (Int32.ofInt kd))]) (show cdA 2 126 = some (.istore 7, 2, 0, 0, 0) from rfl) (by decide) (fun _ h => h) ?_
              refine z_load X (x := kd) (show cdA 2 128 = some (.iload 9, 2, 0, 0, 0) from rfl) (List.Mem.tail _ (List.Mem.tail _ (List.Mem.tail _ (List.Mem.tail _ (List.Mem.tail _ (List.Mem.tail _ (List.Mem.tail _ (List.Mem.tail _ (List.Mem.tail _ (List.Mem.tail _ (List.Mem.tail _ (List.Mem.head _)))))))))))) ?_
              refine z_const X (show cdA 2 130 = some (.iconst 4, 1, 0, 0, 0) from rfl) ?_
              have N1021 : ∀ e1022 : Int, (((kd ≠ 4) ∧ e1022 = 0) ∨ ((kd = 4) ∧ e1022 = e1014)) → WS k 140 [(7, .int (Int32.ofInt y1020)), (6, .int (Int32.ofInt y1019)), (16, .int (Int32.ofInt e1014)), (14, .long j1010), (12, .long j1008), (10, .long j1003), (0, .ref (A 123)), (1, .int (Int32.ofInt xv)), (2, .long av), (4, .long bv), (8, .int (Int32.ofInt cl)), (9, .int (Int32.ofInt kd))] [.int (Int32.ofInt e1022)] (Wd A dT s1017) 0 0 := by
                intro e1022 he1022
                refine z_store X (lv' := [(8, .int (Int32.ofInt e1022)), (7, .int (Int32.ofInt y1020)), (6, .int (Int32.ofInt y1019)), (16, .int (Int32.ofInt e1014)), (14, .long j1010), (12, .long j1008), (10, .long j1003), (0, .ref (A 123)), (1, .int (Int32.ofInt xv)), (2, .long av), (4, .long bv), (9, .int (Int32.ofInt kd))]) (show cdA 2 140 = some (.istore 8, 2, 0, 0, 0) from rfl) (by decide) (fun _ h => h) ?_
                refine z_inc X (x := kd) (lv' := [(9, .int (Int32.ofInt (kd + 1))), (8, .int (Int32.ofInt e1022)), (7, .int (Int32.ofInt y1020)), (6, .int (Int32.ofInt y1019)), (16, .int (Int32.ofInt e1014)), (14, .long j1010), (12, .long j1008), (10, .long j1003), (0, .ref (A 123)), (1, .int (Int32.ofInt xv)), (2, .long av), (4, .long bv)]) (show cdA 2 142 = some (.iinc 9 1, 3, 0, 0, 0) from rfl) (by decide) (List.Mem.tail _ (List.Mem.tail _ (List.Mem.tail _ (List.Mem.tail _ (List.Mem.tail _ (List.Mem.tail _ (List.Mem.tail _ (List.Mem.tail _ (List.Mem.tail _ (List.Mem.tail _ (List.Mem.tail _ (List.Mem.head _)))))))))))) (fun _ h => h) ?_
                refine z_goto X (t := 12) (show cdA 2 145 = some (.goto (-133), 3, 0, 0, 0) from rfl) (by decide) ?_
                refine WS_lv (lv := [(0, .ref (A 123)), (1, .int (Int32.ofInt xv)), (2, .long av), (4, .long bv), (6, .int (Int32.ofInt y1019)), (7, .int (Int32.ofInt y1020)), (8, .int (Int32.ofInt e1022)), (9, .int (Int32.ofInt (kd + 1)))]) (List.forall_mem_cons.mpr ⟨(List.Mem.tail _ (List.Mem.tail _ (List.Mem.tail _ (List.Mem.tail _ (List.Mem.tail _ (List.Mem.tail _ (List.Mem.tail _ (List.Mem.tail _ (List.Mem.head _))))))))), (List.forall_mem_cons.mpr ⟨(List.Mem.tail _ (List.Mem.tail _ (List.Mem.tail _ (List.Mem.tail _ (List.Mem.tail _ (List.Mem.tail _ (List.Mem.tail _ (List.Mem.tail _ (List.Mem.tail _ (List.Mem.head _)))))))))), (List.forall_mem_cons.mpr ⟨(List.Mem.tail _ (List.Mem.tail _ (List.Mem.tail _ (List.Mem.tail _ (List.Mem.tail _ (List.Mem.tail _ (List.Mem.tail _ (List.Mem.tail _ (List.Mem.tail _ (List.Mem.tail _ (List.Mem.head _))))))))))), (List.forall_mem_cons.mpr ⟨(List.Mem.tail _ (List.Mem.tail _ (List.Mem.tail _ (List.Mem.tail _ (List.Mem.tail _ (List.Mem.tail _ (List.Mem.tail _ (List.Mem.tail _ (List.Mem.tail _ (List.Mem.tail _ (List.Mem.tail _ (List.Mem.head _)))))))))))), (List.forall_mem_cons.mpr ⟨(List.Mem.tail _ (List.Mem.tail _ (List.Mem.tail _ (List.Mem.head _)))), (List.forall_mem_cons.mpr ⟨(List.Mem.tail _ (List.Mem.tail _ (List.Mem.head _))), (List.forall_mem_cons.mpr ⟨(List.Mem.tail _ (List.Mem.head _)), (List.forall_mem_cons.mpr ⟨(List.Mem.head _), (fun q h => absurd h List.not_mem_nil)⟩)⟩)⟩)⟩)⟩)⟩)⟩)⟩) ?_
                exact ih _ xv av bv y1019 y1020 e1022 (kd + 1) Is1017 Gs1017 (by first | exact ⟨And.intro (hi.1.1) (hi.1.2), And.intro (hy1019.1) (hy1019.2), And.intro (hy1020.1) (hy1020.2), by omega, oq_54f49eb5 hi.2.2.2.2.1, oq_c2445583 g1002, oq_9a920414 ws1017_55 ws1013_55 hi.2.2.2.2.2.2⟩ | omega) (by first | exact qk_me hm (by decide) (oq_33241a94 g1002) | omega) kx
              refine z_icmp_ne X (t := 139) (show cdA 2 131 = some (.if_icmp .ne 8, 3, 1, 0, 0) from rfl) (by decide) ⟨by first | exact oq_fa4e5087 hi.2.2.2.2.1 | omega, by first | exact oq_85aa3fe6 g1002 | omega⟩ (by decide) (fun g1023 => ?_) (fun g1023 => ?_)
              ·
                refine z_const X (show cdA 2 139 = some (.iconst 0, 1, 0, 0, 0) from rfl) ?_
                exact N1021 _ (Or.inl ⟨g1023, rfl⟩)
              ·
                refine z_load X (x := e1014) (show cdA 2 134 = some (.iload 16, 2, 0, 0, 0) from rfl) (List.Mem.tail _ (List.Mem.tail _ (List.Mem.head _))) ?_
                refine z_goto X (t := 140) (show cdA 2 136 = some (.goto 4, 3, 0, 0, 0) from rfl) (by decide) ?_
                exact N1021 _ (Or.inr (⟨g1023, rfl⟩))
            refine z_icmp_ne X (t := 72) (show cdA 2 64 = some (.if_icmp .ne 8, 3, 1, 0, 0) from rfl) (by decide) ⟨by first | exact oq_fa4e5087 hi.2.2.2.2.1 | omega, by first | exact oq_85aa3fe6 g1002 | omega⟩ (by decide) (fun g1024 => ?_) (fun g1024 => ?_)
            ·
              refine z_load X (x := kd) (show cdA 2 72 = some (.iload 9, 2, 0, 0, 0) from rfl) (List.Mem.tail _ (List.Mem.tail _ (List.Mem.tail _ (List.Mem.tail _ (List.Mem.tail _ (List.Mem.tail _ (List.Mem.tail _ (List.Mem.tail _ (List.Mem.tail _ (List.Mem.head _)))))))))) ?_
              refine z_const X (show cdA 2 74 = some (.iconst 2, 1, 0, 0, 0) from rfl) ?_
              refine z_icmp_ge X (t := 85) (show cdA 2 75 = some (.if_icmp .ge 10, 3, 3, 0, 0) from rfl) (by decide) ⟨by first | exact oq_fa4e5087 hi.2.2.2.2.1 | omega, by first | exact oq_85aa3fe6 g1002 | omega⟩ (by decide) (fun g1025 => ?_) (fun g1025 => ?_)
              ·
                refine w_lload X.1 (ax_d X (show cdA 2 85 = some (.lload 12, 2, 0, 0, 0) from rfl)) (x := j1008) (List.Mem.head _) ?_
                refine z_bipush X (show cdA 2 87 = some (.bipush 8, 2, 0, 0, 8) from rfl) ?_
                refine w_lushr X.1 (ax_d X (show cdA 2 89 = some (.lushr, 1, 0, 0, 0) from rfl)) ?_
                refine z_anyJ (fun j1026 => ?_)
                exact N1009 _
              ·
                refine w_lload X.1 (ax_d X (show cdA 2 78 = some (.lload 12, 2, 0, 0, 0) from rfl)) (x := j1008) (List.Mem.head _) ?_
                refine z_const X (show cdA 2 80 = some (.iconst 1, 1, 0, 0, 0) from rfl) ?_
                refine w_lushr X.1 (ax_d X (show cdA 2 81 = some (.lushr, 1, 0, 0, 0) from rfl)) ?_
                refine z_anyJ (fun j1027 => ?_)
                refine z_goto X (t := 90) (show cdA 2 82 = some (.goto 8, 3, 0, 0, 0) from rfl) (by decide) ?_
                exact N1009 _
            ·
              refine w_lload X.1 (ax_d X (show cdA 2 67 = some (.lload 4, 2, 0, 0, 0) from rfl)) (x := bv) (List.Mem.tail _ (List.Mem.tail _ (List.Mem.tail _ (List.Mem.tail _ (List.Mem.tail _ (List.Mem.head _)))))) ?_
              refine z_goto X (t := 90) (show cdA 2 69 = some (.goto 21, 3, 0, 0, 0) from rfl) (by decide) ?_
              exact N1009 _
          refine z_icmp_eq X (t := 53) (show cdA 2 44 = some (.if_icmp .eq 9, 3, 0, 0, 0) from rfl) (by decide) ⟨by first | exact oq_fa4e5087 hi.2.2.2.2.1 | omega, by first | exact oq_85aa3fe6 g1002 | omega⟩ (by decide) (fun g1028 => ?_) (fun g1028 => ?_)
          ·
            refine w_lload X.1 (ax_d X (show cdA 2 53 = some (.lload 4, 2, 0, 0, 0) from rfl)) (x := bv) (List.Mem.tail _ (List.Mem.tail _ (List.Mem.tail _ (List.Mem.tail _ (List.Mem.head _))))) ?_
            refine z_goto X (t := 59) (show cdA 2 55 = some (.goto 4, 3, 0, 0, 0) from rfl) (by decide) ?_
            exact N1007 _
          ·
            refine z_load X (x := kd) (show cdA 2 47 = some (.iload 9, 2, 0, 0, 0) from rfl) (List.Mem.tail _ (List.Mem.tail _ (List.Mem.tail _ (List.Mem.tail _ (List.Mem.tail _ (List.Mem.tail _ (List.Mem.tail _ (List.Mem.tail _ (List.Mem.head _))))))))) ?_
            refine z_const X (show cdA 2 49 = some (.iconst 3, 1, 0, 0, 0) from rfl) ?_
            refine z_icmp_ne X (t := 58) (show cdA 2 50 = some (.if_icmp .ne 8, 3, 1, 0, 0) from rfl) (by decide) ⟨by first | exact oq_fa4e5087 hi.2.2.2.2.1 | omega, by first | exact oq_85aa3fe6 g1002 | omega⟩ (by decide) (fun g1029 => ?_) (fun g1029 => ?_)
            ·
              refine w_lload_n X.1 (ax_d X (show cdA 2 58 = some (.lload_n 2, 1, 0, 0, 0) from rfl)) (x := av) (List.Mem.tail _ (List.Mem.tail _ (List.Mem.tail _ (List.Mem.head _)))) ?_
              exact N1007 _
            ·
              refine w_lload X.1 (ax_d X (show cdA 2 53 = some (.lload 4, 2, 0, 0, 0) from rfl)) (x := bv) (List.Mem.tail _ (List.Mem.tail _ (List.Mem.tail _ (List.Mem.tail _ (List.Mem.head _))))) ?_
              refine z_goto X (t := 59) (show cdA 2 55 = some (.goto 4, 3, 0, 0, 0) from rfl) (by decide) ?_
              exact N1007 _
  refine z_const X (show cdA 2 0 = some (.iconst 0, 1, 0, 0, 0) from rfl) ?_
  refine z_store X (lv' := [(6, .int (Int32.ofInt 0)), (0, .ref (A 123)), (1, .int (Int32.ofInt x)), (2, .long aj), (4, .long bj)]) (show cdA 2 1 = some (.istore 6, 2, 0, 0, 0) from rfl) (by decide) (fun _ h => h) ?_
  refine z_const X (show cdA 2 3 = some (.iconst 0, 1, 0, 0, 0) from rfl) ?_
  refine z_store X (lv' := [(7, .int (Int32.ofInt 0)), (6, .int (Int32.ofInt 0)), (0, .ref (A 123)), (1, .int (Int32.ofInt x)), (2, .long aj), (4, .long bj)]) (show cdA 2 4 = some (.istore 7, 2, 0, 0, 0) from rfl) (by decide) (fun _ h => h) ?_
  refine z_const X (show cdA 2 6 = some (.iconst 0, 1, 0, 0, 0) from rfl) ?_
  refine z_store X (lv' := [(8, .int (Int32.ofInt 0)), (7, .int (Int32.ofInt 0)), (6, .int (Int32.ofInt 0)), (0, .ref (A 123)), (1, .int (Int32.ofInt x)), (2, .long aj), (4, .long bj)]) (show cdA 2 7 = some (.istore 8, 2, 0, 0, 0) from rfl) (by decide) (fun _ h => h) ?_
  refine z_const X (show cdA 2 9 = some (.iconst 0, 1, 0, 0, 0) from rfl) ?_
  refine z_store X (lv' := [(9, .int (Int32.ofInt 0)), (8, .int (Int32.ofInt 0)), (7, .int (Int32.ofInt 0)), (6, .int (Int32.ofInt 0)), (0, .ref (A 123)), (1, .int (Int32.ofInt x)), (2, .long aj), (4, .long bj)]) (show cdA 2 10 = some (.istore 9, 2, 0, 0, 0) from rfl) (by decide) (fun _ h => h) ?_
  refine WS_lv (lv := [(0, .ref (A 123)), (1, .int (Int32.ofInt x)), (2, .long aj), (4, .long bj), (6, .int (Int32.ofInt 0)), (7, .int (Int32.ofInt 0)), (8, .int (Int32.ofInt 0)), (9, .int (Int32.ofInt 0))]) (List.forall_mem_cons.mpr ⟨(List.Mem.tail _ (List.Mem.tail _ (List.Mem.tail _ (List.Mem.tail _ (List.Mem.head _))))), (List.forall_mem_cons.mpr ⟨(List.Mem.tail _ (List.Mem.tail _ (List.Mem.tail _ (List.Mem.tail _ (List.Mem.tail _ (List.Mem.head _)))))), (List.forall_mem_cons.mpr ⟨(List.Mem.tail _ (List.Mem.tail _ (List.Mem.tail _ (List.Mem.tail _ (List.Mem.tail _ (List.Mem.tail _ (List.Mem.head _))))))), (List.forall_mem_cons.mpr ⟨(List.Mem.tail _ (List.Mem.tail _ (List.Mem.tail _ (List.Mem.tail _ (List.Mem.tail _ (List.Mem.tail _ (List.Mem.tail _ (List.Mem.head _)))))))), (List.forall_mem_cons.mpr ⟨(List.Mem.tail _ (List.Mem.tail _ (List.Mem.tail _ (List.Mem.head _)))), (List.forall_mem_cons.mpr ⟨(List.Mem.tail _ (List.Mem.tail _ (List.Mem.head _))), (List.forall_mem_cons.mpr ⟨(List.Mem.tail _ (List.Mem.head _)), (List.forall_mem_cons.mpr ⟨(List.Mem.head _), (fun q h => absurd h List.not_mem_nil)⟩)⟩)⟩)⟩)⟩)⟩)⟩)⟩) ?_
  refine L12 ((5 - 0 : Int).toNat + 1) s x aj bj 0 0 0 0 I F (by first | exact ⟨And.intro (p0.1) (p0.2), And.intro (by decide) (by decide), And.intro (by decide) (by decide), And.intro (by decide) (by decide), by decide, by decide, p1⟩ | omega) (Nat.lt_succ_self _) ?_
  intro s2 x3 x4 x5 x6 Is2 Fs2 hs2
  have b7 : (0 : Int) ≤ iI s2 55 ∧ iI s2 55 ≤ 12 := Is2.1 55
  refine z_aload_n X (x := A 123) (show cdA 2 148 = some (.aload_n 0, 1, 0, 0, 0) from rfl) (List.Mem.head _) ?_
  refine s_getR X 123 (show cdA 2 149 = some (.getfield 15, 3, 0, 4, 0) from rfl) (by decide) rfl rfl ?_
  refine z_aload_n X (x := A 123) (show cdA 2 152 = some (.aload_n 0, 1, 0, 0, 0) from rfl) (List.Mem.head _) ?_
  refine z_getI X 123 (show cdA 2 153 = some (.getfield 57, 3, 0, 2, 0) from rfl) (by decide) rfl rfl ?_
  have b8 : (0 : Int) ≤ iI s2 55 ∧ iI s2 55 ≤ 12 := Is2.1 55
  refine z_load X (x := x3) (show cdA 2 156 = some (.iload 6, 2, 0, 0, 0) from rfl) (List.Mem.tail _ (List.Mem.tail _ (List.Mem.tail _ (List.Mem.tail _ (List.Mem.head _))))) ?_
  refine z_ast X 125 (show cdA 2 158 = some (.iastore, 1, 0, 0, 0) from rfl) (by decide) rfl (by first | exact b8.1 | omega) (show (iI s2 55) < 12 by first | exact oq_0ddfcfee hs2.2.2.2.2.2.2 | omega) (by decide) ?_
  obtain ⟨s9, hs9⟩ : ∃ x0, x0 = uC s2 108 ((iI s2 55)).toNat (Int32.ofInt x3) := ⟨_, rfl⟩
  rw [← hs9]
  have Is9 : Bd s9 := by rw [hs9]; exact bd_C Is2 (show ((-2147483648) : Int) ≤ x3 ∧ x3 ≤ 2147483647 by first | exact ⟨hs2.2.1.1, hs2.2.1.2⟩ | omega) ⟨by first | exact hs2.2.1.1 | omega, by first | exact hs2.2.1.2 | omega⟩
  have Fs9 := fm_C (i := ((iI s2 55)).toNat) (x := Int32.ofInt x3) Fs2 (show 108 ∈ _ by decide)
  rw [← hs9] at Fs9
  have ws9_55 : iI s9 55 = iI s2 55 := by rw [hs9]; rfl
  refine z_aload_n X (x := A 123) (show cdA 2 159 = some (.aload_n 0, 1, 0, 0, 0) from rfl) (List.Mem.head _) ?_
  refine s_getR X 123 (show cdA 2 160 = some (.getfield 18, 3, 0, 5, 0) from rfl) (by decide) rfl rfl ?_
  refine z_aload_n X (x := A 123) (show cdA 2 163 = some (.aload_n 0, 1, 0, 0, 0) from rfl) (List.Mem.head _) ?_
  refine z_getI X 123 (show cdA 2 164 = some (.getfield 57, 3, 0, 2, 0) from rfl) (by decide) rfl rfl ?_
  have b10 : (0 : Int) ≤ iI s9 55 ∧ iI s9 55 ≤ 12 := Is9.1 55
  refine z_load X (x := x4) (show cdA 2 167 = some (.iload 7, 2, 0, 0, 0) from rfl) (List.Mem.tail _ (List.Mem.tail _ (List.Mem.tail _ (List.Mem.tail _ (List.Mem.tail _ (List.Mem.head _)))))) ?_
  refine z_ast X 126 (show cdA 2 169 = some (.iastore, 1, 0, 0, 0) from rfl) (by decide) rfl (by first | exact b10.1 | omega) (show (iI s9 55) < 12 by first | exact oq_210fcd76 ws9_55 hs2.2.2.2.2.2.2 | omega) (by decide) ?_
  obtain ⟨s11, hs11⟩ : ∃ x0, x0 = uC s9 109 ((iI s9 55)).toNat (Int32.ofInt x4) := ⟨_, rfl⟩
  rw [← hs11]
  have Is11 : Bd s11 := by rw [hs11]; exact bd_C Is9 (show ((-2147483648) : Int) ≤ x4 ∧ x4 ≤ 2147483647 by first | exact ⟨hs2.2.2.1.1, hs2.2.2.1.2⟩ | omega) ⟨by first | exact hs2.2.2.1.1 | omega, by first | exact hs2.2.2.1.2 | omega⟩
  have Fs11 := fm_C (i := ((iI s9 55)).toNat) (x := Int32.ofInt x4) Fs9 (show 109 ∈ _ by decide)
  rw [← hs11] at Fs11
  have ws11_55 : iI s11 55 = iI s9 55 := by rw [hs11]; rfl
  refine z_aload_n X (x := A 123) (show cdA 2 170 = some (.aload_n 0, 1, 0, 0, 0) from rfl) (List.Mem.head _) ?_
  refine s_getR X 123 (show cdA 2 171 = some (.getfield 21, 3, 0, 6, 0) from rfl) (by decide) rfl rfl ?_
  refine z_aload_n X (x := A 123) (show cdA 2 174 = some (.aload_n 0, 1, 0, 0, 0) from rfl) (List.Mem.head _) ?_
  refine z_getI X 123 (show cdA 2 175 = some (.getfield 57, 3, 0, 2, 0) from rfl) (by decide) rfl rfl ?_
  have b12 : (0 : Int) ≤ iI s11 55 ∧ iI s11 55 ≤ 12 := Is11.1 55
  refine z_load X (x := x5) (show cdA 2 178 = some (.iload 8, 2, 0, 0, 0) from rfl) (List.Mem.tail _ (List.Mem.tail _ (List.Mem.tail _ (List.Mem.tail _ (List.Mem.tail _ (List.Mem.tail _ (List.Mem.head _))))))) ?_
  refine z_ast X 127 (show cdA 2 180 = some (.iastore, 1, 0, 0, 0) from rfl) (by decide) rfl (by first | exact b12.1 | omega) (show (iI s11 55) < 12 by first | exact oq_e2284db0 ws11_55 ws9_55 hs2.2.2.2.2.2.2 | omega) (by decide) ?_
  obtain ⟨s13, hs13⟩ : ∃ x0, x0 = uC s11 110 ((iI s11 55)).toNat (Int32.ofInt x5) := ⟨_, rfl⟩
  rw [← hs13]
  have Is13 : Bd s13 := by rw [hs13]; exact bd_C Is11 (show ((-2147483648) : Int) ≤ x5 ∧ x5 ≤ 2147483647 by first | exact ⟨hs2.2.2.2.1.1, hs2.2.2.2.1.2⟩ | omega) ⟨by first | exact hs2.2.2.2.1.1 | omega, by first | exact hs2.2.2.2.1.2 | omega⟩
  have Fs13 := fm_C (i := ((iI s11 55)).toNat) (x := Int32.ofInt x5) Fs11 (show 110 ∈ _ by decide)
  rw [← hs13] at Fs13
  have ws13_55 : iI s13 55 = iI s11 55 := by rw [hs13]; rfl
  exact w_vret X.1 q hRt (ax_d X (show cdA 2 181 = some (.return_, 1, 0, 0, 0) from rfl)) (Nat.zero_le _) (Nat.zero_le _) ⟨_, rfl, Is13, Fs13, rfl, trivial⟩
set_option maxRecDepth 4000 in
theorem c0_listen_123 (G : GX l s0 D tys a0 dT) (I : Bd s) {x : Int} {aj bj : Int64} (p0 : rng x) : CT l s0 D A dT 1 (rmN 1) [.ref (A 123), .long aj, .long bj, .int (Int32.ofInt x)] s (fun o t => Bd t ∧ Fm [55, 56] [114, 107, 108, 109, 110, 111, 112, 113] s t ∧ o = .inl none ∧ (True)) := by
  refine ct_ofX G (by decide) (Nat.le_of_ble_eq_true rfl) (fun k X E ET hRt hXt q => ?_)
  show WS k 0 [(0, .ref (A 123)), (1, .long aj), (3, .long bj), (5, .int (Int32.ofInt x))] [] _ 0 0
  have F : Fm [55, 56] [114, 107, 108, 109, 110, 111, 112, 113] s s := fm_rf _ _ s
  have b1 : (0 : Int) ≤ iI s 55 ∧ iI s 55 ≤ 12 := I.1 55
  have b2 : (0 : Int) ≤ iI s 56 ∧ iI s 56 ≤ 66 := I.1 56
  have b3 : (0 : Int) ≤ iI s 43 ∧ iI s 43 ≤ 12 := I.1 43
  have b4 : (0 : Int) ≤ iI s 44 ∧ iI s 44 ≤ 66 := I.1 44
  have L42 : ∀ (n : Nat) (t : PS) (av : Int64) (bv : Int64) (c : Int), Bd t → Fm [55, 56] [114, 107, 108, 109, 110, 111, 112, 113] s t → (0 ≤ c ∧ c ≤ 12 ∧ iI t 55 ≤ c) → (12 - c : Int).toNat < n → (∀ (t' : PS) (c' : Int), Bd t' → Fm [55, 56] [114, 107, 108, 109, 110, 111, 112, 113] s t' → (0 ≤ c' ∧ c' ≤ 12 ∧ iI t' 55 ≤ c') → WS k 125 [(0, .ref (A 123)), (1, .long av), (3, .long bv), (6, .int (Int32.ofInt c'))] [] (Wd A dT t') 0 0) → WS k 42 [(0, .ref (A 123)), (1, .long av), (3, .long bv), (6, .int (Int32.ofInt c))] [] (Wd A dT t) 0 0 := by
    intro n
    induction n with
    | zero =>
      intro t av bv c I F hi hm kx
      exact absurd hm (Nat.not_lt_zero _)
    | succ n ih =>
      intro t av bv c I F hi hm kx
      have b1001 : (0 : Int) ≤ iI t 55 ∧ iI t 55 ≤ 12 := I.1 55
      have b1002 : (0 : Int) ≤ iI t 56 ∧ iI t 56 ≤ 66 := I.1 56
      have b1003 : (0 : Int) ≤ iI t 43 ∧ iI t 43 ≤ 12 := I.1 43
      have b1004 : (0 : Int) ≤ iI t 44 ∧ iI t 44 ≤ 66 := I.1 44
      refine z_load X (x := c) (show cdA 1 42 = some (.iload 6, 2, 0, 0, 0) from rfl) (List.Mem.tail _ (List.Mem.tail _ (List.Mem.tail _ (List.Mem.head _)))) ?_
      refine z_aload_n X (x := A 123) (show cdA 1 44 = some (.aload_n 0, 1, 0, 0, 0) from rfl) (List.Mem.head _) ?_
      refine s_getR X 123 (show cdA 1 45 = some (.getfield 43, 3, 0, 0, 0) from rfl) (by decide) rfl rfl ?_
      refine z_getI X 68 (show cdA 1 48 = some (.getfield 61, 3, 9, 0, 0) from rfl) (by decide) rfl rfl ?_
      have b1005 : (0 : Int) ≤ iI t 43 ∧ iI t 43 ≤ 12 := I.1 43
      refine z_icmp_ge X (t := 125) (show cdA 1 51 = some (.if_icmp .ge 74, 3, 3, 0, 0) from rfl) (by decide) ⟨by first | exact oq_fa4e5087 hi.1 | omega, by first | exact oq_78843a64 hi.2.1 | omega⟩ (rng_to _) (fun g1006 => ?_) (fun g1006 => ?_)
      ·
        refine WS_lv (lv := [(0, .ref (A 123)), (1, .long av), (3, .long bv), (6, .int (Int32.ofInt c))]) (List.forall_mem_cons.mpr ⟨(List.Mem.head _), (List.forall_mem_cons.mpr ⟨(List.Mem.tail _ (List.Mem.head _)), (List.forall_mem_cons.mpr ⟨(List.Mem.tail _ (List.Mem.tail _ (List.Mem.head _))), (List.forall_mem_cons.mpr ⟨(List.Mem.tail _ (List.Mem.tail _ (List.Mem.tail _ (List.Mem.head _)))), (fun q h => absurd h List.not_mem_nil)⟩)⟩)⟩)⟩) ?_
        exact kx _ c I F (by first | exact ⟨hi.1, hi.2.1, hi.2.2⟩ | omega)
      ·
        refine z_aload_n X (x := A 123) (show cdA 1 54 = some (.aload_n 0, 1, 0, 0, 0) from rfl) (List.Mem.head _) ?_
        refine s_getR X 123 (show cdA 1 55 = some (.getfield 43, 3, 0, 0, 0) from rfl) (by decide) rfl rfl ?_
        refine s_getR X 68 (show cdA 1 58 = some (.getfield 64, 3, 9, 3, 0) from rfl) (by decide) rfl rfl ?_
        refine z_load X (x := c) (show cdA 1 61 = some (.iload 6, 2, 0, 0, 0) from rfl) (List.Mem.tail _ (List.Mem.tail _ (List.Mem.tail _ (List.Mem.head _)))) ?_
        refine z_const X (show cdA 1 63 = some (.iconst 2, 1, 0, 0, 0) from rfl) ?_
        refine z_mul X (show cdA 1 64 = some (.imul, 1, 0, 0, 0) from rfl) ?_
        refine z_lald X 71 (show cdA 1 65 = some (.laload, 1, 0, 0, 0) from rfl) (by decide) rfl (by first | exact oq_cfc6ac54 hi.1 | omega) (show (c * 2) < 24 by first | exact oq_e062d2c8 g1006 b1005.2 | omega) (by decide) (fun j1007 => ?_)
        refine w_lload_n X.1 (ax_d X (show cdA 1 66 = some (.lload_n 1, 1, 0, 0, 0) from rfl)) (x := av) (List.Mem.tail _ (List.Mem.head _)) ?_
        refine w_land X.1 (ax_d X (show cdA 1 67 = some (.land, 1, 0, 0, 0) from rfl)) ?_
        refine z_anyJ (fun j1008 => ?_)
        refine z_aload_n X (x := A 123) (show cdA 1 68 = some (.aload_n 0, 1, 0, 0, 0) from rfl) (List.Mem.head _) ?_
        refine s_getR X 123 (show cdA 1 69 = some (.getfield 43, 3, 0, 0, 0) from rfl) (by decide) rfl rfl ?_
        refine s_getR X 68 (show cdA 1 72 = some (.getfield 64, 3, 9, 3, 0) from rfl) (by decide) rfl rfl ?_
        refine z_load X (x := c) (show cdA 1 75 = some (.iload 6, 2, 0, 0, 0) from rfl) (List.Mem.tail _ (List.Mem.tail _ (List.Mem.tail _ (List.Mem.head _)))) ?_
        refine z_const X (show cdA 1 77 = some (.iconst 2, 1, 0, 0, 0) from rfl) ?_
        refine z_mul X (show cdA 1 78 = some (.imul, 1, 0, 0, 0) from rfl) ?_
        refine z_const X (show cdA 1 79 = some (.iconst 1, 1, 0, 0, 0) from rfl) ?_
        refine z_add X (show cdA 1 80 = some (.iadd, 1, 0, 0, 0) from rfl) ?_
        refine z_lald X 71 (show cdA 1 81 = some (.laload, 1, 0, 0, 0) from rfl) (by decide) rfl (by first | exact oq_8a3e0277 hi.1 | omega) (show ((c * 2) + 1) < 24 by first | exact oq_0edc0603 g1006 b1005.2 | omega) (by decide) (fun j1009 => ?_)
        refine w_lload_n X.1 (ax_d X (show cdA 1 82 = some (.lload_n 3, 1, 0, 0, 0) from rfl)) (x := bv) (List.Mem.tail _ (List.Mem.tail _ (List.Mem.head _))) ?_
        refine w_land X.1 (ax_d X (show cdA 1 83 = some (.land, 1, 0, 0, 0) from rfl)) ?_
        refine z_anyJ (fun j1010 => ?_)
        refine w_lor X.1 (ax_d X (show cdA 1 84 = some (.lor, 1, 0, 0, 0) from rfl)) ?_
        refine z_anyJ (fun j1011 => ?_)
        refine w_lconst X.1 (ax_d X (show cdA 1 85 = some (.lconst 0, 1, 0, 0, 0) from rfl)) rfl ?_
        refine z_anyJ (fun j1012 => ?_)
        refine w_lcmp X.1 (ax_d X (show cdA 1 86 = some (.lcmp, 1, 0, 0, 0) from rfl)) ?_
        refine z_any (fun y1013 hy1013 => ?_)
        refine z_if_eq X (t := 119) (show cdA 1 87 = some (.ifCond .eq 32, 3, 0, 0, 0) from rfl) (by decide) hy1013 (fun g1014 => ?_) (fun g1014 => ?_)
        ·
          refine z_inc X (x := c) (lv' := [(6, .int (Int32.ofInt (c + 1))), (0, .ref (A 123)), (1, .long av), (3, .long bv)]) (show cdA 1 119 = some (.iinc 6 1, 3, 0, 0, 0) from rfl) (by decide) (List.Mem.tail _ (List.Mem.tail _ (List.Mem.tail _ (List.Mem.head _)))) (fun _ h => h) ?_
          refine z_goto X (t := 42) (show cdA 1 122 = some (.goto (-80), 3, 0, 0, 0) from rfl) (by decide) ?_
          refine WS_lv (lv := [(0, .ref (A 123)), (1, .long av), (3, .long bv), (6, .int (Int32.ofInt (c + 1)))]) (List.forall_mem_cons.mpr ⟨(List.Mem.tail _ (List.Mem.head _)), (List.forall_mem_cons.mpr ⟨(List.Mem.tail _ (List.Mem.tail _ (List.Mem.head _))), (List.forall_mem_cons.mpr ⟨(List.Mem.tail _ (List.Mem.tail _ (List.Mem.tail _ (List.Mem.head _)))), (List.forall_mem_cons.mpr ⟨(List.Mem.head _), (fun q h => absurd h List.not_mem_nil)⟩)⟩)⟩)⟩) ?_
          exact ih _ av bv (c + 1) I F (by first | exact ⟨oq_54f49eb5 hi.1, oq_4dae995e g1006 b1005.2, oq_03182e9e hi.2.2⟩ | omega) (by first | exact qk_me hm (by decide) (oq_b575e8c1 g1006 b1005.2) | omega) kx
        ·
          refine z_aload_n X (x := A 123) (show cdA 1 90 = some (.aload_n 0, 1, 0, 0, 0) from rfl) (List.Mem.head _) ?_
          refine s_getR X 123 (show cdA 1 91 = some (.getfield 9, 3, 0, 3, 0) from rfl) (by decide) rfl rfl ?_
          refine z_aload_n X (x := A 123) (show cdA 1 94 = some (.aload_n 0, 1, 0, 0, 0) from rfl) (List.Mem.head _) ?_
          refine z_getI X 123 (show cdA 1 95 = some (.getfield 57, 3, 0, 2, 0) from rfl) (by decide) rfl rfl ?_
          have b1015 : (0 : Int) ≤ iI t 55 ∧ iI t 55 ≤ 12 := I.1 55
          refine z_load X (x := c) (show cdA 1 98 = some (.iload 6, 2, 0, 0, 0) from rfl) (List.Mem.tail _ (List.Mem.tail _ (List.Mem.tail _ (List.Mem.head _)))) ?_
          refine z_ast X 124 (show cdA 1 100 = some (.iastore, 1, 0, 0, 0) from rfl) (by decide) rfl (by first | exact b1015.1 | omega) (show (iI t 55) < 12 by first | exact oq_79196c7f hi.2.2 g1006 b1005.2 | omega) (by decide) ?_
          obtain ⟨s1016, hs1016⟩ : ∃ x0, x0 = uC t 107 ((iI t 55)).toNat (Int32.ofInt c) := ⟨_, rfl⟩
          rw [← hs1016]
          have Is1016 : Bd s1016 := by rw [hs1016]; exact bd_C I (show (0 : Int) ≤ c ∧ c ≤ 11 by first | exact ⟨hi.1, oq_e4d7f3c5 g1006 b1005.2⟩ | omega) ⟨by first | exact oq_fa4e5087 hi.1 | omega, by first | exact oq_78843a64 hi.2.1 | omega⟩
          have Fs1016 := fm_C (i := ((iI t 55)).toNat) (x := Int32.ofInt c) F (show 107 ∈ _ by decide)
          rw [← hs1016] at Fs1016
          have ws1016_55 : iI s1016 55 = iI t 55 := by rw [hs1016]; rfl
          have ws1016_56 : iI s1016 56 = iI t 56 := by rw [hs1016]; rfl
          have ws1016_43 : iI s1016 43 = iI t 43 := by rw [hs1016]; rfl
          have ws1016_44 : iI s1016 44 = iI t 44 := by rw [hs1016]; rfl
          refine z_aload_n X (x := A 123) (show cdA 1 101 = some (.aload_n 0, 1, 0, 0, 0) from rfl) (List.Mem.head _) ?_
          refine z_load X (x := c) (show cdA 1 102 = some (.iload 6, 2, 0, 0, 0) from rfl) (List.Mem.tail _ (List.Mem.tail _ (List.Mem.tail _ (List.Mem.head _)))) ?_
          refine w_lload_n X.1 (ax_d X (show cdA 1 104 = some (.lload_n 1, 1, 0, 0, 0) from rfl)) (x := av) (List.Mem.tail _ (List.Mem.head _)) ?_
          refine w_lload_n X.1 (ax_d X (show cdA 1 105 = some (.lload_n 3, 1, 0, 0, 0) from rfl)) (x := bv) (List.Mem.tail _ (List.Mem.tail _ (List.Mem.head _))) ?_
          refine z_callV X 123 (rm := rmN 2) (As := [.int (Int32.ofInt c), .long av, .long bv]) (st := []) (show cdA 1 106 = some (.invokevirtual 68, 3, 2, 0, 0) from rfl) rfl (by decide) rfl (by rw [E.1, E.2.1, E.2.2.1]; exact c0_followSteps_123 G Is1016 (by first | exact ⟨hi.1, oq_e4d7f3c5 g1006 b1005.2⟩ | omega) (by first | exact oq_2f168143 ws1016_55 hi.2.2 g1006 b1005.2 | omega)) ⟨by rw [E.2.2.2]; exact (show (rmN 2).frames + 1 ≤ (rmN 1).frames by decide), by rw [E.2.2.2]; exact (show 8 + (mNL (miB 2) + 11) + (rmN 2).locals ≤ (rmN 1).locals by decide), by rw [E.2.2.2]; exact (show 0 + (rmN 2).cells ≤ (rmN 1).cells by decide), by rw [E.2.2.2]; exact (show 0 + (rmN 2).slots ≤ (rmN 1).slots by decide)⟩ (Nat.le_of_ble_eq_true rfl) (fun vv s1017 hq => ?_) (fun ee s1017 hq => ?_)
          rotate_left
          · obtain ⟨Is1017, Fs1017, hv, hps1017⟩ := hq; cases hv
          obtain ⟨Is1017, Fs1017, hv, hps1017⟩ := hq
          cases hv
          have Gs1017 := fm_ts Fs1016 Fs1017 (by decide) (by decide)
          have ws1017_55 : iI s1017 55 = iI s1016 55 := fm_i Fs1017 (by decide)
          have ws1017_56 : iI s1017 56 = iI s1016 56 := fm_i Fs1017 (by decide)
          have ws1017_43 : iI s1017 43 = iI s1016 43 := fm_i Fs1017 (by decide)
          have ws1017_44 : iI s1017 44 = iI s1016 44 := fm_i Fs1017 (by decide)
          show WS k 109 [(0, .ref (A 123)), (1, .long av), (3, .long bv), (6, .int (Int32.ofInt c))] [] (Wd A dT s1017) 0 0
          refine z_aload_n X (x := A 123) (show cdA 1 109 = some (.aload_n 0, 1, 0, 0, 0) from rfl) (List.Mem.head _) ?_
          refine w_dup X.1 (ax_d X (show cdA 1 110 = some (.dup, 1, 0, 0, 0) from rfl)) rfl ?_
          refine z_getI X 123 (show cdA 1 111 = some (.getfield 57, 3, 0, 2, 0) from rfl) (by decide) rfl rfl ?_
          have b1019 : (0 : Int) ≤ iI s1017 55 ∧ iI s1017 55 ≤ 12 := Is1017.1 55
          refine z_const X (show cdA 1 114 = some (.iconst 1, 1, 0, 0, 0) from rfl) ?_
          refine z_add X (show cdA 1 115 = some (.iadd, 1, 0, 0, 0) from rfl) ?_
          refine s_putI X 123 (show cdA 1 116 = some (.putfield 57, 3, 0, 2, 0) from rfl) (by decide) rfl rfl (by decide) rfl rfl rfl ?_
          obtain ⟨s1020, hs1020⟩ : ∃ x0, x0 = uI s1017 55 (Int32.ofInt ((iI s1017 55) + 1)) := ⟨_, rfl⟩
          rw [← hs1020]
          have Is1020 : Bd s1020 := by rw [hs1020]; exact bd_I Is1017 (show (0 : Int) ≤ ((iI s1017 55) + 1) ∧ ((iI s1017 55) + 1) ≤ 12 by first | exact ⟨oq_54f49eb5 b1019.1, oq_1fea0193 ws1017_55 ws1016_55 hi.2.2 g1006 b1005.2⟩ | omega) ⟨by first | exact oq_74de1e16 b1019.1 | omega, by first | exact oq_76a8a5b7 b1019.2 | omega⟩
          have Fs1020 := fm_I (x := Int32.ofInt ((iI s1017 55) + 1)) Gs1017 (show 55 ∈ _ by decide)
          rw [← hs1020] at Fs1020
          have vs1020 : iI s1020 55 = ((iI s1017 55) + 1) := by rw [hs1020]; exact iI_u ⟨by first | exact oq_74de1e16 b1019.1 | omega, by first | exact oq_76a8a5b7 b1019.2 | omega⟩
          have ws1020_56 : iI s1020 56 = iI s1017 56 := by rw [hs1020]; rfl
          have ws1020_43 : iI s1020 43 = iI s1017 43 := by rw [hs1020]; rfl
          have ws1020_44 : iI s1020 44 = iI s1017 44 := by rw [hs1020]; rfl
          refine z_inc X (x := c) (lv' := [(6, .int (Int32.ofInt (c + 1))), (0, .ref (A 123)), (1, .long av), (3, .long bv)]) (show cdA 1 119 = some (.iinc 6 1, 3, 0, 0, 0) from rfl) (by decide) (List.Mem.tail _ (List.Mem.tail _ (List.Mem.tail _ (List.Mem.head _)))) (fun _ h => h) ?_
          refine z_goto X (t := 42) (show cdA 1 122 = some (.goto (-80), 3, 0, 0, 0) from rfl) (by decide) ?_
          refine WS_lv (lv := [(0, .ref (A 123)), (1, .long av), (3, .long bv), (6, .int (Int32.ofInt (c + 1)))]) (List.forall_mem_cons.mpr ⟨(List.Mem.tail _ (List.Mem.head _)), (List.forall_mem_cons.mpr ⟨(List.Mem.tail _ (List.Mem.tail _ (List.Mem.head _))), (List.forall_mem_cons.mpr ⟨(List.Mem.tail _ (List.Mem.tail _ (List.Mem.tail _ (List.Mem.head _)))), (List.forall_mem_cons.mpr ⟨(List.Mem.head _), (fun q h => absurd h List.not_mem_nil)⟩)⟩)⟩)⟩) ?_
          exact ih _ av bv (c + 1) Is1020 Fs1020 (by first | exact ⟨oq_54f49eb5 hi.1, oq_4dae995e g1006 b1005.2, oq_ecb13324 vs1020 hi.2.2 ws1017_55 ws1016_55⟩ | omega) (by first | exact qk_me hm (by decide) (oq_b575e8c1 g1006 b1005.2) | omega) kx
  have L133 : ∀ (n : Nat) (t : PS) (av : Int64) (bv : Int64) (c : Int), Bd t → Fm [55, 56] [114, 107, 108, 109, 110, 111, 112, 113] s t → (0 ≤ c ∧ c ≤ 66 ∧ iI t 56 ≤ c) → (66 - c : Int).toNat < n → (∀ (t' : PS) (c' : Int), Bd t' → Fm [55, 56] [114, 107, 108, 109, 110, 111, 112, 113] s t' → (0 ≤ c' ∧ c' ≤ 66 ∧ iI t' 56 ≤ c') → WS k 260 [(0, .ref (A 123)), (1, .long av), (3, .long bv), (6, .int (Int32.ofInt c'))] [] (Wd A dT t') 0 0) → WS k 133 [(0, .ref (A 123)), (1, .long av), (3, .long bv), (6, .int (Int32.ofInt c))] [] (Wd A dT t) 0 0 := by
    intro n
    induction n with
    | zero =>
      intro t av bv c I F hi hm kx
      exact absurd hm (Nat.not_lt_zero _)
    | succ n ih =>
      intro t av bv c I F hi hm kx
      have b2001 : (0 : Int) ≤ iI t 55 ∧ iI t 55 ≤ 12 := I.1 55
      have b2002 : (0 : Int) ≤ iI t 56 ∧ iI t 56 ≤ 66 := I.1 56
      have b2003 : (0 : Int) ≤ iI t 43 ∧ iI t 43 ≤ 12 := I.1 43
      have b2004 : (0 : Int) ≤ iI t 44 ∧ iI t 44 ≤ 66 := I.1 44
      refine z_load X (x := c) (show cdA 1 133 = some (.iload 6, 2, 0, 0, 0) from rfl) (List.Mem.tail _ (List.Mem.tail _ (List.Mem.tail _ (List.Mem.head _)))) ?_
      refine z_aload_n X (x := A 123) (show cdA 1 135 = some (.aload_n 0, 1, 0, 0, 0) from rfl) (List.Mem.head _) ?_
      refine s_getR X 123 (show cdA 1 136 = some (.getfield 43, 3, 0, 0, 0) from rfl) (by decide) rfl rfl ?_
      refine z_getI X 68 (show cdA 1 139 = some (.getfield 75, 3, 9, 8, 0) from rfl) (by decide) rfl rfl ?_
      have b2005 : (0 : Int) ≤ iI t 44 ∧ iI t 44 ≤ 66 := I.1 44
      refine z_icmp_ge X (t := 260) (show cdA 1 142 = some (.if_icmp .ge 118, 3, 3, 0, 0) from rfl) (by decide) ⟨by first | exact oq_fa4e5087 hi.1 | omega, by first | exact oq_64f2e926 hi.2.1 | omega⟩ (rng_to _) (fun g2006 => ?_) (fun g2006 => ?_)
      ·
        refine WS_lv (lv := [(0, .ref (A 123)), (1, .long av), (3, .long bv), (6, .int (Int32.ofInt c))]) (List.forall_mem_cons.mpr ⟨(List.Mem.head _), (List.forall_mem_cons.mpr ⟨(List.Mem.tail _ (List.Mem.head _)), (List.forall_mem_cons.mpr ⟨(List.Mem.tail _ (List.Mem.tail _ (List.Mem.head _))), (List.forall_mem_cons.mpr ⟨(List.Mem.tail _ (List.Mem.tail _ (List.Mem.tail _ (List.Mem.head _)))), (fun q h => absurd h List.not_mem_nil)⟩)⟩)⟩)⟩) ?_
        exact kx _ c I F (by first | exact ⟨hi.1, hi.2.1, hi.2.2⟩ | omega)
      ·
        refine z_aload_n X (x := A 123) (show cdA 1 145 = some (.aload_n 0, 1, 0, 0, 0) from rfl) (List.Mem.head _) ?_
        refine s_getR X 123 (show cdA 1 146 = some (.getfield 43, 3, 0, 0, 0) from rfl) (by decide) rfl rfl ?_
        refine s_getR X 68 (show cdA 1 149 = some (.getfield 78, 3, 9, 7, 0) from rfl) (by decide) rfl rfl ?_
        refine z_load X (x := c) (show cdA 1 152 = some (.iload 6, 2, 0, 0, 0) from rfl) (List.Mem.tail _ (List.Mem.tail _ (List.Mem.tail _ (List.Mem.head _)))) ?_
        refine z_const X (show cdA 1 154 = some (.iconst 2, 1, 0, 0, 0) from rfl) ?_
        refine z_mul X (show cdA 1 155 = some (.imul, 1, 0, 0, 0) from rfl) ?_
        refine z_lald X 75 (show cdA 1 156 = some (.laload, 1, 0, 0, 0) from rfl) (by decide) rfl (by first | exact oq_cfc6ac54 hi.1 | omega) (show (c * 2) < 132 by first | exact oq_ff78435a g2006 b2005.2 | omega) (by decide) (fun j2007 => ?_)
        refine w_lload_n X.1 (ax_d X (show cdA 1 157 = some (.lload_n 1, 1, 0, 0, 0) from rfl)) (x := av) (List.Mem.tail _ (List.Mem.head _)) ?_
        refine w_land X.1 (ax_d X (show cdA 1 158 = some (.land, 1, 0, 0, 0) from rfl)) ?_
        refine z_anyJ (fun j2008 => ?_)
        refine z_callS X (rm := rmN 298) (As := [.long j2008]) (st := []) (show cdA 1 159 = some (.invokestatic 51, 3, 298, 1, 0) from rfl) rfl (by rw [E.1, E.2.1, E.2.2.1]; exact j_bitL G I ) ⟨by rw [E.2.2.2]; exact (show (rmN 298).frames + 1 ≤ (rmN 1).frames by decide), by rw [E.2.2.2]; exact (show 8 + (mNL (miB 298) + 11) + (rmN 298).locals ≤ (rmN 1).locals by decide), by rw [E.2.2.2]; exact (show 0 + (rmN 298).cells ≤ (rmN 1).cells by decide), by rw [E.2.2.2]; exact (show 0 + (rmN 298).slots ≤ (rmN 1).slots by decide)⟩ (Nat.le_of_ble_eq_true rfl) (fun vv s2009 hq => ?_) (fun ee s2009 hq => ?_)
        rotate_left
        · obtain ⟨Is2009, Fs2009, e2010, hv, hrs2009, hps2009⟩ := hq; cases hv
        obtain ⟨Is2009, Fs2009, e2010, hv, hrs2009, hps2009⟩ := hq
        cases hv
        have Gs2009 := fm_ts F Fs2009 (by decide) (by decide)
        have ws2009_55 : iI s2009 55 = iI t 55 := fm_i Fs2009 (by decide)
        have ws2009_56 : iI s2009 56 = iI t 56 := fm_i Fs2009 (by decide)
        have ws2009_43 : iI s2009 43 = iI t 43 := fm_i Fs2009 (by decide)
        have ws2009_44 : iI s2009 44 = iI t 44 := fm_i Fs2009 (by decide)
        show WS k 162 [(0, .ref (A 123)), (1, .long av), (3, .long bv), (6, .int (Int32.ofInt c))] [.int (Int32.ofInt e2010)] (Wd A dT s2009) 0 0
        refine z_aload_n X (x := A 123) (show cdA 1 162 = some (.aload_n 0, 1, 0, 0, 0) from rfl) (List.Mem.head _) ?_
        refine s_getR X 123 (show cdA 1 163 = some (.getfield 43, 3, 0, 0, 0) from rfl) (by decide) rfl rfl ?_
        refine s_getR X 68 (show cdA 1 166 = some (.getfield 78, 3, 9, 7, 0) from rfl) (by decide) rfl rfl ?_
        refine z_load X (x := c) (show cdA 1 169 = some (.iload 6, 2, 0, 0, 0) from rfl) (List.Mem.tail _ (List.Mem.tail _ (List.Mem.tail _ (List.Mem.head _)))) ?_
        refine z_const X (show cdA 1 171 = some (.iconst 2, 1, 0, 0, 0) from rfl) ?_
        refine z_mul X (show cdA 1 172 = some (.imul, 1, 0, 0, 0) from rfl) ?_
        refine z_const X (show cdA 1 173 = some (.iconst 1, 1, 0, 0, 0) from rfl) ?_
        refine z_add X (show cdA 1 174 = some (.iadd, 1, 0, 0, 0) from rfl) ?_
        refine z_lald X 75 (show cdA 1 175 = some (.laload, 1, 0, 0, 0) from rfl) (by decide) rfl (by first | exact oq_8a3e0277 hi.1 | omega) (show ((c * 2) + 1) < 132 by first | exact oq_643e2065 g2006 b2005.2 | omega) (by decide) (fun j2011 => ?_)
        refine w_lload_n X.1 (ax_d X (show cdA 1 176 = some (.lload_n 3, 1, 0, 0, 0) from rfl)) (x := bv) (List.Mem.tail _ (List.Mem.tail _ (List.Mem.head _))) ?_
        refine w_land X.1 (ax_d X (show cdA 1 177 = some (.land, 1, 0, 0, 0) from rfl)) ?_
        refine z_anyJ (fun j2012 => ?_)
        refine z_callS X (rm := rmN 298) (As := [.long j2012]) (st := [.int (Int32.ofInt e2010)]) (show cdA 1 178 = some (.invokestatic 51, 3, 298, 1, 0) from rfl) rfl (by rw [E.1, E.2.1, E.2.2.1]; exact j_bitL G Is2009 ) ⟨by rw [E.2.2.2]; exact (show (rmN 298).frames + 1 ≤ (rmN 1).frames by decide), by rw [E.2.2.2]; exact (show 8 + (mNL (miB 298) + 11) + (rmN 298).locals ≤ (rmN 1).locals by decide), by rw [E.2.2.2]; exact (show 0 + (rmN 298).cells ≤ (rmN 1).cells by decide), by rw [E.2.2.2]; exact (show 0 + (rmN 298).slots ≤ (rmN 1).slots by decide)⟩ (Nat.le_of_ble_eq_true rfl) (fun vv s2013 hq => ?_) (fun ee s2013 hq => ?_)
        rotate_left
        · obtain ⟨Is2013, Fs2013, e2014, hv, hrs2013, hps2013⟩ := hq; cases hv
        obtain ⟨Is2013, Fs2013, e2014, hv, hrs2013, hps2013⟩ := hq
        cases hv
        have Gs2013 := fm_ts Gs2009 Fs2013 (by decide) (by decide)
        have ws2013_55 : iI s2013 55 = iI s2009 55 := fm_i Fs2013 (by decide)
        have ws2013_56 : iI s2013 56 = iI s2009 56 := fm_i Fs2013 (by decide)
        have ws2013_43 : iI s2013 43 = iI s2009 43 := fm_i Fs2013 (by decide)
        have ws2013_44 : iI s2013 44 = iI s2009 44 := fm_i Fs2013 (by decide)
        show WS k 181 [(0, .ref (A 123)), (1, .long av), (3, .long bv), (6, .int (Int32.ofInt c))] [.int (Int32.ofInt e2014), .int (Int32.ofInt e2010)] (Wd A dT s2013) 0 0
        refine z_add X (show cdA 1 181 = some (.iadd, 1, 0, 0, 0) from rfl) ?_
        refine z_any (fun y2015 hy2015 => ?_)
        refine z_store X (lv' := [(7, .int (Int32.ofInt y2015)), (0, .ref (A 123)), (1, .long av), (3, .long bv), (6, .int (Int32.ofInt c))]) (show cdA 1 182 = some (.istore 7, 2, 0, 0, 0) from rfl) (by decide) (fun _ h => h) ?_
        refine z_load X (x := y2015) (show cdA 1 184 = some (.iload 7, 2, 0, 0, 0) from rfl) (List.Mem.head _) ?_
        refine z_if_le X (t := 254) (show cdA 1 186 = some (.ifCond .le 68, 3, 5, 0, 0) from rfl) (by decide) hy2015 (fun g2016 => ?_) (fun g2016 => ?_)
        ·
          refine z_inc X (x := c) (lv' := [(6, .int (Int32.ofInt (c + 1))), (7, .int (Int32.ofInt y2015)), (0, .ref (A 123)), (1, .long av), (3, .long bv)]) (show cdA 1 254 = some (.iinc 6 1, 3, 0, 0, 0) from rfl) (by decide) (List.Mem.tail _ (List.Mem.tail _ (List.Mem.tail _ (List.Mem.tail _ (List.Mem.head _))))) (fun _ h => h) ?_
          refine z_goto X (t := 133) (show cdA 1 257 = some (.goto (-124), 3, 0, 0, 0) from rfl) (by decide) ?_
          refine WS_lv (lv := [(0, .ref (A 123)), (1, .long av), (3, .long bv), (6, .int (Int32.ofInt (c + 1)))]) (List.forall_mem_cons.mpr ⟨(List.Mem.tail _ (List.Mem.tail _ (List.Mem.head _))), (List.forall_mem_cons.mpr ⟨(List.Mem.tail _ (List.Mem.tail _ (List.Mem.tail _ (List.Mem.head _)))), (List.forall_mem_cons.mpr ⟨(List.Mem.tail _ (List.Mem.tail _ (List.Mem.tail _ (List.Mem.tail _ (List.Mem.head _))))), (List.forall_mem_cons.mpr ⟨(List.Mem.head _), (fun q h => absurd h List.not_mem_nil)⟩)⟩)⟩)⟩) ?_
          exact ih _ av bv (c + 1) Is2013 Gs2013 (by first | exact ⟨oq_54f49eb5 hi.1, oq_319a18a4 g2006 b2005.2, oq_2e1f687c ws2013_56 hi.2.2 ws2009_56⟩ | omega) (by first | exact qk_me hm (by decide) (oq_dd0e9829 g2006 b2005.2) | omega) kx
        ·
          refine z_aload_n X (x := A 123) (show cdA 1 189 = some (.aload_n 0, 1, 0, 0, 0) from rfl) (List.Mem.tail _ (List.Mem.head _)) ?_
          refine s_getR X 123 (show cdA 1 190 = some (.getfield 26, 3, 0, 8, 0) from rfl) (by decide) rfl rfl ?_
          refine z_aload_n X (x := A 123) (show cdA 1 193 = some (.aload_n 0, 1, 0, 0, 0) from rfl) (List.Mem.tail _ (List.Mem.head _)) ?_
          refine z_getI X 123 (show cdA 1 194 = some (.getfield 72, 3, 0, 7, 0) from rfl) (by decide) rfl rfl ?_
          have b2017 : (0 : Int) ≤ iI s2013 56 ∧ iI s2013 56 ≤ 66 := Is2013.1 56
          refine z_aload_n X (x := A 123) (show cdA 1 197 = some (.aload_n 0, 1, 0, 0, 0) from rfl) (List.Mem.tail _ (List.Mem.head _)) ?_
          refine s_getR X 123 (show cdA 1 198 = some (.getfield 43, 3, 0, 0, 0) from rfl) (by decide) rfl rfl ?_
          refine s_getR X 68 (show cdA 1 201 = some (.getfield 81, 3, 9, 6, 0) from rfl) (by decide) rfl rfl ?_
          refine z_load X (x := c) (show cdA 1 204 = some (.iload 6, 2, 0, 0, 0) from rfl) (List.Mem.tail _ (List.Mem.tail _ (List.Mem.tail _ (List.Mem.tail _ (List.Mem.head _))))) ?_
          refine z_ald X 74 (show cdA 1 206 = some (.iaload, 1, 0, 0, 0) from rfl) (by decide) rfl (by first | exact hi.1 | omega) (show c < 66 by first | exact oq_256e4529 g2006 b2005.2 | omega) (by decide) ?_
          have b2018 : (0 : Int) ≤ iC s2013 62 (c).toNat ∧ iC s2013 62 (c).toNat ≤ 143 := Is2013.2 62 _ (show (c).toNat < 66 by first | exact oq_d7ff7873 g2006 b2005.2 | omega)
          refine z_bipush X (show cdA 1 207 = some (.bipush 12, 2, 0, 0, 12) from rfl) ?_
          refine z_quot X (show cdA 1 209 = some (.idiv, 1, 0, 0, 0) from rfl) (by first | exact b2018.1 | omega) (rng_to _) (by decide) (by decide) ?_
          refine z_ast X 128 (show cdA 1 210 = some (.iastore, 1, 0, 0, 0) from rfl) (by decide) rfl (by first | exact b2017.1 | omega) (show (iI s2013 56) < 66 by first | exact oq_141bb310 ws2013_56 ws2009_56 hi.2.2 g2006 b2005.2 | omega) (by decide) ?_
          obtain ⟨s2019, hs2019⟩ : ∃ x0, x0 = uC s2013 111 ((iI s2013 56)).toNat (Int32.ofInt ((iC s2013 62 (c).toNat) / 12)) := ⟨_, rfl⟩
          rw [← hs2019]
          have Is2019 : Bd s2019 := by rw [hs2019]; exact bd_C Is2013 (show (0 : Int) ≤ ((iC s2013 62 (c).toNat) / 12) ∧ ((iC s2013 62 (c).toNat) / 12) ≤ 11 by first | exact ⟨oq_37eb78e0 b2018.1, oq_a03fe580 b2018.2⟩ | omega) ⟨by first | exact oq_e17ab641 b2018.1 | omega, by first | exact oq_c285d9d6 b2018.2 | omega⟩
          have Fs2019 := fm_C (i := ((iI s2013 56)).toNat) (x := Int32.ofInt ((iC s2013 62 (c).toNat) / 12)) Gs2013 (show 111 ∈ _ by decide)
          rw [← hs2019] at Fs2019
          have ws2019_55 : iI s2019 55 = iI s2013 55 := by rw [hs2019]; rfl
          have ws2019_56 : iI s2019 56 = iI s2013 56 := by rw [hs2019]; rfl
          have ws2019_43 : iI s2019 43 = iI s2013 43 := by rw [hs2019]; rfl
          have ws2019_44 : iI s2019 44 = iI s2013 44 := by rw [hs2019]; rfl
          refine z_aload_n X (x := A 123) (show cdA 1 211 = some (.aload_n 0, 1, 0, 0, 0) from rfl) (List.Mem.tail _ (List.Mem.head _)) ?_
          refine s_getR X 123 (show cdA 1 212 = some (.getfield 29, 3, 0, 9, 0) from rfl) (by decide) rfl rfl ?_
          refine z_aload_n X (x := A 123) (show cdA 1 215 = some (.aload_n 0, 1, 0, 0, 0) from rfl) (List.Mem.tail _ (List.Mem.head _)) ?_
          refine z_getI X 123 (show cdA 1 216 = some (.getfield 72, 3, 0, 7, 0) from rfl) (by decide) rfl rfl ?_
          have b2020 : (0 : Int) ≤ iI s2019 56 ∧ iI s2019 56 ≤ 66 := Is2019.1 56
          refine z_aload_n X (x := A 123) (show cdA 1 219 = some (.aload_n 0, 1, 0, 0, 0) from rfl) (List.Mem.tail _ (List.Mem.head _)) ?_
          refine s_getR X 123 (show cdA 1 220 = some (.getfield 43, 3, 0, 0, 0) from rfl) (by decide) rfl rfl ?_
          refine s_getR X 68 (show cdA 1 223 = some (.getfield 81, 3, 9, 6, 0) from rfl) (by decide) rfl rfl ?_
          refine z_load X (x := c) (show cdA 1 226 = some (.iload 6, 2, 0, 0, 0) from rfl) (List.Mem.tail _ (List.Mem.tail _ (List.Mem.tail _ (List.Mem.tail _ (List.Mem.head _))))) ?_
          refine z_ald X 74 (show cdA 1 228 = some (.iaload, 1, 0, 0, 0) from rfl) (by decide) rfl (by first | exact hi.1 | omega) (show c < 66 by first | exact oq_256e4529 g2006 b2005.2 | omega) (by decide) ?_
          have b2021 : (0 : Int) ≤ iC s2019 62 (c).toNat ∧ iC s2019 62 (c).toNat ≤ 143 := Is2019.2 62 _ (show (c).toNat < 66 by first | exact oq_d7ff7873 g2006 b2005.2 | omega)
          refine z_bipush X (show cdA 1 229 = some (.bipush 12, 2, 0, 0, 12) from rfl) ?_
          refine z_mod X (show cdA 1 231 = some (.irem, 1, 0, 0, 0) from rfl) (by first | exact b2021.1 | omega) (rng_to _) (by decide) (by decide) ?_
          refine z_ast X 129 (show cdA 1 232 = some (.iastore, 1, 0, 0, 0) from rfl) (by decide) rfl (by first | exact b2020.1 | omega) (show (iI s2019 56) < 66 by first | exact oq_47fd6e20 ws2019_56 ws2013_56 ws2009_56 g2006 b2005.2 hi.2.2 | omega) (by decide) ?_
          obtain ⟨s2022, hs2022⟩ : ∃ x0, x0 = uC s2019 112 ((iI s2019 56)).toNat (Int32.ofInt ((iC s2019 62 (c).toNat) % 12)) := ⟨_, rfl⟩
          rw [← hs2022]
          have Is2022 : Bd s2022 := by rw [hs2022]; exact bd_C Is2019 (show (0 : Int) ≤ ((iC s2019 62 (c).toNat) % 12) ∧ ((iC s2019 62 (c).toNat) % 12) ≤ 11 by first | exact ⟨oq_b83041cc, oq_e286272e⟩ | omega) ⟨by first | exact oq_9d26ea27 | omega, by first | exact oq_6634e3d0 | omega⟩
          have Fs2022 := fm_C (i := ((iI s2019 56)).toNat) (x := Int32.ofInt ((iC s2019 62 (c).toNat) % 12)) Fs2019 (show 112 ∈ _ by decide)
          rw [← hs2022] at Fs2022
          have ws2022_55 : iI s2022 55 = iI s2019 55 := by rw [hs2022]; rfl
          have ws2022_56 : iI s2022 56 = iI s2019 56 := by rw [hs2022]; rfl
          have ws2022_43 : iI s2022 43 = iI s2019 43 := by rw [hs2022]; rfl
          have ws2022_44 : iI s2022 44 = iI s2019 44 := by rw [hs2022]; rfl
          refine z_aload_n X (x := A 123) (show cdA 1 233 = some (.aload_n 0, 1, 0, 0, 0) from rfl) (List.Mem.tail _ (List.Mem.head _)) ?_
          refine s_getR X 123 (show cdA 1 234 = some (.getfield 32, 3, 0, 10, 0) from rfl) (by decide) rfl rfl ?_
          refine z_aload_n X (x := A 123) (show cdA 1 237 = some (.aload_n 0, 1, 0, 0, 0) from rfl) (List.Mem.tail _ (List.Mem.head _)) ?_
          refine z_getI X 123 (show cdA 1 238 = some (.getfield 72, 3, 0, 7, 0) from rfl) (by decide) rfl rfl ?_
          have b2023 : (0 : Int) ≤ iI s2022 56 ∧ iI s2022 56 ≤ 66 := Is2022.1 56
          refine z_load X (x := y2015) (show cdA 1 241 = some (.iload 7, 2, 0, 0, 0) from rfl) (List.Mem.head _) ?_
          refine z_ast X 130 (show cdA 1 243 = some (.iastore, 1, 0, 0, 0) from rfl) (by decide) rfl (by first | exact b2023.1 | omega) (show (iI s2022 56) < 66 by first | exact oq_3af0036b ws2022_56 ws2019_56 ws2013_56 ws2009_56 g2006 b2005.2 hi.2.2 | omega) (by decide) ?_
          obtain ⟨s2024, hs2024⟩ : ∃ x0, x0 = uC s2022 113 ((iI s2022 56)).toNat (Int32.ofInt y2015) := ⟨_, rfl⟩
          rw [← hs2024]
          have Is2024 : Bd s2024 := by rw [hs2024]; exact bd_C Is2022 (show ((-2147483648) : Int) ≤ y2015 ∧ y2015 ≤ 2147483647 by first | exact ⟨hy2015.1, hy2015.2⟩ | omega) hy2015
          have Fs2024 := fm_C (i := ((iI s2022 56)).toNat) (x := Int32.ofInt y2015) Fs2022 (show 113 ∈ _ by decide)
          rw [← hs2024] at Fs2024
          have ws2024_55 : iI s2024 55 = iI s2022 55 := by rw [hs2024]; rfl
          have ws2024_56 : iI s2024 56 = iI s2022 56 := by rw [hs2024]; rfl
          have ws2024_43 : iI s2024 43 = iI s2022 43 := by rw [hs2024]; rfl
          have ws2024_44 : iI s2024 44 = iI s2022 44 := by rw [hs2024]; rfl
          refine z_aload_n X (x := A 123) (show cdA 1 244 = some (.aload_n 0, 1, 0, 0, 0) from rfl) (List.Mem.tail _ (List.Mem.head _)) ?_
          refine w_dup X.1 (ax_d X (show cdA 1 245 = some (.dup, 1, 0, 0, 0) from rfl)) rfl ?_
          refine z_getI X 123 (show cdA 1 246 = some (.getfield 72, 3, 0, 7, 0) from rfl) (by decide) rfl rfl ?_
          have b2025 : (0 : Int) ≤ iI s2024 56 ∧ iI s2024 56 ≤ 66 := Is2024.1 56
          refine z_const X (show cdA 1 249 = some (.iconst 1, 1, 0, 0, 0) from rfl) ?_
          refine z_add X (show cdA 1 250 = some (.iadd, 1, 0, 0, 0) from rfl) ?_
          refine s_putI X 123 (show cdA 1 251 = some (.putfield 72, 3, 0, 7, 0) from rfl) (by decide) rfl rfl (by decide) rfl rfl rfl ?_
          obtain ⟨s2026, hs2026⟩ : ∃ x0, x0 = uI s2024 56 (Int32.ofInt ((iI s2024 56) + 1)) := ⟨_, rfl⟩
          rw [← hs2026]
          have Is2026 : Bd s2026 := by rw [hs2026]; exact bd_I Is2024 (show (0 : Int) ≤ ((iI s2024 56) + 1) ∧ ((iI s2024 56) + 1) ≤ 66 by first | exact ⟨oq_54f49eb5 b2025.1, oq_d0eb7b2e ws2024_56 ws2022_56 ws2019_56 ws2013_56 ws2009_56 g2006 b2005.2 hi.2.2⟩ | omega) ⟨by first | exact oq_74de1e16 b2025.1 | omega, by first | exact oq_d99c2177 b2025.2 | omega⟩
          have Fs2026 := fm_I (x := Int32.ofInt ((iI s2024 56) + 1)) Fs2024 (show 56 ∈ _ by decide)
          rw [← hs2026] at Fs2026
          have vs2026 : iI s2026 56 = ((iI s2024 56) + 1) := by rw [hs2026]; exact iI_u ⟨by first | exact oq_74de1e16 b2025.1 | omega, by first | exact oq_d99c2177 b2025.2 | omega⟩
          have ws2026_55 : iI s2026 55 = iI s2024 55 := by rw [hs2026]; rfl
          have ws2026_43 : iI s2026 43 = iI s2024 43 := by rw [hs2026]; rfl
          have ws2026_44 : iI s2026 44 = iI s2024 44 := by rw [hs2026]; rfl
          refine z_inc X (x := c) (lv' := [(6, .int (Int32.ofInt (c + 1))), (7, .int (Int32.ofInt y2015)), (0, .ref (A 123)), (1, .long av), (3, .long bv)]) (show cdA 1 254 = some (.iinc 6 1, 3, 0, 0, 0) from rfl) (by decide) (List.Mem.tail _ (List.Mem.tail _ (List.Mem.tail _ (List.Mem.tail _ (List.Mem.head _))))) (fun _ h => h) ?_
          refine z_goto X (t := 133) (show cdA 1 257 = some (.goto (-124), 3, 0, 0, 0) from rfl) (by decide) ?_
          refine WS_lv (lv := [(0, .ref (A 123)), (1, .long av), (3, .long bv), (6, .int (Int32.ofInt (c + 1)))]) (List.forall_mem_cons.mpr ⟨(List.Mem.tail _ (List.Mem.tail _ (List.Mem.head _))), (List.forall_mem_cons.mpr ⟨(List.Mem.tail _ (List.Mem.tail _ (List.Mem.tail _ (List.Mem.head _)))), (List.forall_mem_cons.mpr ⟨(List.Mem.tail _ (List.Mem.tail _ (List.Mem.tail _ (List.Mem.tail _ (List.Mem.head _))))), (List.forall_mem_cons.mpr ⟨(List.Mem.head _), (fun q h => absurd h List.not_mem_nil)⟩)⟩)⟩)⟩) ?_
          exact ih _ av bv (c + 1) Is2026 Fs2026 (by first | exact ⟨oq_54f49eb5 hi.1, oq_319a18a4 g2006 b2005.2, oq_6fc60775 vs2026 ws2024_56 ws2022_56 ws2019_56 ws2013_56 ws2009_56 hi.2.2⟩ | omega) (by first | exact qk_me hm (by decide) (oq_dd0e9829 g2006 b2005.2) | omega) kx
  refine z_aload_n X (x := A 123) (show cdA 1 0 = some (.aload_n 0, 1, 0, 0, 0) from rfl) (List.Mem.head _) ?_
  refine s_getR X 123 (show cdA 1 1 = some (.getfield 37, 3, 0, 11, 0) from rfl) (by decide) rfl rfl ?_
  refine z_const X (show cdA 1 4 = some (.iconst 4, 1, 0, 0, 0) from rfl) ?_
  refine w_lload_n X.1 (ax_d X (show cdA 1 5 = some (.lload_n 1, 1, 0, 0, 0) from rfl)) (x := aj) (List.Mem.tail _ (List.Mem.head _)) ?_
  refine z_callS X (rm := rmN 298) (As := [.long aj]) (st := [.int (Int32.ofInt 4), .ref (A 131)]) (show cdA 1 6 = some (.invokestatic 51, 3, 298, 1, 0) from rfl) rfl (by rw [E.1, E.2.1, E.2.2.1]; exact j_bitL G I ) ⟨by rw [E.2.2.2]; exact (show (rmN 298).frames + 1 ≤ (rmN 1).frames by decide), by rw [E.2.2.2]; exact (show 8 + (mNL (miB 298) + 11) + (rmN 298).locals ≤ (rmN 1).locals by decide), by rw [E.2.2.2]; exact (show 0 + (rmN 298).cells ≤ (rmN 1).cells by decide), by rw [E.2.2.2]; exact (show 0 + (rmN 298).slots ≤ (rmN 1).slots by decide)⟩ (Nat.le_of_ble_eq_true rfl) (fun vv s5 hq => ?_) (fun ee s5 hq => ?_)
  rotate_left
  · obtain ⟨Is5, Fs5, e6, hv, hrs5, hps5⟩ := hq; cases hv
  obtain ⟨Is5, Fs5, e6, hv, hrs5, hps5⟩ := hq
  cases hv
  have Gs5 := fm_ts F Fs5 (by decide) (by decide)
  have ws5_55 : iI s5 55 = iI s 55 := fm_i Fs5 (by decide)
  have ws5_56 : iI s5 56 = iI s 56 := fm_i Fs5 (by decide)
  have ws5_43 : iI s5 43 = iI s 43 := fm_i Fs5 (by decide)
  have ws5_44 : iI s5 44 = iI s 44 := fm_i Fs5 (by decide)
  show WS k 9 [(0, .ref (A 123)), (1, .long aj), (3, .long bj), (5, .int (Int32.ofInt x))] [.int (Int32.ofInt e6), .int (Int32.ofInt 4), .ref (A 131)] (Wd A dT s5) 0 0
  refine w_lload_n X.1 (ax_d X (show cdA 1 9 = some (.lload_n 3, 1, 0, 0, 0) from rfl)) (x := bj) (List.Mem.tail _ (List.Mem.tail _ (List.Mem.head _))) ?_
  refine z_callS X (rm := rmN 298) (As := [.long bj]) (st := [.int (Int32.ofInt e6), .int (Int32.ofInt 4), .ref (A 131)]) (show cdA 1 10 = some (.invokestatic 51, 3, 298, 1, 0) from rfl) rfl (by rw [E.1, E.2.1, E.2.2.1]; exact j_bitL G Is5 ) ⟨by rw [E.2.2.2]; exact (show (rmN 298).frames + 1 ≤ (rmN 1).frames by decide), by rw [E.2.2.2]; exact (show 8 + (mNL (miB 298) + 11) + (rmN 298).locals ≤ (rmN 1).locals by decide), by rw [E.2.2.2]; exact (show 0 + (rmN 298).cells ≤ (rmN 1).cells by decide), by rw [E.2.2.2]; exact (show 0 + (rmN 298).slots ≤ (rmN 1).slots by decide)⟩ (Nat.le_of_ble_eq_true rfl) (fun vv s7 hq => ?_) (fun ee s7 hq => ?_)
  rotate_left
  · obtain ⟨Is7, Fs7, e8, hv, hrs7, hps7⟩ := hq; cases hv
  obtain ⟨Is7, Fs7, e8, hv, hrs7, hps7⟩ := hq
  cases hv
  have Gs7 := fm_ts Gs5 Fs7 (by decide) (by decide)
  have ws7_55 : iI s7 55 = iI s5 55 := fm_i Fs7 (by decide)
  have ws7_56 : iI s7 56 = iI s5 56 := fm_i Fs7 (by decide)
  have ws7_43 : iI s7 43 = iI s5 43 := fm_i Fs7 (by decide)
  have ws7_44 : iI s7 44 = iI s5 44 := fm_i Fs7 (by decide)
  show WS k 13 [(0, .ref (A 123)), (1, .long aj), (3, .long bj), (5, .int (Int32.ofInt x))] [.int (Int32.ofInt e8), .int (Int32.ofInt e6), .int (Int32.ofInt 4), .ref (A 131)] (Wd A dT s7) 0 0
  refine z_add X (show cdA 1 13 = some (.iadd, 1, 0, 0, 0) from rfl) ?_
  refine z_any (fun y9 hy9 => ?_)
  refine z_ast X 131 (show cdA 1 14 = some (.iastore, 1, 0, 0, 0) from rfl) (by decide) rfl (by decide) (show 4 < 7 by decide) (by decide) ?_
  obtain ⟨s10, hs10⟩ : ∃ x0, x0 = uC s7 114 (4 : Int).toNat (Int32.ofInt y9) := ⟨_, rfl⟩
  rw [← hs10]
  have Is10 : Bd s10 := by rw [hs10]; exact bd_C Is7 (show ((-2147483648) : Int) ≤ y9 ∧ y9 ≤ 2147483647 by first | exact ⟨hy9.1, hy9.2⟩ | omega) hy9
  have Fs10 := fm_C (i := (4 : Int).toNat) (x := Int32.ofInt y9) Gs7 (show 114 ∈ _ by decide)
  rw [← hs10] at Fs10
  have ws10_55 : iI s10 55 = iI s7 55 := by rw [hs10]; rfl
  have ws10_56 : iI s10 56 = iI s7 56 := by rw [hs10]; rfl
  have ws10_43 : iI s10 43 = iI s7 43 := by rw [hs10]; rfl
  have ws10_44 : iI s10 44 = iI s7 44 := by rw [hs10]; rfl
  refine z_aload_n X (x := A 123) (show cdA 1 15 = some (.aload_n 0, 1, 0, 0, 0) from rfl) (List.Mem.head _) ?_
  refine s_getR X 123 (show cdA 1 16 = some (.getfield 37, 3, 0, 11, 0) from rfl) (by decide) rfl rfl ?_
  refine z_const X (show cdA 1 19 = some (.iconst 5, 1, 0, 0, 0) from rfl) ?_
  refine w_lload_n X.1 (ax_d X (show cdA 1 20 = some (.lload_n 1, 1, 0, 0, 0) from rfl)) (x := aj) (List.Mem.tail _ (List.Mem.head _)) ?_
  refine z_callS X (rm := rmN 298) (As := [.long aj]) (st := [.int (Int32.ofInt 5), .ref (A 131)]) (show cdA 1 21 = some (.invokestatic 51, 3, 298, 1, 0) from rfl) rfl (by rw [E.1, E.2.1, E.2.2.1]; exact j_bitL G Is10 ) ⟨by rw [E.2.2.2]; exact (show (rmN 298).frames + 1 ≤ (rmN 1).frames by decide), by rw [E.2.2.2]; exact (show 8 + (mNL (miB 298) + 11) + (rmN 298).locals ≤ (rmN 1).locals by decide), by rw [E.2.2.2]; exact (show 0 + (rmN 298).cells ≤ (rmN 1).cells by decide), by rw [E.2.2.2]; exact (show 0 + (rmN 298).slots ≤ (rmN 1).slots by decide)⟩ (Nat.le_of_ble_eq_true rfl) (fun vv s11 hq => ?_) (fun ee s11 hq => ?_)
  rotate_left
  · obtain ⟨Is11, Fs11, e12, hv, hrs11, hps11⟩ := hq; cases hv
  obtain ⟨Is11, Fs11, e12, hv, hrs11, hps11⟩ := hq
  cases hv
  have Gs11 := fm_ts Fs10 Fs11 (by decide) (by decide)
  have ws11_55 : iI s11 55 = iI s10 55 := fm_i Fs11 (by decide)
  have ws11_56 : iI s11 56 = iI s10 56 := fm_i Fs11 (by decide)
  have ws11_43 : iI s11 43 = iI s10 43 := fm_i Fs11 (by decide)
  have ws11_44 : iI s11 44 = iI s10 44 := fm_i Fs11 (by decide)
  show WS k 24 [(0, .ref (A 123)), (1, .long aj), (3, .long bj), (5, .int (Int32.ofInt x))] [.int (Int32.ofInt e12), .int (Int32.ofInt 5), .ref (A 131)] (Wd A dT s11) 0 0
  refine z_ast X 131 (show cdA 1 24 = some (.iastore, 1, 0, 0, 0) from rfl) (by decide) rfl (by decide) (show 5 < 7 by decide) (by decide) ?_
  obtain ⟨s13, hs13⟩ : ∃ x0, x0 = uC s11 114 (5 : Int).toNat (Int32.ofInt e12) := ⟨_, rfl⟩
  rw [← hs13]
  have Is13 : Bd s13 := by rw [hs13]; exact bd_C Is11 (show ((-2147483648) : Int) ≤ e12 ∧ e12 ≤ 2147483647 by omega) hrs11
  have Fs13 := fm_C (i := (5 : Int).toNat) (x := Int32.ofInt e12) Gs11 (show 114 ∈ _ by decide)
  rw [← hs13] at Fs13
  have ws13_55 : iI s13 55 = iI s11 55 := by rw [hs13]; rfl
  have ws13_56 : iI s13 56 = iI s11 56 := by rw [hs13]; rfl
  have ws13_43 : iI s13 43 = iI s11 43 := by rw [hs13]; rfl
  have ws13_44 : iI s13 44 = iI s11 44 := by rw [hs13]; rfl
  refine z_aload_n X (x := A 123) (show cdA 1 25 = some (.aload_n 0, 1, 0, 0, 0) from rfl) (List.Mem.head _) ?_
  refine s_getR X 123 (show cdA 1 26 = some (.getfield 37, 3, 0, 11, 0) from rfl) (by decide) rfl rfl ?_
  refine z_bipush X (show cdA 1 29 = some (.bipush 6, 2, 0, 0, 6) from rfl) ?_
  refine z_load X (x := x) (show cdA 1 31 = some (.iload 5, 2, 0, 0, 0) from rfl) (List.Mem.tail _ (List.Mem.tail _ (List.Mem.tail _ (List.Mem.head _)))) ?_
  refine z_ast X 131 (show cdA 1 33 = some (.iastore, 1, 0, 0, 0) from rfl) (by decide) rfl (by decide) (show 6 < 7 by decide) (by decide) ?_
  obtain ⟨s14, hs14⟩ : ∃ x0, x0 = uC s13 114 (6 : Int).toNat (Int32.ofInt x) := ⟨_, rfl⟩
  rw [← hs14]
  have Is14 : Bd s14 := by rw [hs14]; exact bd_C Is13 (show ((-2147483648) : Int) ≤ x ∧ x ≤ 2147483647 by first | exact ⟨p0.1, p0.2⟩ | omega) ⟨by first | exact p0.1 | omega, by first | exact p0.2 | omega⟩
  have Fs14 := fm_C (i := (6 : Int).toNat) (x := Int32.ofInt x) Fs13 (show 114 ∈ _ by decide)
  rw [← hs14] at Fs14
  have ws14_55 : iI s14 55 = iI s13 55 := by rw [hs14]; rfl
  have ws14_56 : iI s14 56 = iI s13 56 := by rw [hs14]; rfl
  have ws14_43 : iI s14 43 = iI s13 43 := by rw [hs14]; rfl
  have ws14_44 : iI s14 44 = iI s13 44 := by rw [hs14]; rfl
  refine z_aload_n X (x := A 123) (show cdA 1 34 = some (.aload_n 0, 1, 0, 0, 0) from rfl) (List.Mem.head _) ?_
  refine z_const X (show cdA 1 35 = some (.iconst 0, 1, 0, 0, 0) from rfl) ?_
  refine s_putI X 123 (show cdA 1 36 = some (.putfield 57, 3, 0, 2, 0) from rfl) (by decide) rfl rfl (by decide) rfl rfl rfl ?_
  obtain ⟨s15, hs15⟩ : ∃ x0, x0 = uI s14 55 (Int32.ofInt 0) := ⟨_, rfl⟩
  rw [← hs15]
  have Is15 : Bd s15 := by rw [hs15]; exact bd_I Is14 (show (0 : Int) ≤ 0 ∧ 0 ≤ 12 by first | exact ⟨by decide, by decide⟩ | omega) (by decide)
  have Fs15 := fm_I (x := Int32.ofInt 0) Fs14 (show 55 ∈ _ by decide)
  rw [← hs15] at Fs15
  have vs15 : iI s15 55 = 0 := by rw [hs15]; exact iI_u (by decide)
  have ws15_56 : iI s15 56 = iI s14 56 := by rw [hs15]; rfl
  have ws15_43 : iI s15 43 = iI s14 43 := by rw [hs15]; rfl
  have ws15_44 : iI s15 44 = iI s14 44 := by rw [hs15]; rfl
  refine z_const X (show cdA 1 39 = some (.iconst 0, 1, 0, 0, 0) from rfl) ?_
  refine z_store X (lv' := [(6, .int (Int32.ofInt 0)), (0, .ref (A 123)), (1, .long aj), (3, .long bj), (5, .int (Int32.ofInt x))]) (show cdA 1 40 = some (.istore 6, 2, 0, 0, 0) from rfl) (by decide) (fun _ h => h) ?_
  refine WS_lv (lv := [(0, .ref (A 123)), (1, .long aj), (3, .long bj), (6, .int (Int32.ofInt 0))]) (List.forall_mem_cons.mpr ⟨(List.Mem.tail _ (List.Mem.head _)), (List.forall_mem_cons.mpr ⟨(List.Mem.tail _ (List.Mem.tail _ (List.Mem.head _))), (List.forall_mem_cons.mpr ⟨(List.Mem.tail _ (List.Mem.tail _ (List.Mem.tail _ (List.Mem.head _)))), (List.forall_mem_cons.mpr ⟨(List.Mem.head _), (fun q h => absurd h List.not_mem_nil)⟩)⟩)⟩)⟩) ?_
  refine L42 ((12 - 0 : Int).toNat + 1) s15 aj bj 0 Is15 Fs15 (by first | exact ⟨by decide, by decide, oq_1af0b4f8 vs15⟩ | omega) (Nat.lt_succ_self _) ?_
  intro s16 x17 Is16 Fs16 hs16
  have b18 : (0 : Int) ≤ iI s16 55 ∧ iI s16 55 ≤ 12 := Is16.1 55
  have b19 : (0 : Int) ≤ iI s16 56 ∧ iI s16 56 ≤ 66 := Is16.1 56
  have b20 : (0 : Int) ≤ iI s16 43 ∧ iI s16 43 ≤ 12 := Is16.1 43
  have b21 : (0 : Int) ≤ iI s16 44 ∧ iI s16 44 ≤ 66 := Is16.1 44
  refine z_aload_n X (x := A 123) (show cdA 1 125 = some (.aload_n 0, 1, 0, 0, 0) from rfl) (List.Mem.head _) ?_
  refine z_const X (show cdA 1 126 = some (.iconst 0, 1, 0, 0, 0) from rfl) ?_
  refine s_putI X 123 (show cdA 1 127 = some (.putfield 72, 3, 0, 7, 0) from rfl) (by decide) rfl rfl (by decide) rfl rfl rfl ?_
  obtain ⟨s22, hs22⟩ : ∃ x0, x0 = uI s16 56 (Int32.ofInt 0) := ⟨_, rfl⟩
  rw [← hs22]
  have Is22 : Bd s22 := by rw [hs22]; exact bd_I Is16 (show (0 : Int) ≤ 0 ∧ 0 ≤ 66 by first | exact ⟨by decide, by decide⟩ | omega) (by decide)
  have Fs22 := fm_I (x := Int32.ofInt 0) Fs16 (show 56 ∈ _ by decide)
  rw [← hs22] at Fs22
  have vs22 : iI s22 56 = 0 := by rw [hs22]; exact iI_u (by decide)
  have ws22_55 : iI s22 55 = iI s16 55 := by rw [hs22]; rfl
  have ws22_43 : iI s22 43 = iI s16 43 := by rw [hs22]; rfl
  have ws22_44 : iI s22 44 = iI s16 44 := by rw [hs22]; rfl
  refine z_const X (show cdA 1 130 = some (.iconst 0, 1, 0, 0, 0) from rfl) ?_
  refine z_store X (lv' := [(6, .int (Int32.ofInt 0)), (0, .ref (A 123)), (1, .long aj), (3, .long bj)]) (show cdA 1 131 = some (.istore 6, 2, 0, 0, 0) from rfl) (by decide) (fun _ h => h) ?_
  refine WS_lv (lv := [(0, .ref (A 123)), (1, .long aj), (3, .long bj), (6, .int (Int32.ofInt 0))]) (List.forall_mem_cons.mpr ⟨(List.Mem.tail _ (List.Mem.head _)), (List.forall_mem_cons.mpr ⟨(List.Mem.tail _ (List.Mem.tail _ (List.Mem.head _))), (List.forall_mem_cons.mpr ⟨(List.Mem.tail _ (List.Mem.tail _ (List.Mem.tail _ (List.Mem.head _)))), (List.forall_mem_cons.mpr ⟨(List.Mem.head _), (fun q h => absurd h List.not_mem_nil)⟩)⟩)⟩)⟩) ?_
  refine L133 ((66 - 0 : Int).toNat + 1) s22 aj bj 0 Is22 Fs22 (by first | exact ⟨by decide, by decide, oq_1af0b4f8 vs22⟩ | omega) (Nat.lt_succ_self _) ?_
  intro s23 x24 Is23 Fs23 hs23
  have b25 : (0 : Int) ≤ iI s23 55 ∧ iI s23 55 ≤ 12 := Is23.1 55
  have b26 : (0 : Int) ≤ iI s23 56 ∧ iI s23 56 ≤ 66 := Is23.1 56
  have b27 : (0 : Int) ≤ iI s23 43 ∧ iI s23 43 ≤ 12 := Is23.1 43
  have b28 : (0 : Int) ≤ iI s23 44 ∧ iI s23 44 ≤ 66 := Is23.1 44
  exact w_vret X.1 q hRt (ax_d X (show cdA 1 260 = some (.return_, 1, 0, 0, 0) from rfl)) (Nat.zero_le _) (Nat.zero_le _) ⟨_, rfl, Is23, Fs23, rfl, trivial⟩
set_option maxRecDepth 4000 in
theorem c0_hear_123 (G : GX l s0 D tys a0 dT) (I : Bd s) {x y : Int} (p0 : 0 ≤ x ∧ x ≤ 23) (p1 : rng y) : CT l s0 D A dT 3 (rmN 3) [.ref (A 123), .int (Int32.ofInt x), .int (Int32.ofInt y)] s (fun o t => Bd t ∧ Fm [] [114] s t ∧ o = .inl none ∧ (True)) := by
  refine ct_ofX G (by decide) (Nat.le_of_ble_eq_true rfl) (fun k X E ET hRt hXt q => ?_)
  show WS k 0 [(0, .ref (A 123)), (1, .int (Int32.ofInt x)), (2, .int (Int32.ofInt y))] [] _ 0 0
  have F : Fm [] [114] s s := fm_rf _ _ s
  have b1 : (0 : Int) ≤ iI s 55 ∧ iI s 55 ≤ 12 := I.1 55
  have b2 : (0 : Int) ≤ iI s 56 ∧ iI s 56 ≤ 66 := I.1 56
  have L20 : ∀ (n : Nat) (t : PS) (yv ro wa cr ov cl c : Int), Bd t → Fm [] [114] s t → (rng yv ∧ (0 ≤ ro ∧ ro ≤ 276) ∧ rng wa ∧ rng cr ∧ rng ov ∧ rng cl ∧ 0 ≤ c ∧ c ≤ 12) → (12 - c : Int).toNat < n → (∀ (t' : PS) (wa' cr' ov' cl' c' : Int), Bd t' → Fm [] [114] s t' → (rng yv ∧ (0 ≤ ro ∧ ro ≤ 276) ∧ rng wa' ∧ rng cr' ∧ rng ov' ∧ rng cl' ∧ 0 ≤ c' ∧ c' ≤ 12) → WS k 106 [(0, .ref (A 123)), (2, .int (Int32.ofInt yv)), (3, .int (Int32.ofInt ro)), (4, .int (Int32.ofInt wa')), (5, .int (Int32.ofInt cr')), (6, .int (Int32.ofInt ov')), (7, .int (Int32.ofInt cl')), (8, .int (Int32.ofInt c'))] [] (Wd A dT t') 0 0) → WS k 20 [(0, .ref (A 123)), (2, .int (Int32.ofInt yv)), (3, .int (Int32.ofInt ro)), (4, .int (Int32.ofInt wa)), (5, .int (Int32.ofInt cr)), (6, .int (Int32.ofInt ov)), (7, .int (Int32.ofInt cl)), (8, .int (Int32.ofInt c))] [] (Wd A dT t) 0 0 := by
    intro n
    induction n with
    | zero =>
      intro t yv ro wa cr ov cl c I F hi hm kx
      exact absurd hm (Nat.not_lt_zero _)
    | succ n ih =>
      intro t yv ro wa cr ov cl c I F hi hm kx
      have b1001 : (0 : Int) ≤ iI t 55 ∧ iI t 55 ≤ 12 := I.1 55
      have b1002 : (0 : Int) ≤ iI t 56 ∧ iI t 56 ≤ 66 := I.1 56
      refine z_load X (x := c) (show cdA 3 20 = some (.iload 8, 2, 0, 0, 0) from rfl) (List.Mem.tail _ (List.Mem.tail _ (List.Mem.tail _ (List.Mem.tail _ (List.Mem.tail _ (List.Mem.tail _ (List.Mem.tail _ (List.Mem.head _)))))))) ?_
      refine z_aload_n X (x := A 123) (show cdA 3 22 = some (.aload_n 0, 1, 0, 0, 0) from rfl) (List.Mem.head _) ?_
      refine z_getI X 123 (show cdA 3 23 = some (.getfield 57, 3, 0, 2, 0) from rfl) (by decide) rfl rfl ?_
      have b1003 : (0 : Int) ≤ iI t 55 ∧ iI t 55 ≤ 12 := I.1 55
      refine z_icmp_ge X (t := 106) (show cdA 3 26 = some (.if_icmp .ge 80, 3, 3, 0, 0) from rfl) (by decide) ⟨by first | exact oq_fa4e5087 hi.2.2.2.2.2.2.1 | omega, by first | exact oq_78843a64 hi.2.2.2.2.2.2.2 | omega⟩ (rng_to _) (fun g1004 => ?_) (fun g1004 => ?_)
      ·
        refine WS_lv (lv := [(0, .ref (A 123)), (2, .int (Int32.ofInt yv)), (3, .int (Int32.ofInt ro)), (4, .int (Int32.ofInt wa)), (5, .int (Int32.ofInt cr)), (6, .int (Int32.ofInt ov)), (7, .int (Int32.ofInt cl)), (8, .int (Int32.ofInt c))]) (List.forall_mem_cons.mpr ⟨(List.Mem.head _), (List.forall_mem_cons.mpr ⟨(List.Mem.tail _ (List.Mem.head _)), (List.forall_mem_cons.mpr ⟨(List.Mem.tail _ (List.Mem.tail _ (List.Mem.head _))), (List.forall_mem_cons.mpr ⟨(List.Mem.tail _ (List.Mem.tail _ (List.Mem.tail _ (List.Mem.head _)))), (List.forall_mem_cons.mpr ⟨(List.Mem.tail _ (List.Mem.tail _ (List.Mem.tail _ (List.Mem.tail _ (List.Mem.head _))))), (List.forall_mem_cons.mpr ⟨(List.Mem.tail _ (List.Mem.tail _ (List.Mem.tail _ (List.Mem.tail _ (List.Mem.tail _ (List.Mem.head _)))))), (List.forall_mem_cons.mpr ⟨(List.Mem.tail _ (List.Mem.tail _ (List.Mem.tail _ (List.Mem.tail _ (List.Mem.tail _ (List.Mem.tail _ (List.Mem.head _))))))), (List.forall_mem_cons.mpr ⟨(List.Mem.tail _ (List.Mem.tail _ (List.Mem.tail _ (List.Mem.tail _ (List.Mem.tail _ (List.Mem.tail _ (List.Mem.tail _ (List.Mem.head _)))))))), (fun q h => absurd h List.not_mem_nil)⟩)⟩)⟩)⟩)⟩)⟩)⟩)⟩) ?_
        exact kx _ wa cr ov cl c I F (by first | exact ⟨And.intro (hi.1.1) (hi.1.2), And.intro (hi.2.1.1) (hi.2.1.2), And.intro (hi.2.2.1.1) (hi.2.2.1.2), And.intro (hi.2.2.2.1.1) (hi.2.2.2.1.2), And.intro (hi.2.2.2.2.1.1) (hi.2.2.2.2.1.2), And.intro (hi.2.2.2.2.2.1.1) (hi.2.2.2.2.2.1.2), hi.2.2.2.2.2.2.1, hi.2.2.2.2.2.2.2⟩ | omega)
      ·
        refine z_aload_n X (x := A 123) (show cdA 3 29 = some (.aload_n 0, 1, 0, 0, 0) from rfl) (List.Mem.head _) ?_
        refine s_getR X 123 (show cdA 3 30 = some (.getfield 9, 3, 0, 3, 0) from rfl) (by decide) rfl rfl ?_
        refine z_load X (x := c) (show cdA 3 33 = some (.iload 8, 2, 0, 0, 0) from rfl) (List.Mem.tail _ (List.Mem.tail _ (List.Mem.tail _ (List.Mem.tail _ (List.Mem.tail _ (List.Mem.tail _ (List.Mem.tail _ (List.Mem.head _)))))))) ?_
        refine z_ald X 124 (show cdA 3 35 = some (.iaload, 1, 0, 0, 0) from rfl) (by decide) rfl (by first | exact hi.2.2.2.2.2.2.1 | omega) (show c < 12 by first | exact oq_f36e82a8 g1004 b1003.2 | omega) (by decide) ?_
        have b1005 : (0 : Int) ≤ iC t 107 (c).toNat ∧ iC t 107 (c).toNat ≤ 11 := I.2 107 _ (show (c).toNat < 12 by first | exact oq_2dac6850 g1004 b1003.2 | omega)
        refine z_load_n X (x := yv) (show cdA 3 36 = some (.iload_n 2, 1, 0, 0, 0) from rfl) (List.Mem.tail _ (List.Mem.head _)) ?_
        have N1006 : ∀ e1007 : Int, ((((iC t 107 (c).toNat) ≠ yv) ∧ ((0 : Int) ≤ iC t 107 (c).toNat ∧ iC t 107 (c).toNat ≤ 11) ∧ ((0 : Int) ≤ iC t 67 ((ro + (iC t 107 (c).toNat))).toNat ∧ iC t 67 ((ro + (iC t 107 (c).toNat))).toNat ≤ 50) ∧ e1007 = (iC t 67 ((ro + (iC t 107 (c).toNat))).toNat)) ∨ (((iC t 107 (c).toNat) = yv) ∧ e1007 = 0)) → WS k 61 [(0, .ref (A 123)), (2, .int (Int32.ofInt yv)), (3, .int (Int32.ofInt ro)), (4, .int (Int32.ofInt wa)), (5, .int (Int32.ofInt cr)), (6, .int (Int32.ofInt ov)), (7, .int (Int32.ofInt cl)), (8, .int (Int32.ofInt c))] [.int (Int32.ofInt e1007)] (Wd A dT t) 0 0 := by
          intro e1007 he1007
          refine z_store X (lv' := [(9, .int (Int32.ofInt e1007)), (0, .ref (A 123)), (2, .int (Int32.ofInt yv)), (3, .int (Int32.ofInt ro)), (4, .int (Int32.ofInt wa)), (5, .int (Int32.ofInt cr)), (6, .int (Int32.ofInt ov)), (7, .int (Int32.ofInt cl)), (8, .int (Int32.ofInt c))]) (show cdA 3 61 = some (.istore 9, 2, 0, 0, 0) from rfl) (by decide) (fun _ h => h) ?_
          refine z_load X (x := wa) (show cdA 3 63 = some (.iload 4, 2, 0, 0, 0) from rfl) (List.Mem.tail _ (List.Mem.tail _ (List.Mem.tail _ (List.Mem.tail _ (List.Mem.head _))))) ?_
          refine z_load X (x := e1007) (show cdA 3 65 = some (.iload 9, 2, 0, 0, 0) from rfl) (List.Mem.head _) ?_
          refine z_add X (show cdA 3 67 = some (.iadd, 1, 0, 0, 0) from rfl) ?_
          refine z_any (fun y1008 hy1008 => ?_)
          refine z_store X (lv' := [(4, .int (Int32.ofInt y1008)), (9, .int (Int32.ofInt e1007)), (0, .ref (A 123)), (2, .int (Int32.ofInt yv)), (3, .int (Int32.ofInt ro)), (5, .int (Int32.ofInt cr)), (6, .int (Int32.ofInt ov)), (7, .int (Int32.ofInt cl)), (8, .int (Int32.ofInt c))]) (show cdA 3 68 = some (.istore 4, 2, 0, 0, 0) from rfl) (by decide) (fun _ h => h) ?_
          refine z_load X (x := ov) (show cdA 3 70 = some (.iload 6, 2, 0, 0, 0) from rfl) (List.Mem.tail _ (List.Mem.tail _ (List.Mem.tail _ (List.Mem.tail _ (List.Mem.tail _ (List.Mem.tail _ (List.Mem.head _))))))) ?_
          refine z_load X (x := e1007) (show cdA 3 72 = some (.iload 9, 2, 0, 0, 0) from rfl) (List.Mem.tail _ (List.Mem.head _)) ?_
          refine z_aload_n X (x := A 123) (show cdA 3 74 = some (.aload_n 0, 1, 0, 0, 0) from rfl) (List.Mem.tail _ (List.Mem.tail _ (List.Mem.head _))) ?_
          refine s_getR X 123 (show cdA 3 75 = some (.getfield 15, 3, 0, 4, 0) from rfl) (by decide) rfl rfl ?_
          refine z_load X (x := c) (show cdA 3 78 = some (.iload 8, 2, 0, 0, 0) from rfl) (List.Mem.tail _ (List.Mem.tail _ (List.Mem.tail _ (List.Mem.tail _ (List.Mem.tail _ (List.Mem.tail _ (List.Mem.tail _ (List.Mem.tail _ (List.Mem.head _))))))))) ?_
          refine z_ald X 125 (show cdA 3 80 = some (.iaload, 1, 0, 0, 0) from rfl) (by decide) rfl (by first | exact hi.2.2.2.2.2.2.1 | omega) (show c < 12 by first | exact oq_f36e82a8 g1004 b1003.2 | omega) (by decide) ?_
          have b1009 : ((-2147483648) : Int) ≤ iC t 108 (c).toNat ∧ iC t 108 (c).toNat ≤ 2147483647 := I.2 108 _ (show (c).toNat < 12 by first | exact oq_2dac6850 g1004 b1003.2 | omega)
          refine z_mul X (show cdA 3 81 = some (.imul, 1, 0, 0, 0) from rfl) ?_
          refine z_any (fun y1010 hy1010 => ?_)
          refine z_add X (show cdA 3 82 = some (.iadd, 1, 0, 0, 0) from rfl) ?_
          refine z_any (fun y1011 hy1011 => ?_)
          refine z_store X (lv' := [(6, .int (Int32.ofInt y1011)), (4, .int (Int32.ofInt y1008)), (9, .int (Int32.ofInt e1007)), (0, .ref (A 123)), (2, .int (Int32.ofInt yv)), (3, .int (Int32.ofInt ro)), (5, .int (Int32.ofInt cr)), (7, .int (Int32.ofInt cl)), (8, .int (Int32.ofInt c))]) (show cdA 3 83 = some (.istore 6, 2, 0, 0, 0) from rfl) (by decide) (fun _ h => h) ?_
          refine z_load X (x := cl) (show cdA 3 85 = some (.iload 7, 2, 0, 0, 0) from rfl) (List.Mem.tail _ (List.Mem.tail _ (List.Mem.tail _ (List.Mem.tail _ (List.Mem.tail _ (List.Mem.tail _ (List.Mem.tail _ (List.Mem.head _)))))))) ?_
          refine z_load X (x := e1007) (show cdA 3 87 = some (.iload 9, 2, 0, 0, 0) from rfl) (List.Mem.tail _ (List.Mem.tail _ (List.Mem.head _))) ?_
          refine z_aload_n X (x := A 123) (show cdA 3 89 = some (.aload_n 0, 1, 0, 0, 0) from rfl) (List.Mem.tail _ (List.Mem.tail _ (List.Mem.tail _ (List.Mem.head _)))) ?_
          refine s_getR X 123 (show cdA 3 90 = some (.getfield 21, 3, 0, 6, 0) from rfl) (by decide) rfl rfl ?_
          refine z_load X (x := c) (show cdA 3 93 = some (.iload 8, 2, 0, 0, 0) from rfl) (List.Mem.tail _ (List.Mem.tail _ (List.Mem.tail _ (List.Mem.tail _ (List.Mem.tail _ (List.Mem.tail _ (List.Mem.tail _ (List.Mem.tail _ (List.Mem.head _))))))))) ?_
          refine z_ald X 127 (show cdA 3 95 = some (.iaload, 1, 0, 0, 0) from rfl) (by decide) rfl (by first | exact hi.2.2.2.2.2.2.1 | omega) (show c < 12 by first | exact oq_f36e82a8 g1004 b1003.2 | omega) (by decide) ?_
          have b1012 : ((-2147483648) : Int) ≤ iC t 110 (c).toNat ∧ iC t 110 (c).toNat ≤ 2147483647 := I.2 110 _ (show (c).toNat < 12 by first | exact oq_2dac6850 g1004 b1003.2 | omega)
          refine z_mul X (show cdA 3 96 = some (.imul, 1, 0, 0, 0) from rfl) ?_
          refine z_any (fun y1013 hy1013 => ?_)
          refine z_add X (show cdA 3 97 = some (.iadd, 1, 0, 0, 0) from rfl) ?_
          refine z_any (fun y1014 hy1014 => ?_)
          refine z_store X (lv' := [(7, .int (Int32.ofInt y1014)), (6, .int (Int32.ofInt y1011)), (4, .int (Int32.ofInt y1008)), (9, .int (Int32.ofInt e1007)), (0, .ref (A 123)), (2, .int (Int32.ofInt yv)), (3, .int (Int32.ofInt ro)), (5, .int (Int32.ofInt cr)), (8, .int (Int32.ofInt c))]) (show cdA 3 98 = some (.istore 7, 2, 0, 0, 0) from rfl) (by decide) (fun _ h => h) ?_
          refine z_inc X (x := c) (lv' := [(8, .int (Int32.ofInt (c + 1))), (7, .int (Int32.ofInt y1014)), (6, .int (Int32.ofInt y1011)), (4, .int (Int32.ofInt y1008)), (9, .int (Int32.ofInt e1007)), (0, .ref (A 123)), (2, .int (Int32.ofInt yv)), (3, .int (Int32.ofInt ro)), (5, .int (Int32.ofInt cr))]) (show cdA 3 100 = some (.iinc 8 1, 3, 0, 0, 0) from rfl) (by decide) (List.Mem.tail _ (List.Mem.tail _ (List.Mem.tail _ (List.Mem.tail _ (List.Mem.tail _ (List.Mem.tail _ (List.Mem.tail _ (List.Mem.tail _ (List.Mem.head _))))))))) (fun _ h => h) ?_
          refine z_goto X (t := 20) (show cdA 3 103 = some (.goto (-83), 3, 0, 0, 0) from rfl) (by decide) ?_
          refine WS_lv (lv := [(0, .ref (A 123)), (2, .int (Int32.ofInt yv)), (3, .int (Int32.ofInt ro)), (4, .int (Int32.ofInt y1008)), (5, .int (Int32.ofInt cr)), (6, .int (Int32.ofInt y1011)), (7, .int (Int32.ofInt y1014)), (8, .int (Int32.ofInt (c + 1)))]) (List.forall_mem_cons.mpr ⟨(List.Mem.tail _ (List.Mem.tail _ (List.Mem.tail _ (List.Mem.tail _ (List.Mem.tail _ (List.Mem.head _)))))), (List.forall_mem_cons.mpr ⟨(List.Mem.tail _ (List.Mem.tail _ (List.Mem.tail _ (List.Mem.tail _ (List.Mem.tail _ (List.Mem.tail _ (List.Mem.head _))))))), (List.forall_mem_cons.mpr ⟨(List.Mem.tail _ (List.Mem.tail _ (List.Mem.tail _ (List.Mem.tail _ (List.Mem.tail _ (List.Mem.tail _ (List.Mem.tail _ (List.Mem.head _)))))))), (List.forall_mem_cons.mpr ⟨(List.Mem.tail _ (List.Mem.tail _ (List.Mem.tail _ (List.Mem.head _)))), (List.forall_mem_cons.mpr ⟨(List.Mem.tail _ (List.Mem.tail _ (List.Mem.tail _ (List.Mem.tail _ (List.Mem.tail _ (List.Mem.tail _ (List.Mem.tail _ (List.Mem.tail _ (List.Mem.head _))))))))), (List.forall_mem_cons.mpr ⟨(List.Mem.tail _ (List.Mem.tail _ (List.Mem.head _))), (List.forall_mem_cons.mpr ⟨(List.Mem.tail _ (List.Mem.head _)), (List.forall_mem_cons.mpr ⟨(List.Mem.head _), (fun q h => absurd h List.not_mem_nil)⟩)⟩)⟩)⟩)⟩)⟩)⟩)⟩) ?_
          exact ih _ yv ro y1008 cr y1011 y1014 (c + 1) I F (by first | exact ⟨And.intro (hi.1.1) (hi.1.2), And.intro (hi.2.1.1) (hi.2.1.2), And.intro (hy1008.1) (hy1008.2), And.intro (hi.2.2.2.1.1) (hi.2.2.2.1.2), And.intro (hy1011.1) (hy1011.2), And.intro (hy1014.1) (hy1014.2), oq_54f49eb5 hi.2.2.2.2.2.2.1, oq_4dae995e g1004 b1003.2⟩ | omega) (by first | exact qk_me hm (by decide) (oq_b575e8c1 g1004 b1003.2) | omega) kx
        refine z_icmp_ne X (t := 44) (show cdA 3 37 = some (.if_icmp .ne 7, 3, 1, 0, 0) from rfl) (by decide) (rng_to _) ⟨by first | exact hi.1.1 | omega, by first | exact hi.1.2 | omega⟩ (fun g1015 => ?_) (fun g1015 => ?_)
        ·
          refine z_aload_n X (x := A 123) (show cdA 3 44 = some (.aload_n 0, 1, 0, 0, 0) from rfl) (List.Mem.head _) ?_
          refine s_getR X 123 (show cdA 3 45 = some (.getfield 43, 3, 0, 0, 0) from rfl) (by decide) rfl rfl ?_
          refine s_getR X 68 (show cdA 3 48 = some (.getfield 87, 3, 9, 12, 0) from rfl) (by decide) rfl rfl ?_
          refine z_load_n X (x := ro) (show cdA 3 51 = some (.iload_n 3, 1, 0, 0, 0) from rfl) (List.Mem.tail _ (List.Mem.tail _ (List.Mem.head _))) ?_
          refine z_aload_n X (x := A 123) (show cdA 3 52 = some (.aload_n 0, 1, 0, 0, 0) from rfl) (List.Mem.head _) ?_
          refine s_getR X 123 (show cdA 3 53 = some (.getfield 9, 3, 0, 3, 0) from rfl) (by decide) rfl rfl ?_
          refine z_load X (x := c) (show cdA 3 56 = some (.iload 8, 2, 0, 0, 0) from rfl) (List.Mem.tail _ (List.Mem.tail _ (List.Mem.tail _ (List.Mem.tail _ (List.Mem.tail _ (List.Mem.tail _ (List.Mem.tail _ (List.Mem.head _)))))))) ?_
          refine z_ald X 124 (show cdA 3 58 = some (.iaload, 1, 0, 0, 0) from rfl) (by decide) rfl (by first | exact hi.2.2.2.2.2.2.1 | omega) (show c < 12 by first | exact oq_f36e82a8 g1004 b1003.2 | omega) (by decide) ?_
          have b1016 : (0 : Int) ≤ iC t 107 (c).toNat ∧ iC t 107 (c).toNat ≤ 11 := I.2 107 _ (show (c).toNat < 12 by first | exact oq_2dac6850 g1004 b1003.2 | omega)
          refine z_add X (show cdA 3 59 = some (.iadd, 1, 0, 0, 0) from rfl) ?_
          refine z_ald X 79 (show cdA 3 60 = some (.iaload, 1, 0, 0, 0) from rfl) (by decide) rfl (by first | exact oq_dd29f52d hi.2.1.1 b1016.1 | omega) (show (ro + (iC t 107 (c).toNat)) < 288 by first | exact oq_f94a0088 hi.2.1.2 b1016.2 | omega) (by decide) ?_
          have b1017 : (0 : Int) ≤ iC t 67 ((ro + (iC t 107 (c).toNat))).toNat ∧ iC t 67 ((ro + (iC t 107 (c).toNat))).toNat ≤ 50 := I.2 67 _ (show ((ro + (iC t 107 (c).toNat))).toNat < 288 by first | exact oq_3d7ae1dd hi.2.1.2 b1016.2 | omega)
          exact N1006 _ (Or.inl ⟨g1015, b1016, b1017, rfl⟩)
        ·
          refine z_const X (show cdA 3 40 = some (.iconst 0, 1, 0, 0, 0) from rfl) ?_
          refine z_goto X (t := 61) (show cdA 3 41 = some (.goto 20, 3, 0, 0, 0) from rfl) (by decide) ?_
          exact N1006 _ (Or.inr (⟨g1015, rfl⟩))
  have L109 : ∀ (n : Nat) (t : PS) (yv ro wa cr ov cl c : Int), Bd t → Fm [] [114] s t → (rng yv ∧ (0 ≤ ro ∧ ro ≤ 276) ∧ rng wa ∧ rng cr ∧ rng ov ∧ rng cl ∧ 0 ≤ c ∧ c ≤ 66) → (66 - c : Int).toNat < n → (∀ (t' : PS) (cr' c' : Int), Bd t' → Fm [] [114] s t' → (rng yv ∧ (0 ≤ ro ∧ ro ≤ 276) ∧ rng wa ∧ rng cr' ∧ rng ov ∧ rng cl ∧ 0 ≤ c' ∧ c' ≤ 66) → WS k 196 [(0, .ref (A 123)), (2, .int (Int32.ofInt yv)), (3, .int (Int32.ofInt ro)), (4, .int (Int32.ofInt wa)), (5, .int (Int32.ofInt cr')), (6, .int (Int32.ofInt ov)), (7, .int (Int32.ofInt cl)), (8, .int (Int32.ofInt c'))] [] (Wd A dT t') 0 0) → WS k 109 [(0, .ref (A 123)), (2, .int (Int32.ofInt yv)), (3, .int (Int32.ofInt ro)), (4, .int (Int32.ofInt wa)), (5, .int (Int32.ofInt cr)), (6, .int (Int32.ofInt ov)), (7, .int (Int32.ofInt cl)), (8, .int (Int32.ofInt c))] [] (Wd A dT t) 0 0 := by
    intro n
    induction n with
    | zero =>
      intro t yv ro wa cr ov cl c I F hi hm kx
      exact absurd hm (Nat.not_lt_zero _)
    | succ n ih =>
      intro t yv ro wa cr ov cl c I F hi hm kx
      have b2001 : (0 : Int) ≤ iI t 55 ∧ iI t 55 ≤ 12 := I.1 55
      have b2002 : (0 : Int) ≤ iI t 56 ∧ iI t 56 ≤ 66 := I.1 56
      refine z_load X (x := c) (show cdA 3 109 = some (.iload 8, 2, 0, 0, 0) from rfl) (List.Mem.tail _ (List.Mem.tail _ (List.Mem.tail _ (List.Mem.tail _ (List.Mem.tail _ (List.Mem.tail _ (List.Mem.tail _ (List.Mem.head _)))))))) ?_
      refine z_aload_n X (x := A 123) (show cdA 3 111 = some (.aload_n 0, 1, 0, 0, 0) from rfl) (List.Mem.head _) ?_
      refine z_getI X 123 (show cdA 3 112 = some (.getfield 72, 3, 0, 7, 0) from rfl) (by decide) rfl rfl ?_
      have b2003 : (0 : Int) ≤ iI t 56 ∧ iI t 56 ≤ 66 := I.1 56
      refine z_icmp_ge X (t := 196) (show cdA 3 115 = some (.if_icmp .ge 81, 3, 3, 0, 0) from rfl) (by decide) ⟨by first | exact oq_fa4e5087 hi.2.2.2.2.2.2.1 | omega, by first | exact oq_64f2e926 hi.2.2.2.2.2.2.2 | omega⟩ (rng_to _) (fun g2004 => ?_) (fun g2004 => ?_)
      ·
        refine WS_lv (lv := [(0, .ref (A 123)), (2, .int (Int32.ofInt yv)), (3, .int (Int32.ofInt ro)), (4, .int (Int32.ofInt wa)), (5, .int (Int32.ofInt cr)), (6, .int (Int32.ofInt ov)), (7, .int (Int32.ofInt cl)), (8, .int (Int32.ofInt c))]) (List.forall_mem_cons.mpr ⟨(List.Mem.head _), (List.forall_mem_cons.mpr ⟨(List.Mem.tail _ (List.Mem.head _)), (List.forall_mem_cons.mpr ⟨(List.Mem.tail _ (List.Mem.tail _ (List.Mem.head _))), (List.forall_mem_cons.mpr ⟨(List.Mem.tail _ (List.Mem.tail _ (List.Mem.tail _ (List.Mem.head _)))), (List.forall_mem_cons.mpr ⟨(List.Mem.tail _ (List.Mem.tail _ (List.Mem.tail _ (List.Mem.tail _ (List.Mem.head _))))), (List.forall_mem_cons.mpr ⟨(List.Mem.tail _ (List.Mem.tail _ (List.Mem.tail _ (List.Mem.tail _ (List.Mem.tail _ (List.Mem.head _)))))), (List.forall_mem_cons.mpr ⟨(List.Mem.tail _ (List.Mem.tail _ (List.Mem.tail _ (List.Mem.tail _ (List.Mem.tail _ (List.Mem.tail _ (List.Mem.head _))))))), (List.forall_mem_cons.mpr ⟨(List.Mem.tail _ (List.Mem.tail _ (List.Mem.tail _ (List.Mem.tail _ (List.Mem.tail _ (List.Mem.tail _ (List.Mem.tail _ (List.Mem.head _)))))))), (fun q h => absurd h List.not_mem_nil)⟩)⟩)⟩)⟩)⟩)⟩)⟩)⟩) ?_
        exact kx _ cr c I F (by first | exact ⟨And.intro (hi.1.1) (hi.1.2), And.intro (hi.2.1.1) (hi.2.1.2), And.intro (hi.2.2.1.1) (hi.2.2.1.2), And.intro (hi.2.2.2.1.1) (hi.2.2.2.1.2), And.intro (hi.2.2.2.2.1.1) (hi.2.2.2.2.1.2), And.intro (hi.2.2.2.2.2.1.1) (hi.2.2.2.2.2.1.2), hi.2.2.2.2.2.2.1, hi.2.2.2.2.2.2.2⟩ | omega)
      ·
        refine z_aload_n X (x := A 123) (show cdA 3 118 = some (.aload_n 0, 1, 0, 0, 0) from rfl) (List.Mem.head _) ?_
        refine s_getR X 123 (show cdA 3 119 = some (.getfield 26, 3, 0, 8, 0) from rfl) (by decide) rfl rfl ?_
        refine z_load X (x := c) (show cdA 3 122 = some (.iload 8, 2, 0, 0, 0) from rfl) (List.Mem.tail _ (List.Mem.tail _ (List.Mem.tail _ (List.Mem.tail _ (List.Mem.tail _ (List.Mem.tail _ (List.Mem.tail _ (List.Mem.head _)))))))) ?_
        refine z_ald X 128 (show cdA 3 124 = some (.iaload, 1, 0, 0, 0) from rfl) (by decide) rfl (by first | exact hi.2.2.2.2.2.2.1 | omega) (show c < 66 by first | exact oq_256e4529 g2004 b2003.2 | omega) (by decide) ?_
        have b2005 : (0 : Int) ≤ iC t 111 (c).toNat ∧ iC t 111 (c).toNat ≤ 11 := I.2 111 _ (show (c).toNat < 66 by first | exact oq_d7ff7873 g2004 b2003.2 | omega)
        refine z_load_n X (x := yv) (show cdA 3 125 = some (.iload_n 2, 1, 0, 0, 0) from rfl) (List.Mem.tail _ (List.Mem.head _)) ?_
        refine z_icmp_eq X (t := 190) (show cdA 3 126 = some (.if_icmp .eq 64, 3, 0, 0, 0) from rfl) (by decide) (rng_to _) ⟨by first | exact hi.1.1 | omega, by first | exact hi.1.2 | omega⟩ (fun g2006 => ?_) (fun g2006 => ?_)
        ·
          refine z_inc X (x := c) (lv' := [(8, .int (Int32.ofInt (c + 1))), (0, .ref (A 123)), (2, .int (Int32.ofInt yv)), (3, .int (Int32.ofInt ro)), (4, .int (Int32.ofInt wa)), (5, .int (Int32.ofInt cr)), (6, .int (Int32.ofInt ov)), (7, .int (Int32.ofInt cl))]) (show cdA 3 190 = some (.iinc 8 1, 3, 0, 0, 0) from rfl) (by decide) (List.Mem.tail _ (List.Mem.tail _ (List.Mem.tail _ (List.Mem.tail _ (List.Mem.tail _ (List.Mem.tail _ (List.Mem.tail _ (List.Mem.head _)))))))) (fun _ h => h) ?_
          refine z_goto X (t := 109) (show cdA 3 193 = some (.goto (-84), 3, 0, 0, 0) from rfl) (by decide) ?_
          refine WS_lv (lv := [(0, .ref (A 123)), (2, .int (Int32.ofInt yv)), (3, .int (Int32.ofInt ro)), (4, .int (Int32.ofInt wa)), (5, .int (Int32.ofInt cr)), (6, .int (Int32.ofInt ov)), (7, .int (Int32.ofInt cl)), (8, .int (Int32.ofInt (c + 1)))]) (List.forall_mem_cons.mpr ⟨(List.Mem.tail _ (List.Mem.head _)), (List.forall_mem_cons.mpr ⟨(List.Mem.tail _ (List.Mem.tail _ (List.Mem.head _))), (List.forall_mem_cons.mpr ⟨(List.Mem.tail _ (List.Mem.tail _ (List.Mem.tail _ (List.Mem.head _)))), (List.forall_mem_cons.mpr ⟨(List.Mem.tail _ (List.Mem.tail _ (List.Mem.tail _ (List.Mem.tail _ (List.Mem.head _))))), (List.forall_mem_cons.mpr ⟨(List.Mem.tail _ (List.Mem.tail _ (List.Mem.tail _ (List.Mem.tail _ (List.Mem.tail _ (List.Mem.head _)))))), (List.forall_mem_cons.mpr ⟨(List.Mem.tail _ (List.Mem.tail _ (List.Mem.tail _ (List.Mem.tail _ (List.Mem.tail _ (List.Mem.tail _ (List.Mem.head _))))))), (List.forall_mem_cons.mpr ⟨(List.Mem.tail _ (List.Mem.tail _ (List.Mem.tail _ (List.Mem.tail _ (List.Mem.tail _ (List.Mem.tail _ (List.Mem.tail _ (List.Mem.head _)))))))), (List.forall_mem_cons.mpr ⟨(List.Mem.head _), (fun q h => absurd h List.not_mem_nil)⟩)⟩)⟩)⟩)⟩)⟩)⟩)⟩) ?_
          exact ih _ yv ro wa cr ov cl (c + 1) I F (by first | exact ⟨And.intro (hi.1.1) (hi.1.2), And.intro (hi.2.1.1) (hi.2.1.2), And.intro (hi.2.2.1.1) (hi.2.2.1.2), And.intro (hi.2.2.2.1.1) (hi.2.2.2.1.2), And.intro (hi.2.2.2.2.1.1) (hi.2.2.2.2.1.2), And.intro (hi.2.2.2.2.2.1.1) (hi.2.2.2.2.2.1.2), oq_54f49eb5 hi.2.2.2.2.2.2.1, oq_319a18a4 g2004 b2003.2⟩ | omega) (by first | exact qk_me hm (by decide) (oq_dd0e9829 g2004 b2003.2) | omega) kx
        ·
          refine z_aload_n X (x := A 123) (show cdA 3 129 = some (.aload_n 0, 1, 0, 0, 0) from rfl) (List.Mem.head _) ?_
          refine s_getR X 123 (show cdA 3 130 = some (.getfield 29, 3, 0, 9, 0) from rfl) (by decide) rfl rfl ?_
          refine z_load X (x := c) (show cdA 3 133 = some (.iload 8, 2, 0, 0, 0) from rfl) (List.Mem.tail _ (List.Mem.tail _ (List.Mem.tail _ (List.Mem.tail _ (List.Mem.tail _ (List.Mem.tail _ (List.Mem.tail _ (List.Mem.head _)))))))) ?_
          refine z_ald X 129 (show cdA 3 135 = some (.iaload, 1, 0, 0, 0) from rfl) (by decide) rfl (by first | exact hi.2.2.2.2.2.2.1 | omega) (show c < 66 by first | exact oq_256e4529 g2004 b2003.2 | omega) (by decide) ?_
          have b2007 : (0 : Int) ≤ iC t 112 (c).toNat ∧ iC t 112 (c).toNat ≤ 11 := I.2 112 _ (show (c).toNat < 66 by first | exact oq_d7ff7873 g2004 b2003.2 | omega)
          refine z_load_n X (x := yv) (show cdA 3 136 = some (.iload_n 2, 1, 0, 0, 0) from rfl) (List.Mem.tail _ (List.Mem.head _)) ?_
          refine z_icmp_eq X (t := 190) (show cdA 3 137 = some (.if_icmp .eq 53, 3, 0, 0, 0) from rfl) (by decide) (rng_to _) ⟨by first | exact hi.1.1 | omega, by first | exact hi.1.2 | omega⟩ (fun g2008 => ?_) (fun g2008 => ?_)
          ·
            refine z_inc X (x := c) (lv' := [(8, .int (Int32.ofInt (c + 1))), (0, .ref (A 123)), (2, .int (Int32.ofInt yv)), (3, .int (Int32.ofInt ro)), (4, .int (Int32.ofInt wa)), (5, .int (Int32.ofInt cr)), (6, .int (Int32.ofInt ov)), (7, .int (Int32.ofInt cl))]) (show cdA 3 190 = some (.iinc 8 1, 3, 0, 0, 0) from rfl) (by decide) (List.Mem.tail _ (List.Mem.tail _ (List.Mem.tail _ (List.Mem.tail _ (List.Mem.tail _ (List.Mem.tail _ (List.Mem.tail _ (List.Mem.head _)))))))) (fun _ h => h) ?_
            refine z_goto X (t := 109) (show cdA 3 193 = some (.goto (-84), 3, 0, 0, 0) from rfl) (by decide) ?_
            refine WS_lv (lv := [(0, .ref (A 123)), (2, .int (Int32.ofInt yv)), (3, .int (Int32.ofInt ro)), (4, .int (Int32.ofInt wa)), (5, .int (Int32.ofInt cr)), (6, .int (Int32.ofInt ov)), (7, .int (Int32.ofInt cl)), (8, .int (Int32.ofInt (c + 1)))]) (List.forall_mem_cons.mpr ⟨(List.Mem.tail _ (List.Mem.head _)), (List.forall_mem_cons.mpr ⟨(List.Mem.tail _ (List.Mem.tail _ (List.Mem.head _))), (List.forall_mem_cons.mpr ⟨(List.Mem.tail _ (List.Mem.tail _ (List.Mem.tail _ (List.Mem.head _)))), (List.forall_mem_cons.mpr ⟨(List.Mem.tail _ (List.Mem.tail _ (List.Mem.tail _ (List.Mem.tail _ (List.Mem.head _))))), (List.forall_mem_cons.mpr ⟨(List.Mem.tail _ (List.Mem.tail _ (List.Mem.tail _ (List.Mem.tail _ (List.Mem.tail _ (List.Mem.head _)))))), (List.forall_mem_cons.mpr ⟨(List.Mem.tail _ (List.Mem.tail _ (List.Mem.tail _ (List.Mem.tail _ (List.Mem.tail _ (List.Mem.tail _ (List.Mem.head _))))))), (List.forall_mem_cons.mpr ⟨(List.Mem.tail _ (List.Mem.tail _ (List.Mem.tail _ (List.Mem.tail _ (List.Mem.tail _ (List.Mem.tail _ (List.Mem.tail _ (List.Mem.head _)))))))), (List.forall_mem_cons.mpr ⟨(List.Mem.head _), (fun q h => absurd h List.not_mem_nil)⟩)⟩)⟩)⟩)⟩)⟩)⟩)⟩) ?_
            exact ih _ yv ro wa cr ov cl (c + 1) I F (by first | exact ⟨And.intro (hi.1.1) (hi.1.2), And.intro (hi.2.1.1) (hi.2.1.2), And.intro (hi.2.2.1.1) (hi.2.2.1.2), And.intro (hi.2.2.2.1.1) (hi.2.2.2.1.2), And.intro (hi.2.2.2.2.1.1) (hi.2.2.2.2.1.2), And.intro (hi.2.2.2.2.2.1.1) (hi.2.2.2.2.2.1.2), oq_54f49eb5 hi.2.2.2.2.2.2.1, oq_319a18a4 g2004 b2003.2⟩ | omega) (by first | exact qk_me hm (by decide) (oq_dd0e9829 g2004 b2003.2) | omega) kx
          ·
            refine z_load X (x := cr) (show cdA 3 140 = some (.iload 5, 2, 0, 0, 0) from rfl) (List.Mem.tail _ (List.Mem.tail _ (List.Mem.tail _ (List.Mem.tail _ (List.Mem.head _))))) ?_
            refine z_aload_n X (x := A 123) (show cdA 3 142 = some (.aload_n 0, 1, 0, 0, 0) from rfl) (List.Mem.head _) ?_
            refine s_getR X 123 (show cdA 3 143 = some (.getfield 32, 3, 0, 10, 0) from rfl) (by decide) rfl rfl ?_
            refine z_load X (x := c) (show cdA 3 146 = some (.iload 8, 2, 0, 0, 0) from rfl) (List.Mem.tail _ (List.Mem.tail _ (List.Mem.tail _ (List.Mem.tail _ (List.Mem.tail _ (List.Mem.tail _ (List.Mem.tail _ (List.Mem.head _)))))))) ?_
            refine z_ald X 130 (show cdA 3 148 = some (.iaload, 1, 0, 0, 0) from rfl) (by decide) rfl (by first | exact hi.2.2.2.2.2.2.1 | omega) (show c < 66 by first | exact oq_256e4529 g2004 b2003.2 | omega) (by decide) ?_
            have b2009 : ((-2147483648) : Int) ≤ iC t 113 (c).toNat ∧ iC t 113 (c).toNat ≤ 2147483647 := I.2 113 _ (show (c).toNat < 66 by first | exact oq_d7ff7873 g2004 b2003.2 | omega)
            refine z_aload_n X (x := A 123) (show cdA 3 149 = some (.aload_n 0, 1, 0, 0, 0) from rfl) (List.Mem.head _) ?_
            refine s_getR X 123 (show cdA 3 150 = some (.getfield 43, 3, 0, 0, 0) from rfl) (by decide) rfl rfl ?_
            refine s_getR X 68 (show cdA 3 153 = some (.getfield 87, 3, 9, 12, 0) from rfl) (by decide) rfl rfl ?_
            refine z_load_n X (x := ro) (show cdA 3 156 = some (.iload_n 3, 1, 0, 0, 0) from rfl) (List.Mem.tail _ (List.Mem.tail _ (List.Mem.head _))) ?_
            refine z_aload_n X (x := A 123) (show cdA 3 157 = some (.aload_n 0, 1, 0, 0, 0) from rfl) (List.Mem.head _) ?_
            refine s_getR X 123 (show cdA 3 158 = some (.getfield 26, 3, 0, 8, 0) from rfl) (by decide) rfl rfl ?_
            refine z_load X (x := c) (show cdA 3 161 = some (.iload 8, 2, 0, 0, 0) from rfl) (List.Mem.tail _ (List.Mem.tail _ (List.Mem.tail _ (List.Mem.tail _ (List.Mem.tail _ (List.Mem.tail _ (List.Mem.tail _ (List.Mem.head _)))))))) ?_
            refine z_ald X 128 (show cdA 3 163 = some (.iaload, 1, 0, 0, 0) from rfl) (by decide) rfl (by first | exact hi.2.2.2.2.2.2.1 | omega) (show c < 66 by first | exact oq_256e4529 g2004 b2003.2 | omega) (by decide) ?_
            have b2010 : (0 : Int) ≤ iC t 111 (c).toNat ∧ iC t 111 (c).toNat ≤ 11 := I.2 111 _ (show (c).toNat < 66 by first | exact oq_d7ff7873 g2004 b2003.2 | omega)
            refine z_add X (show cdA 3 164 = some (.iadd, 1, 0, 0, 0) from rfl) ?_
            refine z_ald X 79 (show cdA 3 165 = some (.iaload, 1, 0, 0, 0) from rfl) (by decide) rfl (by first | exact oq_dd29f52d hi.2.1.1 b2010.1 | omega) (show (ro + (iC t 111 (c).toNat)) < 288 by first | exact oq_f94a0088 hi.2.1.2 b2010.2 | omega) (by decide) ?_
            have b2011 : (0 : Int) ≤ iC t 67 ((ro + (iC t 111 (c).toNat))).toNat ∧ iC t 67 ((ro + (iC t 111 (c).toNat))).toNat ≤ 50 := I.2 67 _ (show ((ro + (iC t 111 (c).toNat))).toNat < 288 by first | exact oq_3d7ae1dd hi.2.1.2 b2010.2 | omega)
            refine z_aload_n X (x := A 123) (show cdA 3 166 = some (.aload_n 0, 1, 0, 0, 0) from rfl) (List.Mem.head _) ?_
            refine s_getR X 123 (show cdA 3 167 = some (.getfield 43, 3, 0, 0, 0) from rfl) (by decide) rfl rfl ?_
            refine s_getR X 68 (show cdA 3 170 = some (.getfield 87, 3, 9, 12, 0) from rfl) (by decide) rfl rfl ?_
            refine z_load_n X (x := ro) (show cdA 3 173 = some (.iload_n 3, 1, 0, 0, 0) from rfl) (List.Mem.tail _ (List.Mem.tail _ (List.Mem.head _))) ?_
            refine z_aload_n X (x := A 123) (show cdA 3 174 = some (.aload_n 0, 1, 0, 0, 0) from rfl) (List.Mem.head _) ?_
            refine s_getR X 123 (show cdA 3 175 = some (.getfield 29, 3, 0, 9, 0) from rfl) (by decide) rfl rfl ?_
            refine z_load X (x := c) (show cdA 3 178 = some (.iload 8, 2, 0, 0, 0) from rfl) (List.Mem.tail _ (List.Mem.tail _ (List.Mem.tail _ (List.Mem.tail _ (List.Mem.tail _ (List.Mem.tail _ (List.Mem.tail _ (List.Mem.head _)))))))) ?_
            refine z_ald X 129 (show cdA 3 180 = some (.iaload, 1, 0, 0, 0) from rfl) (by decide) rfl (by first | exact hi.2.2.2.2.2.2.1 | omega) (show c < 66 by first | exact oq_256e4529 g2004 b2003.2 | omega) (by decide) ?_
            have b2012 : (0 : Int) ≤ iC t 112 (c).toNat ∧ iC t 112 (c).toNat ≤ 11 := I.2 112 _ (show (c).toNat < 66 by first | exact oq_d7ff7873 g2004 b2003.2 | omega)
            refine z_add X (show cdA 3 181 = some (.iadd, 1, 0, 0, 0) from rfl) ?_
            refine z_ald X 79 (show cdA 3 182 = some (.iaload, 1, 0, 0, 0) from rfl) (by decide) rfl (by first | exact oq_dd29f52d hi.2.1.1 b2012.1 | omega) (show (ro + (iC t 112 (c).toNat)) < 288 by first | exact oq_f94a0088 hi.2.1.2 b2012.2 | omega) (by decide) ?_
            have b2013 : (0 : Int) ≤ iC t 67 ((ro + (iC t 112 (c).toNat))).toNat ∧ iC t 67 ((ro + (iC t 112 (c).toNat))).toNat ≤ 50 := I.2 67 _ (show ((ro + (iC t 112 (c).toNat))).toNat < 288 by first | exact oq_3d7ae1dd hi.2.1.2 b2012.2 | omega)
            refine z_min X (show cdA 3 183 = some (.invokestatic 90, 3, 0, 8, 0) from rfl) (rng_to _) (rng_to _) (by rw [E.2.2.2]; decide) (by rw [E.2.2.2]; exact Nat.le_of_ble_eq_true rfl) (Nat.zero_le _) (Nat.zero_le _) (fun e2014 he2014 => ?_)
            refine z_mul X (show cdA 3 186 = some (.imul, 1, 0, 0, 0) from rfl) ?_
            refine z_any (fun y2015 hy2015 => ?_)
            refine z_add X (show cdA 3 187 = some (.iadd, 1, 0, 0, 0) from rfl) ?_
            refine z_any (fun y2016 hy2016 => ?_)
            refine z_store X (lv' := [(5, .int (Int32.ofInt y2016)), (0, .ref (A 123)), (2, .int (Int32.ofInt yv)), (3, .int (Int32.ofInt ro)), (4, .int (Int32.ofInt wa)), (6, .int (Int32.ofInt ov)), (7, .int (Int32.ofInt cl)), (8, .int (Int32.ofInt c))]) (show cdA 3 188 = some (.istore 5, 2, 0, 0, 0) from rfl) (by decide) (fun _ h => h) ?_
            refine z_inc X (x := c) (lv' := [(8, .int (Int32.ofInt (c + 1))), (5, .int (Int32.ofInt y2016)), (0, .ref (A 123)), (2, .int (Int32.ofInt yv)), (3, .int (Int32.ofInt ro)), (4, .int (Int32.ofInt wa)), (6, .int (Int32.ofInt ov)), (7, .int (Int32.ofInt cl))]) (show cdA 3 190 = some (.iinc 8 1, 3, 0, 0, 0) from rfl) (by decide) (List.Mem.tail _ (List.Mem.tail _ (List.Mem.tail _ (List.Mem.tail _ (List.Mem.tail _ (List.Mem.tail _ (List.Mem.tail _ (List.Mem.head _)))))))) (fun _ h => h) ?_
            refine z_goto X (t := 109) (show cdA 3 193 = some (.goto (-84), 3, 0, 0, 0) from rfl) (by decide) ?_
            refine WS_lv (lv := [(0, .ref (A 123)), (2, .int (Int32.ofInt yv)), (3, .int (Int32.ofInt ro)), (4, .int (Int32.ofInt wa)), (5, .int (Int32.ofInt y2016)), (6, .int (Int32.ofInt ov)), (7, .int (Int32.ofInt cl)), (8, .int (Int32.ofInt (c + 1)))]) (List.forall_mem_cons.mpr ⟨(List.Mem.tail _ (List.Mem.tail _ (List.Mem.head _))), (List.forall_mem_cons.mpr ⟨(List.Mem.tail _ (List.Mem.tail _ (List.Mem.tail _ (List.Mem.head _)))), (List.forall_mem_cons.mpr ⟨(List.Mem.tail _ (List.Mem.tail _ (List.Mem.tail _ (List.Mem.tail _ (List.Mem.head _))))), (List.forall_mem_cons.mpr ⟨(List.Mem.tail _ (List.Mem.tail _ (List.Mem.tail _ (List.Mem.tail _ (List.Mem.tail _ (List.Mem.head _)))))), (List.forall_mem_cons.mpr ⟨(List.Mem.tail _ (List.Mem.head _)), (List.forall_mem_cons.mpr ⟨(List.Mem.tail _ (List.Mem.tail _ (List.Mem.tail _ (List.Mem.tail _ (List.Mem.tail _ (List.Mem.tail _ (List.Mem.head _))))))), (List.forall_mem_cons.mpr ⟨(List.Mem.tail _ (List.Mem.tail _ (List.Mem.tail _ (List.Mem.tail _ (List.Mem.tail _ (List.Mem.tail _ (List.Mem.tail _ (List.Mem.head _)))))))), (List.forall_mem_cons.mpr ⟨(List.Mem.head _), (fun q h => absurd h List.not_mem_nil)⟩)⟩)⟩)⟩)⟩)⟩)⟩)⟩) ?_
            exact ih _ yv ro wa y2016 ov cl (c + 1) I F (by first | exact ⟨And.intro (hi.1.1) (hi.1.2), And.intro (hi.2.1.1) (hi.2.1.2), And.intro (hi.2.2.1.1) (hi.2.2.1.2), And.intro (hy2016.1) (hy2016.2), And.intro (hi.2.2.2.2.1.1) (hi.2.2.2.2.1.2), And.intro (hi.2.2.2.2.2.1.1) (hi.2.2.2.2.2.1.2), oq_54f49eb5 hi.2.2.2.2.2.2.1, oq_319a18a4 g2004 b2003.2⟩ | omega) (by first | exact qk_me hm (by decide) (oq_dd0e9829 g2004 b2003.2) | omega) kx
  refine z_load_n X (x := x) (show cdA 3 0 = some (.iload_n 1, 1, 0, 0, 0) from rfl) (List.Mem.tail _ (List.Mem.head _)) ?_
  refine z_bipush X (show cdA 3 1 = some (.bipush 12, 2, 0, 0, 12) from rfl) ?_
  refine z_mul X (show cdA 3 3 = some (.imul, 1, 0, 0, 0) from rfl) ?_
  refine z_store_n X (lv' := [(3, .int (Int32.ofInt (x * 12))), (0, .ref (A 123)), (1, .int (Int32.ofInt x)), (2, .int (Int32.ofInt y))]) (show cdA 3 4 = some (.istore_n 3, 1, 0, 0, 0) from rfl) (by decide) (fun _ h => h) ?_
  refine z_const X (show cdA 3 5 = some (.iconst 0, 1, 0, 0, 0) from rfl) ?_
  refine z_store X (lv' := [(4, .int (Int32.ofInt 0)), (3, .int (Int32.ofInt (x * 12))), (0, .ref (A 123)), (1, .int (Int32.ofInt x)), (2, .int (Int32.ofInt y))]) (show cdA 3 6 = some (.istore 4, 2, 0, 0, 0) from rfl) (by decide) (fun _ h => h) ?_
  refine z_const X (show cdA 3 8 = some (.iconst 0, 1, 0, 0, 0) from rfl) ?_
  refine z_store X (lv' := [(5, .int (Int32.ofInt 0)), (4, .int (Int32.ofInt 0)), (3, .int (Int32.ofInt (x * 12))), (0, .ref (A 123)), (1, .int (Int32.ofInt x)), (2, .int (Int32.ofInt y))]) (show cdA 3 9 = some (.istore 5, 2, 0, 0, 0) from rfl) (by decide) (fun _ h => h) ?_
  refine z_const X (show cdA 3 11 = some (.iconst 0, 1, 0, 0, 0) from rfl) ?_
  refine z_store X (lv' := [(6, .int (Int32.ofInt 0)), (5, .int (Int32.ofInt 0)), (4, .int (Int32.ofInt 0)), (3, .int (Int32.ofInt (x * 12))), (0, .ref (A 123)), (1, .int (Int32.ofInt x)), (2, .int (Int32.ofInt y))]) (show cdA 3 12 = some (.istore 6, 2, 0, 0, 0) from rfl) (by decide) (fun _ h => h) ?_
  refine z_const X (show cdA 3 14 = some (.iconst 0, 1, 0, 0, 0) from rfl) ?_
  refine z_store X (lv' := [(7, .int (Int32.ofInt 0)), (6, .int (Int32.ofInt 0)), (5, .int (Int32.ofInt 0)), (4, .int (Int32.ofInt 0)), (3, .int (Int32.ofInt (x * 12))), (0, .ref (A 123)), (1, .int (Int32.ofInt x)), (2, .int (Int32.ofInt y))]) (show cdA 3 15 = some (.istore 7, 2, 0, 0, 0) from rfl) (by decide) (fun _ h => h) ?_
  refine z_const X (show cdA 3 17 = some (.iconst 0, 1, 0, 0, 0) from rfl) ?_
  refine z_store X (lv' := [(8, .int (Int32.ofInt 0)), (7, .int (Int32.ofInt 0)), (6, .int (Int32.ofInt 0)), (5, .int (Int32.ofInt 0)), (4, .int (Int32.ofInt 0)), (3, .int (Int32.ofInt (x * 12))), (0, .ref (A 123)), (1, .int (Int32.ofInt x)), (2, .int (Int32.ofInt y))]) (show cdA 3 18 = some (.istore 8, 2, 0, 0, 0) from rfl) (by decide) (fun _ h => h) ?_
  refine WS_lv (lv := [(0, .ref (A 123)), (2, .int (Int32.ofInt y)), (3, .int (Int32.ofInt (x * 12))), (4, .int (Int32.ofInt 0)), (5, .int (Int32.ofInt 0)), (6, .int (Int32.ofInt 0)), (7, .int (Int32.ofInt 0)), (8, .int (Int32.ofInt 0))]) (List.forall_mem_cons.mpr ⟨(List.Mem.tail _ (List.Mem.tail _ (List.Mem.tail _ (List.Mem.tail _ (List.Mem.tail _ (List.Mem.tail _ (List.Mem.head _))))))), (List.forall_mem_cons.mpr ⟨(List.Mem.tail _ (List.Mem.tail _ (List.Mem.tail _ (List.Mem.tail _ (List.Mem.tail _ (List.Mem.tail _ (List.Mem.tail _ (List.Mem.tail _ (List.Mem.head _))))))))), (List.forall_mem_cons.mpr ⟨(List.Mem.tail _ (List.Mem.tail _ (List.Mem.tail _ (List.Mem.tail _ (List.Mem.tail _ (List.Mem.head _)))))), (List.forall_mem_cons.mpr ⟨(List.Mem.tail _ (List.Mem.tail _ (List.Mem.tail _ (List.Mem.tail _ (List.Mem.head _))))), (List.forall_mem_cons.mpr ⟨(List.Mem.tail _ (List.Mem.tail _ (List.Mem.tail _ (List.Mem.head _)))), (List.forall_mem_cons.mpr ⟨(List.Mem.tail _ (List.Mem.tail _ (List.Mem.head _))), (List.forall_mem_cons.mpr ⟨(List.Mem.tail _ (List.Mem.head _)), (List.forall_mem_cons.mpr ⟨(List.Mem.head _), (fun q h => absurd h List.not_mem_nil)⟩)⟩)⟩)⟩)⟩)⟩)⟩)⟩) ?_
  refine L20 ((12 - 0 : Int).toNat + 1) s y (x * 12) 0 0 0 0 0 I F (by first | exact ⟨And.intro (p1.1) (p1.2), And.intro (oq_6b8c39bb p0.1) (oq_70eefe4f p0.2), And.intro (by decide) (by decide), And.intro (by decide) (by decide), And.intro (by decide) (by decide), And.intro (by decide) (by decide), by decide, by decide⟩ | omega) (Nat.lt_succ_self _) ?_
  intro s3 x4 x5 x6 x7 x8 Is3 Fs3 hs3
  have b9 : (0 : Int) ≤ iI s3 55 ∧ iI s3 55 ≤ 12 := Is3.1 55
  have b10 : (0 : Int) ≤ iI s3 56 ∧ iI s3 56 ≤ 66 := Is3.1 56
  refine z_const X (show cdA 3 106 = some (.iconst 0, 1, 0, 0, 0) from rfl) ?_
  refine z_store X (lv' := [(8, .int (Int32.ofInt 0)), (0, .ref (A 123)), (2, .int (Int32.ofInt y)), (3, .int (Int32.ofInt (x * 12))), (4, .int (Int32.ofInt x4)), (5, .int (Int32.ofInt x5)), (6, .int (Int32.ofInt x6)), (7, .int (Int32.ofInt x7))]) (show cdA 3 107 = some (.istore 8, 2, 0, 0, 0) from rfl) (by decide) (fun _ h => h) ?_
  refine WS_lv (lv := [(0, .ref (A 123)), (2, .int (Int32.ofInt y)), (3, .int (Int32.ofInt (x * 12))), (4, .int (Int32.ofInt x4)), (5, .int (Int32.ofInt x5)), (6, .int (Int32.ofInt x6)), (7, .int (Int32.ofInt x7)), (8, .int (Int32.ofInt 0))]) (List.forall_mem_cons.mpr ⟨(List.Mem.tail _ (List.Mem.head _)), (List.forall_mem_cons.mpr ⟨(List.Mem.tail _ (List.Mem.tail _ (List.Mem.head _))), (List.forall_mem_cons.mpr ⟨(List.Mem.tail _ (List.Mem.tail _ (List.Mem.tail _ (List.Mem.head _)))), (List.forall_mem_cons.mpr ⟨(List.Mem.tail _ (List.Mem.tail _ (List.Mem.tail _ (List.Mem.tail _ (List.Mem.head _))))), (List.forall_mem_cons.mpr ⟨(List.Mem.tail _ (List.Mem.tail _ (List.Mem.tail _ (List.Mem.tail _ (List.Mem.tail _ (List.Mem.head _)))))), (List.forall_mem_cons.mpr ⟨(List.Mem.tail _ (List.Mem.tail _ (List.Mem.tail _ (List.Mem.tail _ (List.Mem.tail _ (List.Mem.tail _ (List.Mem.head _))))))), (List.forall_mem_cons.mpr ⟨(List.Mem.tail _ (List.Mem.tail _ (List.Mem.tail _ (List.Mem.tail _ (List.Mem.tail _ (List.Mem.tail _ (List.Mem.tail _ (List.Mem.head _)))))))), (List.forall_mem_cons.mpr ⟨(List.Mem.head _), (fun q h => absurd h List.not_mem_nil)⟩)⟩)⟩)⟩)⟩)⟩)⟩)⟩) ?_
  refine L109 ((66 - 0 : Int).toNat + 1) s3 y (x * 12) x4 x5 x6 x7 0 Is3 Fs3 (by first | exact ⟨And.intro (hs3.1.1) (hs3.1.2), And.intro (hs3.2.1.1) (hs3.2.1.2), And.intro (hs3.2.2.1.1) (hs3.2.2.1.2), And.intro (hs3.2.2.2.1.1) (hs3.2.2.2.1.2), And.intro (hs3.2.2.2.2.1.1) (hs3.2.2.2.2.1.2), And.intro (hs3.2.2.2.2.2.1.1) (hs3.2.2.2.2.2.1.2), by decide, by decide⟩ | omega) (Nat.lt_succ_self _) ?_
  intro s11 x12 x13 Is11 Fs11 hs11
  have b14 : (0 : Int) ≤ iI s11 55 ∧ iI s11 55 ≤ 12 := Is11.1 55
  have b15 : (0 : Int) ≤ iI s11 56 ∧ iI s11 56 ≤ 66 := Is11.1 56
  refine z_aload_n X (x := A 123) (show cdA 3 196 = some (.aload_n 0, 1, 0, 0, 0) from rfl) (List.Mem.head _) ?_
  refine s_getR X 123 (show cdA 3 197 = some (.getfield 37, 3, 0, 11, 0) from rfl) (by decide) rfl rfl ?_
  refine z_const X (show cdA 3 200 = some (.iconst 0, 1, 0, 0, 0) from rfl) ?_
  refine z_load X (x := x4) (show cdA 3 201 = some (.iload 4, 2, 0, 0, 0) from rfl) (List.Mem.tail _ (List.Mem.tail _ (List.Mem.tail _ (List.Mem.head _)))) ?_
  refine z_ast X 131 (show cdA 3 203 = some (.iastore, 1, 0, 0, 0) from rfl) (by decide) rfl (by decide) (show 0 < 7 by decide) (by decide) ?_
  obtain ⟨s16, hs16⟩ : ∃ x0, x0 = uC s11 114 (0 : Int).toNat (Int32.ofInt x4) := ⟨_, rfl⟩
  rw [← hs16]
  have Is16 : Bd s16 := by rw [hs16]; exact bd_C Is11 (show ((-2147483648) : Int) ≤ x4 ∧ x4 ≤ 2147483647 by first | exact ⟨hs11.2.2.1.1, hs11.2.2.1.2⟩ | omega) ⟨by first | exact hs11.2.2.1.1 | omega, by first | exact hs11.2.2.1.2 | omega⟩
  have Fs16 := fm_C (i := (0 : Int).toNat) (x := Int32.ofInt x4) Fs11 (show 114 ∈ _ by decide)
  rw [← hs16] at Fs16
  have ws16_55 : iI s16 55 = iI s11 55 := by rw [hs16]; rfl
  have ws16_56 : iI s16 56 = iI s11 56 := by rw [hs16]; rfl
  refine z_aload_n X (x := A 123) (show cdA 3 204 = some (.aload_n 0, 1, 0, 0, 0) from rfl) (List.Mem.head _) ?_
  refine s_getR X 123 (show cdA 3 205 = some (.getfield 37, 3, 0, 11, 0) from rfl) (by decide) rfl rfl ?_
  refine z_const X (show cdA 3 208 = some (.iconst 1, 1, 0, 0, 0) from rfl) ?_
  refine z_load X (x := x12) (show cdA 3 209 = some (.iload 5, 2, 0, 0, 0) from rfl) (List.Mem.tail _ (List.Mem.tail _ (List.Mem.tail _ (List.Mem.tail _ (List.Mem.head _))))) ?_
  refine z_ast X 131 (show cdA 3 211 = some (.iastore, 1, 0, 0, 0) from rfl) (by decide) rfl (by decide) (show 1 < 7 by decide) (by decide) ?_
  obtain ⟨s17, hs17⟩ : ∃ x0, x0 = uC s16 114 (1 : Int).toNat (Int32.ofInt x12) := ⟨_, rfl⟩
  rw [← hs17]
  have Is17 : Bd s17 := by rw [hs17]; exact bd_C Is16 (show ((-2147483648) : Int) ≤ x12 ∧ x12 ≤ 2147483647 by first | exact ⟨hs11.2.2.2.1.1, hs11.2.2.2.1.2⟩ | omega) ⟨by first | exact hs11.2.2.2.1.1 | omega, by first | exact hs11.2.2.2.1.2 | omega⟩
  have Fs17 := fm_C (i := (1 : Int).toNat) (x := Int32.ofInt x12) Fs16 (show 114 ∈ _ by decide)
  rw [← hs17] at Fs17
  have ws17_55 : iI s17 55 = iI s16 55 := by rw [hs17]; rfl
  have ws17_56 : iI s17 56 = iI s16 56 := by rw [hs17]; rfl
  refine z_aload_n X (x := A 123) (show cdA 3 212 = some (.aload_n 0, 1, 0, 0, 0) from rfl) (List.Mem.head _) ?_
  refine s_getR X 123 (show cdA 3 213 = some (.getfield 37, 3, 0, 11, 0) from rfl) (by decide) rfl rfl ?_
  refine z_const X (show cdA 3 216 = some (.iconst 2, 1, 0, 0, 0) from rfl) ?_
  refine z_load X (x := x6) (show cdA 3 217 = some (.iload 6, 2, 0, 0, 0) from rfl) (List.Mem.tail _ (List.Mem.tail _ (List.Mem.tail _ (List.Mem.tail _ (List.Mem.tail _ (List.Mem.head _)))))) ?_
  refine z_ast X 131 (show cdA 3 219 = some (.iastore, 1, 0, 0, 0) from rfl) (by decide) rfl (by decide) (show 2 < 7 by decide) (by decide) ?_
  obtain ⟨s18, hs18⟩ : ∃ x0, x0 = uC s17 114 (2 : Int).toNat (Int32.ofInt x6) := ⟨_, rfl⟩
  rw [← hs18]
  have Is18 : Bd s18 := by rw [hs18]; exact bd_C Is17 (show ((-2147483648) : Int) ≤ x6 ∧ x6 ≤ 2147483647 by first | exact ⟨hs11.2.2.2.2.1.1, hs11.2.2.2.2.1.2⟩ | omega) ⟨by first | exact hs11.2.2.2.2.1.1 | omega, by first | exact hs11.2.2.2.2.1.2 | omega⟩
  have Fs18 := fm_C (i := (2 : Int).toNat) (x := Int32.ofInt x6) Fs17 (show 114 ∈ _ by decide)
  rw [← hs18] at Fs18
  have ws18_55 : iI s18 55 = iI s17 55 := by rw [hs18]; rfl
  have ws18_56 : iI s18 56 = iI s17 56 := by rw [hs18]; rfl
  refine z_aload_n X (x := A 123) (show cdA 3 220 = some (.aload_n 0, 1, 0, 0, 0) from rfl) (List.Mem.head _) ?_
  refine s_getR X 123 (show cdA 3 221 = some (.getfield 37, 3, 0, 11, 0) from rfl) (by decide) rfl rfl ?_
  refine z_const X (show cdA 3 224 = some (.iconst 3, 1, 0, 0, 0) from rfl) ?_
  refine z_load X (x := x7) (show cdA 3 225 = some (.iload 7, 2, 0, 0, 0) from rfl) (List.Mem.tail _ (List.Mem.tail _ (List.Mem.tail _ (List.Mem.tail _ (List.Mem.tail _ (List.Mem.tail _ (List.Mem.head _))))))) ?_
  refine z_ast X 131 (show cdA 3 227 = some (.iastore, 1, 0, 0, 0) from rfl) (by decide) rfl (by decide) (show 3 < 7 by decide) (by decide) ?_
  obtain ⟨s19, hs19⟩ : ∃ x0, x0 = uC s18 114 (3 : Int).toNat (Int32.ofInt x7) := ⟨_, rfl⟩
  rw [← hs19]
  have Is19 : Bd s19 := by rw [hs19]; exact bd_C Is18 (show ((-2147483648) : Int) ≤ x7 ∧ x7 ≤ 2147483647 by first | exact ⟨hs11.2.2.2.2.2.1.1, hs11.2.2.2.2.2.1.2⟩ | omega) ⟨by first | exact hs11.2.2.2.2.2.1.1 | omega, by first | exact hs11.2.2.2.2.2.1.2 | omega⟩
  have Fs19 := fm_C (i := (3 : Int).toNat) (x := Int32.ofInt x7) Fs18 (show 114 ∈ _ by decide)
  rw [← hs19] at Fs19
  have ws19_55 : iI s19 55 = iI s18 55 := by rw [hs19]; rfl
  have ws19_56 : iI s19 56 = iI s18 56 := by rw [hs19]; rfl
  exact w_vret X.1 q hRt (ax_d X (show cdA 3 228 = some (.return_, 1, 0, 0, 0) from rfl)) (Nat.zero_le _) (Nat.zero_le _) ⟨_, rfl, Is19, Fs19, rfl, trivial⟩
set_option maxRecDepth 4000 in
theorem c7_work_123 (G : GX l s0 D tys a0 dT) (I : Bd s) {x : Int} (p0 : -1 ≤ x ∧ x ≤ 7) : CT l s0 D A dT 84 (rmN 84) [.ref (A 19), .int (Int32.ofInt x), .ref (A 131)] s (fun o t => Bd t ∧ Fm [] [20] s t ∧ ∃ e, o = .inl (some (.int (Int32.ofInt e))) ∧ rng e ∧ (True)) := by
  refine ct_ofX G (by decide) (Nat.le_of_ble_eq_true rfl) (fun k X E ET hRt hXt q => ?_)
  show WS k 0 [(0, .ref (A 19)), (1, .int (Int32.ofInt x)), (2, .ref (A 131))] [] _ 0 0
  have F : Fm [] [20] s s := fm_rf _ _ s
  have L28 : ∀ (n : Nat) (t : PS) (xv dp c : Int), Bd t → Fm [] [20] s t → ((0 ≤ xv ∧ xv ≤ 7) ∧ (0 ≤ dp ∧ dp ≤ 200) ∧ 0 ≤ c ∧ c ≤ 200) → (200 - c : Int).toNat < n → (∀ (t' : PS) (dp' c' : Int), Bd t' → Fm [] [20] s t' → ((0 ≤ xv ∧ xv ≤ 7) ∧ (0 ≤ dp' ∧ dp' ≤ 200) ∧ 0 ≤ c' ∧ c' ≤ 200) → WS k 163 [(0, .ref (A 19)), (2, .ref (A 131)), (1, .int (Int32.ofInt xv)), (3, .int (Int32.ofInt dp')), (4, .int (Int32.ofInt c'))] [] (Wd A dT t') 0 0) → WS k 28 [(0, .ref (A 19)), (2, .ref (A 131)), (1, .int (Int32.ofInt xv)), (3, .int (Int32.ofInt dp)), (4, .int (Int32.ofInt c))] [] (Wd A dT t) 0 0 := by
    intro n
    induction n with
    | zero =>
      intro t xv dp c I F hi hm kx
      exact absurd hm (Nat.not_lt_zero _)
    | succ n ih =>
      intro t xv dp c I F hi hm kx
      refine z_load X (x := c) (show cdA 84 28 = some (.iload 4, 2, 0, 0, 0) from rfl) (List.Mem.tail _ (List.Mem.tail _ (List.Mem.tail _ (List.Mem.tail _ (List.Mem.head _))))) ?_
      refine z_aload_n X (x := A 19) (show cdA 84 30 = some (.aload_n 0, 1, 0, 0, 0) from rfl) (List.Mem.head _) ?_
      refine s_getR X 19 (show cdA 84 31 = some (.getfield 15, 3, 7, 2, 0) from rfl) (by decide) rfl rfl ?_
      refine z_load_n X (x := xv) (show cdA 84 34 = some (.iload_n 1, 1, 0, 0, 0) from rfl) (List.Mem.tail _ (List.Mem.tail _ (List.Mem.head _))) ?_
      refine z_ald X 21 (show cdA 84 35 = some (.iaload, 1, 0, 0, 0) from rfl) (by decide) rfl (by first | exact hi.1.1 | omega) (show xv < 8 by first | exact oq_aaea290e hi.1.2 | omega) (by decide) ?_
      have b1001 : (0 : Int) ≤ iC t 17 (xv).toNat ∧ iC t 17 (xv).toNat ≤ 200 := I.2 17 _ (show (xv).toNat < 8 by first | exact oq_c19a3aae hi.1.2 | omega)
      refine z_icmp_ge X (t := 163) (show cdA 84 36 = some (.if_icmp .ge 127, 3, 3, 0, 0) from rfl) (by decide) ⟨by first | exact oq_fa4e5087 hi.2.2.1 | omega, by first | exact oq_52af2b96 hi.2.2.2 | omega⟩ (rng_to _) (fun g1002 => ?_) (fun g1002 => ?_)
      ·
        refine WS_lv (lv := [(0, .ref (A 19)), (2, .ref (A 131)), (1, .int (Int32.ofInt xv)), (3, .int (Int32.ofInt dp)), (4, .int (Int32.ofInt c))]) (List.forall_mem_cons.mpr ⟨(List.Mem.head _), (List.forall_mem_cons.mpr ⟨(List.Mem.tail _ (List.Mem.head _)), (List.forall_mem_cons.mpr ⟨(List.Mem.tail _ (List.Mem.tail _ (List.Mem.head _))), (List.forall_mem_cons.mpr ⟨(List.Mem.tail _ (List.Mem.tail _ (List.Mem.tail _ (List.Mem.head _)))), (List.forall_mem_cons.mpr ⟨(List.Mem.tail _ (List.Mem.tail _ (List.Mem.tail _ (List.Mem.tail _ (List.Mem.head _))))), (fun q h => absurd h List.not_mem_nil)⟩)⟩)⟩)⟩)⟩) ?_
        exact kx _ dp c I F (by first | exact ⟨And.intro (hi.1.1) (hi.1.2), And.intro (hi.2.1.1) (hi.2.1.2), hi.2.2.1, hi.2.2.2⟩ | omega)
      ·
        refine z_aload_n X (x := A 19) (show cdA 84 39 = some (.aload_n 0, 1, 0, 0, 0) from rfl) (List.Mem.head _) ?_
        refine s_getR X 19 (show cdA 84 40 = some (.getfield 11, 3, 7, 1, 0) from rfl) (by decide) rfl rfl ?_
        refine z_load X (x := c) (show cdA 84 43 = some (.iload 4, 2, 0, 0, 0) from rfl) (List.Mem.tail _ (List.Mem.tail _ (List.Mem.tail _ (List.Mem.tail _ (List.Mem.head _))))) ?_
        refine z_ald X 20 (show cdA 84 45 = some (.iaload, 1, 0, 0, 0) from rfl) (by decide) rfl (by first | exact hi.2.2.1 | omega) (show c < 200 by first | exact oq_6fca3d72 g1002 b1001.2 | omega) (by decide) ?_
        have b1003 : ((-2147483648) : Int) ≤ iC t 16 (c).toNat ∧ iC t 16 (c).toNat ≤ 2147483647 := I.2 16 _ (show (c).toNat < 200 by first | exact oq_b70289d5 g1002 b1001.2 | omega)
        refine z_store X (lv' := [(5, .int (Int32.ofInt (iC t 16 (c).toNat))), (0, .ref (A 19)), (2, .ref (A 131)), (1, .int (Int32.ofInt xv)), (3, .int (Int32.ofInt dp)), (4, .int (Int32.ofInt c))]) (show cdA 84 46 = some (.istore 5, 2, 0, 0, 0) from rfl) (by decide) (fun _ h => h) ?_
        refine z_load X (x := (iC t 16 (c).toNat)) (show cdA 84 48 = some (.iload 5, 2, 0, 0, 0) from rfl) (List.Mem.head _) ?_
        refine z_bipush X (show cdA 84 50 = some (.bipush (-8), 2, 0, 0, (-8)) from rfl) ?_
        refine z_icmp_le X (t := 90) (show cdA 84 52 = some (.if_icmp .le 38, 3, 5, 0, 0) from rfl) (by decide) (rng_to _) (by decide) (fun g1004 => ?_) (fun g1004 => ?_)
        ·
          refine z_load X (x := (iC t 16 (c).toNat)) (show cdA 84 90 = some (.iload 5, 2, 0, 0, 0) from rfl) (List.Mem.head _) ?_
          refine z_bipush X (show cdA 84 92 = some (.bipush (-8), 2, 0, 0, (-8)) from rfl) ?_
          refine z_icmp_ne X (t := 122) (show cdA 84 94 = some (.if_icmp .ne 28, 3, 1, 0, 0) from rfl) (by decide) (rng_to _) (by decide) (fun g1005 => ?_) (fun g1005 => ?_)
          ·
            refine z_load_n X (x := dp) (show cdA 84 122 = some (.iload_n 3, 1, 0, 0, 0) from rfl) (List.Mem.tail _ (List.Mem.tail _ (List.Mem.tail _ (List.Mem.tail _ (List.Mem.head _))))) ?_
            refine z_const X (show cdA 84 123 = some (.iconst 1, 1, 0, 0, 0) from rfl) ?_
            refine z_icmp_le X (t := 157) (show cdA 84 124 = some (.if_icmp .le 33, 3, 5, 0, 0) from rfl) (by decide) ⟨by first | exact oq_fa4e5087 hi.2.1.1 | omega, by first | exact oq_52af2b96 hi.2.1.2 | omega⟩ (by decide) (fun g1006 => ?_) (fun g1006 => ?_)
            ·
              refine z_inc X (x := c) (lv' := [(4, .int (Int32.ofInt (c + 1))), (5, .int (Int32.ofInt (iC t 16 (c).toNat))), (0, .ref (A 19)), (2, .ref (A 131)), (1, .int (Int32.ofInt xv)), (3, .int (Int32.ofInt dp))]) (show cdA 84 157 = some (.iinc 4 1, 3, 0, 0, 0) from rfl) (by decide) (List.Mem.tail _ (List.Mem.tail _ (List.Mem.tail _ (List.Mem.tail _ (List.Mem.tail _ (List.Mem.head _)))))) (fun _ h => h) ?_
              refine z_goto X (t := 28) (show cdA 84 160 = some (.goto (-132), 3, 0, 0, 0) from rfl) (by decide) ?_
              refine WS_lv (lv := [(0, .ref (A 19)), (2, .ref (A 131)), (1, .int (Int32.ofInt xv)), (3, .int (Int32.ofInt dp)), (4, .int (Int32.ofInt (c + 1)))]) (List.forall_mem_cons.mpr ⟨(List.Mem.tail _ (List.Mem.tail _ (List.Mem.head _))), (List.forall_mem_cons.mpr ⟨(List.Mem.tail _ (List.Mem.tail _ (List.Mem.tail _ (List.Mem.head _)))), (List.forall_mem_cons.mpr ⟨(List.Mem.tail _ (List.Mem.tail _ (List.Mem.tail _ (List.Mem.tail _ (List.Mem.head _))))), (List.forall_mem_cons.mpr ⟨(List.Mem.tail _ (List.Mem.tail _ (List.Mem.tail _ (List.Mem.tail _ (List.Mem.tail _ (List.Mem.head _)))))), (List.forall_mem_cons.mpr ⟨(List.Mem.head _), (fun q h => absurd h List.not_mem_nil)⟩)⟩)⟩)⟩)⟩) ?_
              exact ih _ xv dp (c + 1) I F (by first | exact ⟨And.intro (hi.1.1) (hi.1.2), And.intro (hi.2.1.1) (hi.2.1.2), oq_54f49eb5 hi.2.2.1, oq_228270fa g1002 b1001.2⟩ | omega) (by first | exact qk_me hm (by decide) (oq_b0a4f3e2 g1002 b1001.2) | omega) kx
            ·
              refine z_inc X (x := dp) (lv' := [(3, .int (Int32.ofInt (dp + (-1)))), (5, .int (Int32.ofInt (iC t 16 (c).toNat))), (0, .ref (A 19)), (2, .ref (A 131)), (1, .int (Int32.ofInt xv)), (4, .int (Int32.ofInt c))]) (show cdA 84 127 = some (.iinc 3 (-1), 3, 0, 0, 0) from rfl) (by decide) (List.Mem.tail _ (List.Mem.tail _ (List.Mem.tail _ (List.Mem.tail _ (List.Mem.head _))))) (fun _ h => h) ?_
              refine z_aload_n X (x := A 19) (show cdA 84 130 = some (.aload_n 0, 1, 0, 0, 0) from rfl) (List.Mem.tail _ (List.Mem.tail _ (List.Mem.head _))) ?_
              refine s_getR X 19 (show cdA 84 131 = some (.getfield 28, 3, 7, 13, 0) from rfl) (by decide) rfl rfl ?_
              refine z_load_n X (x := (dp + (-1))) (show cdA 84 134 = some (.iload_n 3, 1, 0, 0, 0) from rfl) (List.Mem.head _) ?_
              refine z_const X (show cdA 84 135 = some (.iconst 1, 1, 0, 0, 0) from rfl) ?_
              refine z_sub X (show cdA 84 136 = some (.isub, 1, 0, 0, 0) from rfl) ?_
              refine z_load X (x := (iC t 16 (c).toNat)) (show cdA 84 137 = some (.iload 5, 2, 0, 0, 0) from rfl) (List.Mem.tail _ (List.Mem.head _)) ?_
              refine z_aload_n X (x := A 19) (show cdA 84 139 = some (.aload_n 0, 1, 0, 0, 0) from rfl) (List.Mem.tail _ (List.Mem.tail _ (List.Mem.head _))) ?_
              refine s_getR X 19 (show cdA 84 140 = some (.getfield 28, 3, 7, 13, 0) from rfl) (by decide) rfl rfl ?_
              refine z_load_n X (x := (dp + (-1))) (show cdA 84 143 = some (.iload_n 3, 1, 0, 0, 0) from rfl) (List.Mem.head _) ?_
              refine z_const X (show cdA 84 144 = some (.iconst 1, 1, 0, 0, 0) from rfl) ?_
              refine z_sub X (show cdA 84 145 = some (.isub, 1, 0, 0, 0) from rfl) ?_
              refine z_ald X 24 (show cdA 84 146 = some (.iaload, 1, 0, 0, 0) from rfl) (by decide) rfl (by first | exact oq_d588e9be g1006 | omega) (show ((dp + (-1)) - 1) < 200 by first | exact oq_f9b4958f hi.2.1.2 | omega) (by decide) ?_
              have b1007 : ((-2147483648) : Int) ≤ iC t 20 (((dp + (-1)) - 1)).toNat ∧ iC t 20 (((dp + (-1)) - 1)).toNat ≤ 2147483647 := I.2 20 _ (show (((dp + (-1)) - 1)).toNat < 200 by first | exact oq_ab8c951f hi.2.1.2 | omega)
              refine z_aload_n X (x := A 19) (show cdA 84 147 = some (.aload_n 0, 1, 0, 0, 0) from rfl) (List.Mem.tail _ (List.Mem.tail _ (List.Mem.head _))) ?_
              refine s_getR X 19 (show cdA 84 148 = some (.getfield 28, 3, 7, 13, 0) from rfl) (by decide) rfl rfl ?_
              refine z_load_n X (x := (dp + (-1))) (show cdA 84 151 = some (.iload_n 3, 1, 0, 0, 0) from rfl) (List.Mem.head _) ?_
              refine z_ald X 24 (show cdA 84 152 = some (.iaload, 1, 0, 0, 0) from rfl) (by decide) rfl (by first | exact oq_6c14892a g1006 | omega) (show (dp + (-1)) < 200 by first | exact oq_2dcece94 hi.2.1.2 | omega) (by decide) ?_
              have b1008 : ((-2147483648) : Int) ≤ iC t 20 ((dp + (-1))).toNat ∧ iC t 20 ((dp + (-1))).toNat ≤ 2147483647 := I.2 20 _ (show ((dp + (-1))).toNat < 200 by first | exact oq_323b4624 hi.2.1.2 | omega)
              refine z_callS X (rm := rmN 85) (As := [.int (Int32.ofInt (iC t 16 (c).toNat)), .int (Int32.ofInt (iC t 20 (((dp + (-1)) - 1)).toNat)), .int (Int32.ofInt (iC t 20 ((dp + (-1))).toNat))]) (st := [.int (Int32.ofInt ((dp + (-1)) - 1)), .ref (A 24)]) (show cdA 84 153 = some (.invokestatic 154, 3, 85, 1, 0) from rfl) rfl (by rw [E.1, E.2.1, E.2.2.1]; exact c7_joined G I (by first | exact ⟨b1003.1, b1003.2⟩ | omega) (by first | exact ⟨b1007.1, b1007.2⟩ | omega) (by first | exact ⟨b1008.1, b1008.2⟩ | omega)) ⟨by rw [E.2.2.2]; exact (show (rmN 85).frames + 1 ≤ (rmN 84).frames by decide), by rw [E.2.2.2]; exact (show 8 + (mNL (miB 85) + 11) + (rmN 85).locals ≤ (rmN 84).locals by decide), by rw [E.2.2.2]; exact (show 0 + (rmN 85).cells ≤ (rmN 84).cells by decide), by rw [E.2.2.2]; exact (show 0 + (rmN 85).slots ≤ (rmN 84).slots by decide)⟩ (Nat.le_of_ble_eq_true rfl) (fun vv s1009 hq => ?_) (fun ee s1009 hq => ?_)
              rotate_left
              · obtain ⟨rfl, e1010, hv, hrs1009, hps1009⟩ := hq; cases hv
              obtain ⟨rfl, e1010, hv, hrs1009, hps1009⟩ := hq
              cases hv
              show WS k 156 [(3, .int (Int32.ofInt (dp + (-1)))), (5, .int (Int32.ofInt (iC t 16 (c).toNat))), (0, .ref (A 19)), (2, .ref (A 131)), (1, .int (Int32.ofInt xv)), (4, .int (Int32.ofInt c))] [.int (Int32.ofInt e1010), .int (Int32.ofInt ((dp + (-1)) - 1)), .ref (A 24)] (Wd A dT t) 0 0
              refine z_ast X 24 (show cdA 84 156 = some (.iastore, 1, 0, 0, 0) from rfl) (by decide) rfl (by first | exact oq_d588e9be g1006 | omega) (show ((dp + (-1)) - 1) < 200 by first | exact oq_f9b4958f hi.2.1.2 | omega) (by decide) ?_
              obtain ⟨s1011, hs1011⟩ : ∃ x0, x0 = uC t 20 (((dp + (-1)) - 1)).toNat (Int32.ofInt e1010) := ⟨_, rfl⟩
              rw [← hs1011]
              have Is1011 : Bd s1011 := by rw [hs1011]; exact bd_C I (show ((-2147483648) : Int) ≤ e1010 ∧ e1010 ≤ 2147483647 by first | exact ⟨hps1009.1, hps1009.2⟩ | omega) hrs1009
              have Fs1011 := fm_C (i := (((dp + (-1)) - 1)).toNat) (x := Int32.ofInt e1010) F (show 20 ∈ _ by decide)
              rw [← hs1011] at Fs1011
              refine z_inc X (x := c) (lv' := [(4, .int (Int32.ofInt (c + 1))), (3, .int (Int32.ofInt (dp + (-1)))), (5, .int (Int32.ofInt (iC t 16 (c).toNat))), (0, .ref (A 19)), (2, .ref (A 131)), (1, .int (Int32.ofInt xv))]) (show cdA 84 157 = some (.iinc 4 1, 3, 0, 0, 0) from rfl) (by decide) (List.Mem.tail _ (List.Mem.tail _ (List.Mem.tail _ (List.Mem.tail _ (List.Mem.tail _ (List.Mem.head _)))))) (fun _ h => h) ?_
              refine z_goto X (t := 28) (show cdA 84 160 = some (.goto (-132), 3, 0, 0, 0) from rfl) (by decide) ?_
              refine WS_lv (lv := [(0, .ref (A 19)), (2, .ref (A 131)), (1, .int (Int32.ofInt xv)), (3, .int (Int32.ofInt (dp + (-1)))), (4, .int (Int32.ofInt (c + 1)))]) (List.forall_mem_cons.mpr ⟨(List.Mem.tail _ (List.Mem.tail _ (List.Mem.tail _ (List.Mem.head _)))), (List.forall_mem_cons.mpr ⟨(List.Mem.tail _ (List.Mem.tail _ (List.Mem.tail _ (List.Mem.tail _ (List.Mem.head _))))), (List.forall_mem_cons.mpr ⟨(List.Mem.tail _ (List.Mem.tail _ (List.Mem.tail _ (List.Mem.tail _ (List.Mem.tail _ (List.Mem.head _)))))), (List.forall_mem_cons.mpr ⟨(List.Mem.tail _ (List.Mem.head _)), (List.forall_mem_cons.mpr ⟨(List.Mem.head _), (fun q h => absurd h List.not_mem_nil)⟩)⟩)⟩)⟩)⟩) ?_
              exact ih _ xv (dp + (-1)) (c + 1) Is1011 Fs1011 (by first | exact ⟨And.intro (hi.1.1) (hi.1.2), And.intro (oq_6c14892a g1006) (oq_af76c38b hi.2.1.2), oq_54f49eb5 hi.2.2.1, oq_228270fa g1002 b1001.2⟩ | omega) (by first | exact qk_me hm (by decide) (oq_b0a4f3e2 g1002 b1001.2) | omega) kx
          ·
            refine z_load_n X (x := dp) (show cdA 84 97 = some (.iload_n 3, 1, 0, 0, 0) from rfl) (List.Mem.tail _ (List.Mem.tail _ (List.Mem.tail _ (List.Mem.tail _ (List.Mem.head _))))) ?_
            refine z_if_le X (t := 157) (show cdA 84 98 = some (.ifCond .le 59, 3, 5, 0, 0) from rfl) (by decide) ⟨by first | exact oq_fa4e5087 hi.2.1.1 | omega, by first | exact oq_52af2b96 hi.2.1.2 | omega⟩ (fun g1012 => ?_) (fun g1012 => ?_)
            ·
              refine z_inc X (x := c) (lv' := [(4, .int (Int32.ofInt (c + 1))), (5, .int (Int32.ofInt (iC t 16 (c).toNat))), (0, .ref (A 19)), (2, .ref (A 131)), (1, .int (Int32.ofInt xv)), (3, .int (Int32.ofInt dp))]) (show cdA 84 157 = some (.iinc 4 1, 3, 0, 0, 0) from rfl) (by decide) (List.Mem.tail _ (List.Mem.tail _ (List.Mem.tail _ (List.Mem.tail _ (List.Mem.tail _ (List.Mem.head _)))))) (fun _ h => h) ?_
              refine z_goto X (t := 28) (show cdA 84 160 = some (.goto (-132), 3, 0, 0, 0) from rfl) (by decide) ?_
              refine WS_lv (lv := [(0, .ref (A 19)), (2, .ref (A 131)), (1, .int (Int32.ofInt xv)), (3, .int (Int32.ofInt dp)), (4, .int (Int32.ofInt (c + 1)))]) (List.forall_mem_cons.mpr ⟨(List.Mem.tail _ (List.Mem.tail _ (List.Mem.head _))), (List.forall_mem_cons.mpr ⟨(List.Mem.tail _ (List.Mem.tail _ (List.Mem.tail _ (List.Mem.head _)))), (List.forall_mem_cons.mpr ⟨(List.Mem.tail _ (List.Mem.tail _ (List.Mem.tail _ (List.Mem.tail _ (List.Mem.head _))))), (List.forall_mem_cons.mpr ⟨(List.Mem.tail _ (List.Mem.tail _ (List.Mem.tail _ (List.Mem.tail _ (List.Mem.tail _ (List.Mem.head _)))))), (List.forall_mem_cons.mpr ⟨(List.Mem.head _), (fun q h => absurd h List.not_mem_nil)⟩)⟩)⟩)⟩)⟩) ?_
              exact ih _ xv dp (c + 1) I F (by first | exact ⟨And.intro (hi.1.1) (hi.1.2), And.intro (hi.2.1.1) (hi.2.1.2), oq_54f49eb5 hi.2.2.1, oq_228270fa g1002 b1001.2⟩ | omega) (by first | exact qk_me hm (by decide) (oq_b0a4f3e2 g1002 b1001.2) | omega) kx
            ·
              refine z_aload_n X (x := A 19) (show cdA 84 101 = some (.aload_n 0, 1, 0, 0, 0) from rfl) (List.Mem.tail _ (List.Mem.head _)) ?_
              refine s_getR X 19 (show cdA 84 102 = some (.getfield 28, 3, 7, 13, 0) from rfl) (by decide) rfl rfl ?_
              refine z_load_n X (x := dp) (show cdA 84 105 = some (.iload_n 3, 1, 0, 0, 0) from rfl) (List.Mem.tail _ (List.Mem.tail _ (List.Mem.tail _ (List.Mem.tail _ (List.Mem.head _))))) ?_
              refine z_const X (show cdA 84 106 = some (.iconst 1, 1, 0, 0, 0) from rfl) ?_
              refine z_sub X (show cdA 84 107 = some (.isub, 1, 0, 0, 0) from rfl) ?_
              refine z_const X (show cdA 84 108 = some (.iconst 1, 1, 0, 0, 0) from rfl) ?_
              refine z_aload_n X (x := A 19) (show cdA 84 109 = some (.aload_n 0, 1, 0, 0, 0) from rfl) (List.Mem.tail _ (List.Mem.head _)) ?_
              refine s_getR X 19 (show cdA 84 110 = some (.getfield 28, 3, 7, 13, 0) from rfl) (by decide) rfl rfl ?_
              refine z_load_n X (x := dp) (show cdA 84 113 = some (.iload_n 3, 1, 0, 0, 0) from rfl) (List.Mem.tail _ (List.Mem.tail _ (List.Mem.tail _ (List.Mem.tail _ (List.Mem.head _))))) ?_
              refine z_const X (show cdA 84 114 = some (.iconst 1, 1, 0, 0, 0) from rfl) ?_
              refine z_sub X (show cdA 84 115 = some (.isub, 1, 0, 0, 0) from rfl) ?_
              refine z_ald X 24 (show cdA 84 116 = some (.iaload, 1, 0, 0, 0) from rfl) (by decide) rfl (by first | exact oq_a4f22177 g1012 | omega) (show (dp - 1) < 200 by first | exact oq_76ad2bb2 hi.2.1.2 | omega) (by decide) ?_
              have b1013 : ((-2147483648) : Int) ≤ iC t 20 ((dp - 1)).toNat ∧ iC t 20 ((dp - 1)).toNat ≤ 2147483647 := I.2 20 _ (show ((dp - 1)).toNat < 200 by first | exact oq_a03494ec hi.2.1.2 | omega)
              refine z_sub X (show cdA 84 117 = some (.isub, 1, 0, 0, 0) from rfl) ?_
              refine z_any (fun y1014 hy1014 => ?_)
              refine z_ast X 24 (show cdA 84 118 = some (.iastore, 1, 0, 0, 0) from rfl) (by decide) rfl (by first | exact oq_a4f22177 g1012 | omega) (show (dp - 1) < 200 by first | exact oq_76ad2bb2 hi.2.1.2 | omega) (by decide) ?_
              obtain ⟨s1015, hs1015⟩ : ∃ x0, x0 = uC t 20 ((dp - 1)).toNat (Int32.ofInt y1014) := ⟨_, rfl⟩
              rw [← hs1015]
              have Is1015 : Bd s1015 := by rw [hs1015]; exact bd_C I (show ((-2147483648) : Int) ≤ y1014 ∧ y1014 ≤ 2147483647 by first | exact ⟨hy1014.1, hy1014.2⟩ | omega) hy1014
              have Fs1015 := fm_C (i := ((dp - 1)).toNat) (x := Int32.ofInt y1014) F (show 20 ∈ _ by decide)
              rw [← hs1015] at Fs1015
              refine z_goto X (t := 157) (show cdA 84 119 = some (.goto 38, 3, 0, 0, 0) from rfl) (by decide) ?_
              refine z_inc X (x := c) (lv' := [(4, .int (Int32.ofInt (c + 1))), (5, .int (Int32.ofInt (iC t 16 (c).toNat))), (0, .ref (A 19)), (2, .ref (A 131)), (1, .int (Int32.ofInt xv)), (3, .int (Int32.ofInt dp))]) (show cdA 84 157 = some (.iinc 4 1, 3, 0, 0, 0) from rfl) (by decide) (List.Mem.tail _ (List.Mem.tail _ (List.Mem.tail _ (List.Mem.tail _ (List.Mem.tail _ (List.Mem.head _)))))) (fun _ h => h) ?_
              refine z_goto X (t := 28) (show cdA 84 160 = some (.goto (-132), 3, 0, 0, 0) from rfl) (by decide) ?_
              refine WS_lv (lv := [(0, .ref (A 19)), (2, .ref (A 131)), (1, .int (Int32.ofInt xv)), (3, .int (Int32.ofInt dp)), (4, .int (Int32.ofInt (c + 1)))]) (List.forall_mem_cons.mpr ⟨(List.Mem.tail _ (List.Mem.tail _ (List.Mem.head _))), (List.forall_mem_cons.mpr ⟨(List.Mem.tail _ (List.Mem.tail _ (List.Mem.tail _ (List.Mem.head _)))), (List.forall_mem_cons.mpr ⟨(List.Mem.tail _ (List.Mem.tail _ (List.Mem.tail _ (List.Mem.tail _ (List.Mem.head _))))), (List.forall_mem_cons.mpr ⟨(List.Mem.tail _ (List.Mem.tail _ (List.Mem.tail _ (List.Mem.tail _ (List.Mem.tail _ (List.Mem.head _)))))), (List.forall_mem_cons.mpr ⟨(List.Mem.head _), (fun q h => absurd h List.not_mem_nil)⟩)⟩)⟩)⟩)⟩) ?_
              exact ih _ xv dp (c + 1) Is1015 Fs1015 (by first | exact ⟨And.intro (hi.1.1) (hi.1.2), And.intro (hi.2.1.1) (hi.2.1.2), oq_54f49eb5 hi.2.2.1, oq_228270fa g1002 b1001.2⟩ | omega) (by first | exact qk_me hm (by decide) (oq_b0a4f3e2 g1002 b1001.2) | omega) kx
        ·
          refine z_load_n X (x := dp) (show cdA 84 55 = some (.iload_n 3, 1, 0, 0, 0) from rfl) (List.Mem.tail _ (List.Mem.tail _ (List.Mem.tail _ (List.Mem.tail _ (List.Mem.head _))))) ?_
          refine z_sipush X (show cdA 84 56 = some (.sipush 200, 3, 0, 0, 200) from rfl) ?_
          refine z_icmp_ge X (t := 157) (show cdA 84 59 = some (.if_icmp .ge 98, 3, 3, 0, 0) from rfl) (by decide) ⟨by first | exact oq_fa4e5087 hi.2.1.1 | omega, by first | exact oq_52af2b96 hi.2.1.2 | omega⟩ (by decide) (fun g1016 => ?_) (fun g1016 => ?_)
          ·
            refine z_inc X (x := c) (lv' := [(4, .int (Int32.ofInt (c + 1))), (5, .int (Int32.ofInt (iC t 16 (c).toNat))), (0, .ref (A 19)), (2, .ref (A 131)), (1, .int (Int32.ofInt xv)), (3, .int (Int32.ofInt dp))]) (show cdA 84 157 = some (.iinc 4 1, 3, 0, 0, 0) from rfl) (by decide) (List.Mem.tail _ (List.Mem.tail _ (List.Mem.tail _ (List.Mem.tail _ (List.Mem.tail _ (List.Mem.head _)))))) (fun _ h => h) ?_
            refine z_goto X (t := 28) (show cdA 84 160 = some (.goto (-132), 3, 0, 0, 0) from rfl) (by decide) ?_
            refine WS_lv (lv := [(0, .ref (A 19)), (2, .ref (A 131)), (1, .int (Int32.ofInt xv)), (3, .int (Int32.ofInt dp)), (4, .int (Int32.ofInt (c + 1)))]) (List.forall_mem_cons.mpr ⟨(List.Mem.tail _ (List.Mem.tail _ (List.Mem.head _))), (List.forall_mem_cons.mpr ⟨(List.Mem.tail _ (List.Mem.tail _ (List.Mem.tail _ (List.Mem.head _)))), (List.forall_mem_cons.mpr ⟨(List.Mem.tail _ (List.Mem.tail _ (List.Mem.tail _ (List.Mem.tail _ (List.Mem.head _))))), (List.forall_mem_cons.mpr ⟨(List.Mem.tail _ (List.Mem.tail _ (List.Mem.tail _ (List.Mem.tail _ (List.Mem.tail _ (List.Mem.head _)))))), (List.forall_mem_cons.mpr ⟨(List.Mem.head _), (fun q h => absurd h List.not_mem_nil)⟩)⟩)⟩)⟩)⟩) ?_
            exact ih _ xv dp (c + 1) I F (by first | exact ⟨And.intro (hi.1.1) (hi.1.2), And.intro (hi.2.1.1) (hi.2.1.2), oq_54f49eb5 hi.2.2.1, oq_228270fa g1002 b1001.2⟩ | omega) (by first | exact qk_me hm (by decide) (oq_b0a4f3e2 g1002 b1001.2) | omega) kx
          ·
            refine z_aload_n X (x := A 19) (show cdA 84 62 = some (.aload_n 0, 1, 0, 0, 0) from rfl) (List.Mem.tail _ (List.Mem.head _)) ?_
            refine s_getR X 19 (show cdA 84 63 = some (.getfield 28, 3, 7, 13, 0) from rfl) (by decide) rfl rfl ?_
            refine z_load_n X (x := dp) (show cdA 84 66 = some (.iload_n 3, 1, 0, 0, 0) from rfl) (List.Mem.tail _ (List.Mem.tail _ (List.Mem.tail _ (List.Mem.tail _ (List.Mem.head _))))) ?_
            refine z_load X (x := (iC t 16 (c).toNat)) (show cdA 84 67 = some (.iload 5, 2, 0, 0, 0) from rfl) (List.Mem.head _) ?_
            have N1017 : ∀ e1018 : Int, ((((iC t 16 (c).toNat) < 0) ∧ (((-2147483648) : Int) ≤ iC t 114 (((-1) - (iC t 16 (c).toNat))).toNat ∧ iC t 114 (((-1) - (iC t 16 (c).toNat))).toNat ≤ 2147483647) ∧ e1018 = (iC t 114 (((-1) - (iC t 16 (c).toNat))).toNat)) ∨ ((0 ≤ (iC t 16 (c).toNat)) ∧ e1018 = (iC t 16 (c).toNat))) → WS k 83 [(5, .int (Int32.ofInt (iC t 16 (c).toNat))), (0, .ref (A 19)), (2, .ref (A 131)), (1, .int (Int32.ofInt xv)), (3, .int (Int32.ofInt dp)), (4, .int (Int32.ofInt c))] [.int (Int32.ofInt e1018), .int (Int32.ofInt dp), .ref (A 24)] (Wd A dT t) 0 0 := by
              intro e1018 he1018
              refine z_ast X 24 (show cdA 84 83 = some (.iastore, 1, 0, 0, 0) from rfl) (by decide) rfl (by first | exact hi.2.1.1 | omega) (show dp < 200 by first | exact g1016 | omega) (by decide) ?_
              obtain ⟨s1019, hs1019⟩ : ∃ x0, x0 = uC t 20 (dp).toNat (Int32.ofInt e1018) := ⟨_, rfl⟩
              rw [← hs1019]
              have Is1019 : Bd s1019 := by rw [hs1019]; exact bd_C I (show ((-2147483648) : Int) ≤ e1018 ∧ e1018 ≤ 2147483647 by first | exact ⟨oq_05aece2f he1018, oq_93cedf2b he1018 b1003.2⟩ | omega) ⟨by first | exact oq_05aece2f he1018 | omega, by first | exact oq_93cedf2b he1018 b1003.2 | omega⟩
              have Fs1019 := fm_C (i := (dp).toNat) (x := Int32.ofInt e1018) F (show 20 ∈ _ by decide)
              rw [← hs1019] at Fs1019
              refine z_inc X (x := dp) (lv' := [(3, .int (Int32.ofInt (dp + 1))), (5, .int (Int32.ofInt (iC t 16 (c).toNat))), (0, .ref (A 19)), (2, .ref (A 131)), (1, .int (Int32.ofInt xv)), (4, .int (Int32.ofInt c))]) (show cdA 84 84 = some (.iinc 3 1, 3, 0, 0, 0) from rfl) (by decide) (List.Mem.tail _ (List.Mem.tail _ (List.Mem.tail _ (List.Mem.tail _ (List.Mem.head _))))) (fun _ h => h) ?_
              refine z_goto X (t := 157) (show cdA 84 87 = some (.goto 70, 3, 0, 0, 0) from rfl) (by decide) ?_
              refine z_inc X (x := c) (lv' := [(4, .int (Int32.ofInt (c + 1))), (3, .int (Int32.ofInt (dp + 1))), (5, .int (Int32.ofInt (iC t 16 (c).toNat))), (0, .ref (A 19)), (2, .ref (A 131)), (1, .int (Int32.ofInt xv))]) (show cdA 84 157 = some (.iinc 4 1, 3, 0, 0, 0) from rfl) (by decide) (List.Mem.tail _ (List.Mem.tail _ (List.Mem.tail _ (List.Mem.tail _ (List.Mem.tail _ (List.Mem.head _)))))) (fun _ h => h) ?_
              refine z_goto X (t := 28) (show cdA 84 160 = some (.goto (-132), 3, 0, 0, 0) from rfl) (by decide) ?_
              refine WS_lv (lv := [(0, .ref (A 19)), (2, .ref (A 131)), (1, .int (Int32.ofInt xv)), (3, .int (Int32.ofInt (dp + 1))), (4, .int (Int32.ofInt (c + 1)))]) (List.forall_mem_cons.mpr ⟨(List.Mem.tail _ (List.Mem.tail _ (List.Mem.tail _ (List.Mem.head _)))), (List.forall_mem_cons.mpr ⟨(List.Mem.tail _ (List.Mem.tail _ (List.Mem.tail _ (List.Mem.tail _ (List.Mem.head _))))), (List.forall_mem_cons.mpr ⟨(List.Mem.tail _ (List.Mem.tail _ (List.Mem.tail _ (List.Mem.tail _ (List.Mem.tail _ (List.Mem.head _)))))), (List.forall_mem_cons.mpr ⟨(List.Mem.tail _ (List.Mem.head _)), (List.forall_mem_cons.mpr ⟨(List.Mem.head _), (fun q h => absurd h List.not_mem_nil)⟩)⟩)⟩)⟩)⟩) ?_
              exact ih _ xv (dp + 1) (c + 1) Is1019 Fs1019 (by first | exact ⟨And.intro (hi.1.1) (hi.1.2), And.intro (oq_54f49eb5 hi.2.1.1) (oq_0cb6ab8a g1016), oq_54f49eb5 hi.2.2.1, oq_228270fa g1002 b1001.2⟩ | omega) (by first | exact qk_me hm (by decide) (oq_b0a4f3e2 g1002 b1001.2) | omega) kx
            refine z_if_lt X (t := 77) (show cdA 84 69 = some (.ifCond .lt 8, 3, 2, 0, 0) from rfl) (by decide) (rng_to _) (fun g1020 => ?_) (fun g1020 => ?_)
            ·
              refine z_aload_n X (x := A 131) (show cdA 84 77 = some (.aload_n 2, 1, 0, 0, 0) from rfl) (List.Mem.tail _ (List.Mem.tail _ (List.Mem.head _))) ?_
              refine z_const X (show cdA 84 78 = some (.iconst (-1), 1, 0, 0, 0) from rfl) ?_
              refine z_load X (x := (iC t 16 (c).toNat)) (show cdA 84 79 = some (.iload 5, 2, 0, 0, 0) from rfl) (List.Mem.head _) ?_
              refine z_sub X (show cdA 84 81 = some (.isub, 1, 0, 0, 0) from rfl) ?_
              refine z_ald X 131 (show cdA 84 82 = some (.iaload, 1, 0, 0, 0) from rfl) (by decide) rfl (by first | exact oq_c38d07c4 g1020 | omega) (show ((-1) - (iC t 16 (c).toNat)) < 7 by first | exact oq_a1f4cde5 g1004 | omega) (by decide) ?_
              have b1021 : ((-2147483648) : Int) ≤ iC t 114 (((-1) - (iC t 16 (c).toNat))).toNat ∧ iC t 114 (((-1) - (iC t 16 (c).toNat))).toNat ≤ 2147483647 := I.2 114 _ (show (((-1) - (iC t 16 (c).toNat))).toNat < 7 by first | exact oq_91b916ba g1004 | omega)
              exact N1017 _ (Or.inl ⟨g1020, b1021, rfl⟩)
            ·
              refine z_load X (x := (iC t 16 (c).toNat)) (show cdA 84 72 = some (.iload 5, 2, 0, 0, 0) from rfl) (List.Mem.head _) ?_
              refine z_goto X (t := 83) (show cdA 84 74 = some (.goto 9, 3, 0, 0, 0) from rfl) (by decide) ?_
              exact N1017 _ (Or.inr (⟨g1020, rfl⟩))
  refine z_load_n X (x := x) (show cdA 84 0 = some (.iload_n 1, 1, 0, 0, 0) from rfl) (List.Mem.tail _ (List.Mem.head _)) ?_
  refine z_const X (show cdA 84 1 = some (.iconst (-1), 1, 0, 0, 0) from rfl) ?_
  refine z_icmp_ne X (t := 19) (show cdA 84 2 = some (.if_icmp .ne 17, 3, 1, 0, 0) from rfl) (by decide) ⟨by first | exact oq_97ee2c2a p0.1 | omega, by first | exact oq_0e78ca7d p0.2 | omega⟩ (by decide) (fun g1 => ?_) (fun g1 => ?_)
  ·
    refine z_const X (show cdA 84 19 = some (.iconst 0, 1, 0, 0, 0) from rfl) ?_
    refine z_store_n X (lv' := [(3, .int (Int32.ofInt 0)), (0, .ref (A 19)), (1, .int (Int32.ofInt x)), (2, .ref (A 131))]) (show cdA 84 20 = some (.istore_n 3, 1, 0, 0, 0) from rfl) (by decide) (fun _ h => h) ?_
    refine z_aload_n X (x := A 19) (show cdA 84 21 = some (.aload_n 0, 1, 0, 0, 0) from rfl) (List.Mem.tail _ (List.Mem.head _)) ?_
    refine z_load_n X (x := x) (show cdA 84 22 = some (.iload_n 1, 1, 0, 0, 0) from rfl) (List.Mem.tail _ (List.Mem.tail _ (List.Mem.head _))) ?_
    refine z_callV X 19 (rm := rmN 70) (As := [.int (Int32.ofInt x)]) (st := []) (show cdA 84 23 = some (.invokevirtual 70, 3, 70, 0, 0) from rfl) rfl (by decide) rfl (by rw [E.1, E.2.1, E.2.2.1]; exact c7_beginOf_19 G I (by first | exact ⟨oq_7a1025bf g1 p0.1, p0.2⟩ | omega)) ⟨by rw [E.2.2.2]; exact (show (rmN 70).frames + 1 ≤ (rmN 84).frames by decide), by rw [E.2.2.2]; exact (show 8 + (mNL (miB 70) + 11) + (rmN 70).locals ≤ (rmN 84).locals by decide), by rw [E.2.2.2]; exact (show 0 + (rmN 70).cells ≤ (rmN 84).cells by decide), by rw [E.2.2.2]; exact (show 0 + (rmN 70).slots ≤ (rmN 84).slots by decide)⟩ (Nat.le_of_ble_eq_true rfl) (fun vv s2 hq => ?_) (fun ee s2 hq => ?_)
    rotate_left
    · obtain ⟨Is2, Fs2, e3, hv, hrs2, hps2⟩ := hq; cases hv
    obtain ⟨Is2, Fs2, e3, hv, hrs2, hps2⟩ := hq
    cases hv
    have Gs2 := fm_ts F Fs2 (by decide) (by decide)
    show WS k 26 [(3, .int (Int32.ofInt 0)), (0, .ref (A 19)), (1, .int (Int32.ofInt x)), (2, .ref (A 131))] [.int (Int32.ofInt e3)] (Wd A dT s2) 0 0
    refine z_store X (lv' := [(4, .int (Int32.ofInt e3)), (3, .int (Int32.ofInt 0)), (0, .ref (A 19)), (1, .int (Int32.ofInt x)), (2, .ref (A 131))]) (show cdA 84 26 = some (.istore 4, 2, 0, 0, 0) from rfl) (by decide) (fun _ h => h) ?_
    refine WS_lv (lv := [(0, .ref (A 19)), (2, .ref (A 131)), (1, .int (Int32.ofInt x)), (3, .int (Int32.ofInt 0)), (4, .int (Int32.ofInt e3))]) (List.forall_mem_cons.mpr ⟨(List.Mem.tail _ (List.Mem.tail _ (List.Mem.head _))), (List.forall_mem_cons.mpr ⟨(List.Mem.tail _ (List.Mem.tail _ (List.Mem.tail _ (List.Mem.tail _ (List.Mem.head _))))), (List.forall_mem_cons.mpr ⟨(List.Mem.tail _ (List.Mem.tail _ (List.Mem.tail _ (List.Mem.head _)))), (List.forall_mem_cons.mpr ⟨(List.Mem.tail _ (List.Mem.head _)), (List.forall_mem_cons.mpr ⟨(List.Mem.head _), (fun q h => absurd h List.not_mem_nil)⟩)⟩)⟩)⟩)⟩) ?_
    refine L28 ((200 - e3 : Int).toNat + 1) s2 x 0 e3 Is2 Gs2 (by first | exact ⟨oq_b629d6d6 g1 p0.2 p0.1, And.intro (by decide) (by decide), hps2.1, hps2.2⟩ | omega) (Nat.lt_succ_self _) ?_
    intro s4 x5 x6 Is4 Fs4 hs4
    refine z_aload_n X (x := A 19) (show cdA 84 163 = some (.aload_n 0, 1, 0, 0, 0) from rfl) (List.Mem.head _) ?_
    refine s_getR X 19 (show cdA 84 164 = some (.getfield 28, 3, 7, 13, 0) from rfl) (by decide) rfl rfl ?_
    refine z_const X (show cdA 84 167 = some (.iconst 0, 1, 0, 0, 0) from rfl) ?_
    refine z_ald X 24 (show cdA 84 168 = some (.iaload, 1, 0, 0, 0) from rfl) (by decide) rfl (by decide) (show 0 < 200 by decide) (by decide) ?_
    have b7 : ((-2147483648) : Int) ≤ iC s4 20 (0 : Int).toNat ∧ iC s4 20 (0 : Int).toNat ≤ 2147483647 := Is4.2 20 _ (show (0 : Int).toNat < 200 by first | exact oq_e7d7c2b9 | omega)
    exact w_iret X.1 q hRt rfl (ax_d X (show cdA 84 169 = some (.ireturn, 1, 0, 0, 0) from rfl)) (Nat.zero_le _) (Nat.zero_le _) ⟨_, rfl, Is4, Fs4, (iC s4 20 (0 : Int).toNat), rfl, (rng_to _), trivial⟩
  ·
    refine z_aload_n X (x := A 131) (show cdA 84 5 = some (.aload_n 2, 1, 0, 0, 0) from rfl) (List.Mem.tail _ (List.Mem.tail _ (List.Mem.head _))) ?_
    refine z_const X (show cdA 84 6 = some (.iconst 0, 1, 0, 0, 0) from rfl) ?_
    refine z_ald X 131 (show cdA 84 7 = some (.iaload, 1, 0, 0, 0) from rfl) (by decide) rfl (by decide) (show 0 < 7 by decide) (by decide) ?_
    have b8 : ((-2147483648) : Int) ≤ iC s 114 (0 : Int).toNat ∧ iC s 114 (0 : Int).toNat ≤ 2147483647 := I.2 114 _ (show (0 : Int).toNat < 7 by first | exact oq_e8ec3fa8 | omega)
    refine z_const X (show cdA 84 8 = some (.iconst 2, 1, 0, 0, 0) from rfl) ?_
    refine z_aload_n X (x := A 131) (show cdA 84 9 = some (.aload_n 2, 1, 0, 0, 0) from rfl) (List.Mem.tail _ (List.Mem.tail _ (List.Mem.head _))) ?_
    refine z_const X (show cdA 84 10 = some (.iconst 1, 1, 0, 0, 0) from rfl) ?_
    refine z_ald X 131 (show cdA 84 11 = some (.iaload, 1, 0, 0, 0) from rfl) (by decide) rfl (by decide) (show 1 < 7 by decide) (by decide) ?_
    have b9 : ((-2147483648) : Int) ≤ iC s 114 (1 : Int).toNat ∧ iC s 114 (1 : Int).toNat ≤ 2147483647 := I.2 114 _ (show (1 : Int).toNat < 7 by first | exact oq_a32b659c | omega)
    refine z_mul X (show cdA 84 12 = some (.imul, 1, 0, 0, 0) from rfl) ?_
    refine z_any (fun y10 hy10 => ?_)
    refine z_add X (show cdA 84 13 = some (.iadd, 1, 0, 0, 0) from rfl) ?_
    refine z_any (fun y11 hy11 => ?_)
    refine z_aload_n X (x := A 131) (show cdA 84 14 = some (.aload_n 2, 1, 0, 0, 0) from rfl) (List.Mem.tail _ (List.Mem.tail _ (List.Mem.head _))) ?_
    refine z_const X (show cdA 84 15 = some (.iconst 2, 1, 0, 0, 0) from rfl) ?_
    refine z_ald X 131 (show cdA 84 16 = some (.iaload, 1, 0, 0, 0) from rfl) (by decide) rfl (by decide) (show 2 < 7 by decide) (by decide) ?_
    have b12 : ((-2147483648) : Int) ≤ iC s 114 (2 : Int).toNat ∧ iC s 114 (2 : Int).toNat ≤ 2147483647 := I.2 114 _ (show (2 : Int).toNat < 7 by first | exact oq_62527c24 | omega)
    refine z_add X (show cdA 84 17 = some (.iadd, 1, 0, 0, 0) from rfl) ?_
    refine z_any (fun y13 hy13 => ?_)
    exact w_iret X.1 q hRt rfl (ax_d X (show cdA 84 18 = some (.ireturn, 1, 0, 0, 0) from rfl)) (Nat.zero_le _) (Nat.zero_le _) ⟨_, rfl, I, F, y13, rfl, hy13, trivial⟩
set_option maxRecDepth 4000 in
theorem c0_loadAt_123 (G : GX l s0 D tys a0 dT) (I : Bd s) {x y : Int} (p0 : 0 ≤ x ∧ x ≤ 23) (p1 : rng y) : CT l s0 D A dT 4 (rmN 4) [.ref (A 123), .int (Int32.ofInt x), .int (Int32.ofInt y)] s (fun o t => Bd t ∧ Fm [] [114, 20] s t ∧ ∃ e, o = .inl (some (.int (Int32.ofInt e))) ∧ rng e ∧ (True)) := by
  refine ct_ofX G (by decide) (Nat.le_of_ble_eq_true rfl) (fun k X E ET hRt hXt q => ?_)
  show WS k 0 [(0, .ref (A 123)), (1, .int (Int32.ofInt x)), (2, .int (Int32.ofInt y))] [] _ 0 0
  have F : Fm [] [114, 20] s s := fm_rf _ _ s
  refine z_aload_n X (x := A 123) (show cdA 4 0 = some (.aload_n 0, 1, 0, 0, 0) from rfl) (List.Mem.head _) ?_
  refine z_load_n X (x := x) (show cdA 4 1 = some (.iload_n 1, 1, 0, 0, 0) from rfl) (List.Mem.tail _ (List.Mem.head _)) ?_
  refine z_load_n X (x := y) (show cdA 4 2 = some (.iload_n 2, 1, 0, 0, 0) from rfl) (List.Mem.tail _ (List.Mem.tail _ (List.Mem.head _))) ?_
  refine z_callV X 123 (rm := rmN 3) (As := [.int (Int32.ofInt x), .int (Int32.ofInt y)]) (st := []) (show cdA 4 3 = some (.invokevirtual 96, 3, 3, 0, 0) from rfl) rfl (by decide) rfl (by rw [E.1, E.2.1, E.2.2.1]; exact c0_hear_123 G I (by first | exact ⟨p0.1, p0.2⟩ | omega) (by first | exact ⟨p1.1, p1.2⟩ | omega)) ⟨by rw [E.2.2.2]; exact (show (rmN 3).frames + 1 ≤ (rmN 4).frames by decide), by rw [E.2.2.2]; exact (show 8 + (mNL (miB 3) + 11) + (rmN 3).locals ≤ (rmN 4).locals by decide), by rw [E.2.2.2]; exact (show 0 + (rmN 3).cells ≤ (rmN 4).cells by decide), by rw [E.2.2.2]; exact (show 0 + (rmN 3).slots ≤ (rmN 4).slots by decide)⟩ (Nat.le_of_ble_eq_true rfl) (fun vv s1 hq => ?_) (fun ee s1 hq => ?_)
  rotate_left
  · obtain ⟨Is1, Fs1, hv, hps1⟩ := hq; cases hv
  obtain ⟨Is1, Fs1, hv, hps1⟩ := hq
  cases hv
  have Gs1 := fm_ts F Fs1 (by decide) (by decide)
  show WS k 6 [(0, .ref (A 123)), (1, .int (Int32.ofInt x)), (2, .int (Int32.ofInt y))] [] (Wd A dT s1) 0 0
  refine z_aload_n X (x := A 123) (show cdA 4 6 = some (.aload_n 0, 1, 0, 0, 0) from rfl) (List.Mem.head _) ?_
  refine s_getR X 123 (show cdA 4 7 = some (.getfield 47, 3, 0, 1, 0) from rfl) (by decide) rfl rfl ?_
  refine z_aload_n X (x := A 123) (show cdA 4 10 = some (.aload_n 0, 1, 0, 0, 0) from rfl) (List.Mem.head _) ?_
  refine s_getR X 123 (show cdA 4 11 = some (.getfield 47, 3, 0, 1, 0) from rfl) (by decide) rfl rfl ?_
  refine z_getI X 19 (show cdA 4 14 = some (.getfield 100, 3, 7, 4, 0) from rfl) (by decide) rfl rfl ?_
  have b3 : ((-1) : Int) ≤ iI s1 13 ∧ iI s1 13 ≤ 7 := Is1.1 13
  refine z_aload_n X (x := A 123) (show cdA 4 17 = some (.aload_n 0, 1, 0, 0, 0) from rfl) (List.Mem.head _) ?_
  refine s_getR X 123 (show cdA 4 18 = some (.getfield 37, 3, 0, 11, 0) from rfl) (by decide) rfl rfl ?_
  refine z_callV X 19 (rm := rmN 84) (As := [.int (Int32.ofInt (iI s1 13)), .ref (A 131)]) (st := []) (show cdA 4 21 = some (.invokevirtual 103, 3, 84, 0, 0) from rfl) rfl (by decide) rfl (by rw [E.1, E.2.1, E.2.2.1]; exact c7_work_123 G Is1 (by first | exact ⟨b3.1, b3.2⟩ | omega)) ⟨by rw [E.2.2.2]; exact (show (rmN 84).frames + 1 ≤ (rmN 4).frames by decide), by rw [E.2.2.2]; exact (show 8 + (mNL (miB 84) + 11) + (rmN 84).locals ≤ (rmN 4).locals by decide), by rw [E.2.2.2]; exact (show 0 + (rmN 84).cells ≤ (rmN 4).cells by decide), by rw [E.2.2.2]; exact (show 0 + (rmN 84).slots ≤ (rmN 4).slots by decide)⟩ (Nat.le_of_ble_eq_true rfl) (fun vv s4 hq => ?_) (fun ee s4 hq => ?_)
  rotate_left
  · obtain ⟨Is4, Fs4, e5, hv, hrs4, hps4⟩ := hq; cases hv
  obtain ⟨Is4, Fs4, e5, hv, hrs4, hps4⟩ := hq
  cases hv
  have Gs4 := fm_ts Gs1 Fs4 (by decide) (by decide)
  show WS k 24 [(0, .ref (A 123)), (1, .int (Int32.ofInt x)), (2, .int (Int32.ofInt y))] [.int (Int32.ofInt e5)] (Wd A dT s4) 0 0
  exact w_iret X.1 q hRt rfl (ax_d X (show cdA 4 24 = some (.ireturn, 1, 0, 0, 0) from rfl)) (Nat.zero_le _) (Nat.zero_le _) ⟨_, rfl, Is4, Gs4, e5, rfl, hrs4, trivial⟩
end M78
