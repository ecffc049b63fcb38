/-! The class: the ears of the storm -/
section M79
variable {l : Launch} {s0 : State} {D : va_G} {tys : List (ClassId × FieldType)} {a0 : Array Value} {A : Nat → Nat} {dT : Nat → ClassId} {s : PS}
set_option maxRecDepth 4000 in
theorem c0_followSteps_133 (G : GX l s0 D tys a0 dT) (I : Bd s) {x : Int} {aj bj : Int64} (p0 : 0 ≤ x ∧ x ≤ 11) (p1 : iI s 58 ≤ 11) : CT l s0 D A dT 2 (rmN 2) [.ref (A 133), .int (Int32.ofInt x), .long aj, .long bj] s (fun o t => Bd t ∧ Fm [] [117, 118, 119] s t ∧ o = .inl none ∧ (True)) := by
  refine ct_ofX G (by decide) (Nat.le_of_ble_eq_true rfl) (fun k X E ET hRt hXt q => ?_)
  show WS k 0 [(0, .ref (A 133)), (1, .int (Int32.ofInt x)), (2, .long aj), (4, .long bj)] [] _ 0 0
  have F : Fm [] [117, 118, 119] s s := fm_rf _ _ s
  have b1 : (0 : Int) ≤ iI s 58 ∧ iI s 58 ≤ 12 := I.1 58
  have L12 : ∀ (n : Nat) (t : PS) (xv : Int) (av : Int64) (bv : Int64) (ov : Int) (wi : Int) (cl : Int) (kd : Int), Bd t → Fm [] [117, 118, 119] s t → ((0 ≤ xv ∧ xv ≤ 11) ∧ rng ov ∧ rng wi ∧ rng cl ∧ 0 ≤ kd ∧ kd ≤ 5 ∧ iI t 58 ≤ 11) → (5 - kd : Int).toNat < n → (∀ (t' : PS) (ov' : Int) (wi' : Int) (cl' : Int) (kd' : Int), Bd t' → Fm [] [117, 118, 119] s t' → ((0 ≤ xv ∧ xv ≤ 11) ∧ rng ov' ∧ rng wi' ∧ rng cl' ∧ 0 ≤ kd' ∧ kd' ≤ 5 ∧ iI t' 58 ≤ 11) → WS k 148 [(0, .ref (A 133)), (1, .int (Int32.ofInt xv)), (2, .long av), (4, .long bv), (6, .int (Int32.ofInt ov')), (7, .int (Int32.ofInt wi')), (8, .int (Int32.ofInt cl')), (9, .int (Int32.ofInt kd'))] [] (Wd A dT t') 0 0) → WS k 12 [(0, .ref (A 133)), (1, .int (Int32.ofInt xv)), (2, .long av), (4, .long bv), (6, .int (Int32.ofInt ov)), (7, .int (Int32.ofInt wi)), (8, .int (Int32.ofInt cl)), (9, .int (Int32.ofInt kd))] [] (Wd A dT t) 0 0 := by
    intro n
    induction n with
    | zero =>
      intro t xv av bv ov wi cl kd I F hi hm kx
      exact absurd hm (Nat.not_lt_zero _)
    | succ n ih =>
      intro t xv av bv ov wi cl kd I F hi hm kx
      have b1001 : (0 : Int) ≤ iI t 58 ∧ iI t 58 ≤ 12 := I.1 58
      refine z_load X (x := kd) (show cdA 2 12 = some (.iload 9, 2, 0, 0, 0) from rfl) (List.Mem.tail _ (List.Mem.tail _ (List.Mem.tail _ (List.Mem.tail _ (List.Mem.tail _ (List.Mem.tail _ (List.Mem.tail _ (List.Mem.head _)))))))) ?_
      refine z_const X (show cdA 2 14 = some (.iconst 5, 1, 0, 0, 0) from rfl) ?_
      refine z_icmp_ge X (t := 148) (show cdA 2 15 = some (.if_icmp .ge 133, 3, 3, 0, 0) from rfl) (by decide) ⟨by first | exact oq_fa4e5087 hi.2.2.2.2.1 | omega, by first | exact oq_a3dd55e5 hi.2.2.2.2.2.1 | omega⟩ (by decide) (fun g1002 => ?_) (fun g1002 => ?_)
      ·
        refine WS_lv (lv := [(0, .ref (A 133)), (1, .int (Int32.ofInt xv)), (2, .long av), (4, .long bv), (6, .int (Int32.ofInt ov)), (7, .int (Int32.ofInt wi)), (8, .int (Int32.ofInt cl)), (9, .int (Int32.ofInt kd))]) (List.forall_mem_cons.mpr ⟨(List.Mem.head _), (List.forall_mem_cons.mpr ⟨(List.Mem.tail _ (List.Mem.head _)), (List.forall_mem_cons.mpr ⟨(List.Mem.tail _ (List.Mem.tail _ (List.Mem.head _))), (List.forall_mem_cons.mpr ⟨(List.Mem.tail _ (List.Mem.tail _ (List.Mem.tail _ (List.Mem.head _)))), (List.forall_mem_cons.mpr ⟨(List.Mem.tail _ (List.Mem.tail _ (List.Mem.tail _ (List.Mem.tail _ (List.Mem.head _))))), (List.forall_mem_cons.mpr ⟨(List.Mem.tail _ (List.Mem.tail _ (List.Mem.tail _ (List.Mem.tail _ (List.Mem.tail _ (List.Mem.head _)))))), (List.forall_mem_cons.mpr ⟨(List.Mem.tail _ (List.Mem.tail _ (List.Mem.tail _ (List.Mem.tail _ (List.Mem.tail _ (List.Mem.tail _ (List.Mem.head _))))))), (List.forall_mem_cons.mpr ⟨(List.Mem.tail _ (List.Mem.tail _ (List.Mem.tail _ (List.Mem.tail _ (List.Mem.tail _ (List.Mem.tail _ (List.Mem.tail _ (List.Mem.head _)))))))), (fun q h => absurd h List.not_mem_nil)⟩)⟩)⟩)⟩)⟩)⟩)⟩)⟩) ?_
        exact kx _ ov wi cl kd I F (by first | exact ⟨And.intro (hi.1.1) (hi.1.2), And.intro (hi.2.1.1) (hi.2.1.2), And.intro (hi.2.2.1.1) (hi.2.2.1.2), And.intro (hi.2.2.2.1.1) (hi.2.2.2.1.2), hi.2.2.2.2.1, hi.2.2.2.2.2.1, hi.2.2.2.2.2.2⟩ | omega)
      ·
        refine z_aload_n X (x := A 133) (show cdA 2 18 = some (.aload_n 0, 1, 0, 0, 0) from rfl) (List.Mem.head _) ?_
        refine s_getR X 133 (show cdA 2 19 = some (.getfield 43, 3, 0, 0, 0) from rfl) (by decide) rfl rfl ?_
        refine s_getR X 68 (show cdA 2 22 = some (.getfield 84, 3, 9, 5, 0) from rfl) (by decide) rfl rfl ?_
        refine z_load_n X (x := xv) (show cdA 2 25 = some (.iload_n 1, 1, 0, 0, 0) from rfl) (List.Mem.tail _ (List.Mem.head _)) ?_
        refine z_const X (show cdA 2 26 = some (.iconst 5, 1, 0, 0, 0) from rfl) ?_
        refine z_mul X (show cdA 2 27 = some (.imul, 1, 0, 0, 0) from rfl) ?_
        refine z_load X (x := kd) (show cdA 2 28 = some (.iload 9, 2, 0, 0, 0) from rfl) (List.Mem.tail _ (List.Mem.tail _ (List.Mem.tail _ (List.Mem.tail _ (List.Mem.tail _ (List.Mem.tail _ (List.Mem.tail _ (List.Mem.head _)))))))) ?_
        refine z_add X (show cdA 2 30 = some (.iadd, 1, 0, 0, 0) from rfl) ?_
        refine z_lald X 73 (show cdA 2 31 = some (.laload, 1, 0, 0, 0) from rfl) (by decide) rfl (by first | exact oq_59a253bd hi.1.1 hi.2.2.2.2.1 | omega) (show ((xv * 5) + kd) < 60 by first | exact oq_7279bf48 hi.1.2 g1002 | omega) (by decide) (fun j1003 => ?_)
        refine w_lstore X.1 (lv' := [(10, .long j1003), (0, .ref (A 133)), (1, .int (Int32.ofInt xv)), (2, .long av), (4, .long bv), (6, .int (Int32.ofInt ov)), (7, .int (Int32.ofInt wi)), (8, .int (Int32.ofInt cl)), (9, .int (Int32.ofInt kd))]) (ax_d X (show cdA 2 32 = some (.lstore 10, 2, 0, 0, 0) from rfl)) (by rw [X.2.1.2.2]; decide) (fun _ h => h) ?_
        refine w_lload X.1 (ax_d X (show cdA 2 34 = some (.lload 10, 2, 0, 0, 0) from rfl)) (x := j1003) (List.Mem.head _) ?_
        refine w_lconst X.1 (ax_d X (show cdA 2 36 = some (.lconst 0, 1, 0, 0, 0) from rfl)) rfl ?_
        refine z_anyJ (fun j1004 => ?_)
        refine w_lcmp X.1 (ax_d X (show cdA 2 37 = some (.lcmp, 1, 0, 0, 0) from rfl)) ?_
        refine z_any (fun y1005 hy1005 => ?_)
        refine z_if_eq X (t := 142) (show cdA 2 38 = some (.ifCond .eq 104, 3, 0, 0, 0) from rfl) (by decide) hy1005 (fun g1006 => ?_) (fun g1006 => ?_)
        ·
          refine z_inc X (x := kd) (lv' := [(9, .int (Int32.ofInt (kd + 1))), (10, .long j1003), (0, .ref (A 133)), (1, .int (Int32.ofInt xv)), (2, .long av), (4, .long bv), (6, .int (Int32.ofInt ov)), (7, .int (Int32.ofInt wi)), (8, .int (Int32.ofInt cl))]) (show cdA 2 142 = some (.iinc 9 1, 3, 0, 0, 0) from rfl) (by decide) (List.Mem.tail _ (List.Mem.tail _ (List.Mem.tail _ (List.Mem.tail _ (List.Mem.tail _ (List.Mem.tail _ (List.Mem.tail _ (List.Mem.tail _ (List.Mem.head _))))))))) (fun _ h => h) ?_
          refine z_goto X (t := 12) (show cdA 2 145 = some (.goto (-133), 3, 0, 0, 0) from rfl) (by decide) ?_
          refine WS_lv (lv := [(0, .ref (A 133)), (1, .int (Int32.ofInt xv)), (2, .long av), (4, .long bv), (6, .int (Int32.ofInt ov)), (7, .int (Int32.ofInt wi)), (8, .int (Int32.ofInt cl)), (9, .int (Int32.ofInt (kd + 1)))]) (List.forall_mem_cons.mpr ⟨(List.Mem.tail _ (List.Mem.tail _ (List.Mem.head _))), (List.forall_mem_cons.mpr ⟨(List.Mem.tail _ (List.Mem.tail _ (List.Mem.tail _ (List.Mem.head _)))), (List.forall_mem_cons.mpr ⟨(List.Mem.tail _ (List.Mem.tail _ (List.Mem.tail _ (List.Mem.tail _ (List.Mem.head _))))), (List.forall_mem_cons.mpr ⟨(List.Mem.tail _ (List.Mem.tail _ (List.Mem.tail _ (List.Mem.tail _ (List.Mem.tail _ (List.Mem.head _)))))), (List.forall_mem_cons.mpr ⟨(List.Mem.tail _ (List.Mem.tail _ (List.Mem.tail _ (List.Mem.tail _ (List.Mem.tail _ (List.Mem.tail _ (List.Mem.head _))))))), (List.forall_mem_cons.mpr ⟨(List.Mem.tail _ (List.Mem.tail _ (List.Mem.tail _ (List.Mem.tail _ (List.Mem.tail _ (List.Mem.tail _ (List.Mem.tail _ (List.Mem.head _)))))))), (List.forall_mem_cons.mpr ⟨(List.Mem.tail _ (List.Mem.tail _ (List.Mem.tail _ (List.Mem.tail _ (List.Mem.tail _ (List.Mem.tail _ (List.Mem.tail _ (List.Mem.tail _ (List.Mem.head _))))))))), (List.forall_mem_cons.mpr ⟨(List.Mem.head _), (fun q h => absurd h List.not_mem_nil)⟩)⟩)⟩)⟩)⟩)⟩)⟩)⟩) ?_
          exact ih _ xv av bv ov wi cl (kd + 1) I F (by first | exact ⟨And.intro (hi.1.1) (hi.1.2), And.intro (hi.2.1.1) (hi.2.1.2), And.intro (hi.2.2.1.1) (hi.2.2.1.2), And.intro (hi.2.2.2.1.1) (hi.2.2.2.1.2), oq_54f49eb5 hi.2.2.2.2.1, oq_c2445583 g1002, hi.2.2.2.2.2.2⟩ | omega) (by first | exact qk_me hm (by decide) (oq_33241a94 g1002) | omega) kx
        ·
          refine z_load X (x := kd) (show cdA 2 41 = some (.iload 9, 2, 0, 0, 0) from rfl) (List.Mem.tail _ (List.Mem.tail _ (List.Mem.tail _ (List.Mem.tail _ (List.Mem.tail _ (List.Mem.tail _ (List.Mem.tail _ (List.Mem.tail _ (List.Mem.head _))))))))) ?_
          refine z_const X (show cdA 2 43 = some (.iconst 1, 1, 0, 0, 0) from rfl) ?_
          have N1007 : ∀ j1008 : Int64, WS k 59 [(10, .long j1003), (0, .ref (A 133)), (1, .int (Int32.ofInt xv)), (2, .long av), (4, .long bv), (6, .int (Int32.ofInt ov)), (7, .int (Int32.ofInt wi)), (8, .int (Int32.ofInt cl)), (9, .int (Int32.ofInt kd))] [.long j1008] (Wd A dT t) 0 0 := by
            intro j1008
            refine w_lstore X.1 (lv' := [(12, .long j1008), (10, .long j1003), (0, .ref (A 133)), (1, .int (Int32.ofInt xv)), (2, .long av), (4, .long bv), (6, .int (Int32.ofInt ov)), (7, .int (Int32.ofInt wi)), (8, .int (Int32.ofInt cl)), (9, .int (Int32.ofInt kd))]) (ax_d X (show cdA 2 59 = some (.lstore 12, 2, 0, 0, 0) from rfl)) (by rw [X.2.1.2.2]; decide) (fun _ h => h) ?_
            refine z_load X (x := kd) (show cdA 2 61 = some (.iload 9, 2, 0, 0, 0) from rfl) (List.Mem.tail _ (List.Mem.tail _ (List.Mem.tail _ (List.Mem.tail _ (List.Mem.tail _ (List.Mem.tail _ (List.Mem.tail _ (List.Mem.tail _ (List.Mem.tail _ (List.Mem.head _)))))))))) ?_
            refine z_const X (show cdA 2 63 = some (.iconst 4, 1, 0, 0, 0) from rfl) ?_
            have N1009 : ∀ j1010 : Int64, WS k 90 [(12, .long j1008), (10, .long j1003), (0, .ref (A 133)), (1, .int (Int32.ofInt xv)), (2, .long av), (4, .long bv), (6, .int (Int32.ofInt ov)), (7, .int (Int32.ofInt wi)), (8, .int (Int32.ofInt cl)), (9, .int (Int32.ofInt kd))] [.long j1010] (Wd A dT t) 0 0 := by
              intro j1010
              refine w_lstore X.1 (lv' := [(14, .long j1010), (12, .long j1008), (10, .long j1003), (0, .ref (A 133)), (1, .int (Int32.ofInt xv)), (2, .long av), (4, .long bv), (6, .int (Int32.ofInt ov)), (7, .int (Int32.ofInt wi)), (8, .int (Int32.ofInt cl)), (9, .int (Int32.ofInt kd))]) (ax_d X (show cdA 2 90 = some (.lstore 14, 2, 0, 0, 0) from rfl)) (by rw [X.2.1.2.2]; decide) (fun _ h => h) ?_
              refine w_lload X.1 (ax_d X (show cdA 2 92 = some (.lload 10, 2, 0, 0, 0) from rfl)) (x := j1003) (List.Mem.tail _ (List.Mem.tail _ (List.Mem.head _))) ?_
              refine w_lload X.1 (ax_d X (show cdA 2 94 = some (.lload 12, 2, 0, 0, 0) from rfl)) (x := j1008) (List.Mem.tail _ (List.Mem.head _)) ?_
              refine w_land X.1 (ax_d X (show cdA 2 96 = some (.land, 1, 0, 0, 0) from rfl)) ?_
              refine z_anyJ (fun j1011 => ?_)
              refine w_lload X.1 (ax_d X (show cdA 2 97 = some (.lload 14, 2, 0, 0, 0) from rfl)) (x := j1010) (List.Mem.head _) ?_
              refine w_land X.1 (ax_d X (show cdA 2 99 = some (.land, 1, 0, 0, 0) from rfl)) ?_
              refine z_anyJ (fun j1012 => ?_)
              refine z_callS X (rm := rmN 298) (As := [.long j1012]) (st := []) (show cdA 2 100 = some (.invokestatic 51, 3, 298, 1, 0) from rfl) rfl (by rw [E.1, E.2.1, E.2.2.1]; exact j_bitL G I ) ⟨by rw [E.2.2.2]; exact (show (rmN 298).frames + 1 ≤ (rmN 2).frames by decide), by rw [E.2.2.2]; exact (show 8 + (mNL (miB 298) + 11) + (rmN 298).locals ≤ (rmN 2).locals by decide), by rw [E.2.2.2]; exact (show 0 + (rmN 298).cells ≤ (rmN 2).cells by decide), by rw [E.2.2.2]; exact (show 0 + (rmN 298).slots ≤ (rmN 2).slots by decide)⟩ (Nat.le_of_ble_eq_true rfl) (fun vv s1013 hq => ?_) (fun ee s1013 hq => ?_)
              rotate_left
              · obtain ⟨Is1013, Fs1013, e1014, hv, hrs1013, hps1013⟩ := hq; cases hv
              obtain ⟨Is1013, Fs1013, e1014, hv, hrs1013, hps1013⟩ := hq
              cases hv
              have Gs1013 := fm_ts F Fs1013 (by decide) (by decide)
              have ws1013_58 : iI s1013 58 = iI t 58 := fm_i Fs1013 (by decide)
              show WS k 103 [(14, .long j1010), (12, .long j1008), (10, .long j1003), (0, .ref (A 133)), (1, .int (Int32.ofInt xv)), (2, .long av), (4, .long bv), (6, .int (Int32.ofInt ov)), (7, .int (Int32.ofInt wi)), (8, .int (Int32.ofInt cl)), (9, .int (Int32.ofInt kd))] [.int (Int32.ofInt e1014)] (Wd A dT s1013) 0 0
              refine z_store X (lv' := [(16, .int (Int32.ofInt e1014)), (14, .long j1010), (12, .long j1008), (10, .long j1003), (0, .ref (A 133)), (1, .int (Int32.ofInt xv)), (2, .long av), (4, .long bv), (6, .int (Int32.ofInt ov)), (7, .int (Int32.ofInt wi)), (8, .int (Int32.ofInt cl)), (9, .int (Int32.ofInt kd))]) (show cdA 2 103 = some (.istore 16, 2, 0, 0, 0) from rfl) (by decide) (fun _ h => h) ?_
              refine z_load X (x := ov) (show cdA 2 105 = some (.iload 6, 2, 0, 0, 0) from rfl) (List.Mem.tail _ (List.Mem.tail _ (List.Mem.tail _ (List.Mem.tail _ (List.Mem.tail _ (List.Mem.tail _ (List.Mem.tail _ (List.Mem.tail _ (List.Mem.head _))))))))) ?_
              refine w_lload X.1 (ax_d X (show cdA 2 107 = some (.lload 10, 2, 0, 0, 0) from rfl)) (x := j1003) (List.Mem.tail _ (List.Mem.tail _ (List.Mem.tail _ (List.Mem.head _)))) ?_
              refine w_lload X.1 (ax_d X (show cdA 2 109 = some (.lload 12, 2, 0, 0, 0) from rfl)) (x := j1008) (List.Mem.tail _ (List.Mem.tail _ (List.Mem.head _))) ?_
              refine w_lload X.1 (ax_d X (show cdA 2 111 = some (.lload 14, 2, 0, 0, 0) from rfl)) (x := j1010) (List.Mem.tail _ (List.Mem.head _)) ?_
              refine w_lxor X.1 (ax_d X (show cdA 2 113 = some (.lxor, 1, 0, 0, 0) from rfl)) ?_
              refine z_anyJ (fun j1015 => ?_)
              refine w_land X.1 (ax_d X (show cdA 2 114 = some (.land, 1, 0, 0, 0) from rfl)) ?_
              refine z_anyJ (fun j1016 => ?_)
              refine z_callS X (rm := rmN 298) (As := [.long j1016]) (st := [.int (Int32.ofInt ov)]) (show cdA 2 115 = some (.invokestatic 51, 3, 298, 1, 0) from rfl) rfl (by rw [E.1, E.2.1, E.2.2.1]; exact j_bitL G Is1013 ) ⟨by rw [E.2.2.2]; exact (show (rmN 298).frames + 1 ≤ (rmN 2).frames by decide), by rw [E.2.2.2]; exact (show 8 + (mNL (miB 298) + 11) + (rmN 298).locals ≤ (rmN 2).locals by decide), by rw [E.2.2.2]; exact (show 0 + (rmN 298).cells ≤ (rmN 2).cells by decide), by rw [E.2.2.2]; exact (show 0 + (rmN 298).slots ≤ (rmN 2).slots by decide)⟩ (Nat.le_of_ble_eq_true rfl) (fun vv s1017 hq => ?_) (fun ee s1017 hq => ?_)
              rotate_left
              · obtain ⟨Is1017, Fs1017, e1018, hv, hrs1017, hps1017⟩ := hq; cases hv
              obtain ⟨Is1017, Fs1017, e1018, hv, hrs1017, hps1017⟩ := hq
              cases hv
              have Gs1017 := fm_ts Gs1013 Fs1017 (by decide) (by decide)
              have ws1017_58 : iI s1017 58 = iI s1013 58 := fm_i Fs1017 (by decide)
              show WS k 118 [(16, .int (Int32.ofInt e1014)), (14, .long j1010), (12, .long j1008), (10, .long j1003), (0, .ref (A 133)), (1, .int (Int32.ofInt xv)), (2, .long av), (4, .long bv), (6, .int (Int32.ofInt ov)), (7, .int (Int32.ofInt wi)), (8, .int (Int32.ofInt cl)), (9, .int (Int32.ofInt kd))] [.int (Int32.ofInt e1018), .int (Int32.ofInt ov)] (Wd A dT s1017) 0 0
              refine z_add X (show cdA 2 118 = some (.iadd, 1, 0, 0, 0) from rfl) ?_
              refine z_any (fun y1019 hy1019 => ?_)
              refine z_store X (lv' := [(6, .int (Int32.ofInt y1019)), (16, .int (Int32.ofInt e1014)), (14, .long j1010), (12, .long j1008), (10, .long j1003), (0, .ref (A 133)), (1, .int (Int32.ofInt xv)), (2, .long av), (4, .long bv), (7, .int (Int32.ofInt wi)), (8, .int (Int32.ofInt cl)), (9, .int (Int32.ofInt kd))]) (show cdA 2 119 = some (.istore 6, 2, 0, 0, 0) from rfl) (by decide) (fun _ h => h) ?_
              refine z_load X (x := wi) (show cdA 2 121 = some (.iload 7, 2, 0, 0, 0) from rfl) (List.Mem.tail _ (List.Mem.tail _ (List.Mem.tail _ (List.Mem.tail _ (List.Mem.tail _ (List.Mem.tail _ (List.Mem.tail _ (List.Mem.tail _ (List.Mem.tail _ (List.Mem.head _)))))))))) ?_
              refine z_load X (x := e1014) (show cdA 2 123 = some (.iload 16, 2, 0, 0, 0) from rfl) (List.Mem.tail _ (List.Mem.head _)) ?_
              refine z_add X (show cdA 2 125 = some (.iadd, 1, 0, 0, 0) from rfl) ?_
              refine z_any (fun y1020 hy1020 => ?_)
              refine z_store X (lv' := [(7, .int (Int32.ofInt y1020)), (6, .int (Int32.ofInt y1019)), (16, .int (Int32.ofInt e1014)), (14, .long j1010), (12, .long j1008), (10, .long j1003), (0, .ref (A 133)), (1, .int (Int32.ofInt xv)), (2, .long av), (4, .long bv), (8, .int (Int32.ofInt cl)), (9, .int (Int32.ofInt kd))]) (show cdA 2 126 = some (.istore 7, 2, 0, 0, 0) from rfl) (by decide) (fun _ h => h) ?_
              refine z_load X (x := kd) (show cdA 2 128 = some (.iload 9, 2, 0, 0, 0) from rfl) (List.Mem.tail _ (List.Mem.tail _ (List.Mem.tail _ (List.Mem.tail _ (List.Mem.tail _ (List.Mem.tail _ (List.Mem.tail _ (List.Mem.tail _ (List.Mem.tail _ (List.Mem.tail _ (List.Mem.tail _ (List.Mem.head _)))))))))))) ?_
              refine z_const X (show cdA 2 130 = some (.iconst 4, 1, 0, 0, 0) from rfl) ?_
              have N1021 : ∀ e1022 : Int, (((kd ≠ 4) ∧ e1022 = 0) ∨ ((kd = 4) ∧ e1022 = e1014)) → WS k 140 [(7, .int (Int32.ofInt y1020)), (6, .int (Int32.ofInt y1019)), (16, .int (Int32.ofInt e1014)), (14, .long j1010), (12, .long j1008), (10, .long j1003), (0, .ref (A 133)), (1, .int (Int32.ofInt xv)), (2, .long av), (4, .long bv), (8, .int (Int32.ofInt cl)), (9, .int (Int32.ofInt kd))] [.int (Int32.ofInt e1022)] (Wd A dT s1017) 0 0 := by
                intro e1022 he1022
                refine z_store X (lv' := [(8, .int (Int32.ofInt e1022)), (7, .int (Int32.ofInt y1020)), (6, .int (Int32.ofInt y1019)), (16, .int (Int32.ofInt e1014)), (14, .long j1010), (12, .long j1008), (10, .long j1003), (0, .ref (A 133)), (1, .int (Int32.ofInt xv)), (2, .long av), (4, .long bv), (9, .int (Int32.ofInt kd))]) (show cdA 2 140 = some (.istore 8, 2, 0, 0, 0) from rfl) (by decide) (fun _ h => h) ?_
                refine z_inc X (x := kd) (lv' := [(9, .int (Int32.ofInt (kd + 1))), (8, .int (Int32.ofInt e1022)), (7, .int (Int32.ofInt y1020)), (6, .int (Int32.ofInt y1019)), (16, .int (Int32.ofInt e1014)), (14, .long j1010), (12, .long j1008), (10, .long j1003), (0, .ref (A 133)), (1, .int (Int32.ofInt xv)), (2, .long av), (4, .long bv)]) (show cdA 2 142 = some (.iinc 9 1, 3, 0, 0, 0) from rfl) (by decide) (List.Mem.tail _ (List.Mem.tail _ (List.Mem.tail _ (List.Mem.tail _ (List.Mem.tail _ (List.Mem.tail _ (List.Mem.tail _ (List.Mem.tail _ (List.Mem.tail _ (List.Mem.tail _ (List.Mem.tail _ (List.Mem.head _)))))))))))) (fun _ h => h) ?_
                refine z_goto X (t := 12) (show cdA 2 145 = some (.goto (-133), 3, 0, 0, 0) from rfl) (by decide) ?_
                refine WS_lv (lv := [(0, .ref (A 133)), (1, .int (Int32.ofInt xv)), (2, .long av), (4, .long bv), (6, .int (Int32.ofInt y1019)), (7, .int (Int32.ofInt y1020)), (8, .int (Int32.ofInt e1022)), (9, .int (Int32.ofInt (kd + 1)))]) (List.forall_mem_cons.mpr ⟨(List.Mem.tail _ (List.Mem.tail _ (List.Mem.tail _ (List.Mem.tail _ (List.Mem.tail _ (List.Mem.tail _ (List.Mem.tail _ (List.Mem.tail _ (List.Mem.head _))))))))), (List.forall_mem_cons.mpr ⟨(List.Mem.tail _ (List.Mem.tail _ (List.Mem.tail _ (List.Mem.tail _ (List.Mem.tail _ (List.Mem.tail _ (List.Mem.tail _ (List.Mem.tail _ (List.Mem.tail _ (List.Mem.head _)))))))))), (List.forall_mem_cons.mpr ⟨(List.Mem.tail _ (List.Mem.tail _ (List.Mem.tail _ (List.Mem.tail _ (List.Mem.tail _ (List.Mem.tail _ (List.Mem.tail _ (List.Mem.tail _ (List.Mem.tail _ (List.Mem.tail _ (List.Mem.head _))))))))))), (List.forall_mem_cons.mpr ⟨(List.Mem.tail _ (List.Mem.tail _ (List.Mem.tail _ (List.Mem.tail _ (List.Mem.tail _ (List.Mem.tail _ (List.Mem.tail _ (List.Mem.tail _ (List.Mem.tail _ (List.Mem.tail _ (List.Mem.tail _ (List.Mem.head _)))))))))))), (List.forall_mem_cons.mpr ⟨(List.Mem.tail _ (List.Mem.tail _ (List.Mem.tail _ (List.Mem.head _)))), (List.forall_mem_cons.mpr ⟨(List.Mem.tail _ (List.Mem.tail _ (List.Mem.head _))), (List.forall_mem_cons.mpr ⟨(List.Mem.tail _ (List.Mem.head _)), (List.forall_mem_cons.mpr ⟨(List.Mem.head _), (fun q h => absurd h List.not_mem_nil)⟩)⟩)⟩)⟩)⟩)⟩)⟩)⟩) ?_
                exact ih _ xv av bv y1019 y1020 e1022 (kd + 1) Is1017 Gs1017 (by first | exact ⟨And.intro (hi.1.1) (hi.1.2), And.intro (hy1019.1) (hy1019.2), And.intro (hy1020.1) (hy1020.2), by omega, oq_54f49eb5 hi.2.2.2.2.1, oq_c2445583 g1002, oq_9a920414 ws1017_58 ws1013_58 hi.2.2.2.2.2.2⟩ | omega) (by first | exact qk_me hm (by decide) (oq_33241a94 g1002) | omega) kx
              refine z_icmp_ne X (t := 139) (show cdA 2 131 = some (.if_icmp .ne 8, 3, 1, 0, 0) from rfl) (by decide) ⟨by first | exact oq_fa4e5087 hi.2.2.2.2.1 | omega, by first | exact oq_85aa3fe6 g1002 | omega⟩ (by decide) (fun g1023 => ?_) (fun g1023 => ?_)
              ·
                refine z_const X (show cdA 2 139 = some (.iconst 0, 1, 0, 0, 0) from rfl) ?_
                exact N1021 _ (Or.inl ⟨g1023, rfl⟩)
              ·
                refine z_load X (x := e1014) (show cdA 2 134 = some (.iload 16, 2, 0, 0, 0) from rfl) (List.Mem.tail _ (List.Mem.tail _ (List.Mem.head _))) ?_
                refine z_goto X (t := 140) (show cdA 2 136 = some (.goto 4, 3, 0, 0, 0) from rfl) (by decide) ?_
                exact N1021 _ (Or.inr (⟨g1023, rfl⟩))
            refine z_icmp_ne X (t := 72) (show cdA 2 64 = some (.if_icmp .ne 8, 3, 1, 0, 0) from rfl) (by decide) ⟨by first | exact oq_fa4e5087 hi.2.2.2.2.1 | omega, by first | exact oq_85aa3fe6 g1002 | omega⟩ (by decide) (fun g1024 => ?_) (fun g1024 => ?_)
            ·
              refine z_load X (x := kd) (show cdA 2 72 = some (.iload 9, 2, 0, 0, 0) from rfl) (List.Mem.tail _ (List.Mem.tail _ (List.Mem.tail _ (List.Mem.tail _ (List.Mem.tail _ (List.Mem.tail _ (List.Mem.tail _ (List.Mem.tail _ (List.Mem.tail _ (List.Mem.head _)))))))))) ?_
              refine z_const X (show cdA 2 74 = some (.iconst 2, 1, 0, 0, 0) from rfl) ?_
              refine z_icmp_ge X (t := 85) (show cdA 2 75 = some (.if_icmp .ge 10, 3, 3, 0, 0) from rfl) (by decide) ⟨by first | exact oq_fa4e5087 hi.2.2.2.2.1 | omega, by first | exact oq_85aa3fe6 g1002 | omega⟩ (by decide) (fun g1025 => ?_) (fun g1025 => ?_)
              ·
                refine w_lload X.1 (ax_d X (show cdA 2 85 = some (.lload 12, 2, 0, 0, 0) from rfl)) (x := j1008) (List.Mem.head _) ?_
                refine z_bipush X (show cdA 2 87 = some (.bipush 8, 2, 0, 0, 8) from rfl) ?_
                refine w_lushr X.1 (ax_d X (show cdA 2 89 = some (.lushr, 1, 0, 0, 0) from rfl)) ?_
                refine z_anyJ (fun j1026 => ?_)
                exact N1009 _
              ·
                refine w_lload X.1 (ax_d X (show cdA 2 78 = some (.lload 12, 2, 0, 0, 0) from rfl)) (x := j1008) (List.Mem.head _) ?_
                refine z_const X (show cdA 2 80 = some (.iconst 1, 1, 0, 0, 0) from rfl) ?_
                refine w_lushr X.1 (ax_d X (show cdA 2 81 = some (.lushr, 1, 0, 0, 0) from rfl)) ?_
                refine z_anyJ (fun j1027 => ?_)
                refine z_goto X (t := 90) (show cdA 2 82 = some (.goto 8, 3, 0, 0, 0) from rfl) (by decide) ?_
                exact N1009 _
            ·
              refine w_lload X.1 (ax_d X (show cdA 2 67 = some (.lload 4, 2, 0, 0, 0) from rfl)) (x := bv) (List.Mem.tail _ (List.Mem.tail _ (List.Mem.tail _ (List.Mem.tail _ (List.Mem.tail _ (List.Mem.head _)))))) ?_
              refine z_goto X (t := 90) (show cdA 2 69 = some (.goto 21, 3, 0, 0, 0) from rfl) (by decide) ?_
              exact N1009 _
          refine z_icmp_eq X (t := 53) (show cdA 2 44 = some (.if_icmp .eq 9, 3, 0, 0, 0) from rfl) (by decide) ⟨by first | exact oq_fa4e5087 hi.2.2.2.2.1 | omega, by first | exact oq_85aa3fe6 g1002 | omega⟩ (by decide) (fun g1028 => ?_) (fun g1028 => ?_)
          ·
            refine w_lload X.1 (ax_d X (show cdA 2 53 = some (.lload 4, 2, 0, 0, 0) from rfl)) (x := bv) (List.Mem.tail _ (List.Mem.tail _ (List.Mem.tail _ (List.Mem.tail _ (List.Mem.head _))))) ?_
            refine z_goto X (t := 59) (show cdA 2 55 = some (.goto 4, 3, 0, 0, 0) from rfl) (by decide) ?_
            exact N1007 _
          ·
            refine z_load X (x := kd) (show cdA 2 47 = some (.iload 9, 2, 0, 0, 0) from rfl) (List.Mem.tail _ (List.Mem.tail _ (List.Mem.tail _ (List.Mem.tail _ (List.Mem.tail _ (List.Mem.tail _ (List.Mem.tail _ (List.Mem.tail _ (List.Mem.head _))))))))) ?_
            refine z_const X (show cdA 2 49 = some (.iconst 3, 1, 0, 0, 0) from rfl) ?_
            refine z_icmp_ne X (t := 58) (show cdA 2 50 = some (.if_icmp .ne 8, 3, 1, 0, 0) from rfl) (by decide) ⟨by first | exact oq_fa4e5087 hi.2.2.2.2.1 | omega, by first | exact oq_85aa3fe6 g1002 | omega⟩ (by decide) (fun g1029 => ?_) (fun g1029 => ?_)
            ·
              refine w_lload_n X.1 (ax_d X (show cdA 2 58 = some (.lload_n 2, 1, 0, 0, 0) from rfl)) (x := av) (List.Mem.tail _ (List.Mem.tail _ (List.Mem.tail _ (List.Mem.head _)))) ?_
              exact N1007 _
            ·
              refine w_lload X.1 (ax_d X (show cdA 2 53 = some (.lload 4, 2, 0, 0, 0) from rfl)) (x := bv) (List.Mem.tail _ (List.Mem.tail _ (List.Mem.tail _ (List.Mem.tail _ (List.Mem.head _))))) ?_
              refine z_goto X (t := 59) (show cdA 2 55 = some (.goto 4, 3, 0, 0, 0) from rfl) (by decide) ?_
              exact N1007 _
  refine z_const X (show cdA 2 0 = some (.iconst 0, 1, 0, 0, 0) from rfl) ?_
  refine z_store X (lv' := [(6, .int (Int32.ofInt 0)), (0, .ref (A 133)), (1, .int (Int32.ofInt x)), (2, .long aj), (4, .long bj)]) (show cdA 2 1 = some (.istore 6, 2, 0, 0, 0) from rfl) (by decide) (fun _ h => h) ?_
  refine z_const X (show cdA 2 3 = some (.iconst 0, 1, 0, 0, 0) from rfl) ?_
  refine z_store X (lv' := [(7, .int (Int32.ofInt 0)), (6, .int (Int32.ofInt 0)), (0, .ref (A 133)), (1, .int (Int32.ofInt x)), (2, .long aj), (4, .long bj)]) (show cdA 2 4 = some (.istore 7, 2, 0, 0, 0) from rfl) (by decide) (fun _ h => h) ?_
  refine z_const X (show cdA 2 6 = some (.iconst 0, 1, 0, 0, 0) from rfl) ?_
  refine z_store X (lv' := [(8, .int (Int32.ofInt 0)), (7, .int (Int32.ofInt 0)), (6, .int (Int32.ofInt 0)), (0, .ref (A 133)), (1, .int (Int32.ofInt x)), (2, .long aj), (4, .long bj)]) (show cdA 2 7 = some (.istore 8, 2, 0, 0, 0) from rfl) (by decide) (fun _ h => h) ?_
  refine z_const X (show cdA 2 9 = some (.iconst 0, 1, 0, 0, 0) from rfl) ?_
  refine z_store X (lv' := [(9, .int (Int32.ofInt 0)), (8, .int (Int32.ofInt 0)), (7, .int (Int32.ofInt 0)), (6, .int (Int32.ofInt 0)), (0, .ref (A 133)), (1, .int (Int32.ofInt x)), (2, .long aj), (4, .long bj)]) (show cdA 2 10 = some (.istore 9, 2, 0, 0, 0) from rfl) (by decide) (fun _ h => h) ?_
  refine WS_lv (lv := [(0, .ref (A 133)), (1, .int (Int32.ofInt x)), (2, .long aj), (4, .long bj), (6, .int (Int32.ofInt 0)), (7, .int (Int32.ofInt 0)), (8, .int (Int32.ofInt 0)), (9, .int (Int32.ofInt 0))]) (List.forall_mem_cons.mpr ⟨(List.Mem.tail _ (List.Mem.tail _ (List.Mem.tail _ (List.Mem.tail _ (List.Mem.head _))))), (List.forall_mem_cons.mpr ⟨(List.Mem.tail _ (List.Mem.tail _ (List.Mem.tail _ (List.Mem.tail _ (List.Mem.tail _ (List.Mem.head _)))))), (List.forall_mem_cons.mpr ⟨(List.Mem.tail _ (List.Mem.tail _ (List.Mem.tail _ (List.Mem.tail _ (List.Mem.tail _ (List.Mem.tail _ (List.Mem.head _))))))), (List.forall_mem_cons.mpr ⟨(List.Mem.tail _ (List.Mem.tail _ (List.Mem.tail _ (List.Mem.tail _ (List.Mem.tail _ (List.Mem.tail _ (List.Mem.tail _ (List.Mem.head _)))))))), (List.forall_mem_cons.mpr ⟨(List.Mem.tail _ (List.Mem.tail _ (List.Mem.tail _ (List.Mem.head _)))), (List.forall_mem_cons.mpr ⟨(List.Mem.tail _ (List.Mem.tail _ (List.Mem.head _))), (List.forall_mem_cons.mpr ⟨(List.Mem.tail _ (List.Mem.head _)), (List.forall_mem_cons.mpr ⟨(List.Mem.head _), (fun q h => absurd h List.not_mem_nil)⟩)⟩)⟩)⟩)⟩)⟩)⟩)⟩) ?_
  refine L12 ((5 - 0 : Int).toNat + 1) s x aj bj 0 0 0 0 I F (by first | exact ⟨And.intro (p0.1) (p0.2), And.intro (by decide) (by decide), And.intro (by decide) (by decide), And.intro (by decide) (by decide), by decide, by decide, p1⟩ | omega) (Nat.lt_succ_self _) ?_
  intro s2 x3 x4 x5 x6 Is2 Fs2 hs2
  have b7 : (0 : Int) ≤ iI s2 58 ∧ iI s2 58 ≤ 12 := Is2.1 58
  refine z_aload_n X (x := A 133) (show cdA 2 148 = some (.aload_n 0, 1, 0, 0, 0) from rfl) (List.Mem.head _) ?_
  refine s_getR X 133 (show cdA 2 149 = some (.getfield 15, 3, 0, 4, 0) from rfl) (by decide) rfl rfl ?_
  refine z_aload_n X (x := A 133) (show cdA 2 152 = some (.aload_n 0, 1, 0, 0, 0) from rfl) (List.Mem.head _) ?_
  refine z_getI X 133 (show cdA 2 153 = some (.getfield 57, 3, 0, 2, 0) from rfl) (by decide) rfl rfl ?_
  have b8 : (0 : Int) ≤ iI s2 58 ∧ iI s2 58 ≤ 12 := Is2.1 58
  refine z_load X (x := x3) (show cdA 2 156 = some (.iload 6, 2, 0, 0, 0) from rfl) (List.Mem.tail _ (List.Mem.tail _ (List.Mem.tail _ (List.Mem.tail _ (List.Mem.head _))))) ?_
  refine z_ast X 135 (show cdA 2 158 = some (.iastore, 1, 0, 0, 0) from rfl) (by decide) rfl (by first | exact b8.1 | omega) (show (iI s2 58) < 12 by first | exact oq_0ddfcfee hs2.2.2.2.2.2.2 | omega) (by decide) ?_
  obtain ⟨s9, hs9⟩ : ∃ x0, x0 = uC s2 117 ((iI s2 58)).toNat (Int32.ofInt x3) := ⟨_, rfl⟩
  rw [← hs9]
  have Is9 : Bd s9 := by rw [hs9]; exact bd_C Is2 (show ((-2147483648) : Int) ≤ x3 ∧ x3 ≤ 2147483647 by first | exact ⟨hs2.2.1.1, hs2.2.1.2⟩ | omega) ⟨by first | exact hs2.2.1.1 | omega, by first | exact hs2.2.1.2 | omega⟩
  have Fs9 := fm_C (i := ((iI s2 58)).toNat) (x := Int32.ofInt x3) Fs2 (show 117 ∈ _ by decide)
  rw [← hs9] at Fs9
  have ws9_58 : iI s9 58 = iI s2 58 := by rw [hs9]; rfl
  refine z_aload_n X (x := A 133) (show cdA 2 159 = some (.aload_n 0, 1, 0, 0, 0) from rfl) (List.Mem.head _) ?_
  refine s_getR X 133 (show cdA 2 160 = some (.getfield 18, 3, 0, 5, 0) from rfl) (by decide) rfl rfl ?_
  refine z_aload_n X (x := A 133) (show cdA 2 163 = some (.aload_n 0, 1, 0, 0, 0) from rfl) (List.Mem.head _) ?_
  refine z_getI X 133 (show cdA 2 164 = some (.getfield 57, 3, 0, 2, 0) from rfl) (by decide) rfl rfl ?_
  have b10 : (0 : Int) ≤ iI s9 58 ∧ iI s9 58 ≤ 12 := Is9.1 58
  refine z_load X (x := x4) (show cdA 2 167 = some (.iload 7, 2, 0, 0, 0) from rfl) (List.Mem.tail _ (List.Mem.tail _ (List.Mem.tail _ (List.Mem.tail _ (List.Mem.tail _ (List.Mem.head _)))))) ?_
  refine z_ast X 136 (show cdA 2 169 = some (.iastore, 1, 0, 0, 0) from rfl) (by decide) rfl (by first | exact b10.1 | omega) (show (iI s9 58) < 12 by first | exact oq_210fcd76 ws9_58 hs2.2.2.2.2.2.2 | omega) (by decide) ?_
  obtain ⟨s11, hs11⟩ : ∃ x0, x0 = uC s9 118 ((iI s9 58)).toNat (Int32.ofInt x4) := ⟨_, rfl⟩
  rw [← hs11]
  have Is11 : Bd s11 := by rw [hs11]; exact bd_C Is9 (show ((-2147483648) : Int) ≤ x4 ∧ x4 ≤ 2147483647 by first | exact ⟨hs2.2.2.1.1, hs2.2.2.1.2⟩ | omega) ⟨by first | exact hs2.2.2.1.1 | omega, by first | exact hs2.2.2.1.2 | omega⟩
  have Fs11 := fm_C (i := ((iI s9 58)).toNat) (x := Int32.ofInt x4) Fs9 (show 118 ∈ _ by decide)
  rw [← hs11] at Fs11
  have ws11_58 : iI s11 58 = iI s9 58 := by rw [hs11]; rfl
  refine z_aload_n X (x := A 133) (show cdA 2 170 = some (.aload_n 0, 1, 0, 0, 0) from rfl) (List.Mem.head _) ?_
  refine s_getR X 133 (show cdA 2 171 = some (.getfield 21, 3, 0, 6, 0) from rfl) (by decide) rfl rfl ?_
  refine z_aload_n X (x := A 133) (show cdA 2 174 = some (.aload_n 0, 1, 0, 0, 0) from rfl) (List.Mem.head _) ?_
  refine z_getI X 133 (show cdA 2 175 = some (.getfield 57, 3, 0, 2, 0) from rfl) (by decide) rfl rfl ?_
  have b12 : (0 : Int) ≤ iI s11 58 ∧ iI s11 58 ≤ 12 := Is11.1 58
  refine z_load X (x := x5) (show cdA 2 178 = some (.iload 8, 2, 0, 0, 0) from rfl) (List.Mem.tail _ (List.Mem.tail _ (List.Mem.tail _ (List.Mem.tail _ (List.Mem.tail _ (List.Mem.tail _ (List.Mem.head _))))))) ?_
  refine z_ast X 137 (show cdA 2 180 = some (.iastore, 1, 0, 0, 0) from rfl) (by decide) rfl (by first | exact b12.1 | omega) (show (iI s11 58) < 12 by first | exact oq_e2284db0 ws11_58 ws9_58 hs2.2.2.2.2.2.2 | omega) (by decide) ?_
  obtain ⟨s13, hs13⟩ : ∃ x0, x0 = uC s11 119 ((iI s11 58)).toNat (Int32.ofInt x5) := ⟨_, rfl⟩
  rw [← hs13]
  have Is13 : Bd s13 := by rw [hs13]; exact bd_C Is11 (show ((-2147483648) : Int) ≤ x5 ∧ x5 ≤ 2147483647 by first | exact ⟨hs2.2.2.2.1.1, hs2.2.2.2.1.2⟩ | omega) ⟨by first | exact hs2.2.2.2.1.1 | omega, by first | exact hs2.2.2.2.1.2 | omega⟩
  have Fs13 := fm_C (i := ((iI s11 58)).toNat) (x := Int32.ofInt x5) Fs11 (show 119 ∈ _ by decide)
  rw [← hs13] at Fs13
  have ws13_58 : iI s13 58 = iI s11 58 := by rw [hs13]; rfl
  exact w_vret X.1 q hRt (ax_d X (show cdA 2 181 = some (.return_, 1, 0, 0, 0) from rfl)) (Nat.zero_le _) (Nat.zero_le _) ⟨_, rfl, Is13, Fs13, rfl, trivial⟩
set_option maxRecDepth 4000 in
theorem c0_listen_133 (G : GX l s0 D tys a0 dT) (I : Bd s) {x : Int} {aj bj : Int64} (p0 : rng x) : CT l s0 D A dT 1 (rmN 1) [.ref (A 133), .long aj, .long bj, .int (Int32.ofInt x)] s (fun o t => Bd t ∧ Fm [58, 59] [123, 116, 117, 118, 119, 120, 121, 122] s t ∧ o = .inl none ∧ (True)) := by
  refine ct_ofX G (by decide) (Nat.le_of_ble_eq_true rfl) (fun k X E ET hRt hXt q => ?_)
  show WS k 0 [(0, .ref (A 133)), (1, .long aj), (3, .long bj), (5, .int (Int32.ofInt x))] [] _ 0 0
  have F : Fm [58, 59] [123, 116, 117, 118, 119, 120, 121, 122] s s := fm_rf _ _ s
  have b1 : (0 : Int) ≤ iI s 58 ∧ iI s 58 ≤ 12 := I.1 58
  have b2 : (0 : Int) ≤ iI s 59 ∧ iI s 59 ≤ 66 := I.1 59
  have b3 : (0 : Int) ≤ iI s 43 ∧ iI s 43 ≤ 12 := I.1 43
  have b4 : (0 : Int) ≤ iI s 44 ∧ iI s 44 ≤ 66 := I.1 44
  have L42 : ∀ (n : Nat) (t : PS) (av : Int64) (bv : Int64) (c : Int), Bd t → Fm [58, 59] [123, 116, 117, 118, 119, 120, 121, 122] s t → (0 ≤ c ∧ c ≤ 12 ∧ iI t 58 ≤ c) → (12 - c : Int).toNat < n → (∀ (t' : PS) (c' : Int), Bd t' → Fm [58, 59] [123, 116, 117, 118, 119, 120, 121, 122] s t' → (0 ≤ c' ∧ c' ≤ 12 ∧ iI t' 58 ≤ c') → WS k 125 [(0, .ref (A 133)), (1, .long av), (3, .long bv), (6, .int (Int32.ofInt c'))] [] (Wd A dT t') 0 0) → WS k 42 [(0, .ref (A 133)), (1, .long av), (3, .long bv), (6, .int (Int32.ofInt c))] [] (Wd A dT t) 0 0 := by
    intro n
    induction n with
    | zero =>
      intro t av bv c I F hi hm kx
      exact absurd hm (Nat.not_lt_zero _)
    | succ n ih =>
      intro t av bv c I F hi hm kx
      have b1001 : (0 : Int) ≤ iI t 58 ∧ iI t 58 ≤ 12 := I.1 58
      have b1002 : (0 : Int) ≤ iI t 59 ∧ iI t 59 ≤ 66 := I.1 59
      have b1003 : (0 : Int) ≤ iI t 43 ∧ iI t 43 ≤ 12 := I.1 43
      have b1004 : (0 : Int) ≤ iI t 44 ∧ iI t 44 ≤ 66 := I.1 44
      refine z_load X (x := c) (show cdA 1 42 = some (.iload 6, 2, 0, 0, 0) from rfl) (List.Mem.tail _ (List.Mem.tail _ (List.Mem.tail _ (List.Mem.head _)))) ?_
      refine z_aload_n X (x := A 133) (show cdA 1 44 = some (.aload_n 0, 1, 0, 0, 0) from rfl) (List.Mem.head _) ?_
      refine s_getR X 133 (show cdA 1 45 = some (.getfield 43, 3, 0, 0, 0) from rfl) (by decide) rfl rfl ?_
      refine z_getI X 68 (show cdA 1 48 = some (.getfield 61, 3, 9, 0, 0) from rfl) (by decide) rfl rfl ?_
      have b1005 : (0 : Int) ≤ iI t 43 ∧ iI t 43 ≤ 12 := I.1 43
      refine z_icmp_ge X (t := 125) (show cdA 1 51 = some (.if_icmp .ge 74, 3, 3, 0, 0) from rfl) (by decide) ⟨by first | exact oq_fa4e5087 hi.1 | omega, by first | exact oq_78843a64 hi.2.1 | omega⟩ (rng_to _) (fun g1006 => ?_) (fun g1006 => ?_)
      ·
        refine WS_lv (lv := [(0, .ref (A 133)), (1, .long av), (3, .long bv), (6, .int (Int32.ofInt c))]) (List.forall_mem_cons.mpr ⟨(List.Mem.head _), (List.forall_mem_cons.mpr ⟨(List.Mem.tail _ (List.Mem.head _)), (List.forall_mem_cons.mpr ⟨(List.Mem.tail _ (List.Mem.tail _ (List.Mem.head _))), (List.forall_mem_cons.mpr ⟨(List.Mem.tail _ (List.Mem.tail _ (List.Mem.tail _ (List.Mem.head _)))), (fun q h => absurd h List.not_mem_nil)⟩)⟩)⟩)⟩) ?_
        exact kx _ c I F (by first | exact ⟨hi.1, hi.2.1, hi.2.2⟩ | omega)
      ·
        refine z_aload_n X (x := A 133) (show cdA 1 54 = some (.aload_n 0, 1, 0, 0, 0) from rfl) (List.Mem.head _) ?_
        refine s_getR X 133 (show cdA 1 55 = some (.getfield 43, 3, 0, 0, 0) from rfl) (by decide) rfl rfl ?_
        refine s_getR X 68 (show cdA 1 58 = some (.getfield 64, 3, 9, 3, 0) from rfl) (by decide) rfl rfl ?_
        refine z_load X (x := c) (show cdA 1 61 = some (.iload 6, 2, 0, 0, 0) from rfl) (List.Mem.tail _ (List.Mem.tail _ (List.Mem.tail _ (List.Mem.head _)))) ?_
        refine z_const X (show cdA 1 63 = some (.iconst 2, 1, 0, 0, 0) from rfl) ?_
        refine z_mul X (show cdA 1 64 = some (.imul, 1, 0, 0, 0) from rfl) ?_
        refine z_lald X 71 (show cdA 1 65 = some (.laload, 1, 0, 0, 0) from rfl) (by decide) rfl (by first | exact oq_cfc6ac54 hi.1 | omega) (show (c * 2) < 24 by first | exact oq_e062d2c8 g1006 b1005.2 | omega) (by decide) (fun j1007 => ?_)
        refine w_lload_n X.1 (ax_d X (show cdA 1 66 = some (.lload_n 1, 1, 0, 0, 0) from rfl)) (x := av) (List.Mem.tail _ (List.Mem.head _)) ?_
        refine w_land X.1 (ax_d X (show cdA 1 67 = some (.land, 1, 0, 0, 0) from rfl)) ?_
        refine z_anyJ (fun j1008 => ?_)
        refine z_aload_n X (x := A 133) (show cdA 1 68 = some (.aload_n 0, 1, 0, 0, 0) from rfl) (List.Mem.head _) ?_
        refine s_getR X 133 (show cdA 1 69 = some (.getfield 43, 3, 0, 0, 0) from rfl) (by decide) rfl rfl ?_
        refine s_getR X 68 (show cdA 1 72 = some (.getfield 64, 3, 9, 3, 0) from rfl) (by decide) rfl rfl ?_
        refine z_load X (x := c) (show cdA 1 75 = some (.iload 6, 2, 0, 0, 0) from rfl) (List.Mem.tail _ (List.Mem.tail _ (List.Mem.tail _ (List.Mem.head _)))) ?_
        refine z_const X (show cdA 1 77 = some (.iconst 2, 1, 0, 0, 0) from rfl) ?_
        refine z_mul X (show cdA 1 78 = some (.imul, 1, 0, 0, 0) from rfl) ?_
        refine z_const X (show cdA 1 79 = some (.iconst 1, 1, 0, 0, 0) from rfl) ?_
        refine z_add X (show cdA 1 80 = some (.iadd, 1, 0, 0, 0) from rfl) ?_
        refine z_lald X 71 (show cdA 1 81 = some (.laload, 1, 0, 0, 0) from rfl) (by decide) rfl (by first | exact oq_8a3e0277 hi.1 | omega) (show ((c * 2) + 1) < 24 by first | exact oq_0edc0603 g1006 b1005.2 | omega) (by decide) (fun j1009 => ?_)
        refine w_lload_n X.1 (ax_d X (show cdA 1 82 = some (.lload_n 3, 1, 0, 0, 0) from rfl)) (x := bv) (List.Mem.tail _ (List.Mem.tail _ (List.Mem.head _))) ?_
        refine w_land X.1 (ax_d X (show cdA 1 83 = some (.land, 1, 0, 0, 0) from rfl)) ?_
        refine z_anyJ (fun j1010 => ?_)
        refine w_lor X.1 (ax_d X (show cdA 1 84 = some (.lor, 1, 0, 0, 0) from rfl)) ?_
        refine z_anyJ (fun j1011 => ?_)
        refine w_lconst X.1 (ax_d X (show cdA 1 85 = some (.lconst 0, 1, 0, 0, 0) from rfl)) rfl ?_
        refine z_anyJ (fun j1012 => ?_)
        refine w_lcmp X.1 (ax_d X (show cdA 1 86 = some (.lcmp, 1, 0, 0, 0) from rfl)) ?_
        refine z_any (fun y1013 hy1013 => ?_)
        refine z_if_eq X (t := 119) (show cdA 1 87 = some (.ifCond .eq 32, 3, 0, 0, 0) from rfl) (by decide) hy1013 (fun g1014 => ?_) (fun g1014 => ?_)
        ·
          refine z_inc X (x := c) (lv' := [(6, .int (Int32.ofInt (c + 1))), (0, .ref (A 133)), (1, .long av), (3, .long bv)]) (show cdA 1 119 = some (.iinc 6 1, 3, 0, 0, 0) from rfl) (by decide) (List.Mem.tail _ (List.Mem.tail _ (List.Mem.tail _ (List.Mem.head _)))) (fun _ h => h) ?_
          refine z_goto X (t := 42) (show cdA 1 122 = some (.goto (-80), 3, 0, 0, 0) from rfl) (by decide) ?_
          refine WS_lv (lv := [(0, .ref (A 133)), (1, .long av), (3, .long bv), (6, .int (Int32.ofInt (c + 1)))]) (List.forall_mem_cons.mpr ⟨(List.Mem.tail _ (List.Mem.head _)), (List.forall_mem_cons.mpr ⟨(List.Mem.tail _ (List.Mem.tail _ (List.Mem.head _))), (List.forall_mem_cons.mpr ⟨(List.Mem.tail _ (List.Mem.tail _ (List.Mem.tail _ (List.Mem.head _)))), (List.forall_mem_cons.mpr ⟨(List.Mem.head _), (fun q h => absurd h List.not_mem_nil)⟩)⟩)⟩)⟩) ?_
          exact ih _ av bv (c + 1) I F (by first | exact ⟨oq_54f49eb5 hi.1, oq_4dae995e g1006 b1005.2, oq_03182e9e hi.2.2⟩ | omega) (by first | exact qk_me hm (by decide) (oq_b575e8c1 g1006 b1005.2) | omega) kx
        ·
          refine z_aload_n X (x := A 133) (show cdA 1 90 = some (.aload_n 0, 1, 0, 0, 0) from rfl) (List.Mem.head _) ?_
          refine s_getR X 133 (show cdA 1 91 = some (.getfield 9, 3, 0, 3, 0) from rfl) (by decide) rfl rfl ?_
          refine z_aload_n X (x := A 133) (show cdA 1 94 = some (.aload_n 0, 1, 0, 0, 0) from rfl) (List.Mem.head _) ?_
          refine z_getI X 133 (show cdA 1 95 = some (.getfield 57, 3, 0, 2, 0) from rfl) (by decide) rfl rfl ?_
          have b1015 : (0 : Int) ≤ iI t 58 ∧ iI t 58 ≤ 12 := I.1 58
          refine z_load X (x := c) (show cdA 1 98 = some (.iload 6, 2, 0, 0, 0) from rfl) (List.Mem.tail _ (List.Mem.tail _ (List.Mem.tail _ (List.Mem.head _)))) ?_
          refine z_ast X 134 (show cdA 1 100 = some (.iastore, 1, 0, 0, 0) from rfl) (by decide) rfl (by first | exact b1015.1 | omega) (show (iI t 58) < 12 by first | exact oq_79196c7f hi.2.2 g1006 b1005.2 | omega) (by decide) ?_
          obtain ⟨s1016, hs1016⟩ : ∃ x0, x0 = uC t 116 ((iI t 58)).toNat (Int32.ofInt c) := ⟨_, rfl⟩
          rw [← hs1016]
          have Is1016 : Bd s1016 := by rw [hs1016]; exact bd_C I (show (0 : Int) ≤ c ∧ c ≤ 11 by first | exact ⟨hi.1, oq_e4d7f3c5 g1006 b1005.2⟩ | omega) ⟨by first | exact oq_fa4e5087 hi.1 | omega, by first | exact oq_78843a64 hi.2.1 | omega⟩
          have Fs1016 := fm_C (i := ((iI t 58)).toNat) (x := Int32.ofInt c) F (show 116 ∈ _ by decide)
          rw [← hs1016] at Fs1016
          have ws1016_58 : iI s1016 58 = iI t 58 := by rw [hs1016]; rfl
          have ws1016_59 : iI s1016 59 = iI t 59 := by rw [hs1016]; rfl
          have ws1016_43 : iI s1016 43 = iI t 43 := by rw [hs1016]; rfl
          have ws1016_44 : iI s1016 44 = iI t 44 := by rw [hs1016]; rfl
          refine z_aload_n X (x := A 133) (show cdA 1 101 = some (.aload_n 0, 1, 0, 0, 0) from rfl) (List.Mem.head _) ?_
          refine z_load X (x := c) (show cdA 1 102 = some (.iload 6, 2, 0, 0, 0) from rfl) (List.Mem.tail _ (List.Mem.tail _ (List.Mem.tail _ (List.Mem.head _)))) ?_
          refine w_lload_n X.1 (ax_d X (show cdA 1 104 = some (.lload_n 1, 1, 0, 0, 0) from rfl)) (x := av) (List.Mem.tail _ (List.Mem.head _)) ?_
          refine w_lload_n X.1 (ax_d X (show cdA 1 105 = some (.lload_n 3, 1, 0, 0, 0) from rfl)) (x := bv) (List.Mem.tail _ (List.Mem.tail _ (List.Mem.head _))) ?_
          refine z_callV X 133 (rm := rmN 2) (As := [.int (Int32.ofInt c), .long av, .long bv]) (st := []) (show cdA 1 106 = some (.invokevirtual 68, 3, 2, 0, 0) from rfl) rfl (by decide) rfl (by rw [E.1, E.2.1, E.2.2.1]; exact c0_followSteps_133 G Is1016 (by first | exact ⟨hi.1, oq_e4d7f3c5 g1006 b1005.2⟩ | omega) (by first | exact oq_2f168143 ws1016_58 hi.2.2 g1006 b1005.2 | omega)) ⟨by rw [E.2.2.2]; exact (show (rmN 2).frames + 1 ≤ (rmN 1).frames by decide), by rw [E.2.2.2]; exact (show 8 + (mNL (miB 2) + 11) + (rmN 2).locals ≤ (rmN 1).locals by decide), by rw [E.2.2.2]; exact (show 0 + (rmN 2).cells ≤ (rmN 1).cells by decide), by rw [E.2.2.2]; exact (show 0 + (rmN 2).slots ≤ (rmN 1).slots by decide)⟩ (Nat.le_of_ble_eq_true rfl) (fun vv s1017 hq => ?_) (fun ee s1017 hq => ?_)
          rotate_left
          · obtain ⟨Is1017, Fs1017, hv, hps1017⟩ := hq; cases hv
          obtain ⟨Is1017, Fs1017, hv, hps1017⟩ := hq
          cases hv
          have Gs1017 := fm_ts Fs1016 Fs1017 (by decide) (by decide)
          have ws1017_58 : iI s1017 58 = iI s1016 58 := fm_i Fs1017 (by decide)
          have ws1017_59 : iI s1017 59 = iI s1016 59 := fm_i Fs1017 (by decide)
          have ws1017_43 : iI s1017 43 = iI s1016 43 := fm_i Fs1017 (by decide)
          have ws1017_44 : iI s1017 44 = iI s1016 44 := fm_i Fs1017 (by decide)
          show WS k 109 [(0, .ref (A 133)), (1, .long av), (3, .long bv), (6, .int (Int32.ofInt c))] [] (Wd A dT s1017) 0 0
          refine z_aload_n X (x := A 133) (show cdA 1 109 = some (.aload_n 0, 1, 0, 0, 0) from rfl) (List.Mem.head _) ?_
          refine w_dup X.1 (ax_d X (show cdA 1 110 = some (.dup, 1, 0, 0, 0) from rfl)) rfl ?_
          refine z_getI X 133 (show cdA 1 111 = some (.getfield 57, 3, 0, 2, 0) from rfl) (by decide) rfl rfl ?_
          have b1019 : (0 : Int) ≤ iI s1017 58 ∧ iI s1017 58 ≤ 12 := Is1017.1 58
          refine z_const X (show cdA 1 114 = some (.iconst 1, 1, 0, 0, 0) from rfl) ?_
          refine z_add X (show cdA 1 115 = some (.iadd, 1, 0, 0, 0) from rfl) ?_
          refine s_putI X 133 (show cdA 1 116 = some (.putfield 57, 3, 0, 2, 0) from rfl) (by decide) rfl rfl (by decide) rfl rfl rfl ?_
          obtain ⟨s1020, hs1020⟩ : ∃ x0, x0 = uI s1017 58 (Int32.ofInt ((iI s1017 58) + 1)) := ⟨_, rfl⟩
          rw [← hs1020]
          have Is1020 : Bd s1020 := by rw [hs1020]; exact bd_I Is1017 (show (0 : Int) ≤ ((iI s1017 58) + 1) ∧ ((iI s1017 58) + 1) ≤ 12 by first | exact ⟨oq_54f49eb5 b1019.1, oq_1fea0193 ws1017_58 ws1016_58 hi.2.2 g1006 b1005.2⟩ | omega) ⟨by first | exact oq_74de1e16 b1019.1 | omega, by first | exact oq_76a8a5b7 b1019.2 | omega⟩
          have Fs1020 := fm_I (x := Int32.ofInt ((iI s1017 58) + 1)) Gs1017 (show 58 ∈ _ by decide)
          rw [← hs1020] at Fs1020
          have vs1020 : iI s1020 58 = ((iI s1017 58) + 1) := by rw [hs1020]; exact iI_u ⟨by first | exact oq_74de1e16 b1019.1 | omega, by first | exact oq_76a8a5b7 b1019.2 | omega⟩
          have ws1020_59 : iI s1020 59 = iI s1017 59 := by rw [hs1020]; rfl
          have ws1020_43 : iI s1020 43 = iI s1017 43 := by rw [hs1020]; rfl
          have ws1020_44 : iI s1020 44 = iI s1017 44 := by rw [hs1020]; rfl
          refine z_inc X (x := c) (lv' := [(6, .int (Int32.ofInt (c + 1))), (0, .ref (A 133)), (1, .long av), (3, .long bv)]) (show cdA 1 119 = some (.iinc 6 1, 3, 0, 0, 0) from rfl) (by decide) (List.Mem.tail _ (List.Mem.tail _ (List.Mem.tail _ (List.Mem.head _)))) (fun _ h => h) ?_
          refine z_goto X (t := 42) (show cdA 1 122 = some (.goto (-80), 3, 0, 0, 0) from rfl) (by decide) ?_
          refine WS_lv (lv := [(0, .ref (A 133)), (1, .long av), (3, .long bv), (6, .int (Int32.ofInt (c + 1)))]) (List.forall_mem_cons.mpr ⟨(List.Mem.tail _ (List.Mem.head _)), (List.forall_mem_cons.mpr ⟨(List.Mem.tail _ (List.Mem.tail _ (List.Mem.head _))), (List.forall_mem_cons.mpr ⟨(List.Mem.tail _ (List.Mem.tail _ (List.Mem.tail _ (List.Mem.head _)))), (List.forall_mem_cons.mpr ⟨(List.Mem.head _), (fun q h => absurd h List.not_mem_nil)⟩)⟩)⟩)⟩) ?_
          exact ih _ av bv (c + 1) Is1020 Fs1020 (by first | exact ⟨oq_54f49eb5 hi.1, oq_4dae995e g1006 b1005.2, oq_ecb13324 vs1020 hi.2.2 ws1017_58 ws1016_58⟩ | omega) (by first | exact qk_me hm (by decide) (oq_b575e8c1 g1006 b1005.2) | omega) kx
  have L133 : ∀ (n : Nat) (t : PS) (av : Int64) (bv : Int64) (c : Int), Bd t → Fm [58, 59] [123, 116, 117, 118, 119, 120, 121, 122] s t → (0 ≤ c ∧ c ≤ 66 ∧ iI t 59 ≤ c) → (66 - c : Int).toNat < n → (∀ (t' : PS) (c' : Int), Bd t' → Fm [58, 59] [123, 116, 117, 118, 119, 120, 121, 122] s t' → (0 ≤ c' ∧ c' ≤ 66 ∧ iI t' 59 ≤ c') → WS k 260 [(0, .ref (A 133)), (1, .long av), (3, .long bv), (6, .int (Int32.ofInt c'))] [] (Wd A dT t') 0 0) → WS k 133 [(0, .ref (A 133)), (1, .long av), (3, .long bv), (6, .int (Int32.ofInt c))] [] (Wd A dT t) 0 0 := by
    intro n
    induction n with
    | zero =>
      intro t av bv c I F hi hm kx
      exact absurd hm (Nat.not_lt_zero _)
    | succ n ih =>
      intro t av bv c I F hi hm kx
      have b2001 : (0 : Int) ≤ iI t 58 ∧ iI t 58 ≤ 12 := I.1 58
      have b2002 : (0 : Int) ≤ iI t 59 ∧ iI t 59 ≤ 66 := I.1 59
      have b2003 : (0 : Int) ≤ iI t 43 ∧ iI t 43 ≤ 12 := I.1 43
      have b2004 : (0 : Int) ≤ iI t 44 ∧ iI t 44 ≤ 66 := I.1 44
      refine z_load X (x := c) (show cdA 1 133 = some (.iload 6, 2, 0, 0, 0) from rfl) (List.Mem.tail _ (List.Mem.tail _ (List.Mem.tail _ (List.Mem.head _)))) ?_
      refine z_aload_n X (x := A 133) (show cdA 1 135 = some (.aload_n 0, 1, 0, 0, 0) from rfl) (List.Mem.head _) ?_
      refine s_getR X 133 (show cdA 1 136 = some (.getfield 43, 3, 0, 0, 0) from rfl) (by decide) rfl rfl ?_
      refine z_getI X 68 (show cdA 1 139 = some (.getfield 75, 3, 9, 8, 0) from rfl) (by decide) rfl rfl ?_
      have b2005 : (0 : Int) ≤ iI t 44 ∧ iI t 44 ≤ 66 := I.1 44
      refine z_icmp_ge X (t := 260) (show cdA 1 142 = some (.if_icmp .ge 118, 3, 3, 0, 0) from rfl) (by decide) ⟨by first | exact oq_fa4e5087 hi.1 | omega, by first | exact oq_64f2e926 hi.2.1 | omega⟩ (rng_to _) (fun g2006 => ?_) (fun g2006 => ?_)
      ·
        refine WS_lv (lv := [(0, .ref (A 133)), (1, .long av), (3, .long bv), (6, .int (Int32.ofInt c))]) (List.forall_mem_cons.mpr ⟨(List.Mem.head _), (List.forall_mem_cons.mpr ⟨(List.Mem.tail _ (List.Mem.head _)), (List.forall_mem_cons.mpr ⟨(List.Mem.tail _ (List.Mem.tail _ (List.Mem.head _))), (List.forall_mem_cons.mpr ⟨(List.Mem.tail _ (List.Mem.tail _ (List.Mem.tail _ (List.Mem.head _)))), (fun q h => absurd h List.not_mem_nil)⟩)⟩)⟩)⟩) ?_
        exact kx _ c I F (by first | exact ⟨hi.1, hi.2.1, hi.2.2⟩ | omega)
      ·
        refine z_aload_n X (x := A 133) (show cdA 1 145 = some (.aload_n 0, 1, 0, 0, 0) from rfl) (List.Mem.head _) ?_
        refine s_getR X 133 (show cdA 1 146 = some (.getfield 43, 3, 0, 0, 0) from rfl) (by decide) rfl rfl ?_
        refine s_getR X 68 (show cdA 1 149 = some (.getfield 78, 3, 9, 7, 0) from rfl) (by decide) rfl rfl ?_
        refine z_load X (x := c) (show cdA 1 152 = some (.iload 6, 2, 0, 0, 0) from rfl) (List.Mem.tail _ (List.Mem.tail _ (List.Mem.tail _ (List.Mem.head _)))) ?_
        refine z_const X (show cdA 1 154 = some (.iconst 2, 1, 0, 0, 0) from rfl) ?_
        refine z_mul X (show cdA 1 155 = some (.imul, 1, 0, 0, 0) from rfl) ?_
        refine z_lald X 75 (show cdA 1 156 = some (.laload, 1, 0, 0, 0) from rfl) (by decide) rfl (by first | exact oq_cfc6ac54 hi.1 | omega) (show (c * 2) < 132 by first | exact oq_ff78435a g2006 b2005.2 | omega) (by decide) (fun j2007 => ?_)
        refine w_lload_n X.1 (ax_d X (show cdA 1 157 = some (.lload_n 1, 1, 0, 0, 0) from rfl)) (x := av) (List.Mem.tail _ (List.Mem.head _)) ?_
        refine w_land X.1 (ax_d X (show cdA 1 158 = some (.land, 1, 0, 0, 0) from rfl)) ?_
        refine z_anyJ (fun j2008 => ?_)
        refine z_callS X (rm := rmN 298) (As := [.long j2008]) (st := []) (show cdA 1 159 = some (.invokestatic 51, 3, 298, 1, 0) from rfl) rfl (by rw [E.1, E.2.1, E.2.2.1]; exact j_bitL G I ) ⟨by rw [E.2.2.2]; exact (show (rmN 298).frames + 1 ≤ (rmN 1).frames by decide), by rw [E.2.2.2]; exact (show 8 + (mNL (miB 298) + 11) + (rmN 298).locals ≤ (rmN 1).locals by decide), by rw [E.2.2.2]; exact (show 0 + (rmN 298).cells ≤ (rmN 1).cells by decide), by rw [E.2.2.2]; exact (show 0 + (rmN 298).slots ≤ (rmN 1).slots by decide)⟩ (Nat.le_of_ble_eq_true rfl) (fun vv s2009 hq => ?_) (fun ee s2009 hq => ?_)
        rotate_left
        · obtain ⟨Is2009, Fs2009, e2010, hv, hrs2009, hps2009⟩ := hq; cases hv
        obtain ⟨Is2009, Fs2009, e2010, hv, hrs2009, hps2009⟩ := hq
        cases hv
        have Gs2009 := fm_ts F Fs2009 (by decide) (by decide)
        have ws2009_58 : iI s2009 58 = iI t 58 := fm_i Fs2009 (by decide)
        have ws2009_59 : iI s2009 59 = iI t 59 := fm_i Fs2009 (by decide)
        have ws2009_43 : iI s2009 43 = iI t 43 := fm_i Fs2009 (by decide)
        have ws2009_44 : iI s2009 44 = iI t 44 := fm_i Fs2009 (by decide)
        show WS k 162 [(0, .ref (A 133)), (1, .long av), (3, .long bv), (6, .int (Int32.ofInt c))] [.int (Int32.ofInt e2010)] (Wd A dT s2009) 0 0
        refine z_aload_n X (x := A 133) (show cdA 1 162 = some (.aload_n 0, 1, 0, 0, 0) from rfl) (List.Mem.head _) ?_
        refine s_getR X 133 (show cdA 1 163 = some (.getfield 43, 3, 0, 0, 0) from rfl) (by decide) rfl rfl ?_
        refine s_getR X 68 (show cdA 1 166 = some (.getfield 78, 3, 9, 7, 0) from rfl) (by decide) rfl rfl ?_
        refine z_load X (x := c) (show cdA 1 169 = some (.iload 6, 2, 0, 0, 0) from rfl) (List.Mem.tail _ (List.Mem.tail _ (List.Mem.tail _ (List.Mem.head _)))) ?_
        refine z_const X (show cdA 1 171 = some (.iconst 2, 1, 0, 0, 0) from rfl) ?_
        refine z_mul X (show cdA 1 172 = some (.imul, 1, 0, 0, 0) from rfl) ?_
        refine z_const X (show cdA 1 173 = some (.iconst 1, 1, 0, 0, 0) from rfl) ?_
        refine z_add X (show cdA 1 174 = some (.iadd, 1, 0, 0, 0) from rfl) ?_
        refine z_lald X 75 (show cdA 1 175 = some (.laload, 1, 0, 0, 0) from rfl) (by decide) rfl (by first | exact oq_8a3e0277 hi.1 | omega) (show ((c * 2) + 1) < 132 by first | exact oq_643e2065 g2006 b2005.2 | omega) (by decide) (fun j2011 => ?_)
        refine w_lload_n X.1 (ax_d X (show cdA 1 176 = some (.lload_n 3, 1, 0, 0, 0) from rfl)) (x := bv) (List.Mem.tail _ (List.Mem.tail _ (List.Mem.head _))) ?_
        refine w_land X.1 (ax_d X (show cdA 1 177 = some (.land, 1, 0, 0, 0) from rfl)) ?_
        refine z_anyJ (fun j2012 => ?_)
        refine z_callS X (rm := rmN 298) (As := [.long j2012]) (st := [.int (Int32.ofInt e2010)]) (show cdA 1 178 = some (.invokestatic 51, 3, 298, 1, 0) from rfl) rfl (by rw [E.1, E.2.1, E.2.2.1]; exact j_bitL G Is2009 ) ⟨by rw [E.2.2.2]; exact (show (rmN 298).frames + 1 ≤ (rmN 1).frames by decide), by rw [E.2.2.2]; exact (show 8 + (mNL (miB 298) + 11) + (rmN 298).locals ≤ (rmN 1).locals by decide), by rw [E.2.2.2]; exact (show 0 + (rmN 298).cells ≤ (rmN 1).cells by decide), by rw [E.2.2.2]; exact (show 0 + (rmN 298).slots ≤ (rmN 1).slots by decide)⟩ (Nat.le_of_ble_eq_true rfl) (fun vv s2013 hq => ?_) (fun ee s2013 hq => ?_)
        rotate_left
        · obtain ⟨Is2013, Fs2013, e2014, hv, hrs2013, hps2013⟩ := hq; cases hv
        obtain ⟨Is2013, Fs2013, e2014, hv, hrs2013, hps2013⟩ := hq
        cases hv
        have Gs2013 := fm_ts Gs2009 Fs2013 (by decide) (by decide)
        have ws2013_58 : iI s2013 58 = iI s2009 58 := fm_i Fs2013 (by decide)
        have ws2013_59 : iI s2013 59 = iI s2009 59 := fm_i Fs2013 (by decide)
        have ws2013_43 : iI s2013 43 = iI s2009 43 := fm_i Fs2013 (by decide)
        have ws2013_44 : iI s2013 44 = iI s2009 44 := fm_i Fs2013 (by decide)
        show WS k 181 [(0, .ref (A 133)), (1, .long av), (3, .long bv), (6, .int (Int32.ofInt c))] [.int (Int32.ofInt e2014), .int (Int32.ofInt e2010)] (Wd A dT s2013) 0 0
        refine z_add X (show cdA 1 181 = some (.iadd, 1, 0, 0, 0) from rfl) ?_
        refine z_any (fun y2015 hy2015 => ?_)
        refine z_store X (lv' := [(7, .int (Int32.ofInt y2015)), (0, .ref (A 133)), (1, .long av), (3, .long bv), (6, .int (Int32.ofInt c))]) (show cdA 1 182 = some (.istore 7, 2, 0, 0, 0) from rfl) (by decide) (fun _ h => h) ?_
        refine z_load X (x := y2015) (show cdA 1 184 = some (.iload 7, 2, 0, 0, 0) from rfl) (List.Mem.head _) ?_
        refine z_if_le X (t := 254) (show cdA 1 186 = some (.ifCond .le 68, 3, 5, 0, 0) from rfl) (by decide) hy2015 (fun g2016 => ?_) (fun g2016 => ?_)
        ·
          refine z_inc X (x := c) (lv' := [(6, .int (Int32.ofInt (c + 1))), (7, .int (Int32.ofInt y2015)), (0, .ref (A 133)), (1, .long av), (3, .long bv)]) (show cdA 1 254 = some (.iinc 6 1, 3, 0, 0, 0) from rfl) (by decide) (List.Mem.tail _ (List.Mem.tail _ (List.Mem.tail _ (List.Mem.tail _ (List.Mem.head _))))) (fun _ h => h) ?_
          refine z_goto X (t := 133) (show cdA 1 257 = some (.goto (-124), 3, 0, 0, 0) from rfl) (by decide) ?_
          refine WS_lv (lv := [(0, .ref (A 133)), (1, .long av), (3, .long bv), (6, .int (Int32.ofInt (c + 1)))]) (List.forall_mem_cons.mpr ⟨(List.Mem.tail _ (List.Mem.tail _ (List.Mem.head _))), (List.forall_mem_cons.mpr ⟨(List.Mem.tail _ (List.Mem.tail _ (List.Mem.tail _ (List.Mem.head _)))), (List.forall_mem_cons.mpr ⟨(List.Mem.tail _ (List.Mem.tail _ (List.Mem.tail _ (List.Mem.tail _ (List.Mem.head _))))), (List.forall_mem_cons.mpr ⟨(List.Mem.head _), (fun q h => absurd h List.not_mem_nil)⟩)⟩)⟩)⟩) ?_
          exact ih _ av bv (c + 1) Is2013 Gs2013 (by first | exact ⟨oq_54f49eb5 hi.1, oq_319a18a4 g2006 b2005.2, oq_2e1f687c ws2013_59 hi.2.2 ws2009_59⟩ | omega) (by first | exact qk_me hm (by decide) (oq_dd0e9829 g2006 b2005.2) | omega) kx
        ·
          refine z_aload_n X (x := A 133) (show cdA 1 189 = some (.aload_n 0, 1, 0, 0, 0) from rfl) (List.Mem.tail _ (List.Mem.head _)) ?_
          refine s_getR X 133 (show cdA 1 190 = some (.getfield 26, 3, 0, 8, 0) from rfl) (by decide) rfl rfl ?_
          refine z_aload_n X (x := A 133) (show cdA 1 193 = some (.aload_n 0, 1, 0, 0, 0) from rfl) (List.Mem.tail _ (List.Mem.head _)) ?_
          refine z_getI X 133 (show cdA 1 194 = some (.getfield 72, 3, 0, 7, 0) from rfl) (by decide) rfl rfl ?_
          have b2017 : (0 : Int) ≤ iI s2013 59 ∧ iI s2013 59 ≤ 66 := Is2013.1 59
          refine z_aload_n X (x := A 133) (show cdA 1 197 = some (.aload_n 0, 1, 0, 0, 0) from rfl) (List.Mem.tail _ (List.Mem.head _)) ?_
          refine s_getR X 133 (show cdA 1 198 = some (.getfield 43, 3, 0, 0, 0) from rfl) (by decide) rfl rfl ?_
          refine s_getR X 68 (show cdA 1 201 = some (.getfield 81, 3, 9, 6, 0) from rfl) (by decide) rfl rfl ?_
          refine z_load X (x := c) (show cdA 1 204 = some (.iload 6, 2, 0, 0, 0) from rfl) (List.Mem.tail _ (List.Mem.tail _ (List.Mem.tail _ (List.Mem.tail _ (List.Mem.head _))))) ?_
          refine z_ald X 74 (show cdA 1 206 = some (.iaload, 1, 0, 0, 0) from rfl) (by decide) rfl (by first | exact hi.1 | omega) (show c < 66 by first | exact oq_256e4529 g2006 b2005.2 | omega) (by decide) ?_
          have b2018 : (0 : Int) ≤ iC s2013 62 (c).toNat ∧ iC s2013 62 (c).toNat ≤ 143 := Is2013.2 62 _ (show (c).toNat < 66 by first | exact oq_d7ff7873 g2006 b2005.2 | omega)
          refine z_bipush X (show cdA 1 207 = some (.bipush 12, 2, 0, 0, 12) from rfl) ?_
          refine z_quot X (show cdA 1 209 = some (.idiv, 1, 0, 0, 0) from rfl) (by first | exact b2018.1 | omega) (rng_to _) (by decide) (by decide) ?_
          refine z_ast X 138 (show cdA 1 210 = some (.iastore, 1, 0, 0, 0) from rfl) (by decide) rfl (by first | exact b2017.1 | omega) (show (iI s2013 59) < 66 by first | exact oq_141bb310 ws2013_59 ws2009_59 hi.2.2 g2006 b2005.2 | omega) (by decide) ?_
          obtain ⟨s2019, hs2019⟩ : ∃ x0, x0 = uC s2013 120 ((iI s2013 59)).toNat (Int32.ofInt ((iC s2013 62 (c).toNat) / 12)) := ⟨_, rfl⟩
          rw [← hs2019]
          have Is2019 : Bd s2019 := by rw [hs2019]; exact bd_C Is2013 (show (0 : Int) ≤ ((iC s2013 62 (c).toNat) / 12) ∧ ((iC s2013 62 (c).toNat) / 12) ≤ 11 by first | exact ⟨oq_37eb78e0 b2018.1, oq_a03fe580 b2018.2⟩ | omega) ⟨by first | exact oq_e17ab641 b2018.1 | omega, by first | exact oq_c285d9d6 b2018.2 | omega⟩
          have Fs2019 := fm_C (i := ((iI s2013 59)).toNat) (x := Int32.ofInt ((iC s2013 62 (c).toNat) / 12)) Gs2013 (show 120 ∈ _ by decide)
          rw [← hs2019] at Fs2019
          have ws2019_58 : iI s2019 58 = iI s2013 58 := by rw [hs2019]; rfl
          have ws2019_59 : iI s2019 59 = iI s2013 59 := by rw [hs2019]; rfl
          have ws2019_43 : iI s2019 43 = iI s2013 43 := by rw [hs2019]; rfl
          have ws2019_44 : iI s2019 44 = iI s2013 44 := by rw [hs2019]; rfl
          refine z_aload_n X (x := A 133) (show cdA 1 211 = some (.aload_n 0, 1, 0, 0, 0) from rfl) (List.Mem.tail _ (List.Mem.head _)) ?_
          refine s_getR X 133 (show cdA 1 212 = some (.getfield 29, 3, 0, 9, 0) from rfl) (by decide) rfl rfl ?_
          refine z_aload_n X (x := A 133) (show cdA 1 215 = some (.aload_n 0, 1, 0, 0, 0) from rfl) (List.Mem.tail _ (List.Mem.head _)) ?_
          refine z_getI X 133 (show cdA 1 216 = some (.getfield 72, 3, 0, 7, 0) from rfl) (by decide) rfl rfl ?_
          have b2020 : (0 : Int) ≤ iI s2019 59 ∧ iI s2019 59 ≤ 66 := Is2019.1 59
          refine z_aload_n X (x := A 133) (show cdA 1 219 = some (.aload_n 0, 1, 0, 0, 0) from rfl) (List.Mem.tail _ (List.Mem.head _)) ?_
          refine s_getR X 133 (show cdA 1 220 = some (.getfield 43, 3, 0, 0, 0) from rfl) (by decide) rfl rfl ?_
          refine s_getR X 68 (show cdA 1 223 = some (.getfield 81, 3, 9, 6, 0) from rfl) (by decide) rfl rfl ?_
          refine z_load X (x := c) (show cdA 1 226 = some (.iload 6, 2, 0, 0, 0) from rfl) (List.Mem.tail _ (List.Mem.tail _ (List.Mem.tail _ (List.Mem.tail _ (List.Mem.head _))))) ?_
          refine z_ald X 74 (show cdA 1 228 = some (.iaload, 1, 0, 0, 0) from rfl) (by decide) rfl (by first | exact hi.1 | omega) (show c < 66 by first | exact oq_256e4529 g2006 b2005.2 | omega) (by decide) ?_
          have b2021 : (0 : Int) ≤ iC s2019 62 (c).toNat ∧ iC s2019 62 (c).toNat ≤ 143 := Is2019.2 62 _ (show (c).toNat < 66 by first | exact oq_d7ff7873 g2006 b2005.2 | omega)
          refine z_bipush X (show cdA 1 229 = some (.bipush 12, 2, 0, 0, 12) from rfl) ?_
          refine z_mod X (show cdA 1 231 = some (.irem, 1, 0, 0, 0) from rfl) (by first | exact b2021.1 | omega) (rng_to _) (by decide) (by decide) ?_
          refine z_ast X 139 (show cdA 1 232 = some (.iastore, 1, 0, 0, 0) from rfl) (by decide) rfl (by first | exact b2020.1 | omega) (show (iI s2019 59) < 66 by first | exact oq_47fd6e20 ws2019_59 ws2013_59 ws2009_59 g2006 b2005.2 hi.2.2 | omega) (by decide) ?_
          obtain ⟨s2022, hs2022⟩ : ∃ x0, x0 = uC s2019 121 ((iI s2019 59)).toNat (Int32.ofInt ((iC s2019 62 (c).toNat) % 12)) := ⟨_, rfl⟩
          rw [← hs2022]
          have Is2022 : Bd s2022 := by rw [hs2022]; exact bd_C Is2019 (show (0 : Int) ≤ ((iC s2019 62 (c).toNat) % 12) ∧ ((iC s2019 62 (c).toNat) % 12) ≤ 11 by first | exact ⟨oq_b83041cc, oq_e286272e⟩ | omega) ⟨by first | exact oq_9d26ea27 | omega, by first | exact oq_6634e3d0 | omega⟩
          have Fs2022 := fm_C (i := ((iI s2019 59)).toNat) (x := Int32.ofInt ((iC s2019 62 (c).toNat) % 12)) Fs2019 (show 121 ∈ _ by decide)
          rw [← hs2022] at Fs2022
          have ws2022_58 : iI s2022 58 = iI s2019 58 := by rw [hs2022]; rfl
          have ws2022_59 : iI s2022 59 = iI s2019 59 := by rw [hs2022]; rfl
          have ws2022_43 : iI s2022 43 = iI s2019 43 := by rw [hs2022]; rfl
          have ws2022_44 : iI s2022 44 = iI s2019 44 := by rw [hs2022]; rfl
          refine z_aload_n X (x := A 133) (show cdA 1 233 = some (.aload_n 0, 1, 0, 0, 0) from rfl) (List.Mem.tail _ (List.Mem.head _)) ?_
          refine s_getR X 133 (show cdA 1 234 = some (.getfield 32, 3, 0, 10, 0) from rfl) (by decide) rfl rfl ?_
          refine z_aload_n X (x := A 133) (show cdA 1 237 = some (.aload_n 0, 1, 0, 0, 0) from rfl) (List.Mem.tail _ (List.Mem.head _)) ?_
          refine z_getI X 133 (show cdA 1 238 = some (.getfield 72, 3, 0, 7, 0) from rfl) (by decide) rfl rfl ?_
          have b2023 : (0 : Int) ≤ iI s2022 59 ∧ iI s2022 59 ≤ 66 := Is2022.1 59
          refine z_load X (x := y2015) (show cdA 1 241 = some (.iload 7, 2, 0, 0, 0) from rfl) (List.Mem.head _) ?_
          refine z_ast X 140 (show cdA 1 243 = some (.iastore, 1, 0, 0, 0) from rfl) (by decide) rfl (by first | exact b2023.1 | omega) (show (iI s2022 59) < 66 by first | exact oq_3af0036b ws2022_59 ws2019_59 ws2013_59 ws2009_59 g2006 b2005.2 hi.2.2 | omega) (by decide) ?_
          obtain ⟨s2024, hs2024⟩ : ∃ x0, x0 = uC s2022 122 ((iI s2022 59)).toNat (Int32.ofInt y2015) := ⟨_, rfl⟩
          rw [← hs2024]
          have Is2024 : Bd s2024 := by rw [hs2024]; exact bd_C Is2022 (show ((-2147483648) : Int) ≤ y2015 ∧ y2015 ≤ 2147483647 by first | exact ⟨hy2015.1, hy2015.2⟩ | omega) hy2015
          have Fs2024 := fm_C (i := ((iI s2022 59)).toNat) (x := Int32.ofInt y2015) Fs2022 (show 122 ∈ _ by decide)
          rw [← hs2024] at Fs2024
          have ws2024_58 : iI s2024 58 = iI s2022 58 := by rw [hs2024]; rfl
          have ws2024_59 : iI s2024 59 = iI s2022 59 := by rw [hs2024]; rfl
          have ws2024_43 : iI s2024 43 = iI s2022 43 := by rw [hs2024]; rfl
          have ws2024_44 : iI s2024 44 = iI s2022 44 := by rw [hs2024]; rfl
          refine z_aload_n X (x := A 133) (show cdA 1 244 = some (.aload_n 0, 1, 0, 0, 0) from rfl) (List.Mem.tail _ (List.Mem.head _)) ?_
          refine w_dup X.1 (ax_d X (show cdA 1 245 = some (.dup, 1, 0, 0, 0) from rfl)) rfl ?_
          refine z_getI X 133 (show cdA 1 246 = some (.getfield 72, 3, 0, 7, 0) from rfl) (by decide) rfl rfl ?_
          have b2025 : (0 : Int) ≤ iI s2024 59 ∧ iI s2024 59 ≤ 66 := Is2024.1 59
          refine z_const X (show cdA 1 249 = some (.iconst 1, 1, 0, 0, 0) from rfl) ?_
          refine z_add X (show cdA 1 250 = some (.iadd, 1, 0, 0, 0) from rfl) ?_
          refine s_putI X 133 (show cdA 1 251 = some (.putfield 72, 3, 0, 7, 0) from rfl) (by decide) rfl rfl (by decide) rfl rfl rfl ?_
          obtain ⟨s2026, hs2026⟩ : ∃ x0, x0 = uI s2024 59 (Int32.ofInt ((iI s2024 59) + 1)) := ⟨_, rfl⟩
          rw [← hs2026]
          have Is2026 : Bd s2026 := by rw [hs2026]; exact bd_I Is2024 (show (0 : Int) ≤ ((iI s2024 59) + 1) ∧ ((iI s2024 59) + 1) ≤ 66 by first | exact ⟨oq_54f49eb5 b2025.1, oq_d0eb7b2e ws2024_59 ws2022_59 ws2019_59 ws2013_59 ws2009_59 g2006 b2005.2 hi.2.2⟩ | omega) ⟨by first | exact oq_74de1e16 b2025.1 | omega, by first | exact oq_d99c2177 b2025.2 | omega⟩
          have Fs2026 := fm_I (x := Int32.ofInt ((iI s2024 59) + 1)) Fs2024 (show 59 ∈ _ by decide)
          rw [← hs2026] at Fs2026
          have vs2026 : iI s2026 59 = ((iI s2024 59) + 1) := by rw [hs2026]; exact iI_u ⟨by first | exact oq_74de1e16 b2025.1 | omega, by first | exact oq_d99c2177 b2025.2 | omega⟩
          have ws2026_58 : iI s2026 58 = iI s2024 58 := by rw [hs2026]; rfl
          have ws2026_43 : iI s2026 43 = iI s2024 43 := by rw [hs2026]; rfl
          have ws2026_44 : iI s2026 44 = iI s2024 44 := by rw [hs2026]; rfl
          refine z_inc X (x := c) (lv' := [(6, .int (Int32.ofInt (c + 1))), (7, .int (Int32.ofInt y2015)), (0, .ref (A 133)), (1, .long av), (3, .long bv)]) (show cdA 1 254 = some (.iinc 6 1, 3, 0, 0, 0) from rfl) (by decide) (List.Mem.tail _ (List.Mem.tail _ (List.Mem.tail _ (List.Mem.tail _ (List.Mem.head _))))) (fun _ h => h) ?_
          refine z_goto X (t := 133) (show cdA 1 257 = some (.goto (-124), 3, 0, 0, 0) from rfl) (by decide) ?_
          refine WS_lv (lv := [(0, .ref (A 133)), (1, .long av), (3, .long bv), (6, .int (Int32.ofInt (c + 1)))]) (List.forall_mem_cons.mpr ⟨(List.Mem.tail _ (List.Mem.tail _ (List.Mem.head _))), (List.forall_mem_cons.mpr ⟨(List.Mem.tail _ (List.Mem.tail _ (List.Mem.tail _ (List.Mem.head _)))), (List.forall_mem_cons.mpr ⟨(List.Mem.tail _ (List.Mem.tail _ (List.Mem.tail _ (List.Mem.tail _ (List.Mem.head _))))), (List.forall_mem_cons.mpr ⟨(List.Mem.head _), (fun q h => absurd h List.not_mem_nil)⟩)⟩)⟩)⟩) ?_
          exact ih _ av bv (c + 1) Is2026 Fs2026 (by first | exact ⟨oq_54f49eb5 hi.1, oq_319a18a4 g2006 b2005.2, oq_6fc60775 vs2026 ws2024_59 ws2022_59 ws2019_59 ws2013_59 ws2009_59 hi.2.2⟩ | omega) (by first | exact qk_me hm (by decide) (oq_dd0e9829 g2006 b2005.2) | omega) kx
  refine z_aload_n X (x := A 133) (show cdA 1 0 = some (.aload_n 0, 1, 0, 0, 0) from rfl) (List.Mem.head _) ?_
  refine s_getR X 133 (show cdA 1 1 = some (.getfield 37, 3, 0, 11, 0) from rfl) (by decide) rfl rfl ?_
  refine z_const X (show cdA 1 4 = some (.iconst 4, 1, 0, 0, 0) from rfl) ?_
  refine w_lload_n X.1 (ax_d X (show cdA 1 5 = some (.lload_n 1, 1, 0, 0, 0) from rfl)) (x := aj) (List.Mem.tail _ (List.Mem.head _)) ?_
  refine z_callS X (rm := rmN 298) (As := [.long aj]) (st := [.int (Int32.ofInt 4), .ref (A 141)]) (show cdA 1 6 = some (.invokestatic 51, 3, 298, 1, 0) from rfl) rfl (by rw [E.1, E.2.1, E.2.2.1]; exact j_bitL G I ) ⟨by rw [E.2.2.2]; exact (show (rmN 298).frames + 1 ≤ (rmN 1).frames by decide), by rw [E.2.2.2]; exact (show 8 + (mNL (miB 298) + 11) + (rmN 298).locals ≤ (rmN 1).locals by decide), by rw [E.2.2.2]; exact (show 0 + (rmN 298).cells ≤ (rmN 1).cells by decide), by rw [E.2.2.2]; exact (show 0 + (rmN 298).slots ≤ (rmN 1).slots by decide)⟩ (Nat.le_of_ble_eq_true rfl) (fun vv s5 hq => ?_) (fun ee s5 hq => ?_)
  rotate_left
  · obtain ⟨Is5, Fs5, e6, hv, hrs5, hps5⟩ := hq; cases hv
  obtain ⟨Is5, Fs5, e6, hv, hrs5, hps5⟩ := hq
  cases hv
  have Gs5 := fm_ts F Fs5 (by decide) (by decide)
  have ws5_58 : iI s5 58 = iI s 58 := fm_i Fs5 (by decide)
  have ws5_59 : iI s5 59 = iI s 59 := fm_i Fs5 (by decide)
  have ws5_43 : iI s5 43 = iI s 43 := fm_i Fs5 (by decide)
  have ws5_44 : iI s5 44 = iI s 44 := fm_i Fs5 (by decide)
  show WS k 9 [(0, .ref (A 133)), (1, .long aj), (3, .long bj), (5, .int (Int32.ofInt x))] [.int (Int32.ofInt e6), .int (Int32.ofInt 4), .ref (A 141)] (Wd A dT s5) 0 0
  refine w_lload_n X.1 (ax_d X (show cdA 1 9 = some (.lload_n 3, 1, 0, 0, 0) from rfl)) (x := bj) (List.Mem.tail _ (List.Mem.tail _ (List.Mem.head _))) ?_
  refine z_callS X (rm := rmN 298) (As := [.long bj]) (st := [.int (Int32.ofInt e6), .int (Int32.ofInt 4), .ref (A 141)]) (show cdA 1 10 = some (.invokestatic 51, 3, 298, 1, 0) from rfl) rfl (by rw [E.1, E.2.1, E.2.2.1]; exact j_bitL G Is5 ) ⟨by rw [E.2.2.2]; exact (show (rmN 298).frames + 1 ≤ (rmN 1).frames by decide), by rw [E.2.2.2]; exact (show 8 + (mNL (miB 298) + 11) + (rmN 298).locals ≤ (rmN 1).locals by decide), by rw [E.2.2.2]; exact (show 0 + (rmN 298).cells ≤ (rmN 1).cells by decide), by rw [E.2.2.2]; exact (show 0 + (rmN 298).slots ≤ (rmN 1).slots by decide)⟩ (Nat.le_of_ble_eq_true rfl) (fun vv s7 hq => ?_) (fun ee s7 hq => ?_)
  rotate_left
  · obtain ⟨Is7, Fs7, e8, hv, hrs7, hps7⟩ := hq; cases hv
  obtain ⟨Is7, Fs7, e8, hv, hrs7, hps7⟩ := hq
  cases hv
  have Gs7 := fm_ts Gs5 Fs7 (by decide) (by decide)
  have ws7_58 : iI s7 58 = iI s5 58 := fm_i Fs7 (by decide)
  have ws7_59 : iI s7 59 = iI s5 59 := fm_i Fs7 (by decide)
  have ws7_43 : iI s7 43 = iI s5 43 := fm_i Fs7 (by decide)
  have ws7_44 : iI s7 44 = iI s5 44 := fm_i Fs7 (by decide)
  show WS k 13 [(0, .ref (A 133)), (1, .long aj), (3, .long bj), (5, .int (Int32.ofInt x))] [.int (Int32.ofInt e8), .int (Int32.ofInt e6), .int (Int32.ofInt 4), .ref (A 141)] (Wd A dT s7) 0 0
  refine z_add X (show cdA 1 13 = some (.iadd, 1, 0, 0, 0) from rfl) ?_
  refine z_any (fun y9 hy9 => ?_)
  refine z_ast X 141 (show cdA 1 14 = some (.iastore, 1, 0, 0, 0) from rfl) (by decide) rfl (by decide) (show 4 < 7 by decide) (by decide) ?_
  obtain ⟨s10, hs10⟩ : ∃ x0, x0 = uC s7 123 (4 : Int).toNat (Int32.ofInt y9) := ⟨_, rfl⟩
  rw [← hs10]
  have Is10 : Bd s10 := by rw [hs10]; exact bd_C Is7 (show ((-2147483648) : Int) ≤ y9 ∧ y9 ≤ 2147483647 by first | exact ⟨hy9.1, hy9.2⟩ | omega) hy9
  have Fs10 := fm_C (i := (4 : Int).toNat) (x := Int32.ofInt y9) Gs7 (show 123 ∈ _ by decide)
  rw [← hs10] at Fs10
  have ws10_58 : iI s10 58 = iI s7 58 := by rw [hs10]; rfl
  have ws10_59 : iI s10 59 = iI s7 59 := by rw [hs10]; rfl
  have ws10_43 : iI s10 43 = iI s7 43 := by rw [hs10]; rfl
  have ws10_44 : iI s10 44 = iI s7 44 := by rw [hs10]; rfl
  refine z_aload_n X (x := A 133) (show cdA 1 15 = some (.aload_n 0, 1, 0, 0, 0) from rfl) (List.Mem.head _) ?_
  refine s_getR X 133 (show cdA 1 16 = some (.getfield 37, 3, 0, 11, 0) from rfl) (by decide) rfl rfl ?_
  refine z_const X (show cdA 1 19 = some (.iconst 5, 1, 0, 0, 0) from rfl) ?_
  refine w_lload_n X.1 (ax_d X (show cdA 1 20 = some (.lload_n 1, 1, 0, 0, 0) from rfl)) (x := aj) (List.Mem.tail _ (List.Mem.head _)) ?_
  refine z_callS X (rm := rmN 298) (As := [.long aj]) (st := [.int (Int32.ofInt 5), .ref (A 141)]) (show cdA 1 21 = some (.invokestatic 51, 3, 298, 1, 0) from rfl) rfl (by rw [E.1, E.2.1, E.2.2.1]; exact j_bitL G Is10 ) ⟨by rw [E.2.2.2]; exact (show (rmN 298).frames + 1 ≤ (rmN 1).frames by decide), by rw [E.2.2.2]; exact (show 8 + (mNL (miB 298) + 11) + (rmN 298).locals ≤ (rmN 1).locals by decide), by rw [E.2.2.2]; exact (show 0 + (rmN 298).cells ≤ (rmN 1).cells by decide), by rw [E.2.2.2]; exact (show 0 + (rmN 298).slots ≤ (rmN 1).slots by decide)⟩ (Nat.le_of_ble_eq_true rfl) (fun vv s11 hq => ?_) (fun ee s11 hq => ?_)
  rotate_left
  · obtain ⟨Is11, Fs11, e12, hv, hrs11, hps11⟩ := hq; cases hv
  obtain ⟨Is11, Fs11, e12, hv, hrs11, hps11⟩ := hq
  cases hv
  have Gs11 := fm_ts Fs10 Fs11 (by decide) (by decide)
  have ws11_58 : iI s11 58 = iI s10 58 := fm_i Fs11 (by decide)
  have ws11_59 : iI s11 59 = iI s10 59 := fm_i Fs11 (by decide)
  have ws11_43 : iI s11 43 = iI s10 43 := fm_i Fs11 (by decide)
  have ws11_44 : iI s11 44 = iI s10 44 := fm_i Fs11 (by decide)
  show WS k 24 [(0, .ref (A 133)), (1, .long aj), (3, .long bj), (5, .int (Int32.ofInt x))] [.int (Int32.ofInt e12), .int (Int32.ofInt 5), .ref (A 141)] (Wd A dT s11) 0 0
  refine z_ast X 141 (show cdA 1 24 = some (.iastore, 1, 0, 0, 0) from rfl) (by decide) rfl (by decide) (show 5 < 7 by decide) (by decide) ?_
  obtain ⟨s13, hs13⟩ : ∃ x0, x0 = uC s11 123 (5 : Int).toNat (Int32.ofInt e12) := ⟨_, rfl⟩
  rw [← hs13]
  have Is13 : Bd s13 := by rw [hs13]; exact bd_C Is11 (show ((-2147483648) : Int) ≤ e12 ∧ e12 ≤ 2147483647 by omega) hrs11
  have Fs13 := fm_C (i := (5 : Int).toNat) (x := Int32.ofInt e12) Gs11 (show 123 ∈ _ by decide)
  rw [← hs13] at Fs13
  have ws13_58 : iI s13 58 = iI s11 58 := by rw [hs13]; rfl
  have ws13_59 : iI s13 59 = iI s11 59 := by rw [hs13]; rfl
  have ws13_43 : iI s13 43 = iI s11 43 := by rw [hs13]; rfl
  have ws13_44 : iI s13 44 = iI s11 44 := by rw [hs13]; rfl
  refine z_aload_n X (x := A 133) (show cdA 1 25 = some (.aload_n 0, 1, 0, 0, 0) from rfl) (List.Mem.head _) ?_
  refine s_getR X 133 (show cdA 1 26 = some (.getfield 37, 3, 0, 11, 0) from rfl) (by decide) rfl rfl ?_
  refine z_bipush X (show cdA 1 29 = some (.bipush 6, 2, 0, 0, 6) from rfl) ?_
  refine z_load X (x := x) (show cdA 1 31 = some (.iload 5, 2, 0, 0, 0) from rfl) (List.Mem.tail _ (List.Mem.tail _ (List.Mem.tail _ (List.Mem.head _)))) ?_
  refine z_ast X 141 (show cdA 1 33 = some (.iastore, 1, 0, 0, 0) from rfl) (by decide) rfl (by decide) (show 6 < 7 by decide) (by decide) ?_
  obtain ⟨s14, hs14⟩ : ∃ x0, x0 = uC s13 123 (6 : Int).toNat (Int32.ofInt x) := ⟨_, rfl⟩
  rw [← hs14]
  have Is14 : Bd s14 := by rw [hs14]; exact bd_C Is13 (show ((-2147483648) : Int) ≤ x ∧ x ≤ 2147483647 by first | exact ⟨p0.1, p0.2⟩ | omega) ⟨by first | exact p0.1 | omega, by first | exact p0.2 | omega⟩
  have Fs14 := fm_C (i := (6 : Int).toNat) (x := Int32.ofInt x) Fs13 (show 123 ∈ _ by decide)
  rw [← hs14] at Fs14
  have ws14_58 : iI s14 58 = iI s13 58 := by rw [hs14]; rfl
  have ws14_59 : iI s14 59 = iI s13 59 := by rw [hs14]; rfl
  have ws14_43 : iI s14 43 = iI s13 43 := by rw [hs14]; rfl
  have ws14_44 : iI s14 44 = iI s13 44 := by rw [hs14]; rfl
  refine z_aload_n X (x := A 133) (show cdA 1 34 = some (.aload_n 0, 1, 0, 0, 0) from rfl) (List.Mem.head _) ?_
  refine z_const X (show cdA 1 35 = some (.iconst 0, 1, 0, 0, 0) from rfl) ?_
  refine s_putI X 133 (show cdA 1 36 = some (.putfield 57, 3, 0, 2, 0) from rfl) (by decide) rfl rfl (by decide) rfl rfl rfl ?_
  obtain ⟨s15, hs15⟩ : ∃ x0, x0 = uI s14 58 (Int32.ofInt 0) := ⟨_, rfl⟩
  rw [← hs15]
  have Is15 : Bd s15 := by rw [hs15]; exact bd_I Is14 (show (0 : Int) ≤ 0 ∧ 0 ≤ 12 by first | exact ⟨by decide, by decide⟩ | omega) (by decide)
  have Fs15 := fm_I (x := Int32.ofInt 0) Fs14 (show 58 ∈ _ by decide)
  rw [← hs15] at Fs15
  have vs15 : iI s15 58 = 0 := by rw [hs15]; exact iI_u (by decide)
  have ws15_59 : iI s15 59 = iI s14 59 := by rw [hs15]; rfl
  have ws15_43 : iI s15 43 = iI s14 43 := by rw [hs15]; rfl
  have ws15_44 : iI s15 44 = iI s14 44 := by rw [hs15]; rfl
  refine z_const X (show cdA 1 39 = some (.iconst 0, 1, 0, 0, 0) from rfl) ?_
  refine z_store X (lv' := [(6, .int (Int32.ofInt 0)), (0, .ref (A 133)), (1, .long aj), (3, .long bj), (5, .int (Int32.ofInt x))]) (show cdA 1 40 = some (.istore 6, 2, 0, 0, 0) from rfl) (by decide) (fun _ h => h) ?_
  refine WS_lv (lv := [(0, .ref (A 133)), (1, .long aj), (3, .long bj), (6, .int (Int32.ofInt 0))]) (List.forall_mem_cons.mpr ⟨(List.Mem.tail _ (List.Mem.head _)), (List.forall_mem_cons.mpr ⟨(List.Mem.tail _ (List.Mem.tail _ (List.Mem.head _))), (List.forall_mem_cons.mpr ⟨(List.Mem.tail _ (List.Mem.tail _ (List.Mem.tail _ (List.Mem.head _)))), (List.forall_mem_cons.mpr ⟨(List.Mem.head _), (fun q h => absurd h List.not_mem_nil)⟩)⟩)⟩)⟩) ?_
  refine L42 ((12 - 0 : Int).toNat + 1) s15 aj bj 0 Is15 Fs15 (by first | exact ⟨by decide, by decide, oq_1af0b4f8 vs15⟩ | omega) (Nat.lt_succ_self _) ?_
  intro s16 x17 Is16 Fs16 hs16
  have b18 : (0 : Int) ≤ iI s16 58 ∧ iI s16 58 ≤ 12 := Is16.1 58
  have b19 : (0 : Int) ≤ iI s16 59 ∧ iI s16 59 ≤ 66 := Is16.1 59
  have b20 : (0 : Int) ≤ iI s16 43 ∧ iI s16 43 ≤ 12 := Is16.1 43
  have b21 : (0 : Int) ≤ iI s16 44 ∧ iI s16 44 ≤ 66 := Is16.1 44
  refine z_aload_n X (x := A 133) (show cdA 1 125 = some (.aload_n 0, 1, 0, 0, 0) from rfl) (List.Mem.head _) ?_
  refine z_const X (show cdA 1 126 = some (.iconst 0, 1, 0, 0, 0) from rfl) ?_
  refine s_putI X 133 (show cdA 1 127 = some (.putfield 72, 3, 0, 7, 0) from rfl) (by decide) rfl rfl (by decide) rfl rfl rfl ?_
  obtain ⟨s22, hs22⟩ : ∃ x0, x0 = uI s16 59 (Int32.ofInt 0) := ⟨_, rfl⟩
  rw [← hs22]
  have Is22 : Bd s22 := by rw [hs22]; exact bd_I Is16 (show (0 : Int) ≤ 0 ∧ 0 ≤ 66 by first | exact ⟨by decide, by decide⟩ | omega) (by decide)
  have Fs22 := fm_I (x := Int32.ofInt 0) Fs16 (show 59 ∈ _ by decide)
  rw [← hs22] at Fs22
  have vs22 : iI s22 59 = 0 := by rw [hs22]; exact iI_u (by decide)
  have ws22_58 : iI s22 58 = iI s16 58 := by rw [hs22]; rfl
  have ws22_43 : iI s22 43 = iI s16 43 := by rw [hs22]; rfl
  have ws22_44 : iI s22 44 = iI s16 44 := by rw [hs22]; rfl
  refine z_const X (show cdA 1 130 = some (.iconst 0, 1, 0, 0, 0) from rfl) ?_
  refine z_store X (lv' := [(6, .int (Int32.ofInt 0)), (0, .ref (A 133)), (1, .long aj), (3, .long bj)]) (show cdA 1 131 = some (.istore 6, 2, 0, 0, 0) from rfl) (by decide) (fun _ h => h) ?_
  refine WS_lv (lv := [(0, .ref (A 133)), (1, .long aj), (3, .long bj), (6, .int (Int32.ofInt 0))]) (List.forall_mem_cons.mpr ⟨(List.Mem.tail _ (List.Mem.head _)), (List.forall_mem_cons.mpr ⟨(List.Mem.tail _ (List.Mem.tail _ (List.Mem.head _))), (List.forall_mem_cons.mpr ⟨(List.Mem.tail _ (List.Mem.tail _ (List.Mem.tail _ (List.Mem.head _)))), (List.forall_mem_cons.mpr ⟨(List.Mem.head _), (fun q h => absurd h List.not_mem_nil)⟩)⟩)⟩)⟩) ?_
  refine L133 ((66 - 0 : Int).toNat + 1) s22 aj bj 0 Is22 Fs22 (by first | exact ⟨by decide, by decide, oq_1af0b4f8 vs22⟩ | omega) (Nat.lt_succ_self _) ?_
  intro s23 x24 Is23 Fs23 hs23
  have b25 : (0 : Int) ≤ iI s23 58 ∧ iI s23 58 ≤ 12 := Is23.1 58
  have b26 : (0 : Int) ≤ iI s23 59 ∧ iI s23 59 ≤ 66 := Is23.1 59
  have b27 : (0 : Int) ≤ iI s23 43 ∧ iI s23 43 ≤ 12 := Is23.1 43
  have b28 : (0 : Int) ≤ iI s23 44 ∧ iI s23 44 ≤ 66 := Is23.1 44
  exact w_vret X.1 q hRt (ax_d X (show cdA 1 260 = some (.return_, 1, 0, 0, 0) from rfl)) (Nat.zero_le _) (Nat.zero_le _) ⟨_, rfl, Is23, Fs23, rfl, trivial⟩
set_option maxRecDepth 4000 in
theorem c0_hear_133 (G : GX l s0 D tys a0 dT) (I : Bd s) {x y : Int} (p0 : 0 ≤ x ∧ x ≤ 23) (p1 : rng y) : CT l s0 D A dT 3 (rmN 3) [.ref (A 133), .int (Int32.ofInt x), .int (Int32.ofInt y)] s (fun o t => Bd t ∧ Fm [] [123] s t ∧ o = .inl none ∧ (True)) := by
  refine ct_ofX G (by decide) (Nat.le_of_ble_eq_true rfl) (fun k X E ET hRt hXt q => ?_)
  show WS k 0 [(0, .ref (A 133)), (1, .int (Int32.ofInt x)), (2, .int (Int32.ofInt y))] [] _ 0 0
  have F : Fm [] [123] s s := fm_rf _ _ s
  have b1 : (0 : Int) ≤ iI s 58 ∧ iI s 58 ≤ 12 := I.1 58
  have b2 : (0 : Int) ≤ iI s 59 ∧ iI s 59 ≤ 66 := I.1 59
  have L20 : ∀ (n : Nat) (t : PS) (yv ro wa cr ov cl c : Int), Bd t → Fm [] [123] s t → (rng yv ∧ (0 ≤ ro ∧ ro ≤ 276) ∧ rng wa ∧ rng cr ∧ rng ov ∧ rng cl ∧ 0 ≤ c ∧ c ≤ 12) → (12 - c : Int).toNat < n → (∀ (t' : PS) (wa' cr' ov' cl' c' : Int), Bd t' → Fm [] [123] s t' → (rng yv ∧ (0 ≤ ro ∧ ro ≤ 276) ∧ rng wa' ∧ rng cr' ∧ rng ov' ∧ rng cl' ∧ 0 ≤ c' ∧ c' ≤ 12) → WS k 106 [(0, .ref (A 133)), (2, .int (Int32.ofInt yv)), (3, .int (Int32.ofInt ro)), (4, .int (Int32.ofInt wa')), (5, .int (Int32.ofInt cr')), (6, .int (Int32.ofInt ov')), (7, .int (Int32.ofInt cl')), (8, .int (Int32.ofInt c'))] [] (Wd A dT t') 0 0) → WS k 20 [(0, .ref (A 133)), (2, .int (Int32.ofInt yv)), (3, .int (Int32.ofInt ro)), (4, .int (Int32.ofInt wa)), (5, .int (Int32.ofInt cr)), (6, .int (Int32.ofInt ov)), (7, .int (Int32.ofInt cl)), (8, .int (Int32.ofInt c))] [] (Wd A dT t) 0 0 := by
    intro n
    induction n with
    | zero =>
      intro t yv ro wa cr ov cl c I F hi hm kx
      exact absurd hm (Nat.not_lt_zero _)
    | succ n ih =>
      intro t yv ro wa cr ov cl c I F hi hm kx
      have b1001 : (0 : Int) ≤ iI t 58 ∧ iI t 58 ≤ 12 := I.1 58
      have b1002 : (0 : Int) ≤ iI t 59 ∧ iI t 59 ≤ 66 := I.1 59
      refine z_load X (x := c) (show cdA 3 20 = some (.iload 8, 2, 0, 0, 0) from rfl) (List.Mem.tail _ (List.Mem.tail _ (List.Mem.tail _ (List.Mem.tail _ (List.Mem.tail _ (List.Mem.tail _ (List.Mem.tail _ (List.Mem.head _)))))))) ?_
      refine z_aload_n X (x := A 133) (show cdA 3 22 = some (.aload_n 0, 1, 0, 0, 0) from rfl) (List.Mem.head _) ?_
      refine z_getI X 133 (show cdA 3 23 = some (.getfield 57, 3, 0, 2, 0) from rfl) (by decide) rfl rfl ?_
      have b1003 : (0 : Int) ≤ iI t 58 ∧ iI t 58 ≤ 12 := I.1 58
      refine z_icmp_ge X (t := 106) (show cdA 3 26 = some (.if_icmp .ge 80, 3, 3, 0, 0) from rfl) (by decide) ⟨by first | exact oq_fa4e5087 hi.2.2.2.2.2.2.1 | omega, by first | exact oq_78843a64 hi.2.2.2.2.2.2.2 | omega⟩ (rng_to _) (fun g1004 => ?_) (fun g1004 => ?_)
      ·
        refine WS_lv (lv := [(0, .ref (A 133)), (2, .int (Int32.ofInt yv)), (3, .int (Int32.ofInt ro)), (4, .int (Int32.ofInt wa)), (5, .int (Int32.ofInt cr)), (6, .int (Int32.ofInt ov)), (7, .int (Int32.ofInt cl)), (8, .int (Int32.ofInt c))]) (List.forall_mem_cons.mpr ⟨(List.Mem.head _), (List.forall_mem_cons.mpr ⟨(List.Mem.tail _ (List.Mem.head _)), (List.forall_mem_cons.mpr ⟨(List.Mem.tail _ (List.Mem.tail _ (List.Mem.head _))), (List.forall_mem_cons.mpr ⟨(List.Mem.tail _ (List.Mem.tail _ (List.Mem.tail _ (List.Mem.head _)))), (List.forall_mem_cons.mpr ⟨(List.Mem.tail _ (List.Mem.tail _ (List.Mem.tail _ (List.Mem.tail _ (List.Mem.head _))))), (List.forall_mem_cons.mpr ⟨(List.Mem.tail _ (List.Mem.tail _ (List.Mem.tail _ (List.Mem.tail _ (List.Mem.tail _ (List.Mem.head _)))))), (List.forall_mem_cons.mpr ⟨(List.Mem.tail _ (List.Mem.tail _ (List.Mem.tail _ (List.Mem.tail _ (List.Mem.tail _ (List.Mem.tail _ (List.Mem.head _))))))), (List.forall_mem_cons.mpr ⟨(List.Mem.tail _ (List.Mem.tail _ (List.Mem.tail _ (List.Mem.tail _ (List.Mem.tail _ (List.Mem.tail _ (List.Mem.tail _ (List.Mem.head _)))))))), (fun q h => absurd h List.not_mem_nil)⟩)⟩)⟩)⟩)⟩)⟩)⟩)⟩) ?_
        exact kx _ wa cr ov cl c I F (by first | exact ⟨And.intro (hi.1.1) (hi.1.2), And.intro (hi.2.1.1) (hi.2.1.2), And.intro (hi.2.2.1.1) (hi.2.2.1.2), And.intro (hi.2.2.2.1.1) (hi.2.2.2.1.2), And.intro (hi.2.2.2.2.1.1) (hi.2.2.2.2.1.2), And.intro (hi.2.2.2.2.2.1.1) (hi.2.2.2.2.2.1.2), hi.2.2.2.2.2.2.1, hi.2.2.2.2.2.2.2⟩ | omega)
      ·
        refine z_aload_n X (x := A 133) (show cdA 3 29 = some (.aload_n 0, 1, 0, 0, 0) from rfl) (List.Mem.head _) ?_
        refine s_getR X 133 (show cdA 3 30 = some (.getfield 9, 3, 0, 3, 0) from rfl) (by decide) rfl rfl ?_
        refine z_load X (x := c) (show cdA 3 33 = some (.iload 8, 2, 0, 0, 0) from rfl) (List.Mem.tail _ (List.Mem.tail _ (List.Mem.tail _ (List.Mem.tail _ (List.Mem.tail _ (List.Mem.tail _ (List.Mem.tail _ (List.Mem.head _)))))))) ?_
        refine z_ald X 134 (show cdA 3 35 = some (.iaload, 1, 0, 0, 0) from rfl) (by decide) rfl (by first | exact hi.2.2.2.2.2.2.1 | omega) (show c < 12 by first | exact oq_f36e82a8 g1004 b1003.2 | omega) (by decide) ?_
        have b1005 : (0 : Int) ≤ iC t 116 (c).toNat ∧ iC t 116 (c).toNat ≤ 11 := I.2 116 _ (show (c).toNat < 12 by first | exact oq_2dac6850 g1004 b1003.2 | omega)
        refine z_load_n X (x := yv) (show cdA 3 36 = some (.iload_n 2, 1, 0, 0, 0) from rfl) (List.Mem.tail _ (List.Mem.head _)) ?_
        have N1006 : ∀ e1007 : Int, ((((iC t 116 (c).toNat) ≠ yv) ∧ ((0 : Int) ≤ iC t 116 (c).toNat ∧ iC t 116 (c).toNat ≤ 11) ∧ ((0 : Int) ≤ iC t 67 ((ro + (iC t 116 (c).toNat))).toNat ∧ iC t 67 ((ro + (iC t 116 (c).toNat))).toNat ≤ 50) ∧ e1007 = (iC t 67 ((ro + (iC t 116 (c).toNat))).toNat)) ∨ (((iC t 116 (c).toNat) = yv) ∧ e1007 = 0)) → WS k 61 [(0, .ref (A 133)), (2, .int (Int32.ofInt yv)), (3, .int (Int32.ofInt ro)), (4, .int (Int32.ofInt wa)), (5, .int (Int32.ofInt cr)), (6, .int (Int32.ofInt ov)), (7, .int (Int32.ofInt cl)), (8, .int (Int32.ofInt c))] [.int (Int32.ofInt e1007)] (Wd A dT t) 0 0 := by
          intro e1007 he1007
          refine z_store X (lv' := [(9, .int (Int32.ofInt e1007)), (0, .ref (A 133)), (2, .int (Int32.ofInt yv)), (3, .int (Int32.ofInt ro)), (4, .int (Int32.ofInt wa)), (5, .int (Int32.ofInt cr)), (6, .int (Int32.ofInt ov)), (7, .int (Int32.ofInt cl)), (8, .int (Int32.ofInt c))]) (show cdA 3 61 = some (.istore 9, 2, 0, 0, 0) from rfl) (by decide) (fun _ h => h) ?_
          refine z_load X (x := wa) (show cdA 3 63 = some (.iload 4, 2, 0, 0, 0) from rfl) (List.Mem.tail _ (List.Mem.tail _ (List.Mem.tail _ (List.Mem.tail _ (List.Mem.head _))))) ?_
          refine z_load X (x := e1007) (show cdA 3 65 = some (.iload 9, 2, 0, 0, 0) from rfl) (List.Mem.head _) ?_
          refine z_add X (show cdA 3 67 = some (.iadd, 1, 0, 0, 0) from rfl) ?_
          refine z_any (fun y1008 hy1008 => ?_)
          refine z_store X (lv' := [(4, .int (Int32.ofInt y1008)), (9, .int (Int32.ofInt e1007)), (0, .ref (A 133)), (2, .int (Int32.ofInt yv)), (3, .int (Int32.ofInt ro)), (5, .int (Int32.ofInt cr)), (6, .int (Int32.ofInt ov)), (7, .int (Int32.ofInt cl)), (8, .int (Int32.ofInt c))]) (show cdA 3 68 = some (.istore 4, 2, 0, 0, 0) from rfl) (by decide) (fun _ h => h) ?_
          refine z_load X (x := ov) (show cdA 3 70 = some (.iload 6, 2, 0, 0, 0) from rfl) (List.Mem.tail _ (List.Mem.tail _ (List.Mem.tail _ (List.Mem.tail _ (List.Mem.tail _ (List.Mem.tail _ (List.Mem.head _))))))) ?_
          refine z_load X (x := e1007) (show cdA 3 72 = some (.iload 9, 2, 0, 0, 0) from rfl) (List.Mem.tail _ (List.Mem.head _)) ?_
          refine z_aload_n X (x := A 133) (show cdA 3 74 = some (.aload_n 0, 1, 0, 0, 0) from rfl) (List.Mem.tail _ (List.Mem.tail _ (List.Mem.head _))) ?_
          refine s_getR X 133 (show cdA 3 75 = some (.getfield 15, 3, 0, 4, 0) from rfl) (by decide) rfl rfl ?_
          refine z_load X (x := c) (show cdA 3 78 = some (.iload 8, 2, 0, 0, 0) from rfl) (List.Mem.tail _ (List.Mem.tail _ (List.Mem.tail _ (List.Mem.tail _ (List.Mem.tail _ (List.Mem.tail _ (List.Mem.tail _ (List.Mem.tail _ (List.Mem.head _))))))))) ?_
          refine z_ald X 135 (show cdA 3 80 = some (.iaload, 1, 0, 0, 0) from rfl) (by decide) rfl (by first | exact hi.2.2.2.2.2.2.1 | omega) (show c < 12 by first | exact oq_f36e82a8 g1004 b1003.2 | omega) (by decide) ?_
          have b1009 : ((-2147483648) : Int) ≤ iC t 117 (c).toNat ∧ iC t 117 (c).toNat ≤ 2147483647 := I.2 117 _ (show (c).toNat < 12 by first | exact oq_2dac6850 g1004 b1003.2 | omega)
          refine z_mul X (show cdA 3 81 = some (.imul, 1, 0, 0, 0) from rfl) ?_
          refine z_any (fun y1010 hy1010 => ?_)
          refine z_add X (show cdA 3 82 = some (.iadd, 1, 0, 0, 0) from rfl) ?_
          refine z_any (fun y1011 hy1011 => ?_)
          refine z_store X (lv' := [(6, .int (Int32.ofInt y1011)), (4, .int (Int32.ofInt y1008)), (9, .int (Int32.ofInt e1007)), (0, .ref (A 133)), (2, .int (Int32.ofInt yv)), (3, .int (Int32.ofInt ro)), (5, .int (Int32.ofInt cr)), (7, .int (Int32.ofInt cl)), (8, .int (Int32.ofInt c))]) (show cdA 3 83 = some (.istore 6, 2, 0, 0, 0) from rfl) (by decide) (fun _ h => h) ?_
          refine z_load X (x := cl) (show cdA 3 85 = some (.iload 7, 2, 0, 0, 0) from rfl) (List.Mem.tail _ (List.Mem.tail _ (List.Mem.tail _ (List.Mem.tail _ (List.Mem.tail _ (List.Mem.tail _ (List.Mem.tail _ (List.Mem.head _)))))))) ?_
          refine z_load X (x := e1007) (show cdA 3 87 = some (.iload 9, 2, 0, 0, 0) from rfl) (List.Mem.tail _ (List.Mem.tail _ (List.Mem.head _))) ?_
          refine z_aload_n X (x := A 133) (show cdA 3 89 = some (.aload_n 0, 1, 0, 0, 0) from rfl) (List.Mem.tail _ (List.Mem.tail _ (List.Mem.tail _ (List.Mem.head _)))) ?_
          refine s_getR X 133 (show cdA 3 90 = some (.getfield 21, 3, 0, 6, 0) from rfl) (by decide) rfl rfl ?_
          refine z_load X (x := c) (show cdA 3 93 = some (.iload 8, 2, 0, 0, 0) from rfl) (List.Mem.tail _ (List.Mem.tail _ (List.Mem.tail _ (List.Mem.tail _ (List.Mem.tail _ (List.Mem.tail _ (List.Mem.tail _ (List.Mem.tail _ (List.Mem.head _))))))))) ?_
          refine z_ald X 137 (show cdA 3 95 = some (.iaload, 1, 0, 0, 0) from rfl) (by decide) rfl (by first | exact hi.2.2.2.2.2.2.1 | omega) (show c < 12 by first | exact oq_f36e82a8 g1004 b1003.2 | omega) (by decide) ?_
          have b1012 : ((-2147483648) : Int) ≤ iC t 119 (c).toNat ∧ iC t 119 (c).toNat ≤ 2147483647 := I.2 119 _ (show (c).toNat < 12 by first | exact oq_2dac6850 g1004 b1003.2 | omega)
          refine z_mul X (show cdA 3 96 = some (.imul, 1, 0, 0, 0) from rfl) ?_
          refine z_any (fun y1013 hy1013 => ?_)
          refine z_add X (show cdA 3 97 = some (.iadd, 1, 0, 0, 0) from rfl) ?_
          refine z_any (fun y1014 hy1014 => ?_)
          refine z_store X (lv' := [(7, .int (Int32.ofInt y1014)), (6, .int (Int32.ofInt y1011)), (4, .int (Int32.ofInt y1008)), (9, .int (Int32.ofInt e1007)), (0, .ref (A 133)), (2, .int (Int32.ofInt yv)), (3, .int (Int32.ofInt ro)), (5, .int (Int32.ofInt cr)), (8, .int (Int32.ofInt c))]) (show cdA 3 98 = some (.istore 7, 2, 0, 0, 0) from rfl) (by decide) (fun _ h => h) ?_
          refine z_inc X (x := c) (lv' := [(8, .int (Int32.ofInt (c + 1))), (7, .int (Int32.ofInt y1014)), (6, .int (Int32.ofInt y1011)), (4, .int (Int32.ofInt y1008)), (9, .int (Int32.ofInt e1007)), (0, .ref (A 133)), (2, .int (Int32.ofInt yv)), (3, .int (Int32.ofInt ro)), (5, .int (Int32.ofInt cr))]) (show cdA 3 100 = some (.iinc 8 1, 3, 0, 0, 0) from rfl) (by decide) (List.Mem.tail _ (List.Mem.tail _ (List.Mem.tail _ (List.Mem.tail _ (List.Mem.tail _ (List.Mem.tail _ (List.Mem.tail _ (List.Mem.tail _ (List.Mem.head _))))))))) (fun _ h => h) ?_
          refine z_goto X (t := 20) (show cdA 3 103 = some (.goto (-83), 3, 0, 0, 0) from rfl) (by decide) ?_
          refine WS_lv (lv := [(0, .ref (A 133)), (2, .int (Int32.ofInt yv)), (3, .int (Int32.ofInt ro)), (4, .int (Int32.ofInt y1008)), (5, .int (Int32.ofInt cr)), (6, .int (Int32.ofInt y1011)), (7, .int (Int32.ofInt y1014)), (8, .int (Int32.ofInt (c + 1)))]) (List.forall_mem_cons.mpr ⟨(List.Mem.tail _ (List.Mem.tail _ (List.Mem.tail _ (List.Mem.tail _ (List.Mem.tail _ (List.Mem.head _)))))), (List.forall_mem_cons.mpr ⟨(List.Mem.tail _ (List.Mem.tail _ (List.Mem.tail _ (List.Mem.tail _ (List.Mem.tail _ (List.Mem.tail _ (List.Mem.head _))))))), (List.forall_mem_cons.mpr ⟨(List.Mem.tail _ (List.Mem.tail _ (List.Mem.tail _ (List.Mem.tail _ (List.Mem.tail _ (List.Mem.tail _ (List.Mem.tail _ (List.Mem.head _)))))))), (List.forall_mem_cons.mpr ⟨(List.Mem.tail _ (List.Mem.tail _ (List.Mem.tail _ (List.Mem.head _)))), (List.forall_mem_cons.mpr ⟨(List.Mem.tail _ (List.Mem.tail _ (List.Mem.tail _ (List.Mem.tail _ (List.Mem.tail _ (List.Mem.tail _ (List.Mem.tail _ (List.Mem.tail _ (List.Mem.head _))))))))), (List.forall_mem_cons.mpr ⟨(List.Mem.tail _ (List.Mem.tail _ (List.Mem.head _))), (List.forall_mem_cons.mpr ⟨(List.Mem.tail _ (List.Mem.head _)), (List.forall_mem_cons.mpr ⟨(List.Mem.head _), (fun q h => absurd h List.not_mem_nil)⟩)⟩)⟩)⟩)⟩)⟩)⟩)⟩) ?_
          exact ih _ yv ro y1008 cr y1011 y1014 (c + 1) I F (by first | exact ⟨And.intro (hi.1.1) (hi.1.2), And.intro (hi.2.1.1) (hi.2.1.2), And.intro (hy1008.1) (hy1008.2), And.intro (hi.2.2.2.1.1) (hi.2.2.2.1.2), And.intro (hy1011.1) (hy1011.2), And.intro (hy1014.1) (hy1014.2), oq_54f49eb5 hi.2.2.2.2.2.2.1, oq_4dae995e g1004 b1003.2⟩ | omega) (by first | exact qk_me hm (by decide) (oq_b575e8c1 g1004 b1003.2) | omega) kx
        refine z_icmp_ne X (t := 44) (show cdA 3 37 = some (.if_icmp .ne 7, 3, 1, 0, 0) from rfl) (by decide) (rng_to _) ⟨by first | exact hi.1.1 | omega, by first | exact hi.1.2 | omega⟩ (fun g1015 => ?_) (fun g1015 => ?_)
        ·
          refine z_aload_n X (x := A 133) (show cdA 3 44 = some (.aload_n 0, 1, 0, 0, 0) from rfl) (List.Mem.head _) ?_
          refine s_getR X 133 (show cdA 3 45 = some (.getfield 43, 3, 0, 0, 0) from rfl) (by decide) rfl rfl ?_
          refine s_getR X 68 (show cdA 3 48 = some (.getfield 87, 3, 9, 12, 0) from rfl) (by decide) rfl rfl ?_
          refine z_load_n X (x := ro) (show cdA 3 51 = some (.iload_n 3, 1, 0, 0, 0) from rfl) (List.Mem.tail _ (List.Mem.tail _ (List.Mem.head _))) ?_
          refine z_aload_n X (x := A 133) (show cdA 3 52 = some (.aload_n 0, 1, 0, 0, 0) from rfl) (List.Mem.head _) ?_
          refine s_getR X 133 (show cdA 3 53 = some (.getfield 9, 3, 0, 3, 0) from rfl) (by decide) rfl rfl ?_
          refine z_load X (x := c) (show cdA 3 56 = some (.iload 8, 2, 0, 0, 0) from rfl) (List.Mem.tail _ (List.Mem.tail _ (List.Mem.tail _ (List.Mem.tail _ (List.Mem.tail _ (List.Mem.tail _ (List.Mem.tail _ (List.Mem.head _)))))))) ?_
          refine z_ald X 134 (show cdA 3 58 = some (.iaload, 1, 0, 0, 0) from rfl) (by decide) rfl (by first | exact hi.2.2.2.2.2.2.1 | omega) (show c < 12 by first | exact oq_f36e82a8 g1004 b1003.2 | omega) (by decide) ?_
          have b1016 : (0 : Int) ≤ iC t 116 (c).toNat ∧ iC t 116 (c).toNat ≤ 11 := I.2 116 _ (show (c).toNat < 12 by first | exact oq_2dac6850 g1004 b1003.2 | omega)
          refine z_add X (show cdA 3 59 = some (.iadd, 1, 0, 0, 0) from rfl) ?_
          refine z_ald X 79 (show cdA 3 60 = some (.iaload, 1, 0, 0, 0) from rfl) (by decide) rfl (by first | exact oq_dd29f52d hi.2.1.1 b1016.1 | omega) (show (ro + (iC t 116 (c).toNat)) < 288 by first | exact oq_f94a0088 hi.2.1.2 b1016.2 | omega) (by decide) ?_
          have b1017 : (0 : Int) ≤ iC t 67 ((ro + (iC t 116 (c).toNat))).toNat ∧ iC t 67 ((ro + (iC t 116 (c).toNat))).toNat ≤ 50 := I.2 67 _ (show ((ro + (iC t 116 (c).toNat))).toNat < 288 by first | exact oq_3d7ae1dd hi.2.1.2 b1016.2 | omega)
          exact N1006 _ (Or.inl ⟨g1015, b1016, b1017, rfl⟩)
        ·
          refine z_const X (show cdA 3 40 = some (.iconst 0, 1, 0, 0, 0) from rfl) ?_
          refine z_goto X (t := 61) (show cdA 3 41 = some (.goto 20, 3, 0, 0, 0) from rfl) (by decide) ?_
          exact N1006 _ (Or.inr (⟨g1015, rfl⟩))
  have L109 : ∀ (n : Nat) (t : PS) (yv ro wa cr ov cl c : Int), Bd t → Fm [] [123] s t → (rng yv ∧ (0 ≤ ro ∧ ro ≤ 276) ∧ rng wa ∧ rng cr ∧ rng ov ∧ rng cl ∧ 0 ≤ c ∧ c ≤ 66) → (66 - c : Int).toNat < n → (∀ (t' : PS) (cr' c' : Int), Bd t' → Fm [] [123] s t' → (rng yv ∧ (0 ≤ ro ∧ ro ≤ 276) ∧ rng wa ∧ rng cr' ∧ rng ov ∧ rng cl ∧ 0 ≤ c' ∧ c' ≤ 66) → WS k 196 [(0, .ref (A 133)), (2, .int (Int32.ofInt yv)), (3, .int (Int32.ofInt ro)), (4, .int (Int32.ofInt wa)), (5, .int (Int32.ofInt cr')), (6, .int (Int32.ofInt ov)), (7, .int (Int32.ofInt cl)), (8, .int (Int32.ofInt c'))] [] (Wd A dT t') 0 0) → WS k 109 [(0, .ref (A 133)), (2, .int (Int32.ofInt yv)), (3, .int (Int32.ofInt ro)), (4, .int (Int32.ofInt wa)), (5, .int (Int32.ofInt cr)), (6, .int (Int32.ofInt ov)), (7, .int (Int32.ofInt cl)), (8, .int (Int32.ofInt c))] [] (Wd A dT t) 0 0 := by
    intro n
    induction n with
    | zero =>
      intro t yv ro wa cr ov cl c I F hi hm kx
      exact absurd hm (Nat.not_lt_zero _)
    | succ n ih =>
      intro t yv ro wa cr ov cl c I F hi hm kx
      have b2001 : (0 : Int) ≤ iI t 58 ∧ iI t 58 ≤ 12 := I.1 58
      have b2002 : (0 : Int) ≤ iI t 59 ∧ iI t 59 ≤ 66 := I.1 59
      refine z_load X (x := c) (show cdA 3 109 = some (.iload 8, 2, 0, 0, 0) from rfl) (List.Mem.tail _ (List.Mem.tail _ (List.Mem.tail _ (List.Mem.tail _ (List.Mem.tail _ (List.Mem.tail _ (List.Mem.tail _ (List.Mem.head _)))))))) ?_
      refine z_aload_n X (x := A 133) (show cdA 3 111 = some (.aload_n 0, 1, 0, 0, 0) from rfl) (List.Mem.head _) ?_
      refine z_getI X 133 (show cdA 3 112 = some (.getfield 72, 3, 0, 7, 0) from rfl) (by decide) rfl rfl ?_
      have b2003 : (0 : Int) ≤ iI t 59 ∧ iI t 59 ≤ 66 := I.1 59
      refine z_icmp_ge X (t := 196) (show cdA 3 115 = some (.if_icmp .ge 81, 3, 3, 0, 0) from rfl) (by decide) ⟨by first | exact oq_fa4e5087 hi.2.2.2.2.2.2.1 | omega, by first | exact oq_64f2e926 hi.2.2.2.2.2.2.2 | omega⟩ (rng_to _) (fun g2004 => ?_) (fun g2004 => ?_)
      ·
        refine WS_lv (lv := [(0, .ref (A 133)), (2, .int (Int32.ofInt yv)), (3, .int (Int32.ofInt ro)), (4, .int (Int32.ofInt wa)), (5, .int (Int32.ofInt cr)), (6, .int (Int32.ofInt ov)), (7, .int (Int32.ofInt cl)), (8, .int (Int32.ofInt c))]) (List.forall_mem_cons.mpr ⟨(List.Mem.head _), (List.forall_mem_cons.mpr ⟨(List.Mem.tail _ (List.Mem.head _)), (List.forall_mem_cons.mpr ⟨(List.Mem.tail _ (List.Mem.tail _ (List.Mem.head _))), (List.forall_mem_cons.mpr ⟨(List.Mem.tail _ (List.Mem.tail _ (List.Mem.tail _ (List.Mem.head _)))), (List.forall_mem_cons.mpr ⟨(List.Mem.tail _ (List.Mem.tail _ (List.Mem.tail _ (List.Mem.tail _ (List.Mem.head _))))), (List.forall_mem_cons.mpr ⟨(List.Mem.tail _ (List.Mem.tail _ (List.Mem.tail _ (List.Mem.tail _ (List.Mem.tail _ (List.Mem.head _)))))), (List.forall_mem_cons.mpr ⟨(List.Mem.tail _ (List.Mem.tail _ (List.Mem.tail _ (List.Mem.tail _ (List.Mem.tail _ (List.Mem.tail _ (List.Mem.head _))))))), (List.forall_mem_cons.mpr ⟨(List.Mem.tail _ (List.Mem.tail _ (List.Mem.tail _ (List.Mem.tail _ (List.Mem.tail _ (List.Mem.tail _ (List.Mem.tail _ (List.Mem.head _)))))))), (fun q h => absurd h List.not_mem_nil)⟩)⟩)⟩)⟩)⟩)⟩)⟩)⟩) ?_
        exact kx _ cr c I F (by first | exact ⟨And.intro (hi.1.1) (hi.1.2), And.intro (hi.2.1.1) (hi.2.1.2), And.intro (hi.2.2.1.1) (hi.2.2.1.2), And.intro (hi.2.2.2.1.1) (hi.2.2.2.1.2), And.intro (hi.2.2.2.2.1.1) (hi.2.2.2.2.1.2), And.intro (hi.2.2.2.2.2.1.1) (hi.2.2.2.2.2.1.2), hi.2.2.2.2.2.2.1, hi.2.2.2.2.2.2.2⟩ | omega)
      ·
        refine z_aload_n X (x := A 133) (show cdA 3 118 = some (.aload_n 0, 1, 0, 0, 0) from rfl) (List.Mem.head _) ?_
        refine s_getR X 133 (show cdA 3 119 = some (.getfield 26, 3, 0, 8, 0) from rfl) (by decide) rfl rfl ?_
        refine z_load X (x := c) (show cdA 3 122 = some (.iload 8, 2, 0, 0, 0) from rfl) (List.Mem.tail _ (List.Mem.tail _ (List.Mem.tail _ (List.Mem.tail _ (List.Mem.tail _ (List.Mem.tail _ (List.Mem.tail _ (List.Mem.head _)))))))) ?_
        refine z_ald X 138 (show cdA 3 124 = some (.iaload, 1, 0, 0, 0) from rfl) (by decide) rfl (by first | exact hi.2.2.2.2.2.2.1 | omega) (show c < 66 by first | exact oq_256e4529 g2004 b2003.2 | omega) (by decide) ?_
        have b2005 : (0 : Int) ≤ iC t 120 (c).toNat ∧ iC t 120 (c).toNat ≤ 11 := I.2 120 _ (show (c).toNat < 66 by first | exact oq_d7ff7873 g2004 b2003.2 | omega)
        refine z_load_n X (x := yv) (show cdA 3 125 = some (.iload_n 2, 1, 0, 0, 0) from rfl) (List.Mem.tail _ (List.Mem.head _)) ?_
        refine z_icmp_eq X (t := 190) (show cdA 3 126 = some (.if_icmp .eq 64, 3, 0, 0, 0) from rfl) (by decide) (rng_to _) ⟨by first | exact hi.1.1 | omega, by first | exact hi.1.2 | omega⟩ (fun g2006 => ?_) (fun g2006 => ?_)
        ·
          refine z_inc X (x := c) (lv' := [(8, .int (Int32.ofInt (c + 1))), (0, .ref (A 133)), (2, .int (Int32.ofInt yv)), (3, .int (Int32.ofInt ro)), (4, .int (Int32.ofInt wa)), (5, .int (Int32.ofInt cr)), (6, .int (Int32.ofInt ov)), (7, .int (Int32.ofInt cl))]) (show cdA 3 190 = some (.iinc 8 1, 3, 0, 0, 0) from rfl) (by decide) (List.Mem.tail _ (List.Mem.tail _ (List.Mem.tail _ (List.Mem.tail _ (List.Mem.tail _ (List.Mem.tail _ (List.Mem.tail _ (List.Mem.head _)))))))) (fun _ h => h) ?_
          refine z_goto X (t := 109) (show cdA 3 193 = some (.goto (-84), 3, 0, 0, 0) from rfl) (by decide) ?_
          refine WS_lv (lv := [(0, .ref (A 133)), (2, .int (Int32.ofInt yv)), (3, .int (Int32.ofInt ro)), (4, .int (Int32.ofInt wa)), (5, .int (Int32.ofInt cr)), (6, .int (Int32.ofInt ov)), (7, .int (Int32.ofInt cl)), (8, .int (Int32.ofInt (c + 1)))]) (List.forall_mem_cons.mpr ⟨(List.Mem.tail _ (List.Mem.head _)), (List.forall_mem_cons.mpr ⟨(List.Mem.tail _ (List.Mem.tail _ (List.Mem.head _))), (List.forall_mem_cons.mpr ⟨(List.Mem.tail _ (List.Mem.tail _ (List.Mem.tail _ (List.Mem.head _)))), (List.forall_mem_cons.mpr ⟨(List.Mem.tail _ (List.Mem.tail _ (List.Mem.tail _ (List.Mem.tail _ (List.Mem.head _))))), (List.forall_mem_cons.mpr ⟨(List.Mem.tail _ (List.Mem.tail _ (List.Mem.tail _ (List.Mem.tail _ (List.Mem.tail _ (List.Mem.head _)))))), (List.forall_mem_cons.mpr ⟨(List.Mem.tail _ (List.Mem.tail _ (List.Mem.tail _ (List.Mem.tail _ (List.Mem.tail _ (List.Mem.tail _ (List.Mem.head _))))))), (List.forall_mem_cons.mpr ⟨(List.Mem.tail _ (List.Mem.tail _ (List.Mem.tail _ (List.Mem.tail _ (List.Mem.tail _ (List.Mem.tail _ (List.Mem.tail _ (List.Mem.head _)))))))), (List.forall_mem_cons.mpr ⟨(List.Mem.head _), (fun q h => absurd h List.not_mem_nil)⟩)⟩)⟩)⟩)⟩)⟩)⟩)⟩) ?_
          exact ih _ yv ro wa cr ov cl (c + 1) I F (by first | exact ⟨And.intro (hi.1.1) (hi.1.2), And.intro (hi.2.1.1) (hi.2.1.2), And.intro (hi.2.2.1.1) (hi.2.2.1.2), And.intro (hi.2.2.2.1.1) (hi.2.2.2.1.2), And.intro (hi.2.2.2.2.1.1) (hi.2.2.2.2.1.2), And.intro (hi.2.2.2.2.2.1.1) (hi.2.2.2.2.2.1.2), oq_54f49eb5 hi.2.2.2.2.2.2.1, oq_319a18a4 g2004 b2003.2⟩ | omega) (by first | exact qk_me hm (by decide) (oq_dd0e9829 g2004 b2003.2) | omega) kx
        ·
          refine z_aload_n X (x := A 133) (show cdA 3 129 = some (.aload_n 0, 1, 0, 0, 0) from rfl) (List.Mem.head _) ?_
          refine s_getR X 133 (show cdA 3 130 = some (.getfield 29, 3, 0, 9, 0) from rfl) (by decide) rfl rfl ?_
          refine z_load X (x := c) (show cdA 3 133 = some (.iload 8, 2, 0, 0, 0) from rfl) (List.Mem.tail _ (List.Mem.tail _ (List.Mem.tail _ (List.Mem.tail _ (List.Mem.tail _ (List.Mem.tail _ (List.Mem.tail _ (List.Mem.head _)))))))) ?_
          refine z_ald X 139 (show cdA 3 135 = some (.iaload, 1, 0, 0, 0) from rfl) (by decide) rfl (by first | exact hi.2.2.2.2.2.2.1 | omega) (show c < 66 by first | exact oq_256e4529 g2004 b2003.2 | omega) (by decide) ?_
          have b2007 : (0 : Int) ≤ iC t 121 (c).toNat ∧ iC t 121 (c).toNat ≤ 11 := I.2 121 _ (show (c).toNat < 66 by first | exact oq_d7ff7873 g2004 b2003.2 | omega)
          refine z_load_n X (x := yv) (show cdA 3 136 = some (.iload_n 2, 1, 0, 0, 0) from rfl) (List.Mem.tail _ (List.Mem.head _)) ?_
          refine z_icmp_eq X (t := 190) (show cdA 3 137 = some (.if_icmp .eq 53, 3, 0, 0, 0) from rfl) (by decide) (rng_to _) ⟨by first | exact hi.1.1 | omega, by first | exact hi.1.2 | omega⟩ (fun g2008 => ?_) (fun g2008 => ?_)
          ·
            refine z_inc X (x := c) (lv' := [(8, .int (Int32.ofInt (c + 1))), (0, .ref (A 133)), (2, .int (Int32.ofInt yv)), (3, .int (Int32.ofInt ro)), (4, .int (Int32.ofInt wa)), (5, .int (Int32.ofInt cr)), (6, .int (Int32.ofInt ov)), (7, .int (Int32.ofInt cl))]) (show cdA 3 190 = some (.iinc 8 1, 3, 0, 0, 0) from rfl) (by decide) (List.Mem.tail _ (List.Mem.tail _ (List.Mem.tail _ (List.Mem.tail _ (List.Mem.tail _ (List.Mem.tail _ (List.Mem.tail _ (List.Mem.head _)))))))) (fun _ h => h) ?_
            refine z_goto X (t := 109) (show cdA 3 193 = some (.goto (-84), 3, 0, 0, 0) from rfl) (by decide) ?_
            refine WS_lv (lv := [(0, .ref (A 133)), (2, .int (Int32.ofInt yv)), (3, .int (Int32.ofInt ro)), (4, .int (Int32.ofInt wa)), (5, .int (Int32.ofInt cr)), (6, .int (Int32.ofInt ov)), (7, .int (Int32.ofInt cl)), (8, .int (Int32.ofInt (c + 1)))]) (List.forall_mem_cons.mpr ⟨(List.Mem.tail _ (List.Mem.head _)), (List.forall_mem_cons.mpr ⟨(List.Mem.tail _ (List.Mem.tail _ (List.Mem.head _))), (List.forall_mem_cons.mpr ⟨(List.Mem.tail _ (List.Mem.tail _ (List.Mem.tail _ (List.Mem.head _)))), (List.forall_mem_cons.mpr ⟨(List.Mem.tail _ (List.Mem.tail _ (List.Mem.tail _ (List.Mem.tail _ (List.Mem.head _))))), (List.forall_mem_cons.mpr ⟨(List.Mem.tail _ (List.Mem.tail _ (List.Mem.tail _ (List.Mem.tail _ (List.Mem.tail _ (List.Mem.head _)))))), (List.forall_mem_cons.mpr ⟨(List.Mem.tail _ (List.Mem.tail _ (List.Mem.tail _ (List.Mem.tail _ (List.Mem.tail _ (List.Mem.tail _ (List.Mem.head _))))))), (List.forall_mem_cons.mpr ⟨(List.Mem.tail _ (List.Mem.tail _ (List.Mem.tail _ (List.Mem.tail _ (List.Mem.tail _ (List.Mem.tail _ (List.Mem.tail _ (List.Mem.head _)))))))), (List.forall_mem_cons.mpr ⟨(List.Mem.head _), (fun q h => absurd h List.not_mem_nil)⟩)⟩)⟩)⟩)⟩)⟩)⟩)⟩) ?_
            exact ih _ yv ro wa cr ov cl (c + 1) I F (by first | exact ⟨And.intro (hi.1.1) (hi.1.2), And.intro (hi.2.1.1) (hi.2.1.2), And.intro (hi.2.2.1.1) (hi.2.2.1.2), And.intro (hi.2.2.2.1.1) (hi.2.2.2.1.2), And.intro (hi.2.2.2.2.1.1) (hi.2.2.2.2.1.2), And.intro (hi.2.2.2.2.2.1.1) (hi.2.2.2.2.2.1.2), oq_54f49eb5 hi.2.2.2.2.2.2.1, oq_319a18a4 g2004 b2003.2⟩ | omega) (by first | exact qk_me hm (by decide) (oq_dd0e9829 g2004 b2003.2) | omega) kx
          ·
            refine z_load X (x := cr) (show cdA 3 140 = some (.iload 5, 2, 0, 0, 0) from rfl) (List.Mem.tail _ (List.Mem.tail _ (List.Mem.tail _ (List.Mem.tail _ (List.Mem.head _))))) ?_
            refine z_aload_n X (x := A 133) (show cdA 3 142 = some (.aload_n 0, 1, 0, 0, 0) from rfl) (List.Mem.head _) ?_
            refine s_getR X 133 (show cdA 3 143 = some (.getfield 32, 3, 0, 10, 0) from rfl) (by decide) rfl rfl ?_
            refine z_load X (x := c) (show cdA 3 146 = some (.iload 8, 2, 0, 0, 0) from rfl) (List.Mem.tail _ (List.Mem.tail _ (List.Mem.tail _ (List.Mem.tail _ (List.Mem.tail _ (List.Mem.tail _ (List.Mem.tail _ (List.Mem.head _)))))))) ?_
            refine z_ald X 140 (show cdA 3 148 = some (.iaload, 1, 0, 0, 0) from rfl) (by decide) rfl (by first | exact hi.2.2.2.2.2.2.1 | omega) (show c < 66 by first | exact oq_256e4529 g2004 b2003.2 | omega) (by decide) ?_
            have b2009 : ((-2147483648) : Int) ≤ iC t 122 (c).toNat ∧ iC t 122 (c).toNat ≤ 2147483647 := I.2 122 _ (show (c).toNat < 66 by first | exact oq_d7ff7873 g2004 b2003.2 | omega)
            refine z_aload_n X (x := A 133) (show cdA 3 149 = some (.aload_n 0, 1, 0, 0, 0) from rfl) (List.Mem.head _) ?_
            refine s_getR X 133 (show cdA 3 150 = some (.getfield 43, 3, 0, 0, 0) from rfl) (by decide) rfl rfl ?_
            refine s_getR X 68 (show cdA 3 153 = some (.getfield 87, 3, 9, 12, 0) from rfl) (by decide) rfl rfl ?_
            refine z_load_n X (x := ro) (show cdA 3 156 = some (.iload_n 3, 1, 0, 0, 0) from rfl) (List.Mem.tail _ (List.Mem.tail _ (List.Mem.head _))) ?_
            refine z_aload_n X (x := A 133) (show cdA 3 157 = some (.aload_n 0, 1, 0, 0, 0) from rfl) (List.Mem.head _) ?_
            refine s_getR X 133 (show cdA 3 158 = some (.getfield 26, 3, 0, 8, 0) from rfl) (by decide) rfl rfl ?_
            refine z_load X (x := c) (show cdA 3 161 = some (.iload 8, 2, 0, 0, 0) from rfl) (List.Mem.tail _ (List.Mem.tail _ (List.Mem.tail _ (List.Mem.tail _ (List.Mem.tail _ (List.Mem.tail _ (List.Mem.tail _ (List.Mem.head _)))))))) ?_
            refine z_ald X 138 (show cdA 3 163 = some (.iaload, 1, 0, 0, 0) from rfl) (by decide) rfl (by first | exact hi.2.2.2.2.2.2.1 | omega) (show c < 66 by first | exact oq_256e4529 g2004 b2003.2 | omega) (by decide) ?_
            have b2010 : (0 : Int) ≤ iC t 120 (c).toNat ∧ iC t 120 (c).toNat ≤ 11 := I.2 120 _ (show (c).toNat < 66 by first | exact oq_d7ff7873 g2004 b2003.2 | omega)
            refine z_add X (show cdA 3 164 = some (.iadd, 1, 0, 0, 0) from rfl) ?_
            refine z_ald X 79 (show cdA 3 165 = some (.iaload, 1, 0, 0, 0) from rfl) (by decide) rfl (by first | exact oq_dd29f52d hi.2.1.1 b2010.1 | omega) (show (ro + (iC t 120 (c).toNat)) < 288 by first | exact oq_f94a0088 hi.2.1.2 b2010.2 | omega) (by decide) ?_
            have b2011 : (0 : Int) ≤ iC t 67 ((ro + (iC t 120 (c).toNat))).toNat ∧ iC t 67 ((ro + (iC t 120 (c).toNat))).toNat ≤ 50 := I.2 67 _ (show ((ro + (iC t 120 (c).toNat))).toNat < 288 by first | exact oq_3d7ae1dd hi.2.1.2 b2010.2 | omega)
            refine z_aload_n X (x := A 133) (show cdA 3 166 = some (.aload_n 0, 1, 0, 0, 0) from rfl) (List.Mem.head _) ?_
            refine s_getR X 133 (show cdA 3 167 = some (.getfield 43, 3, 0, 0, 0) from rfl) (by decide) rfl rfl ?_
            refine s_getR X 68 (show cdA 3 170 = some (.getfield 87, 3, 9, 12, 0) from rfl) (by decide) rfl rfl ?_
            refine z_load_n X (x := ro) (show cdA 3 173 = some (.iload_n 3, 1, 0, 0, 0) from rfl) (List.Mem.tail _ (List.Mem.tail _ (List.Mem.head _))) ?_
            refine z_aload_n X (x := A 133) (show cdA 3 174 = some (.aload_n 0, 1, 0, 0, 0) from rfl) (List.Mem.head _) ?_
            refine s_getR X 133 (show cdA 3 175 = some (.getfield 29, 3, 0, 9, 0) from rfl) (by decide) rfl rfl ?_
            refine z_load X (x := c) (show cdA 3 178 = some (.iload 8, 2, 0, 0, 0) from rfl) (List.Mem.tail _ (List.Mem.tail _ (List.Mem.tail _ (List.Mem.tail _ (List.Mem.tail _ (List.Mem.tail _ (List.Mem.tail _ (List.Mem.head _)))))))) ?_
            refine z_ald X 139 (show cdA 3 180 = some (.iaload, 1, 0, 0, 0) from rfl) (by decide) rfl (by first | exact hi.2.2.2.2.2.2.1 | omega) (show c < 66 by first | exact oq_256e4529 g2004 b2003.2 | omega) (by decide) ?_
            have b2012 : (0 : Int) ≤ iC t 121 (c).toNat ∧ iC t 121 (c).toNat ≤ 11 := I.2 121 _ (show (c).toNat < 66 by first | exact oq_d7ff7873 g2004 b2003.2 | omega)
            refine z_add X (show cdA 3 181 = some (.iadd, 1, 0, 0, 0) from rfl) ?_
            refine z_ald X 79 (show cdA 3 182 = some (.iaload, 1, 0, 0, 0) from rfl) (by decide) rfl (by first | exact oq_dd29f52d hi.2.1.1 b2012.1 | omega) (show (ro + (iC t 121 (c).toNat)) < 288 by first | exact oq_f94a0088 hi.2.1.2 b2012.2 | omega) (by decide) ?_
            have b2013 : (0 : Int) ≤ iC t 67 ((ro + (iC t 121 (c).toNat))).toNat ∧ iC t 67 ((ro + (iC t 121 (c).toNat))).toNat ≤ 50 := I.2 67 _ (show ((ro + (iC t 121 (c).toNat))).toNat < 288 by first | exact oq_3d7ae1dd hi.2.1.2 b2012.2 | omega)
            refine z_min X (show cdA 3 183 = some (.invokestatic 90, 3, 0, 8, 0) from rfl) (rng_to _) (rng_to _) (by rw [E.2.2.2]; decide) (by rw [E.2.2.2]; exact Nat.le_of_ble_eq_true rfl) (Nat.zero_le _) (Nat.zero_le _) (fun e2014 he2014 => ?_)
            refine z_mul X (show cdA 3 186 = some (.imul, 1, 0, 0, 0) from rfl) ?_
            refine z_any (fun y2015 hy2015 => ?_)
            refine z_add X (show cdA 3 187 = some (.iadd, 1, 0, 0, 0) from rfl) ?_
            refine z_any (fun y2016 hy2016 => ?_)
            refine z_store X (lv' := [(5, .int (Int32.ofInt y2016)), (0, .ref (A 133)), (2, .int (Int32.ofInt yv)), (3, .int (Int32.ofInt ro)), (4, .int (Int32.ofInt wa)), (6, .int (Int32.ofInt ov)), (7, .int (Int32.ofInt cl)), (8, .int (Int32.ofInt c))]) (show cdA 3 188 = some (.istore 5, 2, 0, 0, 0) from rfl) (by decide) (fun _ h => h) ?_
            refine z_inc X (x := c) (lv' := [(8, .int (Int32.ofInt (c + 1))), (5, .int (Int32.ofInt y2016)), (0, .ref (A 133)), (2, .int (Int32.ofInt yv)), (3, .int (Int32.ofInt ro)), (4, .int (Int32.ofInt wa)), (6, .int (Int32.ofInt ov)), (7, .int (Int32.ofInt cl))]) (show cdA 3 190 = some (.iinc 8 1, 3, 0, 0, 0) from rfl) (by decide) (List.Mem.tail _ (List.Mem.tail _ (List.Mem.tail _ (List.Mem.tail _ (List.Mem.tail _ (List.Mem.tail _ (List.Mem.tail _ (List.Mem.head _)))))))) (fun _ h => h) ?_
            refine z_goto X (t := 109) (show cdA 3 193 = some (.goto (-84), 3, 0, 0, 0) from rfl) (by decide) ?_
            refine WS_lv (lv := [(0, .ref (A 133)), (2, .int (Int32.ofInt yv)), (3, .int (Int32.ofInt ro)), (4, .int (Int32.ofInt wa)), (5, .int (Int32.ofInt y2016)), (6, .int (Int32.ofInt ov)), (7, .int (Int32.ofInt cl)), (8, .int (Int32.ofInt (c + 1)))]) (List.forall_mem_cons.mpr ⟨(List.Mem.tail _ (List.Mem.tail _ (List.Mem.head _))), (List.forall_mem_cons.mpr ⟨(List.Mem.tail _ (List.Mem.tail _ (List.Mem.tail _ (List.Mem.head _)))), (List.forall_mem_cons.mpr ⟨(List.Mem.tail _ (List.Mem.tail _ (List.Mem.tail _ (List.Mem.tail _ (List.Mem.head _))))), (List.forall_mem_cons.mpr ⟨(List.Mem.tail _ (List.Mem.tail _ (List.Mem.tail _ (List.Mem.tail _ (List.Mem.tail _ (List.Mem.head _)))))), (List.forall_mem_cons.mpr ⟨(List.Mem.tail _ (List.Mem.head _)), (List.forall_mem_cons.mpr ⟨(List.Mem.tail _ (List.Mem.tail _ (List.Mem.tail _ (List.Mem.tail _ (List.Mem.tail _ (List.Mem.tail _ (List.Mem.head _))))))), (List.forall_mem_cons.mpr ⟨(List.Mem.tail _ (List.Mem.tail _ (List.Mem.tail _ (List.Mem.tail _ (List.Mem.tail _ (List.Mem.tail _ (List.Mem.tail _ (List.Mem.head _)))))))), (List.forall_mem_cons.mpr ⟨(List.Mem.head _), (fun q h => absurd h List.not_mem_nil)⟩)⟩)⟩)⟩)⟩)⟩)⟩)⟩) ?_
            exact ih _ yv ro wa y2016 ov cl (c + 1) I F (by first | exact ⟨And.intro (hi.1.1) (hi.1.2), And.intro (hi.2.1.1) (hi.2.1.2), And.intro (hi.2.2.1.1) (hi.2.2.1.2), And.intro (hy2016.1) (hy2016.2), And.intro (hi.2.2.2.2.1.1) (hi.2.2.2.2.1.2), And.intro (hi.2.2.2.2.2.1.1) (hi.2.2.2.2.2.1.2), oq_54f49eb5 hi.2.2.2.2.2.2.1, oq_319a18a4 g2004 b2003.2⟩ | omega) (by first | exact qk_me hm (by decide) (oq_dd0e9829 g2004 b2003.2) | omega) kx
  refine z_load_n X (x := x) (show cdA 3 0 = some (.iload_n 1, 1, 0, 0, 0) from rfl) (List.Mem.tail _ (List.Mem.head _)) ?_
  refine z_bipush X (show cdA 3 1 = some (.bipush 12, 2, 0, 0, 12) from rfl) ?_
  refine z_mul X (show cdA 3 3 = some (.imul, 1, 0, 0, 0) from rfl) ?_
  refine z_store_n X (lv' := [(3, .int (Int32.ofInt (x * 12))), (0, .ref (A 133)), (1, .int (Int32.ofInt x)), (2, .int (Int32.ofInt y))]) (show cdA 3 4 = some (.istore_n 3, 1, 0, 0, 0) from rfl) (by decide) (fun _ h => h) ?_
  refine z_const X (show cdA 3 5 = some (.iconst 0, 1, 0, 0, 0) from rfl) ?_
  refine z_store X (lv' := [(4, .int (Int32.ofInt 0)), (3, .int (Int32.ofInt (x * 12))), (0, .ref (A 133)), (1, .int (Int32.ofInt x)), (2, .int (Int32.ofInt y))]) (show cdA 3 6 = some (.istore 4, 2, 0, 0, 0) from rfl) (by decide) (fun _ h => h) ?_
  refine z_const X (show cdA 3 8 = some (.iconst 0, 1, 0, 0, 0) from rfl) ?_
  refine z_store X (lv' := [(5, .int (Int32.ofInt 0)), (4, .int (Int32.ofInt 0)), (3, .int (Int32.ofInt (x * 12))), (0, .ref (A 133)), (1, .int (Int32.ofInt x)), (2, .int (Int32.ofInt y))]) (show cdA 3 9 = some (.istore 5, 2, 0, 0, 0) from rfl) (by decide) (fun _ h => h) ?_
  refine z_const X (show cdA 3 11 = some (.iconst 0, 1, 0, 0, 0) from rfl) ?_
  refine z_store X (lv' := [(6, .int (Int32.ofInt 0)), (5, .int (Int32.ofInt 0)), (4, .int (Int32.ofInt 0)), (3, .int (Int32.ofInt (x * 12))), (0, .ref (A 133)), (1, .int (Int32.ofInt x)), (2, .int (Int32.ofInt y))]) (show cdA 3 12 = some (.istore 6, 2, 0, 0, 0) from rfl) (by decide) (fun _ h => h) ?_
  refine z_const X (show cdA 3 14 = some (.iconst 0, 1, 0, 0, 0) from rfl) ?_
  refine z_store X (lv' := [(7, .int (Int32.ofInt 0)), (6, .int (Int32.ofInt 0)), (5, .int (Int32.ofInt 0)), (4, .int (Int32.ofInt 0)), (3, .int (Int32.ofInt (x * 12))), (0, .ref (A 133)), (1, .int (Int32.ofInt x)), (2, .int (Int32.ofInt y))]) (show cdA 3 15 = some (.istore 7, 2, 0, 0, 0) from rfl) (by decide) (fun _ h => h) ?_
  refine z_const X (show cdA 3 17 = some (.iconst 0, 1, 0, 0, 0) from rfl) ?_
  refine z_store X (lv' := [(8, .int (Int32.ofInt 0)), (7, .int (Int32.ofInt 0)), (6, .int (Int32.ofInt 0)), (5, .int (Int32.ofInt 0)), (4, .int (Int32.ofInt 0)), (3, .int (Int32.ofInt (x * 12))), (0, .ref (A 133)), (1, .int (Int32.ofInt x)), (2, .int (Int32.ofInt y))]) (show cdA 3 18 = some (.istore 8, 2, 0, 0, 0) from rfl) (by decide) (fun _ h => h) ?_
  refine WS_lv (lv := [(0, .ref (A 133)), (2, .int (Int32.ofInt y)), (3, .int (Int32.ofInt (x * 12))), (4, .int (Int32.ofInt 0)), (5, .int (Int32.ofInt 0)), (6, .int (Int32.ofInt 0)), (7, .int (Int32.ofInt 0)), (8, .int (Int32.ofInt 0))]) (List.forall_mem_cons.mpr ⟨(List.Mem.tail _ (List.Mem.tail _ (List.Mem.tail _ (List.Mem.tail _ (List.Mem.tail _ (List.Mem.tail _ (List.Mem.head _))))))), (List.forall_mem_cons.mpr ⟨(List.Mem.tail _ (List.Mem.tail _ (List.Mem.tail _ (List.Mem.tail _ (List.Mem.tail _ (List.Mem.tail _ (List.Mem.tail _ (List.Mem.tail _ (List.Mem.head _))))))))), (List.forall_mem_cons.mpr ⟨(List.Mem.tail _ (List.Mem.tail _ (List.Mem.tail _ (List.Mem.tail _ (List.Mem.tail _ (List.Mem.head _)))))), (List.forall_mem_cons.mpr ⟨(List.Mem.tail _ (List.Mem.tail _ (List.Mem.tail _ (List.Mem.tail _ (List.Mem.head _))))), (List.forall_mem_cons.mpr ⟨(List.Mem.tail _ (List.Mem.tail _ (List.Mem.tail _ (List.Mem.head _)))), (List.forall_mem_cons.mpr ⟨(List.Mem.tail _ (List.Mem.tail _ (List.Mem.head _))), (List.forall_mem_cons.mpr ⟨(List.Mem.tail _ (List.Mem.head _)), (List.forall_mem_cons.mpr ⟨(List.Mem.head _), (fun q h => absurd h List.not_mem_nil)⟩)⟩)⟩)⟩)⟩)⟩)⟩)⟩) ?_
  refine L20 ((12 - 0 : Int).toNat + 1) s y (x * 12) 0 0 0 0 0 I F (by first | exact ⟨And.intro (p1.1) (p1.2), And.intro (oq_6b8c39bb p0.1) (oq_70eefe4f p0.2), And.intro (by decide) (by decide), And.intro (by decide) (by decide), And.intro (by decide) (by decide), And.intro (by decide) (by decide), by decide, by decide⟩ | omega) (Nat.lt_succ_self _) ?_
  intro s3 x4 x5 x6 x7 x8 Is3 Fs3 hs3
  have b9 : (0 : Int) ≤ iI s3 58 ∧ iI s3 58 ≤ 12 := Is3.1 58
  have b10 : (0 : Int) ≤ iI s3 59 ∧ iI s3 59 ≤ 66 := Is3.1 59
  refine z_const X (show cdA 3 106 = some (.iconst 0, 1, 0, 0, 0) from rfl) ?_
  refine z_store X (lv' := [(8, .int (Int32.ofInt 0)), (0, .ref (A 133)), (2, .int (Int32.ofInt y)), (3, .int (Int32.ofInt (x * 12))), (4, .int (Int32.ofInt x4)), (5, .int (Int32.ofInt x5)), (6, .int (Int32.ofInt x6)), (7, .int (Int32.ofInt x7))]) (show cdA 3 107 = some (.istore 8, 2, 0, 0, 0) from rfl) (by decide) (fun _ h => h) ?_
  refine WS_lv (lv := [(0, .ref (A 133)), (2, .int (Int32.ofInt y)), (3, .int (Int32.ofInt (x * 12))), (4, .int (Int32.ofInt x4)), (5, .int (Int32.ofInt x5)), (6, .int (Int32.ofInt x6)), (7, .int (Int32.ofInt x7)), (8, .int (Int32.ofInt 0))]) (List.forall_mem_cons.mpr ⟨(List.Mem.tail _ (List.Mem.head _)), (List.forall_mem_cons.mpr ⟨(List.Mem.tail _ (List.Mem.tail _ (List.Mem.head _))), (List.forall_mem_cons.mpr ⟨(List.Mem.tail _ (List.Mem.tail _ (List.Mem.tail _ (List.Mem.head _)))), (List.forall_mem_cons.mpr ⟨(List.Mem.tail _ (List.Mem.tail _ (List.Mem.tail _ (List.Mem.tail _ (List.Mem.head _))))), (List.forall_mem_cons.mpr ⟨(List.Mem.tail _ (List.Mem.tail _ (List.Mem.tail _ (List.Mem.tail _ (List.Mem.tail _ (List.Mem.head _)))))), (List.forall_mem_cons.mpr ⟨(List.Mem.tail _ (List.Mem.tail _ (List.Mem.tail _ (List.Mem.tail _ (List.Mem.tail _ (List.Mem.tail _ (List.Mem.head _))))))), (List.forall_mem_cons.mpr ⟨(List.Mem.tail _ (List.Mem.tail _ (List.Mem.tail _ (List.Mem.tail _ (List.Mem.tail _ (List.Mem.tail _ (List.Mem.tail _ (List.Mem.head _)))))))), (List.forall_mem_cons.mpr ⟨(List.Mem.head _), (fun q h => absurd h List.not_mem_nil)⟩)⟩)⟩)⟩)⟩)⟩)⟩)⟩) ?_
  refine L109 ((66 - 0 : Int).toNat + 1) s3 y (x * 12) x4 x5 x6 x7 0 Is3 Fs3 (by first | exact ⟨And.intro (hs3.1.1) (hs3.1.2), And.intro (hs3.2.1.1) (hs3.2.1.2), And.intro (hs3.2.2.1.1) (hs3.2.2.1.2), And.intro (hs3.2.2.2.1.1) (hs3.2.2.2.1.2), And.intro (hs3.2.2.2.2.1.1) (hs3.2.2.2.2.1.2), And.intro (hs3.2.2.2.2.2.1.1) (hs3.2.2.2.2.2.1.2), by decide, by decide⟩ | omega) (Nat.lt_succ_self _) ?_
  intro s11 x12 x13 Is11 Fs11 hs11
  have b14 : (0 : Int) ≤ iI s11 58 ∧ iI s11 58 ≤ 12 := Is11.1 58
  have b15 : (0 : Int) ≤ iI s11 59 ∧ iI s11 59 ≤ 66 := Is11.1 59
  refine z_aload_n X (x := A 133) (show cdA 3 196 = some (.aload_n 0, 1, 0, 0, 0) from rfl) (List.Mem.head _) ?_
  refine s_getR X 133 (show cdA 3 197 = some (.getfield 37, 3, 0, 11, 0) from rfl) (by decide) rfl rfl ?_
  refine z_const X (show cdA 3 200 = some (.iconst 0, 1, 0, 0, 0) from rfl) ?_
  refine z_load X (x := x4) (show cdA 3 201 = some (.iload 4, 2, 0, 0, 0) from rfl) (List.Mem.tail _ (List.Mem.tail _ (List.Mem.tail _ (List.Mem.head _)))) ?_
  refine z_ast X 141 (show cdA 3 203 = some (.iastore, 1, 0, 0, 0) from rfl) (by decide) rfl (by decide) (show 0 < 7 by decide) (by decide) ?_
  obtain ⟨s16, hs16⟩ : ∃ x0, x0 = uC s11 123 (0 : Int).toNat (Int32.ofInt x4) := ⟨_, rfl⟩
  rw [← hs16]
  have Is16 : Bd s16 := by rw [hs16]; exact bd_C Is11 (show ((-2147483648) : Int) ≤ x4 ∧ x4 ≤ 2147483647 by first | exact ⟨hs11.2.2.1.1, hs11.2.2.1.2⟩ | omega) ⟨by first | exact hs11.2.2.1.1 | omega, by first | exact hs11.2.2.1.2 | omega⟩
  have Fs16 := fm_C (i := (0 : Int).toNat) (x := Int32.ofInt x4) Fs11 (show 123 ∈ _ by decide)
  rw [← hs16] at Fs16
  have ws16_58 : iI s16 58 = iI s11 58 := by rw [hs16]; rfl
  have ws16_59 : iI s16 59 = iI s11 59 := by rw [hs16]; rfl
  refine z_aload_n X (x := A 133) (show cdA 3 204 = some (.aload_n 0, 1, 0, 0, 0) from rfl) (List.Mem.head _) ?_
  refine s_getR X 133 (show cdA 3 205 = some (.getfield 37, 3, 0, 11, 0) from rfl) (by decide) rfl rfl ?_
  refine z_const X (show cdA 3 208 = some (.iconst 1, 1, 0, 0, 0) from rfl) ?_
  refine z_load X (x := x12) (show cdA 3 209 = some (.iload 5, 2, 0, 0, 0) from rfl) (List.Mem.tail _ (List.Mem.tail _ (List.Mem.tail _ (List.Mem.tail _ (List.Mem.head _))))) ?_
  refine z_ast X 141 (show cdA 3 211 = some (.iastore, 1, 0, 0, 0) from rfl) (by decide) rfl (by decide) (show 1 < 7 by decide) (by decide) ?_
  obtain ⟨s17, hs17⟩ : ∃ x0, x0 = uC s16 123 (1 : Int).toNat (Int32.ofInt x12) := ⟨_, rfl⟩
  rw [← hs17]
  have Is17 : Bd s17 := by rw [hs17]; exact bd_C Is16 (show ((-2147483648) : Int) ≤ x12 ∧ x12 ≤ 2147483647 by first | exact ⟨hs11.2.2.2.1.1, hs11.2.2.2.1.2⟩ | omega) ⟨by first | exact hs11.2.2.2.1.1 | omega, by first | exact hs11.2.2.2.1.2 | omega⟩
  have Fs17 := fm_C (i := (1 : Int).toNat) (x := Int32.ofInt x12) Fs16 (show 123 ∈ _ by decide)
  rw [← hs17] at Fs17
  have ws17_58 : iI s17 58 = iI s16 58 := by rw [hs17]; rfl
  have ws17_59 : iI s17 59 = iI s16 59 := by rw [hs17]; rfl
  refine z_aload_n X (x := A 133) (show cdA 3 212 = some (.aload_n 0, 1, 0, 0, 0) from rfl) (List.Mem.head _) ?_
  refine s_getR X 133 (show cdA 3 213 = some (.getfield 37, 3, 0, 11, 0) from rfl) (by decide) rfl rfl ?_
  refine z_const X (show cdA 3 216 = some (.iconst 2, 1, 0, 0, 0) from rfl) ?_
  refine z_load X (x := x6) (show cdA 3 217 = some (.iload 6, 2, 0, 0, 0) from rfl) (List.Mem.tail _ (List.Mem.tail _ (List.Mem.tail _ (List.Mem.tail _ (List.Mem.tail _ (List.Mem.head _)))))) ?_
  refine z_ast X 141 (show cdA 3 219 = some (.iastore, 1, 0, 0, 0) from rfl) (by decide) rfl (by decide) (show 2 < 7 by decide) (by decide) ?_
  obtain ⟨s18, hs18⟩ : ∃ x0, x0 = uC s17 123 (2 : Int).toNat (Int32.ofInt x6) := ⟨_, rfl⟩
  rw [← hs18]
  have Is18 : Bd s18 := by rw [hs18]; exact bd_C Is17 (show ((-2147483648) : Int) ≤ x6 ∧ x6 ≤ 2147483647 by first | exact ⟨hs11.2.2.2.2.1.1, hs11.2.2.2.2.1.2⟩ | omega) ⟨by first | exact hs11.2.2.2.2.1.1 | omega, by first | exact hs11.2.2.2.2.1.2 | omega⟩
  have Fs18 := fm_C (i := (2 : Int).toNat) (x := Int32.ofInt x6) Fs17 (show 123 ∈ _ by decide)
  rw [← hs18] at Fs18
  have ws18_58 : iI s18 58 = iI s17 58 := by rw [hs18]; rfl
  have ws18_59 : iI s18 59 = iI s17 59 := by rw [hs18]; rfl
  refine z_aload_n X (x := A 133) (show cdA 3 220 = some (.aload_n 0, 1, 0, 0, 0) from rfl) (List.Mem.head _) ?_
  refine s_getR X 133 (show cdA 3 221 = some (.getfield 37, 3, 0, 11, 0) from rfl) (by decide) rfl rfl ?_
  refine z_const X (show cdA 3 224 = some (.iconst 3, 1, 0, 0, 0) from rfl) ?_
  refine z_load X (x := x7) (show cdA 3 225 = some (.iload 7, 2, 0, 0, 0) from rfl) (List.Mem.tail _ (List.Mem.tail _ (List.Mem.tail _ (List.Mem.tail _ (List.Mem.tail _ (List.Mem.tail _ (List.Mem.head _))))))) ?_
  refine z_ast X 141 (show cdA 3 227 = some (.iastore, 1, 0, 0, 0) from rfl) (by decide) rfl (by decide) (show 3 < 7 by decide) (by decide) ?_
  obtain ⟨s19, hs19⟩ : ∃ x0, x0 = uC s18 123 (3 : Int).toNat (Int32.ofInt x7) := ⟨_, rfl⟩
  rw [← hs19]
  have Is19 : Bd s19 := by rw [hs19]; exact bd_C Is18 (show ((-2147483648) : Int) ≤ x7 ∧ x7 ≤ 2147483647 by first | exact ⟨hs11.2.2.2.2.2.1.1, hs11.2.2.2.2.2.1.2⟩ | omega) ⟨by first | exact hs11.2.2.2.2.2.1.1 | omega, by first | exact hs11.2.2.2.2.2.1.2 | omega⟩
  have Fs19 := fm_C (i := (3 : Int).toNat) (x := Int32.ofInt x7) Fs18 (show 123 ∈ _ by decide)
  rw [← hs19] at Fs19
  have ws19_58 : iI s19 58 = iI s18 58 := by rw [hs19]; rfl
  have ws19_59 : iI s19 59 = iI s18 59 := by rw [hs19]; rfl
  exact w_vret X.1 q hRt (ax_d X (show cdA 3 228 = some (.return_, 1, 0, 0, 0) from rfl)) (Nat.zero_le _) (Nat.zero_le _) ⟨_, rfl, Is19, Fs19, rfl, trivial⟩
set_option maxRecDepth 4000 in
theorem c7_work_133 (G : GX l s0 D tys a0 dT) (I : Bd s) {x : Int} (p0 : -1 ≤ x ∧ x ≤ 7) : CT l s0 D A dT 84 (rmN 84) [.ref (A 19), .int (Int32.ofInt x), .ref (A 141)] s (fun o t => Bd t ∧ Fm [] [20] s t ∧ ∃ e, o = .inl (some (.int (Int32.ofInt e))) ∧ rng e ∧ (True)) := by
  refine ct_ofX G (by decide) (Nat.le_of_ble_eq_true rfl) (fun k X E ET hRt hXt q => ?_)
  show WS k 0 [(0, .ref (A 19)), (1, .int (Int32.ofInt x)), (2, .ref (A 141))] [] _ 0 0
  have F : Fm [] [20] s s := fm_rf _ _ s
  have L28 : ∀ (n : Nat) (t : PS) (xv dp c : Int), Bd t → Fm [] [20] s t → ((0 ≤ xv ∧ xv ≤ 7) ∧ (0 ≤ dp ∧ dp ≤ 200) ∧ 0 ≤ c ∧ c ≤ 200) → (200 - c : Int).toNat < n → (∀ (t' : PS) (dp' c' : Int), Bd t' → Fm [] [20] s t' → ((0 ≤ xv ∧ xv ≤ 7) ∧ (0 ≤ dp' ∧ dp' ≤ 200) ∧ 0 ≤ c' ∧ c' ≤ 200) → WS k 163 [(0, .ref (A 19)), (2, .ref (A 141)), (1, .int (Int32.ofInt xv)), (3, .int (Int32.ofInt dp')), (4, .int (Int32.ofInt c'))] [] (Wd A dT t') 0 0) → WS k 28 [(0, .ref (A 19)), (2, .ref (A 141)), (1, .int (Int32.ofInt xv)), (3, .int (Int32.ofInt dp)), (4, .int (Int32.ofInt c))] [] (Wd A dT t) 0 0 := by
    intro n
    induction n with
    | zero =>
      intro t xv dp c I F hi hm kx
      exact absurd hm (Nat.not_lt_zero _)
    | succ n ih =>
      intro t xv dp c I F hi hm kx
      refine z_load X (x := c) (show cdA 84 28 = some (.iload 4, 2, 0, 0, 0) from rfl) (List.Mem.tail _ (List.Mem.tail _ (List.Mem.tail _ (List.Mem.tail _ (List.Mem.head _))))) ?_
      refine z_aload_n X (x := A 19) (show cdA 84 30 = some (.aload_n 0, 1, 0, 0, 0) from rfl) (List.Mem.head _) ?_
      refine s_getR X 19 (show cdA 84 31 = some (.getfield 15, 3, 7, 2, 0) from rfl) (by decide) rfl rfl ?_
      refine z_load_n X (x := xv) (show cdA 84 34 = some (.iload_n 1, 1, 0, 0, 0) from rfl) (List.Mem.tail _ (List.Mem.tail _ (List.Mem.head _))) ?_
      refine z_ald X 21 (show cdA 84 35 = some (.iaload, 1, 0, 0, 0) from rfl) (by decide) rfl (by first | exact hi.1.1 | omega) (show xv < 8 by first | exact oq_aaea290e hi.1.2 | omega) (by decide) ?_
      have b1001 : (0 : Int) ≤ iC t 17 (xv).toNat ∧ iC t 17 (xv).toNat ≤ 200 := I.2 17 _ (show (xv).toNat < 8 by first | exact oq_c19a3aae hi.1.2 | omega)
      refine z_icmp_ge X (t := 163) (show cdA 84 36 = some (.if_icmp .ge 127, 3, 3, 0, 0) from rfl) (by decide) ⟨by first | exact oq_fa4e5087 hi.2.2.1 | omega, by first | exact oq_52af2b96 hi.2.2.2 | omega⟩ (rng_to _) (fun g1002 => ?_) (fun g1002 => ?_)
      ·
        refine WS_lv (lv := [(0, .ref (A 19)), (2, .ref (A 141)), (1, .int (Int32.ofInt xv)), (3, .int (Int32.ofInt dp)), (4, .int (Int32.ofInt c))]) (List.forall_mem_cons.mpr ⟨(List.Mem.head _), (List.forall_mem_cons.mpr ⟨(List.Mem.tail _ (List.Mem.head _)), (List.forall_mem_cons.mpr ⟨(List.Mem.tail _ (List.Mem.tail _ (List.Mem.head _))), (List.forall_mem_cons.mpr ⟨(List.Mem.tail _ (List.Mem.tail _ (List.Mem.tail _ (List.Mem.head _)))), (List.forall_mem_cons.mpr ⟨(List.Mem.tail _ (List.Mem.tail _ (List.Mem.tail _ (List.Mem.tail _ (List.Mem.head _))))), (fun q h => absurd h List.not_mem_nil)⟩)⟩)⟩)⟩)⟩) ?_
        exact kx _ dp c I F (by first | exact ⟨And.intro (hi.1.1) (hi.1.2), And.intro (hi.2.1.1) (hi.2.1.2), hi.2.2.1, hi.2.2.2⟩ | omega)
      ·
        refine z_aload_n X (x := A 19) (show cdA 84 39 = some (.aload_n 0, 1, 0, 0, 0) from rfl) (List.Mem.head _) ?_
        refine s_getR X 19 (show cdA 84 40 = some (.getfield 11, 3, 7, 1, 0) from rfl) (by decide) rfl rfl ?_
        refine z_load X (x := c) (show cdA 84 43 = some (.iload 4, 2, 0, 0, 0) from rfl) (List.Mem.tail _ (List.Mem.tail _ (List.Mem.tail _ (List.Mem.tail _ (List.Mem.head _))))) ?_
        refine z_ald X 20 (show cdA 84 45 = some (.iaload, 1, 0, 0, 0) from rfl) (by decide) rfl (by first | exact hi.2.2.1 | omega) (show c < 200 by first | exact oq_6fca3d72 g1002 b1001.2 | omega) (by decide) ?_
        have b1003 : ((-2147483648) : Int) ≤ iC t 16 (c).toNat ∧ iC t 16 (c).toNat ≤ 2147483647 := I.2 16 _ (show (c).toNat < 200 by first | exact oq_b70289d5 g1002 b1001.2 | omega)
        refine z_store X (lv' := [(5, .int (Int32.ofInt (iC t 16 (c).toNat))), (0, .ref (A 19)), (2, .ref (A 141)), (1, .int (Int32.ofInt xv)), (3, .int (Int32.ofInt dp)), (4, .int (Int32.ofInt c))]) (show cdA 84 46 = some (.istore 5, 2, 0, 0, 0) from rfl) (by decide) (fun _ h => h) ?_
        refine z_load X (x := (iC t 16 (c).toNat)) (show cdA 84 48 = some (.iload 5, 2, 0, 0, 0) from rfl) (List.Mem.head _) ?_
        refine z_bipush X (show cdA 84 50 = some (.bipush (-8), 2, 0, 0, (-8)) from rfl) ?_
        refine z_icmp_le X (t := 90) (show cdA 84 52 = some (.if_icmp .le 38, 3, 5, 0, 0) from rfl) (by decide) (rng_to _) (by decide) (fun g1004 => ?_) (fun g1004 => ?_)
        ·
          refine z_load X (x := (iC t 16 (c).toNat)) (show cdA 84 90 = some (.iload 5, 2, 0, 0, 0) from rfl) (List.Mem.head _) ?_
          refine z_bipush X (show cdA 84 92 = some (.bipush (-8), 2, 0, 0, (-8)) from rfl) ?_
          refine z_icmp_ne X (t := 122) (show cdA 84 94 = some (.if_icmp .ne 28, 3, 1, 0, 0) from rfl) (by decide) (rng_to _) (by decide) (fun g1005 => ?_) (fun g1005 => ?_)
          ·
            refine z_load_n X (x := dp) (show cdA 84 122 = some (.iload_n 3, 1, 0, 0, 0) from rfl) (List.Mem.tail _ (List.Mem.tail _ (List.Mem.tail _ (List.Mem.tail _ (List.Mem.head _))))) ?_
            refine z_const X (show cdA 84 123 = some (.iconst 1, 1, 0, 0, 0) from rfl) ?_
            refine z_icmp_le X (t := 157) (show cdA 84 124 = some (.if_icmp .le 33, 3, 5, 0, 0) from rfl) (by decide) ⟨by first | exact oq_fa4e5087 hi.2.1.1 | omega, by first | exact oq_52af2b96 hi.2.1.2 | omega⟩ (by decide) (fun g1006 => ?_) (fun g1006 => ?_)
            ·
              refine z_inc X (x := c) (lv' := [(4, .int (Int32.ofInt (c + 1))), (5, .int (Int32.ofInt (iC t 16 (c).toNat))), (0, .ref (A 19)), (2, .ref (A 141)), (1, .int (Int32.ofInt xv)), (3, .int (Int32.ofInt dp))]) (show cdA 84 157 = some (.iinc 4 1, 3, 0, 0, 0) from rfl) (by decide) (List.Mem.tail _ (List.Mem.tail _ (List.Mem.tail _ (List.Mem.tail _ (List.Mem.tail _ (List.Mem.head _)))))) (fun _ h => h) ?_
              refine z_goto X (t := 28) (show cdA 84 160 = some (.goto (-132), 3, 0, 0, 0) from rfl) (by decide) ?_
              refine WS_lv (lv := [(0, .ref (A 19)), (2, .ref (A 141)), (1, .int (Int32.ofInt xv)), (3, .int (Int32.ofInt dp)), (4, .int (Int32.ofInt (c + 1)))]) (List.forall_mem_cons.mpr ⟨(List.Mem.tail _ (List.Mem.tail _ (List.Mem.head _))), (List.forall_mem_cons.mpr ⟨(List.Mem.tail _ (List.Mem.tail _ (List.Mem.tail _ (List.Mem.head _)))), (List.forall_mem_cons.mpr ⟨(List.Mem.tail _ (List.Mem.tail _ (List.Mem.tail _ (List.Mem.tail _ (List.Mem.head _))))), (List.forall_mem_cons.mpr ⟨(List.Mem.tail _ (List.Mem.tail _ (List.Mem.tail _ (List.Mem.tail _ (List.Mem.tail _ (List.Mem.head _)))))), (List.forall_mem_cons.mpr ⟨(List.Mem.head _), (fun q h => absurd h List.not_mem_nil)⟩)⟩)⟩)⟩)⟩) ?_
              exact ih _ xv dp (c + 1) I F (by first | exact ⟨And.intro (hi.1.1) (hi.1.2), And.intro (hi.2.1.1) (hi.2.1.2), oq_54f49eb5 hi.2.2.1, oq_228270fa g1002 b1001.2⟩ | omega) (by first | exact qk_me hm (by decide) (oq_b0a4f3e2 g1002 b1001.2) | omega) kx
            ·
              refine z_inc X (x := dp) (lv' := [(3, .int (Int32.ofInt (dp + (-1)))), (5, .int (Int32.ofInt (iC t 16 (c).toNat))), (0, .ref (A 19)), (2, .ref (A 141)), (1, .int (Int32.ofInt xv)), (4, .int (Int32.ofInt c))]) (show cdA 84 127 = some (.iinc 3 (-1), 3, 0, 0, 0) from rfl) (by decide) (List.Mem.tail _ (List.Mem.tail _ (List.Mem.tail _ (List.Mem.tail _ (List.Mem.head _))))) (fun _ h => h) ?_
              refine z_aload_n X (x := A 19) (show cdA 84 130 = some (.aload_n 0, 1, 0, 0, 0) from rfl) (List.Mem.tail _ (List.Mem.tail _ (List.Mem.head _))) ?_
              refine s_getR X 19 (show cdA 84 131 = some (.getfield 28, 3, 7, 13, 0) from rfl) (by decide) rfl rfl ?_
              refine z_load_n X (x := (dp + (-1))) (show cdA 84 134 = some (.iload_n 3, 1, 0, 0, 0) from rfl) (List.Mem.head _) ?_
              refine z_const X (show cdA 84 135 = some (.iconst 1, 1, 0, 0, 0) from rfl) ?_
              refine z_sub X (show cdA 84 136 = some (.isub, 1, 0, 0, 0) from rfl) ?_
              refine z_load X (x := (iC t 16 (c).toNat)) (show cdA 84 137 = some (.iload 5, 2, 0, 0, 0) from rfl) (List.Mem.tail _ (List.Mem.head _)) ?_
              refine z_aload_n X (x := A 19) (show cdA 84 139 = some (.aload_n 0, 1, 0, 0, 0) from rfl) (List.Mem.tail _ (List.Mem.tail _ (List.Mem.head _))) ?_
              refine s_getR X 19 (show cdA 84 140 = some (.getfield 28, 3, 7, 13, 0) from rfl) (by decide) rfl rfl ?_
              refine z_load_n X (x := (dp + (-1))) (show cdA 84 143 = some (.iload_n 3, 1, 0, 0, 0) from rfl) (List.Mem.head _) ?_
              refine z_const X (show cdA 84 144 = some (.iconst 1, 1, 0, 0, 0) from rfl) ?_
              refine z_sub X (show cdA 84 145 = some (.isub, 1, 0, 0, 0) from rfl) ?_
              refine z_ald X 24 (show cdA 84 146 = some (.iaload, 1, 0, 0, 0) from rfl) (by decide) rfl (by first | exact oq_d588e9be g1006 | omega) (show ((dp + (-1)) - 1) < 200 by first | exact oq_f9b4958f hi.2.1.2 | omega) (by decide) ?_
              have b1007 : ((-2147483648) : Int) ≤ iC t 20 (((dp + (-1)) - 1)).toNat ∧ iC t 20 (((dp + (-1)) - 1)).toNat ≤ 2147483647 := I.2 20 _ (show (((dp + (-1)) - 1)).toNat < 200 by first | exact oq_ab8c951f hi.2.1.2 | omega)
              refine z_aload_n X (x := A 19) (show cdA 84 147 = some (.aload_n 0, 1, 0, 0, 0) from rfl) (List.Mem.tail _ (List.Mem.tail _ (List.Mem.head _))) ?_
              refine s_getR X 19 (show cdA 84 148 = some (.getfield 28, 3, 7, 13, 0) from rfl) (by decide) rfl rfl ?_
              refine z_load_n X (x := (dp + (-1))) (show cdA 84 151 = some (.iload_n 3, 1, 0, 0, 0) from rfl) (List.Mem.head _) ?_
              refine z_ald X 24 (show cdA 84 152 = some (.iaload, 1, 0, 0, 0) from rfl) (by decide) rfl (by first | exact oq_6c14892a g1006 | omega) (show (dp + (-1)) < 200 by first | exact oq_2dcece94 hi.2.1.2 | omega) (by decide) ?_
              have b1008 : ((-2147483648) : Int) ≤ iC t 20 ((dp + (-1))).toNat ∧ iC t 20 ((dp + (-1))).toNat ≤ 2147483647 := I.2 20 _ (show ((dp + (-1))).toNat < 200 by first | exact oq_323b4624 hi.2.1.2 | omega)
              refine z_callS X (rm := rmN 85) (As := [.int (Int32.ofInt (iC t 16 (c).toNat)), .int (Int32.ofInt (iC t 20 (((dp + (-1)) - 1)).toNat)), .int (Int32.ofInt (iC t 20 ((dp + (-1))).toNat))]) (st := [.int (Int32.ofInt ((dp + (-1)) - 1)), .ref (A 24)]) (show cdA 84 153 = some (.invokestatic 154, 3, 85, 1, 0) from rfl) rfl (by rw [E.1, E.2.1, E.2.2.1]; exact c7_joined G I (by first | exact ⟨b1003.1, b1003.2⟩ | omega) (by first | exact ⟨b1007.1, b1007.2⟩ | omega) (by first | exact ⟨b1008.1, b1008.2⟩ | omega)) ⟨by rw [E.2.2.2]; exact (show (rmN 85).frames + 1 ≤ (rmN 84).frames by decide), by rw [E.2.2.2]; exact (show 8 + (mNL (miB 85) + 11) + (rmN 85).locals ≤ (rmN 84).locals by decide), by rw [E.2.2.2]; exact (show 0 + (rmN 85).cells ≤ (rmN 84).cells by decide), by rw [E.2.2.2]; exact (show 0 + (rmN 85).slots ≤ (rmN 84).slots by decide)⟩ (Nat.le_of_ble_eq_true rfl) (fun vv s1009 hq => ?_) (fun ee s1009 hq => ?_)
              rotate_left
              · obtain ⟨rfl, e1010, hv, hrs1009, hps1009⟩ := hq; cases hv
              obtain ⟨rfl, e1010, hv, hrs1009, hps1009⟩ := hq
              cases hv
              show WS k 156 [(3, .int (Int32.ofInt (dp + (-1)))), (5, .int (Int32.ofInt (iC t 16 (c).toNat))), (0, .ref (A 19)), (2, .ref (A 141)), (1, .int (Int32.ofInt xv)), (4, .int (Int32.ofInt c))] [.int (Int32.ofInt e1010), .int (Int32.ofInt ((dp + (-1)) - 1)), .ref (A 24)] (Wd A dT t) 0 0
              refine z_ast X 24 (show cdA 84 156 = some (.iastore, 1, 0, 0, 0) from rfl) (by decide) rfl (by first | exact oq_d588e9be g1006 | omega) (show ((dp + (-1)) - 1) < 200 by first | exact oq_f9b4958f hi.2.1.2 | omega) (by decide) ?_
              obtain ⟨s1011, hs1011⟩ : ∃ x0, x0 = uC t 20 (((dp + (-1)) - 1)).toNat (Int32.ofInt e1010) := ⟨_, rfl⟩
              rw [← hs1011]
              have Is1011 : Bd s1011 := by rw [hs1011]; exact bd_C I (show ((-2147483648) : Int) ≤ e1010 ∧ e1010 ≤ 2147483647 by first | exact ⟨hps1009.1, hps1009.2⟩ | omega) hrs1009
              have Fs1011 := fm_C (i := (((dp + (-1)) - 1)).toNat) (x := Int32.ofInt e1010) F (show 20 ∈ _ by decide)
              rw [← hs1011] at Fs1011
              refine z_inc X (x := c) (lv' := [(4, .int (Int32.ofInt (c + 1))), (3, .int (Int32.ofInt (dp + (-1)))), (5, .int (Int32.ofInt (iC t 16 (c).toNat))), (0, .ref (A 19)), (2, .ref (A 141)), (1, .int (Int32.ofInt xv))]) (show cdA 84 157 = some (.iinc 4 1, 3, 0, 0, 0) from rfl) (by decide) (List.Mem.tail _ (List.Mem.tail _ (List.Mem.tail _ (List.Mem.tail _ (List.Mem.tail _ (List.Mem.head _)))))) (fun _ h => h) ?_
              refine z_goto X (t := 28) (show cdA 84 160 = some (.goto (-132), 3, 0, 0, 0) from rfl) (by decide) ?_
              refine WS_lv (lv := [(0, .ref (A 19)), (2, .ref (A 141)), (1, .int (Int32.ofInt xv)), (3, .int (Int32.ofInt (dp + (-1)))), (4, .int (Int32.ofInt (c + 1)))]) (List.forall_mem_cons.mpr ⟨(List.Mem.tail _ (List.Mem.tail _ (List.Mem.tail _ (List.Mem.head _)))), (List.forall_mem_cons.mpr ⟨(List.Mem.tail _ (List.Mem.tail _ (List.Mem.tail _ (List.Mem.tail _ (List.Mem.head _))))), (List.forall_mem_cons.mpr ⟨(List.Mem.tail _ (List.Mem.tail _ (List.Mem.tail _ (List.Mem.tail _ (List.Mem.tail _ (List.Mem.head _)))))), (List.forall_mem_cons.mpr ⟨(List.Mem.tail _ (List.Mem.head _)), (List.forall_mem_cons.mpr ⟨(List.Mem.head _), (fun q h => absurd h List.not_mem_nil)⟩)⟩)⟩)⟩)⟩) ?_
              exact ih _ xv (dp + (-1)) (c + 1) Is1011 Fs1011 (by first | exact ⟨And.intro (hi.1.1) (hi.1.2), And.intro (oq_6c14892a g1006) (oq_af76c38b hi.2.1.2), oq_54f49eb5 hi.2.2.1, oq_228270fa g1002 b1001.2⟩ | omega) (by first | exact qk_me hm (by decide) (oq_b0a4f3e2 g1002 b1001.2) | omega) kx
          ·
            refine z_load_n X (x := dp) (show cdA 84 97 = some (.iload_n 3, 1, 0, 0, 0) from rfl) (List.Mem.tail _ (List.Mem.tail _ (List.Mem.tail _ (List.Mem.tail _ (List.Mem.head _))))) ?_
            refine z_if_le X (t := 157) (show cdA 84 98 = some (.ifCond .le 59, 3, 5, 0, 0) from rfl) (by decide) ⟨by first | exact oq_fa4e5087 hi.2.1.1 | omega, by first | exact oq_52af2b96 hi.2.1.2 | omega⟩ (fun g1012 => ?_) (fun g1012 => ?_)
            ·
              refine z_inc X (x := c) (lv' := [(4, .int (Int32.ofInt (c + 1))), (5, .int (Int32.ofInt (iC t 16 (c).toNat))), (0, .ref (A 19)), (2, .ref (A 141)), (1, .int (Int32.ofInt xv)), (3, .int (Int32.ofInt dp))]) (show cdA 84 157 = some (.iinc 4 1, 3, 0, 0, 0) from rfl) (by decide) (List.Mem.tail _ (List.Mem.tail _ (List.Mem.tail _ (List.Mem.tail _ (List.Mem.tail _ (List.Mem.head _)))))) (fun _ h => h) ?_
              refine z_goto X (t := 28) (show cdA 84 160 = some (.goto (-132), 3, 0, 0, 0) from rfl) (by decide) ?_
              refine WS_lv (lv := [(0, .ref (A 19)), (2, .ref (A 141)), (1, .int (Int32.ofInt xv)), (3, .int (Int32.ofInt dp)), (4, .int (Int32.ofInt (c + 1)))]) (List.forall_mem_cons.mpr ⟨(List.Mem.tail _ (List.Mem.tail _ (List.Mem.head _))), (List.forall_mem_cons.mpr ⟨(List.Mem.tail _ (List.Mem.tail _ (List.Mem.tail _ (List.Mem.head _)))), (List.forall_mem_cons.mpr ⟨(List.Mem.tail _ (List.Mem.tail _ (List.Mem.tail _ (List.Mem.tail _ (List.Mem.head _))))), (List.forall_mem_cons.mpr ⟨(List.Mem.tail _ (List.Mem.tail _ (List.Mem.tail _ (List.Mem.tail _ (List.Mem.tail _ (List.Mem.head _)))))), (List.forall_mem_cons.mpr ⟨(List.Mem.head _), (fun q h => absurd h List.not_mem_nil)⟩)⟩)⟩)⟩)⟩) ?_
              exact ih _ xv dp (c + 1) I F (by first | exact ⟨And.intro (hi.1.1) (hi.1.2), And.intro (hi.2.1.1) (hi.2.1.2), oq_54f49eb5 hi.2.2.1, oq_228270fa g1002 b1001.2⟩ | omega) (by first | exact qk_me hm (by decide) (oq_b0a4f3e2 g1002 b1001.2) | omega) kx
            ·
              refine z_aload_n X (x := A 19) (show cdA 84 101 = some (.aload_n 0, 1, 0, 0, 0) from rfl) (List.Mem.tail _ (List.Mem.head _)) ?_
              refine s_getR X 19 (show cdA 84 102 = some (.getfield 28, 3, 7, 13, 0) from rfl) (by decide) rfl rfl ?_
              refine z_load_n X (x := dp) (show cdA 84 105 = some (.iload_n 3, 1, 0, 0, 0) from rfl) (List.Mem.tail _ (List.Mem.tail _ (List.Mem.tail _ (List.Mem.tail _ (List.Mem.head _))))) ?_
              refine z_const X (show cdA 84 106 = some (.iconst 1, 1, 0, 0, 0) from rfl) ?_
              refine z_sub X (show cdA 84 107 = some (.isub, 1, 0, 0, 0) from rfl) ?_
              refine z_const X (show cdA 84 108 = some (.iconst 1, 1, 0, 0, 0) from rfl) ?_
              refine z_aload_n X (x := A 19) (show cdA 84 109 = some (.aload_n 0, 1, 0, 0, 0) from rfl) (List.Mem.tail _ (List.Mem.head _)) ?_
              refine s_getR X 19 (show cdA 84 110 = some (.getfield 28, 3, 7, 13, 0) from rfl) (by decide) rfl rfl ?_
              refine z_load_n X (x := dp) (show cdA 84 113 = some (.iload_n 3, 1, 0, 0, 0) from rfl) (List.Mem.tail _ (List.Mem.tail _ (List.Mem.tail _ (List.Mem.tail _ (List.Mem.head _))))) ?_
              refine z_const X (show cdA 84 114 = some (.iconst 1, 1, 0, 0, 0) from rfl) ?_
              refine z_sub X (show cdA 84 115 = some (.isub, 1, 0, 0, 0) from rfl) ?_
              refine z_ald X 24 (show cdA 84 116 = some (.iaload, 1, 0, 0, 0) from rfl) (by decide) rfl (by first | exact oq_a4f22177 g1012 | omega) (show (dp - 1) < 200 by first | exact oq_76ad2bb2 hi.2.1.2 | omega) (by decide) ?_
              have b1013 : ((-2147483648) : Int) ≤ iC t 20 ((dp - 1)).toNat ∧ iC t 20 ((dp - 1)).toNat ≤ 2147483647 := I.2 20 _ (show ((dp - 1)).toNat < 200 by first | exact oq_a03494ec hi.2.1.2 | omega)
              refine z_sub X (show cdA 84 117 = some (.isub, 1, 0, 0, 0) from rfl) ?_
              refine z_any (fun y1014 hy1014 => ?_)
              refine z_ast X 24 (show cdA 84 118 = some (.iastore, 1, 0, 0, 0) from rfl) (by decide) rfl (by first | exact oq_a4f22177 g1012 | omega) (show (dp - 1) < 200 by first | exact oq_76ad2bb2 hi.2.1.2 | omega) (by decide) ?_
              obtain ⟨s1015, hs1015⟩ : ∃ x0, x0 = uC t 20 ((dp - 1)).toNat (Int32.ofInt y1014) := ⟨_, rfl⟩
              rw [← hs1015]
              have Is1015 : Bd s1015 := by rw [hs1015]; exact bd_C I (show ((-2147483648) : Int) ≤ y1014 ∧ y1014 ≤ 2147483647 by first | exact ⟨hy1014.1, hy1014.2⟩ | omega) hy1014
              have Fs1015 := fm_C (i := ((dp - 1)).toNat) (x := Int32.ofInt y1014) F (show 20 ∈ _ by decide)
              rw [← hs1015] at Fs1015
              refine z_goto X (t := 157) (show cdA 84 119 = some (.goto 38, 3, 0, 0, 0) from rfl) (by decide) ?_
              refine z_inc X (x := c) (lv' := [(4, .int (Int32.ofInt (c + 1))), (5, .int (Int32.ofInt (iC t 16 (c).toNat))), (0, .ref (A 19)), (2, .ref (A 141)), (1, .int (Int32.ofInt xv)), (3, .int (Int32.ofInt dp))]) (show cdA 84 157 = some (.iinc 4 1, 3, 0, 0, 0) from rfl) (by decide) (List.Mem.tail _ (List.Mem.tail _ (List.Mem.tail _ (List.Mem.tail _ (List.Mem.tail _ (List.Mem.head _)))))) (fun _ h => h) ?_
              refine z_goto X (t := 28) (show cdA 84 160 = some (.goto (-132), 3, 0, 0, 0) from rfl) (by decide) ?_
              refine WS_lv (lv := [(0, .ref (A 19)), (2, .ref (A 141)), (1, .int (Int32.ofInt xv)), (3, .int (Int32.ofInt dp)), (4, .int (Int32.ofInt (c + 1)))]) (List.forall_mem_cons.mpr ⟨(List.Mem.tail _ (List.Mem.tail _ (List.Mem.head _))), (List.forall_mem_cons.mpr ⟨(List.Mem.tail _ (List.Mem.tail _ (List.Mem.tail _ (List.Mem.head _)))), (List.forall_mem_cons.mpr ⟨(List.Mem.tail _ (List.Mem.tail _ (List.Mem.tail _ (List.Mem.tail _ (List.Mem.head _))))), (List.forall_mem_cons.mpr ⟨(List.Mem.tail _ (List.Mem.tail _ (List.Mem.tail _ (List.Mem.tail _ (List.Mem.tail _ (List.Mem.head _)))))), (List.forall_mem_cons.mpr ⟨(List.Mem.head _), (fun q h => absurd h List.not_mem_nil)⟩)⟩)⟩)⟩)⟩) ?_
              exact ih _ xv dp (c + 1) Is1015 Fs1015 (by first | exact ⟨And.intro (hi.1.1) (hi.1.2), And.intro (hi.2.1.1) (hi.2.1.2), oq_54f49eb5 hi.2.2.1, oq_228270fa g1002 b1001.2⟩ | omega) (by first | exact qk_me hm (by decide) (oq_b0a4f3e2 g1002 b1001.2) | omega) kx
        ·
          refine z_load_n X (x := dp) (show cdA 84 55 = some (.iload_n 3, 1, 0, 0, 0) from rfl) (List.Mem.tail _ (List.Mem.tail _ (List.Mem.tail _ (List.Mem.tail _ (List.Mem.head _))))) ?_
          refine z_sipush X (show cdA 84 56 = some (.sipush 200, 3, 0, 0, 200) from rfl) ?_
          refine z_icmp_ge X (t := 157) (show cdA 84 59 = some (.if_icmp .ge 98, 3, 3, 0, 0) from rfl) (by decide) ⟨by first | exact oq_fa4e5087 hi.2.1.1 | omega, by first | exact oq_52af2b96 hi.2.1.2 | omega⟩ (by decide) (fun g1016 => ?_) (fun g1016 => ?_)
          ·
            refine z_inc X (x := c) (lv' := [(4, .int (Int32.ofInt (c + 1))), (5, .int (Int32.ofInt (iC t 16 (c).toNat))), (0, .ref (A 19)), (2, .ref (A 141)), (1, .int (Int32.ofInt xv)), (3, .int (Int32.ofInt dp))]) (show cdA 84 157 = some (.iinc 4 1, 3, 0, 0, 0) from rfl) (by decide) (List.Mem.tail _ (List.Mem.tail _ (List.Mem.tail _ (List.Mem.tail _ (List.Mem.tail _ (List.Mem.head _)))))) (fun _ h => h) ?_
            refine z_goto X (t := 28) (show cdA 84 160 = some (.goto (-132), 3, 0, 0, 0) from rfl) (by decide) ?_
            refine WS_lv (lv := [(0, .ref (A 19)), (2, .ref (A 141)), (1, .int (Int32.ofInt xv)), (3, .int (Int32.ofInt dp)), (4, .int (Int32.ofInt (c + 1)))]) (List.forall_mem_cons.mpr ⟨(List.Mem.tail _ (List.Mem.tail _ (List.Mem.head _))), (List.forall_mem_cons.mpr ⟨(List.Mem.tail _ (List.Mem.tail _ (List.Mem.tail _ (List.Mem.head _)))), (List.forall_mem_cons.mpr ⟨(List.Mem.tail _ (List.Mem.tail _ (List.Mem.tail _ (List.Mem.tail _ (List.Mem.head _))))), (List.forall_mem_cons.mpr ⟨(List.Mem.tail _ (List.Mem.tail _ (List.Mem.tail _ (List.Mem.tail _ (List.Mem.tail _ (List.Mem.head _)))))), (List.forall_mem_cons.mpr ⟨(List.Mem.head _), (fun q h => absurd h List.not_mem_nil)⟩)⟩)⟩)⟩)⟩) ?_
            exact ih _ xv dp (c + 1) I F (by first | exact ⟨And.intro (hi.1.1) (hi.1.2), And.intro (hi.2.1.1) (hi.2.1.2), oq_54f49eb5 hi.2.2.1, oq_228270fa g1002 b1001.2⟩ | omega) (by first | exact qk_me hm (by decide) (oq_b0a4f3e2 g1002 b1001.2) | omega) kx
          ·
            refine z_aload_n X (x := A 19) (show cdA 84 62 = some (.aload_n 0, 1, 0, 0, 0) from rfl) (List.Mem.tail _ (List.Mem.head _)) ?_
            refine s_getR X 19 (show cdA 84 63 = some (.getfield 28, 3, 7, 13, 0) from rfl) (by decide) rfl rfl ?_
            refine z_load_n X (x := dp) (show cdA 84 66 = some (.iload_n 3, 1, 0, 0, 0) from rfl) (List.Mem.tail _ (List.Mem.tail _ (List.Mem.tail _ (List.Mem.tail _ (List.Mem.head _))))) ?_
            refine z_load X (x := (iC t 16 (c).toNat)) (show cdA 84 67 = some (.iload 5, 2, 0, 0, 0) from rfl) (List.Mem.head _) ?_
            have N1017 : ∀ e1018 : Int, ((((iC t 16 (c).toNat) < 0) ∧ (((-2147483648) : Int) ≤ iC t 123 (((-1) - (iC t 16 (c).toNat))).toNat ∧ iC t 123 (((-1) - (iC t 16 (c).toNat))).toNat ≤ 2147483647) ∧ e1018 = (iC t 123 (((-1) - (iC t 16 (c).toNat))).toNat)) ∨ ((0 ≤ (iC t 16 (c).toNat)) ∧ e1018 = (iC t 16 (c).toNat))) → WS k 83 [(5, .int (Int32.ofInt (iC t 16 (c).toNat))), (0, .ref (A 19)), (2, .ref (A 141)), (1, .int (Int32.ofInt xv)), (3, .int (Int32.ofInt dp)), (4, .int (Int32.ofInt c))] [.int (Int32.ofInt e1018), .int (Int32.ofInt dp), .ref (A 24)] (Wd A dT t) 0 0 := by
              intro e1018 he1018
              refine z_ast X 24 (show cdA 84 83 = some (.iastore, 1, 0, 0, 0) from rfl) (by decide) rfl (by first | exact hi.2.1.1 | omega) (show dp < 200 by first | exact g1016 | omega) (by decide) ?_
              obtain ⟨s1019, hs1019⟩ : ∃ x0, x0 = uC t 20 (dp).toNat (Int32.ofInt e1018) := ⟨_, rfl⟩
              rw [← hs1019]
              have Is1019 : Bd s1019 := by rw [hs1019]; exact bd_C I (show ((-2147483648) : Int) ≤ e1018 ∧ e1018 ≤ 2147483647 by first | exact ⟨oq_05aece2f he1018, oq_93cedf2b he1018 b1003.2⟩ | omega) ⟨by first | exact oq_05aece2f he1018 | omega, by first | exact oq_93cedf2b he1018 b1003.2 | omega⟩
              have Fs1019 := fm_C (i := (dp).toNat) (x := Int32.ofInt e1018) F (show 20 ∈ _ by decide)
              rw [← hs1019] at Fs1019
              refine z_inc X (x := dp) (lv' := [(3, .int (Int32.ofInt (dp + 1))), (5, .int (Int32.ofInt (iC t 16 (c).toNat))), (0, .ref (A 19)), (2, .ref (A 141)), (1, .int (Int32.ofInt xv)), (4, .int (Int32.ofInt c))]) (show cdA 84 84 = some (.iinc 3 1, 3, 0, 0, 0) from rfl) (by decide) (List.Mem.tail _ (List.Mem.tail _ (List.Mem.tail _ (List.Mem.tail _ (List.Mem.head _))))) (fun _ h => h) ?_
              refine z_goto X (t := 157) (show cdA 84 87 = some (.goto 70, 3, 0, 0, 0) from rfl) (by decide) ?_
              refine z_inc X (x := c) (lv' := [(4, .int (Int32.ofInt (c + 1))), (3, .int (Int32.ofInt (dp + 1))), (5, .int (Int32.ofInt (iC t 16 (c).toNat))), (0, .ref (A 19)), (2, .ref (A 141)), (1, .int (Int32.ofInt xv))]) (show cdA 84 157 = some (.iinc 4 1, 3, 0, 0, 0) from rfl) (by decide) (List.Mem.tail _ (List.Mem.tail _ (List.Mem.tail _ (List.Mem.tail _ (List.Mem.tail _ (List.Mem.head _)))))) (fun _ h => h) ?_
              refine z_goto X (t := 28) (show cdA 84 160 = some (.goto (-132), 3, 0, 0, 0) from rfl) (by decide) ?_
              refine WS_lv (lv := [(0, .ref (A 19)), (2, .ref (A 141)), (1, .int (Int32.ofInt xv)), (3, .int (Int32.ofInt (dp + 1))), (4, .int (Int32.ofInt (c + 1)))]) (List.forall_mem_cons.mpr ⟨(List.Mem.tail _ (List.Mem.tail _ (List.Mem.tail _ (List.Mem.head _)))), (List.forall_mem_cons.mpr ⟨(List.Mem.tail _ (List.Mem.tail _ (List.Mem.tail _ (List.Mem.tail _ (List.Mem.head _))))), (List.forall_mem_cons.mpr ⟨(List.Mem.tail _ (List.Mem.tail _ (List.Mem.tail _ (List.Mem.tail _ (List.Mem.tail _ (List.Mem.head _)))))), (List.forall_mem_cons.mpr ⟨(List.Mem.tail _ (List.Mem.head _)), (List.forall_mem_cons.mpr ⟨(List.Mem.head _), (fun q h => absurd h List.not_mem_nil)⟩)⟩)⟩)⟩)⟩) ?_
              exact ih _ xv (dp + 1) (c + 1) Is1019 Fs1019 (by first | exact ⟨And.intro (hi.1.1) (hi.1.2), And.intro (oq_54f49eb5 hi.2.1.1) (oq_0cb6ab8a g1016), oq_54f49eb5 hi.2.2.1, oq_228270fa g1002 b1001.2⟩ | omega) (by first | exact qk_me hm (by decide) (oq_b0a4f3e2 g1002 b1001.2) | omega) kx
            refine z_if_lt X (t := 77) (show cdA 84 69 = some (.ifCond .lt 8, 3, 2, 0, 0) from rfl) (by decide) (rng_to _) (fun g1020 => ?_) (fun g1020 => ?_)
            ·
              refine z_aload_n X (x := A 141) (show cdA 84 77 = some (.aload_n 2, 1, 0, 0, 0) from rfl) (List.Mem.tail _ (List.Mem.tail _ (List.Mem.head _))) ?_
              refine z_const X (show cdA 84 78 = some (.iconst (-1), 1, 0, 0, 0) from rfl) ?_
              refine z_load X (x := (iC t 16 (c).toNat)) (show cdA 84 79 = some (.iload 5, 2, 0, 0, 0) from rfl) (List.Mem.head _) ?_
              refine z_sub X (show cdA 84 81 = some (.isub, 1, 0, 0, 0) from rfl) ?_
              refine z_ald X 141 (show cdA 84 82 = some (.iaload, 1, 0, 0, 0) from rfl) (by decide) rfl (by first | exact oq_c38d07c4 g1020 | omega) (show ((-1) - (iC t 16 (c).toNat)) < 7 by first | exact oq_a1f4cde5 g1004 | omega) (by decide) ?_
              have b1021 : ((-2147483648) : Int) ≤ iC t 123 (((-1) - (iC t 16 (c).toNat))).toNat ∧ iC t 123 (((-1) - (iC t 16 (c).toNat))).toNat ≤ 2147483647 := I.2 123 _ (show (((-1) - (iC t 16 (c).toNat))).toNat < 7 by first | exact oq_91b916ba g1004 | omega)
              exact N1017 _ (Or.inl ⟨g1020, b1021, rfl⟩)
            ·
              refine z_load X (x := (iC t 16 (c).toNat)) (show cdA 84 72 = some (.iload 5, 2, 0, 0, 0) from rfl) (List.Mem.head _) ?_
              refine z_goto X (t := 83) (show cdA 84 74 = some (.goto 9, 3, 0, 0, 0) from rfl) (by decide) ?_
              exact N1017 _ (Or.inr (⟨g1020, rfl⟩))
  refine z_load_n X (x := x) (show cdA 84 0 = some (.iload_n 1, 1, 0, 0, 0) from rfl) (List.Mem.tail _ (List.Mem.head _)) ?_
  refine z_const X (show cdA 84 1 = some (.iconst (-1), 1, 0, 0, 0) from rfl) ?_
  refine z_icmp_ne X (t := 19) (show cdA 84 2 = some (.if_icmp .ne 17, 3, 1, 0, 0) from rfl) (by decide) ⟨by first | exact oq_97ee2c2a p0.1 | omega, by first | exact oq_0e78ca7d p0.2 | omega⟩ (by decide) (fun g1 => ?_) (fun g1 => ?_)
  ·
    refine z_const X (show cdA 84 19 = some (.iconst 0, 1, 0, 0, 0) from rfl) ?_
    refine z_store_n X (lv' := [(3, .int (Int32.ofInt 0)), (0, .ref (A 19)), (1, .int (Int32.ofInt x)), (2, .ref (A 141))]) (show cdA 84 20 = some (.istore_n 3, 1, 0, 0, 0) from rfl) (by decide) (fun _ h => h) ?_
    refine z_aload_n X (x := A 19) (show cdA 84 21 = some (.aload_n 0, 1, 0, 0, 0) from rfl) (List.Mem.tail _ (List.Mem.head _)) ?_
    refine z_load_n X (x := x) (show cdA 84 22 = some (.iload_n 1, 1, 0, 0, 0) from rfl) (List.Mem.tail _ (List.Mem.tail _ (List.Mem.head _))) ?_
    refine z_callV X 19 (rm := rmN 70) (As := [.int (Int32.ofInt x)]) (st := []) (show cdA 84 23 = some (.invokevirtual 70, 3, 70, 0, 0) from rfl) rfl (by decide) rfl (by rw [E.1, E.2.1, E.2.2.1]; exact c7_beginOf_19 G I (by first | exact ⟨oq_7a1025bf g1 p0.1, p0.2⟩ | omega)) ⟨by rw [E.2.2.2]; exact (show (rmN 70).frames + 1 ≤ (rmN 84).frames by decide), by rw [E.2.2.2]; exact (show 8 + (mNL (miB 70) + 11) + (rmN 70).locals ≤ (rmN 84).locals by decide), by rw [E.2.2.2]; exact (show 0 + (rmN 70).cells ≤ (rmN 84).cells by decide), by rw [E.2.2.2]; exact (show 0 + (rmN 70).slots ≤ (rmN 84).slots by decide)⟩ (Nat.le_of_ble_eq_true rfl) (fun vv s2 hq => ?_) (fun ee s2 hq => ?_)
    rotate_left
    · obtain ⟨Is2, Fs2, e3, hv, hrs2, hps2⟩ := hq; cases hv
    obtain ⟨Is2, Fs2, e3, hv, hrs2, hps2⟩ := hq
    cases hv
    have Gs2 := fm_ts F Fs2 (by decide) (by decide)
    show WS k 26 [(3, .int (Int32.ofInt 0)), (0, .ref (A 19)), (1, .int (Int32.ofInt x)), (2, .ref (A 141))] [.int (Int32.ofInt e3)] (Wd A dT s2) 0 0
    refine z_store X (lv' := [(4, .int (Int32.ofInt e3)), (3, .int (Int32.ofInt 0)), (0, .ref (A 19)), (1, .int (Int32.ofInt x)), (2, .ref (A 141))]) (show cdA 84 26 = some (.istore 4, 2, 0, 0, 0) from rfl) (by decide) (fun _ h => h) ?_
    refine WS_lv (lv := [(0, .ref (A 19)), (2, .ref (A 141)), (1, .int (Int32.ofInt x)), (3, .int (Int32.ofInt 0)), (4, .int (Int32.ofInt e3))]) (List.forall_mem_cons.mpr ⟨(List.Mem.tail _ (List.Mem.tail _ (List.Mem.head _))), (List.forall_mem_cons.mpr ⟨(List.Mem.tail _ (List.Mem.tail _ (List.Mem.tail _ (List.Mem.tail _ (List.Mem.head _))))), (List.forall_mem_cons.mpr ⟨(List.Mem.tail _ (List.Mem.tail _ (List.Mem.tail _ (List.Mem.head _)))), (List.forall_mem_cons.mpr ⟨(List.Mem.tail _ (List.Mem.head _)), (List.forall_mem_cons.mpr ⟨(List.Mem.head _), (fun q h => absurd h List.not_mem_nil)⟩)⟩)⟩)⟩)⟩) ?_
    refine L28 ((200 - e3 : Int).toNat + 1) s2 x 0 e3 Is2 Gs2 (by first | exact ⟨oq_b629d6d6 g1 p0.2 p0.1, And.intro (by decide) (by decide), hps2.1, hps2.2⟩ | omega) (Nat.lt_succ_self _) ?_
    intro s4 x5 x6 Is4 Fs4 hs4
    refine z_aload_n X (x := A 19) (show cdA 84 163 = some (.aload_n 0, 1, 0, 0, 0) from rfl) (List.Mem.head _) ?_
    refine s_getR X 19 (show cdA 84 164 = some (.getfield 28, 3, 7, 13, 0) from rfl) (by decide) rfl rfl ?_
    refine z_const X (show cdA 84 167 = some (.iconst 0, 1, 0, 0, 0) from rfl) ?_
    refine z_ald X 24 (show cdA 84 168 = some (.iaload, 1, 0, 0, 0) from rfl) (by decide) rfl (by decide) (show 0 < 200 by decide) (by decide) ?_
    have b7 : ((-2147483648) : Int) ≤ iC s4 20 (0 : Int).toNat ∧ iC s4 20 (0 : Int).toNat ≤ 2147483647 := Is4.2 20 _ (show (0 : Int).toNat < 200 by first | exact oq_e7d7c2b9 | omega)
    exact w_iret X.1 q hRt rfl (ax_d X (show cdA 84 169 = some (.ireturn, 1, 0, 0, 0) from rfl)) (Nat.zero_le _) (Nat.zero_le _) ⟨_, rfl, Is4, Fs4, (iC s4 20 (0 : Int).toNat), rfl, (rng_to _), trivial⟩
  ·
    refine z_aload_n X (x := A 141) (show cdA 84 5 = some (.aload_n 2, 1, 0, 0, 0) from rfl) (List.Mem.tail _ (List.Mem.tail _ (List.Mem.head _))) ?_
    refine z_const X (show cdA 84 6 = some (.iconst 0, 1, 0, 0, 0) from rfl) ?_
    refine z_ald X 141 (show cdA 84 7 = some (.iaload, 1, 0, 0, 0) from rfl) (by decide) rfl (by decide) (show 0 < 7 by decide) (by decide) ?_
    have b8 : ((-2147483648) : Int) ≤ iC s 123 (0 : Int).toNat ∧ iC s 123 (0 : Int).toNat ≤ 2147483647 := I.2 123 _ (show (0 : Int).toNat < 7 by first | exact oq_e8ec3fa8 | omega)
    refine z_const X (show cdA 84 8 = some (.iconst 2, 1, 0, 0, 0) from rfl) ?_
    refine z_aload_n X (x := A 141) (show cdA 84 9 = some (.aload_n 2, 1, 0, 0, 0) from rfl) (List.Mem.tail _ (List.Mem.tail _ (List.Mem.head _))) ?_
    refine z_const X (show cdA 84 10 = some (.iconst 1, 1, 0, 0, 0) from rfl) ?_
    refine z_ald X 141 (show cdA 84 11 = some (.iaload, 1, 0, 0, 0) from rfl) (by decide) rfl (by decide) (show 1 < 7 by decide) (by decide) ?_
    have b9 : ((-2147483648) : Int) ≤ iC s 123 (1 : Int).toNat ∧ iC s 123 (1 : Int).toNat ≤ 2147483647 := I.2 123 _ (show (1 : Int).toNat < 7 by first | exact oq_a32b659c | omega)
    refine z_mul X (show cdA 84 12 = some (.imul, 1, 0, 0, 0) from rfl) ?_
    refine z_any (fun y10 hy10 => ?_)
    refine z_add X (show cdA 84 13 = some (.iadd, 1, 0, 0, 0) from rfl) ?_
    refine z_any (fun y11 hy11 => ?_)
    refine z_aload_n X (x := A 141) (show cdA 84 14 = some (.aload_n 2, 1, 0, 0, 0) from rfl) (List.Mem.tail _ (List.Mem.tail _ (List.Mem.head _))) ?_
    refine z_const X (show cdA 84 15 = some (.iconst 2, 1, 0, 0, 0) from rfl) ?_
    refine z_ald X 141 (show cdA 84 16 = some (.iaload, 1, 0, 0, 0) from rfl) (by decide) rfl (by decide) (show 2 < 7 by decide) (by decide) ?_
    have b12 : ((-2147483648) : Int) ≤ iC s 123 (2 : Int).toNat ∧ iC s 123 (2 : Int).toNat ≤ 2147483647 := I.2 123 _ (show (2 : Int).toNat < 7 by first | exact oq_62527c24 | omega)
    refine z_add X (show cdA 84 17 = some (.iadd, 1, 0, 0, 0) from rfl) ?_
    refine z_any (fun y13 hy13 => ?_)
    exact w_iret X.1 q hRt rfl (ax_d X (show cdA 84 18 = some (.ireturn, 1, 0, 0, 0) from rfl)) (Nat.zero_le _) (Nat.zero_le _) ⟨_, rfl, I, F, y13, rfl, hy13, trivial⟩
set_option maxRecDepth 4000 in
theorem c0_loadAt_133 (G : GX l s0 D tys a0 dT) (I : Bd s) {x y : Int} (p0 : 0 ≤ x ∧ x ≤ 23) (p1 : rng y) : CT l s0 D A dT 4 (rmN 4) [.ref (A 133), .int (Int32.ofInt x), .int (Int32.ofInt y)] s (fun o t => Bd t ∧ Fm [] [123, 20] s t ∧ ∃ e, o = .inl (some (.int (Int32.ofInt e))) ∧ rng e ∧ (True)) := by
  refine ct_ofX G (by decide) (Nat.le_of_ble_eq_true rfl) (fun k X E ET hRt hXt q => ?_)
  show WS k 0 [(0, .ref (A 133)), (1, .int (Int32.ofInt x)), (2, .int (Int32.ofInt y))] [] _ 0 0
  have F : Fm [] [123, 20] s s := fm_rf _ _ s
  refine z_aload_n X (x := A 133) (show cdA 4 0 = some (.aload_n 0, 1, 0, 0, 0) from rfl) (List.Mem.head _) ?_
  refine z_load_n X (x := x) (show cdA 4 1 = some (.iload_n 1, 1, 0, 0, 0) from rfl) (List.Mem.tail _ (List.Mem.head _)) ?_
  refine z_load_n X (x := y) (show cdA 4 2 = some (.iload_n 2, 1, 0, 0, 0) from rfl) (List.Mem.tail _ (List.Mem.tail _ (List.Mem.head _))) ?_
  refine z_callV X 133 (rm := rmN 3) (As := [.int (Int32.ofInt x), .int (Int32.ofInt y)]) (st := []) (show cdA 4 3 = some (.invokevirtual 96, 3, 3, 0, 0) from rfl) rfl (by decide) rfl (by rw [E.1, E.2.1, E.2.2.1]; exact c0_hear_133 G I (by first | exact ⟨p0.1, p0.2⟩ | omega) (by first | exact ⟨p1.1, p1.2⟩ | omega)) ⟨by rw [E.2.2.2]; exact (show (rmN 3).frames + 1 ≤ (rmN 4).frames by decide), by rw [E.2.2.2]; exact (show 8 + (mNL (miB 3) + 11) + (rmN 3).locals ≤ (rmN 4).locals by decide), by rw [E.2.2.2]; exact (show 0 + (rmN 3).cells ≤ (rmN 4).cells by decide), by rw [E.2.2.2]; exact (show 0 + (rmN 3).slots ≤ (rmN 4).slots by decide)⟩ (Nat.le_of_ble_eq_true rfl) (fun vv s1 hq => ?_) (fun ee s1 hq => ?_)
  rotate_left
  · obtain ⟨Is1, Fs1, hv, hps1⟩ := hq; cases hv
  obtain ⟨Is1, Fs1, hv, hps1⟩ := hq
  cases hv
  have Gs1 := fm_ts F Fs1 (by decide) (by decide)
  show WS k 6 [(0, .ref (A 133)), (1, .int (Int32.ofInt x)), (2, .int (Int32.ofInt y))] [] (Wd A dT s1) 0 0
  refine z_aload_n X (x := A 133) (show cdA 4 6 = some (.aload_n 0, 1, 0, 0, 0) from rfl) (List.Mem.head _) ?_
  refine s_getR X 133 (show cdA 4 7 = some (.getfield 47, 3, 0, 1, 0) from rfl) (by decide) rfl rfl ?_
  refine z_aload_n X (x := A 133) (show cdA 4 10 = some (.aload_n 0, 1, 0, 0, 0) from rfl) (List.Mem.head _) ?_
  refine s_getR X 133 (show cdA 4 11 = some (.getfield 47, 3, 0, 1, 0) from rfl) (by decide) rfl rfl ?_
  refine z_getI X 19 (show cdA 4 14 = some (.getfield 100, 3, 7, 4, 0) from rfl) (by decide) rfl rfl ?_
  have b3 : ((-1) : Int) ≤ iI s1 13 ∧ iI s1 13 ≤ 7 := Is1.1 13
  refine z_aload_n X (x := A 133) (show cdA 4 17 = some (.aload_n 0, 1, 0, 0, 0) from rfl) (List.Mem.head _) ?_
  refine s_getR X 133 (show cdA 4 18 = some (.getfield 37, 3, 0, 11, 0) from rfl) (by decide) rfl rfl ?_
  refine z_callV X 19 (rm := rmN 84) (As := [.int (Int32.ofInt (iI s1 13)), .ref (A 141)]) (st := []) (show cdA 4 21 = some (.invokevirtual 103, 3, 84, 0, 0) from rfl) rfl (by decide) rfl (by rw [E.1, E.2.1, E.2.2.1]; exact c7_work_133 G Is1 (by first | exact ⟨b3.1, b3.2⟩ | omega)) ⟨by rw [E.2.2.2]; exact (show (rmN 84).frames + 1 ≤ (rmN 4).frames by decide), by rw [E.2.2.2]; exact (show 8 + (mNL (miB 84) + 11) + (rmN 84).locals ≤ (rmN 4).locals by decide), by rw [E.2.2.2]; exact (show 0 + (rmN 84).cells ≤ (rmN 4).cells by decide), by rw [E.2.2.2]; exact (show 0 + (rmN 84).slots ≤ (rmN 4).slots by decide)⟩ (Nat.le_of_ble_eq_true rfl) (fun vv s4 hq => ?_) (fun ee s4 hq => ?_)
  rotate_left
  · obtain ⟨Is4, Fs4, e5, hv, hrs4, hps4⟩ := hq; cases hv
  obtain ⟨Is4, Fs4, e5, hv, hrs4, hps4⟩ := hq
  cases hv
  have Gs4 := fm_ts Gs1 Fs4 (by decide) (by decide)
  show WS k 24 [(0, .ref (A 133)), (1, .int (Int32.ofInt x)), (2, .int (Int32.ofInt y))] [.int (Int32.ofInt e5)] (Wd A dT s4) 0 0
  exact w_iret X.1 q hRt rfl (ax_d X (show cdA 4 24 = some (.ireturn, 1, 0, 0, 0) from rfl)) (Nat.zero_le _) (Nat.zero_le _) ⟨_, rfl, Is4, Gs4, e5, rfl, hrs4, trivial⟩
set_option maxRecDepth 4000 in
theorem c0_followSteps_143 (G : GX l s0 D tys a0 dT) (I : Bd s) {x : Int} {aj bj : Int64} (p0 : 0 ≤ x ∧ x ≤ 11) (p1 : iI s 61 ≤ 11) : CT l s0 D A dT 2 (rmN 2) [.ref (A 143), .int (Int32.ofInt x), .long aj, .long bj] s (fun o t => Bd t ∧ Fm [] [126, 127, 128] s t ∧ o = .inl none ∧ (True)) := by
  refine ct_ofX G (by decide) (Nat.le_of_ble_eq_true rfl) (fun k X E ET hRt hXt q => ?_)
  show WS k 0 [(0, .ref (A 143)), (1, .int (Int32.ofInt x)), (2, .long aj), (4, .long bj)] [] _ 0 0
  have F : Fm [] [126, 127, 128] s s := fm_rf _ _ s
  have b1 : (0 : Int) ≤ iI s 61 ∧ iI s 61 ≤ 12 := I.1 61
  have L12 : ∀ (n : Nat) (t : PS) (xv : Int) (av : Int64) (bv : Int64) (ov : Int) (wi : Int) (cl : Int) (kd : Int), Bd t → Fm [] [126, 127, 128] s t → ((0 ≤ xv ∧ xv ≤ 11) ∧ rng ov ∧ rng wi ∧ rng cl ∧ 0 ≤ kd ∧ kd ≤ 5 ∧ iI t 61 ≤ 11) → (5 - kd : Int).toNat < n → (∀ (t' : PS) (ov' : Int) (wi' : Int) (cl' : Int) (kd' : Int), Bd t' → Fm [] [126, 127, 128] s t' → ((0 ≤ xv ∧ xv ≤ 11) ∧ rng ov' ∧ rng wi' ∧ rng cl' ∧ 0 ≤ kd' ∧ kd' ≤ 5 ∧ iI t' 61 ≤ 11) → WS k 148 [(0, .ref (A 143)), (1, .int (Int32.ofInt xv)), (2, .long av), (4, .long bv), (6, .int (Int32.ofInt ov')), (7, .int (Int32.ofInt wi')), (8, .int (Int32.ofInt cl')), (9, .int (Int32.ofInt kd'))] [] (Wd A dT t') 0 0) → WS k 12 [(0, .ref (A 143)), (1, .int (Int32.ofInt xv)), (2, .long av), (4, .long bv), (6, .int (Int32.ofInt ov)), (7, .int (Int32.ofInt wi)), (8, .int (Int32.ofInt cl)), (9, .int (Int32.ofInt kd))] [] (Wd A dT t) 0 0 := by
    intro n
    induction n with
    | zero =>
      intro t xv av bv ov wi cl kd I F hi hm kx
      exact absurd hm (Nat.not_lt_zero _)
    | succ n ih =>
      intro t xv av bv ov wi cl kd I F hi hm kx
      have b1001 : (0 : Int) ≤ iI t 61 ∧ iI t 61 ≤ 12 := I.1 61
      refine z_load X (x := kd) (show cdA 2 12 = some (.iload 9, 2, 0, 0, 0) from rfl) (List.Mem.tail _ (List.Mem.tail _ (List.Mem.tail _ (List.Mem.tail _ (List.Mem.tail _ (List.Mem.tail _ (List.Mem.tail _ (List.Mem.head _)))))))) ?_
      refine z_const X (show cdA 2 14 = some (.iconst 5, 1, 0, 0, 0) from rfl) ?_
      refine z_icmp_ge X (t := 148) (show cdA 2 15 = some (.if_icmp .ge 133, 3, 3, 0, 0) from rfl) (by decide) ⟨by first | exact oq_fa4e5087 hi.2.2.2.2.1 | omega, by first | exact oq_a3dd55e5 hi.2.2.2.2.2.1 | omega⟩ (by decide) (fun g1002 => ?_) (fun g1002 => ?_)
      ·
        refine WS_lv (lv := [(0, .ref (A 143)), (1, .int (Int32.ofInt xv)), (2, .long av), (4, .long bv), (6, .int (Int32.ofInt ov)), (7, .int (Int32.ofInt wi)), (8, .int (Int32.ofInt cl)), (9, .int (Int32.ofInt kd))]) (List.forall_mem_cons.mpr ⟨(List.Mem.head _), (List.forall_mem_cons.mpr ⟨(List.Mem.tail _ (List.Mem.head _)), (List.forall_mem_cons.mpr ⟨(List.Mem.tail _ (List.Mem.tail _ (List.Mem.head _))), (List.forall_mem_cons.mpr ⟨(List.Mem.tail _ (List.Mem.tail _ (List.Mem.tail _ (List.Mem.head _)))), (List.forall_mem_cons.mpr ⟨(List.Mem.tail _ (List.Mem.tail _ (List.Mem.tail _ (List.Mem.tail _ (List.Mem.head _))))), (List.forall_mem_cons.mpr ⟨(List.Mem.tail _ (List.Mem.tail _ (List.Mem.tail _ (List.Mem.tail _ (List.Mem.tail _ (List.Mem.head _)))))), (List.forall_mem_cons.mpr ⟨(List.Mem.tail _ (List.Mem.tail _ (List.Mem.tail _ (List.Mem.tail _ (List.Mem.tail _ (List.Mem.tail _ (List.Mem.head _))))))), (List.forall_mem_cons.mpr ⟨(List.Mem.tail _ (List.Mem.tail _ (List.Mem.tail _ (List.Mem.tail _ (List.Mem.tail _ (List.Mem.tail _ (List.Mem.tail _ (List.Mem.head _)))))))), (fun q h => absurd h List.not_mem_nil)⟩)⟩)⟩)⟩)⟩)⟩)⟩)⟩) ?_
        exact kx _ ov wi cl kd I F (by first | exact ⟨And.intro (hi.1.1) (hi.1.2), And.intro (hi.2.1.1) (hi.2.1.2), And.intro (hi.2.2.1.1) (hi.2.2.1.2), And.intro (hi.2.2.2.1.1) (hi.2.2.2.1.2), hi.2.2.2.2.1, hi.2.2.2.2.2.1, hi.2.2.2.2.2.2⟩ | omega)
      ·
        refine z_aload_n X (x := A 143) (show cdA 2 18 = some (.aload_n 0, 1, 0, 0, 0) from rfl) (List.Mem.head _) ?_
        refine s_getR X 143 (show cdA 2 19 = some (.getfield 43, 3, 0, 0, 0) from rfl) (by decide) rfl rfl ?_
        refine s_getR X 68 (show cdA 2 22 = some (.getfield 84, 3, 9, 5, 0) from rfl) (by decide) rfl rfl ?_
        refine z_load_n X (x := xv) (show cdA 2 25 = some (.iload_n 1, 1, 0, 0, 0) from rfl) (List.Mem.tail _ (List.Mem.head _)) ?_
        refine z_const X (show cdA 2 26 = some (.iconst 5, 1, 0, 0, 0) from rfl) ?_
        refine z_mul X (show cdA 2 27 = some (.imul, 1, 0, 0, 0) from rfl) ?_
        refine z_load X (x := kd) (show cdA 2 28 = some (.iload 9, 2, 0, 0, 0) from rfl) (List.Mem.tail _ (List.Mem.tail _ (List.Mem.tail _ (List.Mem.tail _ (List.Mem.tail _ (List.Mem.tail _ (List.Mem.tail _ (List.Mem.head _)))))))) ?_
        refine z_add X (show cdA 2 30 = some (.iadd, 1, 0, 0, 0) from rfl) ?_
        refine z_lald X 73 (show cdA 2 31 = some (.laload, 1, 0, 0, 0) from rfl) (by decide) rfl (by first | exact oq_59a253bd hi.1.1 hi.2.2.2.2.1 | omega) (show ((xv * 5) + kd) < 60 by first | exact oq_7279bf48 hi.1.2 g1002 | omega) (by decide) (fun j1003 => ?_)
        refine w_lstore X.1 (lv' := [(10, .long j1003), (0, .ref (A 143)), (1, .int (Int32.ofInt xv)), (2, .long av), (4, .long bv), (6, .int (Int32.ofInt ov)), (7, .int (Int32.ofInt wi)), (8, .int (Int32.ofInt cl)), (9, .int (Int32.ofInt kd))]) (ax_d X (show cdA 2 32 = some (.lstore 10, 2, 0, 0, 0) from rfl)) (by rw [X.2.1.2.2]; decide) (fun _ h => h) ?_
        refine w_lload X.1 (ax_d X (show cdA 2 34 = some (.lload 10, 2, 0, 0, 0) from rfl)) (x := j1003) (List.Mem.head _) ?_
        refine w_lconst X.1 (ax_d X (show cdA 2 36 = some (.lconst 0, 1, 0, 0, 0) from rfl)) rfl ?_
        refine z_anyJ (fun j1004 => ?_)
        refine w_lcmp X.1 (ax_d X (show cdA 2 37 = some (.lcmp, 1, 0, 0, 0) from rfl)) ?_
        refine z_any (fun y1005 hy1005 => ?_)
        refine z_if_eq X (t := 142) (show cdA 2 38 = some (.ifCond .eq 104, 3, 0, 0, 0) from rfl) (by decide) hy1005 (fun g1006 => ?_) (fun g1006 => ?_)
        ·
          refine z_inc X (x := kd) (lv' := [(9, .int (Int32.ofInt (kd + 1))), (10, .long j1003), (0, .ref (A 143)), (1, .int (Int32.ofInt xv)), (2, .long av), (4, .long bv), (6, .int (Int32.ofInt ov)), (7, .int (Int32.ofInt wi)), (8, .int (Int32.ofInt cl))]) (show cdA 2 142 = some (.iinc 9 1, 3, 0, 0, 0) from rfl) (by decide) (List.Mem.tail _ (List.Mem.tail _ (List.Mem.tail _ (List.Mem.tail _ (List.Mem.tail _ (List.Mem.tail _ (List.Mem.tail _ (List.Mem.tail _ (List.Mem.head _))))))))) (fun _ h => h) ?_
          refine z_goto X (t := 12) (show cdA 2 145 = some (.goto (-133), 3, 0, 0, 0) from rfl) (by decide) ?_
          refine WS_lv (lv := [(0, .ref (A 143)), (1, .int (Int32.ofInt xv)), (2, .long av), (4, .long bv), (6, .int (Int32.ofInt ov)), (7, .int (Int32.ofInt wi)), (8, .int (Int32.ofInt cl)), (9, .int (Int32.ofInt (kd + 1)))]) (List.forall_mem_cons.mpr ⟨(List.Mem.tail _ (List.Mem.tail _ (List.Mem.head _))), (List.forall_mem_cons.mpr ⟨(List.Mem.tail _ (List.Mem.tail _ (List.Mem.tail _ (List.Mem.head _)))), (List.forall_mem_cons.mpr ⟨(List.Mem.tail _ (List.Mem.tail _ (List.Mem.tail _ (List.Mem.tail _ (List.Mem.head _))))), (List.forall_mem_cons.mpr ⟨(List.Mem.tail _ (List.Mem.tail _ (List.Mem.tail _ (List.Mem.tail _ (List.Mem.tail _ (List.Mem.head _)))))), (List.forall_mem_cons.mpr ⟨(List.Mem.tail _ (List.Mem.tail _ (List.Mem.tail _ (List.Mem.tail _ (List.Mem.tail _ (List.Mem.tail _ (List.Mem.head _))))))), (List.forall_mem_cons.mpr ⟨(List.Mem.tail _ (List.Mem.tail _ (List.Mem.tail _ (List.Mem.tail _ (List.Mem.tail _ (List.Mem.tail _ (List.Mem.tail _ (List.Mem.head _)))))))), (List.forall_mem_cons.mpr ⟨(List.Mem.tail _ (List.Mem.tail _ (List.Mem.tail _ (List.Mem.tail _ (List.Mem.tail _ (List.Mem.tail _ (List.Mem.tail _ (List.Mem.tail _ (List.Mem.head _))))))))), (List.forall_mem_cons.mpr ⟨(List.Mem.head _), (fun q h => absurd h List.not_mem_nil)⟩)⟩)⟩)⟩)⟩)⟩)⟩)⟩) ?_
          exact ih _ xv av bv ov wi cl (kd + 1) I F (by first | exact ⟨And.intro (hi.1.1) (hi.1.2), And.intro (hi.2.1.1) (hi.2.1.2), And.intro (hi.2.2.1.1) (hi.2.2.1.2), And.intro (hi.2.2.2.1.1) (hi.2.2.2.1.2), oq_54f49eb5 hi.2.2.2.2.1, oq_c2445583 g1002, hi.2.2.2.2.2.2⟩ | omega) (by first | exact qk_me hm (by decide) (oq_33241a94 g1002) | omega) kx
        ·
          refine z_load X (x := kd) (show cdA 2 41 = some (.iload 9, 2, 0, 0, 0) from rfl) (List.Mem.tail _ (List.Mem.tail _ (List.Mem.tail _ (List.Mem.tail _ (List.Mem.tail _ (List.Mem.tail _ (List.Mem.tail _ (List.Mem.tail _ (List.Mem.head _))))))))) ?_
          refine z_const X (show cdA 2 43 = some (.iconst 1, 1, 0, 0, 0) from rfl) ?_
          have N1007 : ∀ j1008 : Int64, WS k 59 [(10, .long j1003), (0, .ref (A 143)), (1, .int (Int32.ofInt xv)), (2, .long av), (4, .long bv), (6, .int (Int32.ofInt ov)), (7, .int (Int32.ofInt wi)), (8, .int (Int32.ofInt cl)), (9, .int (Int32.ofInt kd))] [.long j1008] (Wd A dT t) 0 0 := by
            intro j1008
            refine w_lstore X.1 (lv' := [(12, .long j1008), (10, .long j1003), (0, .ref (A 143)), (1, .int (Int32.ofInt xv)), (2, .long av), (4, .long bv), (6, .int (Int32.ofInt ov)), (7, .int (Int32.ofInt wi)), (8, .int (Int32.ofInt cl)), (9, .int (Int32.ofInt kd))]) (ax_d X (show cdA 2 59 = some (.lstore 12, 2, 0, 0, 0) from rfl)) (by rw [X.2.1.2.2]; decide) (fun _ h => h) ?_
            refine z_load X (x := kd) (show cdA 2 61 = some (.iload 9, 2, 0, 0, 0) from rfl) (List.Mem.tail _ (List.Mem.tail _ (List.Mem.tail _ (List.Mem.tail _ (List.Mem.tail _ (List.Mem.tail _ (List.Mem.tail _ (List.Mem.tail _ (List.Mem.tail _ (List.Mem.head _)))))))))) ?_
            refine z_const X (show cdA 2 63 = some (.iconst 4, 1, 0, 0, 0) from rfl) ?_
            have N1009 : ∀ j1010 : Int64, WS k 90 [(12, .long j1008), (10, .long j1003), (0, .ref (A 143)), (1, .int (Int32.ofInt xv)), (2, .long av), (4, .long bv), (6, .int (Int32.ofInt ov)), (7, .int (Int32.ofInt wi)), (8, .int (Int32.ofInt cl)), (9, .int (Int32.ofInt kd))] [.long j1010] (Wd A dT t) 0 0 := by
              intro j1010
              refine w_lstore X.1 (lv' := [(14, .long j1010), (12, .long j1008), (10, .long j1003), (0, .ref (A 143)), (1, .int (Int32.ofInt xv)), (2, .long av), (4, .long bv), (6, .int (Int32.ofInt ov)), (7, .int (Int32.ofInt wi)), (8, .int (Int32.ofInt cl)), (9, .int (Int32.ofInt kd))]) (ax_d X (show cdA 2 90 = some (.lstore 14, 2, 0, 0, 0) from rfl)) (by rw [X.2.1.2.2]; decide) (fun _ h => h) ?_
              refine w_lload X.1 (ax_d X (show cdA 2 92 = some (.lload 10, 2, 0, 0, 0) from rfl)) (x := j1003) (List.Mem.tail _ (List.Mem.tail _ (List.Mem.head _))) ?_
              refine w_lload X.1 (ax_d X (show cdA 2 94 = some (.lload 12, 2, 0, 0, 0) from rfl)) (x := j1008) (List.Mem.tail _ (List.Mem.head _)) ?_
              refine w_land X.1 (ax_d X (show cdA 2 96 = some (.land, 1, 0, 0, 0) from rfl)) ?_
              refine z_anyJ (fun j1011 => ?_)
              refine w_lload X.1 (ax_d X (show cdA 2 97 = some (.lload 14, 2, 0, 0, 0) from rfl)) (x := j1010) (List.Mem.head _) ?_
              refine w_land X.1 (ax_d X (show cdA 2 99 = some (.land, 1, 0, 0, 0) from rfl)) ?_
              refine z_anyJ (fun j1012 => ?_)
              refine z_callS X (rm := rmN 298) (As := [.long j1012]) (st := []) (show cdA 2 100 = some (.invokestatic 51, 3, 298, 1, 0) from rfl) rfl (by rw [E.1, E.2.1, E.2.2.1]; exact j_bitL G I ) ⟨by rw [E.2.2.2]; exact (show (rmN 298).frames + 1 ≤ (rmN 2).frames by decide), by rw [E.2.2.2]; exact (show 8 + (mNL (miB 298) + 11) + (rmN 298).locals ≤ (rmN 2).locals by decide), by rw [E.2.2.2]; exact (show 0 + (rmN 298).cells ≤ (rmN 2).cells by decide), by rw [E.2.2.2]; exact (show 0 + (rmN 298).slots ≤ (rmN 2).slots by decide)⟩ (Nat.le_of_ble_eq_true rfl) (fun vv s1013 hq => ?_) (fun ee s1013 hq => ?_)
              rotate_left
              · obtain ⟨Is1013, Fs1013, e1014, hv, hrs1013, hps1013⟩ := hq; cases hv
              obtain ⟨Is1013, Fs1013, e1014, hv, hrs1013, hps1013⟩ := hq
              cases hv
              have Gs1013 := fm_ts F Fs1013 (by decide) (by decide)
              have ws1013_61 : iI s1013 61 = iI t 61 := fm_i Fs1013 (by decide)
              show WS k 103 [(14, .long j1010), (12, .long j1008), (10, .long j1003), (0, .ref (A 143)), (1, .int (Int32.ofInt xv)), (2, .long av), (4, .long bv), (6, .int (Int32.ofInt ov)), (7, .int (Int32.ofInt wi)), (8, .int (Int32.ofInt cl)), (9, .int (Int32.ofInt kd))] [.int (Int32.ofInt e1014)] (Wd A dT s1013) 0 0
              refine z_store X (lv' := [(16, .int (Int32.ofInt e1014)), (14, .long j1010), (12, .long j1008), (10, .long j1003), (0, .ref (A 143)), (1, .int (Int32.ofInt xv)), (2, .long av), (4, .long bv), (6, .int (Int32.ofInt ov)), (7, .int (Int32.ofInt wi)), (8, .int (Int32.ofInt cl)), (9, .int (Int32.ofInt kd))]) (show cdA 2 103 = some (.istore 16, 2, 0, 0, 0) from rfl) (by decide) (fun _ h => h) ?_
              refine z_load X (x := ov) (show cdA 2 105 = some (.iload 6, 2, 0, 0, 0) from rfl) (List.Mem.tail _ (List.Mem.tail _ (List.Mem.tail _ (List.Mem.tail _ (List.Mem.tail _ (List.Mem.tail _ (List.Mem.tail _ (List.Mem.tail _ (List.Mem.head _))))))))) ?_
              refine w_lload X.1 (ax_d X (show cdA 2 107 = some (.lload 10, 2, 0, 0, 0) from rfl)) (x := j1003) (List.Mem.tail _ (List.Mem.tail _ (List.Mem.tail _ (List.Mem.head _)))) ?_
              refine w_lload X.1 (ax_d X (show cdA 2 109 = some (.lload 12, 2, 0, 0, 0) from rfl)) (x := j1008) (List.Mem.tail _ (List.Mem.tail _ (List.Mem.head _))) ?_
              refine w_lload X.1 (ax_d X (show cdA 2 111 = some (.lload 14, 2, 0, 0, 0) from rfl)) (x := j1010) (List.Mem.tail _ (List.Mem.head _)) ?_
              refine w_lxor X.1 (ax_d X (show cdA 2 113 = some (.lxor, 1, 0, 0, 0) from rfl)) ?_
              refine z_anyJ (fun j1015 => ?_)
              refine w_land X.1 (ax_d X (show cdA 2 114 = some (.land, 1, 0, 0, 0) from rfl)) ?_
              refine z_anyJ (fun j1016 => ?_)
              refine z_callS X (rm := rmN 298) (As := [.long j1016]) (st := [.int (Int32.ofInt ov)]) (show cdA 2 115 = some (.invokestatic 51, 3, 298, 1, 0) from rfl) rfl (by rw [E.1, E.2.1, E.2.2.1]; exact j_bitL G Is1013 ) ⟨by rw [E.2.2.2]; exact (show (rmN 298).frames + 1 ≤ (rmN 2).frames by decide), by rw [E.2.2.2]; exact (show 8 + (mNL (miB 298) + 11) + (rmN 298).locals ≤ (rmN 2).locals by decide), by rw [E.2.2.2]; exact (show 0 + (rmN 298).cells ≤ (rmN 2).cells by decide), by rw [E.2.2.2]; exact (show 0 + (rmN 298).slots ≤ (rmN 2).slots by decide)⟩ (Nat.le_of_ble_eq_true rfl) (fun vv s1017 hq => ?_) (fun ee s1017 hq => ?_)
              rotate_left
              · obtain ⟨Is1017, Fs1017, e1018, hv, hrs1017, hps1017⟩ := hq; cases hv
              obtain ⟨Is1017, Fs1017, e1018, hv, hrs1017, hps1017⟩ := hq
              cases hv
              have Gs1017 := fm_ts Gs1013 Fs1017 (by decide) (by decide)
              have ws1017_61 : iI s1017 61 = iI s1013 61 := fm_i Fs1017 (by decide)
              show WS k 118 [(16, .int (Int32.ofInt e1014)), (14, .long j1010), (12, .long j1008), (10, .long j1003), (0, .ref (A 143)), (1, .int (Int32.ofInt xv)), (2, .long av), (4, .long bv), (6, .int (Int32.ofInt ov)), (7, .int (Int32.ofInt wi)), (8, .int (Int32.ofInt cl)), (9, .int (Int32.ofInt kd))] [.int (Int32.ofInt e1018), .int (Int32.ofInt ov)] (Wd A dT s1017) 0 0
              refine z_add X (show cdA 2 118 = some (.iadd, 1, 0, 0, 0) from rfl) ?_
              refine z_any (fun y1019 hy1019 => ?_)
              refine z_store X (lv' := [(6, .int (Int32.ofInt y1019)), (16, .int (Int32.ofInt e1014)), (14, .long j1010), (12, .long j1008), (10, .long j1003), (0, .ref (A 143)), (1, .int (Int32.ofInt xv)), (2, .long av), (4, .long bv), (7, .int (Int32.ofInt wi)), (8, .int (Int32.ofInt cl)), (9, .int (Int32.ofInt kd))]) (show cdA 2 119 = some (.istore 6, 2, 0, 0, 0) from rfl) (by decide) (fun _ h => h) ?_
              refine z_load X (x := wi) (show cdA 2 121 = some (.iload 7, 2, 0, 0, 0) from rfl) (List.Mem.tail _ (List.Mem.tail _ (List.Mem.tail _ (List.Mem.tail _ (List.Mem.tail _ (List.Mem.tail _ (List.Mem.tail _ (List.Mem.tail _ (List.Mem.tail _ (List.Mem.head _)))))))))) ?_
              refine z_load X (x := e1014) (show cdA 2 123 = some (.iload 16, 2, 0, 0, 0) from rfl) (List.Mem.tail _ (List.Mem.head _)) ?_
              refine z_add X (show cdA 2 125 = some (.iadd, 1, 0, 0, 0) from rfl) ?_
              refine z_any (fun y1020 hy1020 => ?_)
              refine z_store X (lv' := [(7, .int (Int32.ofInt y1020)), (6, .int (Int32.ofInt y1019)), (16, .int (Int32.ofInt e1014)), (14, .long j1010), (12, .long j1008), (10, .long j1003), (0, .ref (A 143)), (1, .int (Int32.ofInt xv)), (2, .long av), (4, .long bv), (8, .int (Int32.ofInt cl)), (9, .int (Int32.ofInt kd))]) (show cdA 2 126 = some (.istore 7, 2, 0, 0, 0) from rfl) (by decide) (fun _ h => h) ?_
              refine z_load X (x := kd) (show cdA 2 128 = some (.iload 9, 2, 0, 0, 0) from rfl) (List.Mem.tail _ (List.Mem.tail _ (List.Mem.tail _ (List.Mem.tail _ (List.Mem.tail _ (List.Mem.tail _ (List.Mem.tail _ (List.Mem.tail _ (List.Mem.tail _ (List.Mem.tail _ (List.Mem.tail _ (List.Mem.head _)))))))))))) ?_
              refine z_const X (show cdA 2 130 = some (.iconst 4, 1, 0, 0, 0) from rfl) ?_
              have N1021 : ∀ e1022 : Int, (((kd ≠ 4) ∧ e1022 = 0) ∨ ((kd = 4) ∧ e1022 = e1014)) → WS k 140 [(7, .int (Int32.ofInt y1020)), (6, .int (Int32.ofInt y1019)), (16, .int (Int32.ofInt e1014)), (14, .long j1010), (12, .long j1008), (10, .long j1003), (0, .ref (A 143)), (1, .int (Int32.ofInt xv)), (2, .long av), (4, .long bv), (8, .int (Int32.ofInt cl)), (9, .int (Int32.ofInt kd))] [.int (Int32.ofInt e1022)] (Wd A dT s1017) 0 0 := by
                intro e1022 he1022
                refine z_store X (lv' := [(8, .int (Int32.ofInt e1022)), (7, .int (Int32.ofInt y1020)), (6, .int (Int32.ofInt y1019)), (16, .int (Int32.ofInt e1014)), (14, .long j1010), (12, .long j1008), (10, .long j1003), (0, .ref (A 143)), (1, .int (Int32.ofInt xv)), (2, .long av), (4, .long bv), (9, .int (Int32.ofInt kd))]) (show cdA 2 140 = some (.istore 8, 2, 0, 0, 0) from rfl) (by decide) (fun _ h => h) ?_
                refine z_inc X (x := kd) (lv' := [(9, .int (Int32.ofInt (kd + 1))), (8, .int (Int32.ofInt e1022)), (7, .int (Int32.ofInt y1020)), (6, .int (Int32.ofInt y1019)), (16, .int (Int32.ofInt e1014)), (14, .long j1010), (12, .long j1008), (10, .long j1003), (0, .ref (A 143)), (1, .int (Int32.ofInt xv)), (2, .long av), (4, .long bv)]) (show cdA 2 142 = some (.iinc 9 1, 3, 0, 0, 0) from rfl) (by decide) (List.Mem.tail _ (List.Mem.tail _ (List.Mem.tail _ (List.Mem.tail _ (List.Mem.tail _ (List.Mem.tail _ (List.Mem.tail _ (List.Mem.tail _ (List.Mem.tail _ (List.Mem.tail _ (List.Mem.tail _ (List.Mem.head _)))))))))))) (fun _ h => h) ?_
                refine z_goto X (t := 12) (show cdA 2 145 = some (.goto (-133), 3, 0, 0, 0) from rfl) (by decide) ?_
                refine WS_lv (lv := [(0, .ref (A 143)), (1, .int (Int32.ofInt xv)), (2, .long av), (4, .long bv), (6, .int (Int32.ofInt y1019)), (7, .int (Int32.ofInt y1020)), (8, .int (Int32.ofInt e1022)), (9, .int (Int32.ofInt (kd + 1)))]) (List.forall_mem_cons.mpr ⟨(List.Mem.tail _ (List.Mem.tail _ (List.Mem.tail _ (List.Mem.tail _ (List.Mem.tail _ (List.Mem.tail _ (List.Mem.tail _ (List.Mem.tail _ (List.Mem.head _))))))))), (List.forall_mem_cons.mpr ⟨(List.Mem.tail _ (List.Mem.tail _ (List.Mem.tail _ (List.Mem.tail _ (List.Mem.tail _ (List.Mem.tail _ (List.Mem.tail _ (List.Mem.tail _ (List.Mem.tail _ (List.Mem.head _)))))))))), (List.forall_mem_cons.mpr ⟨(List.Mem.tail _ (List.Mem.tail _ (List.Mem.tail _ (List.Mem.tail _ (List.Mem.tail _ (List.Mem.tail _ (List.Mem.tail _ (List.Mem.tail _ (List.Mem.tail _ (List.Mem.tail _ (List.Mem.head _))))))))))), (List.forall_mem_cons.mpr ⟨(List.Mem.tail _ (List.Mem.tail _ (List.Mem.tail _ (List.Mem.tail _ (List.Mem.tail _ (List.Mem.tail _ (List.Mem.tail _ (List.Mem.tail _ (List.Mem.tail _ (List.Mem.tail _ (List.Mem.tail _ (List.Mem.head _)))))))))))), (List.forall_mem_cons.mpr ⟨(List.Mem.tail _ (List.Mem.tail _ (List.Mem.tail _ (List.Mem.head _)))), (List.forall_mem_cons.mpr ⟨(List.Mem.tail _ (List.Mem.tail _ (List.Mem.head _))), (List.forall_mem_cons.mpr ⟨(List.Mem.tail _ (List.Mem.head _)), (List.forall_mem_cons.mpr ⟨(List.Mem.head _), (fun q h => absurd h List.not_mem_nil)⟩)⟩)⟩)⟩)⟩)⟩)⟩)⟩) ?_
                exact ih _ xv av bv y1019 y1020 e1022 (kd + 1) Is1017 Gs1017 (by first | exact ⟨And.intro (hi.1.1) (hi.1.2), And.intro (hy1019.1) (hy1019.2), And.intro (hy1020.1) (hy1020.2), by omega, oq_54f49eb5 hi.2.2.2.2.1, oq_c2445583 g1002, oq_9a920414 ws1017_61 ws1013_61 hi.2.2.2.2.2.2⟩ | omega) (by first | exact qk_me hm (by decide) (oq_33241a94 g1002) | omega) kx
              refine z_icmp_ne X (t := 139) (show cdA 2 131 = some (.if_icmp .ne 8, 3, 1, 0, 0) from rfl) (by decide) ⟨by first | exact oq_fa4e5087 hi.2.2.2.2.1 | omega, by first | exact oq_85aa3fe6 g1002 | omega⟩ (by decide) (fun g1023 => ?_) (fun g1023 => ?_)
              ·
                refine z_const X (show cdA 2 139 = some (.iconst 0, 1, 0, 0, 0) from rfl) ?_
                exact N1021 _ (Or.inl ⟨g1023, rfl⟩)
              ·
                refine z_load X (x := e1014) (show cdA 2 134 = some (.iload 16, 2, 0, 0, 0) from rfl) (List.Mem.tail _ (List.Mem.tail _ (List.Mem.head _))) ?_
                refine z_goto X (t := 140) (show cdA 2 136 = some (.goto 4, 3, 0, 0, 0) from rfl) (by decide) ?_
                exact N1021 _ (Or.inr (⟨g1023, rfl⟩))
            refine z_icmp_ne X (t := 72) (show cdA 2 64 = some (.if_icmp .ne 8, 3, 1, 0, 0) from rfl) (by decide) ⟨by first | exact oq_fa4e5087 hi.2.2.2.2.1 | omega, by first | exact oq_85aa3fe6 g1002 | omega⟩ (by decide) (fun g1024 => ?_) (fun g1024 => ?_)
            ·
              refine z_load X (x := kd) (show cdA 2 72 = some (.iload 9, 2, 0, 0, 0) from rfl) (List.Mem.tail _ (List.Mem.tail _ (List.Mem.tail _ (List.Mem.tail _ (List.Mem.tail _ (List.Mem.tail _ (List.Mem.tail _ (List.Mem.tail _ (List.Mem.tail _ (List.Mem.head _)))))))))) ?_
              refine z_const X (show cdA 2 74 = some (.iconst 2, 1, 0, 0, 0) from rfl) ?_
              refine z_icmp_ge X (t := 85) (show cdA 2 75 = some (.if_icmp .ge 10, 3, 3, 0, 0) from rfl) (by decide) ⟨by first | exact oq_fa4e5087 hi.2.2.2.2.1 | omega, by first | exact oq_85aa3fe6 g1002 | omega⟩ (by decide) (fun g1025 => ?_) (fun g1025 => ?_)
              ·
                refine w_lload X.1 (ax_d X (show cdA 2 85 = some (.lload 12, 2, 0, 0, 0) from rfl)) (x := j1008) (List.Mem.head _) ?_
                refine z_bipush X (show cdA 2 87 = some (.bipush 8, 2, 0, 0, 8) from rfl) ?_
                refine w_lushr X.1 (ax_d X (show cdA 2 89 = some (.lushr, 1, 0, 0, 0) from rfl)) ?_
                refine z_anyJ (fun j1026 => ?_)
                exact N1009 _
              ·
                refine w_lload X.1 (ax_d X (show cdA 2 78 = some (.lload 12, 2, 0, 0, 0) from rfl)) (x := j1008) (List.Mem.head _) ?_
                refine z_const X (show cdA 2 80 = some (.iconst 1, 1, 0, 0, 0) from rfl) ?_
                refine w_lushr X.1 (ax_d X (show cdA 2 81 = some (.lushr, 1, 0, 0, 0) from rfl)) ?_
                refine z_anyJ (fun j1027 => ?_)
                refine z_goto X (t := 90) (show cdA 2 82 = some (.goto 8, 3, 0, 0, 0) from rfl) (by decide) ?_
                exact N1009 _
            ·
              refine w_lload X.1 (ax_d X (show cdA 2 67 = some (.lload 4, 2, 0, 0, 0) from rfl)) (x := bv) (List.Mem.tail _ (List.Mem.tail _ (List.Mem.tail _ (List.Mem.tail _ (List.Mem.tail _ (List.Mem.head _)))))) ?_
              refine z_goto X (t := 90) (show cdA 2 69 = some (.goto 21, 3, 0, 0, 0) from rfl) (by decide) ?_
              exact N1009 _
          refine z_icmp_eq X (t := 53) (show cdA 2 44 = some (.if_icmp .eq 9, 3, 0, 0, 0) from rfl) (by decide) ⟨by first | exact oq_fa4e5087 hi.2.2.2.2.1 | omega, by first | exact oq_85aa3fe6 g1002 | omega⟩ (by decide) (fun g1028 => ?_) (fun g1028 => ?_)
          ·
            refine w_lload X.1 (ax_d X (show cdA 2 53 = some (.lload 4, 2, 0, 0, 0) from rfl)) (x := bv) (List.Mem.tail _ (List.Mem.tail _ (List.Mem.tail _ (List.Mem.tail _ (List.Mem.head _))))) ?_
            refine z_goto X (t := 59) (show cdA 2 55 = some (.goto 4, 3, 0, 0, 0) from rfl) (by decide) ?_
            exact N1007 _
          ·
            refine z_load X (x := kd) (show cdA 2 47 = some (.iload 9, 2, 0, 0, 0) from rfl) (List.Mem.tail _ (List.Mem.tail _ (List.Mem.tail _ (List.Mem.tail _ (List.Mem.tail _ (List.Mem.tail _ (List.Mem.tail _ (List.Mem.tail _ (List.Mem.head _))))))))) ?_
            refine z_const X (show cdA 2 49 = some (.iconst 3, 1, 0, 0, 0) from rfl) ?_
            refine z_icmp_ne X (t := 58) (show cdA 2 50 = some (.if_icmp .ne 8, 3, 1, 0, 0) from rfl) (by decide) ⟨by first | exact oq_fa4e5087 hi.2.2.2.2.1 | omega, by first | exact oq_85aa3fe6 g1002 | omega⟩ (by decide) (fun g1029 => ?_) (fun g1029 => ?_)
            ·
              refine w_lload_n X.1 (ax_d X (show cdA 2 58 = some (.lload_n 2, 1, 0, 0, 0) from rfl)) (x := av) (List.Mem.tail _ (List.Mem.tail _ (List.Mem.tail _ (List.Mem.head _)))) ?_
              exact N1007 _
            ·
              refine w_lload X.1 (ax_d X (show cdA 2 53 = some (.lload 4, 2, 0, 0, 0) from rfl)) (x := bv) (List.Mem.tail _ (List.Mem.tail _ (List.Mem.tail _ (List.Mem.tail _ (List.Mem.head _))))) ?_
              refine z_goto X (t := 59) (show cdA 2 55 = some (.goto 4, 3, 0, 0, 0) from rfl) (by decide) ?_
              exact N1007 _
  refine z_const X (show cdA 2 0 = some (.iconst 0, 1, 0, 0, 0) from rfl) ?_
  refine z_store X (lv' := [(6, .int (Int32.ofInt 0)), (0, .ref (A 143)), (1, .int (Int32.ofInt x)), (2, .long aj), (4, .long bj)]) (show cdA 2 1 = some (.istore 6, 2, 0, 0, 0) from rfl) (by decide) (fun _ h => h) ?_
  refine z_const X (show cdA 2 3 = some (.iconst 0, 1, 0, 0, 0) from rfl) ?_
  refine z_store X (lv' := [(7, .int (Int32.ofInt 0)), (6, .int (Int32.ofInt 0)), (0, .ref (A 143)), (1, .int (Int32.ofInt x)), (2, .long aj), (4, .long bj)]) (show cdA 2 4 = some (.istore 7, 2, 0, 0, 0) from rfl) (by decide) (fun _ h => h) ?_
  refine z_const X (show cdA 2 6 = some (.iconst 0, 1, 0, 0, 0) from rfl) ?_
  refine z_store X (lv' := [(8, .int (Int32.ofInt 0)), (7, .int (Int32.ofInt 0)), (6, .int (Int32.ofInt 0)), (0, .ref (A 143)), (1, .int (Int32.ofInt x)), (2, .long aj), (4, .long bj)]) (show cdA 2 7 = some (.istore 8, 2, 0, 0, 0) from rfl) (by decide) (fun _ h => h) ?_
  refine z_const X (show cdA 2 9 = some (.iconst 0, 1, 0, 0, 0) from rfl) ?_
  refine z_store X (lv' := [(9, .int (Int32.ofInt 0)), (8, .int (Int32.ofInt 0)), (7, .int (Int32.ofInt 0)), (6, .int (Int32.ofInt 0)), (0, .ref (A 143)), (1, .int (Int32.ofInt x)), (2, .long aj), (4, .long bj)]) (show cdA 2 10 = some (.istore 9, 2, 0, 0, 0) from rfl) (by decide) (fun _ h => h) ?_
  refine WS_lv (lv := [(0, .ref (A 143)), (1, .int (Int32.ofInt x)), (2, .long aj), (4, .long bj), (6, .int (Int32.ofInt 0)), (7, .int (Int32.ofInt 0)), (8, .int (Int32.ofInt 0)), (9, .int (Int32.ofInt 0))]) (List.forall_mem_cons.mpr ⟨(List.Mem.tail _ (List.Mem.tail _ (List.Mem.tail _ (List.Mem.tail _ (List.Mem.head _))))), (List.forall_mem_cons.mpr ⟨(List.Mem.tail _ (List.Mem.tail _ (List.Mem.tail _ (List.Mem.tail _ (List.Mem.tail _ (List.Mem.head _)))))), (List.forall_mem_cons.mpr ⟨(List.Mem.tail _ (List.Mem.tail _ (List.Mem.tail _ (List.Mem.tail _ (List.Mem.tail _ (List.Mem.tail _ (List.Mem.head _))))))), (List.forall_mem_cons.mpr ⟨(List.Mem.tail _ (List.Mem.tail _ (List.Mem.tail _ (List.Mem.tail _ (List.Mem.tail _ (List.Mem.tail _ (List.Mem.tail _ (List.Mem.head _)))))))), (List.forall_mem_cons.mpr ⟨(List.Mem.tail _ (List.Mem.tail _ (List.Mem.tail _ (List.Mem.head _)))), (List.forall_mem_cons.mpr ⟨(List.Mem.tail _ (List.Mem.tail _ (List.Mem.head _))), (List.forall_mem_cons.mpr ⟨(List.Mem.tail _ (List.Mem.head _)), (List.forall_mem_cons.mpr ⟨(List.Mem.head _), (fun q h => absurd h List.not_mem_nil)⟩)⟩)⟩)⟩)⟩)⟩)⟩)⟩) ?_
  refine L12 ((5 - 0 : Int).toNat + 1) s x aj bj 0 0 0 0 I F (by first | exact ⟨And.intro (p0.1) (p0.2), And.intro (by decide) (by decide), And.intro (by decide) (by decide), And.intro (by decide) (by decide), by decide, by decide, p1⟩ | omega) (Nat.lt_succ_self _) ?_
  intro s2 x3 x4 x5 x6 Is2 Fs2 hs2
  have b7 : (0 : Int) ≤ iI s2 61 ∧ iI s2 61 ≤ 12 := Is2.1 61
  refine z_aload_n X (x := A 143) (show cdA 2 148 = some (.aload_n 0, 1, 0, 0, 0) from rfl) (List.Mem.head _) ?_
  refine s_getR X 143 (show cdA 2 149 = some (.getfield 15, 3, 0, 4, 0) from rfl) (by decide) rfl rfl ?_
  refine z_aload_n X (x := A 143) (show cdA 2 152 = some (.aload_n 0, 1, 0, 0, 0) from rfl) (List.Mem.head _) ?_
  refine z_getI X 143 (show cdA 2 153 = some (.getfield 57, 3, 0, 2, 0) from rfl) (by decide) rfl rfl ?_
  have b8 : (0 : Int) ≤ iI s2 61 ∧ iI s2 61 ≤ 12 := Is2.1 61
  refine z_load X (x := x3) (show cdA 2 156 = some (.iload 6, 2, 0, 0, 0) from rfl) (List.Mem.tail _ (List.Mem.tail _ (List.Mem.tail _ (List.Mem.tail _ (List.Mem.head _))))) ?_
  refine z_ast X 145 (show cdA 2 158 = some (.iastore, 1, 0, 0, 0) from rfl) (by decide) rfl (by first | exact b8.1 | omega) (show (iI s2 61) < 12 by first | exact oq_0ddfcfee hs2.2.2.2.2.2.2 | omega) (by decide) ?_
  obtain ⟨s9, hs9⟩ : ∃ x0, x0 = uC s2 126 ((iI s2 61)).toNat (Int32.ofInt x3) := ⟨_, rfl⟩
  rw [← hs9]
  have Is9 : Bd s9 := by rw [hs9]; exact bd_C Is2 (show ((-2147483648) : Int) ≤ x3 ∧ x3 ≤ 2147483647 by first | exact ⟨hs2.2.1.1, hs2.2.1.2⟩ | omega) ⟨by first | exact hs2.2.1.1 | omega, by first | exact hs2.2.1.2 | omega⟩
  have Fs9 := fm_C (i := ((iI s2 61)).toNat) (x := Int32.ofInt x3) Fs2 (show 126 ∈ _ by decide)
  rw [← hs9] at Fs9
  have ws9_61 : iI s9 61 = iI s2 61 := by rw [hs9]; rfl
  refine z_aload_n X (x := A 143) (show cdA 2 159 = some (.aload_n 0, 1, 0, 0, 0) from rfl) (List.Mem.head _) ?_
  refine s_getR X 143 (show cdA 2 160 = some (.getfield 18, 3, 0, 5, 0) from rfl) (by decide) rfl rfl ?_
  refine z_aload_n X (x := A 143) (show cdA 2 163 = some (.aload_n 0, 1, 0, 0, 0) from rfl) (List.Mem.head _) ?_
  refine z_getI X 143 (show cdA 2 164 = some (.getfield 57, 3, 0, 2, 0) from rfl) (by decide) rfl rfl ?_
  have b10 : (0 : Int) ≤ iI s9 61 ∧ iI s9 61 ≤ 12 := Is9.1 61
  refine z_load X (x := x4) (show cdA 2 167 = some (.iload 7, 2, 0, 0, 0) from rfl) (List.Mem.tail _ (List.Mem.tail _ (List.Mem.tail _ (List.Mem.tail _ (List.Mem.tail _ (List.Mem.head _)))))) ?_
  refine z_ast X 146 (show cdA 2 169 = some (.iastore, 1, 0, 0, 0) from rfl) (by decide) rfl (by first | exact b10.1 | omega) (show (iI s9 61) < 12 by first | exact oq_210fcd76 ws9_61 hs2.2.2.2.2.2.2 | omega) (by decide) ?_
  obtain ⟨s11, hs11⟩ : ∃ x0, x0 = uC s9 127 ((iI s9 61)).toNat (Int32.ofInt x4) := ⟨_, rfl⟩
  rw [← hs11]
  have Is11 : Bd s11 := by rw [hs11]; exact bd_C Is9 (show ((-2147483648) : Int) ≤ x4 ∧ x4 ≤ 2147483647 by first | exact ⟨hs2.2.2.1.1, hs2.2.2.1.2⟩ | omega) ⟨by first | exact hs2.2.2.1.1 | omega, by first | exact hs2.2.2.1.2 | omega⟩
  have Fs11 := fm_C (i := ((iI s9 61)).toNat) (x := Int32.ofInt x4) Fs9 (show 127 ∈ _ by decide)
  rw [← hs11] at Fs11
  have ws11_61 : iI s11 61 = iI s9 61 := by rw [hs11]; rfl
  refine z_aload_n X (x := A 143) (show cdA 2 170 = some (.aload_n 0, 1, 0, 0, 0) from rfl) (List.Mem.head _) ?_
  refine s_getR X 143 (show cdA 2 171 = some (.getfield 21, 3, 0, 6, 0) from rfl) (by decide) rfl rfl ?_
  refine z_aload_n X (x := A 143) (show cdA 2 174 = some (.aload_n 0, 1, 0, 0, 0) from rfl) (List.Mem.head _) ?_
  refine z_getI X 143 (show cdA 2 175 = some (.getfield 57, 3, 0, 2, 0) from rfl) (by decide) rfl rfl ?_
  have b12 : (0 : Int) ≤ iI s11 61 ∧ iI s11 61 ≤ 12 := Is11.1 61
  refine z_load X (x := x5) (show cdA 2 178 = some (.iload 8, 2, 0, 0, 0) from rfl) (List.Mem.tail _ (List.Mem.tail _ (List.Mem.tail _ (List.Mem.tail _ (List.Mem.tail _ (List.Mem.tail _ (List.Mem.head _))))))) ?_
  refine z_ast X 147 (show cdA 2 180 = some (.iastore, 1, 0, 0, 0) from rfl) (by decide) rfl (by first | exact b12.1 | omega) (show (iI s11 61) < 12 by first | exact oq_e2284db0 ws11_61 ws9_61 hs2.2.2.2.2.2.2 | omega) (by decide) ?_
  obtain ⟨s13, hs13⟩ : ∃ x0, x0 = uC s11 128 ((iI s11 61)).toNat (Int32.ofInt x5) := ⟨_, rfl⟩
  rw [← hs13]
  have Is13 : Bd s13 := by rw [hs13]; exact bd_C Is11 (show ((-2147483648) : Int) ≤ x5 ∧ x5 ≤ 2147483647 by first | exact ⟨hs2.2.2.2.1.1, hs2.2.2.2.1.2⟩ | omega) ⟨by first | exact hs2.2.2.2.1.1 | omega, by first | exact hs2.2.2.2.1.2 | omega⟩
  have Fs13 := fm_C (i := ((iI s11 61)).toNat) (x := Int32.ofInt x5) Fs11 (show 128 ∈ _ by decide)
  rw [← hs13] at Fs13
  have ws13_61 : iI s13 61 = iI s11 61 := by rw [hs13]; rfl
  exact w_vret X.1 q hRt (ax_d X (show cdA 2 181 = some (.return_, 1, 0, 0, 0) from rfl)) (Nat.zero_le _) (Nat.zero_le _) ⟨_, rfl, Is13, Fs13, rfl, trivial⟩
set_option maxRecDepth 4000 in
theorem c0_listen_143 (G : GX l s0 D tys a0 dT) (I : Bd s) {x : Int} {aj bj : Int64} (p0 : rng x) : CT l s0 D A dT 1 (rmN 1) [.ref (A 143), .long aj, .long bj, .int (Int32.ofInt x)] s (fun o t => Bd t ∧ Fm [61, 62] [132, 125, 126, 127, 128, 129, 130, 131] s t ∧ o = .inl none ∧ (True)) := by
  refine ct_ofX G (by decide) (Nat.le_of_ble_eq_true rfl) (fun k X E ET hRt hXt q => ?_)
  show WS k 0 [(0, .ref (A 143)), (1, .long aj), (3, .long bj), (5, .int (Int32.ofInt x))] [] _ 0 0
  have F : Fm [61, 62] [132, 125, 126, 127, 128, 129, 130, 131] s s := fm_rf _ _ s
  have b1 : (0 : Int) ≤ iI s 61 ∧ iI s 61 ≤ 12 := I.1 61
  have b2 : (0 : Int) ≤ iI s 62 ∧ iI s 62 ≤ 66 := I.1 62
  have b3 : (0 : Int) ≤ iI s 43 ∧ iI s 43 ≤ 12 := I.1 43
  have b4 : (0 : Int) ≤ iI s 44 ∧ iI s 44 ≤ 66 := I.1 44
  have L42 : ∀ (n : Nat) (t : PS) (av : Int64) (bv : Int64) (c : Int), Bd t → Fm [61, 62] [132, 125, 126, 127, 128, 129, 130, 131] s t → (0 ≤ c ∧ c ≤ 12 ∧ iI t 61 ≤ c) → (12 - c : Int).toNat < n → (∀ (t' : PS) (c' : Int), Bd t' → Fm [61, 62] [132, 125, 126, 127, 128, 129, 130, 131] s t' → (0 ≤ c' ∧ c' ≤ 12 ∧ iI t' 61 ≤ c') → WS k 125 [(0, .ref (A 143)), (1, .long av), (3, .long bv), (6, .int (Int32.ofInt c'))] [] (Wd A dT t') 0 0) → WS k 42 [(0, .ref (A 143)), (1, .long av), (3, .long bv), (6, .int (Int32.ofInt c))] [] (Wd A dT t) 0 0 := by
    intro n
    induction n with
    | zero =>
      intro t av bv c I F hi hm kx
      exact absurd hm (Nat.not_lt_zero _)
    | succ n ih =>
      intro t av bv c I F hi hm kx
      have b1001 : (0 : Int) ≤ iI t 61 ∧ iI t 61 ≤ 12 := I.1 61
      have b1002 : (0 : Int) ≤ iI t 62 ∧ iI t 62 ≤ 66 := I.1 62
      have b1003 : (0 : Int) ≤ iI t 43 ∧ iI t 43 ≤ 12 := I.1 43
      have b1004 : (0 : Int) ≤ iI t 44 ∧ iI t 44 ≤ 66 := I.1 44
      refine z_load X (x := c) (show cdA 1 42 = some (.iload 6, 2, 0, 0, 0) from rfl) (List.Mem.tail _ (List.Mem.tail _ (List.Mem.tail _ (List.Mem.head _)))) ?_
      refine z_aload_n X (x := A 143) (show cdA 1 44 = some (.aload_n 0, 1, 0, 0, 0) from rfl) (List.Mem.head _) ?_
      refine s_getR X 143 (show cdA 1 45 = some (.getfield 43, 3, 0, 0, 0) from rfl) (by decide) rfl rfl ?_
      refine z_getI X 68 (show cdA 1 48 = some (.getfield 61, 3, 9, 0, 0) from rfl) (by decide) rfl rfl ?_
      have b1005 : (0 : Int) ≤ iI t 43 ∧ iI t 43 ≤ 12 := I.1 43
      refine z_icmp_ge X (t := 125) (show cdA 1 51 = some (.if_icmp .ge 74, 3, 3, 0, 0) from rfl) (by decide) ⟨by first | exact oq_fa4e5087 hi.1 | omega, by first | exact oq_78843a64 hi.2.1 | omega⟩ (rng_to _) (fun g1006 => ?_) (fun g1006 => ?_)
      ·
        refine WS_lv (lv := [(0, .ref (A 143)), (1, .long av), (3, .long bv), (6, .int (Int32.ofInt c))]) (List.forall_mem_cons.mpr ⟨(List.Mem.head _), (List.forall_mem_cons.mpr ⟨(List.Mem.tail _ (List.Mem.head _)), (List.forall_mem_cons.mpr ⟨(List.Mem.tail _ (List.Mem.tail _ (List.Mem.head _))), (List.forall_mem_cons.mpr ⟨(List.Mem.tail _ (List.Mem.tail _ (List.Mem.tail _ (List.Mem.head _)))), (fun q h => absurd h List.not_mem_nil)⟩)⟩)⟩)⟩) ?_
        exact kx _ c I F (by first | exact ⟨hi.1, hi.2.1, hi.2.2⟩ | omega)
      ·
        refine z_aload_n X (x := A 143) (show cdA 1 54 = some (.aload_n 0, 1, 0, 0, 0) from rfl) (List.Mem.head _) ?_
        refine s_getR X 143 (show cdA 1 55 = some (.getfield 43, 3, 0, 0, 0) from rfl) (by decide) rfl rfl ?_
        refine s_getR X 68 (show cdA 1 58 = some (.getfield 64, 3, 9, 3, 0) from rfl) (by decide) rfl rfl ?_
        refine z_load X (x := c) (show cdA 1 61 = some (.iload 6, 2, 0, 0, 0) from rfl) (List.Mem.tail _ (List.Mem.tail _ (List.Mem.tail _ (List.Mem.head _)))) ?_
        refine z_const X (show cdA 1 63 = some (.iconst 2, 1, 0, 0, 0) from rfl) ?_
        refine z_mul X (show cdA 1 64 = some (.imul, 1, 0, 0, 0) from rfl) ?_
        refine z_lald X 71 (show cdA 1 65 = some (.laload, 1, 0, 0, 0) from rfl) (by decide) rfl (by first | exact oq_cfc6ac54 hi.1 | omega) (show (c * 2) < 24 by first | exact oq_e062d2c8 g1006 b1005.2 | omega) (by decide) (fun j1007 => ?_)
        refine w_lload_n X.1 (ax_d X (show cdA 1 66 = some (.lload_n 1, 1, 0, 0, 0) from rfl)) (x := av) (List.Mem.tail _ (List.Mem.head _)) ?_
        refine w_land X.1 (ax_d X (show cdA 1 67 = some (.land, 1, 0, 0, 0) from rfl)) ?_
        refine z_anyJ (fun j1008 => ?_)
        refine z_aload_n X (x := A 143) (show cdA 1 68 = some (.aload_n 0, 1, 0, 0, 0) from rfl) (List.Mem.head _) ?_
        refine s_getR X 143 (show cdA 1 69 = some (.getfield 43, 3, 0, 0, 0) from rfl) (by decide) rfl rfl ?_
        refine s_getR X 68 (show cdA 1 72 = some (.getfield 64, 3, 9, 3, 0) from rfl) (by decide) rfl rfl ?_
        refine z_load X (x := c) (show cdA 1 75 = some (.iload 6, 2, 0, 0, 0) from rfl) (List.Mem.tail _ (List.Mem.tail _ (List.Mem.tail _ (List.Mem.head _)))) ?_
        refine z_const X (show cdA 1 77 = some (.iconst 2, 1, 0, 0, 0) from rfl) ?_
        refine z_mul X (show cdA 1 78 = some (.imul, 1, 0, 0, 0) from rfl) ?_
        refine z_const X (show cdA 1 79 = some (.iconst 1, 1, 0, 0, 0) from rfl) ?_
        refine z_add X (show cdA 1 80 = some (.iadd, 1, 0, 0, 0) from rfl) ?_
        refine z_lald X 71 (show cdA 1 81 = some (.laload, 1, 0, 0, 0) from rfl) (by decide) rfl (by first | exact oq_8a3e0277 hi.1 | omega) (show ((c * 2) + 1) < 24 by first | exact oq_0edc0603 g1006 b1005.2 | omega) (by decide) (fun j1009 => ?_)
        refine w_lload_n X.1 (ax_d X (show cdA 1 82 = some (.lload_n 3, 1, 0, 0, 0) from rfl)) (x := bv) (List.Mem.tail _ (List.Mem.tail _ (List.Mem.head _))) ?_
        refine w_land X.1 (ax_d X (show cdA 1 83 = some (.land, 1, 0, 0, 0) from rfl)) ?_
        refine z_anyJ (fun j1010 => ?_)
        refine w_lor X.1 (ax_d X (show cdA 1 84 = some (.lor, 1, 0, 0, 0) from rfl)) ?_
        refine z_anyJ (fun j1011 => ?_)
        refine w_lconst X.1 (ax_d X (show cdA 1 85 = some (.lconst 0, 1, 0, 0, 0) from rfl)) rfl ?_
        refine z_anyJ (fun j1012 => ?_)
        refine w_lcmp X.1 (ax_d X (show cdA 1 86 = some (.lcmp, 1, 0, 0, 0) from rfl)) ?_
        refine z_any (fun y1013 hy1013 => ?_)
        refine z_if_eq X (t := 119) (show cdA 1 87 = some (.ifCond .eq 32, 3, 0, 0, 0) from rfl) (by decide) hy1013 (fun g1014 => ?_) (fun g1014 => ?_)
        ·
          refine z_inc X (x := c) (lv' := [(6, .int (Int32.ofInt (c + 1))), (0, .ref (A 143)), (1, .long av), (3, .long bv)]) (show cdA 1 119 = some (.iinc 6 1, 3, 0, 0, 0) from rfl) (by decide) (List.Mem.tail _ (List.Mem.tail _ (List.Mem.tail _ (List.Mem.head _)))) (fun _ h => h) ?_
          refine z_goto X (t := 42) (show cdA 1 122 = some (.goto (-80), 3, 0, 0, 0) from rfl) (by decide) ?_
          refine WS_lv (lv := [(0, .ref (A 143)), (1, .long av), (3, .long bv), (6, .int (Int32.ofInt (c + 1)))]) (List.forall_mem_cons.mpr ⟨(List.Mem.tail _ (List.Mem.head _)), (List.forall_mem_cons.mpr ⟨(List.Mem.tail _ (List.Mem.tail _ (List.Mem.head _))), (List.forall_mem_cons.mpr ⟨(List.Mem.tail _ (List.Mem.tail _ (List.Mem.tail _ (List.Mem.head _)))), (List.forall_mem_cons.mpr ⟨(List.Mem.head _), (fun q h => absurd h List.not_mem_nil)⟩)⟩)⟩)⟩) ?_
          exact ih _ av bv (c + 1) I F (by first | exact ⟨oq_54f49eb5 hi.1, oq_4dae995e g1006 b1005.2, oq_03182e9e hi.2.2⟩ | omega) (by first | exact qk_me hm (by decide) (oq_b575e8c1 g1006 b1005.2) | omega) kx
        ·
          refine z_aload_n X (x := A 143) (show cdA 1 90 = some (.aload_n 0, 1, 0, 0, 0) from rfl) (List.Mem.head _) ?_
          refine s_getR X 143 (show cdA 1 91 = some (.getfield 9, 3, 0, 3, 0) from rfl) (by decide) rfl rfl ?_
          refine z_aload_n X (x := A 143) (show cdA 1 94 = some (.aload_n 0, 1, 0, 0, 0) from rfl) (List.Mem.head _) ?_
          refine z_getI X 143 (show cdA 1 95 = some (.getfield 57, 3, 0, 2, 0) from rfl) (by decide) rfl rfl ?_
          have b1015 : (0 : Int) ≤ iI t 61 ∧ iI t 61 ≤ 12 := I.1 61
          refine z_load X (x := c) (show cdA 1 98 = some (.iload 6, 2, 0, 0, 0) from rfl) (List.Mem.tail _ (List.Mem.tail _ (List.Mem.tail _ (List.Mem.head _)))) ?_
          refine z_ast X 144 (show cdA 1 100 = some (.iastore, 1, 0, 0, 0) from rfl) (by decide) rfl (by first | exact b1015.1 | omega) (show (iI t 61) < 12 by first | exact oq_79196c7f hi.2.2 g1006 b1005.2 | omega) (by decide) ?_
          obtain ⟨s1016, hs1016⟩ : ∃ x0, x0 = uC t 125 ((iI t 61)).toNat (Int32.ofInt c) := ⟨_, rfl⟩
          rw [← hs1016]
          have Is1016 : Bd s1016 := by rw [hs1016]; exact bd_C I (show (0 : Int) ≤ c ∧ c ≤ 11 by first | exact ⟨hi.1, oq_e4d7f3c5 g1006 b1005.2⟩ | omega) ⟨by first | exact oq_fa4e5087 hi.1 | omega, by first | exact oq_78843a64 hi.2.1 | omega⟩
          have Fs1016 := fm_C (i := ((iI t 61)).toNat) (x := Int32.ofInt c) F (show 125 ∈ _ by decide)
          rw [← hs1016] at Fs1016
          have ws1016_61 : iI s1016 61 = iI t 61 := by rw [hs1016]; rfl
          have ws1016_62 : iI s1016 62 = iI t 62 := by rw [hs1016]; rfl
          have ws1016_43 : iI s1016 43 = iI t 43 := by rw [hs1016]; rfl
          have ws1016_44 : iI s1016 44 = iI t 44 := by rw [hs1016]; rfl
          refine z_aload_n X (x := A 143) (show cdA 1 101 = some (.aload_n 0, 1, 0, 0, 0) from rfl) (List.Mem.head _) ?_
          refine z_load X (x := c) (show cdA 1 102 = some (.iload 6, 2, 0, 0, 0) from rfl) (List.Mem.tail _ (List.Mem.tail _ (List.Mem.tail _ (List.Mem.head _)))) ?_
          refine w_lload_n X.1 (ax_d X (show cdA 1 104 = some (.lload_n 1, 1, 0, 0, 0) from rfl)) (x := av) (List.Mem.tail _ (List.Mem.head _)) ?_
          refine w_lload_n X.1 (ax_d X (show cdA 1 105 = some (.lload_n 3, 1, 0, 0, 0) from rfl)) (x := bv) (List.Mem.tail _ (List.Mem.tail _ (List.Mem.head _))) ?_
          refine z_callV X 143 (rm := rmN 2) (As := [.int (Int32.ofInt c), .long av, .long bv]) (st := []) (show cdA 1 106 = some (.invokevirtual 68, 3, 2, 0, 0) from rfl) rfl (by decide) rfl (by rw [E.1, E.2.1, E.2.2.1]; exact c0_followSteps_143 G Is1016 (by first | exact ⟨hi.1, oq_e4d7f3c5 g1006 b1005.2⟩ | omega) (by first | exact oq_2f168143 ws1016_61 hi.2.2 g1006 b1005.2 | omega)) ⟨by rw [E.2.2.2]; exact (show (rmN 2).frames + 1 ≤ (rmN 1).frames by decide), by rw [E.2.2.2]; exact (show 8 + (mNL (miB 2) + 11) + (rmN 2).locals ≤ (rmN 1).locals by decide), by rw [E.2.2.2]; exact (show 0 + (rmN 2).cells ≤ (rmN 1).cells by decide), by rw [E.2.2.2]; exact (show 0 + (rmN 2).slots ≤ (rmN 1).slots by decide)⟩ (Nat.le_of_ble_eq_true rfl) (fun vv s1017 hq => ?_) (fun ee s1017 hq => ?_)
          rotate_left
          · obtain ⟨Is1017, Fs1017, hv, hps1017⟩ := hq; cases hv
          obtain ⟨Is1017, Fs1017, hv, hps1017⟩ := hq
          cases hv
          have Gs1017 := fm_ts Fs1016 Fs1017 (by decide) (by decide)
          have ws1017_61 : iI s1017 61 = iI s1016 61 := fm_i Fs1017 (by decide)
          have ws1017_62 : iI s1017 62 = iI s1016 62 := fm_i Fs1017 (by decide)
          have ws1017_43 : iI s1017 43 = iI s1016 43 := fm_i Fs1017 (by decide)
          have ws1017_44 : iI s1017 44 = iI s1016 44 := fm_i Fs1017 (by decide)
          show WS k 109 [(0, .ref (A 143)), (1, .long av), (3, .long bv), (6, .int (Int32.ofInt c))] [] (Wd A dT s1017) 0 0
          refine z_aload_n X (x := A 143) (show cdA 1 109 = some (.aload_n 0, 1, 0, 0, 0) from rfl) (List.Mem.head _) ?_
          refine w_dup X.1 (ax_d X (show cdA 1 110 = some (.dup, 1, 0, 0, 0) from rfl)) rfl ?_
          refine z_getI X 143 (show cdA 1 111 = some (.getfield 57, 3, 0, 2, 0) from rfl) (by decide) rfl rfl ?_
          have b1019 : (0 : Int) ≤ iI s1017 61 ∧ iI s1017 61 ≤ 12 := Is1017.1 61
          refine z_const X (show cdA 1 114 = some (.iconst 1, 1, 0, 0, 0) from rfl) ?_
          refine z_add X (show cdA 1 115 = some (.iadd, 1, 0, 0, 0) from rfl) ?_
          refine s_putI X 143 (show cdA 1 116 = some (.putfield 57, 3, 0, 2, 0) from rfl) (by decide) rfl rfl (by decide) rfl rfl rfl ?_
          obtain ⟨s1020, hs1020⟩ : ∃ x0, x0 = uI s1017 61 (Int32.ofInt ((iI s1017 61) + 1)) := ⟨_, rfl⟩
          rw [← hs1020]
          have Is1020 : Bd s1020 := by rw [hs1020]; exact bd_I Is1017 (show (0 : Int) ≤ ((iI s1017 61) + 1) ∧ ((iI s1017 61) + 1) ≤ 12 by first | exact ⟨oq_54f49eb5 b1019.1, oq_1fea0193 ws1017_61 ws1016_61 hi.2.2 g1006 b1005.2⟩ | omega) ⟨by first | exact oq_74de1e16 b1019.1 | omega, by first | exact oq_76a8a5b7 b1019.2 | omega⟩
          have Fs1020 := fm_I (x := Int32.ofInt ((iI s1017 61) + 1)) Gs1017 (show 61 ∈ _ by decide)
          rw [← hs1020] at Fs1020
          have vs1020 : iI s1020 61 = ((iI s1017 61) + 1) := by rw [hs1020]; exact iI_u ⟨by first | exact oq_74de1e16 b1019.1 | omega, by first | exact oq_76a8a5b7 b1019.2 | omega⟩
          have ws1020_62 : iI s1020 62 = iI s1017 62 := by rw [hs1020]; rfl
          have ws1020_43 : iI s1020 43 = iI s1017 43 := by rw [hs1020]; rfl
          have ws1020_44 : iI s1020 44 = iI s1017 44 := by rw [hs1020]; rfl
          refine z_inc X (x := c) (lv' := [(6, .int (Int32.ofInt (c + 1))), (0, .ref (A 143)), (1, .long av), (3, .long bv)]) (show cdA 1 119 = some (.iinc 6 1, 3, 0, 0, 0) from rfl) (by decide) (List.Mem.tail _ (List.Mem.tail _ (List.Mem.tail _ (List.Mem.head _)))) (fun _ h => h) ?_
          refine z_goto X (t := 42) (show cdA 1 122 = some (.goto (-80), 3, 0, 0, 0) from rfl) (by decide) ?_
          refine WS_lv (lv := [(0, .ref (A 143)), (1, .long av), (3, .long bv), (6, .int (Int32.ofInt (c + 1)))]) (List.forall_mem_cons.mpr ⟨(List.Mem.tail _ (List.Mem.head _)), (List.forall_mem_cons.mpr ⟨(List.Mem.tail _ (List.Mem.tail _ (List.Mem.head _))), (List.forall_mem_cons.mpr ⟨(List.Mem.tail _ (List.Mem.tail _ (List.Mem.tail _ (List.Mem.head _)))), (List.forall_mem_cons.mpr ⟨(List.Mem.head _), (fun q h => absurd h List.not_mem_nil)⟩)⟩)⟩)⟩) ?_
          exact ih _ av bv (c + 1) Is1020 Fs1020 (by first | exact ⟨oq_54f49eb5 hi.1, oq_4dae995e g1006 b1005.2, oq_ecb13324 vs1020 hi.2.2 ws1017_61 ws1016_61⟩ | omega) (by first | exact qk_me hm (by decide) (oq_b575e8c1 g1006 b1005.2) | omega) kx
  have L133 : ∀ (n : Nat) (t : PS) (av : Int64) (bv : Int64) (c : Int), Bd t → Fm [61, 62] [132, 125, 126, 127, 128, 129, 130, 131] s t → (0 ≤ c ∧ c ≤ 66 ∧ iI t 62 ≤ c) → (66 - c : Int).toNat < n → (∀ (t' : PS) (c' : Int), Bd t' → Fm [61, 62] [132, 125, 126, 127, 128, 129, 130, 131] s t' → (0 ≤ c' ∧ c' ≤ 66 ∧ iI t' 62 ≤ c') → WS k 260 [(0, .ref (A 143)), (1, .long av), (3, .long bv), (6, .int (Int32.ofInt c'))] [] (Wd A dT t') 0 0) → WS k 133 [(0, .ref (A 143)), (1, .long av), (3, .long bv), (6, .int (Int32.ofInt c))] [] (Wd A dT t) 0 0 := by
    intro n
    induction n with
    | zero =>
      intro t av bv c I F hi hm kx
      exact absurd hm (Nat.not_lt_zero _)
    | succ n ih =>
      intro t av bv c I F hi hm kx
      have b2001 : (0 : Int) ≤ iI t 61 ∧ iI t 61 ≤ 12 := I.1 61
      have b2002 : (0 : Int) ≤ iI t 62 ∧ iI t 62 ≤ 66 := I.1 62
      have b2003 : (0 : Int) ≤ iI t 43 ∧ iI t 43 ≤ 12 := I.1 43
      have b2004 : (0 : Int) ≤ iI t 44 ∧ iI t 44 ≤ 66 := I.1 44
      refine z_load X (x := c) (show cdA 1 133 = some (.iload 6, 2, 0, 0, 0) from rfl) (List.Mem.tail _ (List.Mem.tail _ (List.Mem.tail _ (List.Mem.head _)))) ?_
      refine z_aload_n X (x := A 143) (show cdA 1 135 = some (.aload_n 0, 1, 0, 0, 0) from rfl) (List.Mem.head _) ?_
      refine s_getR X 143 (show cdA 1 136 = some (.getfield 43, 3, 0, 0, 0) from rfl) (by decide) rfl rfl ?_
      refine z_getI X 68 (show cdA 1 139 = some (.getfield 75, 3, 9, 8, 0) from rfl) (by decide) rfl rfl ?_
      have b2005 : (0 : Int) ≤ iI t 44 ∧ iI t 44 ≤ 66 := I.1 44
      refine z_icmp_ge X (t := 260) (show cdA 1 142 = some (.if_icmp .ge 118, 3, 3, 0, 0) from rfl) (by decide) ⟨by first | exact oq_fa4e5087 hi.1 | omega, by first | exact oq_64f2e926 hi.2.1 | omega⟩ (rng_to _) (fun g2006 => ?_) (fun g2006 => ?_)
      ·
        refine WS_lv (lv := [(0, .ref (A 143)), (1, .long av), (3, .long bv), (6, .int (Int32.ofInt c))]) (List.forall_mem_cons.mpr ⟨(List.Mem.head _), (List.forall_mem_cons.mpr ⟨(List.Mem.tail _ (List.Mem.head _)), (List.forall_mem_cons.mpr ⟨(List.Mem.tail _ (List.Mem.tail _ (List.Mem.head _))), (List.forall_mem_cons.mpr ⟨(List.Mem.tail _ (List.Mem.tail _ (List.Mem.tail _ (List.Mem.head _)))), (fun q h => absurd h List.not_mem_nil)⟩)⟩)⟩)⟩) ?_
        exact kx _ c I F (by first | exact ⟨hi.1, hi.2.1, hi.2.2⟩ | omega)
      ·
        refine z_aload_n X (x := A 143) (show cdA 1 145 = some (.aload_n 0, 1, 0, 0, 0) from rfl) (List.Mem.head _) ?_
        refine s_getR X 143 (show cdA 1 146 = some (.getfield 43, 3, 0, 0, 0) from rfl) (by decide) rfl rfl ?_
        refine s_getR X 68 (show cdA 1 149 = some (.getfield 78, 3, 9, 7, 0) from rfl) (by decide) rfl rfl ?_
        refine z_load X (x := c) (show cdA 1 152 = some (.iload 6, 2, 0, 0, 0) from rfl) (List.Mem.tail _ (List.Mem.tail _ (List.Mem.tail _ (List.Mem.head _)))) ?_
        refine z_const X (show cdA 1 154 = some (.iconst 2, 1, 0, 0, 0) from rfl) ?_
        refine z_mul X (show cdA 1 155 = some (.imul, 1, 0, 0, 0) from rfl) ?_
        refine z_lald X 75 (show cdA 1 156 = some (.laload, 1, 0, 0, 0) from rfl) (by decide) rfl (by first | exact oq_cfc6ac54 hi.1 | omega) (show (c * 2) < 132 by first | exact oq_ff78435a g2006 b2005.2 | omega) (by decide) (fun j2007 => ?_)
        refine w_lload_n X.1 (ax_d X (show cdA 1 157 = some (.lload_n 1, 1, 0, 0, 0) from rfl)) (x := av) (List.Mem.tail _ (List.Mem.head _)) ?_
        refine w_land X.1 (ax_d X (show cdA 1 158 = some (.land, 1, 0, 0, 0) from rfl)) ?_
        refine z_anyJ (fun j2008 => ?_)
        refine z_callS X (rm := rmN 298) (As := [.long j2008]) (st := []) (show cdA 1 159 = some (.invokestatic 51, 3, 298, 1, 0) from rfl) rfl (by rw [E.1, E.2.1, E.2.2.1]; exact j_bitL G I ) ⟨by rw [E.2.2.2]; exact (show (rmN 298).frames + 1 ≤ (rmN 1).frames by decide), by rw [E.2.2.2]; exact (show 8 + (mNL (miB 298) + 11) + (rmN 298).locals ≤ (rmN 1).locals by decide), by rw [E.2.2.2]; exact (show 0 + (rmN 298).cells ≤ (rmN 1).cells by decide), by rw [E.2.2.2]; exact (show 0 + (rmN 298).slots ≤ (rmN 1).slots by decide)⟩ (Nat.le_of_ble_eq_true rfl) (fun vv s2009 hq => ?_) (fun ee s2009 hq => ?_)
        rotate_left
        · obtain ⟨Is2009, Fs2009, e2010, hv, hrs2009, hps2009⟩ := hq; cases hv
        obtain ⟨Is2009, Fs2009, e2010, hv, hrs2009, hps2009⟩ := hq
        cases hv
        have Gs2009 := fm_ts F Fs2009 (by decide) (by decide)
        have ws2009_61 : iI s2009 61 = iI t 61 := fm_i Fs2009 (by decide)
        have ws2009_62 : iI s2009 62 = iI t 62 := fm_i Fs2009 (by decide)
        have ws2009_43 : iI s2009 43 = iI t 43 := fm_i Fs2009 (by decide)
        have ws2009_44 : iI s2009 44 = iI t 44 := fm_i Fs2009 (by decide)
        show WS k 162 [(0, .ref (A 143)), (1, .long av), (3, .long bv), (6, .int (Int32.ofInt c))] [.int (Int32.ofInt e2010)] (Wd A dT s2009) 0 0
        refine z_aload_n X (x := A 143) (show cdA 1 162 = some (.aload_n 0, 1, 0, 0, 0) from rfl) (List.Mem.head _) ?_
        refine s_getR X 143 (show cdA 1 163 = some (.getfield 43, 3, 0, 0, 0) from rfl) (by decide) rfl rfl ?_
        refine s_getR X 68 (show cdA 1 166 = some (.getfield 78, 3, 9, 7, 0) from rfl) (by decide) rfl rfl ?_
        refine z_load X (x := c) (show cdA 1 169 = some (.iload 6, 2, 0, 0, 0) from rfl) (List.Mem.tail _ (List.Mem.tail _ (List.Mem.tail _ (List.Mem.head _)))) ?_
        refine z_const X (show cdA 1 171 = some (.iconst 2, 1, 0, 0, 0) from rfl) ?_
        refine z_mul X (show cdA 1 172 = some (.imul, 1, 0, 0, 0) from rfl) ?_
        refine z_const X (show cdA 1 173 = some (.iconst 1, 1, 0, 0, 0) from rfl) ?_
        refine z_add X (show cdA 1 174 = some (.iadd, 1, 0, 0, 0) from rfl) ?_
        refine z_lald X 75 (show cdA 1 175 = some (.laload, 1, 0, 0, 0) from rfl) (by decide) rfl (by first | exact oq_8a3e0277 hi.1 | omega) (show ((c * 2) + 1) < 132 by first | exact oq_643e2065 g2006 b2005.2 | omega) (by decide) (fun j2011 => ?_)
        refine w_lload_n X.1 (ax_d X (show cdA 1 176 = some (.lload_n 3, 1, 0, 0, 0) from rfl)) (x := bv) (List.Mem.tail _ (List.Mem.tail _ (List.Mem.head _))) ?_
        refine w_land X.1 (ax_d X (show cdA 1 177 = some (.land, 1, 0, 0, 0) from rfl)) ?_
        refine z_anyJ (fun j2012 => ?_)
        refine z_callS X (rm := rmN 298) (As := [.long j2012]) (st := [.int (Int32.ofInt e2010)]) (show cdA 1 178 = some (.invokestatic 51, 3, 298, 1, 0) from rfl) rfl (by rw [E.1, E.2.1, E.2.2.1]; exact j_bitL G Is2009 ) ⟨by rw [E.2.2.2]; exact (show (rmN 298).frames + 1 ≤ (rmN 1).frames by decide), by rw [E.2.2.2]; exact (show 8 + (mNL (miB 298) + 11) + (rmN 298).locals ≤ (rmN 1).locals by decide), by rw [E.2.2.2]; exact (show 0 + (rmN 298).cells ≤ (rmN 1).cells by decide), by rw [E.2.2.2]; exact (show 0 + (rmN 298).slots ≤ (rmN 1).slots by decide)⟩ (Nat.le_of_ble_eq_true rfl) (fun vv s2013 hq => ?_) (fun ee s2013 hq => ?_)
        rotate_left
        · obtain ⟨Is2013, Fs2013, e2014, hv, hrs2013, hps2013⟩ := hq; cases hv
        obtain ⟨Is2013, Fs2013, e2014, hv, hrs2013, hps2013⟩ := hq
        cases hv
        have Gs2013 := fm_ts Gs2009 Fs2013 (by decide) (by decide)
        have ws2013_61 : iI s2013 61 = iI s2009 61 := fm_i Fs2013 (by decide)
        have ws2013_62 : iI s2013 62 = iI s2009 62 := fm_i Fs2013 (by decide)
        have ws2013_43 : iI s2013 43 = iI s2009 43 := fm_i Fs2013 (by decide)
        have ws2013_44 : iI s2013 44 = iI s2009 44 := fm_i Fs2013 (by decide)
        show WS k 181 [(0, .ref (A 143)), (1, .long av), (3, .long bv), (6, .int (Int32.ofInt c))] [.int (Int32.ofInt e2014), .int (Int32.ofInt e2010)] (Wd A dT s2013) 0 0
        refine z_add X (show cdA 1 181 = some (.iadd, 1, 0, 0, 0) from rfl) ?_
        refine z_any (fun y2015 hy2015 => ?_)
        refine z_store X (lv' := [(7, .int (Int32.ofInt y2015)), (0, .ref (A 143)), (1, .long av), (3, .long bv), (6, .int (Int32.ofInt c))]) (show cdA 1 182 = some (.istore 7, 2, 0, 0, 0) from rfl) (by decide) (fun _ h => h) ?_
        refine z_load X (x := y2015) (show cdA 1 184 = some (.iload 7, 2, 0, 0, 0) from rfl) (List.Mem.head _) ?_
        refine z_if_le X (t := 254) (show cdA 1 186 = some (.ifCond .le 68, 3, 5, 0, 0) from rfl) (by decide) hy2015 (fun g2016 => ?_) (fun g2016 => ?_)
        ·
          refine z_inc X (x := c) (lv' := [(6, .int (Int32.ofInt (c + 1))), (7, .int (Int32.ofInt y2015)), (0, .ref (A 143)), (1, .long av), (3, .long bv)]) (show cdA 1 254 = some (.iinc 6 1, 3, 0, 0, 0) from rfl) (by decide) (List.Mem.tail _ (List.Mem.tail _ (List.Mem.tail _ (List.Mem.tail _ (List.Mem.head _))))) (fun _ h => h) ?_
          refine z_goto X (t := 133) (show cdA 1 257 = some (.goto (-124), 3, 0, 0, 0) from rfl) (by decide) ?_
          refine WS_lv (lv := [(0, .ref (A 143)), (1, .long av), (3, .long bv), (6, .int (Int32.ofInt (c + 1)))]) (List.forall_mem_cons.mpr ⟨(List.Mem.tail _ (List.Mem.tail _ (List.Mem.head _))), (List.forall_mem_cons.mpr ⟨(List.Mem.tail _ (List.Mem.tail _ (List.Mem.tail _ (List.Mem.head _)))), (List.forall_mem_cons.mpr ⟨(List.Mem.tail _ (List.Mem.tail _ (List.Mem.tail _ (List.Mem.tail _ (List.Mem.head _))))), (List.forall_mem_cons.mpr ⟨(List.Mem.head _), (fun q h => absurd h List.not_mem_nil)⟩)⟩)⟩)⟩) ?_
          exact ih _ av bv (c + 1) Is2013 Gs2013 (by first | exact ⟨oq_54f49eb5 hi.1, oq_319a18a4 g2006 b2005.2, oq_2e1f687c ws2013_62 hi.2.2 ws2009_62⟩ | omega) (by first | exact qk_me hm (by decide) (oq_dd0e9829 g2006 b2005.2) | omega) kx
        ·
          refine z_aload_n X (x := A 143) (show cdA 1 189 = some (.aload_n 0, 1, 0, 0, 0) from rfl) (List.Mem.tail _ (List.Mem.head _)) ?_
          refine s_getR X 143 (show cdA 1 190 = some (.getfield 26, 3, 0, 8, 0) from rfl) (by decide) rfl rfl ?_
          refine z_aload_n X (x := A 143) (show cdA 1 193 = some (.aload_n 0, 1, 0, 0, 0) from rfl) (List.Mem.tail _ (List.Mem.head _)) ?_
          refine z_getI X 143 (show cdA 1 194 = some (.getfield 72, 3, 0, 7, 0) from rfl) (by decide) rfl rfl ?_
          have b2017 : (0 : Int) ≤ iI s2013 62 ∧ iI s2013 62 ≤ 66 := Is2013.1 62
          refine z_aload_n X (x := A 143) (show cdA 1 197 = some (.aload_n 0, 1, 0, 0, 0) from rfl) (List.Mem.tail _ (List.Mem.head _)) ?_
          refine s_getR X 143 (show cdA 1 198 = some (.getfield 43, 3, 0, 0, 0) from rfl) (by decide) rfl rfl ?_
          refine s_getR X 68 (show cdA 1 201 = some (.getfield 81, 3, 9, 6, 0) from rfl) (by decide) rfl rfl ?_
          refine z_load X (x := c) (show cdA 1 204 = some (.iload 6, 2, 0, 0, 0) from rfl) (List.Mem.tail _ (List.Mem.tail _ (List.Mem.tail _ (List.Mem.tail _ (List.Mem.head _))))) ?_
          refine z_ald X 74 (show cdA 1 206 = some (.iaload, 1, 0, 0, 0) from rfl) (by decide) rfl (by first | exact hi.1 | omega) (show c < 66 by first | exact oq_256e4529 g2006 b2005.2 | omega) (by decide) ?_
          have b2018 : (0 : Int) ≤ iC s2013 62 (c).toNat ∧ iC s2013 62 (c).toNat ≤ 143 := Is2013.2 62 _ (show (c).toNat < 66 by first | exact oq_d7ff7873 g2006 b2005.2 | omega)
          refine z_bipush X (show cdA 1 207 = some (.bipush 12, 2, 0, 0, 12) from rfl) ?_
          refine z_quot X (show cdA 1 209 = some (.idiv, 1, 0, 0, 0) from rfl) (by first | exact b2018.1 | omega) (rng_to _) (by decide) (by decide) ?_
          refine z_ast X 148 (show cdA 1 210 = some (.iastore, 1, 0, 0, 0) from rfl) (by decide) rfl (by first | exact b2017.1 | omega) (show (iI s2013 62) < 66 by first | exact oq_141bb310 ws2013_62 ws2009_62 hi.2.2 g2006 b2005.2 | omega) (by decide) ?_
          obtain ⟨s2019, hs2019⟩ : ∃ x0, x0 = uC s2013 129 ((iI s2013 62)).toNat (Int32.ofInt ((iC s2013 62 (c).toNat) / 12)) := ⟨_, rfl⟩
          rw [← hs2019]
          have Is2019 : Bd s2019 := by rw [hs2019]; exact bd_C Is2013 (show (0 : Int) ≤ ((iC s2013 62 (c).toNat) / 12) ∧ ((iC s2013 62 (c).toNat) / 12) ≤ 11 by first | exact ⟨oq_37eb78e0 b2018.1, oq_a03fe580 b2018.2⟩ | omega) ⟨by first | exact oq_e17ab641 b2018.1 | omega, by first | exact oq_c285d9d6 b2018.2 | omega⟩
          have Fs2019 := fm_C (i := ((iI s2013 62)).toNat) (x := Int32.ofInt ((iC s2013 62 (c).toNat) / 12)) Gs2013 (show 129 ∈ _ by decide)
          rw [← hs2019] at Fs2019
          have ws2019_61 : iI s2019 61 = iI s2013 61 := by rw [hs2019]; rfl
          have ws2019_62 : iI s2019 62 = iI s2013 62 := by rw [hs2019]; rfl
          have ws2019_43 : iI s2019 43 = iI s2013 43 := by rw [hs2019]; rfl
          have ws2019_44 : iI s2019 44 = iI s2013 44 := by rw [hs2019]; rfl
          refine z_aload_n X (x := A 143) (show cdA 1 211 = some (.aload_n 0, 1, 0, 0, 0) from rfl) (List.Mem.tail _ (List.Mem.head _)) ?_
          refine s_getR X 143 (show cdA 1 212 = some (.getfield 29, 3, 0, 9, 0) from rfl) (by decide) rfl rfl ?_
          refine z_aload_n X (x := A 143) (show cdA 1 215 = some (.aload_n 0, 1, 0, 0, 0) from rfl) (List.Mem.tail _ (List.Mem.head _)) ?_
          refine z_getI X 143 (show cdA 1 216 = some (.getfield 72, 3, 0, 7, 0) from rfl) (by decide) rfl rfl ?_
          have b2020 : (0 : Int) ≤ iI s2019 62 ∧ iI s2019 62 ≤ 66 := Is2019.1 62
          refine z_aload_n X (x := A 143) (show cdA 1 219 = some (.aload_n 0, 1, 0, 0, 0) from rfl) (List.Mem.tail _ (List.Mem.head _)) ?_
          refine s_getR X 143 (show cdA 1 220 = some (.getfield 43, 3, 0, 0, 0) from rfl) (by decide) rfl rfl ?_
          refine s_getR X 68 (show cdA 1 223 = some (.getfield 81, 3, 9, 6, 0) from rfl) (by decide) rfl rfl ?_
          refine z_load X (x := c) (show cdA 1 226 = some (.iload 6, 2, 0, 0, 0) from rfl) (List.Mem.tail _ (List.Mem.tail _ (List.Mem.tail _ (List.Mem.tail _ (List.Mem.head _))))) ?_
          refine z_ald X 74 (show cdA 1 228 = some (.iaload, 1, 0, 0, 0) from rfl) (by decide) rfl (by first | exact hi.1 | omega) (show c < 66 by first | exact oq_256e4529 g2006 b2005.2 | omega) (by decide) ?_
          have b2021 : (0 : Int) ≤ iC s2019 62 (c).toNat ∧ iC s2019 62 (c).toNat ≤ 143 := Is2019.2 62 _ (show (c).toNat < 66 by first | exact oq_d7ff7873 g2006 b2005.2 | omega)
          refine z_bipush X (show cdA 1 229 = some (.bipush 12, 2, 0, 0, 12) from rfl) ?_
          refine z_mod X (show cdA 1 231 = some (.irem, 1, 0, 0, 0) from rfl) (by first | exact b2021.1 | omega) (rng_to _) (by decide) (by decide) ?_
          refine z_ast X 149 (show cdA 1 232 = some (.iastore, 1, 0, 0, 0) from rfl) (by decide) rfl (by first | exact b2020.1 | omega) (show (iI s2019 62) < 66 by first | exact oq_47fd6e20 ws2019_62 ws2013_62 ws2009_62 g2006 b2005.2 hi.2.2 | omega) (by decide) ?_
          obtain ⟨s2022, hs2022⟩ : ∃ x0, x0 = uC s2019 130 ((iI s2019 62)).toNat (Int32.ofInt ((iC s2019 62 (c).toNat) % 12)) := ⟨_, rfl⟩
          rw [← hs2022]
          have Is2022 : Bd s2022 := by rw [hs2022]; exact bd_C Is2019 (show (0 : Int) ≤ ((iC s2019 62 (c).toNat) % 12) ∧ ((iC s2019 62 (c).toNat) % 12) ≤ 11 by first | exact ⟨oq_b83041cc, oq_e286272e⟩ | omega) ⟨by first | exact oq_9d26ea27 | omega, by first | exact oq_6634e3d0 | omega⟩
          have Fs2022 := fm_C (i := ((iI s2019 62)).toNat) (x := Int32.ofInt ((iC s2019 62 (c).toNat) % 12)) Fs2019 (show 130 ∈ _ by decide)
          rw [← hs2022] at Fs2022
          have ws2022_61 : iI s2022 61 = iI s2019 61 := by rw [hs2022]; rfl
          have ws2022_62 : iI s2022 62 = iI s2019 62 := by rw [hs2022]; rfl
          have ws2022_43 : iI s2022 43 = iI s2019 43 := by rw [hs2022]; rfl
          have ws2022_44 : iI s2022 44 = iI s2019 44 := by rw [hs2022]; rfl
          refine z_aload_n X (x := A 143) (show cdA 1 233 = some (.aload_n 0, 1, 0, 0, 0) from rfl) (List.Mem.tail _ (List.Mem.head _)) ?_
          refine s_getR X 143 (show cdA 1 234 = some (.getfield 32, 3, 0, 10, 0) from rfl) (by decide) rfl rfl ?_
          refine z_aload_n X (x := A 143) (show cdA 1 237 = some (.aload_n 0, 1, 0, 0, 0) from rfl) (List.Mem.tail _ (List.Mem.head _)) ?_
          refine z_getI X 143 (show cdA 1 238 = some (.getfield 72, 3, 0, 7, 0) from rfl) (by decide) rfl rfl ?_
          have b2023 : (0 : Int) ≤ iI s2022 62 ∧ iI s2022 62 ≤ 66 := Is2022.1 62
          refine z_load X (x := y2015) (show cdA 1 241 = some (.iload 7, 2, 0, 0, 0) from rfl) (List.Mem.head _) ?_
          refine z_ast X 150 (show cdA 1 243 = some (.iastore, 1, 0, 0, 0) from rfl) (by decide) rfl (by first | exact b2023.1 | omega) (show (iI s2022 62) < 66 by first | exact oq_3af0036b ws2022_62 ws2019_62 ws2013_62 ws2009_62 g2006 b2005.2 hi.2.2 | omega) (by decide) ?_
          obtain ⟨s2024, hs2024⟩ : ∃ x0, x0 = uC s2022 131 ((iI s2022 62)).toNat (Int32.ofInt y2015) := ⟨_, rfl⟩
          rw [← hs2024]
          have Is2024 : Bd s2024 := by rw [hs2024]; exact bd_C Is2022 (show ((-2147483648) : Int) ≤ y2015 ∧ y2015 ≤ 2147483647 by first | exact ⟨hy2015.1, hy2015.2⟩ | omega) hy2015
          have Fs2024 := fm_C (i := ((iI s2022 62)).toNat) (x := Int32.ofInt y2015) Fs2022 (show 131 ∈ _ by decide)
          rw [← hs2024] at Fs2024
          have ws2024_61 : iI s2024 61 = iI s2022 61 := by rw [hs2024]; rfl
          have ws2024_62 : iI s2024 62 = iI s2022 62 := by rw [hs2024]; rfl
          have ws2024_43 : iI s2024 43 = iI s2022 43 := by rw [hs2024]; rfl
          have ws2024_44 : iI s2024 44 = iI s2022 44 := by rw [hs2024]; rfl
          refine z_aload_n X (x := A 143) (show cdA 1 244 = some (.aload_n 0, 1, 0, 0, 0) from rfl) (List.Mem.tail _ (List.Mem.head _)) ?_
          refine w_dup X.1 (ax_d X (show cdA 1 245 = some (.dup, 1, 0, 0, 0) from rfl)) rfl ?_
          refine z_getI X 143 (show cdA 1 246 = some (.getfield 72, 3, 0, 7, 0) from rfl) (by decide) rfl rfl ?_
          have b2025 : (0 : Int) ≤ iI s2024 62 ∧ iI s2024 62 ≤ 66 := Is2024.1 62
          refine z_const X (show cdA 1 249 = some (.iconst 1, 1, 0, 0, 0) from rfl) ?_
          refine z_add X (show cdA 1 250 = some (.iadd, 1, 0, 0, 0) from rfl) ?_
          refine s_putI X 143 (show cdA 1 251 = some (.putfield 72, 3, 0, 7, 0) from rfl) (by decide) rfl rfl (by decide) rfl rfl rfl ?_
          obtain ⟨s2026, hs2026⟩ : ∃ x0, x0 = uI s2024 62 (Int32.ofInt ((iI s2024 62) + 1)) := ⟨_, rfl⟩
          rw [← hs2026]
          have Is2026 : Bd s2026 := by rw [hs2026]; exact bd_I Is2024 (show (0 : Int) ≤ ((iI s2024 62) + 1) ∧ ((iI s2024 62) + 1) ≤ 66 by first | exact ⟨oq_54f49eb5 b2025.1, oq_d0eb7b2e ws2024_62 ws2022_62 ws2019_62 ws2013_62 ws2009_62 g2006 b2005.2 hi.2.2⟩ | omega) ⟨by first | exact oq_74de1e16 b2025.1 | omega, by first | exact oq_d99c2177 b2025.2 | omega⟩
          have Fs2026 := fm_I (x := Int32.ofInt ((iI s2024 62) + 1)) Fs2024 (show 62 ∈ _ by decide)
          rw [← hs2026] at Fs2026
          have vs2026 : iI s2026 62 = ((iI s2024 62) + 1) := by rw [hs2026]; exact iI_u ⟨by first | exact oq_74de1e16 b2025.1 | omega, by first | exact oq_d99c2177 b2025.2 | omega⟩
          have ws2026_61 : iI s2026 61 = iI s2024 61 := by rw [hs2026]; rfl
          have ws2026_43 : iI s2026 43 = iI s2024 43 := by rw [hs2026]; rfl
          have ws2026_44 : iI s2026 44 = iI s2024 44 := by rw [hs2026]; rfl
          refine z_inc X (x := c) (lv' := [(6, .int (Int32.ofInt (c + 1))), (7, .int (Int32.ofInt y2015)), (0, .ref (A 143)), (1, .long av), (3, .long bv)]) (show cdA 1 254 = some (.iinc 6 1, 3, 0, 0, 0) from rfl) (by decide) (List.Mem.tail _ (List.Mem.tail _ (List.Mem.tail _ (List.Mem.tail _ (List.Mem.head _))))) (fun _ h => h) ?_
          refine z_goto X (t := 133) (show cdA 1 257 = some (.goto (-124), 3, 0, 0, 0) from rfl) (by decide) ?_
          refine WS_lv (lv := [(0, .ref (A 143)), (1, .long av), (3, .long bv), (6, .int (Int32.ofInt (c + 1)))]) (List.forall_mem_cons.mpr ⟨(List.Mem.tail _ (List.Mem.tail _ (List.Mem.head _))), (List.forall_mem_cons.mpr ⟨(List.Mem.tail _ (List.Mem.tail _ (List.Mem.tail _ (List.Mem.head _)))), (List.forall_mem_cons.mpr ⟨(List.Mem.tail _ (List.Mem.tail _ (List.Mem.tail _ (List.Mem.tail _ (List.Mem.head _))))), (List.forall_mem_cons.mpr ⟨(List.Mem.head _), (fun q h => absurd h List.not_mem_nil)⟩)⟩)⟩)⟩) ?_
          exact ih _ av bv (c + 1) Is2026 Fs2026 (by first | exact ⟨oq_54f49eb5 hi.1, oq_319a18a4 g2006 b2005.2, oq_6fc60775 vs2026 ws2024_62 ws2022_62 ws2019_62 ws2013_62 ws2009_62 hi.2.2⟩ | omega) (by first | exact qk_me hm (by decide) (oq_dd0e9829 g2006 b2005.2) | omega) kx
  refine z_aload_n X (x := A 143) (show cdA 1 0 = some (.aload_n 0, 1, 0, 0, 0) from rfl) (List.Mem.head _) ?_
  refine s_getR X 143 (show cdA 1 1 = some (.getfield 37, 3, 0, 11, 0) from rfl) (by decide) rfl rfl ?_
  refine z_const X (show cdA 1 4 = some (.iconst 4, 1, 0, 0, 0) from rfl) ?_
  refine w_lload_n X.1 (ax_d X (show cdA 1 5 = some (.lload_n 1, 1, 0, 0, 0) from rfl)) (x := aj) (List.Mem.tail _ (List.Mem.head _)) ?_
  refine z_callS X (rm := rmN 298) (As := [.long aj]) (st := [.int (Int32.ofInt 4), .ref (A 151)]) (show cdA 1 6 = some (.invokestatic 51, 3, 298, 1, 0) from rfl) rfl (by rw [E.1, E.2.1, E.2.2.1]; exact j_bitL G I ) ⟨by rw [E.2.2.2]; exact (show (rmN 298).frames + 1 ≤ (rmN 1).frames by decide), by rw [E.2.2.2]; exact (show 8 + (mNL (miB 298) + 11) + (rmN 298).locals ≤ (rmN 1).locals by decide), by rw [E.2.2.2]; exact (show 0 + (rmN 298).cells ≤ (rmN 1).cells by decide), by rw [E.2.2.2]; exact (show 0 + (rmN 298).slots ≤ (rmN 1).slots by decide)⟩ (Nat.le_of_ble_eq_true rfl) (fun vv s5 hq => ?_) (fun ee s5 hq => ?_)
  rotate_left
  · obtain ⟨Is5, Fs5, e6, hv, hrs5, hps5⟩ := hq; cases hv
  obtain ⟨Is5, Fs5, e6, hv, hrs5, hps5⟩ := hq
  cases hv
  have Gs5 := fm_ts F Fs5 (by decide) (by decide)
  have ws5_61 : iI s5 61 = iI s 61 := fm_i Fs5 (by decide)
  have ws5_62 : iI s5 62 = iI s 62 := fm_i Fs5 (by decide)
  have ws5_43 : iI s5 43 = iI s 43 := fm_i Fs5 (by decide)
  have ws5_44 : iI s5 44 = iI s 44 := fm_i Fs5 (by decide)
  show WS k 9 [(0, .ref (A 143)), (1, .long aj), (3, .long bj), (5, .int (Int32.ofInt x))] [.int (Int32.ofInt e6), .int (Int32.ofInt 4), .ref (A 151)] (Wd A dT s5) 0 0
  refine w_lload_n X.1 (ax_d X (show cdA 1 9 = some (.lload_n 3, 1, 0, 0, 0) from rfl)) (x := bj) (List.Mem.tail _ (List.Mem.tail _ (List.Mem.head _))) ?_
  refine z_callS X (rm := rmN 298) (As := [.long bj]) (st := [.int (Int32.ofInt e6), .int (Int32.ofInt 4), .ref (A 151)]) (show cdA 1 10 = some (.invokestatic 51, 3, 298, 1, 0) from rfl) rfl (by rw [E.1, E.2.1, E.2.2.1]; exact j_bitL G Is5 ) ⟨by rw [E.2.2.2]; exact (show (rmN 298).frames + 1 ≤ (rmN 1).frames by decide), by rw [E.2.2.2]; exact (show 8 + (mNL (miB 298) + 11) + (rmN 298).locals ≤ (rmN 1).locals by decide), by rw [E.2.2.2]; exact (show 0 + (rmN 298).cells ≤ (rmN 1).cells by decide), by rw [E.2.2.2]; exact (show 0 + (rmN 298).slots ≤ (rmN 1).slots by decide)⟩ (Nat.le_of_ble_eq_true rfl) (fun vv s7 hq => ?_) (fun ee s7 hq => ?_)
  rotate_left
  · obtain ⟨Is7, Fs7, e8, hv, hrs7, hps7⟩ := hq; cases hv
  obtain ⟨Is7, Fs7, e8, hv, hrs7, hps7⟩ := hq
  cases hv
  have Gs7 := fm_ts Gs5 Fs7 (by decide) (by decide)
  have ws7_61 : iI s7 61 = iI s5 61 := fm_i Fs7 (by decide)
  have ws7_62 : iI s7 62 = iI s5 62 := fm_i Fs7 (by decide)
  have ws7_43 : iI s7 43 = iI s5 43 := fm_i Fs7 (by decide)
  have ws7_44 : iI s7 44 = iI s5 44 := fm_i Fs7 (by decide)
  show WS k 13 [(0, .ref (A 143)), (1, .long aj), (3, .long bj), (5, .int (Int32.ofInt x))] [.int (Int32.ofInt e8), .int (Int32.ofInt e6), .int (Int32.ofInt 4), .ref (A 151)] (Wd A dT s7) 0 0
  refine z_add X (show cdA 1 13 = some (.iadd, 1, 0, 0, 0) from rfl) ?_
  refine z_any (fun y9 hy9 => ?_)
  refine z_ast X 151 (show cdA 1 14 = some (.iastore, 1, 0, 0, 0) from rfl) (by decide) rfl (by decide) (show 4 < 7 by decide) (by decide) ?_
  obtain ⟨s10, hs10⟩ : ∃ x0, x0 = uC s7 132 (4 : Int).toNat (Int32.ofInt y9) := ⟨_, rfl⟩
  rw [← hs10]
  have Is10 : Bd s10 := by rw [hs10]; exact bd_C Is7 (show ((-2147483648) : Int) ≤ y9 ∧ y9 ≤ 2147483647 by first | exact ⟨hy9.1, hy9.2⟩ | omega) hy9
  have Fs10 := fm_C (i := (4 : Int).toNat) (x := Int32.ofInt y9) Gs7 (show 132 ∈ _ by decide)
  rw [← hs10] at Fs10
  have ws10_61 : iI s10 61 = iI s7 61 := by rw [hs10]; rfl
  have ws10_62 : iI s10 62 = iI s7 62 := by rw [hs10]; rfl
  have ws10_43 : iI s10 43 = iI s7 43 := by rw [hs10]; rfl
  have ws10_44 : iI s10 44 = iI s7 44 := by rw [hs10]; rfl
  refine z_aload_n X (x := A 143) (show cdA 1 15 = some (.aload_n 0, 1, 0, 0, 0) from rfl) (List.Mem.head _) ?_
  refine s_getR X 143 (show cdA 1 16 = some (.getfield 37, 3, 0, 11, 0) from rfl) (by decide) rfl rfl ?_
  refine z_const X (show cdA 1 19 = some (.iconst 5, 1, 0, 0, 0) from rfl) ?_
  refine w_lload_n X.1 (ax_d X (show cdA 1 20 = some (.lload_n 1, 1, 0, 0, 0) from rfl)) (x := aj) (List.Mem.tail _ (List.Mem.head _)) ?_
  refine z_callS X (rm := rmN 298) (As := [.long aj]) (st := [.int (Int32.ofInt 5), .ref (A 151)]) (show cdA 1 21 = some (.invokestatic 51, 3, 298, 1, 0) from rfl) rfl (by rw [E.1, E.2.1, E.2.2.1]; exact j_bitL G Is10 ) ⟨by rw [E.2.2.2]; exact (show (rmN 298).frames + 1 ≤ (rmN 1).frames by decide), by rw [E.2.2.2]; exact (show 8 + (mNL (miB 298) + 11) + (rmN 298).locals ≤ (rmN 1).locals by decide), by rw [E.2.2.2]; exact (show 0 + (rmN 298).cells ≤ (rmN 1).cells by decide), by rw [E.2.2.2]; exact (show 0 + (rmN 298).slots ≤ (rmN 1).slots by decide)⟩ (Nat.le_of_ble_eq_true rfl) (fun vv s11 hq => ?_) (fun ee s11 hq => ?_)
  rotate_left
  · obtain ⟨Is11, Fs11, e12, hv, hrs11, hps11⟩ := hq; cases hv
  obtain ⟨Is11, Fs11, e12, hv, hrs11, hps11⟩ := hq
  cases hv
  have Gs11 := fm_ts Fs10 Fs11 (by decide) (by decide)
  have ws11_61 : iI s11 61 = iI s10 61 := fm_i Fs11 (by decide)
  have ws11_62 : iI s11 62 = iI s10 62 := fm_i Fs11 (by decide)
  have ws11_43 : iI s11 43 = iI s10 43 := fm_i Fs11 (by decide)
  have ws11_44 : iI s11 44 = iI s10 44 := fm_i Fs11 (by decide)
  show WS k 24 [(0, .ref (A 143)), (1, .long aj), (3, .long bj), (5, .int (Int32.ofInt x))] [.int (Int32.ofInt e12), .int (Int32.ofInt 5), .ref (A 151)] (Wd A dT s11) 0 0
  refine z_ast X 151 (show cdA 1 24 = some (.iastore, 1, 0, 0, 0) from rfl) (by decide) rfl (by decide) (show 5 < 7 by decide) (by decide) ?_
  obtain ⟨s13, hs13⟩ : ∃ x0, x0 = uC s11 132 (5 : Int).toNat (Int32.ofInt e12) := ⟨_, rfl⟩
  rw [← hs13]
  have Is13 : Bd s13 := by rw [hs13]; exact bd_C Is11 (show ((-2147483648) : Int) ≤ e12 ∧ e12 ≤ 2147483647 by omega) hrs11
  have Fs13 := fm_C (i := (5 : Int).toNat) (x := Int32.ofInt e12) Gs11 (show 132 ∈ _ by decide)
  rw [← hs13] at Fs13
  have ws13_61 : iI s13 61 = iI s11 61 := by rw [hs13]; rfl
  have ws13_62 : iI s13 62 = iI s11 62 := by rw [hs13]; rfl
  have ws13_43 : iI s13 43 = iI s11 43 := by rw [hs13]; rfl
  have ws13_44 : iI s13 44 = iI s11 44 := by rw [hs13]; rfl
  refine z_aload_n X (x := A 143) (show cdA 1 25 = some (.aload_n 0, 1, 0, 0, 0) from rfl) (List.Mem.head _) ?_
  refine s_getR X 143 (show cdA 1 26 = some (.getfield 37, 3, 0, 11, 0) from rfl) (by decide) rfl rfl ?_
  refine z_bipush X (show cdA 1 29 = some (.bipush 6, 2, 0, 0, 6) from rfl) ?_
  refine z_load X (x := x) (show cdA 1 31 = some (.iload 5, 2, 0, 0, 0) from rfl) (List.Mem.tail _ (List.Mem.tail _ (List.Mem.tail _ (List.Mem.head _)))) ?_
  refine z_ast X 151 (show cdA 1 33 = some (.iastore, 1, 0, 0, 0) from rfl) (by decide) rfl (by decide) (show 6 < 7 by decide) (by decide) ?_
  obtain ⟨s14, hs14⟩ : ∃ x0, x0 = uC s13 132 (6 : Int).toNat (Int32.ofInt x) := ⟨_, rfl⟩
  rw [← hs14]
  have Is14 : Bd s14 := by rw [hs14]; exact bd_C Is13 (show ((-2147483648) : Int) ≤ x ∧ x ≤ 2147483647 by first | exact ⟨p0.1, p0.2⟩ | omega) ⟨by first | exact p0.1 | omega, by first | exact p0.2 | omega⟩
  have Fs14 := fm_C (i := (6 : Int).toNat) (x := Int32.ofInt x) Fs13 (show 132 ∈ _ by decide)
  rw [← hs14] at Fs14
  have ws14_61 : iI s14 61 = iI s13 61 := by rw [hs14]; rfl
  have ws14_62 : iI s14 62 = iI s13 62 := by rw [hs14]; rfl
  have ws14_43 : iI s14 43 = iI s13 43 := by rw [hs14]; rfl
  have ws14_44 : iI s14 44 = iI s13 44 := by rw [hs14]; rfl
  refine z_aload_n X (x := A 143) (show cdA 1 34 = some (.aload_n 0, 1, 0, 0, 0) from rfl) (List.Mem.head _) ?_
  refine z_const X (show cdA 1 35 = some (.iconst 0, 1, 0, 0, 0) from rfl) ?_
  refine s_putI X 143 (show cdA 1 36 = some (.putfield 57, 3, 0, 2, 0) from rfl) (by decide) rfl rfl (by decide) rfl rfl rfl ?_
  obtain ⟨s15, hs15⟩ : ∃ x0, x0 = uI s14 61 (Int32.ofInt 0) := ⟨_, rfl⟩
  rw [← hs15]
  have Is15 : Bd s15 := by rw [hs15]; exact bd_I Is14 (show (0 : Int) ≤ 0 ∧ 0 ≤ 12 by first | exact ⟨by decide, by decide⟩ | omega) (by decide)
  have Fs15 := fm_I (x := Int32.ofInt 0) Fs14 (show 61 ∈ _ by decide)
  rw [← hs15] at Fs15
  have vs15 : iI s15 61 = 0 := by rw [hs15]; exact iI_u (by decide)
  have ws15_62 : iI s15 62 = iI s14 62 := by rw [hs15]; rfl
  have ws15_43 : iI s15 43 = iI s14 43 := by rw [hs15]; rfl
  have ws15_44 : iI s15 44 = iI s14 44 := by rw [hs15]; rfl
  refine z_const X (show cdA 1 39 = some (.iconst 0, 1, 0, 0, 0) from rfl) ?_
  refine z_store X (lv' := [(6, .int (Int32.ofInt 0)), (0, .ref (A 143)), (1, .long aj), (3, .long bj), (5, .int (Int32.ofInt x))]) (show cdA 1 40 = some (.istore 6, 2, 0, 0, 0) from rfl) (by decide) (fun _ h => h) ?_
  refine WS_lv (lv := [(0, .ref (A 143)), (1, .long aj), (3, .long bj), (6, .int (Int32.ofInt 0))]) (List.forall_mem_cons.mpr ⟨(List.Mem.tail _ (List.Mem.head _)), (List.forall_mem_cons.mpr ⟨(List.Mem.tail _ (List.Mem.tail _ (List.Mem.head _))), (List.forall_mem_cons.mpr ⟨(List.Mem.tail _ (List.Mem.tail _ (List.Mem.tail _ (List.Mem.head _)))), (List.forall_mem_cons.mpr ⟨(List.Mem.head _), (fun q h => absurd h List.not_mem_nil)⟩)⟩)⟩)⟩) ?_
  refine L42 ((12 - 0 : Int).toNat + 1) s15 aj bj 0 Is15 Fs15 (by first | exact ⟨by decide, by decide, oq_1af0b4f8 vs15⟩ | omega) (Nat.lt_succ_self _) ?_
  intro s16 x17 Is16 Fs16 hs16
  have b18 : (0 : Int) ≤ iI s16 61 ∧ iI s16 61 ≤ 12 := Is16.1 61
  have b19 : (0 : Int) ≤ iI s16 62 ∧ iI s16 62 ≤ 66 := Is16.1 62
  have b20 : (0 : Int) ≤ iI s16 43 ∧ iI s16 43 ≤ 12 := Is16.1 43
  have b21 : (0 : Int) ≤ iI s16 44 ∧ iI s16 44 ≤ 66 := Is16.1 44
  refine z_aload_n X (x := A 143) (show cdA 1 125 = some (.aload_n 0, 1, 0, 0, 0) from rfl) (List.Mem.head _) ?_
  refine z_const X (show cdA 1 126 = some (.iconst 0, 1, 0, 0, 0) from rfl) ?_
  refine s_putI X 143 (show cdA 1 127 = some (.putfield 72, 3, 0, 7, 0) from rfl) (by decide) rfl rfl (by decide) rfl rfl rfl ?_
  obtain ⟨s22, hs22⟩ : ∃ x0, x0 = uI s16 62 (Int32.ofInt 0) := ⟨_, rfl⟩
  rw [← hs22]
  have Is22 : Bd s22 := by rw [hs22]; exact bd_I Is16 (show (0 : Int) ≤ 0 ∧ 0 ≤ 66 by first | exact ⟨by decide, by decide⟩ | omega) (by decide)
  have Fs22 := fm_I (x := Int32.ofInt 0) Fs16 (show 62 ∈ _ by decide)
  rw [← hs22] at Fs22
  have vs22 : iI s22 62 = 0 := by rw [hs22]; exact iI_u (by decide)
  have ws22_61 : iI s22 61 = iI s16 61 := by rw [hs22]; rfl
  have ws22_43 : iI s22 43 = iI s16 43 := by rw [hs22]; rfl
  have ws22_44 : iI s22 44 = iI s16 44 := by rw [hs22]; rfl
  refine z_const X (show cdA 1 130 = some (.iconst 0, 1, 0, 0, 0) from rfl) ?_
  refine z_store X (lv' := [(6, .int (Int32.ofInt 0)), (0, .ref (A 143)), (1, .long aj), (3, .long bj)]) (show cdA 1 131 = some (.istore 6, 2, 0, 0, 0) from rfl) (by decide) (fun _ h => h) ?_
  refine WS_lv (lv := [(0, .ref (A 143)), (1, .long aj), (3, .long bj), (6, .int (Int32.ofInt 0))]) (List.forall_mem_cons.mpr ⟨(List.Mem.tail _ (List.Mem.head _)), (List.forall_mem_cons.mpr ⟨(List.Mem.tail _ (List.Mem.tail _ (List.Mem.head _))), (List.forall_mem_cons.mpr ⟨(List.Mem.tail _ (List.Mem.tail _ (List.Mem.tail _ (List.Mem.head _)))), (List.forall_mem_cons.mpr ⟨(List.Mem.head _), (fun q h => absurd h List.not_mem_nil)⟩)⟩)⟩)⟩) ?_
  refine L133 ((66 - 0 : Int).toNat + 1) s22 aj bj 0 Is22 Fs22 (by first | exact ⟨by decide, by decide, oq_1af0b4f8 vs22⟩ | omega) (Nat.lt_succ_self _) ?_
  intro s23 x24 Is23 Fs23 hs23
  have b25 : (0 : Int) ≤ iI s23 61 ∧ iI s23 61 ≤ 12 := Is23.1 61
  have b26 : (0 : Int) ≤ iI s23 62 ∧ iI s23 62 ≤ 66 := Is23.1 62
  have b27 : (0 : Int) ≤ iI s23 43 ∧ iI s23 43 ≤ 12 := Is23.1 43
  have b28 : (0 : Int) ≤ iI s23 44 ∧ iI s23 44 ≤ 66 := Is23.1 44
  exact w_vret X.1 q hRt (ax_d X (show cdA 1 260 = some (.return_, 1, 0, 0, 0) from rfl)) (Nat.zero_le _) (Nat.zero_le _) ⟨_, rfl, Is23, Fs23, rfl, trivial⟩
set_option maxRecDepth 4000 in
theorem c0_hear_143 (G : GX l s0 D tys a0 dT) (I : Bd s) {x y : Int} (p0 : 0 ≤ x ∧ x ≤ 23) (p1 : rng y) : CT l s0 D A dT 3 (rmN 3) [.ref (A 143), .int (Int32.ofInt x), .int (Int32.ofInt y)] s (fun o t => Bd t ∧ Fm [] [132] s t ∧ o = .inl none ∧ (True)) := by
  refine ct_ofX G (by decide) (Nat.le_of_ble_eq_true rfl) (fun k X E ET hRt hXt q => ?_)
  show WS k 0 [(0, .ref (A 143)), (1, .int (Int32.ofInt x)), (2, .int (Int32.ofInt y))] [] _ 0 0
  have F : Fm [] [132] s s := fm_rf _ _ s
  have b1 : (0 : Int) ≤ iI s 61 ∧ iI s 61 ≤ 12 := I.1 61
  have b2 : (0 : Int) ≤ iI s 62 ∧ iI s 62 ≤ 66 := I.1 62
  have L20 : ∀ (n : Nat) (t : PS) (yv ro wa cr ov cl c : Int), Bd t → Fm [] [132] s t → (rng yv ∧ (0 ≤ ro ∧ ro ≤ 276) ∧ rng wa ∧ rng cr ∧ rng ov ∧ rng cl ∧ 0 ≤ c ∧ c ≤ 12) → (12 - c : Int).toNat < n → (∀ (t' : PS) (wa' cr' ov' cl' c' : Int), Bd t' → Fm [] [132] s t' → (rng yv ∧ (0 ≤ ro ∧ ro ≤ 276) ∧ rng wa' ∧ rng cr' ∧ rng ov' ∧ rng cl' ∧ 0 ≤ c' ∧ c' ≤ 12) → WS k 106 [(0, .ref (A 143)), (2, .int (Int32.ofInt yv)), (3, .int (Int32.ofInt ro)), (4, .int (Int32.ofInt wa')), (5, .int (Int32.ofInt cr')), (6, .int (Int32.ofInt ov')), (7, .int (Int32.ofInt cl')), (8, .int (Int32.ofInt c'))] [] (Wd A dT t') 0 0) → WS k 20 [(0, .ref (A 143)), (2, .int (Int32.ofInt yv)), (3, .int (Int32.ofInt ro)), (4, .int (Int32.ofInt wa)), (5, .int (Int32.ofInt cr)), (6, .int (Int32.ofInt ov)), (7, .int (Int32.ofInt cl)), (8, .int (Int32.ofInt c))] [] (Wd A dT t) 0 0 := by
    intro n
    induction n with
    | zero =>
      intro t yv ro wa cr ov cl c I F hi hm kx
      exact absurd hm (Nat.not_lt_zero _)
    | succ n ih =>
      intro t yv ro wa cr ov cl c I F hi hm kx
      have b1001 : (0 : Int) ≤ iI t 61 ∧ iI t 61 ≤ 12 := I.1 61
      have b1002 : (0 : Int) ≤ iI t 62 ∧ iI t 62 ≤ 66 := I.1 62
      refine z_load X (x := c) (show cdA 3 20 = some (.iload 8, 2, 0, 0, 0) from rfl) (List.Mem.tail _ (List.Mem.tail _ (List.Mem.tail _ (List.Mem.tail _ (List.Mem.tail _ (List.Mem.tail _ (List.Mem.tail _ (List.Mem.head _)))))))) ?_
      refine z_aload_n X (x := A 143) (show cdA 3 22 = some (.aload_n 0, 1, 0, 0, 0) from rfl) (List.Mem.head _) ?_
      refine z_getI X 143 (show cdA 3 23 = some (.getfield 57, 3, 0, 2, 0) from rfl) (by decide) rfl rfl ?_
      have b1003 : (0 : Int) ≤ iI t 61 ∧ iI t 61 ≤ 12 := I.1 61
      refine z_icmp_ge X (t := 106) (show cdA 3 26 = some (.if_icmp .ge 80, 3, 3, 0, 0) from rfl) (by decide) ⟨by first | exact oq_fa4e5087 hi.2.2.2.2.2.2.1 | omega, by first | exact oq_78843a64 hi.2.2.2.2.2.2.2 | omega⟩ (rng_to _) (fun g1004 => ?_) (fun g1004 => ?_)
      ·
        refine WS_lv (lv := [(0, .ref (A 143)), (2, .int (Int32.ofInt yv)), (3, .int (Int32.ofInt ro)), (4, .int (Int32.ofInt wa)), (5, .int (Int32.ofInt cr)), (6, .int (Int32.ofInt ov)), (7, .int (Int32.ofInt cl)), (8, .int (Int32.ofInt c))]) (List.forall_mem_cons.mpr ⟨(List.Mem.head _), (List.forall_mem_cons.mpr ⟨(List.Mem.tail _ (List.Mem.head _)), (List.forall_mem_cons.mpr ⟨(List.Mem.tail _ (List.Mem.tail _ (List.Mem.head _))), (List.forall_mem_cons.mpr ⟨(List.Mem.tail _ (List.Mem.tail _ (List.Mem.tail _ (List.Mem.head _)))), (List.forall_mem_cons.mpr ⟨(List.Mem.tail _ (List.Mem.tail _ (List.Mem.tail _ (List.Mem.tail _ (List.Mem.head _))))), (List.forall_mem_cons.mpr ⟨(List.Mem.tail _ (List.Mem.tail _ (List.Mem.tail _ (List.Mem.tail _ (List.Mem.tail _ (List.Mem.head _)))))), (List.forall_mem_cons.mpr ⟨(List.Mem.tail _ (List.Mem.tail _ (List.Mem.tail _ (List.Mem.tail _ (List.Mem.tail _ (List.Mem.tail _ (List.Mem.head _))))))), (List.forall_mem_cons.mpr ⟨(List.Mem.tail _ (List.Mem.tail _ (List.Mem.tail _ (List.Mem.tail _ (List.Mem.tail _ (List.Mem.tail _ (List.Mem.tail _ (List.Mem.head _)))))))), (fun q h => absurd h List.not_mem_nil)⟩)⟩)⟩)⟩)⟩)⟩)⟩)⟩) ?_
        exact kx _ wa cr ov cl c I F (by first | exact ⟨And.intro (hi.1.1) (hi.1.2), And.intro (hi.2.1.1) (hi.2.1.2), And.intro (hi.2.2.1.1) (hi.2.2.1.2), And.intro (hi.2.2.2.1.1) (hi.2.2.2.1.2), And.intro (hi.2.2.2.2.1.1) (hi.2.2.2.2.1.2), And.intro (hi.2.2.2.2.2.1.1) (hi.2.2.2.2.2.1.2), hi.2.2.2.2.2.2.1, hi.2.2.2.2.2.2.2⟩ | omega)
      ·
        refine z_aload_n X (x := A 143) (show cdA 3 29 = some (.aload_n 0, 1, 0, 0, 0) from rfl) (List.Mem.head _) ?_
        refine s_getR X 143 (show cdA 3 30 = some (.getfield 9, 3, 0, 3, 0) from rfl) (by decide) rfl rfl ?_
        refine z_load X (x := c) (show cdA 3 33 = some (.iload 8, 2, 0, 0, 0) from rfl) (List.Mem.tail _ (List.Mem.tail _ (List.Mem.tail _ (List.Mem.tail _ (List.Mem.tail _ (List.Mem.tail _ (List.Mem.tail _ (List.Mem.head _)))))))) ?_
        refine z_ald X 144 (show cdA 3 35 = some (.iaload, 1, 0, 0, 0) from rfl) (by decide) rfl (by first | exact hi.2.2.2.2.2.2.1 | omega) (show c < 12 by first | exact oq_f36e82a8 g1004 b1003.2 | omega) (by decide) ?_
        have b1005 : (0 : Int) ≤ iC t 125 (c).toNat ∧ iC t 125 (c).toNat ≤ 11 := I.2 125 _ (show (c).toNat < 12 by first | exact oq_2dac6850 g1004 b1003.2 | omega)
        refine z_load_n X (x := yv) (show cdA 3 36 = some (.iload_n 2, 1, 0, 0, 0) from rfl) (List.Mem.tail _ (List.Mem.head _)) ?_
        have N1006 : ∀ e1007 : Int, ((((iC t 125 (c).toNat) ≠ yv) ∧ ((0 : Int) ≤ iC t 125 (c).toNat ∧ iC t 125 (c).toNat ≤ 11) ∧ ((0 : Int) ≤ iC t 67 ((ro + (iC t 125 (c).toNat))).toNat ∧ iC t 67 ((ro + (iC t 125 (c).toNat))).toNat ≤ 50) ∧ e1007 = (iC t 67 ((ro + (iC t 125 (c).toNat))).toNat)) ∨ (((iC t 125 (c).toNat) = yv) ∧ e1007 = 0)) → WS k 61 [(0, .ref (A 143)), (2, .int (Int32.ofInt yv)), (3, .int (Int32.ofInt ro)), (4, .int (Int32.ofInt wa)), (5, .int (Int32.ofInt cr)), (6, .int (Int32.ofInt ov)), (7, .int (Int32.ofInt cl)), (8, .int (Int32.ofInt c))] [.int (Int32.ofInt e1007)] (Wd A dT t) 0 0 := by
          intro e1007 he1007
          refine z_store X (lv' := [(9, .int (Int32.ofInt e1007)), (0, .ref (A 143)), (2, .int (Int32.ofInt yv)), (3, .int (Int32.ofInt ro)), (4, .int (Int32.ofInt wa)), (5, .int (Int32.ofInt cr)), (6, .int (Int32.ofInt ov)), (7, .int (Int32.ofInt cl)), (8, .int (Int32.ofInt c))]) (show cdA 3 61 = some (.istore 9, 2, 0, 0, 0) from rfl) (by decide) (fun _ h => h) ?_
          refine z_load X (x := wa) (show cdA 3 63 = some (.iload 4, 2, 0, 0, 0) from rfl) (List.Mem.tail _ (List.Mem.tail _ (List.Mem.tail _ (List.Mem.tail _ (List.Mem.head _))))) ?_
          refine z_load X (x := e1007) (show cdA 3 65 = some (.iload 9, 2, 0, 0, 0) from rfl) (List.Mem.head _) ?_
          refine z_add X (show cdA 3 67 = some (.iadd, 1, 0, 0, 0) from rfl) ?_
          refine z_any (fun y1008 hy1008 => ?_)
          refine z_store X (lv' := [(4, .int (Int32.ofInt y1008)), (9, .int (Int32.ofInt e1007)), (0, .ref (A 143)), (2, .int (Int32.ofInt yv)), (3, .int (Int32.ofInt ro)), (5, .int (Int32.ofInt cr)), (6, .int (Int32.ofInt ov)), (7, .int (Int32.ofInt cl)), (8, .int (Int32.ofInt c))]) (show cdA 3 68 = some (.istore 4, 2, 0, 0, 0) from rfl) (by decide) (fun _ h => h) ?_
          refine z_load X (x := ov) (show cdA 3 70 = some (.iload 6, 2, 0, 0, 0) from rfl) (List.Mem.tail _ (List.Mem.tail _ (List.Mem.tail _ (List.Mem.tail _ (List.Mem.tail _ (List.Mem.tail _ (List.Mem.head _))))))) ?_
          refine z_load X (x := e1007) (show cdA 3 72 = some (.iload 9, 2, 0, 0, 0) from rfl) (List.Mem.tail _ (List.Mem.head _)) ?_
          refine z_aload_n X (x := A 143) (show cdA 3 74 = some (.aload_n 0, 1, 0, 0, 0) from rfl) (List.Mem.tail _ (List.Mem.tail _ (List.Mem.head _))) ?_
          refine s_getR X 143 (show cdA 3 75 = some (.getfield 15, 3, 0, 4, 0) from rfl) (by decide) rfl rfl ?_
          refine z_load X (x := c) (show cdA 3 78 = some (.iload 8, 2, 0, 0, 0) from rfl) (List.Mem.tail _ (List.Mem.tail _ (List.Mem.tail _ (List.Mem.tail _ (List.Mem.tail _ (List.Mem.tail _ (List.Mem.tail _ (List.Mem.tail _ (List.Mem.head _))))))))) ?_
          refine z_ald X 145 (show cdA 3 80 = some (.iaload, 1, 0, 0, 0) from rfl) (by decide) rfl (by first | exact hi.2.2.2.2.2.2.1 | omega) (show c < 12 by first | exact oq_f36e82a8 g1004 b1003.2 | omega) (by decide) ?_
          have b1009 : ((-2147483648) : Int) ≤ iC t 126 (c).toNat ∧ iC t 126 (c).toNat ≤ 2147483647 := I.2 126 _ (show (c).toNat < 12 by first | exact oq_2dac6850 g1004 b1003.2 | omega)
          refine z_mul X (show cdA 3 81 = some (.imul, 1, 0, 0, 0) from rfl) ?_
          refine z_any (fun y1010 hy1010 => ?_)
          refine z_add X (show cdA 3 82 = some (.iadd, 1, 0, 0, 0) from rfl) ?_
          refine z_any (fun y1011 hy1011 => ?_)
          refine z_store X (lv' := [(6, .int (Int32.ofInt y1011)), (4, .int (Int32.ofInt y1008)), (9, .int (Int32.ofInt e1007)), (0, .ref (A 143)), (2, .int (Int32.ofInt yv)), (3, .int (Int32.ofInt ro)), (5, .int (Int32.ofInt cr)), (7, .int (Int32.ofInt cl)), (8, .int (Int32.ofInt c))]) (show cdA 3 83 = some (.istore 6, 2, 0, 0, 0) from rfl) (by decide) (fun _ h => h) ?_
          refine z_load X (x := cl) (show cdA 3 85 = some (.iload 7, 2, 0, 0, 0) from rfl) (List.Mem.tail _ (List.Mem.tail _ (List.Mem.tail _ (List.Mem.tail _ (List.Mem.tail _ (List.Mem.tail _ (List.Mem.tail _ (List.Mem.head _)))))))) ?_
          refine z_load X (x := e1007) (show cdA 3 87 = some (.iload 9, 2, 0, 0, 0) from rfl) (List.Mem.tail _ (List.Mem.tail _ (List.Mem.head _))) ?_
          refine z_aload_n X (x := A 143) (show cdA 3 89 = some (.aload_n 0, 1, 0, 0, 0) from rfl) (List.Mem.tail _ (List.Mem.tail _ (List.Mem.tail _ (List.Mem.head _)))) ?_
          refine s_getR X 143 (show cdA 3 90 = some (.getfield 21, 3, 0, 6, 0) from rfl) (by decide) rfl rfl ?_
          refine z_load X (x := c) (show cdA 3 93 = some (.iload 8, 2, 0, 0, 0) from rfl) (List.Mem.tail _ (List.Mem.tail _ (List.Mem.tail _ (List.Mem.tail _ (List.Mem.tail _ (List.Mem.tail _ (List.Mem.tail _ (List.Mem.tail _ (List.Mem.head _))))))))) ?_
          refine z_ald X 147 (show cdA 3 95 = some (.iaload, 1, 0, 0, 0) from rfl) (by decide) rfl (by first | exact hi.2.2.2.2.2.2.1 | omega) (show c < 12 by first | exact oq_f36e82a8 g1004 b1003.2 | omega) (by decide) ?_
          have b1012 : ((-2147483648) : Int) ≤ iC t 128 (c).toNat ∧ iC t 128 (c).toNat ≤ 2147483647 := I.2 128 _ (show (c).toNat < 12 by first | exact oq_2dac6850 g1004 b1003.2 | omega)
          refine z_mul X (show cdA 3 96 = some (.imul, 1, 0, 0, 0) from rfl) ?_
          refine z_any (fun y1013 hy1013 => ?_)
          refine z_add X (show cdA 3 97 = some (.iadd, 1, 0, 0, 0) from rfl) ?_
          refine z_any (fun y1014 hy1014 => ?_)
          refine z_store X (lv' := [(7, .int (Int32.ofInt y1014)), (6, .int (Int32.ofInt y1011)), (4, .int (Int32.ofInt y1008)), (9, .int (Int32.ofInt e1007)), (0, .ref (A 143)), (2, .int (Int32.ofInt yv)), (3, .int (Int32.ofInt ro)), (5, .int (Int32.ofInt cr)), (8, .int (Int32.ofInt c))]) (show cdA 3 98 = some (.istore 7, 2, 0, 0, 0) from rfl) (by decide) (fun _ h => h) ?_
          refine z_inc X (x := c) (lv' := [(8, .int (Int32.ofInt (c + 1))), (7, .int (Int32.ofInt y1014)), (6, .int (Int32.ofInt y1011)), (4, .int (Int32.ofInt y1008)), (9, .int (Int32.ofInt e1007)), (0, .ref (A 143)), (2, .int (Int32.ofInt yv)), (3, .int (Int32.ofInt ro)), (5, .int (Int32.ofInt cr))]) (show cdA 3 100 = some (.iinc 8 1, 3, 0, 0, 0) from rfl) (by decide) (List.Mem.tail _ (List.Mem.tail _ (List.Mem.tail _ (List.Mem.tail _ (List.Mem.tail _ (List.Mem.tail _ (List.Mem.tail _ (List.Mem.tail _ (List.Mem.head _))))))))) (fun _ h => h) ?_
          refine z_goto X (t := 20) (show cdA 3 103 = some (.goto (-83), 3, 0, 0, 0) from rfl) (by decide) ?_
          refine WS_lv (lv := [(0, .ref (A 143)), (2, .int (Int32.ofInt yv)), (3, .int (Int32.ofInt ro)), (4, .int (Int32.ofInt y1008)), (5, .int (Int32.ofInt cr)), (6, .int (Int32.ofInt y1011)), (7, .int (Int32.ofInt y1014)), (8, .int (Int32.ofInt (c + 1)))]) (List.forall_mem_cons.mpr ⟨(List.Mem.tail _ (List.Mem.tail _ (List.Mem.tail _ (List.Mem.tail _ (List.Mem.tail _ (List.Mem.head _)))))), (List.forall_mem_cons.mpr ⟨(List.Mem.tail _ (List.Mem.tail _ (List.Mem.tail _ (List.Mem.tail _ (List.Mem.tail _ (List.Mem.tail _ (List.Mem.head _))))))), (List.forall_mem_cons.mpr ⟨(List.Mem.tail _ (List.Mem.tail _ (List.Mem.tail _ (List.Mem.tail _ (List.Mem.tail _ (List.Mem.tail _ (List.Mem.tail _ (List.Mem.head _)))))))), (List.forall_mem_cons.mpr ⟨(List.Mem.tail _ (List.Mem.tail _ (List.Mem.tail _ (List.Mem.head _)))), (List.forall_mem_cons.mpr ⟨(List.Mem.tail _ (List.Mem.tail _ (List.Mem.tail _ (List.Mem.tail _ (List.Mem.tail _ (List.Mem.tail _ (List.Mem.tail _ (List.Mem.tail _ (List.Mem.head _))))))))), (List.forall_mem_cons.mpr ⟨(List.Mem.tail _ (List.Mem.tail _ (List.Mem.head _))), (List.forall_mem_cons.mpr ⟨(List.Mem.tail _ (List.Mem.head _)), (List.forall_mem_cons.mpr ⟨(List.Mem.head _), (fun q h => absurd h List.not_mem_nil)⟩)⟩)⟩)⟩)⟩)⟩)⟩)⟩) ?_
          exact ih _ yv ro y1008 cr y1011 y1014 (c + 1) I F (by first | exact ⟨And.intro (hi.1.1) (hi.1.2), And.intro (hi.2.1.1) (hi.2.1.2), And.intro (hy1008.1) (hy1008.2), And.intro (hi.2.2.2.1.1) (hi.2.2.2.1.2), And.intro (hy1011.1) (hy1011.2), And.intro (hy1014.1) (hy1014.2), oq_54f49eb5 hi.2.2.2.2.2.2.1, oq_4dae995e g1004 b1003.2⟩ | omega) (by first | exact qk_me hm (by decide) (oq_b575e8c1 g1004 b1003.2) | omega) kx
        refine z_icmp_ne X (t := 44) (show cdA 3 37 = some (.if_icmp .ne 7, 3, 1, 0, 0) from rfl) (by decide) (rng_to _) ⟨by first | exact hi.1.1 | omega, by first | exact hi.1.2 | omega⟩ (fun g1015 => ?_) (fun g1015 => ?_)
        ·
          refine z_aload_n X (x := A 143) (show cdA 3 44 = some (.aload_n 0, 1, 0, 0, 0) from rfl) (List.Mem.head _) ?_
          refine s_getR X 143 (show cdA 3 45 = some (.getfield 43, 3, 0, 0, 0) from rfl) (by decide) rfl rfl ?_
          refine s_getR X 68 (show cdA 3 48 = some (.getfield 87, 3, 9, 12, 0) from rfl) (by decide) rfl rfl ?_
          refine z_load_n X (x := ro) (show cdA 3 51 = some (.iload_n 3, 1, 0, 0, 0) from rfl) (List.Mem.tail _ (List.Mem.tail _ (List.Mem.head _))) ?_
          refine z_aload_n X (x := A 143) (show cdA 3 52 = some (.aload_n 0, 1, 0, 0, 0) from rfl) (List.Mem.head _) ?_
          refine s_getR X 143 (show cdA 3 53 = some (.getfield 9, 3, 0, 3, 0) from rfl) (by decide) rfl rfl ?_
          refine z_load X (x := c) (show cdA 3 56 = some (.iload 8, 2, 0, 0, 0) from rfl) (List.Mem.tail _ (List.Mem.tail _ (List.Mem.tail _ (List.Mem.tail _ (List.Mem.tail _ (List.Mem.tail _ (List.Mem.tail _ (List.Mem.head _)))))))) ?_
          refine z_ald X 144 (show cdA 3 58 = some (.iaload, 1, 0, 0, 0) from rfl) (by decide) rfl (by first | exact hi.2.2.2.2.2.2.1 | omega) (show c < 12 by first | exact oq_f36e82a8 g1004 b1003.2 | omega) (by decide) ?_
          have b1016 : (0 : Int) ≤ iC t 125 (c).toNat ∧ iC t 125 (c).toNat ≤ 11 := I.2 125 _ (show (c).toNat < 12 by first | exact oq_2dac6850 g1004 b1003.2 | omega)
          refine z_add X (show cdA 3 59 = some (.iadd, 1, 0, 0, 0) from rfl) ?_
          refine z_ald X 79 (show cdA 3 60 = some (.iaload, 1, 0, 0, 0) from rfl) (by decide) rfl (by first | exact oq_dd29f52d hi.2.1.1 b1016.1 | omega) (show (ro + (iC t 125 (c).toNat)) < 288 by first | exact oq_f94a0088 hi.2.1.2 b1016.2 | omega) (by decide) ?_
          have b1017 : (0 : Int) ≤ iC t 67 ((ro + (iC t 125 (c).toNat))).toNat ∧ iC t 67 ((ro + (iC t 125 (c).toNat))).toNat ≤ 50 := I.2 67 _ (show ((ro + (iC t 125 (c).toNat))).toNat < 288 by first | exact oq_3d7ae1dd hi.2.1.2 b1016.2 | omega)
          exact N1006 _ (Or.inl ⟨g1015, b1016, b1017, rfl⟩)
        ·
          refine z_const X (show cdA 3 40 = some (.iconst 0, 1, 0, 0, 0) from rfl) ?_
          refine z_goto X (t := 61) (show cdA 3 41 = some (.goto 20, 3, 0, 0, 0) from rfl) (by decide) ?_
          exact N1006 _ (Or.inr (⟨g1015, rfl⟩))
  have L109 : ∀ (n : Nat) (t : PS) (yv ro wa cr ov cl c : Int), Bd t → Fm [] [132] s t → (rng yv ∧ (0 ≤ ro ∧ ro ≤ 276) ∧ rng wa ∧ rng cr ∧ rng ov ∧ rng cl ∧ 0 ≤ c ∧ c ≤ 66) → (66 - c : Int).toNat < n → (∀ (t' : PS) (cr' c' : Int), Bd t' → Fm [] [132] s t' → (rng yv ∧ (0 ≤ ro ∧ ro ≤ 276) ∧ rng wa ∧ rng cr' ∧ rng ov ∧ rng cl ∧ 0 ≤ c' ∧ c' ≤ 66) → WS k 196 [(0, .ref (A 143)), (2, .int (Int32.ofInt yv)), (3, .int (Int32.ofInt ro)), (4, .int (Int32.ofInt wa)), (5, .int (Int32.ofInt cr')), (6, .int (Int32.ofInt ov)), (7, .int (Int32.ofInt cl)), (8, .int (Int32.ofInt c'))] [] (Wd A dT t') 0 0) → WS k 109 [(0, .ref (A 143)), (2, .int (Int32.ofInt yv)), (3, .int (Int32.ofInt ro)), (4, .int (Int32.ofInt wa)), (5, .int (Int32.ofInt cr)), (6, .int (Int32.ofInt ov)), (7, .int (Int32.ofInt cl)), (8, .int (Int32.ofInt c))] [] (Wd A dT t) 0 0 := by
    intro n
    induction n with
    | zero =>
      intro t yv ro wa cr ov cl c I F hi hm kx
      exact absurd hm (Nat.not_lt_zero _)
    | succ n ih =>
      intro t yv ro wa cr ov cl c I F hi hm kx
      have b2001 : (0 : Int) ≤ iI t 61 ∧ iI t 61 ≤ 12 := I.1 61
      have b2002 : (0 : Int) ≤ iI t 62 ∧ iI t 62 ≤ 66 := I.1 62
      refine z_load X (x := c) (show cdA 3 109 = some (.iload 8, 2, 0, 0, 0) from rfl) (List.Mem.tail _ (List.Mem.tail _ (List.Mem.tail _ (List.Mem.tail _ (List.Mem.tail _ (List.Mem.tail _ (List.Mem.tail _ (List.Mem.head _)))))))) ?_
      refine z_aload_n X (x := A 143) (show cdA 3 111 = some (.aload_n 0, 1, 0, 0, 0) from rfl) (List.Mem.head _) ?_
      refine z_getI X 143 (show cdA 3 112 = some (.getfield 72, 3, 0, 7, 0) from rfl) (by decide) rfl rfl ?_
      have b2003 : (0 : Int) ≤ iI t 62 ∧ iI t 62 ≤ 66 := I.1 62
      refine z_icmp_ge X (t := 196) (show cdA 3 115 = some (.if_icmp .ge 81, 3, 3, 0, 0) from rfl) (by decide) ⟨by first | exact oq_fa4e5087 hi.2.2.2.2.2.2.1 | omega, by first | exact oq_64f2e926 hi.2.2.2.2.2.2.2 | omega⟩ (rng_to _) (fun g2004 => ?_) (fun g2004 => ?_)
      ·
        refine WS_lv (lv := [(0, .ref (A 143)), (2, .int (Int32.ofInt yv)), (3, .int (Int32.ofInt ro)), (4, .int (Int32.ofInt wa)), (5, .int (Int32.ofInt cr)), (6, .int (Int32.ofInt ov)), (7, .int (Int32.ofInt cl)), (8, .int (Int32.ofInt c))]) (List.forall_mem_cons.mpr ⟨(List.Mem.head _), (List.forall_mem_cons.mpr ⟨(List.Mem.tail _ (List.Mem.head _)), (List.forall_mem_cons.mpr ⟨(List.Mem.tail _ (List.Mem.tail _ (List.Mem.head _))), (List.forall_mem_cons.mpr ⟨(List.Mem.tail _ (List.Mem.tail _ (List.Mem.tail _ (List.Mem.head _)))), (List.forall_mem_cons.mpr ⟨(List.Mem.tail _ (List.Mem.tail _ (List.Mem.tail _ (List.Mem.tail _ (List.Mem.head _))))), (List.forall_mem_cons.mpr ⟨(List.Mem.tail _ (List.Mem.tail _ (List.Mem.tail _ (List.Mem.tail _ (List.Mem.tail _ (List.Mem.head _)))))), (List.forall_mem_cons.mpr ⟨(List.Mem.tail _ (List.Mem.tail _ (List.Mem.tail _ (List.Mem.tail _ (List.Mem.tail _ (List.Mem.tail _ (List.Mem.head _))))))), (List.forall_mem_cons.mpr ⟨(List.Mem.tail _ (List.Mem.tail _ (List.Mem.tail _ (List.Mem.tail _ (List.Mem.tail _ (List.Mem.tail _ (List.Mem.tail _ (List.Mem.head _)))))))), (fun q h => absurd h List.not_mem_nil)⟩)⟩)⟩)⟩)⟩)⟩)⟩)⟩) ?_
        exact kx _ cr c I F (by first | exact ⟨And.intro (hi.1.1) (hi.1.2), And.intro (hi.2.1.1) (hi.2.1.2), And.intro (hi.2.2.1.1) (hi.2.2.1.2), And.intro (hi.2.2.2.1.1) (hi.2.2.2.1.2), And.intro (hi.2.2.2.2.1.1) (hi.2.2.2.2.1.2), And.intro (hi.2.2.2.2.2.1.1) (hi.2.2.2.2.2.1.2), hi.2.2.2.2.2.2.1, hi.2.2.2.2.2.2.2⟩ | omega)
      ·
        refine z_aload_n X (x := A 143) (show cdA 3 118 = some (.aload_n 0, 1, 0, 0, 0) from rfl) (List.Mem.head _) ?_
        refine s_getR X 143 (show cdA 3 119 = some (.getfield 26, 3, 0, 8, 0) from rfl) (by decide) rfl rfl ?_
        refine z_load X (x := c) (show cdA 3 122 = some (.iload 8, 2, 0, 0, 0) from rfl) (List.Mem.tail _ (List.Mem.tail _ (List.Mem.tail _ (List.Mem.tail _ (List.Mem.tail _ (List.Mem.tail _ (List.Mem.tail _ (List.Mem.head _)))))))) ?_
        refine z_ald X 148 (show cdA 3 124 = some (.iaload, 1, 0, 0, 0) from rfl) (by decide) rfl (by first | exact hi.2.2.2.2.2.2.1 | omega) (show c < 66 by first | exact oq_256e4529 g2004 b2003.2 | omega) (by decide) ?_
        have b2005 : (0 : Int) ≤ iC t 129 (c).toNat ∧ iC t 129 (c).toNat ≤ 11 := I.2 129 _ (show (c).toNat < 66 by first | exact oq_d7ff7873 g2004 b2003.2 | omega)
        refine z_load_n X (x := yv) (show cdA 3 125 = some (.iload_n 2, 1, 0, 0, 0) from rfl) (List.Mem.tail _ (List.Mem.head _)) ?_
        refine z_icmp_eq X (t := 190) (show cdA 3 126 = some (.if_icmp .eq 64, 3, 0, 0, 0) from rfl) (by decide) (rng_to _) ⟨by first | exact hi.1.1 | omega, by first | exact hi.1.2 | omega⟩ (fun g2006 => ?_) (fun g2006 => ?_)
        ·
          refine z_inc X (x := c) (lv' := [(8, .int (Int32.ofInt (c + 1))), (0, .ref (A 143)), (2, .int (Int32.ofInt yv)), (3, .int (Int32.ofInt ro)), (4, .int (Int32.ofInt wa)), (5, .int (Int32.ofInt cr)), (6, .int (Int32.ofInt ov)), (7, .int (Int32.ofInt cl))]) (show cdA 3 190 = some (.iinc 8 1, 3, 0, 0, 0) from rfl) (by decide) (List.Mem.tail _ (List.Mem.tail _ (List.Mem.tail _ (List.Mem.tail _ (List.Mem.tail _ (List.Mem.tail _ (List.Mem.tail _ (List.Mem.head _)))))))) (fun _ h => h) ?_
          refine z_goto X (t := 109) (show cdA 3 193 = some (.goto (-84), 3, 0, 0, 0) from rfl) (by decide) ?_
          refine WS_lv (lv := [(0, .ref (A 143)), (2, .int (Int32.ofInt yv)), (3, .int (Int32.ofInt ro)), (4, .int (Int32.ofInt wa)), (5, .int (Int32.ofInt cr)), (6, .int (Int32.ofInt ov)), (7, .int (Int32.ofInt cl)), (8, .int (Int32.ofInt (c + 1)))]) (List.forall_mem_cons.mpr ⟨(List.Mem.tail _ (List.Mem.head _)), (List.forall_mem_cons.mpr ⟨(List.Mem.tail _ (List.Mem.tail _ (List.Mem.head _))), (List.forall_mem_cons.mpr ⟨(List.Mem.tail _ (List.Mem.tail _ (List.Mem.tail _ (List.Mem.head _)))), (List.forall_mem_cons.mpr ⟨(List.Mem.tail _ (List.Mem.tail _ (List.Mem.tail _ (List.Mem.tail _ (List.Mem.head _))))), (List.forall_mem_cons.mpr ⟨(List.Mem.tail _ (List.Mem.tail _ (List.Mem.tail _ (List.Mem.tail _ (List.Mem.tail _ (List.Mem.head _)))))), (List.forall_mem_cons.mpr ⟨(List.Mem.tail _ (List.Mem.tail _ (List.Mem.tail _ (List.Mem.tail _ (List.Mem.tail _ (List.Mem.tail _ (List.Mem.head _))))))), (List.forall_mem_cons.mpr ⟨(List.Mem.tail _ (List.Mem.tail _ (List.Mem.tail _ (List.Mem.tail _ (List.Mem.tail _ (List.Mem.tail _ (List.Mem.tail _ (List.Mem.head _)))))))), (List.forall_mem_cons.mpr ⟨(List.Mem.head _), (fun q h => absurd h List.not_mem_nil)⟩)⟩)⟩)⟩)⟩)⟩)⟩)⟩) ?_
          exact ih _ yv ro wa cr ov cl (c + 1) I F (by first | exact ⟨And.intro (hi.1.1) (hi.1.2), And.intro (hi.2.1.1) (hi.2.1.2), And.intro (hi.2.2.1.1) (hi.2.2.1.2), And.intro (hi.2.2.2.1.1) (hi.2.2.2.1.2), And.intro (hi.2.2.2.2.1.1) (hi.2.2.2.2.1.2), And.intro (hi.2.2.2.2.2.1.1) (hi.2.2.2.2.2.1.2), oq_54f49eb5 hi.2.2.2.2.2.2.1, oq_319a18a4 g2004 b2003.2⟩ | omega) (by first | exact qk_me hm (by decide) (oq_dd0e9829 g2004 b2003.2) | omega) kx
        ·
          refine z_aload_n X (x := A 143) (show cdA 3 129 = some (.aload_n 0, 1, 0, 0, 0) from rfl) (List.Mem.head _) ?_
          refine s_getR X 143 (show cdA 3 130 = some (.getfield 29, 3, 0, 9, 0) from rfl) (by decide) rfl rfl ?_
          refine z_load X (x := c) (show cdA 3 133 = some (.iload 8, 2, 0, 0, 0) from rfl) (List.Mem.tail _ (List.Mem.tail _ (List.Mem.tail _ (List.Mem.tail _ (List.Mem.tail _ (List.Mem.tail _ (List.Mem.tail _ (List.Mem.head _)))))))) ?_
          refine z_ald X 149 (show cdA 3 135 = some (.iaload, 1, 0, 0, 0) from rfl) (by decide) rfl (by first | exact hi.2.2.2.2.2.2.1 | omega) (show c < 66 by first | exact oq_256e4529 g2004 b2003.2 | omega) (by decide) ?_
          have b2007 : (0 : Int) ≤ iC t 130 (c).toNat ∧ iC t 130 (c).toNat ≤ 11 := I.2 130 _ (show (c).toNat < 66 by first | exact oq_d7ff7873 g2004 b2003.2 | omega)
          refine z_load_n X (x := yv) (show cdA 3 136 = some (.iload_n 2, 1, 0, 0, 0) from rfl) (List.Mem.tail _ (List.Mem.head _)) ?_
          refine z_icmp_eq X (t := 190) (show cdA 3 137 = some (.if_icmp .eq 53, 3, 0, 0, 0) from rfl) (by decide) (rng_to _) ⟨by first | exact hi.1.1 | omega, by first | exact hi.1.2 | omega⟩ (fun g2008 => ?_) (fun g2008 => ?_)
          ·
            refine z_inc X (x := c) (lv' := [(8, .int (Int32.ofInt (c + 1))), (0, .ref (A 143)), (2, .int (Int32.ofInt yv)), (3, .int (Int32.ofInt ro)), (4, .int (Int32.ofInt wa)), (5, .int (Int32.ofInt cr)), (6, .int (Int32.ofInt ov)), (7, .int (Int32.ofInt cl))]) (show cdA 3 190 = some (.iinc 8 1, 3, 0, 0, 0) from rfl) (by decide) (List.Mem.tail _ (List.Mem.tail _ (List.Mem.tail _ (List.Mem.tail _ (List.Mem.tail _ (List.Mem.tail _ (List.Mem.tail _ (List.Mem.head _)))))))) (fun _ h => h) ?_
            refine z_goto X (t := 109) (show cdA 3 193 = some (.goto (-84), 3, 0, 0, 0) from rfl) (by decide) ?_
            refine WS_lv (lv := [(0, .ref (A 143)), (2, .int (Int32.ofInt yv)), (3, .int (Int32.ofInt ro)), (4, .int (Int32.ofInt wa)), (5, .int (Int32.ofInt cr)), (6, .int (Int32.ofInt ov)), (7, .int (Int32.ofInt cl)), (8, .int (Int32.ofInt (c + 1)))]) (List.forall_mem_cons.mpr ⟨(List.Mem.tail _ (List.Mem.head _)), (List.forall_mem_cons.mpr ⟨(List.Mem.tail _ (List.Mem.tail _ (List.Mem.head _))), (List.forall_mem_cons.mpr ⟨(List.Mem.tail _ (List.Mem.tail _ (List.Mem.tail _ (List.Mem.head _)))), (List.forall_mem_cons.mpr ⟨(List.Mem.tail _ (List.Mem.tail _ (List.Mem.tail _ (List.Mem.tail _ (List.Mem.head _))))), (List.forall_mem_cons.mpr ⟨(List.Mem.tail _ (List.Mem.tail _ (List.Mem.tail _ (List.Mem.tail _ (List.Mem.tail _ (List.Mem.head _)))))), (List.forall_mem_cons.mpr ⟨(List.Mem.tail _ (List.Mem.tail _ (List.Mem.tail _ (List.Mem.tail _ (List.Mem.tail _ (List.Mem.tail _ (List.Mem.head _))))))), (List.forall_mem_cons.mpr ⟨(List.Mem.tail _ (List.Mem.tail _ (List.Mem.tail _ (List.Mem.tail _ (List.Mem.tail _ (List.Mem.tail _ (List.Mem.tail _ (List.Mem.head _)))))))), (List.forall_mem_cons.mpr ⟨(List.Mem.head _), (fun q h => absurd h List.not_mem_nil)⟩)⟩)⟩)⟩)⟩)⟩)⟩)⟩) ?_
            exact ih _ yv ro wa cr ov cl (c + 1) I F (by first | exact ⟨And.intro (hi.1.1) (hi.1.2), And.intro (hi.2.1.1) (hi.2.1.2), And.intro (hi.2.2.1.1) (hi.2.2.1.2), And.intro (hi.2.2.2.1.1) (hi.2.2.2.1.2), And.intro (hi.2.2.2.2.1.1) (hi.2.2.2.2.1.2), And.intro (hi.2.2.2.2.2.1.1) (hi.2.2.2.2.2.1.2), oq_54f49eb5 hi.2.2.2.2.2.2.1, oq_319a18a4 g2004 b2003.2⟩ | omega) (by first | exact qk_me hm (by decide) (oq_dd0e9829 g2004 b2003.2) | omega) kx
          ·
            refine z_load X (x := cr) (show cdA 3 140 = some (.iload 5, 2, 0, 0, 0) from rfl) (List.Mem.tail _ (List.Mem.tail _ (List.Mem.tail _ (List.Mem.tail _ (List.Mem.head _))))) ?_
            refine z_aload_n X (x := A 143) (show cdA 3 142 = some (.aload_n 0, 1, 0, 0, 0) from rfl) (List.Mem.head _) ?_
            refine s_getR X 143 (show cdA 3 143 = some (.getfield 32, 3, 0, 10, 0) from rfl) (by decide) rfl rfl ?_
            refine z_load X (x := c) (show cdA 3 146 = some (.iload 8, 2, 0, 0, 0) from rfl) (List.Mem.tail _ (List.Mem.tail _ (List.Mem.tail _ (List.Mem.tail _ (List.Mem.tail _ (List.Mem.tail _ (List.Mem.tail _ (List.Mem.head _)))))))) ?_
            refine z_ald X 150 (show cdA 3 148 = some (.iaload, 1, 0, 0, 0) from rfl) (by decide) rfl (by first | exact hi.2.2.2.2.2.2.1 | omega) (show c < 66 by first | exact oq_256e4529 g2004 b2003.2 | omega) (by decide) ?_
            have b2009 : ((-2147483648) : Int) ≤ iC t 131 (c).toNat ∧ iC t 131 (c).toNat ≤ 2147483647 := I.2 131 _ (show (c).toNat < 66 by first | exact oq_d7ff7873 g2004 b2003.2 | omega)
            refine z_aload_n X (x := A 143) (show cdA 3 149 = some (.aload_n 0, 1, 0, 0, 0) from rfl) (List.Mem.head _) ?_
            refine s_getR X 143 (show cdA 3 150 = some (.getfield 43, 3, 0, 0, 0) from rfl) (by decide) rfl rfl ?_
            refine s_getR X 68 (show cdA 3 153 = some (.getfield 87, 3, 9, 12, 0) from rfl) (by decide) rfl rfl ?_
            refine z_load_n X (x := ro) (show cdA 3 156 = some (.iload_n 3, 1, 0, 0, 0) from rfl) (List.Mem.tail _ (List.Mem.tail _ (List.Mem.head _))) ?_
            refine z_aload_n X (x := A 143) (show cdA 3 157 = some (.aload_n 0, 1, 0, 0, 0) from rfl) (List.Mem.head _) ?_
            refine s_getR X 143 (show cdA 3 158 = some (.getfield 26, 3, 0, 8, 0) from rfl) (by decide) rfl rfl ?_
            refine z_load X (x := c) (show cdA 3 161 = some (.iload 8, 2, 0, 0, 0) from rfl) (List.Mem.tail _ (List.Mem.tail _ (List.Mem.tail _ (List.Mem.tail _ (List.Mem.tail _ (List.Mem.tail _ (List.Mem.tail _ (List.Mem.head _)))))))) ?_
            refine z_ald X 148 (show cdA 3 163 = some (.iaload, 1, 0, 0, 0) from rfl) (by decide) rfl (by first | exact hi.2.2.2.2.2.2.1 | omega) (show c < 66 by first | exact oq_256e4529 g2004 b2003.2 | omega) (by decide) ?_
            have b2010 : (0 : Int) ≤ iC t 129 (c).toNat ∧ iC t 129 (c).toNat ≤ 11 := I.2 129 _ (show (c).toNat < 66 by first | exact oq_d7ff7873 g2004 b2003.2 | omega)
            refine z_add X (show cdA 3 164 = some (.iadd, 1, 0, 0, 0) from rfl) ?_
            refine z_ald X 79 (show cdA 3 165 = some (.iaload, 1, 0, 0, 0) from rfl) (by decide) rfl (by first | exact oq_dd29f52d hi.2.1.1 b2010.1 | omega) (show (ro + (iC t 129 (c).toNat)) < 288 by first | exact oq_f94a0088 hi.2.1.2 b2010.2 | omega) (by decide) ?_
            have b2011 : (0 : Int) ≤ iC t 67 ((ro + (iC t 129 (c).toNat))).toNat ∧ iC t 67 ((ro + (iC t 129 (c).toNat))).toNat ≤ 50 := I.2 67 _ (show ((ro + (iC t 129 (c).toNat))).toNat < 288 by first | exact oq_3d7ae1dd hi.2.1.2 b2010.2 | omega)
            refine z_aload_n X (x := A 143) (show cdA 3 166 = some (.aload_n 0, 1, 0, 0, 0) from rfl) (List.Mem.head _) ?_
            refine s_getR X 143 (show cdA 3 167 = some (.getfield 43, 3, 0, 0, 0) from rfl) (by decide) rfl rfl ?_
            refine s_getR X 68 (show cdA 3 170 = some (.getfield 87, 3, 9, 12, 0) from rfl) (by decide) rfl rfl ?_
            refine z_load_n X (x := ro) (show cdA 3 173 = some (.iload_n 3, 1, 0, 0, 0) from rfl) (List.Mem.tail _ (List.Mem.tail _ (List.Mem.head _))) ?_
            refine z_aload_n X (x := A 143) (show cdA 3 174 = some (.aload_n 0, 1, 0, 0, 0) from rfl) (List.Mem.head _) ?_
            refine s_getR X 143 (show cdA 3 175 = some (.getfield 29, 3, 0, 9, 0) from rfl) (by decide) rfl rfl ?_
            refine z_load X (x := c) (show cdA 3 178 = some (.iload 8, 2, 0, 0, 0) from rfl) (List.Mem.tail _ (List.Mem.tail _ (List.Mem.tail _ (List.Mem.tail _ (List.Mem.tail _ (List.Mem.tail _ (List.Mem.tail _ (List.Mem.head _)))))))) ?_
            refine z_ald X 149 (show cdA 3 180 = some (.iaload, 1, 0, 0, 0) from rfl) (by decide) rfl (by first | exact hi.2.2.2.2.2.2.1 | omega) (show c < 66 by first | exact oq_256e4529 g2004 b2003.2 | omega) (by decide) ?_
            have b2012 : (0 : Int) ≤ iC t 130 (c).toNat ∧ iC t 130 (c).toNat ≤ 11 := I.2 130 _ (show (c).toNat < 66 by first | exact oq_d7ff7873 g2004 b2003.2 | omega)
            refine z_add X (show cdA 3 181 = some (.iadd, 1, 0, 0, 0) from rfl) ?_
            refine z_ald X 79 (show cdA 3 182 = some (.iaload, 1, 0, 0, 0) from rfl) (by decide) rfl (by first | exact oq_dd29f52d hi.2.1.1 b2012.1 | omega) (show (ro + (iC t 130 (c).toNat)) < 288 by first | exact oq_f94a0088 hi.2.1.2 b2012.2 | omega) (by decide) ?_
            have b2013 : (0 : Int) ≤ iC t 67 ((ro + (iC t 130 (c).toNat))).toNat ∧ iC t 67 ((ro + (iC t 130 (c).toNat))).toNat ≤ 50 := I.2 67 _ (show ((ro + (iC t 130 (c).toNat))).toNat < 288 by first | exact oq_3d7ae1dd hi.2.1.2 b2012.2 | omega)
            refine z_min X (show cdA 3 183 = some (.invokestatic 90, 3, 0, 8, 0) from rfl) (rng_to _) (rng_to _) (by rw [E.2.2.2]; decide) (by rw [E.2.2.2]; exact Nat.le_of_ble_eq_true rfl) (Nat.zero_le _) (Nat.zero_le _) (fun e2014 he2014 => ?_)
            refine z_mul X (show cdA 3 186 = some (.imul, 1, 0, 0, 0) from rfl) ?_
            refine z_any (fun y2015 hy2015 => ?_)
            refine z_add X (show cdA 3 187 = some (.iadd, 1, 0, 0, 0) from rfl) ?_
            refine z_any (fun y2016 hy2016 => ?_)
            refine z_store X (lv' := [(5, .int (Int32.ofInt y2016)), (0, .ref (A 143)), (2, .int (Int32.ofInt yv)), (3, .int (Int32.ofInt ro)), (4, .int (Int32.ofInt wa)), (6, .int (Int32.ofInt ov)), (7, .int (Int32.ofInt cl)), (8, .int (Int32.ofInt c))]) (show cdA 3 188 = some (.istore 5, 2, 0, 0, 0) from rfl) (by decide) (fun _ h => h) ?_
            refine z_inc X (x := c) (lv' := [(8, .int (Int32.ofInt (c + 1))), (5, .int (Int32.ofInt y2016)), (0, .ref (A 143)), (2, .int (Int32.ofInt yv)), (3, .int (Int32.ofInt ro)), (4, .int (Int32.ofInt wa)), (6, .int (Int32.ofInt ov)), (7, .int (Int32.ofInt cl))]) (show cdA 3 190 = some (.iinc 8 1, 3, 0, 0, 0) from rfl) (by decide) (List.Mem.tail _ (List.Mem.tail _ (List.Mem.tail _ (List.Mem.tail _ (List.Mem.tail _ (List.Mem.tail _ (List.Mem.tail _ (List.Mem.head _)))))))) (fun _ h => h) ?_
            refine z_goto X (t := 109) (show cdA 3 193 = some (.goto (-84), 3, 0, 0, 0) from rfl) (by decide) ?_
            refine WS_lv (lv := [(0, .ref (A 143)), (2, .int (Int32.ofInt yv)), (3, .int (Int32.ofInt ro)), (4, .int (Int32.ofInt wa)), (5, .int (Int32.ofInt y2016)), (6, .int (Int32.ofInt ov)), (7, .int (Int32.ofInt cl)), (8, .int (Int32.ofInt (c + 1)))]) (List.forall_mem_cons.mpr ⟨(List.Mem.tail _ (List.Mem.tail _ (List.Mem.head _))), (List.forall_mem_cons.mpr ⟨(List.Mem.tail _ (List.Mem.tail _ (List.Mem.tail _ (List.Mem.head _)))), (List.forall_mem_cons.mpr ⟨(List.Mem.tail _ (List.Mem.tail _ (List.Mem.tail _ (List.Mem.tail _ (List.Mem.head _))))), (List.forall_mem_cons.mpr ⟨(List.Mem.tail _ (List.Mem.tail _ (List.Mem.tail _ (List.Mem.tail _ (List.Mem.tail _ (List.Mem.head _)))))), (List.forall_mem_cons.mpr ⟨(List.Mem.tail _ (List.Mem.head _)), (List.forall_mem_cons.mpr ⟨(List.Mem.tail _ (List.Mem.tail _ (List.Mem.tail _ (List.Mem.tail _ (List.Mem.tail _ (List.Mem.tail _ (List.Mem.head _))))))), (List.forall_mem_cons.mpr ⟨(List.Mem.tail _ (List.Mem.tail _ (List.Mem.tail _ (List.Mem.tail _ (List.Mem.tail _ (List.Mem.tail _ (List.Mem.tail _ (List.Mem.head _)))))))), (List.forall_mem_cons.mpr ⟨(List.Mem.head _), (fun q h => absurd h List.not_mem_nil)⟩)⟩)⟩)⟩)⟩)⟩)⟩)⟩) ?_
            exact ih _ yv ro wa y2016 ov cl (c + 1) I F (by first | exact ⟨And.intro (hi.1.1) (hi.1.2), And.intro (hi.2.1.1) (hi.2.1.2), And.intro (hi.2.2.1.1) (hi.2.2.1.2), And.intro (hy2016.1) (hy2016.2), And.intro (hi.2.2.2.2.1.1) (hi.2.2.2.2.1.2), And.intro (hi.2.2.2.2.2.1.1) (hi.2.2.2.2.2.1.2), oq_54f49eb5 hi.2.2.2.2.2.2.1, oq_319a18a4 g2004 b2003.2⟩ | omega) (by first | exact qk_me hm (by decide) (oq_dd0e9829 g2004 b2003.2) | omega) kx
  refine z_load_n X (x := x) (show cdA 3 0 = some (.iload_n 1, 1, 0, 0, 0) from rfl) (List.Mem.tail _ (List.Mem.head _)) ?_
  refine z_bipush X (show cdA 3 1 = some (.bipush 12, 2, 0, 0, 12) from rfl) ?_
  refine z_mul X (show cdA 3 3 = some (.imul, 1, 0, 0, 0) from rfl) ?_
  refine z_store_n X (lv' := [(3, .int (Int32.ofInt (x * 12))), (0, .ref (A 143)), (1, .int (Int32.ofInt x)), (2, .int (Int32.ofInt y))]) (show cdA 3 4 = some (.istore_n 3, 1, 0, 0, 0) from rfl) (by decide) (fun _ h => h) ?_
  refine z_const X (show cdA 3 5 = some (.iconst 0, 1, 0, 0, 0) from rfl) ?_
  refine z_store X (lv' := [(4, .int (Int32.ofInt 0)), (3, .int (Int32.ofInt (x * 12))), (0, .ref (A 143)), (1, .int (Int32.ofInt x)), (2, .int (Int32.ofInt y))]) (show cdA 3 6 = some (.istore 4, 2, 0, 0, 0) from rfl) (by decide) (fun _ h => h) ?_
  refine z_const X (show cdA 3 8 = some (.iconst 0, 1, 0, 0, 0) from rfl) ?_
  refine z_store X (lv' := [(5, .int (Int32.ofInt 0)), (4, .int (Int32.ofInt 0)), (3, .int (Int32.ofInt (x * 12))), (0, .ref (A 143)), (1, .int (Int32.ofInt x)), (2, .int (Int32.ofInt y))]) (show cdA 3 9 = some (.istore 5, 2, 0, 0, 0) from rfl) (by decide) (fun _ h => h) ?_
  refine z_const X (show cdA 3 11 = some (.iconst 0, 1, 0, 0, 0) from rfl) ?_
  refine z_store X (lv' := [(6, .int (Int32.ofInt 0)), (5, .int (Int32.ofInt 0)), (4, .int (Int32.ofInt 0)), (3, .int (Int32.ofInt (x * 12))), (0, .ref (A 143)), (1, .int (Int32.ofInt x)), (2, .int (Int32.ofInt y))]) (show cdA 3 12 = some (.istore 6, 2, 0, 0, 0) from rfl) (by decide) (fun _ h => h) ?_
  refine z_const X (show cdA 3 14 = some (.iconst 0, 1, 0, 0, 0) from rfl) ?_
  refine z_store X (lv' := [(7, .int (Int32.ofInt 0)), (6, .int (Int32.ofInt 0)), (5, .int (Int32.ofInt 0)), (4, .int (Int32.ofInt 0)), (3, .int (Int32.ofInt (x * 12))), (0, .ref (A 143)), (1, .int (Int32.ofInt x)), (2, .int (Int32.ofInt y))]) (show cdA 3 15 = some (.istore 7, 2, 0, 0, 0) from rfl) (by decide) (fun _ h => h) ?_
  refine z_const X (show cdA 3 17 = some (.iconst 0, 1, 0, 0, 0) from rfl) ?_
  refine z_store X (lv' := [(8, .int (Int32.ofInt 0)), (7, .int (Int32.ofInt 0)), (6, .int (Int32.ofInt 0)), (5, .int (Int32.ofInt 0)), (4, .int (Int32.ofInt 0)), (3, .int (Int32.ofInt (x * 12))), (0, .ref (A 143)), (1, .int (Int32.ofInt x)), (2, .int (Int32.ofInt y))]) (show cdA 3 18 = some (.istore 8, 2, 0, 0, 0) from rfl) (by decide) (fun _ h => h) ?_
  refine WS_lv (lv := [(0, .ref (A 143)), (2, .int (Int32.ofInt y)), (3, .int (Int32.ofInt (x * 12))), (4, .int (Int32.ofInt 0)), (5, .int (Int32.ofInt 0)), (6, .int (Int32.ofInt 0)), (7, .int (Int32.ofInt 0)), (8, .int (Int32.ofInt 0))]) (List.forall_mem_cons.mpr ⟨(List.Mem.tail _ (List.Mem.tail _ (List.Mem.tail _ (List.Mem.tail _ (List.Mem.tail _ (List.Mem.tail _ (List.Mem.head _))))))), (List.forall_mem_cons.mpr ⟨(List.Mem.tail _ (List.Mem.tail _ (List.Mem.tail _ (List.Mem.tail _ (List.Mem.tail _ (List.Mem.tail _ (List.Mem.tail _ (List.Mem.tail _ (List.Mem.head _))))))))), (List.forall_mem_cons.mpr ⟨(List.Mem.tail _ (List.Mem.tail _ (List.Mem.tail _ (List.Mem.tail _ (List.Mem.tail _ (List.Mem.head _)))))), (List.forall_mem_cons.mpr ⟨(List.Mem.tail _ (List.Mem.tail _ (List.Mem.tail _ (List.Mem.tail _ (List.Mem.head _))))), (List.forall_mem_cons.mpr ⟨(List.Mem.tail _ (List.Mem.tail _ (List.Mem.tail _ (List.Mem.head _)))), (List.forall_mem_cons.mpr ⟨(List.Mem.tail _ (List.Mem.tail _ (List.Mem.head _))), (List.forall_mem_cons.mpr ⟨(List.Mem.tail _ (List.Mem.head _)), (List.forall_mem_cons.mpr ⟨(List.Mem.head _), (fun q h => absurd h List.not_mem_nil)⟩)⟩)⟩)⟩)⟩)⟩)⟩)⟩) ?_
  refine L20 ((12 - 0 : Int).toNat + 1) s y (x * 12) 0 0 0 0 0 I F (by first | exact ⟨And.intro (p1.1) (p1.2), And.intro (oq_6b8c39bb p0.1) (oq_70eefe4f p0.2), And.intro (by decide) (by decide), And.intro (by decide) (by decide), And.intro (by decide) (by decide), And.intro (by decide) (by decide), by decide, by decide⟩ | omega) (Nat.lt_succ_self _) ?_
  intro s3 x4 x5 x6 x7 x8 Is3 Fs3 hs3
  have b9 : (0 : Int) ≤ iI s3 61 ∧ iI s3 61 ≤ 12 := Is3.1 61
  have b10 : (0 : Int) ≤ iI s3 62 ∧ iI s3 62 ≤ 66 := Is3.1 62
  refine z_const X (show cdA 3 106 = some (.iconst 0, 1, 0, 0, 0) from rfl) ?_
  refine z_store X (lv' := [(8, .int (Int32.ofInt 0)), (0, .ref (A 143)), (2, .int (Int32.ofInt y)), (3, .int (Int32.ofInt (x * 12))), (4, .int (Int32.ofInt x4)), (5, .int (Int32.ofInt x5)), (6, .int (Int32.ofInt x6)), (7, .int (Int32.ofInt x7))]) (show cdA 3 107 = some (.istore 8, 2, 0, 0, 0) from rfl) (by decide) (fun _ h => h) ?_
  refine WS_lv (lv := [(0, .ref (A 143)), (2, .int (Int32.ofInt y)), (3, .int (Int32.ofInt (x * 12))), (4, .int (Int32.ofInt x4)), (5, .int (Int32.ofInt x5)), (6, .int (Int32.ofInt x6)), (7, .int (Int32.ofInt x7)), (8, .int (Int32.ofInt 0))]) (List.forall_mem_cons.mpr ⟨(List.Mem.tail _ (List.Mem.head _)), (List.forall_mem_cons.mpr ⟨(List.Mem.tail _ (List.Mem.tail _ (List.Mem.head _))), (List.forall_mem_cons.mpr ⟨(List.Mem.tail _ (List.Mem.tail _ (List.Mem.tail _ (List.Mem.head _)))), (List.forall_mem_cons.mpr ⟨(List.Mem.tail _ (List.Mem.tail _ (List.Mem.tail _ (List.Mem.tail _ (List.Mem.head _))))), (List.forall_mem_cons.mpr ⟨(List.Mem.tail _ (List.Mem.tail _ (List.Mem.tail _ (List.Mem.tail _ (List.Mem.tail _ (List.Mem.head _)))))), (List.forall_mem_cons.mpr ⟨(List.Mem.tail _ (List.Mem.tail _ (List.Mem.tail _ (List.Mem.tail _ (List.Mem.tail _ (List.Mem.tail _ (List.Mem.head _))))))), (List.forall_mem_cons.mpr ⟨(List.Mem.tail _ (List.Mem.tail _ (List.Mem.tail _ (List.Mem.tail _ (List.Mem.tail _ (List.Mem.tail _ (List.Mem.tail _ (List.Mem.head _)))))))), (List.forall_mem_cons.mpr ⟨(List.Mem.head _), (fun q h => absurd h List.not_mem_nil)⟩)⟩)⟩)⟩)⟩)⟩)⟩)⟩) ?_
  refine L109 ((66 - 0 : Int).toNat + 1) s3 y (x * 12) x4 x5 x6 x7 0 Is3 Fs3 (by first | exact ⟨And.intro (hs3.1.1) (hs3.1.2), And.intro (hs3.2.1.1) (hs3.2.1.2), And.intro (hs3.2.2.1.1) (hs3.2.2.1.2), And.intro (hs3.2.2.2.1.1) (hs3.2.2.2.1.2), And.intro (hs3.2.2.2.2.1.1) (hs3.2.2.2.2.1.2), And.intro (hs3.2.2.2.2.2.1.1) (hs3.2.2.2.2.2.1.2), by decide, by decide⟩ | omega) (Nat.lt_succ_self _) ?_
  intro s11 x12 x13 Is11 Fs11 hs11
  have b14 : (0 : Int) ≤ iI s11 61 ∧ iI s11 61 ≤ 12 := Is11.1 61
  have b15 : (0 : Int) ≤ iI s11 62 ∧ iI s11 62 ≤ 66 := Is11.1 62
  refine z_aload_n X (x := A 143) (show cdA 3 196 = some (.aload_n 0, 1, 0, 0, 0) from rfl) (List.Mem.head _) ?_
  refine s_getR X 143 (show cdA 3 197 = some (.getfield 37, 3, 0, 11, 0) from rfl) (by decide) rfl rfl ?_
  refine z_const X (show cdA 3 200 = some (.iconst 0, 1, 0, 0, 0) from rfl) ?_
  refine z_load X (x := x4) (show cdA 3 201 = some (.iload 4, 2, 0, 0, 0) from rfl) (List.Mem.tail _ (List.Mem.tail _ (List.Mem.tail _ (List.Mem.head _)))) ?_
  refine z_ast X 151 (show cdA 3 203 = some (.iastore, 1, 0, 0, 0) from rfl) (by decide) rfl (by decide) (show 0 < 7 by decide) (by decide) ?_
  obtain ⟨s16, hs16⟩ : ∃ x0, x0 = uC s11 132 (0 : Int).toNat (Int32.ofInt x4) := ⟨_, rfl⟩
  rw [← hs16]
  have Is16 : Bd s16 := by rw [hs16]; exact bd_C Is11 (show ((-2147483648) : Int) ≤ x4 ∧ x4 ≤ 2147483647 by first | exact ⟨hs11.2.2.1.1, hs11.2.2.1.2⟩ | omega) ⟨by first | exact hs11.2.2.1.1 | omega, by first | exact hs11.2.2.1.2 | omega⟩
  have Fs16 := fm_C (i := (0 : Int).toNat) (x := Int32.ofInt x4) Fs11 (show 132 ∈ _ by decide)
  rw [← hs16] at Fs16
  have ws16_61 : iI s16 61 = iI s11 61 := by rw [hs16]; rfl
  have ws16_62 : iI s16 62 = iI s11 62 := by rw [hs16]; rfl
  refine z_aload_n X (x := A 143) (show cdA 3 204 = some (.aload_n 0, 1, 0, 0, 0) from rfl) (List.Mem.head _) ?_
  refine s_getR X 143 (show cdA 3 205 = some (.getfield 37, 3, 0, 11, 0) from rfl) (by decide) rfl rfl ?_
  refine z_const X (show cdA 3 208 = some (.iconst 1, 1, 0, 0, 0) from rfl) ?_
  refine z_load X (x := x12) (show cdA 3 209 = some (.iload 5, 2, 0, 0, 0) from rfl) (List.Mem.tail _ (List.Mem.tail _ (List.Mem.tail _ (List.Mem.tail _ (List.Mem.head _))))) ?_
  refine z_ast X 151 (show cdA 3 211 = some (.iastore, 1, 0, 0, 0) from rfl) (by decide) rfl (by decide) (show 1 < 7 by decide) (by decide) ?_
  obtain ⟨s17, hs17⟩ : ∃ x0, x0 = uC s16 132 (1 : Int).toNat (Int32.ofInt x12) := ⟨_, rfl⟩
  rw [← hs17]
  have Is17 : Bd s17 := by rw [hs17]; exact bd_C Is16 (show ((-2147483648) : Int) ≤ x12 ∧ x12 ≤ 2147483647 by first | exact ⟨hs11.2.2.2.1.1, hs11.2.2.2.1.2⟩ | omega) ⟨by first | exact hs11.2.2.2.1.1 | omega, by first | exact hs11.2.2.2.1.2 | omega⟩
  have Fs17 := fm_C (i := (1 : Int).toNat) (x := Int32.ofInt x12) Fs16 (show 132 ∈ _ by decide)
  rw [← hs17] at Fs17
  have ws17_61 : iI s17 61 = iI s16 61 := by rw [hs17]; rfl
  have ws17_62 : iI s17 62 = iI s16 62 := by rw [hs17]; rfl
  refine z_aload_n X (x := A 143) (show cdA 3 212 = some (.aload_n 0, 1, 0, 0, 0) from rfl) (List.Mem.head _) ?_
  refine s_getR X 143 (show cdA 3 213 = some (.getfield 37, 3, 0, 11, 0) from rfl) (by decide) rfl rfl ?_
  refine z_const X (show cdA 3 216 = some (.iconst 2, 1, 0, 0, 0) from rfl) ?_
  refine z_load X (x := x6) (show cdA 3 217 = some (.iload 6, 2, 0, 0, 0) from rfl) (List.Mem.tail _ (List.Mem.tail _ (List.Mem.tail _ (List.Mem.tail _ (List.Mem.tail _ (List.Mem.head _)))))) ?_
  refine z_ast X 151 (show cdA 3 219 = some (.iastore, 1, 0, 0, 0) from rfl) (by decide) rfl (by decide) (show 2 < 7 by decide) (by decide) ?_
  obtain ⟨s18, hs18⟩ : ∃ x0, x0 = uC s17 132 (2 : Int).toNat (Int32.ofInt x6) := ⟨_, rfl⟩
  rw [← hs18]
  have Is18 : Bd s18 := by rw [hs18]; exact bd_C Is17 (show ((-2147483648) : Int) ≤ x6 ∧ x6 ≤ 2147483647 by first | exact ⟨hs11.2.2.2.2.1.1, hs11.2.2.2.2.1.2⟩ | omega) ⟨by first | exact hs11.2.2.2.2.1.1 | omega, by first | exact hs11.2.2.2.2.1.2 | omega⟩
  have Fs18 := fm_C (i := (2 : Int).toNat) (x := Int32.ofInt x6) Fs17 (show 132 ∈ _ by decide)
  rw [← hs18] at Fs18
  have ws18_61 : iI s18 61 = iI s17 61 := by rw [hs18]; rfl
  have ws18_62 : iI s18 62 = iI s17 62 := by rw [hs18]; rfl
  refine z_aload_n X (x := A 143) (show cdA 3 220 = some (.aload_n 0, 1, 0, 0, 0) from rfl) (List.Mem.head _) ?_
  refine s_getR X 143 (show cdA 3 221 = some (.getfield 37, 3, 0, 11, 0) from rfl) (by decide) rfl rfl ?_
  refine z_const X (show cdA 3 224 = some (.iconst 3, 1, 0, 0, 0) from rfl) ?_
  refine z_load X (x := x7) (show cdA 3 225 = some (.iload 7, 2, 0, 0, 0) from rfl) (List.Mem.tail _ (List.Mem.tail _ (List.Mem.tail _ (List.Mem.tail _ (List.Mem.tail _ (List.Mem.tail _ (List.Mem.head _))))))) ?_
  refine z_ast X 151 (show cdA 3 227 = some (.iastore, 1, 0, 0, 0) from rfl) (by decide) rfl (by decide) (show 3 < 7 by decide) (by decide) ?_
  obtain ⟨s19, hs19⟩ : ∃ x0, x0 = uC s18 132 (3 : Int).toNat (Int32.ofInt x7) := ⟨_, rfl⟩
  rw [← hs19]
  have Is19 : Bd s19 := by rw [hs19]; exact bd_C Is18 (show ((-2147483648) : Int) ≤ x7 ∧ x7 ≤ 2147483647 by first | exact ⟨hs11.2.2.2.2.2.1.1, hs11.2.2.2.2.2.1.2⟩ | omega) ⟨by first | exact hs11.2.2.2.2.2.1.1 | omega, by first | exact hs11.2.2.2.2.2.1.2 | omega⟩
  have Fs19 := fm_C (i := (3 : Int).toNat) (x := Int32.ofInt x7) Fs18 (show 132 ∈ _ by decide)
  rw [← hs19] at Fs19
  have ws19_61 : iI s19 61 = iI s18 61 := by rw [hs19]; rfl
  have ws19_62 : iI s19 62 = iI s18 62 := by rw [hs19]; rfl
  exact w_vret X.1 q hRt (ax_d X (show cdA 3 228 = some (.return_, 1, 0, 0, 0) from rfl)) (Nat.zero_le _) (Nat.zero_le _) ⟨_, rfl, Is19, Fs19, rfl, trivial⟩
set_option maxRecDepth 4000 in
theorem c7_work_143 (G : GX l s0 D tys a0 dT) (I : Bd s) {x : Int} (p0 : -1 ≤ x ∧ x ≤ 7) : CT l s0 D A dT 84 (rmN 84) [.ref (A 19), .int (Int32.ofInt x), .ref (A 151)] s (fun o t => Bd t ∧ Fm [] [20] s t ∧ ∃ e, o = .inl (some (.int (Int32.ofInt e))) ∧ rng e ∧ (True)) := by
  refine ct_ofX G (by decide) (Nat.le_of_ble_eq_true rfl) (fun k X E ET hRt hXt q => ?_)
  show WS k 0 [(0, .ref (A 19)), (1, .int (Int32.ofInt x)), (2, .ref (A 151))] [] _ 0 0
  have F : Fm [] [20] s s := fm_rf _ _ s
  have L28 : ∀ (n : Nat) (t : PS) (xv dp c : Int), Bd t → Fm [] [20] s t → ((0 ≤ xv ∧ xv ≤ 7) ∧ (0 ≤ dp ∧ dp ≤ 200) ∧ 0 ≤ c ∧ c ≤ 200) → (200 - c : Int).toNat < n → (∀ (t' : PS) (dp' c' : Int), Bd t' → Fm [] [20] s t' → ((0 ≤ xv ∧ xv ≤ 7) ∧ (0 ≤ dp' ∧ dp' ≤ 200) ∧ 0 ≤ c' ∧ c' ≤ 200) → WS k 163 [(0, .ref (A 19)), (2, .ref (A 151)), (1, .int (Int32.ofInt xv)), (3, .int (Int32.ofInt dp')), (4, .int (Int32.ofInt c'))] [] (Wd A dT t') 0 0) → WS k 28 [(0, .ref (A 19)), (2, .ref (A 151)), (1, .int (Int32.ofInt xv)), (3, .int (Int32.ofInt dp)), (4, .int (Int32.ofInt c))] [] (Wd A dT t) 0 0 := by
    intro n
    induction n with
    | zero =>
      intro t xv dp c I F hi hm kx
      exact absurd hm (Nat.not_lt_zero _)
    | succ n ih =>
      intro t xv dp c I F hi hm kx
      refine z_load X (x := c) (show cdA 84 28 = some (.iload 4, 2, 0, 0, 0) from rfl) (List.Mem.tail _ (List.Mem.tail _ (List.Mem.tail _ (List.Mem.tail _ (List.Mem.head _))))) ?_
      refine z_aload_n X (x := A 19) (show cdA 84 30 = some (.aload_n 0, 1, 0, 0, 0) from rfl) (List.Mem.head _) ?_
      refine s_getR X 19 (show cdA 84 31 = some (.getfield 15, 3, 7, 2, 0) from rfl) (by decide) rfl rfl ?_
      refine z_load_n X (x := xv) (show cdA 84 34 = some (.iload_n 1, 1, 0, 0, 0) from rfl) (List.Mem.tail _ (List.Mem.tail _ (List.Mem.head _))) ?_
      refine z_ald X 21 (show cdA 84 35 = some (.iaload, 1, 0, 0, 0) from rfl) (by decide) rfl (by first | exact hi.1.1 | omega) (show xv < 8 by first | exact oq_aaea290e hi.1.2 | omega) (by decide) ?_
      have b1001 : (0 : Int) ≤ iC t 17 (xv).toNat ∧ iC t 17 (xv).toNat ≤ 200 := I.2 17 _ (show (xv).toNat < 8 by first | exact oq_c19a3aae hi.1.2 | omega)
      refine z_icmp_ge X (t := 163) (show cdA 84 36 = some (.if_icmp .ge 127, 3, 3, 0, 0) from rfl) (by decide) ⟨by first | exact oq_fa4e5087 hi.2.2.1 | omega, by first | exact oq_52af2b96 hi.2.2.2 | omega⟩ (rng_to _) (fun g1002 => ?_) (fun g1002 => ?_)
      ·
        refine WS_lv (lv := [(0, .ref (A 19)), (2, .ref (A 151)), (1, .int (Int32.ofInt xv)), (3, .int (Int32.ofInt dp)), (4, .int (Int32.ofInt c))]) (List.forall_mem_cons.mpr ⟨(List.Mem.head _), (List.forall_mem_cons.mpr ⟨(List.Mem.tail _ (List.Mem.head _)), (List.forall_mem_cons.mpr ⟨(List.Mem.tail _ (List.Mem.tail _ (List.Mem.head _))), (List.forall_mem_cons.mpr ⟨(List.Mem.tail _ (List.Mem.tail _ (List.Mem.tail _ (List.Mem.head _)))), (List.forall_mem_cons.mpr ⟨(List.Mem.tail _ (List.Mem.tail _ (List.Mem.tail _ (List.Mem.tail _ (List.Mem.head _))))), (fun q h => absurd h List.not_mem_nil)⟩)⟩)⟩)⟩)⟩) ?_
        exact kx _ dp c I F (by first | exact ⟨And.intro (hi.1.1) (hi.1.2), And.intro (hi.2.1.1) (hi.2.1.2), hi.2.2.1, hi.2.2.2⟩ | omega)
      ·
        refine z_aload_n X (x := A 19) (show cdA 84 39 = some (.aload_n 0, 1, 0, 0, 0) from rfl) (List.Mem.head _) ?_
        refine s_getR X 19 (show cdA 84 40 = some (.getfield 11, 3, 7, 1, 0) from rfl) (by decide) rfl rfl ?_
        refine z_load X (x := c) (show cdA 84 43 = some (.iload 4, 2, 0, 0, 0) from rfl) (List.Mem.tail _ (List.Mem.tail _ (List.Mem.tail _ (List.Mem.tail _ (List.Mem.head _))))) ?_
        refine z_ald X 20 (show cdA 84 45 = some (.iaload, 1, 0, 0, 0) from rfl) (by decide) rfl (by first | exact hi.2.2.1 | omega) (show c < 200 by first | exact oq_6fca3d72 g1002 b1001.2 | omega) (by decide) ?_
        have b1003 : ((-2147483648) : Int) ≤ iC t 16 (c).toNat ∧ iC t 16 (c).toNat ≤ 2147483647 := I.2 16 _ (show (c).toNat < 200 by first | exact oq_b70289d5 g1002 b1001.2 | omega)
        refine z_store X (lv' := [(5, .int (Int32.ofInt (iC t 16 (c).toNat))), (0, .ref (A 19)), (2, .ref (A 151)), (1, .int (Int32.ofInt xv)), (3, .int (Int32.ofInt dp)), (4, .int (Int32.ofInt c))]) (show cdA 84 46 = some (.istore 5, 2, 0, 0, 0) from rfl) (by decide) (fun _ h => h) ?_
        refine z_load X (x := (iC t 16 (c).toNat)) (show cdA 84 48 = some (.iload 5, 2, 0, 0, 0) from rfl) (List.Mem.head _) ?_
        refine z_bipush X (show cdA 84 50 = some (.bipush (-8), 2, 0, 0, (-8)) from rfl) ?_
        refine z_icmp_le X (t := 90) (show cdA 84 52 = some (.if_icmp .le 38, 3, 5, 0, 0) from rfl) (by decide) (rng_to _) (by decide) (fun g1004 => ?_) (fun g1004 => ?_)
        ·
          refine z_load X (x := (iC t 16 (c).toNat)) (show cdA 84 90 = some (.iload 5, 2, 0, 0, 0) from rfl) (List.Mem.head _) ?_
          refine z_bipush X (show cdA 84 92 = some (.bipush (-8), 2, 0, 0, (-8)) from rfl) ?_
          refine z_icmp_ne X (t := 122) (show cdA 84 94 = some (.if_icmp .ne 28, 3, 1, 0, 0) from rfl) (by decide) (rng_to _) (by decide) (fun g1005 => ?_) (fun g1005 => ?_)
          ·
            refine z_load_n X (x := dp) (show cdA 84 122 = some (.iload_n 3, 1, 0, 0, 0) from rfl) (List.Mem.tail _ (List.Mem.tail _ (List.Mem.tail _ (List.Mem.tail _ (List.Mem.head _))))) ?_
            refine z_const X (show cdA 84 123 = some (.iconst 1, 1, 0, 0, 0) from rfl) ?_
            refine z_icmp_le X (t := 157) (show cdA 84 124 = some (.if_icmp .le 33, 3, 5, 0, 0) from rfl) (by decide) ⟨by first | exact oq_fa4e5087 hi.2.1.1 | omega, by first | exact oq_52af2b96 hi.2.1.2 | omega⟩ (by decide) (fun g1006 => ?_) (fun g1006 => ?_)
            ·
              refine z_inc X (x := c) (lv' := [(4, .int (Int32.ofInt (c + 1))), (5, .int (Int32.ofInt (iC t 16 (c).toNat))), (0, .ref (A 19)), (2, .ref (A 151)), (1, .int (Int32.ofInt xv)), (3, .int (Int32.ofInt dp))]) (show cdA 84 157 = some (.iinc 4 1, 3, 0, 0, 0) from rfl) (by decide) (List.Mem.tail _ (List.Mem.tail _ (List.Mem.tail _ (List.Mem.tail _ (List.Mem.tail _ (List.Mem.head _)))))) (fun _ h => h) ?_
              refine z_goto X (t := 28) (show cdA 84 160 = some (.goto (-132), 3, 0, 0, 0) from rfl) (by decide) ?_
              refine WS_lv (lv := [(0, .ref (A 19)), (2, .ref (A 151)), (1, .int (Int32.ofInt xv)), (3, .int (Int32.ofInt dp)), (4, .int (Int32.ofInt (c + 1)))]) (List.forall_mem_cons.mpr ⟨(List.Mem.tail _ (List.Mem.tail _ (List.Mem.head _))), (List.forall_mem_cons.mpr ⟨(List.Mem.tail _ (List.Mem.tail _ (List.Mem.tail _ (List.Mem.head _)))), (List.forall_mem_cons.mpr ⟨(List.Mem.tail _ (List.Mem.tail _ (List.Mem.tail _ (List.Mem.tail _ (List.Mem.head _))))), (List.forall_mem_cons.mpr ⟨(List.Mem.tail _ (List.Mem.tail _ (List.Mem.tail _ (List.Mem.tail _ (List.Mem.tail _ (List.Mem.head _)))))), (List.forall_mem_cons.mpr ⟨(List.Mem.head _), (fun q h => absurd h List.not_mem_nil)⟩)⟩)⟩)⟩)⟩) ?_
              exact ih _ xv dp (c + 1) I F (by first | exact ⟨And.intro (hi.1.1) (hi.1.2), And.intro (hi.2.1.1) (hi.2.1.2), oq_54f49eb5 hi.2.2.1, oq_228270fa g1002 b1001.2⟩ | omega) (by first | exact qk_me hm (by decide) (oq_b0a4f3e2 g1002 b1001.2) | omega) kx
            ·
              refine z_inc X (x := dp) (lv' := [(3, .int (Int32.ofInt (dp + (-1)))), (5, .int (Int32.ofInt (iC t 16 (c).toNat))), (0, .ref (A 19)), (2, .ref (A 151)), (1, .int (Int32.ofInt xv)), (4, .int (Int32.ofInt c))]) (show cdA 84 127 = some (.iinc 3 (-1), 3, 0, 0, 0) from rfl) (by decide) (List.Mem.tail _ (List.Mem.tail _ (List.Mem.tail _ (List.Mem.tail _ (List.Mem.head _))))) (fun _ h => h) ?_
              refine z_aload_n X (x := A 19) (show cdA 84 130 = some (.aload_n 0, 1, 0, 0, 0) from rfl) (List.Mem.tail _ (List.Mem.tail _ (List.Mem.head _))) ?_
              refine s_getR X 19 (show cdA 84 131 = some (.getfield 28, 3, 7, 13, 0) from rfl) (by decide) rfl rfl ?_
              refine z_load_n X (x := (dp + (-1))) (show cdA 84 134 = some (.iload_n 3, 1, 0, 0, 0) from rfl) (List.Mem.head _) ?_
              refine z_const X (show cdA 84 135 = some (.iconst 1, 1, 0, 0, 0) from rfl) ?_
              refine z_sub X (show cdA 84 136 = some (.isub, 1, 0, 0, 0) from rfl) ?_
              refine z_load X (x := (iC t 16 (c).toNat)) (show cdA 84 137 = some (.iload 5, 2, 0, 0, 0) from rfl) (List.Mem.tail _ (List.Mem.head _)) ?_
              refine z_aload_n X (x := A 19) (show cdA 84 139 = some (.aload_n 0, 1, 0, 0, 0) from rfl) (List.Mem.tail _ (List.Mem.tail _ (List.Mem.head _))) ?_
              refine s_getR X 19 (show cdA 84 140 = some (.getfield 28, 3, 7, 13, 0) from rfl) (by decide) rfl rfl ?_
              refine z_load_n X (x := (dp + (-1))) (show cdA 84 143 = some (.iload_n 3, 1, 0, 0, 0) from rfl) (List.Mem.head _) ?_
              refine z_const X (show cdA 84 144 = some (.iconst 1, 1, 0, 0, 0) from rfl) ?_
              refine z_sub X (show cdA 84 145 = some (.isub, 1, 0, 0, 0) from rfl) ?_
              refine z_ald X 24 (show cdA 84 146 = some (.iaload, 1, 0, 0, 0) from rfl) (by decide) rfl (by first | exact oq_d588e9be g1006 | omega) (show ((dp + (-1)) - 1) < 200 by first | exact oq_f9b4958f hi.2.1.2 | omega) (by decide) ?_
              have b1007 : ((-2147483648) : Int) ≤ iC t 20 (((dp + (-1)) - 1)).toNat ∧ iC t 20 (((dp + (-1)) - 1)).toNat ≤ 2147483647 := I.2 20 _ (show (((dp + (-1)) - 1)).toNat < 200 by first | exact oq_ab8c951f hi.2.1.2 | omega)
              refine z_aload_n X (x := A 19) (show cdA 84 147 = some (.aload_n 0, 1, 0, 0, 0) from rfl) (List.Mem.tail _ (List.Mem.tail _ (List.Mem.head _))) ?_
              refine s_getR X 19 (show cdA 84 148 = some (.getfield 28, 3, 7, 13, 0) from rfl) (by decide) rfl rfl ?_
              refine z_load_n X (x := (dp + (-1))) (show cdA 84 151 = some (.iload_n 3, 1, 0, 0, 0) from rfl) (List.Mem.head _) ?_
              refine z_ald X 24 (show cdA 84 152 = some (.iaload, 1, 0, 0, 0) from rfl) (by decide) rfl (by first | exact oq_6c14892a g1006 | omega) (show (dp + (-1)) < 200 by first | exact oq_2dcece94 hi.2.1.2 | omega) (by decide) ?_
              have b1008 : ((-2147483648) : Int) ≤ iC t 20 ((dp + (-1))).toNat ∧ iC t 20 ((dp + (-1))).toNat ≤ 2147483647 := I.2 20 _ (show ((dp + (-1))).toNat < 200 by first | exact oq_323b4624 hi.2.1.2 | omega)
              refine z_callS X (rm := rmN 85) (As := [.int (Int32.ofInt (iC t 16 (c).toNat)), .int (Int32.ofInt (iC t 20 (((dp + (-1)) - 1)).toNat)), .int (Int32.ofInt (iC t 20 ((dp + (-1))).toNat))]) (st := [.int (Int32.ofInt ((dp + (-1)) - 1)), .ref (A 24)]) (show cdA 84 153 = some (.invokestatic 154, 3, 85, 1, 0) from rfl) rfl (by rw [E.1, E.2.1, E.2.2.1]; exact c7_joined G I (by first | exact ⟨b1003.1, b1003.2⟩ | omega) (by first | exact ⟨b1007.1, b1007.2⟩ | omega) (by first | exact ⟨b1008.1, b1008.2⟩ | omega)) ⟨by rw [E.2.2.2]; exact (show (rmN 85).frames + 1 ≤ (rmN 84).frames by decide), by rw [E.2.2.2]; exact (show 8 + (mNL (miB 85) + 11) + (rmN 85).locals ≤ (rmN 84).locals by decide), by rw [E.2.2.2]; exact (show 0 + (rmN 85).cells ≤ (rmN 84).cells by decide), by rw [E.2.2.2]; exact (show 0 + (rmN 85).slots ≤ (rmN 84).slots by decide)⟩ (Nat.le_of_ble_eq_true rfl) (fun vv s1009 hq => ?_) (fun ee s1009 hq => ?_)
              rotate_left
              · obtain ⟨rfl, e1010, hv, hrs1009, hps1009⟩ := hq; cases hv
              obtain ⟨rfl, e1010, hv, hrs1009, hps1009⟩ := hq
              cases hv
              show WS k 156 [(3, .int (Int32.ofInt (dp + (-1)))), (5, .int (Int32.ofInt (iC t 16 (c).toNat))), (0, .ref (A 19)), (2, .ref (A 151)), (1, .int (Int32.ofInt xv)), (4, .int (Int32.ofInt c))] [.int (Int32.ofInt e1010), .int (Int32.ofInt ((dp + (-1)) - 1)), .ref (A 24)] (Wd A dT t) 0 0
              refine z_ast X 24 (show cdA 84 156 = some (.iastore, 1, 0, 0, 0) from rfl) (by decide) rfl (by first | exact oq_d588e9be g1006 | omega) (show ((dp + (-1)) - 1) < 200 by first | exact oq_f9b4958f hi.2.1.2 | omega) (by decide) ?_
              obtain ⟨s1011, hs1011⟩ : ∃ x0, x0 = uC t 20 (((dp + (-1)) - 1)).toNat (Int32.ofInt e1010) := ⟨_, rfl⟩
              rw [← hs1011]
              have Is1011 : Bd s1011 := by rw [hs1011]; exact bd_C I (show ((-2147483648) : Int) ≤ e1010 ∧ e1010 ≤ 2147483647 by first | exact ⟨hps1009.1, hps1009.2⟩ | omega) hrs1009
              have Fs1011 := fm_C (i := (((dp + (-1)) - 1)).toNat) (x := Int32.ofInt e1010) F (show 20 ∈ _ by decide)
              rw [← hs1011] at Fs1011
              refine z_inc X (x := c) (lv' := [(4, .int (Int32.ofInt (c + 1))), (3, .int (Int32.ofInt (dp + (-1)))), (5, .int (Int32.ofInt (iC t 16 (c).toNat))), (0, .ref (A 19)), (2, .ref (A 151)), (1, .int (Int32.ofInt xv))]) (show cdA 84 157 = some (.iinc 4 1, 3, 0, 0, 0) from rfl) (by decide) (List.Mem.tail _ (List.Mem.tail _ (List.Mem.tail _ (List.Mem.tail _ (List.Mem.tail _ (List.Mem.head _)))))) (fun _ h => h) ?_
              refine z_goto X (t := 28) (show cdA 84 160 = some (.goto (-132), 3, 0, 0, 0) from rfl) (by decide) ?_
              refine WS_lv (lv := [(0, .ref (A 19)), (2, .ref (A 151)), (1, .int (Int32.ofInt xv)), (3, .int (Int32.ofInt (dp + (-1)))), (4, .int (Int32.ofInt (c + 1)))]) (List.forall_mem_cons.mpr ⟨(List.Mem.tail _ (List.Mem.tail _ (List.Mem.tail _ (List.Mem.head _)))), (List.forall_mem_cons.mpr ⟨(List.Mem.tail _ (List.Mem.tail _ (List.Mem.tail _ (List.Mem.tail _ (List.Mem.head _))))), (List.forall_mem_cons.mpr ⟨(List.Mem.tail _ (List.Mem.tail _ (List.Mem.tail _ (List.Mem.tail _ (List.Mem.tail _ (List.Mem.head _)))))), (List.forall_mem_cons.mpr ⟨(List.Mem.tail _ (List.Mem.head _)), (List.forall_mem_cons.mpr ⟨(List.Mem.head _), (fun q h => absurd h List.not_mem_nil)⟩)⟩)⟩)⟩)⟩) ?_
              exact ih _ xv (dp + (-1)) (c + 1) Is1011 Fs1011 (by first | exact ⟨And.intro (hi.1.1) (hi.1.2), And.intro (oq_6c14892a g1006) (oq_af76c38b hi.2.1.2), oq_54f49eb5 hi.2.2.1, oq_228270fa g1002 b1001.2⟩ | omega) (by first | exact qk_me hm (by decide) (oq_b0a4f3e2 g1002 b1001.2) | omega) kx
          ·
            refine z_load_n X (x := dp) (show cdA 84 97 = some (.iload_n 3, 1, 0, 0, 0) from rfl) (List.Mem.tail _ (List.Mem.tail _ (List.Mem.tail _ (List.Mem.tail _ (List.Mem.head _))))) ?_
            refine z_if_le X (t := 157) (show cdA 84 98 = some (.ifCond .le 59, 3, 5, 0, 0) from rfl) (by decide) ⟨by first | exact oq_fa4e5087 hi.2.1.1 | omega, by first | exact oq_52af2b96 hi.2.1.2 | omega⟩ (fun g1012 => ?_) (fun g1012 => ?_)
            ·
              refine z_inc X (x := c) (lv' := [(4, .int (Int32.ofInt (c + 1))), (5, .int (Int32.ofInt (iC t 16 (c).toNat))), (0, .ref (A 19)), (2, .ref (A 151)), (1, .int (Int32.ofInt xv)), (3, .int (Int32.ofInt dp))]) (show cdA 84 157 = some (.iinc 4 1, 3, 0, 0, 0) from rfl) (by decide) (List.Mem.tail _ (List.Mem.tail _ (List.Mem.tail _ (List.Mem.tail _ (List.Mem.tail _ (List.Mem.head _)))))) (fun _ h => h) ?_
              refine z_goto X (t := 28) (show cdA 84 160 = some (.goto (-132), 3, 0, 0, 0) from rfl) (by decide) ?_
              refine WS_lv (lv := [(0, .ref (A 19)), (2, .ref (A 151)), (1, .int (Int32.ofInt xv)), (3, .int (Int32.ofInt dp)), (4, .int (Int32.ofInt (c + 1)))]) (List.forall_mem_cons.mpr ⟨(List.Mem.tail _ (List.Mem.tail _ (List.Mem.head _))), (List.forall_mem_cons.mpr ⟨(List.Mem.tail _ (List.Mem.tail _ (List.Mem.tail _ (List.Mem.head _)))), (List.forall_mem_cons.mpr ⟨(List.Mem.tail _ (List.Mem.tail _ (List.Mem.tail _ (List.Mem.tail _ (List.Mem.head _))))), (List.forall_mem_cons.mpr ⟨(List.Mem.tail _ (List.Mem.tail _ (List.Mem.tail _ (List.Mem.tail _ (List.Mem.tail _ (List.Mem.head _)))))), (List.forall_mem_cons.mpr ⟨(List.Mem.head _), (fun q h => absurd h List.not_mem_nil)⟩)⟩)⟩)⟩)⟩) ?_
              exact ih _ xv dp (c + 1) I F (by first | exact ⟨And.intro (hi.1.1) (hi.1.2), And.intro (hi.2.1.1) (hi.2.1.2), oq_54f49eb5 hi.2.2.1, oq_228270fa g1002 b1001.2⟩ | omega) (by first | exact qk_me hm (by decide) (oq_b0a4f3e2 g1002 b1001.2) | omega) kx
            ·
              refine z_aload_n X (x := A 19) (show cdA 84 101 = some (.aload_n 0, 1, 0, 0, 0) from rfl) (List.Mem.tail _ (List.Mem.head _)) ?_
              refine s_getR X 19 (show cdA 84 102 = some (.getfield 28, 3, 7, 13, 0) from rfl) (by decide) rfl rfl ?_
              refine z_load_n X (x := dp) (show cdA 84 105 = some (.iload_n 3, 1, 0, 0, 0) from rfl) (List.Mem.tail _ (List.Mem.tail _ (List.Mem.tail _ (List.Mem.tail _ (List.Mem.head _))))) ?_
              refine z_const X (show cdA 84 106 = some (.iconst 1, 1, 0, 0, 0) from rfl) ?_
              refine z_sub X (show cdA 84 107 = some (.isub, 1, 0, 0, 0) from rfl) ?_
              refine z_const X (show cdA 84 108 = some (.iconst 1, 1, 0, 0, 0) from rfl) ?_
              refine z_aload_n X (x := A 19) (show cdA 84 109 = some (.aload_n 0, 1, 0, 0, 0) from rfl) (List.Mem.tail _ (List.Mem.head _)) ?_
              refine s_getR X 19 (show cdA 84 110 = some (.getfield 28, 3, 7, 13, 0) from rfl) (by decide) rfl rfl ?_
              refine z_load_n X (x := dp) (show cdA 84 113 = some (.iload_n 3, 1, 0, 0, 0) from rfl) (List.Mem.tail _ (List.Mem.tail _ (List.Mem.tail _ (List.Mem.tail _ (List.Mem.head _))))) ?_
              refine z_const X (show cdA 84 114 = some (.iconst 1, 1, 0, 0, 0) from rfl) ?_
              refine z_sub X (show cdA 84 115 = some (.isub, 1, 0, 0, 0) from rfl) ?_
              refine z_ald X 24 (show cdA 84 116 = some (.iaload, 1, 0, 0, 0) from rfl) (by decide) rfl (by first | exact oq_a4f22177 g1012 | omega) (show (dp - 1) < 200 by first | exact oq_76ad2bb2 hi.2.1.2 | omega) (by decide) ?_
              have b1013 : ((-2147483648) : Int) ≤ iC t 20 ((dp - 1)).toNat ∧ iC t 20 ((dp - 1)).toNat ≤ 2147483647 := I.2 20 _ (show ((dp - 1)).toNat < 200 by first | exact oq_a03494ec hi.2.1.2 | omega)
              refine z_sub X (show cdA 84 117 = some (.isub, 1, 0, 0, 0) from rfl) ?_
              refine z_any (fun y1014 hy1014 => ?_)
              refine z_ast X 24 (show cdA 84 118 = some (.iastore, 1, 0, 0, 0) from rfl) (by decide) rfl (by first | exact oq_a4f22177 g1012 | omega) (show (dp - 1) < 200 by first | exact oq_76ad2bb2 hi.2.1.2 | omega) (by decide) ?_
              obtain ⟨s1015, hs1015⟩ : ∃ x0, x0 = uC t 20 ((dp - 1)).toNat (Int32.ofInt y1014) := ⟨_, rfl⟩
              rw [← hs1015]
              have Is1015 : Bd s1015 := by rw [hs1015]; exact bd_C I (show ((-2147483648) : Int) ≤ y1014 ∧ y1014 ≤ 2147483647 by first | exact ⟨hy1014.1, hy1014.2⟩ | omega) hy1014
              have Fs1015 := fm_C (i := ((dp - 1)).toNat) (x := Int32.ofInt y1014) F (show 20 ∈ _ by decide)
              rw [← hs1015] at Fs1015
              refine z_goto X (t := 157) (show cdA 84 119 = some (.goto 38, 3, 0, 0, 0) from rfl) (by decide) ?_
              refine z_inc X (x := c) (lv' := [(4, .int (Int32.ofInt (c + 1))), (5, .int (Int32.ofInt (iC t 16 (c).toNat))), (0, .ref (A 19)), (2, .ref (A 151)), (1, .int (Int32.ofInt xv)), (3, .int (Int32.ofInt dp))]) (show cdA 84 157 = some (.iinc 4 1, 3, 0, 0, 0) from rfl) (by decide) (List.Mem.tail _ (List.Mem.tail _ (List.Mem.tail _ (List.Mem.tail _ (List.Mem.tail _ (List.Mem.head _)))))) (fun _ h => h) ?_
              refine z_goto X (t := 28) (show cdA 84 160 = some (.goto (-132), 3, 0, 0, 0) from rfl) (by decide) ?_
              refine WS_lv (lv := [(0, .ref (A 19)), (2, .ref (A 151)), (1, .int (Int32.ofInt xv)), (3, .int (Int32.ofInt dp)), (4, .int (Int32.ofInt (c + 1)))]) (List.forall_mem_cons.mpr ⟨(List.Mem.tail _ (List.Mem.tail _ (List.Mem.head _))), (List.forall_mem_cons.mpr ⟨(List.Mem.tail _ (List.Mem.tail _ (List.Mem.tail _ (List.Mem.head _)))), (List.forall_mem_cons.mpr ⟨(List.Mem.tail _ (List.Mem.tail _ (List.Mem.tail _ (List.Mem.tail _ (List.Mem.head _))))), (List.forall_mem_cons.mpr ⟨(List.Mem.tail _ (List.Mem.tail _ (List.Mem.tail _ (List.Mem.tail _ (List.Mem.tail _ (List.Mem.head _)))))), (List.forall_mem_cons.mpr ⟨(List.Mem.head _), (fun q h => absurd h List.not_mem_nil)⟩)⟩)⟩)⟩)⟩) ?_
              exact ih _ xv dp (c + 1) Is1015 Fs1015 (by first | exact ⟨And.intro (hi.1.1) (hi.1.2), And.intro (hi.2.1.1) (hi.2.1.2), oq_54f49eb5 hi.2.2.1, oq_228270fa g1002 b1001.2⟩ | omega) (by first | exact qk_me hm (by decide) (oq_b0a4f3e2 g1002 b1001.2) | omega) kx
        ·
          refine z_load_n X (x := dp) (show cdA 84 55 = some (.iload_n 3, 1, 0, 0, 0) from rfl) (List.Mem.tail _ (List.Mem.tail _ (List.Mem.tail _ (List.Mem.tail _ (List.Mem.head _))))) ?_
          refine z_sipush X (show cdA 84 56 = some (.sipush 200, 3, 0, 0, 200) from rfl) ?_
          refine z_icmp_ge X (t := 157) (show cdA 84 59 = some (.if_icmp .ge 98, 3, 3, 0, 0) from rfl) (by decide) ⟨by first | exact oq_fa4e5087 hi.2.1.1 | omega, by first | exact oq_52af2b96 hi.2.1.2 | omega⟩ (by decide) (fun g1016 => ?_) (fun g1016 => ?_)
          ·
            refine z_inc X (x := c) (lv' := [(4, .int (Int32.ofInt (c + 1))), (5, .int (Int32.ofInt (iC t 16 (c).toNat))), (0, .ref (A 19)), (2, .ref (A 151)), (1, .int (Int32.ofInt xv)), (3, .int (Int32.ofInt dp))]) (show cdA 84 157 = some (.iinc 4 1, 3, 0, 0, 0) from rfl) (by decide) (List.Mem.tail _ (List.Mem.tail _ (List.Mem.tail _ (List.Mem.tail _ (List.Mem.tail _ (List.Mem.head _)))))) (fun _ h => h) ?_
            refine z_goto X (t := 28) (show cdA 84 160 = some (.goto (-132), 3, 0, 0, 0) from rfl) (by decide) ?_
            refine WS_lv (lv := [(0, .ref (A 19)), (2, .ref (A 151)), (1, .int (Int32.ofInt xv)), (3, .int (Int32.ofInt dp)), (4, .int (Int32.ofInt (c + 1)))]) (List.forall_mem_cons.mpr ⟨(List.Mem.tail _ (List.Mem.tail _ (List.Mem.head _))), (List.forall_mem_cons.mpr ⟨(List.Mem.tail _ (List.Mem.tail _ (List.Mem.tail _ (List.Mem.head _)))), (List.forall_mem_cons.mpr ⟨(List.Mem.tail _ (List.Mem.tail _ (List.Mem.tail _ (List.Mem.tail _ (List.Mem.head _))))), (List.forall_mem_cons.mpr ⟨(List.Mem.tail _ (List.Mem.tail _ (List.Mem.tail _ (List.Mem.tail _ (List.Mem.tail _ (List.Mem.head _)))))), (List.forall_mem_cons.mpr ⟨(List.Mem.head _), (fun q h => absurd h List.not_mem_nil)⟩)⟩)⟩)⟩)⟩) ?_
            exact ih _ xv dp (c + 1) I F (by first | exact ⟨And.intro (hi.1.1) (hi.1.2), And.intro (hi.2.1.1) (hi.2.1.2), oq_54f49eb5 hi.2.2.1, oq_228270fa g1002 b1001.2⟩ | omega) (by first | exact qk_me hm (by decide) (oq_b0a4f3e2 g1002 b1001.2) | omega) kx
          ·
            refine z_aload_n X (x := A 19) (show cdA 84 62 = some (.aload_n 0, 1, 0, 0, 0) from rfl) (List.Mem.tail _ (List.Mem.head _)) ?_
            refine s_getR X 19 (show cdA 84 63 = some (.getfield 28, 3, 7, 13, 0) from rfl) (by decide) rfl rfl ?_
            refine z_load_n X (x := dp) (show cdA 84 66 = some (.iload_n 3, 1, 0, 0, 0) from rfl) (List.Mem.tail _ (List.Mem.tail _ (List.Mem.tail _ (List.Mem.tail _ (List.Mem.head _))))) ?_
            refine z_load X (x := (iC t 16 (c).toNat)) (show cdA 84 67 = some (.iload 5, 2, 0, 0, 0) from rfl) (List.Mem.head _) ?_
            have N1017 : ∀ e1018 : Int, ((((iC t 16 (c).toNat) < 0) ∧ (((-2147483648) : Int) ≤ iC t 132 (((-1) - (iC t 16 (c).toNat))).toNat ∧ iC t 132 (((-1) - (iC t 16 (c).toNat))).toNat ≤ 2147483647) ∧ e1018 = (iC t 132 (((-1) - (iC t 16 (c).toNat))).toNat)) ∨ ((0 ≤ (iC t 16 (c).toNat)) ∧ e1018 = (iC t 16 (c).toNat))) → WS k 83 [(5, .int (Int32.ofInt (iC t 16 (c).toNat))), (0, .ref (A 19)), (2, .ref (A 151)), (1, .int (Int32.ofInt xv)), (3, .int (Int32.ofInt dp)), (4, .int (Int32.ofInt c))] [.int (Int32.ofInt e1018), .int (Int32.ofInt dp), .ref (A 24)] (Wd A dT t) 0 0 := by
              intro e1018 he1018
              refine z_ast X 24 (show cdA 84 83 = some (.iastore, 1, 0, 0, 0) from rfl) (by decide) rfl (by first | exact hi.2.1.1 | omega) (show dp < 200 by first | exact g1016 | omega) (by decide) ?_
              obtain ⟨s1019, hs1019⟩ : ∃ x0, x0 = uC t 20 (dp).toNat (Int32.ofInt e1018) := ⟨_, rfl⟩
              rw [← hs1019]
              have Is1019 : Bd s1019 := by rw [hs1019]; exact bd_C I (show ((-2147483648) : Int) ≤ e1018 ∧ e1018 ≤ 2147483647 by first | exact ⟨oq_05aece2f he1018, oq_93cedf2b he1018 b1003.2⟩ | omega) ⟨by first | exact oq_05aece2f he1018 | omega, by first | exact oq_93cedf2b he1018 b1003.2 | omega⟩
              have Fs1019 := fm_C (i := (dp).toNat) (x := Int32.ofInt e1018) F (show 20 ∈ _ by decide)
              rw [← hs1019] at Fs1019
              refine z_inc X (x := dp) (lv' := [(3, .int (Int32.ofInt (dp + 1))), (5, .int (Int32.ofInt (iC t 16 (c).toNat))), (0, .ref (A 19)), (2, .ref (A 151)), (1, .int (Int32.ofInt xv)), (4, .int (Int32.ofInt c))]) (show cdA 84 84 = some (.iinc 3 1, 3, 0, 0, 0) from rfl) (by decide) (List.Mem.tail _ (List.Mem.tail _ (List.Mem.tail _ (List.Mem.tail _ (List.Mem.head _))))) (fun _ h => h) ?_
              refine z_goto X (t := 157) (show cdA 84 87 = some (.goto 70, 3, 0, 0, 0) from rfl) (by decide) ?_
              refine z_inc X (x := c) (lv' := [(4, .int (Int32.ofInt (c + 1))), (3, .int (Int32.ofInt (dp + 1))), (5, .int (Int32.ofInt (iC t 16 (c).toNat))), (0, .ref (A 19)), (2, .ref (A 151)), (1, .int (Int32.ofInt xv))]) (show cdA 84 157 = some (.iinc 4 1, 3, 0, 0, 0) from rfl) (by decide) (List.Mem.tail _ (List.Mem.tail _ (List.Mem.tail _ (List.Mem.tail _ (List.Mem.tail _ (List.Mem.head _)))))) (fun _ h => h) ?_
              refine z_goto X (t := 28) (show cdA 84 160 = some (.goto (-132), 3, 0, 0, 0) from rfl) (by decide) ?_
              refine WS_lv (lv := [(0, .ref (A 19)), (2, .ref (A 151)), (1, .int (Int32.ofInt xv)), (3, .int (Int32.ofInt (dp + 1))), (4, .int (Int32.ofInt (c + 1)))]) (List.forall_mem_cons.mpr ⟨(List.Mem.tail _ (List.Mem.tail _ (List.Mem.tail _ (List.Mem.head _)))), (List.forall_mem_cons.mpr ⟨(List.Mem.tail _ (List.Mem.tail _ (List.Mem.tail _ (List.Mem.tail _ (List.Mem.head _))))), (List.forall_mem_cons.mpr ⟨(List.Mem.tail _ (List.Mem.tail _ (List.Mem.tail _ (List.Mem.tail _ (List.Mem.tail _ (List.Mem.head _)))))), (List.forall_mem_cons.mpr ⟨(List.Mem.tail _ (List.Mem.head _)), (List.forall_mem_cons.mpr ⟨(List.Mem.head _), (fun q h => absurd h List.not_mem_nil)⟩)⟩)⟩)⟩)⟩) ?_
              exact ih _ xv (dp + 1) (c + 1) Is1019 Fs1019 (by first | exact ⟨And.intro (hi.1.1) (hi.1.2), And.intro (oq_54f49eb5 hi.2.1.1) (oq_0cb6ab8a g1016), oq_54f49eb5 hi.2.2.1, oq_228270fa g1002 b1001.2⟩ | omega) (by first | exact qk_me hm (by decide) (oq_b0a4f3e2 g1002 b1001.2) | omega) kx
            refine z_if_lt X (t := 77) (show cdA 84 69 = some (.ifCond .lt 8, 3, 2, 0, 0) from rfl) (by decide) (rng_to _) (fun g1020 => ?_) (fun g1020 => ?_)
            ·
              refine z_aload_n X (x := A 151) (show cdA 84 77 = some (.aload_n 2, 1, 0, 0, 0) from rfl) (List.Mem.tail _ (List.Mem.tail _ (List.Mem.head _))) ?_
              refine z_const X (show cdA 84 78 = some (.iconst (-1), 1, 0, 0, 0) from rfl) ?_
              refine z_load X (x := (iC t 16 (c).toNat)) (show cdA 84 79 = some (.iload 5, 2, 0, 0, 0) from rfl) (List.Mem.head _) ?_
              refine z_sub X (show cdA 84 81 = some (.isub, 1, 0, 0, 0) from rfl) ?_
              refine z_ald X 151 (show cdA 84 82 = some (.iaload, 1, 0, 0, 0) from rfl) (by decide) rfl (by first | exact oq_c38d07c4 g1020 | omega) (show ((-1) - (iC t 16 (c).toNat)) < 7 by first | exact oq_a1f4cde5 g1004 | omega) (by decide) ?_
              have b1021 : ((-2147483648) : Int) ≤ iC t 132 (((-1) - (iC t 16 (c).toNat))).toNat ∧ iC t 132 (((-1) - (iC t 16 (c).toNat))).toNat ≤ 2147483647 := I.2 132 _ (show (((-1) - (iC t 16 (c).toNat))).toNat < 7 by first | exact oq_91b916ba g1004 | omega)
              exact N1017 _ (Or.inl ⟨g1020, b1021, rfl⟩)
            ·
              refine z_load X (x := (iC t 16 (c).toNat)) (show cdA 84 72 = some (.iload 5, 2, 0, 0, 0) from rfl) (List.Mem.head _) ?_
              refine z_goto X (t := 83) (show cdA 84 74 = some (.goto 9, 3, 0, 0, 0) from rfl) (by decide) ?_
              exact N1017 _ (Or.inr (⟨g1020, rfl⟩))
  refine z_load_n X (x := x) (show cdA 84 0 = some (.iload_n 1, 1, 0, 0, 0) from rfl) (List.Mem.tail _ (List.Mem.head _)) ?_
  refine z_const X (show cdA 84 1 = some (.iconst (-1), 1, 0, 0, 0) from rfl) ?_
  refine z_icmp_ne X (t := 19) (show cdA 84 2 = some (.if_icmp .ne 17, 3, 1, 0, 0) from rfl) (by decide) ⟨by first | exact oq_97ee2c2a p0.1 | omega, by first | exact oq_0e78ca7d p0.2 | omega⟩ (by decide) (fun g1 => ?_) (fun g1 => ?_)
  ·
    refine z_const X (show cdA 84 19 = some (.iconst 0, 1, 0, 0, 0) from rfl) ?_
    refine z_store_n X (lv' := [(3, .int (Int32.ofInt 0)), (0, .ref (A 19)), (1, .int (Int32.ofInt x)), (2, .ref (A 151))]) (show cdA 84 20 = some (.istore_n 3, 1, 0, 0, 0) from rfl) (by decide) (fun _ h => h) ?_
    refine z_aload_n X (x := A 19) (show cdA 84 21 = some (.aload_n 0, 1, 0, 0, 0) from rfl) (List.Mem.tail _ (List.Mem.head _)) ?_
    refine z_load_n X (x := x) (show cdA 84 22 = some (.iload_n 1, 1, 0, 0, 0) from rfl) (List.Mem.tail _ (List.Mem.tail _ (List.Mem.head _))) ?_
    refine z_callV X 19 (rm := rmN 70) (As := [.int (Int32.ofInt x)]) (st := []) (show cdA 84 23 = some (.invokevirtual 70, 3, 70, 0, 0) from rfl) rfl (by decide) rfl (by rw [E.1, E.2.1, E.2.2.1]; exact c7_beginOf_19 G I (by first | exact ⟨oq_7a1025bf g1 p0.1, p0.2⟩ | omega)) ⟨by rw [E.2.2.2]; exact (show (rmN 70).frames + 1 ≤ (rmN 84).frames by decide), by rw [E.2.2.2]; exact (show 8 + (mNL (miB 70) + 11) + (rmN 70).locals ≤ (rmN 84).locals by decide), by rw [E.2.2.2]; exact (show 0 + (rmN 70).cells ≤ (rmN 84).cells by decide), by rw [E.2.2.2]; exact (show 0 + (rmN 70).slots ≤ (rmN 84).slots by decide)⟩ (Nat.le_of_ble_eq_true rfl) (fun vv s2 hq => ?_) (fun ee s2 hq => ?_)
    rotate_left
    · obtain ⟨Is2, Fs2, e3, hv, hrs2, hps2⟩ := hq; cases hv
    obtain ⟨Is2, Fs2, e3, hv, hrs2, hps2⟩ := hq
    cases hv
    have Gs2 := fm_ts F Fs2 (by decide) (by decide)
    show WS k 26 [(3, .int (Int32.ofInt 0)), (0, .ref (A 19)), (1, .int (Int32.ofInt x)), (2, .ref (A 151))] [.int (Int32.ofInt e3)] (Wd A dT s2) 0 0
    refine z_store X (lv' := [(4, .int (Int32.ofInt e3)), (3, .int (Int32.ofInt 0)), (0, .ref (A 19)), (1, .int (Int32.ofInt x)), (2, .ref (A 151))]) (show cdA 84 26 = some (.istore 4, 2, 0, 0, 0) from rfl) (by decide) (fun _ h => h) ?_
    refine WS_lv (lv := [(0, .ref (A 19)), (2, .ref (A 151)), (1, .int (Int32.ofInt x)), (3, .int (Int32.ofInt 0)), (4, .int (Int32.ofInt e3))]) (List.forall_mem_cons.mpr ⟨(List.Mem.tail _ (List.Mem.tail _ (List.Mem.head _))), (List.forall_mem_cons.mpr ⟨(List.Mem.tail _ (List.Mem.tail _ (List.Mem.tail _ (List.Mem.tail _ (List.Mem.head _))))), (List.forall_mem_cons.mpr ⟨(List.Mem.tail _ (List.Mem.tail _ (List.Mem.tail _ (List.Mem.head _)))), (List.forall_mem_cons.mpr ⟨(List.Mem.tail _ (List.Mem.head _)), (List.forall_mem_cons.mpr ⟨(List.Mem.head _), (fun q h => absurd h List.not_mem_nil)⟩)⟩)⟩)⟩)⟩) ?_
    refine L28 ((200 - e3 : Int).toNat + 1) s2 x 0 e3 Is2 Gs2 (by first | exact ⟨oq_b629d6d6 g1 p0.2 p0.1, And.intro (by decide) (by decide), hps2.1, hps2.2⟩ | omega) (Nat.lt_succ_self _) ?_
    intro s4 x5 x6 Is4 Fs4 hs4
    refine z_aload_n X (x := A 19) (show cdA 84 163 = some (.aload_n 0, 1, 0, 0, 0) from rfl) (List.Mem.head _) ?_
    refine s_getR X 19 (show cdA 84 164 = some (.getfield 28, 3, 7, 13, 0) from rfl) (by decide) rfl rfl ?_
    refine z_const X (show cdA 84 167 = some (.iconst 0, 1, 0, 0, 0) from rfl) ?_
    refine z_ald X 24 (show cdA 84 168 = some (.iaload, 1, 0, 0, 0) from rfl) (by decide) rfl (by decide) (show 0 < 200 by decide) (by decide) ?_
    have b7 : ((-2147483648) : Int) ≤ iC s4 20 (0 : Int).toNat ∧ iC s4 20 (0 : Int).toNat ≤ 2147483647 := Is4.2 20 _ (show (0 : Int).toNat < 200 by first | exact oq_e7d7c2b9 | omega)
    exact w_iret X.1 q hRt rfl (ax_d X (show cdA 84 169 = some (.ireturn, 1, 0, 0, 0) from rfl)) (Nat.zero_le _) (Nat.zero_le _) ⟨_, rfl, Is4, Fs4, (iC s4 20 (0 : Int).toNat), rfl, (rng_to _), trivial⟩
  ·
    refine z_aload_n X (x := A 151) (show cdA 84 5 = some (.aload_n 2, 1, 0, 0, 0) from rfl) (List.Mem.tail _ (List.Mem.tail _ (List.Mem.head _))) ?_
    refine z_const X (show cdA 84 6 = some (.iconst 0, 1, 0, 0, 0) from rfl) ?_
    refine z_ald X 151 (show cdA 84 7 = some (.iaload, 1, 0, 0, 0) from rfl) (by decide) rfl (by decide) (show 0 < 7 by decide) (by decide) ?_
    have b8 : ((-2147483648) : Int) ≤ iC s 132 (0 : Int).toNat ∧ iC s 132 (0 : Int).toNat ≤ 2147483647 := I.2 132 _ (show (0 : Int).toNat < 7 by first | exact oq_e8ec3fa8 | omega)
    refine z_const X (show cdA 84 8 = some (.iconst 2, 1, 0, 0, 0) from rfl) ?_
    refine z_aload_n X (x := A 151) (show cdA 84 9 = some (.aload_n 2, 1, 0, 0, 0) from rfl) (List.Mem.tail _ (List.Mem.tail _ (List.Mem.head _))) ?_
    refine z_const X (show cdA 84 10 = some (.iconst 1, 1, 0, 0, 0) from rfl) ?_
    refine z_ald X 151 (show cdA 84 11 = some (.iaload, 1, 0, 0, 0) from rfl) (by decide) rfl (by decide) (show 1 < 7 by decide) (by decide) ?_
    have b9 : ((-2147483648) : Int) ≤ iC s 132 (1 : Int).toNat ∧ iC s 132 (1 : Int).toNat ≤ 2147483647 := I.2 132 _ (show (1 : Int).toNat < 7 by first | exact oq_a32b659c | omega)
    refine z_mul X (show cdA 84 12 = some (.imul, 1, 0, 0, 0) from rfl) ?_
    refine z_any (fun y10 hy10 => ?_)
    refine z_add X (show cdA 84 13 = some (.iadd, 1, 0, 0, 0) from rfl) ?_
    refine z_any (fun y11 hy11 => ?_)
    refine z_aload_n X (x := A 151) (show cdA 84 14 = some (.aload_n 2, 1, 0, 0, 0) from rfl) (List.Mem.tail _ (List.Mem.tail _ (List.Mem.head _))) ?_
    refine z_const X (show cdA 84 15 = some (.iconst 2, 1, 0, 0, 0) from rfl) ?_
    refine z_ald X 151 (show cdA 84 16 = some (.iaload, 1, 0, 0, 0) from rfl) (by decide) rfl (by decide) (show 2 < 7 by decide) (by decide) ?_
    have b12 : ((-2147483648) : Int) ≤ iC s 132 (2 : Int).toNat ∧ iC s 132 (2 : Int).toNat ≤ 2147483647 := I.2 132 _ (show (2 : Int).toNat < 7 by first | exact oq_62527c24 | omega)
    refine z_add X (show cdA 84 17 = some (.iadd, 1, 0, 0, 0) from rfl) ?_
    refine z_any (fun y13 hy13 => ?_)
    exact w_iret X.1 q hRt rfl (ax_d X (show cdA 84 18 = some (.ireturn, 1, 0, 0, 0) from rfl)) (Nat.zero_le _) (Nat.zero_le _) ⟨_, rfl, I, F, y13, rfl, hy13, trivial⟩
set_option maxRecDepth 4000 in
theorem c0_loadAt_143 (G : GX l s0 D tys a0 dT) (I : Bd s) {x y : Int} (p0 : 0 ≤ x ∧ x ≤ 23) (p1 : rng y) : CT l s0 D A dT 4 (rmN 4) [.ref (A 143), .int (Int32.ofInt x), .int (Int32.ofInt y)] s (fun o t => Bd t ∧ Fm [] [132, 20] s t ∧ ∃ e, o = .inl (some (.int (Int32.ofInt e))) ∧ rng e ∧ (True)) := by
  refine ct_ofX G (by decide) (Nat.le_of_ble_eq_true rfl) (fun k X E ET hRt hXt q => ?_)
  show WS k 0 [(0, .ref (A 143)), (1, .int (Int32.ofInt x)), (2, .int (Int32.ofInt y))] [] _ 0 0
  have F : Fm [] [132, 20] s s := fm_rf _ _ s
  refine z_aload_n X (x := A 143) (show cdA 4 0 = some (.aload_n 0, 1, 0, 0, 0) from rfl) (List.Mem.head _) ?_
  refine z_load_n X (x := x) (show cdA 4 1 = some (.iload_n 1, 1, 0, 0, 0) from rfl) (List.Mem.tail _ (List.Mem.head _)) ?_
  refine z_load_n X (x := y) (show cdA 4 2 = some (.iload_n 2, 1, 0, 0, 0) from rfl) (List.Mem.tail _ (List.Mem.tail _ (List.Mem.head _))) ?_
  refine z_callV X 143 (rm := rmN 3) (As := [.int (Int32.ofInt x), .int (Int32.ofInt y)]) (st := []) (show cdA 4 3 = some (.invokevirtual 96, 3, 3, 0, 0) from rfl) rfl (by decide) rfl (by rw [E.1, E.2.1, E.2.2.1]; exact c0_hear_143 G I (by first | exact ⟨p0.1, p0.2⟩ | omega) (by first | exact ⟨p1.1, p1.2⟩ | omega)) ⟨by rw [E.2.2.2]; exact (show (rmN 3).frames + 1 ≤ (rmN 4).frames by decide), by rw [E.2.2.2]; exact (show 8 + (mNL (miB 3) + 11) + (rmN 3).locals ≤ (rmN 4).locals by decide), by rw [E.2.2.2]; exact (show 0 + (rmN 3).cells ≤ (rmN 4).cells by decide), by rw [E.2.2.2]; exact (show 0 + (rmN 3).slots ≤ (rmN 4).slots by decide)⟩ (Nat.le_of_ble_eq_true rfl) (fun vv s1 hq => ?_) (fun ee s1 hq => ?_)
  rotate_left
  · obtain ⟨Is1, Fs1, hv, hps1⟩ := hq; cases hv
  obtain ⟨Is1, Fs1, hv, hps1⟩ := hq
  cases hv
  have Gs1 := fm_ts F Fs1 (by decide) (by decide)
  show WS k 6 [(0, .ref (A 143)), (1, .int (Int32.ofInt x)), (2, .int (Int32.ofInt y))] [] (Wd A dT s1) 0 0
  refine z_aload_n X (x := A 143) (show cdA 4 6 = some (.aload_n 0, 1, 0, 0, 0) from rfl) (List.Mem.head _) ?_
  refine s_getR X 143 (show cdA 4 7 = some (.getfield 47, 3, 0, 1, 0) from rfl) (by decide) rfl rfl ?_
  refine z_aload_n X (x := A 143) (show cdA 4 10 = some (.aload_n 0, 1, 0, 0, 0) from rfl) (List.Mem.head _) ?_
  refine s_getR X 143 (show cdA 4 11 = some (.getfield 47, 3, 0, 1, 0) from rfl) (by decide) rfl rfl ?_
  refine z_getI X 19 (show cdA 4 14 = some (.getfield 100, 3, 7, 4, 0) from rfl) (by decide) rfl rfl ?_
  have b3 : ((-1) : Int) ≤ iI s1 13 ∧ iI s1 13 ≤ 7 := Is1.1 13
  refine z_aload_n X (x := A 143) (show cdA 4 17 = some (.aload_n 0, 1, 0, 0, 0) from rfl) (List.Mem.head _) ?_
  refine s_getR X 143 (show cdA 4 18 = some (.getfield 37, 3, 0, 11, 0) from rfl) (by decide) rfl rfl ?_
  refine z_callV X 19 (rm := rmN 84) (As := [.int (Int32.ofInt (iI s1 13)), .ref (A 151)]) (st := []) (show cdA 4 21 = some (.invokevirtual 103, 3, 84, 0, 0) from rfl) rfl (by decide) rfl (by rw [E.1, E.2.1, E.2.2.1]; exact c7_work_143 G Is1 (by first | exact ⟨b3.1, b3.2⟩ | omega)) ⟨by rw [E.2.2.2]; exact (show (rmN 84).frames + 1 ≤ (rmN 4).frames by decide), by rw [E.2.2.2]; exact (show 8 + (mNL (miB 84) + 11) + (rmN 84).locals ≤ (rmN 4).locals by decide), by rw [E.2.2.2]; exact (show 0 + (rmN 84).cells ≤ (rmN 4).cells by decide), by rw [E.2.2.2]; exact (show 0 + (rmN 84).slots ≤ (rmN 4).slots by decide)⟩ (Nat.le_of_ble_eq_true rfl) (fun vv s4 hq => ?_) (fun ee s4 hq => ?_)
  rotate_left
  · obtain ⟨Is4, Fs4, e5, hv, hrs4, hps4⟩ := hq; cases hv
  obtain ⟨Is4, Fs4, e5, hv, hrs4, hps4⟩ := hq
  cases hv
  have Gs4 := fm_ts Gs1 Fs4 (by decide) (by decide)
  show WS k 24 [(0, .ref (A 143)), (1, .int (Int32.ofInt x)), (2, .int (Int32.ofInt y))] [.int (Int32.ofInt e5)] (Wd A dT s4) 0 0
  exact w_iret X.1 q hRt rfl (ax_d X (show cdA 4 24 = some (.ireturn, 1, 0, 0, 0) from rfl)) (Nat.zero_le _) (Nat.zero_le _) ⟨_, rfl, Is4, Gs4, e5, rfl, hrs4, trivial⟩
set_option maxRecDepth 4000 in
theorem c0_followSteps_153 (G : GX l s0 D tys a0 dT) (I : Bd s) {x : Int} {aj bj : Int64} (p0 : 0 ≤ x ∧ x ≤ 11) (p1 : iI s 64 ≤ 11) : CT l s0 D A dT 2 (rmN 2) [.ref (A 153), .int (Int32.ofInt x), .long aj, .long bj] s (fun o t => Bd t ∧ Fm [] [135, 136, 137] s t ∧ o = .inl none ∧ (True)) := by
  refine ct_ofX G (by decide) (Nat.le_of_ble_eq_true rfl) (fun k X E ET hRt hXt q => ?_)
  show WS k 0 [(0, .ref (A 153)), (1, .int (Int32.ofInt x)), (2, .long aj), (4, .long bj)] [] _ 0 0
  have F : Fm [] [135, 136, 137] s s := fm_rf _ _ s
  have b1 : (0 : Int) ≤ iI s 64 ∧ iI s 64 ≤ 12 := I.1 64
  have L12 : ∀ (n : Nat) (t : PS) (xv : Int) (av : Int64) (bv : Int64) (ov : Int) (wi : Int) (cl : Int) (kd : Int), Bd t → Fm [] [135, 136, 137] s t → ((0 ≤ xv ∧ xv ≤ 11) ∧ rng ov ∧ rng wi ∧ rng cl ∧ 0 ≤ kd ∧ kd ≤ 5 ∧ iI t 64 ≤ 11) → (5 - kd : Int).toNat < n → (∀ (t' : PS) (ov' : Int) (wi' : Int) (cl' : Int) (kd' : Int), Bd t' → Fm [] [135, 136, 137] s t' → ((0 ≤ xv ∧ xv ≤ 11) ∧ rng ov' ∧ rng wi' ∧ rng cl' ∧ 0 ≤ kd' ∧ kd' ≤ 5 ∧ iI t' 64 ≤ 11) → WS k 148 [(0, .ref (A 153)), (1, .int (Int32.ofInt xv)), (2, .long av), (4, .long bv), (6, .int (Int32.ofInt ov')), (7, .int (Int32.ofInt wi')), (8, .int (Int32.ofInt cl')), (9, .int (Int32.ofInt kd'))] [] (Wd A dT t') 0 0) → WS k 12 [(0, .ref (A 153)), (1, .int (Int32.ofInt xv)), (2, .long av), (4, .long bv), (6, .int (Int32.ofInt ov)), (7, .int (Int32.ofInt wi)), (8, .int (Int32.ofInt cl)), (9, .int (Int32.ofInt kd))] [] (Wd A dT t) 0 0 := by
    intro n
    induction n with
    | zero =>
      intro t xv av bv ov wi cl kd I F hi hm kx
      exact absurd hm (Nat.not_lt_zero _)
    | succ n ih =>
      intro t xv av bv ov wi cl kd I F hi hm kx
      have b1001 : (0 : Int) ≤ iI t 64 ∧ iI t 64 ≤ 12 := I.1 64
      refine z_load X (x := kd) (show cdA 2 12 = some (.iload 9, 2, 0, 0, 0) from rfl) (List.Mem.tail _ (List.Mem.tail _ (List.Mem.tail _ (List.Mem.tail _ (List.Mem.tail _ (List.Mem.tail _ (List.Mem.tail _ (List.Mem.head _)))))))) ?_
      refine z_const X (show cdA 2 14 = some (.iconst 5, 1, 0, 0, 0) from rfl) ?_
      refine z_icmp_ge X (t := 148) (show cdA 2 15 = some (.if_icmp .ge 133, 3, 3, 0, 0) from rfl) (by decide) ⟨by first | exact oq_fa4e5087 hi.2.2.2.2.1 | omega, by first | exact oq_a3dd55e5 hi.2.2.2.2.2.1 | omega⟩ (by decide) (fun g1002 => ?_) (fun g1002 => ?_)
      ·
        refine WS_lv (lv := [(0, .ref (A 153)), (1, .int (Int32.ofInt xv)), (2, .long av), (4, .long bv), (6, .int (Int32.ofInt ov)), (7, .int (Int32.ofInt wi)), (8, .int (Int32.ofInt cl)), (9, .int (Int32.ofInt kd))]) (List.forall_mem_cons.mpr ⟨(List.Mem.head _), (List.forall_mem_cons.mpr ⟨(List.Mem.tail _ (List.Mem.head _)), (List.forall_mem_cons.mpr ⟨(List.Mem.tail _ (List.Mem.tail _ (List.Mem.head _))), (List.forall_mem_cons.mpr ⟨(List.Mem.tail _ (List.Mem.tail _ (List.Mem.tail _ (List.Mem.head _)))), (List.forall_mem_cons.mpr ⟨(List.Mem.tail _ (List.Mem.tail _ (List.Mem.tail _ (List.Mem.tail _ (List.Mem.head _))))), (List.forall_mem_cons.mpr ⟨(List.Mem.tail _ (List.Mem.tail _ (List.Mem.tail _ (List.Mem.tail _ (List.Mem.tail _ (List.Mem.head _)))))), (List.forall_mem_cons.mpr ⟨(List.Mem.tail _ (List.Mem.tail _ (List.Mem.tail _ (List.Mem.tail _ (List.Mem.tail _ (List.Mem.tail _ (List.Mem.head _))))))), (List.forall_mem_cons.mpr ⟨(List.Mem.tail _ (List.Mem.tail _ (List.Mem.tail _ (List.Mem.tail _ (List.Mem.tail _ (List.Mem.tail _ (List.Mem.tail _ (List.Mem.head _)))))))), (fun q h => absurd h List.not_mem_nil)⟩)⟩)⟩)⟩)⟩)⟩)⟩)⟩) ?_
        exact kx _ ov wi cl kd I F (by first | exact ⟨And.intro (hi.1.1) (hi.1.2), And.intro (hi.2.1.1) (hi.2.1.2), And.intro (hi.2.2.1.1) (hi.2.2.1.2), And.intro (hi.2.2.2.1.1) (hi.2.2.2.1.2), hi.2.2.2.2.1, hi.2.2.2.2.2.1, hi.2.2.2.2.2.2⟩ | omega)
      ·
        refine z_aload_n X (x := A 153) (show cdA 2 18 = some (.aload_n 0, 1, 0, 0, 0) from rfl) (List.Mem.head _) ?_
        refine s_getR X 153 (show cdA 2 19 = some (.getfield 43, 3, 0, 0, 0) from rfl) (by decide) rfl rfl ?_
        refine s_getR X 68 (show cdA 2 22 = some (.getfield 84, 3, 9, 5, 0) from rfl) (by decide) rfl rfl ?_
        refine z_load_n X (x := xv) (show cdA 2 25 = some (.iload_n 1, 1, 0, 0, 0) from rfl) (List.Mem.tail _ (List.Mem.head _)) ?_
        refine z_const X (show cdA 2 26 = some (.iconst 5, 1, 0, 0, 0) from rfl) ?_
        refine z_mul X (show cdA 2 27 = some (.imul, 1, 0, 0, 0) from rfl) ?_
        refine z_load X (x := kd) (show cdA 2 28 = some (.iload 9, 2, 0, 0, 0) from rfl) (List.Mem.tail _ (List.Mem.tail _ (List.Mem.tail _ (List.Mem.tail _ (List.Mem.tail _ (List.Mem.tail _ (List.Mem.tail _ (List.Mem.head _)))))))) ?_
        refine z_add X (show cdA 2 30 = some (.iadd, 1, 0, 0, 0) from rfl) ?_
        refine z_lald X 73 (show cdA 2 31 = some (.laload, 1, 0, 0, 0) from rfl) (by decide) rfl (by first | exact oq_59a253bd hi.1.1 hi.2.2.2.2.1 | omega) (show ((xv * 5) + kd) < 60 by first | exact oq_7279bf48 hi.1.2 g1002 | omega) (by decide) (fun j1003 => ?_)
        refine w_lstore X.1 (lv' := [(10, .long j1003), (0, .ref (A 153)), (1, .int (Int32.ofInt xv)), (2, .long av), (4, .long bv), (6, .int (Int32.ofInt ov)), (7, .int (Int32.ofInt wi)), (8, .int (Int32.ofInt cl)), (9, .int (Int32.ofInt kd))]) (ax_d X (show cdA 2 32 = some (.lstore 10, 2, 0, 0, 0) from rfl)) (by rw [X.2.1.2.2]; decide) (fun _ h => h) ?_
        refine w_lload X.1 (ax_d X (show cdA 2 34 = some (.lload 10, 2, 0, 0, 0) from rfl)) (x := j1003) (List.Mem.head _) ?_
        refine w_lconst X.1 (ax_d X (show cdA 2 36 = some (.lconst 0, 1, 0, 0, 0) from rfl)) rfl ?_
        refine z_anyJ (fun j1004 => ?_)
        refine w_lcmp X.1 (ax_d X (show cdA 2 37 = some (.lcmp, 1, 0, 0, 0) from rfl)) ?_
        refine z_any (fun y1005 hy1005 => ?_)
        refine z_if_eq X (t := 142) (show cdA 2 38 = some (.ifCond .eq 104, 3, 0, 0, 0) from rfl) (by decide) hy1005 (fun g1006 => ?_) (fun g1006 => ?_)
        ·
          refine z_inc X (x := kd) (lv' := [(9, .int (Int32.ofInt (kd + 1))), (10, .long j1003), (0, .ref (A 153)), (1, .int (Int32.ofInt xv)), (2, .long av), (4, .long bv), (6, .int (Int32.ofInt ov)), (7, .int (Int32.ofInt wi)), (8, .int (Int32.ofInt cl))]) (show cdA 2 142 = some (.iinc 9 1, 3, 0, 0, 0) from rfl) (by decide) (List.Mem.tail _ (List.Mem.tail _ (List.Mem.tail _ (List.Mem.tail _ (List.Mem.tail _ (List.Mem.tail _ (List.Mem.tail _ (List.Mem.tail _ (List.Mem.head _))))))))) (fun _ h => h) ?_
          refine z_goto X (t := 12) (show cdA 2 145 = some (.goto (-133), 3, 0, 0, 0) from rfl) (by decide) ?_
          refine WS_lv (lv := [(0, .ref (A 153)), (1, .int (Int32.ofInt xv)), (2, .long av), (4, .long bv), (6, .int (Int32.ofInt ov)), (7, .int (Int32.ofInt wi)), (8, .int (Int32.ofInt cl)), (9, .int (Int32.ofInt (kd + 1)))]) (List.forall_mem_cons.mpr ⟨(List.Mem.tail _ (List.Mem.tail _ (List.Mem.head _))), (List.forall_mem_cons.mpr ⟨(List.Mem.tail _ (List.Mem.tail _ (List.Mem.tail _ (List.Mem.head _)))), (List.forall_mem_cons.mpr ⟨(List.Mem.tail _ (List.Mem.tail _ (List.Mem.tail _ (List.Mem.tail _ (List.Mem.head _))))), (List.forall_mem_cons.mpr ⟨(List.Mem.tail _ (List.Mem.tail _ (List.Mem.tail _ (List.Mem.tail _ (List.Mem.tail _ (List.Mem.head _)))))), (List.forall_mem_cons.mpr ⟨(List.Mem.tail _ (List.Mem.tail _ (List.Mem.tail _ (List.Mem.tail _ (List.Mem.tail _ (List.Mem.tail _ (List.Mem.head _))))))), (List.forall_mem_cons.mpr ⟨(List.Mem.tail _ (List.Mem.tail _ (List.Mem.tail _ (List.Mem.tail _ (List.Mem.tail _ (List.Mem.tail _ (List.Mem.tail _ (List.Mem.head _)))))))), (List.forall_mem_cons.mpr ⟨(List.Mem.tail _ (List.Mem.tail _ (List.Mem.tail _ (List.Mem.tail _ (List.Mem.tail _ (List.Mem.tail _ (List.Mem.tail _ (List.Mem.tail _ (List.Mem.head _))))))))), (List.forall_mem_cons.mpr ⟨(List.Mem.head _), (fun q h => absurd h List.not_mem_nil)⟩)⟩)⟩)⟩)⟩)⟩)⟩)⟩) ?_
          exact ih _ xv av bv ov wi cl (kd + 1) I F (by first | exact ⟨And.intro (hi.1.1) (hi.1.2), And.intro (hi.2.1.1) (hi.2.1.2), And.intro (hi.2.2.1.1) (hi.2.2.1.2), And.intro (hi.2.2.2.1.1) (hi.2.2.2.1.2), oq_54f49eb5 hi.2.2.2.2.1, oq_c2445583 g1002, hi.2.2.2.2.2.2⟩ | omega) (by first | exact qk_me hm (by decide) (oq_33241a94 g1002) | omega) kx
        ·
          refine z_load X (x := kd) (show cdA 2 41 = some (.iload 9, 2, 0, 0, 0) from rfl) (List.Mem.tail _ (List.Mem.tail _ (List.Mem.tail _ (List.Mem.tail _ (List.Mem.tail _ (List.Mem.tail _ (List.Mem.tail _ (List.Mem.tail _ (List.Mem.head _))))))))) ?_
          refine z_const X (show cdA 2 43 = some (.iconst 1, 1, 0, 0, 0) from rfl) ?_
          have N1007 : ∀ j1008 : Int64, WS k 59 [(10, .long j1003), (0, .ref (A 153)), (1, .int (Int32.ofInt xv)), (2, .long av), (4, .long bv), (6, .int (Int32.ofInt ov)), (7, .int (Int32.ofInt wi)), (8, .int (Int32.ofInt cl)), (9, .int (Int32.ofInt kd))] [.long j1008] (Wd A dT t) 0 0 := by
            intro j1008
            refine w_lstore X.1 (lv' := [(12, .long j1008), (10, .long j1003), (0, .ref (A 153)), (1, .int (Int32.ofInt xv)), (2, .long av), (4, .long bv), (6, .int (Int32.ofInt ov)), (7, .int (Int32.ofInt wi)), (8, .int (Int32.ofInt cl)), (9, .int (Int32.ofInt kd))]) (ax_d X (show cdA 2 59 = some (.lstore 12, 2, 0, 0, 0) from rfl)) (by rw [X.2.1.2.2]; decide) (fun _ h => h) ?_
            refine z_load X (x := kd) (show cdA 2 61 = some (.iload 9, 2, 0, 0, 0) from rfl) (List.Mem.tail _ (List.Mem.tail _ (List.Mem.tail _ (List.Mem.tail _ (List.Mem.tail _ (List.Mem.tail _ (List.Mem.tail _ (List.Mem.tail _ (List.Mem.tail _ (List.Mem.head _)))))))))) ?_
            refine z_const X (show cdA 2 63 = some (.iconst 4, 1, 0, 0, 0) from rfl) ?_
            have N1009 : ∀ j1010 : Int64, WS k 90 [(12, .long j1008), (10, .long j1003), (0, .ref (A 153)), (1, .int (Int32.ofInt xv)), (2, .long av), (4, .long bv), (6, .int (Int32.ofInt ov)), (7, .int (Int32.ofInt wi)), (8, .int (Int32.ofInt cl)), (9, .int (Int32.ofInt kd))] [.long j1010] (Wd A dT t) 0 0 := by
              intro j1010
              refine w_lstore X.1 (lv' := [(14, .long j1010), (12, .long j1008), (10, .long j1003), (0, .ref (A 153)), (1, .int (Int32.ofInt xv)), (2, .long av), (4, .long bv), (6, .int (Int32.ofInt ov)), (7, .int (Int32.ofInt wi)), (8, .int (Int32.ofInt cl)), (9, .int (Int32.ofInt kd))]) (ax_d X (show cdA 2 90 = some (.lstore 14, 2, 0, 0, 0) from rfl)) (by rw [X.2.1.2.2]; decide) (fun _ h => h) ?_
              refine w_lload X.1 (ax_d X (show cdA 2 92 = some (.lload 10, 2, 0, 0, 0) from rfl)) (x := j1003) (List.Mem.tail _ (List.Mem.tail _ (List.Mem.head _))) ?_
              refine w_lload X.1 (ax_d X (show cdA 2 94 = some (.lload 12, 2, 0, 0, 0) from rfl)) (x := j1008) (List.Mem.tail _ (List.Mem.head _)) ?_
              refine w_land X.1 (ax_d X (show cdA 2 96 = some (.land, 1, 0, 0, 0) from rfl)) ?_
              refine z_anyJ (fun j1011 => ?_)
              refine w_lload X.1 (ax_d X (show cdA 2 97 = some (.lload 14, 2, 0, 0, 0) from rfl)) (x := j1010) (List.Mem.head _) ?_
              refine w_land X.1 (ax_d X (show cdA 2 99 = some (.land, 1, 0, 0, 0) from rfl)) ?_
              refine z_anyJ (fun j1012 => ?_)
              refine z_callS X (rm := rmN 298) (As := [.long j1012]) (st := []) (show cdA 2 100 = some (.invokestatic 51, 3, 298, 1, 0) from rfl) rfl (by rw [E.1, E.2.1, E.2.2.1]; exact j_bitL G I ) ⟨by rw [E.2.2.2]; exact (show (rmN 298).frames + 1 ≤ (rmN 2).frames by decide), by rw [E.2.2.2]; exact (show 8 + (mNL (miB 298) + 11) + (rmN 298).locals ≤ (rmN 2).locals by decide), by rw [E.2.2.2]; exact (show 0 + (rmN 298).cells ≤ (rmN 2).cells by decide), by rw [E.2.2.2]; exact (show 0 + (rmN 298).slots ≤ (rmN 2).slots by decide)⟩ (Nat.le_of_ble_eq_true rfl) (fun vv s1013 hq => ?_) (fun ee s1013 hq => ?_)
              rotate_left
              · obtain ⟨Is1013, Fs1013, e1014, hv, hrs1013, hps1013⟩ := hq; cases hv
              obtain ⟨Is1013, Fs1013, e1014, hv, hrs1013, hps1013⟩ := hq
              cases hv
              have Gs1013 := fm_ts F Fs1013 (by decide) (by decide)
              have ws1013_64 : iI s1013 64 = iI t 64 := fm_i Fs1013 (by decide)
              show WS k 103 [(14, .long j1010), (12, .long j1008), (10, .long j1003), (0, .ref (A 153)), (1, .int (Int32.ofInt xv)), (2, .long av), (4, .long bv), (6, .int (Int32.ofInt ov)), (7, .int (Int32.ofInt wi)), (8, .int (Int32.ofInt cl)), (9, .int (Int32.ofInt kd))] [.int (Int32.ofInt e1014)] (Wd A dT s1013) 0 0
              refine z_store X (lv' := [(16, .int (Int32.ofInt e1014)), (14, .long j1010), (12, .long j1008), (10, .long j1003), (0, .ref (A 153)), (1, .int (Int32.ofInt xv)), (2, .long av), (4, .long bv), (6, .int (Int32.ofInt ov)), (7, .int (Int32.ofInt wi)), (8, .int (Int32.ofInt cl)), (9, .int (Int32.ofInt kd))]) (show cdA 2 103 = some (.istore 16, 2, 0, 0, 0) from rfl) (by decide) (fun _ h => h) ?_
              refine z_load X (x := ov) (show cdA 2 105 = some (.iload 6, 2, 0, 0, 0) from rfl) (List.Mem.tail _ (List.Mem.tail _ (List.Mem.tail _ (List.Mem.tail _ (List.Mem.tail _ (List.Mem.tail _ (List.Mem.tail _ (List.Mem.tail _ (List.Mem.head _))))))))) ?_
              refine w_lload X.1 (ax_d X (show cdA 2 107 = some (.lload 10, 2, 0, 0, 0) from rfl)) (x := j1003) (List.Mem.tail _ (List.Mem.tail _ (List.Mem.tail _ (List.Mem.head _)))) ?_
              refine w_lload X.1 (ax_d X (show cdA 2 109 = some (.lload 12, 2, 0, 0, 0) from rfl)) (x := j1008) (List.Mem.tail _ (List.Mem.tail _ (List.Mem.head _))) ?_
              refine w_lload X.1 (ax_d X (show cdA 2 111 = some (.lload 14, 2, 0, 0, 0) from rfl)) (x := j1010) (List.Mem.tail _ (List.Mem.head _)) ?_
              refine w_lxor X.1 (ax_d X (show cdA 2 113 = some (.lxor, 1, 0, 0, 0) from rfl)) ?_
              refine z_anyJ (fun j1015 => ?_)
              refine w_land X.1 (ax_d X (show cdA 2 114 = some (.land, 1, 0, 0, 0) from rfl)) ?_
              refine z_anyJ (fun j1016 => ?_)
              refine z_callS X (rm := rmN 298) (As := [.long j1016]) (st := [.int (Int32.ofInt ov)]) (show cdA 2 115 = some (.invokestatic 51, 3, 298, 1, 0) from rfl) rfl (by rw [E.1, E.2.1, E.2.2.1]; exact j_bitL G Is1013 ) ⟨by rw [E.2.2.2]; exact (show (rmN 298).frames + 1 ≤ (rmN 2).frames by decide), by rw [E.2.2.2]; exact (show 8 + (mNL (miB 298) + 11) + (rmN 298).locals ≤ (rmN 2).locals by decide), by rw [E.2.2.2]; exact (show 0 + (rmN 298).cells ≤ (rmN 2).cells by decide), by rw [E.2.2.2]; exact (show 0 + (rmN 298).slots ≤ (rmN 2).slots by decide)⟩ (Nat.le_of_ble_eq_true rfl) (fun vv s1017 hq => ?_) (fun ee s1017 hq => ?_)
              rotate_left
              · obtain ⟨Is1017, Fs1017, e1018, hv, hrs1017, hps1017⟩ := hq; cases hv
              obtain ⟨Is1017, Fs1017, e1018, hv, hrs1017, hps1017⟩ := hq
              cases hv
              have Gs1017 := fm_ts Gs1013 Fs1017 (by decide) (by decide)
              have ws1017_64 : iI s1017 64 = iI s1013 64 := fm_i Fs1017 (by decide)
              show WS k 118 [(16, .int (Int32.ofInt e1014)), (14, .long j1010), (12, .long j1008), (10, .long j1003), (0, .ref (A 153)), (1, .int (Int32.ofInt xv)), (2, .long av), (4, .long bv), (6, .int (Int32.ofInt ov)), (7, .int (Int32.ofInt wi)), (8, .int (Int32.ofInt cl)), (9, .int (Int32.ofInt kd))] [.int (Int32.ofInt e1018), .int (Int32.ofInt ov)] (Wd A dT s1017) 0 0
              refine z_add X (show cdA 2 118 = some (.iadd, 1, 0, 0, 0) from rfl) ?_
              refine z_any (fun y1019 hy1019 => ?_)
              refine z_store X (lv' := [(6, .int (Int32.ofInt y1019)), (16, .int (Int32.ofInt e1014)), (14, .long j1010), (12, .long j1008), (10, .long j1003), (0, .ref (A 153)), (1, .int (Int32.ofInt xv)), (2, .long av), (4, .long bv), (7, .int (Int32.ofInt wi)), (8, .int (Int32.ofInt cl)), (9, .int (Int32.ofInt kd))]) (show cdA 2 119 = some (.istore 6, 2, 0, 0, 0) from rfl) (by decide) (fun _ h => h) ?_
              refine z_load X (x := wi) (show cdA 2 121 = some (.iload 7, 2, 0, 0, 0) from rfl) (List.Mem.tail _ (List.Mem.tail _ (List.Mem.tail _ (List.Mem.tail _ (List.Mem.tail _ (List.Mem.tail _ (List.Mem.tail _ (List.Mem.tail _ (List.Mem.tail _ (List.Mem.head _)))))))))) ?_
              refine z_load X (x := e1014) (show cdA 2 123 = some (.iload 16, 2, 0, 0, 0) from rfl) (List.Mem.tail _ (List.Mem.head _)) ?_
              refine z_add X (show cdA 2 125 = some (.iadd, 1, 0, 0, 0) from rfl) ?_
              refine z_any (fun y1020 hy1020 => ?_)
              refine z_store X (lv' := [(7, .int (Int32.ofInt y1020)), (6, .int (Int32.ofInt y1019)), (16, .int (Int32.ofInt e1014)), (14, .long j1010), (12, .long j1008), (10, .long j1003), (0, .ref (A 153)), (1, .int (Int32.ofInt xv)), (2, .long av), (4, .long bv), (8, .int (Int32.ofInt cl)), (9, .int (Int32.ofInt kd))]) (show cdA 2 126 = some (.istore 7, 2, 0, 0, 0) from rfl) (by decide) (fun _ h => h) ?_
              refine z_load X (x := kd) (show cdA 2 128 = some (.iload 9, 2, 0, 0, 0) from rfl) (List.Mem.tail _ (List.Mem.tail _ (List.Mem.tail _ (List.Mem.tail _ (List.Mem.tail _ (List.Mem.tail _ (List.Mem.tail _ (List.Mem.tail _ (List.Mem.tail _ (List.Mem.tail _ (List.Mem.tail _ (List.Mem.head _)))))))))))) ?_
              refine z_const X (show cdA 2 130 = some (.iconst 4, 1, 0, 0, 0) from rfl) ?_
              have N1021 : ∀ e1022 : Int, (((kd ≠ 4) ∧ e1022 = 0) ∨ ((kd = 4) ∧ e1022 = e1014)) → WS k 140 [(7, .int (Int32.ofInt y1020)), (6, .int (Int32.ofInt y1019)), (16, .int (Int32.ofInt e1014)), (14, .long j1010), (12, .long j1008), (10, .long j1003), (0, .ref (A 153)), (1, .int (Int32.ofInt xv)), (2, .long av), (4, .long bv), (8, .int (Int32.ofInt cl)), (9, .int (Int32.ofInt kd))] [.int (Int32.ofInt e1022)] (Wd A dT s1017) 0 0 := by
                intro e1022 he1022
                refine z_store X (lv' := [(8, .int (Int32.ofInt e1022)), (7, .int (Int32.ofInt y1020)), (6, .int (Int32.ofInt y1019)), (16, .int (Int32.ofInt e1014)), (14, .long j1010), (12, .long j1008), (10, .long j1003), (0, .ref (A 153)), (1, .int (Int32.ofInt xv)), (2, .long av), (4, .long bv), (9, .int (Int32.ofInt kd))]) (show cdA 2 140 = some (.istore 8, 2, 0, 0, 0) from rfl) (by decide) (fun _ h => h) ?_
                refine z_inc X (x := kd) (lv' := [(9, .int (Int32.ofInt (kd + 1))), (8, .int (Int32.ofInt e1022)), (7, .int (Int32.ofInt y1020)), (6, .int (Int32.ofInt y1019)), (16, .int (Int32.ofInt e1014)), (14, .long j1010), (12, .long j1008), (10, .long j1003), (0, .ref (A 153)), (1, .int (Int32.ofInt xv)), (2, .long av), (4, .long bv)]) (show cdA 2 142 = some (.iinc 9 1, 3, 0, 0, 0) from rfl) (by decide) (List.Mem.tail _ (List.Mem.tail _ (List.Mem.tail _ (List.Mem.tail _ (List.Mem.tail _ (List.Mem.tail _ (List.Mem.tail _ (List.Mem.tail _ (List.Mem.tail _ (List.Mem.tail _ (List.Mem.tail _ (List.Mem.head _)))))))))))) (fun _ h => h) ?_
                refine z_goto X (t := 12) (show cdA 2 145 = some (.goto (-133), 3, 0, 0, 0) from rfl) (by decide) ?_
                refine WS_lv (lv := [(0, .ref (A 153)), (1, .int (Int32.ofInt xv)), (2, .long av), (4, .long bv), (6, .int (Int32.ofInt y1019)), (7, .int (Int32.ofInt y1020)), (8, .int (Int32.ofInt e1022)), (9, .int (Int32.ofInt (kd + 1)))]) (List.forall_mem_cons.mpr ⟨(List.Mem.tail _ (List.Mem.tail _ (List.Mem.tail _ (List.Mem.tail _ (List.Mem.tail _ (List.Mem.tail _ (List.Mem.tail _ (List.Mem.tail _ (List.Mem.head _))))))))), (List.forall_mem_cons.mpr ⟨(List.Mem.tail _ (List.Mem.tail _ (List.Mem.tail _ (List.Mem.tail _ (List.Mem.tail _ (List.Mem.tail _ (List.Mem.tail _ (List.Mem.tail _ (List.Mem.tail _ (List.Mem.head _)))))))))), (List.forall_mem_cons.mpr ⟨(List.Mem.tail _ (List.Mem.tail _ (List.Mem.tail _ (List.Mem.tail _ (List.Mem.tail _ (List.Mem.tail _ (List.Mem.tail _ (List.Mem.tail _ (List.Mem.tail _ (List.Mem.tail _ (List.Mem.head _))))))))))), (List.forall_mem_cons.mpr ⟨(List.Mem.tail _ (List.Mem.tail _ (List.Mem.tail _ (List.Mem.tail _ (List.Mem.tail _ (List.Mem.tail _ (List.Mem.tail _ (List.Mem.tail _ (List.Mem.tail _ (List.Mem.tail _ (List.Mem.tail _ (List.Mem.head _)))))))))))), (List.forall_mem_cons.mpr ⟨(List.Mem.tail _ (List.Mem.tail _ (List.Mem.tail _ (List.Mem.head _)))), (List.forall_mem_cons.mpr ⟨(List.Mem.tail _ (List.Mem.tail _ (List.Mem.head _))), (List.forall_mem_cons.mpr ⟨(List.Mem.tail _ (List.Mem.head _)), (List.forall_mem_cons.mpr ⟨(List.Mem.head _), (fun q h => absurd h List.not_mem_nil)⟩)⟩)⟩)⟩)⟩)⟩)⟩)⟩) ?_
                exact ih _ xv av bv y1019 y1020 e1022 (kd + 1) Is1017 Gs1017 (by first | exact ⟨And.intro (hi.1.1) (hi.1.2), And.intro (hy1019.1) (hy1019.2), And.intro (hy1020.1) (hy1020.2), by omega, oq_54f49eb5 hi.2.2.2.2.1, oq_c2445583 g1002, oq_9a920414 ws1017_64 ws1013_64 hi.2.2.2.2.2.2⟩ | omega) (by first | exact qk_me hm (by decide) (oq_33241a94 g1002) | omega) kx
              refine z_icmp_ne X (t := 139) (show cdA 2 131 = some (.if_icmp .ne 8, 3, 1, 0, 0) from rfl) (by decide) ⟨by first | exact oq_fa4e5087 hi.2.2.2.2.1 | omega, by first | exact oq_85aa3fe6 g1002 | omega⟩ (by decide) (fun g1023 => ?_) (fun g1023 => ?_)
              ·
                refine z_const X (show cdA 2 139 = some (.iconst 0, 1, 0, 0, 0) from rfl) ?_
                exact N1021 _ (Or.inl ⟨g1023, rfl⟩)
              ·
                refine z_load X (x := e1014) (show cdA 2 134 = some (.iload 16, 2, 0, 0, 0) from rfl) (List.Mem.tail _ (List.Mem.tail _ (List.Mem.head _))) ?_
                refine z_goto X (t := 140) (show cdA 2 136 = some (.goto 4, 3, 0, 0, 0) from rfl) (by decide) ?_
                exact N1021 _ (Or.inr (⟨g1023, rfl⟩))
            refine z_icmp_ne X (t := 72) (show cdA 2 64 = some (.if_icmp .ne 8, 3, 1, 0, 0) from rfl) (by decide) ⟨by first | exact oq_fa4e5087 hi.2.2.2.2.1 | omega, by first | exact oq_85aa3fe6 g1002 | omega⟩ (by decide) (fun g1024 => ?_) (fun g1024 => ?_)
            ·
              refine z_load X (x := kd) (show cdA 2 72 = some (.iload 9, 2, 0, 0, 0) from rfl) (List.Mem.tail _ (List.Mem.tail _ (List.Mem.tail _ (List.Mem.tail _ (List.Mem.tail _ (List.Mem.tail _ (List.Mem.tail _ (List.Mem.tail _ (List.Mem.tail _ (List.Mem.head _)))))))))) ?_
              refine z_const X (show cdA 2 74 = some (.iconst 2, 1, 0, 0, 0) from rfl) ?_
              refine z_icmp_ge X (t := 85) (show cdA 2 75 = some (.if_icmp .ge 10, 3, 3, 0, 0) from rfl) (by decide) ⟨by first | exact oq_fa4e5087 hi.2.2.2.2.1 | omega, by first | exact oq_85aa3fe6 g1002 | omega⟩ (by decide) (fun g1025 => ?_) (fun g1025 => ?_)
              ·
                refine w_lload X.1 (ax_d X (show cdA 2 85 = some (.lload 12, 2, 0, 0, 0) from rfl)) (x := j1008) (List.Mem.head _) ?_
                refine z_bipush X (show cdA 2 87 = some (.bipush 8, 2, 0, 0, 8) from rfl) ?_
                refine w_lushr X.1 (ax_d X (show cdA 2 89 = some (.lushr, 1, 0, 0, 0) from rfl)) ?_
                refine z_anyJ (fun j1026 => ?_)
                exact N1009 _
              ·
                refine w_lload X.1 (ax_d X (show cdA 2 78 = some (.lload 12, 2, 0, 0, 0) from rfl)) (x := j1008) (List.Mem.head _) ?_
                refine z_const X (show cdA 2 80 = some (.iconst 1, 1, 0, 0, 0) from rfl) ?_
                refine w_lushr X.1 (ax_d X (show cdA 2 81 = some (.lushr, 1, 0, 0, 0) from rfl)) ?_
                refine z_anyJ (fun j1027 => ?_)
                refine z_goto X (t := 90) (show cdA 2 82 = some (.goto 8, 3, 0, 0, 0) from rfl) (by decide) ?_
                exact N1009 _
            ·
              refine w_lload X.1 (ax_d X (show cdA 2 67 = some (.lload 4, 2, 0, 0, 0) from rfl)) (x := bv) (List.Mem.tail _ (List.Mem.tail _ (List.Mem.tail _ (List.Mem.tail _ (List.Mem.tail _ (List.Mem.head _)))))) ?_
              refine z_goto X (t := 90) (show cdA 2 69 = some (.goto 21, 3, 0, 0, 0) from rfl) (by decide) ?_
              exact N1009 _
          refine z_icmp_eq X (t := 53) (show cdA 2 44 = some (.if_icmp .eq 9, 3, 0, 0, 0) from rfl) (by decide) ⟨by first | exact oq_fa4e5087 hi.2.2.2.2.1 | omega, by first | exact oq_85aa3fe6 g1002 | omega⟩ (by decide) (fun g1028 => ?_) (fun g1028 => ?_)
          ·
            refine w_lload X.1 (ax_d X (show cdA 2 53 = some (.lload 4, 2, 0, 0, 0) from rfl)) (x := bv) (List.Mem.tail _ (List.Mem.tail _ (List.Mem.tail _ (List.Mem.tail _ (List.Mem.head _))))) ?_
            refine z_goto X (t := 59) (show cdA 2 55 = some (.goto 4, 3, 0, 0, 0) from rfl) (by decide) ?_
            exact N1007 _
          ·
            refine z_load X (x := kd) (show cdA 2 47 = some (.iload 9, 2, 0, 0, 0) from rfl) (List.Mem.tail _ (List.Mem.tail _ (List.Mem.tail _ (List.Mem.tail _ (List.Mem.tail _ (List.Mem.tail _ (List.Mem.tail _ (List.Mem.tail _ (List.Mem.head _))))))))) ?_
            refine z_const X (show cdA 2 49 = some (.iconst 3, 1, 0, 0, 0) from rfl) ?_
            refine z_icmp_ne X (t := 58) (show cdA 2 50 = some (.if_icmp .ne 8, 3, 1, 0, 0) from rfl) (by decide) ⟨by first | exact oq_fa4e5087 hi.2.2.2.2.1 | omega, by first | exact oq_85aa3fe6 g1002 | omega⟩ (by decide) (fun g1029 => ?_) (fun g1029 => ?_)
            ·
              refine w_lload_n X.1 (ax_d X (show cdA 2 58 = some (.lload_n 2, 1, 0, 0, 0) from rfl)) (x := av) (List.Mem.tail _ (List.Mem.tail _ (List.Mem.tail _ (List.Mem.head _)))) ?_
              exact N1007 _
            ·
              refine w_lload X.1 (ax_d X (show cdA 2 53 = some (.lload 4, 2, 0, 0, 0) from rfl)) (x := bv) (List.Mem.tail _ (List.Mem.tail _ (List.Mem.tail _ (List.Mem.tail _ (List.Mem.head _))))) ?_
              refine z_goto X (t := 59) (show cdA 2 55 = some (.goto 4, 3, 0, 0, 0) from rfl) (by decide) ?_
              exact N1007 _
  refine z_const X (show cdA 2 0 = some (.iconst 0, 1, 0, 0, 0) from rfl) ?_
  refine z_store X (lv' := [(6, .int (Int32.ofInt 0)), (0, .ref (A 153)), (1, .int (Int32.ofInt x)), (2, .long aj), (4, .long bj)]) (show cdA 2 1 = some (.istore 6, 2, 0, 0, 0) from rfl) (by decide) (fun _ h => h) ?_
  refine z_const X (show cdA 2 3 = some (.iconst 0, 1, 0, 0, 0) from rfl) ?_
  refine z_store X (lv' := [(7, .int (Int32.ofInt 0)), (6, .int (Int32.ofInt 0)), (0, .ref (A 153)), (1, .int (Int32.ofInt x)), (2, .long aj), (4, .long bj)]) (show cdA 2 4 = some (.istore 7, 2, 0, 0, 0) from rfl) (by decide) (fun _ h => h) ?_
  refine z_const X (show cdA 2 6 = some (.iconst 0, 1, 0, 0, 0) from rfl) ?_
  refine z_store X (lv' := [(8, .int (Int32.ofInt 0)), (7, .int (Int32.ofInt 0)), (6, .int (Int32.ofInt 0)), (0, .ref (A 153)), (1, .int (Int32.ofInt x)), (2, .long aj), (4, .long bj)]) (show cdA 2 7 = some (.istore 8, 2, 0, 0, 0) from rfl) (by decide) (fun _ h => h) ?_
  refine z_const X (show cdA 2 9 = some (.iconst 0, 1, 0, 0, 0) from rfl) ?_
  refine z_store X (lv' := [(9, .int (Int32.ofInt 0)), (8, .int (Int32.ofInt 0)), (7, .int (Int32.ofInt 0)), (6, .int (Int32.ofInt 0)), (0, .ref (A 153)), (1, .int (Int32.ofInt x)), (2, .long aj), (4, .long bj)]) (show cdA 2 10 = some (.istore 9, 2, 0, 0, 0) from rfl) (by decide) (fun _ h => h) ?_
  refine WS_lv (lv := [(0, .ref (A 153)), (1, .int (Int32.ofInt x)), (2, .long aj), (4, .long bj), (6, .int (Int32.ofInt 0)), (7, .int (Int32.ofInt 0)), (8, .int (Int32.ofInt 0)), (9, .int (Int32.ofInt 0))]) (List.forall_mem_cons.mpr ⟨(List.Mem.tail _ (List.Mem.tail _ (List.Mem.tail _ (List.Mem.tail _ (List.Mem.head _))))), (List.forall_mem_cons.mpr ⟨(List.Mem.tail _ (List.Mem.tail _ (List.Mem.tail _ (List.Mem.tail _ (List.Mem.tail _ (List.Mem.head _)))))), (List.forall_mem_cons.mpr ⟨(List.Mem.tail _ (List.Mem.tail _ (List.Mem.tail _ (List.Mem.tail _ (List.Mem.tail _ (List.Mem.tail _ (List.Mem.head _))))))), (List.forall_mem_cons.mpr ⟨(List.Mem.tail _ (List.Mem.tail _ (List.Mem.tail _ (List.Mem.tail _ (List.Mem.tail _ (List.Mem.tail _ (List.Mem.tail _ (List.Mem.head _)))))))), (List.forall_mem_cons.mpr ⟨(List.Mem.tail _ (List.Mem.tail _ (List.Mem.tail _ (List.Mem.head _)))), (List.forall_mem_cons.mpr ⟨(List.Mem.tail _ (List.Mem.tail _ (List.Mem.head _))), (List.forall_mem_cons.mpr ⟨(List.Mem.tail _ (List.Mem.head _)), (List.forall_mem_cons.mpr ⟨(List.Mem.head _), (fun q h => absurd h List.not_mem_nil)⟩)⟩)⟩)⟩)⟩)⟩)⟩)⟩) ?_
  refine L12 ((5 - 0 : Int).toNat + 1) s x aj bj 0 0 0 0 I F (by first | exact ⟨And.intro (p0.1) (p0.2), And.intro (by decide) (by decide), And.intro (by decide) (by decide), And.intro (by decide) (by decide), by decide, by decide, p1⟩ | omega) (Nat.lt_succ_self _) ?_
  intro s2 x3 x4 x5 x6 Is2 Fs2 hs2
  have b7 : (0 : Int) ≤ iI s2 64 ∧ iI s2 64 ≤ 12 := Is2.1 64
  refine z_aload_n X (x := A 153) (show cdA 2 148 = some (.aload_n 0, 1, 0, 0, 0) from rfl) (List.Mem.head _) ?_
  refine s_getR X 153 (show cdA 2 149 = some (.getfield 15, 3, 0, 4, 0) from rfl) (by decide) rfl rfl ?_
  refine z_aload_n X (x := A 153) (show cdA 2 152 = some (.aload_n 0, 1, 0, 0, 0) from rfl) (List.Mem.head _) ?_
  refine z_getI X 153 (show cdA 2 153 = some (.getfield 57, 3, 0, 2, 0) from rfl) (by decide) rfl rfl ?_
  have b8 : (0 : Int) ≤ iI s2 64 ∧ iI s2 64 ≤ 12 := Is2.1 64
  refine z_load X (x := x3) (show cdA 2 156 = some (.iload 6, 2, 0, 0, 0) from rfl) (List.Mem.tail _ (List.Mem.tail _ (List.Mem.tail _ (List.Mem.tail _ (List.Mem.head _))))) ?_
  refine z_ast X 155 (show cdA 2 158 = some (.iastore, 1, 0, 0, 0) from rfl) (by decide) rfl (by first | exact b8.1 | omega) (show (iI s2 64) < 12 by first | exact oq_0ddfcfee hs2.2.2.2.2.2.2 | omega) (by decide) ?_
  obtain ⟨s9, hs9⟩ : ∃ x0, x0 = uC s2 135 ((iI s2 64)).toNat (Int32.ofInt x3) := ⟨_, rfl⟩
  rw [← hs9]
  have Is9 : Bd s9 := by rw [hs9]; exact bd_C Is2 (show ((-2147483648) : Int) ≤ x3 ∧ x3 ≤ 2147483647 by first | exact ⟨hs2.2.1.1, hs2.2.1.2⟩ | omega) ⟨by first | exact hs2.2.1.1 | omega, by first | exact hs2.2.1.2 | omega⟩
  have Fs9 := fm_C (i := ((iI s2 64)).toNat) (x := Int32.ofInt x3) Fs2 (show 135 ∈ _ by decide)
  rw [← hs9] at Fs9
  have ws9_64 : iI s9 64 = iI s2 64 := by rw [hs9]; rfl
  refine z_aload_n X (x := A 153) (show cdA 2 159 = some (.aload_n 0, 1, 0, 0, 0) from rfl) (List.Mem.head _) ?_
  refine s_getR X 153 (show cdA 2 160 = some (.getfield 18, 3, 0, 5, 0) from rfl) (by decide) rfl rfl ?_
  refine z_aload_n X (x := A 153) (show cdA 2 163 = some (.aload_n 0, 1, 0, 0, 0) from rfl) (List.Mem.head _) ?_
  refine z_getI X 153 (show cdA 2 164 = some (.getfield 57, 3, 0, 2, 0) from rfl) (by decide) rfl rfl ?_
  have b10 : (0 : Int) ≤ iI s9 64 ∧ iI s9 64 ≤ 12 := Is9.1 64
  refine z_load X (x := x4) (show cdA 2 167 = some (.iload 7, 2, 0, 0, 0) from rfl) (List.Mem.tail _ (List.Mem.tail _ (List.Mem.tail _ (List.Mem.tail _ (List.Mem.tail _ (List.Mem.head _)))))) ?_
  refine z_ast X 156 (show cdA 2 169 = some (.iastore, 1, 0, 0, 0) from rfl) (by decide) rfl (by first | exact b10.1 | omega) (show (iI s9 64) < 12 by first | exact oq_210fcd76 ws9_64 hs2.2.2.2.2.2.2 | omega) (by decide) ?_
  obtain ⟨s11, hs11⟩ : ∃ x0, x0 = uC s9 136 ((iI s9 64)).toNat (Int32.ofInt x4) := ⟨_, rfl⟩
  rw [← hs11]
  have Is11 : Bd s11 := by rw [hs11]; exact bd_C Is9 (show ((-2147483648) : Int) ≤ x4 ∧ x4 ≤ 2147483647 by first | exact ⟨hs2.2.2.1.1, hs2.2.2.1.2⟩ | omega) ⟨by first | exact hs2.2.2.1.1 | omega, by first | exact hs2.2.2.1.2 | omega⟩
  have Fs11 := fm_C (i := ((iI s9 64)).toNat) (x := Int32.ofInt x4) Fs9 (show 136 ∈ _ by decide)
  rw [← hs11] at Fs11
  have ws11_64 : iI s11 64 = iI s9 64 := by rw [hs11]; rfl
  refine z_aload_n X (x := A 153) (show cdA 2 170 = some (.aload_n 0, 1, 0, 0, 0) from rfl) (List.Mem.head _) ?_
  refine s_getR X 153 (show cdA 2 171 = some (.getfield 21, 3, 0, 6, 0) from rfl) (by decide) rfl rfl ?_
  refine z_aload_n X (x := A 153) (show cdA 2 174 = some (.aload_n 0, 1, 0, 0, 0) from rfl) (List.Mem.head _) ?_
  refine z_getI X 153 (show cdA 2 175 = some (.getfield 57, 3, 0, 2, 0) from rfl) (by decide) rfl rfl ?_
  have b12 : (0 : Int) ≤ iI s11 64 ∧ iI s11 64 ≤ 12 := Is11.1 64
  refine z_load X (x := x5) (show cdA 2 178 = some (.iload 8, 2, 0, 0, 0) from rfl) (List.Mem.tail _ (List.Mem.tail _ (List.Mem.tail _ (List.Mem.tail _ (List.Mem.tail _ (List.Mem.tail _ (List.Mem.head _))))))) ?_
  refine z_ast X 157 (show cdA 2 180 = some (.iastore, 1, 0, 0, 0) from rfl) (by decide) rfl (by first | exact b12.1 | omega) (show (iI s11 64) < 12 by first | exact oq_e2284db0 ws11_64 ws9_64 hs2.2.2.2.2.2.2 | omega) (by decide) ?_
  obtain ⟨s13, hs13⟩ : ∃ x0, x0 = uC s11 137 ((iI s11 64)).toNat (Int32.ofInt x5) := ⟨_, rfl⟩
  rw [← hs13]
  have Is13 : Bd s13 := by rw [hs13]; exact bd_C Is11 (show ((-2147483648) : Int) ≤ x5 ∧ x5 ≤ 2147483647 by first | exact ⟨hs2.2.2.2.1.1, hs2.2.2.2.1.2⟩ | omega) ⟨by first | exact hs2.2.2.2.1.1 | omega, by first | exact hs2.2.2.2.1.2 | omega⟩
  have Fs13 := fm_C (i := ((iI s11 64)).toNat) (x := Int32.ofInt x5) Fs11 (show 137 ∈ _ by decide)
  rw [← hs13] at Fs13
  have ws13_64 : iI s13 64 = iI s11 64 := by rw [hs13]; rfl
  exact w_vret X.1 q hRt (ax_d X (show cdA 2 181 = some (.return_, 1, 0, 0, 0) from rfl)) (Nat.zero_le _) (Nat.zero_le _) ⟨_, rfl, Is13, Fs13, rfl, trivial⟩
set_option maxRecDepth 4000 in
theorem c0_listen_153 (G : GX l s0 D tys a0 dT) (I : Bd s) {x : Int} {aj bj : Int64} (p0 : rng x) : CT l s0 D A dT 1 (rmN 1) [.ref (A 153), .long aj, .long bj, .int (Int32.ofInt x)] s (fun o t => Bd t ∧ Fm [64, 65] [141, 134, 135, 136, 137, 138, 139, 140] s t ∧ o = .inl none ∧ (True)) := by
  refine ct_ofX G (by decide) (Nat.le_of_ble_eq_true rfl) (fun k X E ET hRt hXt q => ?_)
  show WS k 0 [(0, .ref (A 153)), (1, .long aj), (3, .long bj), (5, .int (Int32.ofInt x))] [] _ 0 0
  have F : Fm [64, 65] [141, 134, 135, 136, 137, 138, 139, 140] s s := fm_rf _ _ s
  have b1 : (0 : Int) ≤ iI s 64 ∧ iI s 64 ≤ 12 := I.1 64
  have b2 : (0 : Int) ≤ iI s 65 ∧ iI s 65 ≤ 66 := I.1 65
  have b3 : (0 : Int) ≤ iI s 43 ∧ iI s 43 ≤ 12 := I.1 43
  have b4 : (0 : Int) ≤ iI s 44 ∧ iI s 44 ≤ 66 := I.1 44
  have L42 : ∀ (n : Nat) (t : PS) (av : Int64) (bv : Int64) (c : Int), Bd t → Fm [64, 65] [141, 134, 135, 136, 137, 138, 139, 140] s t → (0 ≤ c ∧ c ≤ 12 ∧ iI t 64 ≤ c) → (12 - c : Int).toNat < n → (∀ (t' : PS) (c' : Int), Bd t' → Fm [64, 65] [141, 134, 135, 136, 137, 138, 139, 140] s t' → (0 ≤ c' ∧ c' ≤ 12 ∧ iI t' 64 ≤ c') → WS k 125 [(0, .ref (A 153)), (1, .long av), (3, .long bv), (6, .int (Int32.ofInt c'))] [] (Wd A dT t') 0 0) → WS k 42 [(0, .ref (A 153)), (1, .long av), (3, .long bv), (6, .int (Int32.ofInt c))] [] (Wd A dT t) 0 0 := by
    intro n
    induction n with
    | zero =>
      intro t av bv c I F hi hm kx
      exact absurd hm (Nat.not_lt_zero _)
    | succ n ih =>
      intro t av bv c I F hi hm kx
      have b1001 : (0 : Int) ≤ iI t 64 ∧ iI t 64 ≤ 12 := I.1 64
      have b1002 : (0 : Int) ≤ iI t 65 ∧ iI t 65 ≤ 66 := I.1 65
      have b1003 : (0 : Int) ≤ iI t 43 ∧ iI t 43 ≤ 12 := I.1 43
      have b1004 : (0 : Int) ≤ iI t 44 ∧ iI t 44 ≤ 66 := I.1 44
      refine z_load X (x := c) (show cdA 1 42 = some (.iload 6, 2, 0, 0, 0) from rfl) (List.Mem.tail _ (List.Mem.tail _ (List.Mem.tail _ (List.Mem.head _)))) ?_
      refine z_aload_n X (x := A 153) (show cdA 1 44 = some (.aload_n 0, 1, 0, 0, 0) from rfl) (List.Mem.head _) ?_
      refine s_getR X 153 (show cdA 1 45 = some (.getfield 43, 3, 0, 0, 0) from rfl) (by decide) rfl rfl ?_
      refine z_getI X 68 (show cdA 1 48 = some (.getfield 61, 3, 9, 0, 0) from rfl) (by decide) rfl rfl ?_
      have b1005 : (0 : Int) ≤ iI t 43 ∧ iI t 43 ≤ 12 := I.1 43
      refine z_icmp_ge X (t := 125) (show cdA 1 51 = some (.if_icmp .ge 74, 3, 3, 0, 0) from rfl) (by decide) ⟨by first | exact oq_fa4e5087 hi.1 | omega, by first | exact oq_78843a64 hi.2.1 | omega⟩ (rng_to _) (fun g1006 => ?_) (fun g1006 => ?_)
      ·
        refine WS_lv (lv := [(0, .ref (A 153)), (1, .long av), (3, .long bv), (6, .int (Int32.ofInt c))]) (List.forall_mem_cons.mpr ⟨(List.Mem.head _), (List.forall_mem_cons.mpr ⟨(List.Mem.tail _ (List.Mem.head _)), (List.forall_mem_cons.mpr ⟨(List.Mem.tail _ (List.Mem.tail _ (List.Mem.head _))), (List.forall_mem_cons.mpr ⟨(List.Mem.tail _ (List.Mem.tail _ (List.Mem.tail _ (List.Mem.head _)))), (fun q h => absurd h List.not_mem_nil)⟩)⟩)⟩)⟩) ?_
        exact kx _ c I F (by first | exact ⟨hi.1, hi.2.1, hi.2.2⟩ | omega)
      ·
        refine z_aload_n X (x := A 153) (show cdA 1 54 = some (.aload_n 0, 1, 0, 0, 0) from rfl) (List.Mem.head _) ?_
        refine s_getR X 153 (show cdA 1 55 = some (.getfield 43, 3, 0, 0, 0) from rfl) (by decide) rfl rfl ?_
        refine s_getR X 68 (show cdA 1 58 = some (.getfield 64, 3, 9, 3, 0) from rfl) (by decide) rfl rfl ?_
        refine z_load X (x := c) (show cdA 1 61 = some (.iload 6, 2, 0, 0, 0) from rfl) (List.Mem.tail _ (List.Mem.tail _ (List.Mem.tail _ (List.Mem.head _)))) ?_
        refine z_const X (show cdA 1 63 = some (.iconst 2, 1, 0, 0, 0) from rfl) ?_
        refine z_mul X (show cdA 1 64 = some (.imul, 1, 0, 0, 0) from rfl) ?_
        refine z_lald X 71 (show cdA 1 65 = some (.laload, 1, 0, 0, 0) from rfl) (by decide) rfl (by first | exact oq_cfc6ac54 hi.1 | omega) (show (c * 2) < 24 by first | exact oq_e062d2c8 g1006 b1005.2 | omega) (by decide) (fun j1007 => ?_)
        refine w_lload_n X.1 (ax_d X (show cdA 1 66 = some (.lload_n 1, 1, 0, 0, 0) from rfl)) (x := av) (List.Mem.tail _ (List.Mem.head _)) ?_
        refine w_land X.1 (ax_d X (show cdA 1 67 = some (.land, 1, 0, 0, 0) from rfl)) ?_
        refine z_anyJ (fun j1008 => ?_)
        refine z_aload_n X (x := A 153) (show cdA 1 68 = some (.aload_n 0, 1, 0, 0, 0) from rfl) (List.Mem.head _) ?_
        refine s_getR X 153 (show cdA 1 69 = some (.getfield 43, 3, 0, 0, 0) from rfl) (by decide) rfl rfl ?_
        refine s_getR X 68 (show cdA 1 72 = some (.getfield 64, 3, 9, 3, 0) from rfl) (by decide) rfl rfl ?_
        refine z_load X (x := c) (show cdA 1 75 = some (.iload 6, 2, 0, 0, 0) from rfl) (List.Mem.tail _ (List.Mem.tail _ (List.Mem.tail _ (List.Mem.head _)))) ?_
        refine z_const X (show cdA 1 77 = some (.iconst 2, 1, 0, 0, 0) from rfl) ?_
        refine z_mul X (show cdA 1 78 = some (.imul, 1, 0, 0, 0) from rfl) ?_
        refine z_const X (show cdA 1 79 = some (.iconst 1, 1, 0, 0, 0) from rfl) ?_
        refine z_add X (show cdA 1 80 = some (.iadd, 1, 0, 0, 0) from rfl) ?_
        refine z_lald X 71 (show cdA 1 81 = some (.laload, 1, 0, 0, 0) from rfl) (by decide) rfl (by first | exact oq_8a3e0277 hi.1 | omega) (show ((c * 2) + 1) < 24 by first | exact oq_0edc0603 g1006 b1005.2 | omega) (by decide) (fun j1009 => ?_)
        refine w_lload_n X.1 (ax_d X (show cdA 1 82 = some (.lload_n 3, 1, 0, 0, 0) from rfl)) (x := bv) (List.Mem.tail _ (List.Mem.tail _ (List.Mem.head _))) ?_
        refine w_land X.1 (ax_d X (show cdA 1 83 = some (.land, 1, 0, 0, 0) from rfl)) ?_
        refine z_anyJ (fun j1010 => ?_)
        refine w_lor X.1 (ax_d X (show cdA 1 84 = some (.lor, 1, 0, 0, 0) from rfl)) ?_
        refine z_anyJ (fun j1011 => ?_)
        refine w_lconst X.1 (ax_d X (show cdA 1 85 = some (.lconst 0, 1, 0, 0, 0) from rfl)) rfl ?_
        refine z_anyJ (fun j1012 => ?_)
        refine w_lcmp X.1 (ax_d X (show cdA 1 86 = some (.lcmp, 1, 0, 0, 0) from rfl)) ?_
        refine z_any (fun y1013 hy1013 => ?_)
        refine z_if_eq X (t := 119) (show cdA 1 87 = some (.ifCond .eq 32, 3, 0, 0, 0) from rfl) (by decide) hy1013 (fun g1014 => ?_) (fun g1014 => ?_)
        ·
          refine z_inc X (x := c) (lv' := [(6, .int (Int32.ofInt (c + 1))), (0, .ref (A 153)), (1, .long av), (3, .long bv)]) (show cdA 1 119 = some (.iinc 6 1, 3, 0, 0, 0) from rfl) (by decide) (List.Mem.tail _ (List.Mem.tail _ (List.Mem.tail _ (List.Mem.head _)))) (fun _ h => h) ?_
          refine z_goto X (t := 42) (show cdA 1 122 = some (.goto (-80), 3, 0, 0, 0) from rfl) (by decide) ?_
          refine WS_lv (lv := [(0, .ref (A 153)), (1, .long av), (3, .long bv), (6, .int (Int32.ofInt (c + 1)))]) (List.forall_mem_cons.mpr ⟨(List.Mem.tail _ (List.Mem.head _)), (List.forall_mem_cons.mpr ⟨(List.Mem.tail _ (List.Mem.tail _ (List.Mem.head _))), (List.forall_mem_cons.mpr ⟨(List.Mem.tail _ (List.Mem.tail _ (List.Mem.tail _ (List.Mem.head _)))), (List.forall_mem_cons.mpr ⟨(List.Mem.head _), (fun q h => absurd h List.not_mem_nil)⟩)⟩)⟩)⟩) ?_
          exact ih _ av bv (c + 1) I F (by first | exact ⟨oq_54f49eb5 hi.1, oq_4dae995e g1006 b1005.2, oq_03182e9e hi.2.2⟩ | omega) (by first | exact qk_me hm (by decide) (oq_b575e8c1 g1006 b1005.2) | omega) kx
        ·
          refine z_aload_n X (x := A 153) (show cdA 1 90 = some (.aload_n 0, 1, 0, 0, 0) from rfl) (List.Mem.head _) ?_
          refine s_getR X 153 (show cdA 1 91 = some (.getfield 9, 3, 0, 3, 0) from rfl) (by decide) rfl rfl ?_
          refine z_aload_n X (x := A 153) (show cdA 1 94 = some (.aload_n 0, 1, 0, 0, 0) from rfl) (List.Mem.head _) ?_
          refine z_getI X 153 (show cdA 1 95 = some (.getfield 57, 3, 0, 2, 0) from rfl) (by decide) rfl rfl ?_
          have b1015 : (0 : Int) ≤ iI t 64 ∧ iI t 64 ≤ 12 := I.1 64
          refine z_load X (x := c) (show cdA 1 98 = some (.iload 6, 2, 0, 0, 0) from rfl) (List.Mem.tail _ (List.Mem.tail _ (List.Mem.tail _ (List.Mem.head _)))) ?_
          refine z_ast X 154 (show cdA 1 100 = some (.iastore, 1, 0, 0, 0) from rfl) (by decide) rfl (by first | exact b1015.1 | omega) (show (iI t 64) < 12 by first | exact oq_79196c7f hi.2.2 g1006 b1005.2 | omega) (by decide) ?_
          obtain ⟨s1016, hs1016⟩ : ∃ x0, x0 = uC t 134 ((iI t 64)).toNat (Int32.ofInt c) := ⟨_, rfl⟩
          rw [← hs1016]
          have Is1016 : Bd s1016 := by rw [hs1016]; exact bd_C I (show (0 : Int) ≤ c ∧ c ≤ 11 by first | exact ⟨hi.1, oq_e4d7f3c5 g1006 b1005.2⟩ | omega) ⟨by first | exact oq_fa4e5087 hi.1 | omega, by first | exact oq_78843a64 hi.2.1 | omega⟩
          have Fs1016 := fm_C (i := ((iI t 64)).toNat) (x := Int32.ofInt c) F (show 134 ∈ _ by decide)
          rw [← hs1016] at Fs1016
          have ws1016_64 : iI s1016 64 = iI t 64 := by rw [hs1016]; rfl
          have ws1016_65 : iI s1016 65 = iI t 65 := by rw [hs1016]; rfl
          have ws1016_43 : iI s1016 43 = iI t 43 := by rw [hs1016]; rfl
          have ws1016_44 : iI s1016 44 = iI t 44 := by rw [hs1016]; rfl
          refine z_aload_n X (x := A 153) (show cdA 1 101 = some (.aload_n 0, 1, 0, 0, 0) from rfl) (List.Mem.head _) ?_
          refine z_load X (x := c) (show cdA 1 102 = some (.iload 6, 2, 0, 0, 0) from rfl) (List.Mem.tail _ (List.Mem.tail _ (List.Mem.tail _ (List.Mem.head _)))) ?_
          refine w_lload_n X.1 (ax_d X (show cdA 1 104 = some (.lload_n 1, 1, 0, 0, 0) from rfl)) (x := av) (List.Mem.tail _ (List.Mem.head _)) ?_
          refine w_lload_n X.1 (ax_d X (show cdA 1 105 = some (.lload_n 3, 1, 0, 0, 0) from rfl)) (x := bv) (List.Mem.tail _ (List.Mem.tail _ (List.Mem.head _))) ?_
          refine z_callV X 153 (rm := rmN 2) (As := [.int (Int32.ofInt c), .long av, .long bv]) (st := []) (show cdA 1 106 = some (.invokevirtual 68, 3, 2, 0, 0) from rfl) rfl (by decide) rfl (by rw [E.1, E.2.1, E.2.2.1]; exact c0_followSteps_153 G Is1016 (by first | exact ⟨hi.1, oq_e4d7f3c5 g1006 b1005.2⟩ | omega) (by first | exact oq_2f168143 ws1016_64 hi.2.2 g1006 b1005.2 | omega)) ⟨by rw [E.2.2.2]; exact (show (rmN 2).frames + 1 ≤ (rmN 1).frames by decide), by rw [E.2.2.2]; exact (show 8 + (mNL (miB 2) + 11) + (rmN 2).locals ≤ (rmN 1).locals by decide), by rw [E.2.2.2]; exact (show 0 + (rmN 2).cells ≤ (rmN 1).cells by decide), by rw [E.2.2.2]; exact (show 0 + (rmN 2).slots ≤ (rmN 1).slots by decide)⟩ (Nat.le_of_ble_eq_true rfl) (fun vv s1017 hq => ?_) (fun ee s1017 hq => ?_)
          rotate_left
          · obtain ⟨Is1017, Fs1017, hv, hps1017⟩ := hq; cases hv
          obtain ⟨Is1017, Fs1017, hv, hps1017⟩ := hq
          cases hv
          have Gs1017 := fm_ts Fs1016 Fs1017 (by decide) (by decide)
          have ws1017_64 : iI s1017 64 = iI s1016 64 := fm_i Fs1017 (by decide)
          have ws1017_65 : iI s1017 65 = iI s1016 65 := fm_i Fs1017 (by decide)
          have ws1017_43 : iI s1017 43 = iI s1016 43 := fm_i Fs1017 (by decide)
          have ws1017_44 : iI s1017 44 = iI s1016 44 := fm_i Fs1017 (by decide)
          show WS k 109 [(0, .ref (A 153)), (1, .long av), (3, .long bv), (6, .int (Int32.ofInt c))] [] (Wd A dT s1017) 0 0
          refine z_aload_n X (x := A 153) (show cdA 1 109 = some (.aload_n 0, 1, 0, 0, 0) from rfl) (List.Mem.head _) ?_
          refine w_dup X.1 (ax_d X (show cdA 1 110 = some (.dup, 1, 0, 0, 0) from rfl)) rfl ?_
          refine z_getI X 153 (show cdA 1 111 = some (.getfield 57, 3, 0, 2, 0) from rfl) (by decide) rfl rfl ?_
          have b1019 : (0 : Int) ≤ iI s1017 64 ∧ iI s1017 64 ≤ 12 := Is1017.1 64
          refine z_const X (show cdA 1 114 = some (.iconst 1, 1, 0, 0, 0) from rfl) ?_
          refine z_add X (show cdA 1 115 = some (.iadd, 1, 0, 0, 0) from rfl) ?_
          refine s_putI X 153 (show cdA 1 116 = some (.putfield 57, 3, 0, 2, 0) from rfl) (by decide) rfl rfl (by decide) rfl rfl rfl ?_
          obtain ⟨s1020, hs1020⟩ : ∃ x0, x0 = uI s1017 64 (Int32.ofInt ((iI s1017 64) + 1)) := ⟨_, rfl⟩
          rw [← hs1020]
          have Is1020 : Bd s1020 := by rw [hs1020]; exact bd_I Is1017 (show (0 : Int) ≤ ((iI s1017 64) + 1) ∧ ((iI s1017 64) + 1) ≤ 12 by first | exact ⟨oq_54f49eb5 b1019.1, oq_1fea0193 ws1017_64 ws1016_64 hi.2.2 g1006 b1005.2⟩ | omega) ⟨by first | exact oq_74de1e16 b1019.1 | omega, by first | exact oq_76a8a5b7 b1019.2 | omega⟩
          have Fs1020 := fm_I (x := Int32.ofInt ((iI s1017 64) + 1)) Gs1017 (show 64 ∈ _ by decide)
          rw [← hs1020] at Fs1020
          have vs1020 : iI s1020 64 = ((iI s1017 64) + 1) := by rw [hs1020]; exact iI_u ⟨by first | exact oq_74de1e16 b1019.1 | omega, by first | exact oq_76a8a5b7 b1019.2 | omega⟩
          have ws1020_65 : iI s1020 65 = iI s1017 65 := by rw [hs1020]; rfl
          have ws1020_43 : iI s1020 43 = iI s1017 43 := by rw [hs1020]; rfl
          have ws1020_44 : iI s1020 44 = iI s1017 44 := by rw [hs1020]; rfl
          refine z_inc X (x := c) (lv' := [(6, .int (Int32.ofInt (c + 1))), (0, .ref (A 153)), (1, .long av), (3, .long bv)]) (show cdA 1 119 = some (.iinc 6 1, 3, 0, 0, 0) from rfl) (by decide) (List.Mem.tail _ (List.Mem.tail _ (List.Mem.tail _ (List.Mem.head _)))) (fun _ h => h) ?_
          refine z_goto X (t := 42) (show cdA 1 122 = some (.goto (-80), 3, 0, 0, 0) from rfl) (by decide) ?_
          refine WS_lv (lv := [(0, .ref (A 153)), (1, .long av), (3, .long bv), (6, .int (Int32.ofInt (c + 1)))]) (List.forall_mem_cons.mpr ⟨(List.Mem.tail _ (List.Mem.head _)), (List.forall_mem_cons.mpr ⟨(List.Mem.tail _ (List.Mem.tail _ (List.Mem.head _))), (List.forall_mem_cons.mpr ⟨(List.Mem.tail _ (List.Mem.tail _ (List.Mem.tail _ (List.Mem.head _)))), (List.forall_mem_cons.mpr ⟨(List.Mem.head _), (fun q h => absurd h List.not_mem_nil)⟩)⟩)⟩)⟩) ?_
          exact ih _ av bv (c + 1) Is1020 Fs1020 (by first | exact ⟨oq_54f49eb5 hi.1, oq_4dae995e g1006 b1005.2, oq_ecb13324 vs1020 hi.2.2 ws1017_64 ws1016_64⟩ | omega) (by first | exact qk_me hm (by decide) (oq_b575e8c1 g1006 b1005.2) | omega) kx
  have L133 : ∀ (n : Nat) (t : PS) (av : Int64) (bv : Int64) (c : Int), Bd t → Fm [64, 65] [141, 134, 135, 136, 137, 138, 139, 140] s t → (0 ≤ c ∧ c ≤ 66 ∧ iI t 65 ≤ c) → (66 - c : Int).toNat < n → (∀ (t' : PS) (c' : Int), Bd t' → Fm [64, 65] [141, 134, 135, 136, 137, 138, 139, 140] s t' → (0 ≤ c' ∧ c' ≤ 66 ∧ iI t' 65 ≤ c') → WS k 260 [(0, .ref (A 153)), (1, .long av), (3, .long bv), (6, .int (Int32.ofInt c'))] [] (Wd A dT t') 0 0) → WS k 133 [(0, .ref (A 153)), (1, .long av), (3, .long bv), (6, .int (Int32.ofInt c))] [] (Wd A dT t) 0 0 := by
    intro n
    induction n with
    | zero =>
      intro t av bv c I F hi hm kx
      exact absurd hm (Nat.not_lt_zero _)
    | succ n ih =>
      intro t av bv c I F hi hm kx
      have b2001 : (0 : Int) ≤ iI t 64 ∧ iI t 64 ≤ 12 := I.1 64
      have b2002 : (0 : Int) ≤ iI t 65 ∧ iI t 65 ≤ 66 := I.1 65
      have b2003 : (0 : Int) ≤ iI t 43 ∧ iI t 43 ≤ 12 := I.1 43
      have b2004 : (0 : Int) ≤ iI t 44 ∧ iI t 44 ≤ 66 := I.1 44
      refine z_load X (x := c) (show cdA 1 133 = some (.iload 6, 2, 0, 0, 0) from rfl) (List.Mem.tail _ (List.Mem.tail _ (List.Mem.tail _ (List.Mem.head _)))) ?_
      refine z_aload_n X (x := A 153) (show cdA 1 135 = some (.aload_n 0, 1, 0, 0, 0) from rfl) (List.Mem.head _) ?_
      refine s_getR X 153 (show cdA 1 136 = some (.getfield 43, 3, 0, 0, 0) from rfl) (by decide) rfl rfl ?_
      refine z_getI X 68 (show cdA 1 139 = some (.getfield 75, 3, 9, 8, 0) from rfl) (by decide) rfl rfl ?_
      have b2005 : (0 : Int) ≤ iI t 44 ∧ iI t 44 ≤ 66 := I.1 44
      refine z_icmp_ge X (t := 260) (show cdA 1 142 = some (.if_icmp .ge 118, 3, 3, 0, 0) from rfl) (by decide) ⟨by first | exact oq_fa4e5087 hi.1 | omega, by first | exact oq_64f2e926 hi.2.1 | omega⟩ (rng_to _) (fun g2006 => ?_) (fun g2006 => ?_)
      ·
        refine WS_lv (lv := [(0, .ref (A 153)), (1, .long av), (3, .long bv), (6, .int (Int32.ofInt c))]) (List.forall_mem_cons.mpr ⟨(List.Mem.head _), (List.forall_mem_cons.mpr ⟨(List.Mem.tail _ (List.Mem.head _)), (List.forall_mem_cons.mpr ⟨(List.Mem.tail _ (List.Mem.tail _ (List.Mem.head _))), (List.forall_mem_cons.mpr ⟨(List.Mem.tail _ (List.Mem.tail _ (List.Mem.tail _ (List.Mem.head _)))), (fun q h => absurd h List.not_mem_nil)⟩)⟩)⟩)⟩) ?_
        exact kx _ c I F (by first | exact ⟨hi.1, hi.2.1, hi.2.2⟩ | omega)
      ·
        refine z_aload_n X (x := A 153) (show cdA 1 145 = some (.aload_n 0, 1, 0, 0, 0) from rfl) (List.Mem.head _) ?_
        refine s_getR X 153 (show cdA 1 146 = some (.getfield 43, 3, 0, 0, 0) from rfl) (by decide) rfl rfl ?_
        refine s_getR X 68 (show cdA 1 149 = some (.getfield 78, 3, 9, 7, 0) from rfl) (by decide) rfl rfl ?_
        refine z_load X (x := c) (show cdA 1 152 = some (.iload 6, 2, 0, 0, 0) from rfl) (List.Mem.tail _ (List.Mem.tail _ (List.Mem.tail _ (List.Mem.head _)))) ?_
        refine z_const X (show cdA 1 154 = some (.iconst 2, 1, 0, 0, 0) from rfl) ?_
        refine z_mul X (show cdA 1 155 = some (.imul, 1, 0, 0, 0) from rfl) ?_
        refine z_lald X 75 (show cdA 1 156 = some (.laload, 1, 0, 0, 0) from rfl) (by decide) rfl (by first | exact oq_cfc6ac54 hi.1 | omega) (show (c * 2) < 132 by first | exact oq_ff78435a g2006 b2005.2 | omega) (by decide) (fun j2007 => ?_)
        refine w_lload_n X.1 (ax_d X (show cdA 1 157 = some (.lload_n 1, 1, 0, 0, 0) from rfl)) (x := av) (List.Mem.tail _ (List.Mem.head _)) ?_
        refine w_land X.1 (ax_d X (show cdA 1 158 = some (.land, 1, 0, 0, 0) from rfl)) ?_
        refine z_anyJ (fun j2008 => ?_)
        refine z_callS X (rm := rmN 298) (As := [.long j2008]) (st := []) (show cdA 1 159 = some (.invokestatic 51, 3, 298, 1, 0) from rfl) rfl (by rw [E.1, E.2.1, E.2.2.1]; exact j_bitL G I ) ⟨by rw [E.2.2.2]; exact (show (rmN 298).frames + 1 ≤ (rmN 1).frames by decide), by rw [E.2.2.2]; exact (show 8 + (mNL (miB 298) + 11) + (rmN 298).locals ≤ (rmN 1).locals by decide), by rw [E.2.2.2]; exact (show 0 + (rmN 298).cells ≤ (rmN 1).cells by decide), by rw [E.2.2.2]; exact (show 0 + (rmN 298).slots ≤ (rmN 1).slots by decide)⟩ (Nat.le_of_ble_eq_true rfl) (fun vv s2009 hq => ?_) (fun ee s2009 hq => ?_)
        rotate_left
        · obtain ⟨Is2009, Fs2009, e2010, hv, hrs2009, hps2009⟩ := hq; cases hv
        obtain ⟨Is2009, Fs2009, e2010, hv, hrs2009, hps2009⟩ := hq
        cases hv
        have Gs2009 := fm_ts F Fs2009 (by decide) (by decide)
        have ws2009_64 : iI s2009 64 = iI t 64 := fm_i Fs2009 (by decide)
        have ws2009_65 : iI s2009 65 = iI t 65 := fm_i Fs2009 (by decide)
        have ws2009_43 : iI s2009 43 = iI t 43 := fm_i Fs2009 (by decide)
        have ws2009_44 : iI s2009 44 = iI t 44 := fm_i Fs2009 (by decide)
        show WS k 162 [(0, .ref (A 153)), (1, .long av), (3, .long bv), (6, .int (Int32.ofInt c))] [.int (Int32.ofInt e2010)] (Wd A dT s2009) 0 0
        refine z_aload_n X (x := A 153) (show cdA 1 162 = some (.aload_n 0, 1, 0, 0, 0) from rfl) (List.Mem.head _) ?_
        refine s_getR X 153 (show cdA 1 163 = some (.getfield 43, 3, 0, 0, 0) from rfl) (by decide) rfl rfl ?_
        refine s_getR X 68 (show cdA 1 166 = some (.getfield 78, 3, 9, 7, 0) from rfl) (by decide) rfl rfl ?_
        refine z_load X (x := c) (show cdA 1 169 = some (.iload 6, 2, 0, 0, 0) from rfl) (List.Mem.tail _ (List.Mem.tail _ (List.Mem.tail _ (List.Mem.head _)))) ?_
        refine z_const X (show cdA 1 171 = some (.iconst 2, 1, 0, 0, 0) from rfl) ?_
        refine z_mul X (show cdA 1 172 = some (.imul, 1, 0, 0, 0) from rfl) ?_
        refine z_const X (show cdA 1 173 = some (.iconst 1, 1, 0, 0, 0) from rfl) ?_
        refine z_add X (show cdA 1 174 = some (.iadd, 1, 0, 0, 0) from rfl) ?_
        refine z_lald X 75 (show cdA 1 175 = some (.laload, 1, 0, 0, 0) from rfl) (by decide) rfl (by first | exact oq_8a3e0277 hi.1 | omega) (show ((c * 2) + 1) < 132 by first | exact oq_643e2065 g2006 b2005.2 | omega) (by decide) (fun j2011 => ?_)
        refine w_lload_n X.1 (ax_d X (show cdA 1 176 = some (.lload_n 3, 1, 0, 0, 0) from rfl)) (x := bv) (List.Mem.tail _ (List.Mem.tail _ (List.Mem.head _))) ?_
        refine w_land X.1 (ax_d X (show cdA 1 177 = some (.land, 1, 0, 0, 0) from rfl)) ?_
        refine z_anyJ (fun j2012 => ?_)
        refine z_callS X (rm := rmN 298) (As := [.long j2012]) (st := [.int (Int32.ofInt e2010)]) (show cdA 1 178 = some (.invokestatic 51, 3, 298, 1, 0) from rfl) rfl (by rw [E.1, E.2.1, E.2.2.1]; exact j_bitL G Is2009 ) ⟨by rw [E.2.2.2]; exact (show (rmN 298).frames + 1 ≤ (rmN 1).frames by decide), by rw [E.2.2.2]; exact (show 8 + (mNL (miB 298) + 11) + (rmN 298).locals ≤ (rmN 1).locals by decide), by rw [E.2.2.2]; exact (show 0 + (rmN 298).cells ≤ (rmN 1).cells by decide), by rw [E.2.2.2]; exact (show 0 + (rmN 298).slots ≤ (rmN 1).slots by decide)⟩ (Nat.le_of_ble_eq_true rfl) (fun vv s2013 hq => ?_) (fun ee s2013 hq => ?_)
        rotate_left
        · obtain ⟨Is2013, Fs2013, e2014, hv, hrs2013, hps2013⟩ := hq; cases hv
        obtain ⟨Is2013, Fs2013, e2014, hv, hrs2013, hps2013⟩ := hq
        cases hv
        have Gs2013 := fm_ts Gs2009 Fs2013 (by decide) (by decide)
        have ws2013_64 : iI s2013 64 = iI s2009 64 := fm_i Fs2013 (by decide)
        have ws2013_65 : iI s2013 65 = iI s2009 65 := fm_i Fs2013 (by decide)
        have ws2013_43 : iI s2013 43 = iI s2009 43 := fm_i Fs2013 (by decide)
        have ws2013_44 : iI s2013 44 = iI s2009 44 := fm_i Fs2013 (by decide)
        show WS k 181 [(0, .ref (A 153)), (1, .long av), (3, .long bv), (6, .int (Int32.ofInt c))] [.int (Int32.ofInt e2014), .int (Int32.ofInt e2010)] (Wd A dT s2013) 0 0
        refine z_add X (show cdA 1 181 = some (.iadd, 1, 0, 0, 0) from rfl) ?_
        refine z_any (fun y2015 hy2015 => ?_)
        refine z_store X (lv' := [(7, .int (Int32.ofInt y2015)), (0, .ref (A 153)), (1, .long av), (3, .long bv), (6, .int (Int32.ofInt c))]) (show cdA 1 182 = some (.istore 7, 2, 0, 0, 0) from rfl) (by decide) (fun _ h => h) ?_
        refine z_load X (x := y2015) (show cdA 1 184 = some (.iload 7, 2, 0, 0, 0) from rfl) (List.Mem.head _) ?_
        refine z_if_le X (t := 254) (show cdA 1 186 = some (.ifCond .le 68, 3, 5, 0, 0) from rfl) (by decide) hy2015 (fun g2016 => ?_) (fun g2016 => ?_)
        ·
          refine z_inc X (x := c) (lv' := [(6, .int (Int32.ofInt (c + 1))), (7, .int (Int32.ofInt y2015)), (0, .ref (A 153)), (1, .long av), (3, .long bv)]) (show cdA 1 254 = some (.iinc 6 1, 3, 0, 0, 0) from rfl) (by decide) (List.Mem.tail _ (List.Mem.tail _ (List.Mem.tail _ (List.Mem.tail _ (List.Mem.head _))))) (fun _ h => h) ?_
          refine z_goto X (t := 133) (show cdA 1 257 = some (.goto (-124), 3, 0, 0, 0) from rfl) (by decide) ?_
          refine WS_lv (lv := [(0, .ref (A 153)), (1, .long av), (3, .long bv), (6, .int (Int32.ofInt (c + 1)))]) (List.forall_mem_cons.mpr ⟨(List.Mem.tail _ (List.Mem.tail _ (List.Mem.head _))), (List.forall_mem_cons.mpr ⟨(List.Mem.tail _ (List.Mem.tail _ (List.Mem.tail _ (List.Mem.head _)))), (List.forall_mem_cons.mpr ⟨(List.Mem.tail _ (List.Mem.tail _ (List.Mem.tail _ (List.Mem.tail _ (List.Mem.head _))))), (List.forall_mem_cons.mpr ⟨(List.Mem.head _), (fun q h => absurd h List.not_mem_nil)⟩)⟩)⟩)⟩) ?_
          exact ih _ av bv (c + 1) Is2013 Gs2013 (by first | exact ⟨oq_54f49eb5 hi.1, oq_319a18a4 g2006 b2005.2, oq_2e1f687c ws2013_65 hi.2.2 ws2009_65⟩ | omega) (by first | exact qk_me hm (by decide) (oq_dd0e9829 g2006 b2005.2) | omega) kx
        ·
          refine z_aload_n X (x := A 153) (show cdA 1 189 = some (.aload_n 0, 1, 0, 0, 0) from rfl) (List.Mem.tail _ (List.Mem.head _)) ?_
          refine s_getR X 153 (show cdA 1 190 = some (.getfield 26, 3, 0, 8, 0) from rfl) (by decide) rfl rfl ?_
          refine z_aload_n X (x := A 153) (show cdA 1 193 = some (.aload_n 0, 1, 0, 0, 0) from rfl) (List.Mem.tail _ (List.Mem.head _)) ?_
          refine z_getI X 153 (show cdA 1 194 = some (.getfield 72, 3, 0, 7, 0) from rfl) (by decide) rfl rfl ?_
          have b2017 : (0 : Int) ≤ iI s2013 65 ∧ iI s2013 65 ≤ 66 := Is2013.1 65
          refine z_aload_n X (x := A 153) (show cdA 1 197 = some (.aload_n 0, 1, 0, 0, 0) from rfl) (List.Mem.tail _ (List.Mem.head _)) ?_
          refine s_getR X 153 (show cdA 1 198 = some (.getfield 43, 3, 0, 0, 0) from rfl) (by decide) rfl rfl ?_
          refine s_getR X 68 (show cdA 1 201 = some (.getfield 81, 3, 9, 6, 0) from rfl) (by decide) rfl rfl ?_
          refine z_load X (x := c) (show cdA 1 204 = some (.iload 6, 2, 0, 0, 0) from rfl) (List.Mem.tail _ (List.Mem.tail _ (List.Mem.tail _ (List.Mem.tail _ (List.Mem.head _))))) ?_
          refine z_ald X 74 (show cdA 1 206 = some (.iaload, 1, 0, 0, 0) from rfl) (by decide) rfl (by first | exact hi.1 | omega) (show c < 66 by first | exact oq_256e4529 g2006 b2005.2 | omega) (by decide) ?_
          have b2018 : (0 : Int) ≤ iC s2013 62 (c).toNat ∧ iC s2013 62 (c).toNat ≤ 143 := Is2013.2 62 _ (show (c).toNat < 66 by first | exact oq_d7ff7873 g2006 b2005.2 | omega)
          refine z_bipush X (show cdA 1 207 = some (.bipush 12, 2, 0, 0, 12) from rfl) ?_
          refine z_quot X (show cdA 1 209 = some (.idiv, 1, 0, 0, 0) from rfl) (by first | exact b2018.1 | omega) (rng_to _) (by decide) (by decide) ?_
          refine z_ast X 158 (show cdA 1 210 = some (.iastore, 1, 0, 0, 0) from rfl) (by decide) rfl (by first | exact b2017.1 | omega) (show (iI s2013 65) < 66 by first | exact oq_141bb310 ws2013_65 ws2009_65 hi.2.2 g2006 b2005.2 | omega) (by decide) ?_
          obtain ⟨s2019, hs2019⟩ : ∃ x0, x0 = uC s2013 138 ((iI s2013 65)).toNat (Int32.ofInt ((iC s2013 62 (c).toNat) / 12)) := ⟨_, rfl⟩
          rw [← hs2019]
          have Is2019 : Bd s2019 := by rw [hs2019]; exact bd_C Is2013 (show (0 : Int) ≤ ((iC s2013 62 (c).toNat) / 12) ∧ ((iC s2013 62 (c).toNat) / 12) ≤ 11 by first | exact ⟨oq_37eb78e0 b2018.1, oq_a03fe580 b2018.2⟩ | omega) ⟨by first | exact oq_e17ab641 b2018.1 | omega, by first | exact oq_c285d9d6 b2018.2 | omega⟩
          have Fs2019 := fm_C (i := ((iI s2013 65)).toNat) (x := Int32.ofInt ((iC s2013 62 (c).toNat) / 12)) Gs2013 (show 138 ∈ _ by decide)
          rw [← hs2019] at Fs2019
          have ws2019_64 : iI s2019 64 = iI s2013 64 := by rw [hs2019]; rfl
          have ws2019_65 : iI s2019 65 = iI s2013 65 := by rw [hs2019]; rfl
          have ws2019_43 : iI s2019 43 = iI s2013 43 := by rw [hs2019]; rfl
          have ws2019_44 : iI s2019 44 = iI s2013 44 := by rw [hs2019]; rfl
          refine z_aload_n X (x := A 153) (show cdA 1 211 = some (.aload_n 0, 1, 0, 0, 0) from rfl) (List.Mem.tail _ (List.Mem.head _)) ?_
          refine s_getR X 153 (show cdA 1 212 = some (.getfield 29, 3, 0, 9, 0) from rfl) (by decide) rfl rfl ?_
          refine z_aload_n X (x := A 153) (show cdA 1 215 = some (.aload_n 0, 1, 0, 0, 0) from rfl) (List.Mem.tail _ (List.Mem.head _)) ?_
          refine z_getI X 153 (show cdA 1 216 = some (.getfield 72, 3, 0, 7, 0) from rfl) (by decide) rfl rfl ?_
          have b2020 : (0 : Int) ≤ iI s2019 65 ∧ iI s2019 65 ≤ 66 := Is2019.1 65
          refine z_aload_n X (x := A 153) (show cdA 1 219 = some (.aload_n 0, 1, 0, 0, 0) from rfl) (List.Mem.tail _ (List.Mem.head _)) ?_
          refine s_getR X 153 (show cdA 1 220 = some (.getfield 43, 3, 0, 0, 0) from rfl) (by decide) rfl rfl ?_
          refine s_getR X 68 (show cdA 1 223 = some (.getfield 81, 3, 9, 6, 0) from rfl) (by decide) rfl rfl ?_
          refine z_load X (x := c) (show cdA 1 226 = some (.iload 6, 2, 0, 0, 0) from rfl) (List.Mem.tail _ (List.Mem.tail _ (List.Mem.tail _ (List.Mem.tail _ (List.Mem.head _))))) ?_
          refine z_ald X 74 (show cdA 1 228 = some (.iaload, 1, 0, 0, 0) from rfl) (by decide) rfl (by first | exact hi.1 | omega) (show c < 66 by first | exact oq_256e4529 g2006 b2005.2 | omega) (by decide) ?_
          have b2021 : (0 : Int) ≤ iC s2019 62 (c).toNat ∧ iC s2019 62 (c).toNat ≤ 143 := Is2019.2 62 _ (show (c).toNat < 66 by first | exact oq_d7ff7873 g2006 b2005.2 | omega)
          refine z_bipush X (show cdA 1 229 = some (.bipush 12, 2, 0, 0, 12) from rfl) ?_
          refine z_mod X (show cdA 1 231 = some (.irem, 1, 0, 0, 0) from rfl) (by first | exact b2021.1 | omega) (rng_to _) (by decide) (by decide) ?_
          refine z_ast X 159 (show cdA 1 232 = some (.iastore, 1, 0, 0, 0) from rfl) (by decide) rfl (by first | exact b2020.1 | omega) (show (iI s2019 65) < 66 by first | exact oq_47fd6e20 ws2019_65 ws2013_65 ws2009_65 g2006 b2005.2 hi.2.2 | omega) (by decide) ?_
          obtain ⟨s2022, hs2022⟩ : ∃ x0, x0 = uC s2019 139 ((iI s2019 65)).toNat (Int32.ofInt ((iC s2019 62 (c).toNat) % 12)) := ⟨_, rfl⟩
          rw [← hs2022]
          have Is2022 : Bd s2022 := by rw [hs2022]; exact bd_C Is2019 (show (0 : Int) ≤ ((iC s2019 62 (c).toNat) % 12) ∧ ((iC s2019 62 (c).toNat) % 12) ≤ 11 by first | exact ⟨oq_b83041cc, oq_e286272e⟩ | omega) ⟨by first | exact oq_9d26ea27 | omega, by first | exact oq_6634e3d0 | omega⟩
          have Fs2022 := fm_C (i := ((iI s2019 65)).toNat) (x := Int32.ofInt ((iC s2019 62 (c).toNat) % 12)) Fs2019 (show 139 ∈ _ by decide)
          rw [← hs2022] at Fs2022
          have ws2022_64 : iI s2022 64 = iI s2019 64 := by rw [hs2022]; rfl
          have ws2022_65 : iI s2022 65 = iI s2019 65 := by rw [hs2022]; rfl
          have ws2022_43 : iI s2022 43 = iI s2019 43 := by rw [hs2022]; rfl
          have ws2022_44 : iI s2022 44 = iI s2019 44 := by rw [hs2022]; rfl
          refine z_aload_n X (x := A 153) (show cdA 1 233 = some (.aload_n 0, 1, 0, 0, 0) from rfl) (List.Mem.tail _ (List.Mem.head _)) ?_
          refine s_getR X 153 (show cdA 1 234 = some (.getfield 32, 3, 0, 10, 0) from rfl) (by decide) rfl rfl ?_
          refine z_aload_n X (x := A 153) (show cdA 1 237 = some (.aload_n 0, 1, 0, 0, 0) from rfl) (List.Mem.tail _ (List.Mem.head _)) ?_
          refine z_getI X 153 (show cdA 1 238 = some (.getfield 72, 3, 0, 7, 0) from rfl) (by decide) rfl rfl ?_
          have b2023 : (0 : Int) ≤ iI s2022 65 ∧ iI s2022 65 ≤ 66 := Is2022.1 65
          refine z_load X (x := y2015) (show cdA 1 241 = some (.iload 7, 2, 0, 0, 0) from rfl) (List.Mem.head _) ?_
          refine z_ast X 160 (show cdA 1 243 = some (.iastore, 1, 0, 0, 0) from rfl) (by decide) rfl (by first | exact b2023.1 | omega) (show (iI s2022 65) < 66 by first | exact oq_3af0036b ws2022_65 ws2019_65 ws2013_65 ws2009_65 g2006 b2005.2 hi.2.2 | omega) (by decide) ?_
          obtain ⟨s2024, hs2024⟩ : ∃ x0, x0 = uC s2022 140 ((iI s2022 65)).toNat (Int32.ofInt y2015) := ⟨_, rfl⟩
          rw [← hs2024]
          have Is2024 : Bd s2024 := by rw [hs2024]; exact bd_C Is2022 (show ((-2147483648) : Int) ≤ y2015 ∧ y2015 ≤ 2147483647 by first | exact ⟨hy2015.1, hy2015.2⟩ | omega) hy2015
          have Fs2024 := fm_C (i := ((iI s2022 65)).toNat) (x := Int32.ofInt y2015) Fs2022 (show 140 ∈ _ by decide)
          rw [← hs2024] at Fs2024
          have ws2024_64 : iI s2024 64 = iI s2022 64 := by rw [hs2024]; rfl
          have ws2024_65 : iI s2024 65 = iI s2022 65 := by rw [hs2024]; rfl
          have ws2024_43 : iI s2024 43 = iI s2022 43 := by rw [hs2024]; rfl
          have ws2024_44 : iI s2024 44 = iI s2022 44 := by rw [hs2024]; rfl
          refine z_aload_n X (x := A 153) (show cdA 1 244 = some (.aload_n 0, 1, 0, 0, 0) from rfl) (List.Mem.tail _ (List.Mem.head _)) ?_
          refine w_dup X.1 (ax_d X (show cdA 1 245 = some (.dup, 1, 0, 0, 0) from rfl)) rfl ?_
          refine z_getI X 153 (show cdA 1 246 = some (.getfield 72, 3, 0, 7, 0) from rfl) (by decide) rfl rfl ?_
          have b2025 : (0 : Int) ≤ iI s2024 65 ∧ iI s2024 65 ≤ 66 := Is2024.1 65
          refine z_const X (show cdA 1 249 = some (.iconst 1, 1, 0, 0, 0) from rfl) ?_
          refine z_add X (show cdA 1 250 = some (.iadd, 1, 0, 0, 0) from rfl) ?_
          refine s_putI X 153 (show cdA 1 251 = some (.putfield 72, 3, 0, 7, 0) from rfl) (by decide) rfl rfl (by decide) rfl rfl rfl ?_
          obtain ⟨s2026, hs2026⟩ : ∃ x0, x0 = uI s2024 65 (Int32.ofInt ((iI s2024 65) + 1)) := ⟨_, rfl⟩
          rw [← hs2026]
          have Is2026 : Bd s2026 := by rw [hs2026]; exact bd_I Is2024 (show (0 : Int) ≤ ((iI s2024 65) + 1) ∧ ((iI s2024 65) + 1) ≤ 66 by first | exact ⟨oq_54f49eb5 b2025.1, oq_d0eb7b2e ws2024_65 ws2022_65 ws2019_65 ws2013_65 ws2009_65 g2006 b2005.2 hi.2.2⟩ | omega) ⟨by first | exact oq_74de1e16 b2025.1 | omega, by first | exact oq_d99c2177 b2025.2 | omega⟩
          have Fs2026 := fm_I (x := Int32.ofInt ((iI s2024 65) + 1)) Fs2024 (show 65 ∈ _ by decide)
          rw [← hs2026] at Fs2026
          have vs2026 : iI s2026 65 = ((iI s2024 65) + 1) := by rw [hs2026]; exact iI_u ⟨by first | exact oq_74de1e16 b2025.1 | omega, by first | exact oq_d99c2177 b2025.2 | omega⟩
          have ws2026_64 : iI s2026 64 = iI s2024 64 := by rw [hs2026]; rfl
          have ws2026_43 : iI s2026 43 = iI s2024 43 := by rw [hs2026]; rfl
          have ws2026_44 : iI s2026 44 = iI s2024 44 := by rw [hs2026]; rfl
          refine z_inc X (x := c) (lv' := [(6, .int (Int32.ofInt (c + 1))), (7, .int (Int32.ofInt y2015)), (0, .ref (A 153)), (1, .long av), (3, .long bv)]) (show cdA 1 254 = some (.iinc 6 1, 3, 0, 0, 0) from rfl) (by decide) (List.Mem.tail _ (List.Mem.tail _ (List.Mem.tail _ (List.Mem.tail _ (List.Mem.head _))))) (fun _ h => h) ?_
          refine z_goto X (t := 133) (show cdA 1 257 = some (.goto (-124), 3, 0, 0, 0) from rfl) (by decide) ?_
          refine WS_lv (lv := [(0, .ref (A 153)), (1, .long av), (3, .long bv), (6, .int (Int32.ofInt (c + 1)))]) (List.forall_mem_cons.mpr ⟨(List.Mem.tail _ (List.Mem.tail _ (List.Mem.head _))), (List.forall_mem_cons.mpr ⟨(List.Mem.tail _ (List.Mem.tail _ (List.Mem.tail _ (List.Mem.head _)))), (List.forall_mem_cons.mpr ⟨(List.Mem.tail _ (List.Mem.tail _ (List.Mem.tail _ (List.Mem.tail _ (List.Mem.head _))))), (List.forall_mem_cons.mpr ⟨(List.Mem.head _), (fun q h => absurd h List.not_mem_nil)⟩)⟩)⟩)⟩) ?_
          exact ih _ av bv (c + 1) Is2026 Fs2026 (by first | exact ⟨oq_54f49eb5 hi.1, oq_319a18a4 g2006 b2005.2, oq_6fc60775 vs2026 ws2024_65 ws2022_65 ws2019_65 ws2013_65 ws2009_65 hi.2.2⟩ | omega) (by first | exact qk_me hm (by decide) (oq_dd0e9829 g2006 b2005.2) | omega) kx
  refine z_aload_n X (x := A 153) (show cdA 1 0 = some (.aload_n 0, 1, 0, 0, 0) from rfl) (List.Mem.head _) ?_
  refine s_getR X 153 (show cdA 1 1 = some (.getfield 37, 3, 0, 11, 0) from rfl) (by decide) rfl rfl ?_
  refine z_const X (show cdA 1 4 = some (.iconst 4, 1, 0, 0, 0) from rfl) ?_
  refine w_lload_n X.1 (ax_d X (show cdA 1 5 = some (.lload_n 1, 1, 0, 0, 0) from rfl)) (x := aj) (List.Mem.tail _ (List.Mem.head _)) ?_
  refine z_callS X (rm := rmN 298) (As := [.long aj]) (st := [.int (Int32.ofInt 4), .ref (A 161)]) (show cdA 1 6 = some (.invokestatic 51, 3, 298, 1, 0) from rfl) rfl (by rw [E.1, E.2.1, E.2.2.1]; exact j_bitL G I ) ⟨by rw [E.2.2.2]; exact (show (rmN 298).frames + 1 ≤ (rmN 1).frames by decide), by rw [E.2.2.2]; exact (show 8 + (mNL (miB 298) + 11) + (rmN 298).locals ≤ (rmN 1).locals by decide), by rw [E.2.2.2]; exact (show 0 + (rmN 298).cells ≤ (rmN 1).cells by decide), by rw [E.2.2.2]; exact (show 0 + (rmN 298).slots ≤ (rmN 1).slots by decide)⟩ (Nat.le_of_ble_eq_true rfl) (fun vv s5 hq => ?_) (fun ee s5 hq => ?_)
  rotate_left
  · obtain ⟨Is5, Fs5, e6, hv, hrs5, hps5⟩ := hq; cases hv
  obtain ⟨Is5, Fs5, e6, hv, hrs5, hps5⟩ := hq
  cases hv
  have Gs5 := fm_ts F Fs5 (by decide) (by decide)
  have ws5_64 : iI s5 64 = iI s 64 := fm_i Fs5 (by decide)
  have ws5_65 : iI s5 65 = iI s 65 := fm_i Fs5 (by decide)
  have ws5_43 : iI s5 43 = iI s 43 := fm_i Fs5 (by decide)
  have ws5_44 : iI s5 44 = iI s 44 := fm_i Fs5 (by decide)
  show WS k 9 [(0, .ref (A 153)), (1, .long aj), (3, .long bj), (5, .int (Int32.ofInt x))] [.int (Int32.ofInt e6), .int (Int32.ofInt 4), .ref (A 161)] (Wd A dT s5) 0 0
  refine w_lload_n X.1 (ax_d X (show cdA 1 9 = some (.lload_n 3, 1, 0, 0, 0) from rfl)) (x := bj) (List.Mem.tail _ (List.Mem.tail _ (List.Mem.head _))) ?_
  refine z_callS X (rm := rmN 298) (As := [.long bj]) (st := [.int (Int32.ofInt e6), .int (Int32.ofInt 4), .ref (A 161)]) (show cdA 1 10 = some (.invokestatic 51, 3, 298, 1, 0) from rfl) rfl (by rw [E.1, E.2.1, E.2.2.1]; exact j_bitL G Is5 ) ⟨by rw [E.2.2.2]; exact (show (rmN 298).frames + 1 ≤ (rmN 1).frames by decide), by rw [E.2.2.2]; exact (show 8 + (mNL (miB 298) + 11) + (rmN 298).locals ≤ (rmN 1).locals by decide), by rw [E.2.2.2]; exact (show 0 + (rmN 298).cells ≤ (rmN 1).cells by decide), by rw [E.2.2.2]; exact (show 0 + (rmN 298).slots ≤ (rmN 1).slots by decide)⟩ (Nat.le_of_ble_eq_true rfl) (fun vv s7 hq => ?_) (fun ee s7 hq => ?_)
  rotate_left
  · obtain ⟨Is7, Fs7, e8, hv, hrs7, hps7⟩ := hq; cases hv
  obtain ⟨Is7, Fs7, e8, hv, hrs7, hps7⟩ := hq
  cases hv
  have Gs7 := fm_ts Gs5 Fs7 (by decide) (by decide)
  have ws7_64 : iI s7 64 = iI s5 64 := fm_i Fs7 (by decide)
  have ws7_65 : iI s7 65 = iI s5 65 := fm_i Fs7 (by decide)
  have ws7_43 : iI s7 43 = iI s5 43 := fm_i Fs7 (by decide)
  have ws7_44 : iI s7 44 = iI s5 44 := fm_i Fs7 (by decide)
  show WS k 13 [(0, .ref (A 153)), (1, .long aj), (3, .long bj), (5, .int (Int32.ofInt x))] [.int (Int32.ofInt e8), .int (Int32.ofInt e6), .int (Int32.ofInt 4), .ref (A 161)] (Wd A dT s7) 0 0
  refine z_add X (show cdA 1 13 = some (.iadd, 1, 0, 0, 0) from rfl) ?_
  refine z_any (fun y9 hy9 => ?_)
  refine z_ast X 161 (show cdA 1 14 = some (.iastore, 1, 0, 0, 0) from rfl) (by decide) rfl (by decide) (show 4 < 7 by decide) (by decide) ?_
  obtain ⟨s10, hs10⟩ : ∃ x0, x0 = uC s7 141 (4 : Int).toNat (Int32.ofInt y9) := ⟨_, rfl⟩
  rw [← hs10]
  have Is10 : Bd s10 := by rw [hs10]; exact bd_C Is7 (show ((-2147483648) : Int) ≤ y9 ∧ y9 ≤ 2147483647 by first | exact ⟨hy9.1, hy9.2⟩ | omega) hy9
  have Fs10 := fm_C (i := (4 : Int).toNat) (x := Int32.ofInt y9) Gs7 (show 141 ∈ _ by decide)
  rw [← hs10] at Fs10
  have ws10_64 : iI s10 64 = iI s7 64 := by rw [hs10]; rfl
  have ws10_65 : iI s10 65 = iI s7 65 := by rw [hs10]; rfl
  have ws10_43 : iI s10 43 = iI s7 43 := by rw [hs10]; rfl
  have ws10_44 : iI s10 44 = iI s7 44 := by rw [hs10]; rfl
  refine z_aload_n X (x := A 153) (show cdA 1 15 = some (.aload_n 0, 1, 0, 0, 0) from rfl) (List.Mem.head _) ?_
  refine s_getR X 153 (show cdA 1 16 = some (.getfield 37, 3, 0, 11, 0) from rfl) (by decide) rfl rfl ?_
  refine z_const X (show cdA 1 19 = some (.iconst 5, 1, 0, 0, 0) from rfl) ?_
  refine w_lload_n X.1 (ax_d X (show cdA 1 20 = some (.lload_n 1, 1, 0, 0, 0) from rfl)) (x := aj) (List.Mem.tail _ (List.Mem.head _)) ?_
  refine z_callS X (rm := rmN 298) (As := [.long aj]) (st := [.int (Int32.ofInt 5), .ref (A 161)]) (show cdA 1 21 = some (.invokestatic 51, 3, 298, 1, 0) from rfl) rfl (by rw [E.1, E.2.1, E.2.2.1]; exact j_bitL G Is10 ) ⟨by rw [E.2.2.2]; exact (show (rmN 298).frames + 1 ≤ (rmN 1).frames by decide), by rw [E.2.2.2]; exact (show 8 + (mNL (miB 298) + 11) + (rmN 298).locals ≤ (rmN 1).locals by decide), by rw [E.2.2.2]; exact (show 0 + (rmN 298).cells ≤ (rmN 1).cells by decide), by rw [E.2.2.2]; exact (show 0 + (rmN 298).slots ≤ (rmN 1).slots by decide)⟩ (Nat.le_of_ble_eq_true rfl) (fun vv s11 hq => ?_) (fun ee s11 hq => ?_)
  rotate_left
  · obtain ⟨Is11, Fs11, e12, hv, hrs11, hps11⟩ := hq; cases hv
  obtain ⟨Is11, Fs11, e12, hv, hrs11, hps11⟩ := hq
  cases hv
  have Gs11 := fm_ts Fs10 Fs11 (by decide) (by decide)
  have ws11_64 : iI s11 64 = iI s10 64 := fm_i Fs11 (by decide)
  have ws11_65 : iI s11 65 = iI s10 65 := fm_i Fs11 (by decide)
  have ws11_43 : iI s11 43 = iI s10 43 := fm_i Fs11 (by decide)
  have ws11_44 : iI s11 44 = iI s10 44 := fm_i Fs11 (by decide)
  show WS k 24 [(0, .ref (A 153)), (1, .long aj), (3, .long bj), (5, .int (Int32.ofInt x))] [.int (Int32.ofInt e12), .int (Int32.ofInt 5), .ref (A 161)] (Wd A dT s11) 0 0
  refine z_ast X 161 (show cdA 1 24 = some (.iastore, 1, 0, 0, 0) from rfl) (by decide) rfl (by decide) (show 5 < 7 by decide) (by decide) ?_
  obtain ⟨s13, hs13⟩ : ∃ x0, x0 = uC s11 141 (5 : Int).toNat (Int32.ofInt e12) := ⟨_, rfl⟩
  rw [← hs13]
  have Is13 : Bd s13 := by rw [hs13]; exact bd_C Is11 (show ((-2147483648) : Int) ≤ e12 ∧ e12 ≤ 2147483647 by omega) hrs11
  have Fs13 := fm_C (i := (5 : Int).toNat) (x := Int32.ofInt e12) Gs11 (show 141 ∈ _ by decide)
  rw [← hs13] at Fs13
  have ws13_64 : iI s13 64 = iI s11 64 := by rw [hs13]; rfl
  have ws13_65 : iI s13 65 = iI s11 65 := by rw [hs13]; rfl
  have ws13_43 : iI s13 43 = iI s11 43 := by rw [hs13]; rfl
  have ws13_44 : iI s13 44 = iI s11 44 := by rw [hs13]; rfl
  refine z_aload_n X (x := A 153) (show cdA 1 25 = some (.aload_n 0, 1, 0, 0, 0) from rfl) (List.Mem.head _) ?_
  refine s_getR X 153 (show cdA 1 26 = some (.getfield 37, 3, 0, 11, 0) from rfl) (by decide) rfl rfl ?_
  refine z_bipush X (show cdA 1 29 = some (.bipush 6, 2, 0, 0, 6) from rfl) ?_
  refine z_load X (x := x) (show cdA 1 31 = some (.iload 5, 2, 0, 0, 0) from rfl) (List.Mem.tail _ (List.Mem.tail _ (List.Mem.tail _ (List.Mem.head _)))) ?_
  refine z_ast X 161 (show cdA 1 33 = some (.iastore, 1, 0, 0, 0) from rfl) (by decide) rfl (by decide) (show 6 < 7 by decide) (by decide) ?_
  obtain ⟨s14, hs14⟩ : ∃ x0, x0 = uC s13 141 (6 : Int).toNat (Int32.ofInt x) := ⟨_, rfl⟩
  rw [← hs14]
  have Is14 : Bd s14 := by rw [hs14]; exact bd_C Is13 (show ((-2147483648) : Int) ≤ x ∧ x ≤ 2147483647 by first | exact ⟨p0.1, p0.2⟩ | omega) ⟨by first | exact p0.1 | omega, by first | exact p0.2 | omega⟩
  have Fs14 := fm_C (i := (6 : Int).toNat) (x := Int32.ofInt x) Fs13 (show 141 ∈ _ by decide)
  rw [← hs14] at Fs14
  have ws14_64 : iI s14 64 = iI s13 64 := by rw [hs14]; rfl
  have ws14_65 : iI s14 65 = iI s13 65 := by rw [hs14]; rfl
  have ws14_43 : iI s14 43 = iI s13 43 := by rw [hs14]; rfl
  have ws14_44 : iI s14 44 = iI s13 44 := by rw [hs14]; rfl
  refine z_aload_n X (x := A 153) (show cdA 1 34 = some (.aload_n 0, 1, 0, 0, 0) from rfl) (List.Mem.head _) ?_
  refine z_const X (show cdA 1 35 = some (.iconst 0, 1, 0, 0, 0) from rfl) ?_
  refine s_putI X 153 (show cdA 1 36 = some (.putfield 57, 3, 0, 2, 0) from rfl) (by decide) rfl rfl (by decide) rfl rfl rfl ?_
  obtain ⟨s15, hs15⟩ : ∃ x0, x0 = uI s14 64 (Int32.ofInt 0) := ⟨_, rfl⟩
  rw [← hs15]
  have Is15 : Bd s15 := by rw [hs15]; exact bd_I Is14 (show (0 : Int) ≤ 0 ∧ 0 ≤ 12 by first | exact ⟨by decide, by decide⟩ | omega) (by decide)
  have Fs15 := fm_I (x := Int32.ofInt 0) Fs14 (show 64 ∈ _ by decide)
  rw [← hs15] at Fs15
  have vs15 : iI s15 64 = 0 := by rw [hs15]; exact iI_u (by decide)
  have ws15_65 : iI s15 65 = iI s14 65 := by rw [hs15]; rfl
  have ws15_43 : iI s15 43 = iI s14 43 := by rw [hs15]; rfl
  have ws15_44 : iI s15 44 = iI s14 44 := by rw [hs15]; rfl
  refine z_const X (show cdA 1 39 = some (.iconst 0, 1, 0, 0, 0) from rfl) ?_
  refine z_store X (lv' := [(6, .int (Int32.ofInt 0)), (0, .ref (A 153)), (1, .long aj), (3, .long bj), (5, .int (Int32.ofInt x))]) (show cdA 1 40 = some (.istore 6, 2, 0, 0, 0) from rfl) (by decide) (fun _ h => h) ?_
  refine WS_lv (lv := [(0, .ref (A 153)), (1, .long aj), (3, .long bj), (6, .int (Int32.ofInt 0))]) (List.forall_mem_cons.mpr ⟨(List.Mem.tail _ (List.Mem.head _)), (List.forall_mem_cons.mpr ⟨(List.Mem.tail _ (List.Mem.tail _ (List.Mem.head _))), (List.forall_mem_cons.mpr ⟨(List.Mem.tail _ (List.Mem.tail _ (List.Mem.tail _ (List.Mem.head _)))), (List.forall_mem_cons.mpr ⟨(List.Mem.head _), (fun q h => absurd h List.not_mem_nil)⟩)⟩)⟩)⟩) ?_
  refine L42 ((12 - 0 : Int).toNat + 1) s15 aj bj 0 Is15 Fs15 (by first | exact ⟨by decide, by decide, oq_1af0b4f8 vs15⟩ | omega) (Nat.lt_succ_self _) ?_
  intro s16 x17 Is16 Fs16 hs16
  have b18 : (0 : Int) ≤ iI s16 64 ∧ iI s16 64 ≤ 12 := Is16.1 64
  have b19 : (0 : Int) ≤ iI s16 65 ∧ iI s16 65 ≤ 66 := Is16.1 65
  have b20 : (0 : Int) ≤ iI s16 43 ∧ iI s16 43 ≤ 12 := Is16.1 43
  have b21 : (0 : Int) ≤ iI s16 44 ∧ iI s16 44 ≤ 66 := Is16.1 44
  refine z_aload_n X (x := A 153) (show cdA 1 125 = some (.aload_n 0, 1, 0, 0, 0) from rfl) (List.Mem.head _) ?_
  refine z_const X (show cdA 1 126 = some (.iconst 0, 1, 0, 0, 0) from rfl) ?_
  refine s_putI X 153 (show cdA 1 127 = some (.putfield 72, 3, 0, 7, 0) from rfl) (by decide) rfl rfl (by decide) rfl rfl rfl ?_
  obtain ⟨s22, hs22⟩ : ∃ x0, x0 = uI s16 65 (Int32.ofInt 0) := ⟨_, rfl⟩
  rw [← hs22]
  have Is22 : Bd s22 := by rw [hs22]; exact bd_I Is16 (show (0 : Int) ≤ 0 ∧ 0 ≤ 66 by first | exact ⟨by decide, by decide⟩ | omega) (by decide)
  have Fs22 := fm_I (x := Int32.ofInt 0) Fs16 (show 65 ∈ _ by decide)
  rw [← hs22] at Fs22
  have vs22 : iI s22 65 = 0 := by rw [hs22]; exact iI_u (by decide)
  have ws22_64 : iI s22 64 = iI s16 64 := by rw [hs22]; rfl
  have ws22_43 : iI s22 43 = iI s16 43 := by rw [hs22]; rfl
  have ws22_44 : iI s22 44 = iI s16 44 := by rw [hs22]; rfl
  refine z_const X (show cdA 1 130 = some (.iconst 0, 1, 0, 0, 0) from rfl) ?_
  refine z_store X (lv' := [(6, .int (Int32.ofInt 0)), (0, .ref (A 153)), (1, .long aj), (3, .long bj)]) (show cdA 1 131 = some (.istore 6, 2, 0, 0, 0) from rfl) (by decide) (fun _ h => h) ?_
  refine WS_lv (lv := [(0, .ref (A 153)), (1, .long aj), (3, .long bj), (6, .int (Int32.ofInt 0))]) (List.forall_mem_cons.mpr ⟨(List.Mem.tail _ (List.Mem.head _)), (List.forall_mem_cons.mpr ⟨(List.Mem.tail _ (List.Mem.tail _ (List.Mem.head _))), (List.forall_mem_cons.mpr ⟨(List.Mem.tail _ (List.Mem.tail _ (List.Mem.tail _ (List.Mem.head _)))), (List.forall_mem_cons.mpr ⟨(List.Mem.head _), (fun q h => absurd h List.not_mem_nil)⟩)⟩)⟩)⟩) ?_
  refine L133 ((66 - 0 : Int).toNat + 1) s22 aj bj 0 Is22 Fs22 (by first | exact ⟨by decide, by decide, oq_1af0b4f8 vs22⟩ | omega) (Nat.lt_succ_self _) ?_
  intro s23 x24 Is23 Fs23 hs23
  have b25 : (0 : Int) ≤ iI s23 64 ∧ iI s23 64 ≤ 12 := Is23.1 64
  have b26 : (0 : Int) ≤ iI s23 65 ∧ iI s23 65 ≤ 66 := Is23.1 65
  have b27 : (0 : Int) ≤ iI s23 43 ∧ iI s23 43 ≤ 12 := Is23.1 43
  have b28 : (0 : Int) ≤ iI s23 44 ∧ iI s23 44 ≤ 66 := Is23.1 44
  exact w_vret X.1 q hRt (ax_d X (show cdA 1 260 = some (.return_, 1, 0, 0, 0) from rfl)) (Nat.zero_le _) (Nat.zero_le _) ⟨_, rfl, Is23, Fs23, rfl, trivial⟩
set_option maxRecDepth 4000 in
theorem c0_hear_153 (G : GX l s0 D tys a0 dT) (I : Bd s) {x y : Int} (p0 : 0 ≤ x ∧ x ≤ 23) (p1 : rng y) : CT l s0 D A dT 3 (rmN 3) [.ref (A 153), .int (Int32.ofInt x), .int (Int32.ofInt y)] s (fun o t => Bd t ∧ Fm [] [141] s t ∧ o = .inl none ∧ (True)) := by
  refine ct_ofX G (by decide) (Nat.le_of_ble_eq_true rfl) (fun k X E ET hRt hXt q => ?_)
  show WS k 0 [(0, .ref (A 153)), (1, .int (Int32.ofInt x)), (2, .int (Int32.ofInt y))] [] _ 0 0
  have F : Fm [] [141] s s := fm_rf _ _ s
  have b1 : (0 : Int) ≤ iI s 64 ∧ iI s 64 ≤ 12 := I.1 64
  have b2 : (0 : Int) ≤ iI s 65 ∧ iI s 65 ≤ 66 := I.1 65
  have L20 : ∀ (n : Nat) (t : PS) (yv ro wa cr ov cl c : Int), Bd t → Fm [] [141] s t → (rng yv ∧ (0 ≤ ro ∧ ro ≤ 276) ∧ rng wa ∧ rng cr ∧ rng ov ∧ rng cl ∧ 0 ≤ c ∧ c ≤ 12) → (12 - c : Int).toNat < n → (∀ (t' : PS) (wa' cr' ov' cl' c' : Int), Bd t' → Fm [] [141] s t' → (rng yv ∧ (0 ≤ ro ∧ ro ≤ 276) ∧ rng wa' ∧ rng cr' ∧ rng ov' ∧ rng cl' ∧ 0 ≤ c' ∧ c' ≤ 12) → WS k 106 [(0, .ref (A 153)), (2, .int (Int32.ofInt yv)), (3, .int (Int32.ofInt ro)), (4, .int (Int32.ofInt wa')), (5, .int (Int32.ofInt cr')), (6, .int (Int32.ofInt ov')), (7, .int (Int32.ofInt cl')), (8, .int (Int32.ofInt c'))] [] (Wd A dT t') 0 0) → WS k 20 [(0, .ref (A 153)), (2, .int (Int32.ofInt yv)), (3, .int (Int32.ofInt ro)), (4, .int (Int32.ofInt wa)), (5, .int (Int32.ofInt cr)), (6, .int (Int32.ofInt ov)), (7, .int (Int32.ofInt cl)), (8, .int (Int32.ofInt c))] [] (Wd A dT t) 0 0 := by
    intro n
    induction n with
    | zero =>
      intro t yv ro wa cr ov cl c I F hi hm kx
      exact absurd hm (Nat.not_lt_zero _)
    | succ n ih =>
      intro t yv ro wa cr ov cl c I F hi hm kx
      have b1001 : (0 : Int) ≤ iI t 64 ∧ iI t 64 ≤ 12 := I.1 64
      have b1002 : (0 : Int) ≤ iI t 65 ∧ iI t 65 ≤ 66 := I.1 65
      refine z_load X (x := c) (show cdA 3 20 = some (.iload 8, 2, 0, 0, 0) from rfl) (List.Mem.tail _ (List.Mem.tail _ (List.Mem.tail _ (List.Mem.tail _ (List.Mem.tail _ (List.Mem.tail _ (List.Mem.tail _ (List.Mem.head _)))))))) ?_
      refine z_aload_n X (x := A 153) (show cdA 3 22 = some (.aload_n 0, 1, 0, 0, 0) from rfl) (List.Mem.head _) ?_
      refine z_getI X 153 (show cdA 3 23 = some (.getfield 57, 3, 0, 2, 0) from rfl) (by decide) rfl rfl ?_
      have b1003 : (0 : Int) ≤ iI t 64 ∧ iI t 64 ≤ 12 := I.1 64
      refine z_icmp_ge X (t := 106) (show cdA 3 26 = some (.if_icmp .ge 80, 3, 3, 0, 0) from rfl) (by decide) ⟨by first | exact oq_fa4e5087 hi.2.2.2.2.2.2.1 | omega, by first | exact oq_78843a64 hi.2.2.2.2.2.2.2 | omega⟩ (rng_to _) (fun g1004 => ?_) (fun g1004 => ?_)
      ·
        refine WS_lv (lv := [(0, .ref (A 153)), (2, .int (Int32.ofInt yv)), (3, .int (Int32.ofInt ro)), (4, .int (Int32.ofInt wa)), (5, .int (Int32.ofInt cr)), (6, .int (Int32.ofInt ov)), (7, .int (Int32.ofInt cl)), (8, .int (Int32.ofInt c))]) (List.forall_mem_cons.mpr ⟨(List.Mem.head _), (List.forall_mem_cons.mpr ⟨(List.Mem.tail _ (List.Mem.head _)), (List.forall_mem_cons.mpr ⟨(List.Mem.tail _ (List.Mem.tail _ (List.Mem.head _))), (List.forall_mem_cons.mpr ⟨(List.Mem.tail _ (List.Mem.tail _ (List.Mem.tail _ (List.Mem.head _)))), (List.forall_mem_cons.mpr ⟨(List.Mem.tail _ (List.Mem.tail _ (List.Mem.tail _ (List.Mem.tail _ (List.Mem.head _))))), (List.forall_mem_cons.mpr ⟨(List.Mem.tail _ (List.Mem.tail _ (List.Mem.tail _ (List.Mem.tail _ (List.Mem.tail _ (List.Mem.head _)))))), (List.forall_mem_cons.mpr ⟨(List.Mem.tail _ (List.Mem.tail _ (List.Mem.tail _ (List.Mem.tail _ (List.Mem.tail _ (List.Mem.tail _ (List.Mem.head _))))))), (List.forall_mem_cons.mpr ⟨(List.Mem.tail _ (List.Mem.tail _ (List.Mem.tail _ (List.Mem.tail _ (List.Mem.tail _ (List.Mem.tail _ (List.Mem.tail _ (List.Mem.head _)))))))), (fun q h => absurd h List.not_mem_nil)⟩)⟩)⟩)⟩)⟩)⟩)⟩)⟩) ?_
        exact kx _ wa cr ov cl c I F (by first | exact ⟨And.intro (hi.1.1) (hi.1.2), And.intro (hi.2.1.1) (hi.2.1.2), And.intro (hi.2.2.1.1) (hi.2.2.1.2), And.intro (hi.2.2.2.1.1) (hi.2.2.2.1.2), And.intro (hi.2.2.2.2.1.1) (hi.2.2.2.2.1.2), And.intro (hi.2.2.2.2.2.1.1) (hi.2.2.2.2.2.1.2), hi.2.2.2.2.2.2.1, hi.2.2.2.2.2.2.2⟩ | omega)
      ·
        refine z_aload_n X (x := A 153) (show cdA 3 29 = some (.aload_n 0, 1, 0, 0, 0) from rfl) (List.Mem.head _) ?_
        refine s_getR X 153 (show cdA 3 30 = some (.getfield 9, 3, 0, 3, 0) from rfl) (by decide) rfl rfl ?_
        refine z_load X (x := c) (show cdA 3 33 = some (.iload 8, 2, 0, 0, 0) from rfl) (List.Mem.tail _ (List.Mem.tail _ (List.Mem.tail _ (List.Mem.tail _ (List.Mem.tail _ (List.Mem.tail _ (List.Mem.tail _ (List.Mem.head _)))))))) ?_
        refine z_ald X 154 (show cdA 3 35 = some (.iaload, 1, 0, 0, 0) from rfl) (by decide) rfl (by first | exact hi.2.2.2.2.2.2.1 | omega) (show c < 12 by first | exact oq_f36e82a8 g1004 b1003.2 | omega) (by decide) ?_
        have b1005 : (0 : Int) ≤ iC t 134 (c).toNat ∧ iC t 134 (c).toNat ≤ 11 := I.2 134 _ (show (c).toNat < 12 by first | exact oq_2dac6850 g1004 b1003.2 | omega)
        refine z_load_n X (x := yv) (show cdA 3 36 = some (.iload_n 2, 1, 0, 0, 0) from rfl) (List.Mem.tail _ (List.Mem.head _)) ?_
        have N1006 : ∀ e1007 : Int, ((((iC t 134 (c).toNat) ≠ yv) ∧ ((0 : Int) ≤ iC t 134 (c).toNat ∧ iC t 134 (c).toNat ≤ 11) ∧ ((0 : Int) ≤ iC t 67 ((ro + (iC t 134 (c).toNat))).toNat ∧ iC t 67 ((ro + (iC t 134 (c).toNat))).toNat ≤ 50) ∧ e1007 = (iC t 67 ((ro + (iC t 134 (c).toNat))).toNat)) ∨ (((iC t 134 (c).toNat) = yv) ∧ e1007 = 0)) → WS k 61 [(0, .ref (A 153)), (2, .int (Int32.ofInt yv)), (3, .int (Int32.ofInt ro)), (4, .int (Int32.ofInt wa)), (5, .int (Int32.ofInt cr)), (6, .int (Int32.ofInt ov)), (7, .int (Int32.ofInt cl)), (8, .int (Int32.ofInt c))] [.int (Int32.ofInt e1007)] (Wd A dT t) 0 0 := by
          intro e1007 he1007
          refine z_store X (lv' := [(9, .int (Int32.ofInt e1007)), (0, .ref (A 153)), (2, .int (Int32.ofInt yv)), (3, .int (Int32.ofInt ro)), (4, .int (Int32.ofInt wa)), (5, .int (Int32.ofInt cr)), (6, .int (Int32.ofInt ov)), (7, .int (Int32.ofInt cl)), (8, .int (Int32.ofInt c))]) (show cdA 3 61 = some (.istore 9, 2, 0, 0, 0) from rfl) (by decide) (fun _ h => h) ?_
          refine z_load X (x := wa) (show cdA 3 63 = some (.iload 4, 2, 0, 0, 0) from rfl) (List.Mem.tail _ (List.Mem.tail _ (List.Mem.tail _ (List.Mem.tail _ (List.Mem.head _))))) ?_
          refine z_load X (x := e1007) (show cdA 3 65 = some (.iload 9, 2, 0, 0, 0) from rfl) (List.Mem.head _) ?_
          refine z_add X (show cdA 3 67 = some (.iadd, 1, 0, 0, 0) from rfl) ?_
          refine z_any (fun y1008 hy1008 => ?_)
          refine z_store X (lv' := [(4, .int (Int32.ofInt y1008)), (9, .int (Int32.ofInt e1007)), (0, .ref (A 153)), (2, .int (Int32.ofInt yv)), (3, .int (Int32.ofInt ro)), (5, .int (Int32.ofInt cr)), (6, .int (Int32.ofInt ov)), (7, .int (Int32.ofInt cl)), (8, .int (Int32.ofInt c))]) (show cdA 3 68 = some (.istore 4, 2, 0, 0, 0) from rfl) (by decide) (fun _ h => h) ?_
          refine z_load X (x := ov) (show cdA 3 70 = some (.iload 6, 2, 0, 0, 0) from rfl) (List.Mem.tail _ (List.Mem.tail _ (List.Mem.tail _ (List.Mem.tail _ (List.Mem.tail _ (List.Mem.tail _ (List.Mem.head _))))))) ?_
          refine z_load X (x := e1007) (show cdA 3 72 = some (.iload 9, 2, 0, 0, 0) from rfl) (List.Mem.tail _ (List.Mem.head _)) ?_
          refine z_aload_n X (x := A 153) (show cdA 3 74 = some (.aload_n 0, 1, 0, 0, 0) from rfl) (List.Mem.tail _ (List.Mem.tail _ (List.Mem.head _))) ?_
          refine s_getR X 153 (show cdA 3 75 = some (.getfield 15, 3, 0, 4, 0) from rfl) (by decide) rfl rfl ?_
          refine z_load X (x := c) (show cdA 3 78 = some (.iload 8, 2, 0, 0, 0) from rfl) (List.Mem.tail _ (List.Mem.tail _ (List.Mem.tail _ (List.Mem.tail _ (List.Mem.tail _ (List.Mem.tail _ (List.Mem.tail _ (List.Mem.tail _ (List.Mem.head _))))))))) ?_
          refine z_ald X 155 (show cdA 3 80 = some (.iaload, 1, 0, 0, 0) from rfl) (by decide) rfl (by first | exact hi.2.2.2.2.2.2.1 | omega) (show c < 12 by first | exact oq_f36e82a8 g1004 b1003.2 | omega) (by decide) ?_
          have b1009 : ((-2147483648) : Int) ≤ iC t 135 (c).toNat ∧ iC t 135 (c).toNat ≤ 2147483647 := I.2 135 _ (show (c).toNat < 12 by first | exact oq_2dac6850 g1004 b1003.2 | omega)
          refine z_mul X (show cdA 3 81 = some (.imul, 1, 0, 0, 0) from rfl) ?_
          refine z_any (fun y1010 hy1010 => ?_)
          refine z_add X (show cdA 3 82 = some (.iadd, 1, 0, 0, 0) from rfl) ?_
          refine z_any (fun y1011 hy1011 => ?_)
          refine z_store X (lv' := [(6, .int (Int32.ofInt y1011)), (4, .int (Int32.ofInt y1008)), (9, .int (Int32.ofInt e1007)), (0, .ref (A 153)), (2, .int (Int32.ofInt yv)), (3, .int (Int32.ofInt ro)), (5, .int (Int32.ofInt cr)), (7, .int (Int32.ofInt cl)), (8, .int (Int32.ofInt c))]) (show cdA 3 83 = some (.istore 6, 2, 0, 0, 0) from rfl) (by decide) (fun _ h => h) ?_
          refine z_load X (x := cl) (show cdA 3 85 = some (.iload 7, 2, 0, 0, 0) from rfl) (List.Mem.tail _ (List.Mem.tail _ (List.Mem.tail _ (List.Mem.tail _ (List.Mem.tail _ (List.Mem.tail _ (List.Mem.tail _ (List.Mem.head _)))))))) ?_
          refine z_load X (x := e1007) (show cdA 3 87 = some (.iload 9, 2, 0, 0, 0) from rfl) (List.Mem.tail _ (List.Mem.tail _ (List.Mem.head _))) ?_
          refine z_aload_n X (x := A 153) (show cdA 3 89 = some (.aload_n 0, 1, 0, 0, 0) from rfl) (List.Mem.tail _ (List.Mem.tail _ (List.Mem.tail _ (List.Mem.head _)))) ?_
          refine s_getR X 153 (show cdA 3 90 = some (.getfield 21, 3, 0, 6, 0) from rfl) (by decide) rfl rfl ?_
          refine z_load X (x := c) (show cdA 3 93 = some (.iload 8, 2, 0, 0, 0) from rfl) (List.Mem.tail _ (List.Mem.tail _ (List.Mem.tail _ (List.Mem.tail _ (List.Mem.tail _ (List.Mem.tail _ (List.Mem.tail _ (List.Mem.tail _ (List.Mem.head _))))))))) ?_
          refine z_ald X 157 (show cdA 3 95 = some (.iaload, 1, 0, 0, 0) from rfl) (by decide) rfl (by first | exact hi.2.2.2.2.2.2.1 | omega) (show c < 12 by first | exact oq_f36e82a8 g1004 b1003.2 | omega) (by decide) ?_
          have b1012 : ((-2147483648) : Int) ≤ iC t 137 (c).toNat ∧ iC t 137 (c).toNat ≤ 2147483647 := I.2 137 _ (show (c).toNat < 12 by first | exact oq_2dac6850 g1004 b1003.2 | omega)
          refine z_mul X (show cdA 3 96 = some (.imul, 1, 0, 0, 0) from rfl) ?_
          refine z_any (fun y1013 hy1013 => ?_)
          refine z_add X (show cdA 3 97 = some (.iadd, 1, 0, 0, 0) from rfl) ?_
          refine z_any (fun y1014 hy1014 => ?_)
          refine z_store X (lv' := [(7, .int (Int32.ofInt y1014)), (6, .int (Int32.ofInt y1011)), (4, .int (Int32.ofInt y1008)), (9, .int (Int32.ofInt e1007)), (0, .ref (A 153)), (2, .int (Int32.ofInt yv)), (3, .int (Int32.ofInt ro)), (5, .int (Int32.ofInt cr)), (8, .int (Int32.ofInt c))]) (show cdA 3 98 = some (.istore 7, 2, 0, 0, 0) from rfl) (by decide) (fun _ h => h) ?_
          refine z_inc X (x := c) (lv' := [(8, .int (Int32.ofInt (c + 1))), (7, .int (Int32.ofInt y1014)), (6, .int (Int32.ofInt y1011)), (4, .int (Int32.ofInt y1008)), (9, .int (Int32.ofInt e1007)), (0, .ref (A 153)), (2, .int (Int32.ofInt yv)), (3, .int (Int32.ofInt ro)), (5, .int (Int32.ofInt cr))]) (show cdA 3 100 = some (.iinc 8 1, 3, 0, 0, 0) from rfl) (by decide) (List.Mem.tail _ (List.Mem.tail _ (List.Mem.tail _ (List.Mem.tail _ (List.Mem.tail _ (List.Mem.tail _ (List.Mem.tail _ (List.Mem.tail _ (List.Mem.head _))))))))) (fun _ h => h) ?_
          refine z_goto X (t := 20) (show cdA 3 103 = some (.goto (-83), 3, 0, 0, 0) from rfl) (by decide) ?_
          refine WS_lv (lv := [(0, .ref (A 153)), (2, .int (Int32.ofInt yv)), (3, .int (Int32.ofInt ro)), (4, .int (Int32.ofInt y1008)), (5, .int (Int32.ofInt cr)), (6, .int (Int32.ofInt y1011)), (7, .int (Int32.ofInt y1014)), (8, .int (Int32.ofInt (c + 1)))]) (List.forall_mem_cons.mpr ⟨(List.Mem.tail _ (List.Mem.tail _ (List.Mem.tail _ (List.Mem.tail _ (List.Mem.tail _ (List.Mem.head _)))))), (List.forall_mem_cons.mpr ⟨(List.Mem.tail _ (List.Mem.tail _ (List.Mem.tail _ (List.Mem.tail _ (List.Mem.tail _ (List.Mem.tail _ (List.Mem.head _))))))), (List.forall_mem_cons.mpr ⟨(List.Mem.tail _ (List.Mem.tail _ (List.Mem.tail _ (List.Mem.tail _ (List.Mem.tail _ (List.Mem.tail _ (List.Mem.tail _ (List.Mem.head _)))))))), (List.forall_mem_cons.mpr ⟨(List.Mem.tail _ (List.Mem.tail _ (List.Mem.tail _ (List.Mem.head _)))), (List.forall_mem_cons.mpr ⟨(List.Mem.tail _ (List.Mem.tail _ (List.Mem.tail _ (List.Mem.tail _ (List.Mem.tail _ (List.Mem.tail _ (List.Mem.tail _ (List.Mem.tail _ (List.Mem.head _))))))))), (List.forall_mem_cons.mpr ⟨(List.Mem.tail _ (List.Mem.tail _ (List.Mem.head _))), (List.forall_mem_cons.mpr ⟨(List.Mem.tail _ (List.Mem.head _)), (List.forall_mem_cons.mpr ⟨(List.Mem.head _), (fun q h => absurd h List.not_mem_nil)⟩)⟩)⟩)⟩)⟩)⟩)⟩)⟩) ?_
          exact ih _ yv ro y1008 cr y1011 y1014 (c + 1) I F (by first | exact ⟨And.intro (hi.1.1) (hi.1.2), And.intro (hi.2.1.1) (hi.2.1.2), And.intro (hy1008.1) (hy1008.2), And.intro (hi.2.2.2.1.1) (hi.2.2.2.1.2), And.intro (hy1011.1) (hy1011.2), And.intro (hy1014.1) (hy1014.2), oq_54f49eb5 hi.2.2.2.2.2.2.1, oq_4dae995e g1004 b1003.2⟩ | omega) (by first | exact qk_me hm (by decide) (oq_b575e8c1 g1004 b1003.2) | omega) kx
        refine z_icmp_ne X (t := 44) (show cdA 3 37 = some (.if_icmp .ne 7, 3, 1, 0, 0) from rfl) (by decide) (rng_to _) ⟨by first | exact hi.1.1 | omega, by first | exact hi.1.2 | omega⟩ (fun g1015 => ?_) (fun g1015 => ?_)
        ·
          refine z_aload_n X (x := A 153) (show cdA 3 44 = some (.aload_n 0, 1, 0, 0, 0) from rfl) (List.Mem.head _) ?_
          refine s_getR X 153 (show cdA 3 45 = some (.getfield 43, 3, 0, 0, 0) from rfl) (by decide) rfl rfl ?_
          refine s_getR X 68 (show cdA 3 48 = some (.getfield 87, 3, 9, 12, 0) from rfl) (by decide) rfl rfl ?_
          refine z_load_n X (x := ro) (show cdA 3 51 = some (.iload_n 3, 1, 0, 0, 0) from rfl) (List.Mem.tail _ (List.Mem.tail _ (List.Mem.head _))) ?_
          refine z_aload_n X (x := A 153) (show cdA 3 52 = some (.aload_n 0, 1, 0, 0, 0) from rfl) (List.Mem.head _) ?_
          refine s_getR X 153 (show cdA 3 53 = some (.getfield 9, 3, 0, 3, 0) from rfl) (by decide) rfl rfl ?_
          refine z_load X (x := c) (show cdA 3 56 = some (.iload 8, 2, 0, 0, 0) from rfl) (List.Mem.tail _ (List.Mem.tail _ (List.Mem.tail _ (List.Mem.tail _ (List.Mem.tail _ (List.Mem.tail _ (List.Mem.tail _ (List.Mem.head _)))))))) ?_
          refine z_ald X 154 (show cdA 3 58 = some (.iaload, 1, 0, 0, 0) from rfl) (by decide) rfl (by first | exact hi.2.2.2.2.2.2.1 | omega) (show c < 12 by first | exact oq_f36e82a8 g1004 b1003.2 | omega) (by decide) ?_
          have b1016 : (0 : Int) ≤ iC t 134 (c).toNat ∧ iC t 134 (c).toNat ≤ 11 := I.2 134 _ (show (c).toNat < 12 by first | exact oq_2dac6850 g1004 b1003.2 | omega)
          refine z_add X (show cdA 3 59 = some (.iadd, 1, 0, 0, 0) from rfl) ?_
          refine z_ald X 79 (show cdA 3 60 = some (.iaload, 1, 0, 0, 0) from rfl) (by decide) rfl (by first | exact oq_dd29f52d hi.2.1.1 b1016.1 | omega) (show (ro + (iC t 134 (c).toNat)) < 288 by first | exact oq_f94a0088 hi.2.1.2 b1016.2 | omega) (by decide) ?_
          have b1017 : (0 : Int) ≤ iC t 67 ((ro + (iC t 134 (c).toNat))).toNat ∧ iC t 67 ((ro + (iC t 134 (c).toNat))).toNat ≤ 50 := I.2 67 _ (show ((ro + (iC t 134 (c).toNat))).toNat < 288 by first | exact oq_3d7ae1dd hi.2.1.2 b1016.2 | omega)
          exact N1006 _ (Or.inl ⟨g1015, b1016, b1017, rfl⟩)
        ·
          refine z_const X (show cdA 3 40 = some (.iconst 0, 1, 0, 0, 0) from rfl) ?_
          refine z_goto X (t := 61) (show cdA 3 41 = some (.goto 20, 3, 0, 0, 0) from rfl) (by decide) ?_
          exact N1006 _ (Or.inr (⟨g1015, rfl⟩))
  have L109 : ∀ (n : Nat) (t : PS) (yv ro wa cr ov cl c : Int), Bd t → Fm [] [141] s t → (rng yv ∧ (0 ≤ ro ∧ ro ≤ 276) ∧ rng wa ∧ rng cr ∧ rng ov ∧ rng cl ∧ 0 ≤ c ∧ c ≤ 66) → (66 - c : Int).toNat < n → (∀ (t' : PS) (cr' c' : Int), Bd t' → Fm [] [141] s t' → (rng yv ∧ (0 ≤ ro ∧ ro ≤ 276) ∧ rng wa ∧ rng cr' ∧ rng ov ∧ rng cl ∧ 0 ≤ c' ∧ c' ≤ 66) → WS k 196 [(0, .ref (A 153)), (2, .int (Int32.ofInt yv)), (3, .int (Int32.ofInt ro)), (4, .int (Int32.ofInt wa)), (5, .int (Int32.ofInt cr')), (6, .int (Int32.ofInt ov)), (7, .int (Int32.ofInt cl)), (8, .int (Int32.ofInt c'))] [] (Wd A dT t') 0 0) → WS k 109 [(0, .ref (A 153)), (2, .int (Int32.ofInt yv)), (3, .int (Int32.ofInt ro)), (4, .int (Int32.ofInt wa)), (5, .int (Int32.ofInt cr)), (6, .int (Int32.ofInt ov)), (7, .int (Int32.ofInt cl)), (8, .int (Int32.ofInt c))] [] (Wd A dT t) 0 0 := by
    intro n
    induction n with
    | zero =>
      intro t yv ro wa cr ov cl c I F hi hm kx
      exact absurd hm (Nat.not_lt_zero _)
    | succ n ih =>
      intro t yv ro wa cr ov cl c I F hi hm kx
      have b2001 : (0 : Int) ≤ iI t 64 ∧ iI t 64 ≤ 12 := I.1 64
      have b2002 : (0 : Int) ≤ iI t 65 ∧ iI t 65 ≤ 66 := I.1 65
      refine z_load X (x := c) (show cdA 3 109 = some (.iload 8, 2, 0, 0, 0) from rfl) (List.Mem.tail _ (List.Mem.tail _ (List.Mem.tail _ (List.Mem.tail _ (List.Mem.tail _ (List.Mem.tail _ (List.Mem.tail _ (List.Mem.head _)))))))) ?_
      refine z_aload_n X (x := A 153) (show cdA 3 111 = some (.aload_n 0, 1, 0, 0, 0) from rfl) (List.Mem.head _) ?_
      refine z_getI X 153 (show cdA 3 112 = some (.getfield 72, 3, 0, 7, 0) from rfl) (by decide) rfl rfl ?_
      have b2003 : (0 : Int) ≤ iI t 65 ∧ iI t 65 ≤ 66 := I.1 65
      refine z_icmp_ge X (t := 196) (show cdA 3 115 = some (.if_icmp .ge 81, 3, 3, 0, 0) from rfl) (by decide) ⟨by first | exact oq_fa4e5087 hi.2.2.2.2.2.2.1 | omega, by first | exact oq_64f2e926 hi.2.2.2.2.2.2.2 | omega⟩ (rng_to _) (fun g2004 => ?_) (fun g2004 => ?_)
      ·
        refine WS_lv (lv := [(0, .ref (A 153)), (2, .int (Int32.ofInt yv)), (3, .int (Int32.ofInt ro)), (4, .int (Int32.ofInt wa)), (5, .int (Int32.ofInt cr)), (6, .int (Int32.ofInt ov)), (7, .int (Int32.ofInt cl)), (8, .int (Int32.ofInt c))]) (List.forall_mem_cons.mpr ⟨(List.Mem.head _), (List.forall_mem_cons.mpr ⟨(List.Mem.tail _ (List.Mem.head _)), (List.forall_mem_cons.mpr ⟨(List.Mem.tail _ (List.Mem.tail _ (List.Mem.head _))), (List.forall_mem_cons.mpr ⟨(List.Mem.tail _ (List.Mem.tail _ (List.Mem.tail _ (List.Mem.head _)))), (List.forall_mem_cons.mpr ⟨(List.Mem.tail _ (List.Mem.tail _ (List.Mem.tail _ (List.Mem.tail _ (List.Mem.head _))))), (List.forall_mem_cons.mpr ⟨(List.Mem.tail _ (List.Mem.tail _ (List.Mem.tail _ (List.Mem.tail _ (List.Mem.tail _ (List.Mem.head _)))))), (List.forall_mem_cons.mpr ⟨(List.Mem.tail _ (List.Mem.tail _ (List.Mem.tail _ (List.Mem.tail _ (List.Mem.tail _ (List.Mem.tail _ (List.Mem.head _))))))), (List.forall_mem_cons.mpr ⟨(List.Mem.tail _ (List.Mem.tail _ (List.Mem.tail _ (List.Mem.tail _ (List.Mem.tail _ (List.Mem.tail _ (List.Mem.tail _ (List.Mem.head _)))))))), (fun q h => absurd h List.not_mem_nil)⟩)⟩)⟩)⟩)⟩)⟩)⟩)⟩) ?_
        exact kx _ cr c I F (by first | exact ⟨And.intro (hi.1.1) (hi.1.2), And.intro (hi.2.1.1) (hi.2.1.2), And.intro (hi.2.2.1.1) (hi.2.2.1.2), And.intro (hi.2.2.2.1.1) (hi.2.2.2.1.2), And.intro (hi.2.2.2.2.1.1) (hi.2.2.2.2.1.2), And.intro (hi.2.2.2.2.2.1.1) (hi.2.2.2.2.2.1.2), hi.2.2.2.2.2.2.1, hi.2.2.2.2.2.2.2⟩ | omega)
      ·
        refine z_aload_n X (x := A 153) (show cdA 3 118 = some (.aload_n 0, 1, 0, 0, 0) from rfl) (List.Mem.head _) ?_
        refine s_getR X 153 (show cdA 3 119 = some (.getfield 26, 3, 0, 8, 0) from rfl) (by decide) rfl rfl ?_
        refine z_load X (x := c) (show cdA 3 122 = some (.iload 8, 2, 0, 0, 0) from rfl) (List.Mem.tail _ (List.Mem.tail _ (List.Mem.tail _ (List.Mem.tail _ (List.Mem.tail _ (List.Mem.tail _ (List.Mem.tail _ (List.Mem.head _)))))))) ?_
        refine z_ald X 158 (show cdA 3 124 = some (.iaload, 1, 0, 0, 0) from rfl) (by decide) rfl (by first | exact hi.2.2.2.2.2.2.1 | omega) (show c < 66 by first | exact oq_256e4529 g2004 b2003.2 | omega) (by decide) ?_
        have b2005 : (0 : Int) ≤ iC t 138 (c).toNat ∧ iC t 138 (c).toNat ≤ 11 := I.2 138 _ (show (c).toNat < 66 by first | exact oq_d7ff7873 g2004 b2003.2 | omega)
        refine z_load_n X (x := yv) (show cdA 3 125 = some (.iload_n 2, 1, 0, 0, 0) from rfl) (List.Mem.tail _ (List.Mem.head _)) ?_
        refine z_icmp_eq X (t := 190) (show cdA 3 126 = some (.if_icmp .eq 64, 3, 0, 0, 0) from rfl) (by decide) (rng_to _) ⟨by first | exact hi.1.1 | omega, by first | exact hi.1.2 | omega⟩ (fun g2006 => ?_) (fun g2006 => ?_)
        ·
          refine z_inc X (x := c) (lv' := [(8, .int (Int32.ofInt (c + 1))), (0, .ref (A 153)), (2, .int (Int32.ofInt yv)), (3, .int (Int32.ofInt ro)), (4, .int (Int32.ofInt wa)), (5, .int (Int32.ofInt cr)), (6, .int (Int32.ofInt ov)), (7, .int (Int32.ofInt cl))]) (show cdA 3 190 = some (.iinc 8 1, 3, 0, 0, 0) from rfl) (by decide) (List.Mem.tail _ (List.Mem.tail _ (List.Mem.tail _ (List.Mem.tail _ (List.Mem.tail _ (List.Mem.tail _ (List.Mem.tail _ (List.Mem.head _)))))))) (fun _ h => h) ?_
          refine z_goto X (t := 109) (show cdA 3 193 = some (.goto (-84), 3, 0, 0, 0) from rfl) (by decide) ?_
          refine WS_lv (lv := [(0, .ref (A 153)), (2, .int (Int32.ofInt yv)), (3, .int (Int32.ofInt ro)), (4, .int (Int32.ofInt wa)), (5, .int (Int32.ofInt cr)), (6, .int (Int32.ofInt ov)), (7, .int (Int32.ofInt cl)), (8, .int (Int32.ofInt (c + 1)))]) (List.forall_mem_cons.mpr ⟨(List.Mem.tail _ (List.Mem.head _)), (List.forall_mem_cons.mpr ⟨(List.Mem.tail _ (List.Mem.tail _ (List.Mem.head _))), (List.forall_mem_cons.mpr ⟨(List.Mem.tail _ (List.Mem.tail _ (List.Mem.tail _ (List.Mem.head _)))), (List.forall_mem_cons.mpr ⟨(List.Mem.tail _ (List.Mem.tail _ (List.Mem.tail _ (List.Mem.tail _ (List.Mem.head _))))), (List.forall_mem_cons.mpr ⟨(List.Mem.tail _ (List.Mem.tail _ (List.Mem.tail _ (List.Mem.tail _ (List.Mem.tail _ (List.Mem.head _)))))), (List.forall_mem_cons.mpr ⟨(List.Mem.tail _ (List.Mem.tail _ (List.Mem.tail _ (List.Mem.tail _ (List.Mem.tail _ (List.Mem.tail _ (List.Mem.head _))))))), (List.forall_mem_cons.mpr ⟨(List.Mem.tail _ (List.Mem.tail _ (List.Mem.tail _ (List.Mem.tail _ (List.Mem.tail _ (List.Mem.tail _ (List.Mem.tail _ (List.Mem.head _)))))))), (List.forall_mem_cons.mpr ⟨(List.Mem.head _), (fun q h => absurd h List.not_mem_nil)⟩)⟩)⟩)⟩)⟩)⟩)⟩)⟩) ?_
          exact ih _ yv ro wa cr ov cl (c + 1) I F (by first | exact ⟨And.intro (hi.1.1) (hi.1.2), And.intro (hi.2.1.1) (hi.2.1.2), And.intro (hi.2.2.1.1) (hi.2.2.1.2), And.intro (hi.2.2.2.1.1) (hi.2.2.2.1.2), And.intro (hi.2.2.2.2.1.1) (hi.2.2.2.2.1.2), And.intro (hi.2.2.2.2.2.1.1) (hi.2.2.2.2.2.1.2), oq_54f49eb5 hi.2.2.2.2.2.2.1, oq_319a18a4 g2004 b2003.2⟩ | omega) (by first | exact qk_me hm (by decide) (oq_dd0e9829 g2004 b2003.2) | omega) kx
        ·
          refine z_aload_n X (x := A 153) (show cdA 3 129 = some (.aload_n 0, 1, 0, 0, 0) from rfl) (List.Mem.head _) ?_
          refine s_getR X 153 (show cdA 3 130 = some (.getfield 29, 3, 0, 9, 0) from rfl) (by decide) rfl rfl ?_
          refine z_load X (x := c) (show cdA 3 133 = some (.iload 8, 2, 0, 0, 0) from rfl) (List.Mem.tail _ (List.Mem.tail _ (List.Mem.tail _ (List.Mem.tail _ (List.Mem.tail _ (List.Mem.tail _ (List.Mem.tail _ (List.Mem.head _)))))))) ?_
          refine z_ald X 159 (show cdA 3 135 = some (.iaload, 1, 0, 0, 0) from rfl) (by decide) rfl (by first | exact hi.2.2.2.2.2.2.1 | omega) (show c < 66 by first | exact oq_256e4529 g2004 b2003.2 | omega) (by decide) ?_
          have b2007 : (0 : Int) ≤ iC t 139 (c).toNat ∧ iC t 139 (c).toNat ≤ 11 := I.2 139 _ (show (c).toNat < 66 by first | exact oq_d7ff7873 g2004 b2003.2 | omega)
          refine z_load_n X (x := yv) (show cdA 3 136 = some (.iload_n 2, 1, 0, 0, 0) from rfl) (List.Mem.tail _ (List.Mem.head _)) ?_
          refine z_icmp_eq X (t := 190) (show cdA 3 137 = some (.if_icmp .eq 53, 3, 0, 0, 0) from rfl) (by decide) (rng_to _) ⟨by first | exact hi.1.1 | omega, by first | exact hi.1.2 | omega⟩ (fun g2008 => ?_) (fun g2008 => ?_)
          ·
            refine z_inc X (x := c) (lv' := [(8, .int (Int32.ofInt (c + 1))), (0, .ref (A 153)), (2, .int (Int32.ofInt yv)), (3, .int (Int32.ofInt ro)), (4, .int (Int32.ofInt wa)), (5, .int (Int32.ofInt cr)), (6, .int (Int32.ofInt ov)), (7, .int (Int32.ofInt cl))]) (show cdA 3 190 = some (.iinc 8 1, 3, 0, 0, 0) from rfl) (by decide) (List.Mem.tail _ (List.Mem.tail _ (List.Mem.tail _ (List.Mem.tail _ (List.Mem.tail _ (List.Mem.tail _ (List.Mem.tail _ (List.Mem.head _)))))))) (fun _ h => h) ?_
            refine z_goto X (t := 109) (show cdA 3 193 = some (.goto (-84), 3, 0, 0, 0) from rfl) (by decide) ?_
            refine WS_lv (lv := [(0, .ref (A 153)), (2, .int (Int32.ofInt yv)), (3, .int (Int32.ofInt ro)), (4, .int (Int32.ofInt wa)), (5, .int (Int32.ofInt cr)), (6, .int (Int32.ofInt ov)), (7, .int (Int32.ofInt cl)), (8, .int (Int32.ofInt (c + 1)))]) (List.forall_mem_cons.mpr ⟨(List.Mem.tail _ (List.Mem.head _)), (List.forall_mem_cons.mpr ⟨(List.Mem.tail _ (List.Mem.tail _ (List.Mem.head _))), (List.forall_mem_cons.mpr ⟨(List.Mem.tail _ (List.Mem.tail _ (List.Mem.tail _ (List.Mem.head _)))), (List.forall_mem_cons.mpr ⟨(List.Mem.tail _ (List.Mem.tail _ (List.Mem.tail _ (List.Mem.tail _ (List.Mem.head _))))), (List.forall_mem_cons.mpr ⟨(List.Mem.tail _ (List.Mem.tail _ (List.Mem.tail _ (List.Mem.tail _ (List.Mem.tail _ (List.Mem.head _)))))), (List.forall_mem_cons.mpr ⟨(List.Mem.tail _ (List.Mem.tail _ (List.Mem.tail _ (List.Mem.tail _ (List.Mem.tail _ (List.Mem.tail _ (List.Mem.head _))))))), (List.forall_mem_cons.mpr ⟨(List.Mem.tail _ (List.Mem.tail _ (List.Mem.tail _ (List.Mem.tail _ (List.Mem.tail _ (List.Mem.tail _ (List.Mem.tail _ (List.Mem.head _)))))))), (List.forall_mem_cons.mpr ⟨(List.Mem.head _), (fun q h => absurd h List.not_mem_nil)⟩)⟩)⟩)⟩)⟩)⟩)⟩)⟩) ?_
            exact ih _ yv ro wa cr ov cl (c + 1) I F (by first | exact ⟨And.intro (hi.1.1) (hi.1.2), And.intro (hi.2.1.1) (hi.2.1.2), And.intro (hi.2.2.1.1) (hi.2.2.1.2), And.intro (hi.2.2.2.1.1) (hi.2.2.2.1.2), And.intro (hi.2.2.2.2.1.1) (hi.2.2.2.2.1.2), And.intro (hi.2.2.2.2.2.1.1) (hi.2.2.2.2.2.1.2), oq_54f49eb5 hi.2.2.2.2.2.2.1, oq_319a18a4 g2004 b2003.2⟩ | omega) (by first | exact qk_me hm (by decide) (oq_dd0e9829 g2004 b2003.2) | omega) kx
          ·
            refine z_load X (x := cr) (show cdA 3 140 = some (.iload 5, 2, 0, 0, 0) from rfl) (List.Mem.tail _ (List.Mem.tail _ (List.Mem.tail _ (List.Mem.tail _ (List.Mem.head _))))) ?_
            refine z_aload_n X (x := A 153) (show cdA 3 142 = some (.aload_n 0, 1, 0, 0, 0) from rfl) (List.Mem.head _) ?_
            refine s_getR X 153 (show cdA 3 143 = some (.getfield 32, 3, 0, 10, 0) from rfl) (by decide) rfl rfl ?_
            refine z_load X (x := c) (show cdA 3 146 = some (.iload 8, 2, 0, 0, 0) from rfl) (List.Mem.tail _ (List.Mem.tail _ (List.Mem.tail _ (List.Mem.tail _ (List.Mem.tail _ (List.Mem.tail _ (List.Mem.tail _ (List.Mem.head _)))))))) ?_
            refine z_ald X 160 (show cdA 3 148 = some (.iaload, 1, 0, 0, 0) from rfl) (by decide) rfl (by first | exact hi.2.2.2.2.2.2.1 | omega) (show c < 66 by first | exact oq_256e4529 g2004 b2003.2 | omega) (by decide) ?_
            have b2009 : ((-2147483648) : Int) ≤ iC t 140 (c).toNat ∧ iC t 140 (c).toNat ≤ 2147483647 := I.2 140 _ (show (c).toNat < 66 by first | exact oq_d7ff7873 g2004 b2003.2 | omega)
            refine z_aload_n X (x := A 153) (show cdA 3 149 = some (.aload_n 0, 1, 0, 0, 0) from rfl) (List.Mem.head _) ?_
            refine s_getR X 153 (show cdA 3 150 = some (.getfield 43, 3, 0, 0, 0) from rfl) (by decide) rfl rfl ?_
            refine s_getR X 68 (show cdA 3 153 = some (.getfield 87, 3, 9, 12, 0) from rfl) (by decide) rfl rfl ?_
            refine z_load_n X (x := ro) (show cdA 3 156 = some (.iload_n 3, 1, 0, 0, 0) from rfl) (List.Mem.tail _ (List.Mem.tail _ (List.Mem.head _))) ?_
            refine z_aload_n X (x := A 153) (show cdA 3 157 = some (.aload_n 0, 1, 0, 0, 0) from rfl) (List.Mem.head _) ?_
            refine s_getR X 153 (show cdA 3 158 = some (.getfield 26, 3, 0, 8, 0) from rfl) (by decide) rfl rfl ?_
            refine z_load X (x := c) (show cdA 3 161 = some (.iload 8, 2, 0, 0, 0) from rfl) (List.Mem.tail _ (List.Mem.tail _ (List.Mem.tail _ (List.Mem.tail _ (List.Mem.tail _ (List.Mem.tail _ (List.Mem.tail _ (List.Mem.head _)))))))) ?_
            refine z_ald X 158 (show cdA 3 163 = some (.iaload, 1, 0, 0, 0) from rfl) (by decide) rfl (by first | exact hi.2.2.2.2.2.2.1 | omega) (show c < 66 by first | exact oq_256e4529 g2004 b2003.2 | omega) (by decide) ?_
            have b2010 : (0 : Int) ≤ iC t 138 (c).toNat ∧ iC t 138 (c).toNat ≤ 11 := I.2 138 _ (show (c).toNat < 66 by first | exact oq_d7ff7873 g2004 b2003.2 | omega)
            refine z_add X (show cdA 3 164 = some (.iadd, 1, 0, 0, 0) from rfl) ?_
            refine z_ald X 79 (show cdA 3 165 = some (.iaload, 1, 0, 0, 0) from rfl) (by decide) rfl (by first | exact oq_dd29f52d hi.2.1.1 b2010.1 | omega) (show (ro + (iC t 138 (c).toNat)) < 288 by first | exact oq_f94a0088 hi.2.1.2 b2010.2 | omega) (by decide) ?_
            have b2011 : (0 : Int) ≤ iC t 67 ((ro + (iC t 138 (c).toNat))).toNat ∧ iC t 67 ((ro + (iC t 138 (c).toNat))).toNat ≤ 50 := I.2 67 _ (show ((ro + (iC t 138 (c).toNat))).toNat < 288 by first | exact oq_3d7ae1dd hi.2.1.2 b2010.2 | omega)
            refine z_aload_n X (x := A 153) (show cdA 3 166 = some (.aload_n 0, 1, 0, 0, 0) from rfl) (List.Mem.head _) ?_
            refine s_getR X 153 (show cdA 3 167 = some (.getfield 43, 3, 0, 0, 0) from rfl) (by decide) rfl rfl ?_
            refine s_getR X 68 (show cdA 3 170 = some (.getfield 87, 3, 9, 12, 0) from rfl) (by decide) rfl rfl ?_
            refine z_load_n X (x := ro) (show cdA 3 173 = some (.iload_n 3, 1, 0, 0, 0) from rfl) (List.Mem.tail _ (List.Mem.tail _ (List.Mem.head _))) ?_
            refine z_aload_n X (x := A 153) (show cdA 3 174 = some (.aload_n 0, 1, 0, 0, 0) from rfl) (List.Mem.head _) ?_
            refine s_getR X 153 (show cdA 3 175 = some (.getfield 29, 3, 0, 9, 0) from rfl) (by decide) rfl rfl ?_
            refine z_load X (x := c) (show cdA 3 178 = some (.iload 8, 2, 0, 0, 0) from rfl) (List.Mem.tail _ (List.Mem.tail _ (List.Mem.tail _ (List.Mem.tail _ (List.Mem.tail _ (List.Mem.tail _ (List.Mem.tail _ (List.Mem.head _)))))))) ?_
            refine z_ald X 159 (show cdA 3 180 = some (.iaload, 1, 0, 0, 0) from rfl) (by decide) rfl (by first | exact hi.2.2.2.2.2.2.1 | omega) (show c < 66 by first | exact oq_256e4529 g2004 b2003.2 | omega) (by decide) ?_
            have b2012 : (0 : Int) ≤ iC t 139 (c).toNat ∧ iC t 139 (c).toNat ≤ 11 := I.2 139 _ (show (c).toNat < 66 by first | exact oq_d7ff7873 g2004 b2003.2 | omega)
            refine z_add X (show cdA 3 181 = some (.iadd, 1, 0, 0, 0) from rfl) ?_
            refine z_ald X 79 (show cdA 3 182 = some (.iaload, 1, 0, 0, 0) from rfl) (by decide) rfl (by first | exact oq_dd29f52d hi.2.1.1 b2012.1 | omega) (show (ro + (iC t 139 (c).toNat)) < 288 by first | exact oq_f94a0088 hi.2.1.2 b2012.2 | omega) (by decide) ?_
            have b2013 : (0 : Int) ≤ iC t 67 ((ro + (iC t 139 (c).toNat))).toNat ∧ iC t 67 ((ro + (iC t 139 (c).toNat))).toNat ≤ 50 := I.2 67 _ (show ((ro + (iC t 139 (c).toNat))).toNat < 288 by first | exact oq_3d7ae1dd hi.2.1.2 b2012.2 | omega)
            refine z_min X (show cdA 3 183 = some (.invokestatic 90, 3, 0, 8, 0) from rfl) (rng_to _) (rng_to _) (by rw [E.2.2.2]; decide) (by rw [E.2.2.2]; exact Nat.le_of_ble_eq_true rfl) (Nat.zero_le _) (Nat.zero_le _) (fun e2014 he2014 => ?_)
            refine z_mul X (show cdA 3 186 = some (.imul, 1, 0, 0, 0) from rfl) ?_
            refine z_any (fun y2015 hy2015 => ?_)
            refine z_add X (show cdA 3 187 = some (.iadd, 1, 0, 0, 0) from rfl) ?_
            refine z_any (fun y2016 hy2016 => ?_)
            refine z_store X (lv' := [(5, .int (Int32.ofInt y2016)), (0, .ref (A 153)), (2, .int (Int32.ofInt yv)), (3, .int (Int32.ofInt ro)), (4, .int (Int32.ofInt wa)), (6, .int (Int32.ofInt ov)), (7, .int (Int32.ofInt cl)), (8, .int (Int32.ofInt c))]) (show cdA 3 188 = some (.istore 5, 2, 0, 0, 0) from rfl) (by decide) (fun _ h => h) ?_
            refine z_inc X (x := c) (lv' := [(8, .int (Int32.ofInt (c + 1))), (5, .int (Int32.ofInt y2016)), (0, .ref (A 153)), (2, .int (Int32.ofInt yv)), (3, .int (Int32.ofInt ro)), (4, .int (Int32.ofInt wa)), (6, .int (Int32.ofInt ov)), (7, .int (Int32.ofInt cl))]) (show cdA 3 190 = some (.iinc 8 1, 3, 0, 0, 0) from rfl) (by decide) (List.Mem.tail _ (List.Mem.tail _ (List.Mem.tail _ (List.Mem.tail _ (List.Mem.tail _ (List.Mem.tail _ (List.Mem.tail _ (List.Mem.head _)))))))) (fun _ h => h) ?_
            refine z_goto X (t := 109) (show cdA 3 193 = some (.goto (-84), 3, 0, 0, 0) from rfl) (by decide) ?_
            refine WS_lv (lv := [(0, .ref (A 153)), (2, .int (Int32.ofInt yv)), (3, .int (Int32.ofInt ro)), (4, .int (Int32.ofInt wa)), (5, .int (Int32.ofInt y2016)), (6, .int (Int32.ofInt ov)), (7, .int (Int32.ofInt cl)), (8, .int (Int32.ofInt (c + 1)))]) (List.forall_mem_cons.mpr ⟨(List.Mem.tail _ (List.Mem.tail _ (List.Mem.head _))), (List.forall_mem_cons.mpr ⟨(List.Mem.tail _ (List.Mem.tail _ (List.Mem.tail _ (List.Mem.head _)))), (List.forall_mem_cons.mpr ⟨(List.Mem.tail _ (List.Mem.tail _ (List.Mem.tail _ (List.Mem.tail _ (List.Mem.head _))))), (List.forall_mem_cons.mpr ⟨(List.Mem.tail _ (List.Mem.tail _ (List.Mem.tail _ (List.Mem.tail _ (List.Mem.tail _ (List.Mem.head _)))))), (List.forall_mem_cons.mpr ⟨(List.Mem.tail _ (List.Mem.head _)), (List.forall_mem_cons.mpr ⟨(List.Mem.tail _ (List.Mem.tail _ (List.Mem.tail _ (List.Mem.tail _ (List.Mem.tail _ (List.Mem.tail _ (List.Mem.head _))))))), (List.forall_mem_cons.mpr ⟨(List.Mem.tail _ (List.Mem.tail _ (List.Mem.tail _ (List.Mem.tail _ (List.Mem.tail _ (List.Mem.tail _ (List.Mem.tail _ (List.Mem.head _)))))))), (List.forall_mem_cons.mpr ⟨(List.Mem.head _), (fun q h => absurd h List.not_mem_nil)⟩)⟩)⟩)⟩)⟩)⟩)⟩)⟩) ?_
            exact ih _ yv ro wa y2016 ov cl (c + 1) I F (by first | exact ⟨And.intro (hi.1.1) (hi.1.2), And.intro (hi.2.1.1) (hi.2.1.2), And.intro (hi.2.2.1.1) (hi.2.2.1.2), And.intro (hy2016.1) (hy2016.2), And.intro (hi.2.2.2.2.1.1) (hi.2.2.2.2.1.2), And.intro (hi.2.2.2.2.2.1.1) (hi.2.2.2.2.2.1.2), oq_54f49eb5 hi.2.2.2.2.2.2.1, oq_319a18a4 g2004 b2003.2⟩ | omega) (by first | exact qk_me hm (by decide) (oq_dd0e9829 g2004 b2003.2) | omega) kx
  refine z_load_n X (x := x) (show cdA 3 0 = some (.iload_n 1, 1, 0, 0, 0) from rfl) (List.Mem.tail _ (List.Mem.head _)) ?_
  refine z_bipush X (show cdA 3 1 = some (.bipush 12, 2, 0, 0, 12) from rfl) ?_
  refine z_mul X (show cdA 3 3 = some (.imul, 1, 0, 0, 0) from rfl) ?_
  refine z_store_n X (lv' := [(3, .int (Int32.ofInt (x * 12))), (0, .ref (A 153)), (1, .int (Int32.ofInt x)), (2, .int (Int32.ofInt y))]) (show cdA 3 4 = some (.istore_n 3, 1, 0, 0, 0) from rfl) (by decide) (fun _ h => h) ?_
  refine z_const X (show cdA 3 5 = some (.iconst 0, 1, 0, 0, 0) from rfl) ?_
  refine z_store X (lv' := [(4, .int (Int32.ofInt 0)), (3, .int (Int32.ofInt (x * 12))), (0, .ref (A 153)), (1, .int (Int32.ofInt x)), (2, .int (Int32.ofInt y))]) (show cdA 3 6 = some (.istore 4, 2, 0, 0, 0) from rfl) (by decide) (fun _ h => h) ?_
  refine z_const X (show cdA 3 8 = some (.iconst 0, 1, 0, 0, 0) from rfl) ?_
  refine z_store X (lv' := [(5, .int (Int32.ofInt 0)), (4, .int (Int32.ofInt 0)), (3, .int (Int32.ofInt (x * 12))), (0, .ref (A 153)), (1, .int (Int32.ofInt x)), (2, .int (Int32.ofInt y))]) (show cdA 3 9 = some (.istore 5, 2, 0, 0, 0) from rfl) (by decide) (fun _ h => h) ?_
  refine z_const X (show cdA 3 11 = some (.iconst 0, 1, 0, 0, 0) from rfl) ?_
  refine z_store X (lv' := [(6, .int (Int32.ofInt 0)), (5, .int (Int32.ofInt 0)), (4, .int (Int32.ofInt 0)), (3, .int (Int32.ofInt (x * 12))), (0, .ref (A 153)), (1, .int (Int32.ofInt x)), (2, .int (Int32.ofInt y))]) (show cdA 3 12 = some (.istore 6, 2, 0, 0, 0) from rfl) (by decide) (fun _ h => h) ?_
  refine z_const X (show cdA 3 14 = some (.iconst 0, 1, 0, 0, 0) from rfl) ?_
  refine z_store X (lv' := [(7, .int (Int32.ofInt 0)), (6, .int (Int32.ofInt 0)), (5, .int (Int32.ofInt 0)), (4, .int (Int32.ofInt 0)), (3, .int (Int32.ofInt (x * 12))), (0, .ref (A 153)), (1, .int (Int32.ofInt x)), (2, .int (Int32.ofInt y))]) (show cdA 3 15 = some (.istore 7, 2, 0, 0, 0) from rfl) (by decide) (fun _ h => h) ?_
  refine z_const X (show cdA 3 17 = some (.iconst 0, 1, 0, 0, 0) from rfl) ?_
  refine z_store X (lv' := [(8, .int (Int32.ofInt 0)), (7, .int (Int32.ofInt 0)), (6, .int (Int32.ofInt 0)), (5, .int (Int32.ofInt 0)), (4, .int (Int32.ofInt 0)), (3, .int (Int32.ofInt (x * 12))), (0, .ref (A 153)), (1, .int (Int32.ofInt x)), (2, .int (Int32.ofInt y))]) (show cdA 3 18 = some (.istore 8, 2, 0, 0, 0) from rfl) (by decide) (fun _ h => h) ?_
  refine WS_lv (lv := [(0, .ref (A 153)), (2, .int (Int32.ofInt y)), (3, .int (Int32.ofInt (x * 12))), (4, .int (Int32.ofInt 0)), (5, .int (Int32.ofInt 0)), (6, .int (Int32.ofInt 0)), (7, .int (Int32.ofInt 0)), (8, .int (Int32.ofInt 0))]) (List.forall_mem_cons.mpr ⟨(List.Mem.tail _ (List.Mem.tail _ (List.Mem.tail _ (List.Mem.tail _ (List.Mem.tail _ (List.Mem.tail _ (List.Mem.head _))))))), (List.forall_mem_cons.mpr ⟨(List.Mem.tail _ (List.Mem.tail _ (List.Mem.tail _ (List.Mem.tail _ (List.Mem.tail _ (List.Mem.tail _ (List.Mem.tail _ (List.Mem.tail _ (List.Mem.head _))))))))), (List.forall_mem_cons.mpr ⟨(List.Mem.tail _ (List.Mem.tail _ (List.Mem.tail _ (List.Mem.tail _ (List.Mem.tail _ (List.Mem.head _)))))), (List.forall_mem_cons.mpr ⟨(List.Mem.tail _ (List.Mem.tail _ (List.Mem.tail _ (List.Mem.tail _ (List.Mem.head _))))), (List.forall_mem_cons.mpr ⟨(List.Mem.tail _ (List.Mem.tail _ (List.Mem.tail _ (List.Mem.head _)))), (List.forall_mem_cons.mpr ⟨(List.Mem.tail _ (List.Mem.tail _ (List.Mem.head _))), (List.forall_mem_cons.mpr ⟨(List.Mem.tail _ (List.Mem.head _)), (List.forall_mem_cons.mpr ⟨(List.Mem.head _), (fun q h => absurd h List.not_mem_nil)⟩)⟩)⟩)⟩)⟩)⟩)⟩)⟩) ?_
  refine L20 ((12 - 0 : Int).toNat + 1) s y (x * 12) 0 0 0 0 0 I F (by first | exact ⟨And.intro (p1.1) (p1.2), And.intro (oq_6b8c39bb p0.1) (oq_70eefe4f p0.2), And.intro (by decide) (by decide), And.intro (by decide) (by decide), And.intro (by decide) (by decide), And.intro (by decide) (by decide), by decide, by decide⟩ | omega) (Nat.lt_succ_self _) ?_
  intro s3 x4 x5 x6 x7 x8 Is3 Fs3 hs3
  have b9 : (0 : Int) ≤ iI s3 64 ∧ iI s3 64 ≤ 12 := Is3.1 64
  have b10 : (0 : Int) ≤ iI s3 65 ∧ iI s3 65 ≤ 66 := Is3.1 65
  refine z_const X (show cdA 3 106 = some (.iconst 0, 1, 0, 0, 0) from rfl) ?_
  refine z_store X (lv' := [(8, .int (Int32.ofInt 0)), (0, .ref (A 153)), (2, .int (Int32.ofInt y)), (3, .int (Int32.ofInt (x * 12))), (4, .int (Int32.ofInt x4)), (5, .int (Int32.ofInt x5)), (6, .int (Int32.ofInt x6)), (7, .int (Int32.ofInt x7))]) (show cdA 3 107 = some (.istore 8, 2, 0, 0, 0) from rfl) (by decide) (fun _ h => h) ?_
  refine WS_lv (lv := [(0, .ref (A 153)), (2, .int (Int32.ofInt y)), (3, .int (Int32.ofInt (x * 12))), (4, .int (Int32.ofInt x4)), (5, .int (Int32.ofInt x5)), (6, .int (Int32.ofInt x6)), (7, .int (Int32.ofInt x7)), (8, .int (Int32.ofInt 0))]) (List.forall_mem_cons.mpr ⟨(List.Mem.tail _ (List.Mem.head _)), (List.forall_mem_cons.mpr ⟨(List.Mem.tail _ (List.Mem.tail _ (List.Mem.head _))), (List.forall_mem_cons.mpr ⟨(List.Mem.tail _ (List.Mem.tail _ (List.Mem.tail _ (List.Mem.head _)))), (List.forall_mem_cons.mpr ⟨(List.Mem.tail _ (List.Mem.tail _ (List.Mem.tail _ (List.Mem.tail _ (List.Mem.head _))))), (List.forall_mem_cons.mpr ⟨(List.Mem.tail _ (List.Mem.tail _ (List.Mem.tail _ (List.Mem.tail _ (List.Mem.tail _ (List.Mem.head _)))))), (List.forall_mem_cons.mpr ⟨(List.Mem.tail _ (List.Mem.tail _ (List.Mem.tail _ (List.Mem.tail _ (List.Mem.tail _ (List.Mem.tail _ (List.Mem.head _))))))), (List.forall_mem_cons.mpr ⟨(List.Mem.tail _ (List.Mem.tail _ (List.Mem.tail _ (List.Mem.tail _ (List.Mem.tail _ (List.Mem.tail _ (List.Mem.tail _ (List.Mem.head _)))))))), (List.forall_mem_cons.mpr ⟨(List.Mem.head _), (fun q h => absurd h List.not_mem_nil)⟩)⟩)⟩)⟩)⟩)⟩)⟩)⟩) ?_
  refine L109 ((66 - 0 : Int).toNat + 1) s3 y (x * 12) x4 x5 x6 x7 0 Is3 Fs3 (by first | exact ⟨And.intro (hs3.1.1) (hs3.1.2), And.intro (hs3.2.1.1) (hs3.2.1.2), And.intro (hs3.2.2.1.1) (hs3.2.2.1.2), And.intro (hs3.2.2.2.1.1) (hs3.2.2.2.1.2), And.intro (hs3.2.2.2.2.1.1) (hs3.2.2.2.2.1.2), And.intro (hs3.2.2.2.2.2.1.1) (hs3.2.2.2.2.2.1.2), by decide, by decide⟩ | omega) (Nat.lt_succ_self _) ?_
  intro s11 x12 x13 Is11 Fs11 hs11
  have b14 : (0 : Int) ≤ iI s11 64 ∧ iI s11 64 ≤ 12 := Is11.1 64
  have b15 : (0 : Int) ≤ iI s11 65 ∧ iI s11 65 ≤ 66 := Is11.1 65
  refine z_aload_n X (x := A 153) (show cdA 3 196 = some (.aload_n 0, 1, 0, 0, 0) from rfl) (List.Mem.head _) ?_
  refine s_getR X 153 (show cdA 3 197 = some (.getfield 37, 3, 0, 11, 0) from rfl) (by decide) rfl rfl ?_
  refine z_const X (show cdA 3 200 = some (.iconst 0, 1, 0, 0, 0) from rfl) ?_
  refine z_load X (x := x4) (show cdA 3 201 = some (.iload 4, 2, 0, 0, 0) from rfl) (List.Mem.tail _ (List.Mem.tail _ (List.Mem.tail _ (List.Mem.head _)))) ?_
  refine z_ast X 161 (show cdA 3 203 = some (.iastore, 1, 0, 0, 0) from rfl) (by decide) rfl (by decide) (show 0 < 7 by decide) (by decide) ?_
  obtain ⟨s16, hs16⟩ : ∃ x0, x0 = uC s11 141 (0 : Int).toNat (Int32.ofInt x4) := ⟨_, rfl⟩
  rw [← hs16]
  have Is16 : Bd s16 := by rw [hs16]; exact bd_C Is11 (show ((-2147483648) : Int) ≤ x4 ∧ x4 ≤ 2147483647 by first | exact ⟨hs11.2.2.1.1, hs11.2.2.1.2⟩ | omega) ⟨by first | exact hs11.2.2.1.1 | omega, by first | exact hs11.2.2.1.2 | omega⟩
  have Fs16 := fm_C (i := (0 : Int).toNat) (x := Int32.ofInt x4) Fs11 (show 141 ∈ _ by decide)
  rw [← hs16] at Fs16
  have ws16_64 : iI s16 64 = iI s11 64 := by rw [hs16]; rfl
  have ws16_65 : iI s16 65 = iI s11 65 := by rw [hs16]; rfl
  refine z_aload_n X (x := A 153) (show cdA 3 204 = some (.aload_n 0, 1, 0, 0, 0) from rfl) (List.Mem.head _) ?_
  refine s_getR X 153 (show cdA 3 205 = some (.getfield 37, 3, 0, 11, 0) from rfl) (by decide) rfl rfl ?_
  refine z_const X (show cdA 3 208 = some (.iconst 1, 1, 0, 0, 0) from rfl) ?_
  refine z_load X (x := x12) (show cdA 3 209 = some (.iload 5, 2, 0, 0, 0) from rfl) (List.Mem.tail _ (List.Mem.tail _ (List.Mem.tail _ (List.Mem.tail _ (List.Mem.head _))))) ?_
  refine z_ast X 161 (show cdA 3 211 = some (.iastore, 1, 0, 0, 0) from rfl) (by decide) rfl (by decide) (show 1 < 7 by decide) (by decide) ?_
  obtain ⟨s17, hs17⟩ : ∃ x0, x0 = uC s16 141 (1 : Int).toNat (Int32.ofInt x12) := ⟨_, rfl⟩
  rw [← hs17]
  have Is17 : Bd s17 := by rw [hs17]; exact bd_C Is16 (show ((-2147483648) : Int) ≤ x12 ∧ x12 ≤ 2147483647 by first | exact ⟨hs11.2.2.2.1.1, hs11.2.2.2.1.2⟩ | omega) ⟨by first | exact hs11.2.2.2.1.1 | omega, by first | exact hs11.2.2.2.1.2 | omega⟩
  have Fs17 := fm_C (i := (1 : Int).toNat) (x := Int32.ofInt x12) Fs16 (show 141 ∈ _ by decide)
  rw [← hs17] at Fs17
  have ws17_64 : iI s17 64 = iI s16 64 := by rw [hs17]; rfl
  have ws17_65 : iI s17 65 = iI s16 65 := by rw [hs17]; rfl
  refine z_aload_n X (x := A 153) (show cdA 3 212 = some (.aload_n 0, 1, 0, 0, 0) from rfl) (List.Mem.head _) ?_
  refine s_getR X 153 (show cdA 3 213 = some (.getfield 37, 3, 0, 11, 0) from rfl) (by decide) rfl rfl ?_
  refine z_const X (show cdA 3 216 = some (.iconst 2, 1, 0, 0, 0) from rfl) ?_
  refine z_load X (x := x6) (show cdA 3 217 = some (.iload 6, 2, 0, 0, 0) from rfl) (List.Mem.tail _ (List.Mem.tail _ (List.Mem.tail _ (List.Mem.tail _ (List.Mem.tail _ (List.Mem.head _)))))) ?_
  refine z_ast X 161 (show cdA 3 219 = some (.iastore, 1, 0, 0, 0) from rfl) (by decide) rfl (by decide) (show 2 < 7 by decide) (by decide) ?_
  obtain ⟨s18, hs18⟩ : ∃ x0, x0 = uC s17 141 (2 : Int).toNat (Int32.ofInt x6) := ⟨_, rfl⟩
  rw [← hs18]
  have Is18 : Bd s18 := by rw [hs18]; exact bd_C Is17 (show ((-2147483648) : Int) ≤ x6 ∧ x6 ≤ 2147483647 by first | exact ⟨hs11.2.2.2.2.1.1, hs11.2.2.2.2.1.2⟩ | omega) ⟨by first | exact hs11.2.2.2.2.1.1 | omega, by first | exact hs11.2.2.2.2.1.2 | omega⟩
  have Fs18 := fm_C (i := (2 : Int).toNat) (x := Int32.ofInt x6) Fs17 (show 141 ∈ _ by decide)
  rw [← hs18] at Fs18
  have ws18_64 : iI s18 64 = iI s17 64 := by rw [hs18]; rfl
  have ws18_65 : iI s18 65 = iI s17 65 := by rw [hs18]; rfl
  refine z_aload_n X (x := A 153) (show cdA 3 220 = some (.aload_n 0, 1, 0, 0, 0) from rfl) (List.Mem.head _) ?_
  refine s_getR X 153 (show cdA 3 221 = some (.getfield 37, 3, 0, 11, 0) from rfl) (by decide) rfl rfl ?_
  refine z_const X (show cdA 3 224 = some (.iconst 3, 1, 0, 0, 0) from rfl) ?_
  refine z_load X (x := x7) (show cdA 3 225 = some (.iload 7, 2, 0, 0, 0) from rfl) (List.Mem.tail _ (List.Mem.tail _ (List.Mem.tail _ (List.Mem.tail _ (List.Mem.tail _ (List.Mem.tail _ (List.Mem.head _))))))) ?_
  refine z_ast X 161 (show cdA 3 227 = some (.iastore, 1, 0, 0, 0) from rfl) (by decide) rfl (by decide) (show 3 < 7 by decide) (by decide) ?_
  obtain ⟨s19, hs19⟩ : ∃ x0, x0 = uC s18 141 (3 : Int).toNat (Int32.ofInt x7) := ⟨_, rfl⟩
  rw [← hs19]
  have Is19 : Bd s19 := by rw [hs19]; exact bd_C Is18 (show ((-2147483648) : Int) ≤ x7 ∧ x7 ≤ 2147483647 by first | exact ⟨hs11.2.2.2.2.2.1.1, hs11.2.2.2.2.2.1.2⟩ | omega) ⟨by first | exact hs11.2.2.2.2.2.1.1 | omega, by first | exact hs11.2.2.2.2.2.1.2 | omega⟩
  have Fs19 := fm_C (i := (3 : Int).toNat) (x := Int32.ofInt x7) Fs18 (show 141 ∈ _ by decide)
  rw [← hs19] at Fs19
  have ws19_64 : iI s19 64 = iI s18 64 := by rw [hs19]; rfl
  have ws19_65 : iI s19 65 = iI s18 65 := by rw [hs19]; rfl
  exact w_vret X.1 q hRt (ax_d X (show cdA 3 228 = some (.return_, 1, 0, 0, 0) from rfl)) (Nat.zero_le _) (Nat.zero_le _) ⟨_, rfl, Is19, Fs19, rfl, trivial⟩
set_option maxRecDepth 4000 in
theorem c7_work_153 (G : GX l s0 D tys a0 dT) (I : Bd s) {x : Int} (p0 : -1 ≤ x ∧ x ≤ 7) : CT l s0 D A dT 84 (rmN 84) [.ref (A 19), .int (Int32.ofInt x), .ref (A 161)] s (fun o t => Bd t ∧ Fm [] [20] s t ∧ ∃ e, o = .inl (some (.int (Int32.ofInt e))) ∧ rng e ∧ (True)) := by
  refine ct_ofX G (by decide) (Nat.le_of_ble_eq_true rfl) (fun k X E ET hRt hXt q => ?_)
  show WS k 0 [(0, .ref (A 19)), (1, .int (Int32.ofInt x)), (2, .ref (A 161))] [] _ 0 0
  have F : Fm [] [20] s s := fm_rf _ _ s
  have L28 : ∀ (n : Nat) (t : PS) (xv dp c : Int), Bd t → Fm [] [20] s t → ((0 ≤ xv ∧ xv ≤ 7) ∧ (0 ≤ dp ∧ dp ≤ 200) ∧ 0 ≤ c ∧ c ≤ 200) → (200 - c : Int).toNat < n → (∀ (t' : PS) (dp' c' : Int), Bd t' → Fm [] [20] s t' → ((0 ≤ xv ∧ xv ≤ 7) ∧ (0 ≤ dp' ∧ dp' ≤ 200) ∧ 0 ≤ c' ∧ c' ≤ 200) → WS k 163 [(0, .ref (A 19)), (2, .ref (A 161)), (1, .int (Int32.ofInt xv)), (3, .int (Int32.ofInt dp')), (4, .int (Int32.ofInt c'))] [] (Wd A dT t') 0 0) → WS k 28 [(0, .ref (A 19)), (2, .ref (A 161)), (1, .int (Int32.ofInt xv)), (3, .int (Int32.ofInt dp)), (4, .int (Int32.ofInt c))] [] (Wd A dT t) 0 0 := by
    intro n
    induction n with
    | zero =>
      intro t xv dp c I F hi hm kx
      exact absurd hm (Nat.not_lt_zero _)
    | succ n ih =>
      intro t xv dp c I F hi hm kx
      refine z_load X (x := c) (show cdA 84 28 = some (.iload 4, 2, 0, 0, 0) from rfl) (List.Mem.tail _ (List.Mem.tail _ (List.Mem.tail _ (List.Mem.tail _ (List.Mem.head _))))) ?_
      refine z_aload_n X (x := A 19) (show cdA 84 30 = some (.aload_n 0, 1, 0, 0, 0) from rfl) (List.Mem.head _) ?_
      refine s_getR X 19 (show cdA 84 31 = some (.getfield 15, 3, 7, 2, 0) from rfl) (by decide) rfl rfl ?_
      refine z_load_n X (x := xv) (show cdA 84 34 = some (.iload_n 1, 1, 0, 0, 0) from rfl) (List.Mem.tail _ (List.Mem.tail _ (List.Mem.head _))) ?_
      refine z_ald X 21 (show cdA 84 35 = some (.iaload, 1, 0, 0, 0) from rfl) (by decide) rfl (by first | exact hi.1.1 | omega) (show xv < 8 by first | exact oq_aaea290e hi.1.2 | omega) (by decide) ?_
      have b1001 : (0 : Int) ≤ iC t 17 (xv).toNat ∧ iC t 17 (xv).toNat ≤ 200 := I.2 17 _ (show (xv).toNat < 8 by first | exact oq_c19a3aae hi.1.2 | omega)
      refine z_icmp_ge X (t := 163) (show cdA 84 36 = some (.if_icmp .ge 127, 3, 3, 0, 0) from rfl) (by decide) ⟨by first | exact oq_fa4e5087 hi.2.2.1 | omega, by first | exact oq_52af2b96 hi.2.2.2 | omega⟩ (rng_to _) (fun g1002 => ?_) (fun g1002 => ?_)
      ·
        refine WS_lv (lv := [(0, .ref (A 19)), (2, .ref (A 161)), (1, .int (Int32.ofInt xv)), (3, .int (Int32.ofInt dp)), (4, .int (Int32.ofInt c))]) (List.forall_mem_cons.mpr ⟨(List.Mem.head _), (List.forall_mem_cons.mpr ⟨(List.Mem.tail _ (List.Mem.head _)), (List.forall_mem_cons.mpr ⟨(List.Mem.tail _ (List.Mem.tail _ (List.Mem.head _))), (List.forall_mem_cons.mpr ⟨(List.Mem.tail _ (List.Mem.tail _ (List.Mem.tail _ (List.Mem.head _)))), (List.forall_mem_cons.mpr ⟨(List.Mem.tail _ (List.Mem.tail _ (List.Mem.tail _ (List.Mem.tail _ (List.Mem.head _))))), (fun q h => absurd h List.not_mem_nil)⟩)⟩)⟩)⟩)⟩) ?_
        exact kx _ dp c I F (by first | exact ⟨And.intro (hi.1.1) (hi.1.2), And.intro (hi.2.1.1) (hi.2.1.2), hi.2.2.1, hi.2.2.2⟩ | omega)
      ·
        refine z_aload_n X (x := A 19) (show cdA 84 39 = some (.aload_n 0, 1, 0, 0, 0) from rfl) (List.Mem.head _) ?_
        refine s_getR X 19 (show cdA 84 40 = some (.getfield 11, 3, 7, 1, 0) from rfl) (by decide) rfl rfl ?_
        refine z_load X (x := c) (show cdA 84 43 = some (.iload 4, 2, 0, 0, 0) from rfl) (List.Mem.tail _ (List.Mem.tail _ (List.Mem.tail _ (List.Mem.tail _ (List.Mem.head _))))) ?_
        refine z_ald X 20 (show cdA 84 45 = some (.iaload, 1, 0, 0, 0) from rfl) (by decide) rfl (by first | exact hi.2.2.1 | omega) (show c < 200 by first | exact oq_6fca3d72 g1002 b1001.2 | omega) (by decide) ?_
        have b1003 : ((-2147483648) : Int) ≤ iC t 16 (c).toNat ∧ iC t 16 (c).toNat ≤ 2147483647 := I.2 16 _ (show (c).toNat < 200 by first | exact oq_b70289d5 g1002 b1001.2 | omega)
        refine z_store X (lv' := [(5, .int (Int32.ofInt (iC t 16 (c).toNat))), (0, .ref (A 19)), (2, .ref (A 161)), (1, .int (Int32.ofInt xv)), (3, .int (Int32.ofInt dp)), (4, .int (Int32.ofInt c))]) (show cdA 84 46 = some (.istore 5, 2, 0, 0, 0) from rfl) (by decide) (fun _ h => h) ?_
        refine z_load X (x := (iC t 16 (c).toNat)) (show cdA 84 48 = some (.iload 5, 2, 0, 0, 0) from rfl) (List.Mem.head _) ?_
        refine z_bipush X (show cdA 84 50 = some (.bipush (-8), 2, 0, 0, (-8)) from rfl) ?_
        refine z_icmp_le X (t := 90) (show cdA 84 52 = some (.if_icmp .le 38, 3, 5, 0, 0) from rfl) (by decide) (rng_to _) (by decide) (fun g1004 => ?_) (fun g1004 => ?_)
        ·
          refine z_load X (x := (iC t 16 (c).toNat)) (show cdA 84 90 = some (.iload 5, 2, 0, 0, 0) from rfl) (List.Mem.head _) ?_
          refine z_bipush X (show cdA 84 92 = some (.bipush (-8), 2, 0, 0, (-8)) from rfl) ?_
          refine z_icmp_ne X (t := 122) (show cdA 84 94 = some (.if_icmp .ne 28, 3, 1, 0, 0) from rfl) (by decide) (rng_to _) (by decide) (fun g1005 => ?_) (fun g1005 => ?_)
          ·
            refine z_load_n X (x := dp) (show cdA 84 122 = some (.iload_n 3, 1, 0, 0, 0) from rfl) (List.Mem.tail _ (List.Mem.tail _ (List.Mem.tail _ (List.Mem.tail _ (List.Mem.head _))))) ?_
            refine z_const X (show cdA 84 123 = some (.iconst 1, 1, 0, 0, 0) from rfl) ?_
            refine z_icmp_le X (t := 157) (show cdA 84 124 = some (.if_icmp .le 33, 3, 5, 0, 0) from rfl) (by decide) ⟨by first | exact oq_fa4e5087 hi.2.1.1 | omega, by first | exact oq_52af2b96 hi.2.1.2 | omega⟩ (by decide) (fun g1006 => ?_) (fun g1006 => ?_)
            ·
              refine z_inc X (x := c) (lv' := [(4, .int (Int32.ofInt (c + 1))), (5, .int (Int32.ofInt (iC t 16 (c).toNat))), (0, .ref (A 19)), (2, .ref (A 161)), (1, .int (Int32.ofInt xv)), (3, .int (Int32.ofInt dp))]) (show cdA 84 157 = some (.iinc 4 1, 3, 0, 0, 0) from rfl) (by decide) (List.Mem.tail _ (List.Mem.tail _ (List.Mem.tail _ (List.Mem.tail _ (List.Mem.tail _ (List.Mem.head _)))))) (fun _ h => h) ?_
              refine z_goto X (t := 28) (show cdA 84 160 = some (.goto (-132), 3, 0, 0, 0) from rfl) (by decide) ?_
              refine WS_lv (lv := [(0, .ref (A 19)), (2, .ref (A 161)), (1, .int (Int32.ofInt xv)), (3, .int (Int32.ofInt dp)), (4, .int (Int32.ofInt (c + 1)))]) (List.forall_mem_cons.mpr ⟨(List.Mem.tail _ (List.Mem.tail _ (List.Mem.head _))), (List.forall_mem_cons.mpr ⟨(List.Mem.tail _ (List.Mem.tail _ (List.Mem.tail _ (List.Mem.head _)))), (List.forall_mem_cons.mpr ⟨(List.Mem.tail _ (List.Mem.tail _ (List.Mem.tail _ (List.Mem.tail _ (List.Mem.head _))))), (List.forall_mem_cons.mpr ⟨(List.Mem.tail _ (List.Mem.tail _ (List.Mem.tail _ (List.Mem.tail _ (List.Mem.tail _ (List.Mem.head _)))))), (List.forall_mem_cons.mpr ⟨(List.Mem.head _), (fun q h => absurd h List.not_mem_nil)⟩)⟩)⟩)⟩)⟩) ?_
              exact ih _ xv dp (c + 1) I F (by first | exact ⟨And.intro (hi.1.1) (hi.1.2), And.intro (hi.2.1.1) (hi.2.1.2), oq_54f49eb5 hi.2.2.1, oq_228270fa g1002 b1001.2⟩ | omega) (by first | exact qk_me hm (by decide) (oq_b0a4f3e2 g1002 b1001.2) | omega) kx
            ·
              refine z_inc X (x := dp) (lv' := [(3, .int (Int32.ofInt (dp + (-1)))), (5, .int (Int32.ofInt (iC t 16 (c).toNat))), (0, .ref (A 19)), (2, .ref (A 161)), (1, .int (Int32.ofInt xv)), (4, .int (Int32.ofInt c))]) (show cdA 84 127 = some (.iinc 3 (-1), 3, 0, 0, 0) from rfl) (by decide) (List.Mem.tail _ (List.Mem.tail _ (List.Mem.tail _ (List.Mem.tail _ (List.Mem.head _))))) (fun _ h => h) ?_
              refine z_aload_n X (x := A 19) (show cdA 84 130 = some (.aload_n 0, 1, 0, 0, 0) from rfl) (List.Mem.tail _ (List.Mem.tail _ (List.Mem.head _))) ?_
              refine s_getR X 19 (show cdA 84 131 = some (.getfield 28, 3, 7, 13, 0) from rfl) (by decide) rfl rfl ?_
              refine z_load_n X (x := (dp + (-1))) (show cdA 84 134 = some (.iload_n 3, 1, 0, 0, 0) from rfl) (List.Mem.head _) ?_
              refine z_const X (show cdA 84 135 = some (.iconst 1, 1, 0, 0, 0) from rfl) ?_
              refine z_sub X (show cdA 84 136 = some (.isub, 1, 0, 0, 0) from rfl) ?_
              refine z_load X (x := (iC t 16 (c).toNat)) (show cdA 84 137 = some (.iload 5, 2, 0, 0, 0) from rfl) (List.Mem.tail _ (List.Mem.head _)) ?_
              refine z_aload_n X (x := A 19) (show cdA 84 139 = some (.aload_n 0, 1, 0, 0, 0) from rfl) (List.Mem.tail _ (List.Mem.tail _ (List.Mem.head _))) ?_
              refine s_getR X 19 (show cdA 84 140 = some (.getfield 28, 3, 7, 13, 0) from rfl) (by decide) rfl rfl ?_
              refine z_load_n X (x := (dp + (-1))) (show cdA 84 143 = some (.iload_n 3, 1, 0, 0, 0) from rfl) (List.Mem.head _) ?_
              refine z_const X (show cdA 84 144 = some (.iconst 1, 1, 0, 0, 0) from rfl) ?_
              refine z_sub X (show cdA 84 145 = some (.isub, 1, 0, 0, 0) from rfl) ?_
              refine z_ald X 24 (show cdA 84 146 = some (.iaload, 1, 0, 0, 0) from rfl) (by decide) rfl (by first | exact oq_d588e9be g1006 | omega) (show ((dp + (-1)) - 1) < 200 by first | exact oq_f9b4958f hi.2.1.2 | omega) (by decide) ?_
              have b1007 : ((-2147483648) : Int) ≤ iC t 20 (((dp + (-1)) - 1)).toNat ∧ iC t 20 (((dp + (-1)) - 1)).toNat ≤ 2147483647 := I.2 20 _ (show (((dp + (-1)) - 1)).toNat < 200 by first | exact oq_ab8c951f hi.2.1.2 | omega)
              refine z_aload_n X (x := A 19) (show cdA 84 147 = some (.aload_n 0, 1, 0, 0, 0) from rfl) (List.Mem.tail _ (List.Mem.tail _ (List.Mem.head _))) ?_
              refine s_getR X 19 (show cdA 84 148 = some (.getfield 28, 3, 7, 13, 0) from rfl) (by decide) rfl rfl ?_
              refine z_load_n X (x := (dp + (-1))) (show cdA 84 151 = some (.iload_n 3, 1, 0, 0, 0) from rfl) (List.Mem.head _) ?_
              refine z_ald X 24 (show cdA 84 152 = some (.iaload, 1, 0, 0, 0) from rfl) (by decide) rfl (by first | exact oq_6c14892a g1006 | omega) (show (dp + (-1)) < 200 by first | exact oq_2dcece94 hi.2.1.2 | omega) (by decide) ?_
              have b1008 : ((-2147483648) : Int) ≤ iC t 20 ((dp + (-1))).toNat ∧ iC t 20 ((dp + (-1))).toNat ≤ 2147483647 := I.2 20 _ (show ((dp + (-1))).toNat < 200 by first | exact oq_323b4624 hi.2.1.2 | omega)
              refine z_callS X (rm := rmN 85) (As := [.int (Int32.ofInt (iC t 16 (c).toNat)), .int (Int32.ofInt (iC t 20 (((dp + (-1)) - 1)).toNat)), .int (Int32.ofInt (iC t 20 ((dp + (-1))).toNat))]) (st := [.int (Int32.ofInt ((dp + (-1)) - 1)), .ref (A 24)]) (show cdA 84 153 = some (.invokestatic 154, 3, 85, 1, 0) from rfl) rfl (by rw [E.1, E.2.1, E.2.2.1]; exact c7_joined G I (by first | exact ⟨b1003.1, b1003.2⟩ | omega) (by first | exact ⟨b1007.1, b1007.2⟩ | omega) (by first | exact ⟨b1008.1, b1008.2⟩ | omega)) ⟨by rw [E.2.2.2]; exact (show (rmN 85).frames + 1 ≤ (rmN 84).frames by decide), by rw [E.2.2.2]; exact (show 8 + (mNL (miB 85) + 11) + (rmN 85).locals ≤ (rmN 84).locals by decide), by rw [E.2.2.2]; exact (show 0 + (rmN 85).cells ≤ (rmN 84).cells by decide), by rw [E.2.2.2]; exact (show 0 + (rmN 85).slots ≤ (rmN 84).slots by decide)⟩ (Nat.le_of_ble_eq_true rfl) (fun vv s1009 hq => ?_) (fun ee s1009 hq => ?_)
              rotate_left
              · obtain ⟨rfl, e1010, hv, hrs1009, hps1009⟩ := hq; cases hv
              obtain ⟨rfl, e1010, hv, hrs1009, hps1009⟩ := hq
              cases hv
              show WS k 156 [(3, .int (Int32.ofInt (dp + (-1)))), (5, .int (Int32.ofInt (iC t 16 (c).toNat))), (0, .ref (A 19)), (2, .ref (A 161)), (1, .int (Int32.ofInt xv)), (4, .int (Int32.ofInt c))] [.int (Int32.ofInt e1010), .int (Int32.ofInt ((dp + (-1)) - 1)), .ref (A 24)] (Wd A dT t) 0 0
              refine z_ast X 24 (show cdA 84 156 = some (.iastore, 1, 0, 0, 0) from rfl) (by decide) rfl (by first | exact oq_d588e9be g1006 | omega) (show ((dp + (-1)) - 1) < 200 by first | exact oq_f9b4958f hi.2.1.2 | omega) (by decide) ?_
              obtain ⟨s1011, hs1011⟩ : ∃ x0, x0 = uC t 20 (((dp + (-1)) - 1)).toNat (Int32.ofInt e1010) := ⟨_, rfl⟩
              rw [← hs1011]
              have Is1011 : Bd s1011 := by rw [hs1011]; exact bd_C I (show ((-2147483648) : Int) ≤ e1010 ∧ e1010 ≤ 2147483647 by first | exact ⟨hps1009.1, hps1009.2⟩ | omega) hrs1009
              have Fs1011 := fm_C (i := (((dp + (-1)) - 1)).toNat) (x := Int32.ofInt e1010) F (show 20 ∈ _ by decide)
              rw [← hs1011] at Fs1011
              refine z_inc X (x := c) (lv' := [(4, .int (Int32.ofInt (c + 1))), (3, .int (Int32.ofInt (dp + (-1)))), (5, .int (Int32.ofInt (iC t 16 (c).toNat))), (0, .ref (A 19)), (2, .ref (A 161)), (1, .int (Int32.ofInt xv))]) (show cdA 84 157 = some (.iinc 4 1, 3, 0, 0, 0) from rfl) (by decide) (List.Mem.tail _ (List.Mem.tail _ (List.Mem.tail _ (List.Mem.tail _ (List.Mem.tail _ (List.Mem.head _)))))) (fun _ h => h) ?_
              refine z_goto X (t := 28) (show cdA 84 160 = some (.goto (-132), 3, 0, 0, 0) from rfl) (by decide) ?_
              refine WS_lv (lv := [(0, .ref (A 19)), (2, .ref (A 161)), (1, .int (Int32.ofInt xv)), (3, .int (Int32.ofInt (dp + (-1)))), (4, .int (Int32.ofInt (c + 1)))]) (List.forall_mem_cons.mpr ⟨(List.Mem.tail _ (List.Mem.tail _ (List.Mem.tail _ (List.Mem.head _)))), (List.forall_mem_cons.mpr ⟨(List.Mem.tail _ (List.Mem.tail _ (List.Mem.tail _ (List.Mem.tail _ (List.Mem.head _))))), (List.forall_mem_cons.mpr ⟨(List.Mem.tail _ (List.Mem.tail _ (List.Mem.tail _ (List.Mem.tail _ (List.Mem.tail _ (List.Mem.head _)))))), (List.forall_mem_cons.mpr ⟨(List.Mem.tail _ (List.Mem.head _)), (List.forall_mem_cons.mpr ⟨(List.Mem.head _), (fun q h => absurd h List.not_mem_nil)⟩)⟩)⟩)⟩)⟩) ?_
              exact ih _ xv (dp + (-1)) (c + 1) Is1011 Fs1011 (by first | exact ⟨And.intro (hi.1.1) (hi.1.2), And.intro (oq_6c14892a g1006) (oq_af76c38b hi.2.1.2), oq_54f49eb5 hi.2.2.1, oq_228270fa g1002 b1001.2⟩ | omega) (by first | exact qk_me hm (by decide) (oq_b0a4f3e2 g1002 b1001.2) | omega) kx
          ·
            refine z_load_n X (x := dp) (show cdA 84 97 = some (.iload_n 3, 1, 0, 0, 0) from rfl) (List.Mem.tail _ (List.Mem.tail _ (List.Mem.tail _ (List.Mem.tail _ (List.Mem.head _))))) ?_
            refine z_if_le X (t := 157) (show cdA 84 98 = some (.ifCond .le 59, 3, 5, 0, 0) from rfl) (by decide) ⟨by first | exact oq_fa4e5087 hi.2.1.1 | omega, by first | exact oq_52af2b96 hi.2.1.2 | omega⟩ (fun g1012 => ?_) (fun g1012 => ?_)
            ·
              refine z_inc X (x := c) (lv' := [(4, .int (Int32.ofInt (c + 1))), (5, .int (Int32.ofInt (iC t 16 (c).toNat))), (0, .ref (A 19)), (2, .ref (A 161)), (1, .int (Int32.ofInt xv)), (3, .int (Int32.ofInt dp))]) (show cdA 84 157 = some (.iinc 4 1, 3, 0, 0, 0) from rfl) (by decide) (List.Mem.tail _ (List.Mem.tail _ (List.Mem.tail _ (List.Mem.tail _ (List.Mem.tail _ (List.Mem.head _)))))) (fun _ h => h) ?_
              refine z_goto X (t := 28) (show cdA 84 160 = some (.goto (-132), 3, 0, 0, 0) from rfl) (by decide) ?_
              refine WS_lv (lv := [(0, .ref (A 19)), (2, .ref (A 161)), (1, .int (Int32.ofInt xv)), (3, .int (Int32.ofInt dp)), (4, .int (Int32.ofInt (c + 1)))]) (List.forall_mem_cons.mpr ⟨(List.Mem.tail _ (List.Mem.tail _ (List.Mem.head _))), (List.forall_mem_cons.mpr ⟨(List.Mem.tail _ (List.Mem.tail _ (List.Mem.tail _ (List.Mem.head _)))), (List.forall_mem_cons.mpr ⟨(List.Mem.tail _ (List.Mem.tail _ (List.Mem.tail _ (List.Mem.tail _ (List.Mem.head _))))), (List.forall_mem_cons.mpr ⟨(List.Mem.tail _ (List.Mem.tail _ (List.Mem.tail _ (List.Mem.tail _ (List.Mem.tail _ (List.Mem.head _)))))), (List.forall_mem_cons.mpr ⟨(List.Mem.head _), (fun q h => absurd h List.not_mem_nil)⟩)⟩)⟩)⟩)⟩) ?_
              exact ih _ xv dp (c + 1) I F (by first | exact ⟨And.intro (hi.1.1) (hi.1.2), And.intro (hi.2.1.1) (hi.2.1.2), oq_54f49eb5 hi.2.2.1, oq_228270fa g1002 b1001.2⟩ | omega) (by first | exact qk_me hm (by decide) (oq_b0a4f3e2 g1002 b1001.2) | omega) kx
            ·
              refine z_aload_n X (x := A 19) (show cdA 84 101 = some (.aload_n 0, 1, 0, 0, 0) from rfl) (List.Mem.tail _ (List.Mem.head _)) ?_
              refine s_getR X 19 (show cdA 84 102 = some (.getfield 28, 3, 7, 13, 0) from rfl) (by decide) rfl rfl ?_
              refine z_load_n X (x := dp) (show cdA 84 105 = some (.iload_n 3, 1, 0, 0, 0) from rfl) (List.Mem.tail _ (List.Mem.tail _ (List.Mem.tail _ (List.Mem.tail _ (List.Mem.head _))))) ?_
              refine z_const X (show cdA 84 106 = some (.iconst 1, 1, 0, 0, 0) from rfl) ?_
              refine z_sub X (show cdA 84 107 = some (.isub, 1, 0, 0, 0) from rfl) ?_
              refine z_const X (show cdA 84 108 = some (.iconst 1, 1, 0, 0, 0) from rfl) ?_
              refine z_aload_n X (x := A 19) (show cdA 84 109 = some (.aload_n 0, 1, 0, 0, 0) from rfl) (List.Mem.tail _ (List.Mem.head _)) ?_
              refine s_getR X 19 (show cdA 84 110 = some (.getfield 28, 3, 7, 13, 0) from rfl) (by decide) rfl rfl ?_
              refine z_load_n X (x := dp) (show cdA 84 113 = some (.iload_n 3, 1, 0, 0, 0) from rfl) (List.Mem.tail _ (List.Mem.tail _ (List.Mem.tail _ (List.Mem.tail _ (List.Mem.head _))))) ?_
              refine z_const X (show cdA 84 114 = some (.iconst 1, 1, 0, 0, 0) from rfl) ?_
              refine z_sub X (show cdA 84 115 = some (.isub, 1, 0, 0, 0) from rfl) ?_
              refine z_ald X 24 (show cdA 84 116 = some (.iaload, 1, 0, 0, 0) from rfl) (by decide) rfl (by first | exact oq_a4f22177 g1012 | omega) (show (dp - 1) < 200 by first | exact oq_76ad2bb2 hi.2.1.2 | omega) (by decide) ?_
              have b1013 : ((-2147483648) : Int) ≤ iC t 20 ((dp - 1)).toNat ∧ iC t 20 ((dp - 1)).toNat ≤ 2147483647 := I.2 20 _ (show ((dp - 1)).toNat < 200 by first | exact oq_a03494ec hi.2.1.2 | omega)
              refine z_sub X (show cdA 84 117 = some (.isub, 1, 0, 0, 0) from rfl) ?_
              refine z_any (fun y1014 hy1014 => ?_)
              refine z_ast X 24 (show cdA 84 118 = some (.iastore, 1, 0, 0, 0) from rfl) (by decide) rfl (by first | exact oq_a4f22177 g1012 | omega) (show (dp - 1) < 200 by first | exact oq_76ad2bb2 hi.2.1.2 | omega) (by decide) ?_
              obtain ⟨s1015, hs1015⟩ : ∃ x0, x0 = uC t 20 ((dp - 1)).toNat (Int32.ofInt y1014) := ⟨_, rfl⟩
              rw [← hs1015]
              have Is1015 : Bd s1015 := by rw [hs1015]; exact bd_C I (show ((-2147483648) : Int) ≤ y1014 ∧ y1014 ≤ 2147483647 by first | exact ⟨hy1014.1, hy1014.2⟩ | omega) hy1014
              have Fs1015 := fm_C (i := ((dp - 1)).toNat) (x := Int32.ofInt y1014) F (show 20 ∈ _ by decide)
              rw [← hs1015] at Fs1015
              refine z_goto X (t := 157) (show cdA 84 119 = some (.goto 38, 3, 0, 0, 0) from rfl) (by decide) ?_
              refine z_inc X (x := c) (lv' := [(4, .int (Int32.ofInt (c + 1))), (5, .int (Int32.ofInt (iC t 16 (c).toNat))), (0, .ref (A 19)), (2, .ref (A 161)), (1, .int (Int32.ofInt xv)), (3, .int (Int32.ofInt dp))]) (show cdA 84 157 = some (.iinc 4 1, 3, 0, 0, 0) from rfl) (by decide) (List.Mem.tail _ (List.Mem.tail _ (List.Mem.tail _ (List.Mem.tail _ (List.Mem.tail _ (List.Mem.head _)))))) (fun _ h => h) ?_
              refine z_goto X (t := 28) (show cdA 84 160 = some (.goto (-132), 3, 0, 0, 0) from rfl) (by decide) ?_
              refine WS_lv (lv := [(0, .ref (A 19)), (2, .ref (A 161)), (1, .int (Int32.ofInt xv)), (3, .int (Int32.ofInt dp)), (4, .int (Int32.ofInt (c + 1)))]) (List.forall_mem_cons.mpr ⟨(List.Mem.tail _ (List.Mem.tail _ (List.Mem.head _))), (List.forall_mem_cons.mpr ⟨(List.Mem.tail _ (List.Mem.tail _ (List.Mem.tail _ (List.Mem.head _)))), (List.forall_mem_cons.mpr ⟨(List.Mem.tail _ (List.Mem.tail _ (List.Mem.tail _ (List.Mem.tail _ (List.Mem.head _))))), (List.forall_mem_cons.mpr ⟨(List.Mem.tail _ (List.Mem.tail _ (List.Mem.tail _ (List.Mem.tail _ (List.Mem.tail _ (List.Mem.head _)))))), (List.forall_mem_cons.mpr ⟨(List.Mem.head _), (fun q h => absurd h List.not_mem_nil)⟩)⟩)⟩)⟩)⟩) ?_
              exact ih _ xv dp (c + 1) Is1015 Fs1015 (by first | exact ⟨And.intro (hi.1.1) (hi.1.2), And.intro (hi.2.1.1) (hi.2.1.2), oq_54f49eb5 hi.2.2.1, oq_228270fa g1002 b1001.2⟩ | omega) (by first | exact qk_me hm (by decide) (oq_b0a4f3e2 g1002 b1001.2) | omega) kx
        ·
          refine z_load_n X (x := dp) (show cdA 84 55 = some (.iload_n 3, 1, 0, 0, 0) from rfl) (List.Mem.tail _ (List.Mem.tail _ (List.Mem.tail _ (List.Mem.tail _ (List.Mem.head _))))) ?_
          refine z_sipush X (show cdA 84 56 = some (.sipush 200, 3, 0, 0, 200) from rfl) ?_
          refine z_icmp_ge X (t := 157) (show cdA 84 59 = some (.if_icmp .ge 98, 3, 3, 0, 0) from rfl) (by decide) ⟨by first | exact oq_fa4e5087 hi.2.1.1 | omega, by first | exact oq_52af2b96 hi.2.1.2 | omega⟩ (by decide) (fun g1016 => ?_) (fun g1016 => ?_)
          ·
            refine z_inc X (x := c) (lv' := [(4, .int (Int32.ofInt (c + 1))), (5, .int (Int32.ofInt (iC t 16 (c).toNat))), (0, .ref (A 19)), (2, .ref (A 161)), (1, .int (Int32.ofInt xv)), (3, .int (Int32.ofInt dp))]) (show cdA 84 157 = some (.iinc 4 1, 3, 0, 0, 0) from rfl) (by decide) (List.Mem.tail _ (List.Mem.tail _ (List.Mem.tail _ (List.Mem.tail _ (List.Mem.tail _ (List.Mem.head _)))))) (fun _ h => h) ?_
            refine z_goto X (t := 28) (show cdA 84 160 = some (.goto (-132), 3, 0, 0, 0) from rfl) (by decide) ?_
            refine WS_lv (lv := [(0, .ref (A 19)), (2, .ref (A 161)), (1, .int (Int32.ofInt xv)), (3, .int (Int32.ofInt dp)), (4, .int (Int32.ofInt (c + 1)))]) (List.forall_mem_cons.mpr ⟨(List.Mem.tail _ (List.Mem.tail _ (List.Mem.head _))), (List.forall_mem_cons.mpr ⟨(List.Mem.tail _ (List.Mem.tail _ (List.Mem.tail _ (List.Mem.head _)))), (List.forall_mem_cons.mpr ⟨(List.Mem.tail _ (List.Mem.tail _ (List.Mem.tail _ (List.Mem.tail _ (List.Mem.head _))))), (List.forall_mem_cons.mpr ⟨(List.Mem.tail _ (List.Mem.tail _ (List.Mem.tail _ (List.Mem.tail _ (List.Mem.tail _ (List.Mem.head _)))))), (List.forall_mem_cons.mpr ⟨(List.Mem.head _), (fun q h => absurd h List.not_mem_nil)⟩)⟩)⟩)⟩)⟩) ?_
            exact ih _ xv dp (c + 1) I F (by first | exact ⟨And.intro (hi.1.1) (hi.1.2), And.intro (hi.2.1.1) (hi.2.1.2), oq_54f49eb5 hi.2.2.1, oq_228270fa g1002 b1001.2⟩ | omega) (by first | exact qk_me hm (by decide) (oq_b0a4f3e2 g1002 b1001.2) | omega) kx
          ·
            refine z_aload_n X (x := A 19) (show cdA 84 62 = some (.aload_n 0, 1, 0, 0, 0) from rfl) (List.Mem.tail _ (List.Mem.head _)) ?_
            refine s_getR X 19 (show cdA 84 63 = some (.getfield 28, 3, 7, 13, 0) from rfl) (by decide) rfl rfl ?_
            refine z_load_n X (x := dp) (show cdA 84 66 = some (.iload_n 3, 1, 0, 0, 0) from rfl) (List.Mem.tail _ (List.Mem.tail _ (List.Mem.tail _ (List.Mem.tail _ (List.Mem.head _))))) ?_
            refine z_load X (x := (iC t 16 (c).toNat)) (show cdA 84 67 = some (.iload 5, 2, 0, 0, 0) from rfl) (List.Mem.head _) ?_
            have N1017 : ∀ e1018 : Int, ((((iC t 16 (c).toNat) < 0) ∧ (((-2147483648) : Int) ≤ iC t 141 (((-1) - (iC t 16 (c).toNat))).toNat ∧ iC t 141 (((-1) - (iC t 16 (c).toNat))).toNat ≤ 2147483647) ∧ e1018 = (iC t 141 (((-1) - (iC t 16 (c).toNat))).toNat)) ∨ ((0 ≤ (iC t 16 (c).toNat)) ∧ e1018 = (iC t 16 (c).toNat))) → WS k 83 [(5, .int (Int32.ofInt (iC t 16 (c).toNat))), (0, .ref (A 19)), (2, .ref (A 161)), (1, .int (Int32.ofInt xv)), (3, .int (Int32.ofInt dp)), (4, .int (Int32.ofInt c))] [.int (Int32.ofInt e1018), .int (Int32.ofInt dp), .ref (A 24)] (Wd A dT t) 0 0 := by
              intro e1018 he1018
              refine z_ast X 24 (show cdA 84 83 = some (.iastore, 1, 0, 0, 0) from rfl) (by decide) rfl (by first | exact hi.2.1.1 | omega) (show dp < 200 by first | exact g1016 | omega) (by decide) ?_
              obtain ⟨s1019, hs1019⟩ : ∃ x0, x0 = uC t 20 (dp).toNat (Int32.ofInt e1018) := ⟨_, rfl⟩
              rw [← hs1019]
              have Is1019 : Bd s1019 := by rw [hs1019]; exact bd_C I (show ((-2147483648) : Int) ≤ e1018 ∧ e1018 ≤ 2147483647 by first | exact ⟨oq_05aece2f he1018, oq_93cedf2b he1018 b1003.2⟩ | omega) ⟨by first | exact oq_05aece2f he1018 | omega, by first | exact oq_93cedf2b he1018 b1003.2 | omega⟩
              have Fs1019 := fm_C (i := (dp).toNat) (x := Int32.ofInt e1018) F (show 20 ∈ _ by decide)
              rw [← hs1019] at Fs1019
              refine z_inc X (x := dp) (lv' := [(3, .int (Int32.ofInt (dp + 1))), (5, .int (Int32.ofInt (iC t 16 (c).toNat))), (0, .ref (A 19)), (2, .ref (A 161)), (1, .int (Int32.ofInt xv)), (4, .int (Int32.ofInt c))]) (show cdA 84 84 = some (.iinc 3 1, 3, 0, 0, 0) from rfl) (by decide) (List.Mem.tail _ (List.Mem.tail _ (List.Mem.tail _ (List.Mem.tail _ (List.Mem.head _))))) (fun _ h => h) ?_
              refine z_goto X (t := 157) (show cdA 84 87 = some (.goto 70, 3, 0, 0, 0) from rfl) (by decide) ?_
              refine z_inc X (x := c) (lv' := [(4, .int (Int32.ofInt (c + 1))), (3, .int (Int32.ofInt (dp + 1))), (5, .int (Int32.ofInt (iC t 16 (c).toNat))), (0, .ref (A 19)), (2, .ref (A 161)), (1, .int (Int32.ofInt xv))]) (show cdA 84 157 = some (.iinc 4 1, 3, 0, 0, 0) from rfl) (by decide) (List.Mem.tail _ (List.Mem.tail _ (List.Mem.tail _ (List.Mem.tail _ (List.Mem.tail _ (List.Mem.head _)))))) (fun _ h => h) ?_
              refine z_goto X (t := 28) (show cdA 84 160 = some (.goto (-132), 3, 0, 0, 0) from rfl) (by decide) ?_
              refine WS_lv (lv := [(0, .ref (A 19)), (2, .ref (A 161)), (1, .int (Int32.ofInt xv)), (3, .int (Int32.ofInt (dp + 1))), (4, .int (Int32.ofInt (c + 1)))]) (List.forall_mem_cons.mpr ⟨(List.Mem.tail _ (List.Mem.tail _ (List.Mem.tail _ (List.Mem.head _)))), (List.forall_mem_cons.mpr ⟨(List.Mem.tail _ (List.Mem.tail _ (List.Mem.tail _ (List.Mem.tail _ (List.Mem.head _))))), (List.forall_mem_cons.mpr ⟨(List.Mem.tail _ (List.Mem.tail _ (List.Mem.tail _ (List.Mem.tail _ (List.Mem.tail _ (List.Mem.head _)))))), (List.forall_mem_cons.mpr ⟨(List.Mem.tail _ (List.Mem.head _)), (List.forall_mem_cons.mpr ⟨(List.Mem.head _), (fun q h => absurd h List.not_mem_nil)⟩)⟩)⟩)⟩)⟩) ?_
              exact ih _ xv (dp + 1) (c + 1) Is1019 Fs1019 (by first | exact ⟨And.intro (hi.1.1) (hi.1.2), And.intro (oq_54f49eb5 hi.2.1.1) (oq_0cb6ab8a g1016), oq_54f49eb5 hi.2.2.1, oq_228270fa g1002 b1001.2⟩ | omega) (by first | exact qk_me hm (by decide) (oq_b0a4f3e2 g1002 b1001.2) | omega) kx
            refine z_if_lt X (t := 77) (show cdA 84 69 = some (.ifCond .lt 8, 3, 2, 0, 0) from rfl) (by decide) (rng_to _) (fun g1020 => ?_) (fun g1020 => ?_)
            ·
              refine z_aload_n X (x := A 161) (show cdA 84 77 = some (.aload_n 2, 1, 0, 0, 0) from rfl) (List.Mem.tail _ (List.Mem.tail _ (List.Mem.head _))) ?_
              refine z_const X (show cdA 84 78 = some (.iconst (-1), 1, 0, 0, 0) from rfl) ?_
              refine z_load X (x := (iC t 16 (c).toNat)) (show cdA 84 79 = some (.iload 5, 2, 0, 0, 0) from rfl) (List.Mem.head _) ?_
              refine z_sub X (show cdA 84 81 = some (.isub, 1, 0, 0, 0) from rfl) ?_
              refine z_ald X 161 (show cdA 84 82 = some (.iaload, 1, 0, 0, 0) from rfl) (by decide) rfl (by first | exact oq_c38d07c4 g1020 | omega) (show ((-1) - (iC t 16 (c).toNat)) < 7 by first | exact oq_a1f4cde5 g1004 | omega) (by decide) ?_
              have b1021 : ((-2147483648) : Int) ≤ iC t 141 (((-1) - (iC t 16 (c).toNat))).toNat ∧ iC t 141 (((-1) - (iC t 16 (c).toNat))).toNat ≤ 2147483647 := I.2 141 _ (show (((-1) - (iC t 16 (c).toNat))).toNat < 7 by first | exact oq_91b916ba g1004 | omega)
              exact N1017 _ (Or.inl ⟨g1020, b1021, rfl⟩)
            ·
              refine z_load X (x := (iC t 16 (c).toNat)) (show cdA 84 72 = some (.iload 5, 2, 0, 0, 0) from rfl) (List.Mem.head _) ?_
              refine z_goto X (t := 83) (show cdA 84 74 = some (.goto 9, 3, 0, 0, 0) from rfl) (by decide) ?_
              exact N1017 _ (Or.inr (⟨g1020, rfl⟩))
  refine z_load_n X (x := x) (show cdA 84 0 = some (.iload_n 1, 1, 0, 0, 0) from rfl) (List.Mem.tail _ (List.Mem.head _)) ?_
  refine z_const X (show cdA 84 1 = some (.iconst (-1), 1, 0, 0, 0) from rfl) ?_
  refine z_icmp_ne X (t := 19) (show cdA 84 2 = some (.if_icmp .ne 17, 3, 1, 0, 0) from rfl) (by decide) ⟨by first | exact oq_97ee2c2a p0.1 | omega, by first | exact oq_0e78ca7d p0.2 | omega⟩ (by decide) (fun g1 => ?_) (fun g1 => ?_)
  ·
    refine z_const X (show cdA 84 19 = some (.iconst 0, 1, 0, 0, 0) from rfl) ?_
    refine z_store_n X (lv' := [(3, .int (Int32.ofInt 0)), (0, .ref (A 19)), (1, .int (Int32.ofInt x)), (2, .ref (A 161))]) (show cdA 84 20 = some (.istore_n 3, 1, 0, 0, 0) from rfl) (by decide) (fun _ h => h) ?_
    refine z_aload_n X (x := A 19) (show cdA 84 21 = some (.aload_n 0, 1, 0, 0, 0) from rfl) (List.Mem.tail _ (List.Mem.head _)) ?_
    refine z_load_n X (x := x) (show cdA 84 22 = some (.iload_n 1, 1, 0, 0, 0) from rfl) (List.Mem.tail _ (List.Mem.tail _ (List.Mem.head _))) ?_
    refine z_callV X 19 (rm := rmN 70) (As := [.int (Int32.ofInt x)]) (st := []) (show cdA 84 23 = some (.invokevirtual 70, 3, 70, 0, 0) from rfl) rfl (by decide) rfl (by rw [E.1, E.2.1, E.2.2.1]; exact c7_beginOf_19 G I (by first | exact ⟨oq_7a1025bf g1 p0.1, p0.2⟩ | omega)) ⟨by rw [E.2.2.2]; exact (show (rmN 70).frames + 1 ≤ (rmN 84).frames by decide), by rw [E.2.2.2]; exact (show 8 + (mNL (miB 70) + 11) + (rmN 70).locals ≤ (rmN 84).locals by decide), by rw [E.2.2.2]; exact (show 0 + (rmN 70).cells ≤ (rmN 84).cells by decide), by rw [E.2.2.2]; exact (show 0 + (rmN 70).slots ≤ (rmN 84).slots by decide)⟩ (Nat.le_of_ble_eq_true rfl) (fun vv s2 hq => ?_) (fun ee s2 hq => ?_)
    rotate_left
    · obtain ⟨Is2, Fs2, e3, hv, hrs2, hps2⟩ := hq; cases hv
    obtain ⟨Is2, Fs2, e3, hv, hrs2, hps2⟩ := hq
    cases hv
    have Gs2 := fm_ts F Fs2 (by decide) (by decide)
    show WS k 26 [(3, .int (Int32.ofInt 0)), (0, .ref (A 19)), (1, .int (Int32.ofInt x)), (2, .ref (A 161))] [.int (Int32.ofInt e3)] (Wd A dT s2) 0 0
    refine z_store X (lv' := [(4, .int (Int32.ofInt e3)), (3, .int (Int32.ofInt 0)), (0, .ref (A 19)), (1, .int (Int32.ofInt x)), (2, .ref (A 161))]) (show cdA 84 26 = some (.istore 4, 2, 0, 0, 0) from rfl) (by decide) (fun _ h => h) ?_
    refine WS_lv (lv := [(0, .ref (A 19)), (2, .ref (A 161)), (1, .int (Int32.ofInt x)), (3, .int (Int32.ofInt 0)), (4, .int (Int32.ofInt e3))]) (List.forall_mem_cons.mpr ⟨(List.Mem.tail _ (List.Mem.tail _ (List.Mem.head _))), (List.forall_mem_cons.mpr ⟨(List.Mem.tail _ (List.Mem.tail _ (List.Mem.tail _ (List.Mem.tail _ (List.Mem.head _))))), (List.forall_mem_cons.mpr ⟨(List.Mem.tail _ (List.Mem.tail _ (List.Mem.tail _ (List.Mem.head _)))), (List.forall_mem_cons.mpr ⟨(List.Mem.tail _ (List.Mem.head _)), (List.forall_mem_cons.mpr ⟨(List.Mem.head _), (fun q h => absurd h List.not_mem_nil)⟩)⟩)⟩)⟩)⟩) ?_
    refine L28 ((200 - e3 : Int).toNat + 1) s2 x 0 e3 Is2 Gs2 (by first | exact ⟨oq_b629d6d6 g1 p0.2 p0.1, And.intro (by decide) (by decide), hps2.1, hps2.2⟩ | omega) (Nat.lt_succ_self _) ?_
    intro s4 x5 x6 Is4 Fs4 hs4
    refine z_aload_n X (x := A 19) (show cdA 84 163 = some (.aload_n 0, 1, 0, 0, 0) from rfl) (List.Mem.head _) ?_
    refine s_getR X 19 (show cdA 84 164 = some (.getfield 28, 3, 7, 13, 0) from rfl) (by decide) rfl rfl ?_
    refine z_const X (show cdA 84 167 = some (.iconst 0, 1, 0, 0, 0) from rfl) ?_
    refine z_ald X 24 (show cdA 84 168 = some (.iaload, 1, 0, 0, 0) from rfl) (by decide) rfl (by decide) (show 0 < 200 by decide) (by decide) ?_
    have b7 : ((-2147483648) : Int) ≤ iC s4 20 (0 : Int).toNat ∧ iC s4 20 (0 : Int).toNat ≤ 2147483647 := Is4.2 20 _ (show (0 : Int).toNat < 200 by first | exact oq_e7d7c2b9 | omega)
    exact w_iret X.1 q hRt rfl (ax_d X (show cdA 84 169 = some (.ireturn, 1, 0, 0, 0) from rfl)) (Nat.zero_le _) (Nat.zero_le _) ⟨_, rfl, Is4, Fs4, (iC s4 20 (0 : Int).toNat), rfl, (rng_to _), trivial⟩
  ·
    refine z_aload_n X (x := A 161) (show cdA 84 5 = some (.aload_n 2, 1, 0, 0, 0) from rfl) (List.Mem.tail _ (List.Mem.tail _ (List.Mem.head _))) ?_
    refine z_const X (show cdA 84 6 = some (.iconst 0, 1, 0, 0, 0) from rfl) ?_
    refine z_ald X 161 (show cdA 84 7 = some (.iaload, 1, 0, 0, 0) from rfl) (by decide) rfl (by decide) (show 0 < 7 by decide) (by decide) ?_
    have b8 : ((-2147483648) : Int) ≤ iC s 141 (0 : Int).toNat ∧ iC s 141 (0 : Int).toNat ≤ 2147483647 := I.2 141 _ (show (0 : Int).toNat < 7 by first | exact oq_e8ec3fa8 | omega)
    refine z_const X (show cdA 84 8 = some (.iconst 2, 1, 0, 0, 0) from rfl) ?_
    refine z_aload_n X (x := A 161) (show cdA 84 9 = some (.aload_n 2, 1, 0, 0, 0) from rfl) (List.Mem.tail _ (List.Mem.tail _ (List.Mem.head _))) ?_
    refine z_const X (show cdA 84 10 = some (.iconst 1, 1, 0, 0, 0) from rfl) ?_
    refine z_ald X 161 (show cdA 84 11 = some (.iaload, 1, 0, 0, 0) from rfl) (by decide) rfl (by decide) (show 1 < 7 by decide) (by decide) ?_
    have b9 : ((-2147483648) : Int) ≤ iC s 141 (1 : Int).toNat ∧ iC s 141 (1 : Int).toNat ≤ 2147483647 := I.2 141 _ (show (1 : Int).toNat < 7 by first | exact oq_a32b659c | omega)
    refine z_mul X (show cdA 84 12 = some (.imul, 1, 0, 0, 0) from rfl) ?_
    refine z_any (fun y10 hy10 => ?_)
    refine z_add X (show cdA 84 13 = some (.iadd, 1, 0, 0, 0) from rfl) ?_
    refine z_any (fun y11 hy11 => ?_)
    refine z_aload_n X (x := A 161) (show cdA 84 14 = some (.aload_n 2, 1, 0, 0, 0) from rfl) (List.Mem.tail _ (List.Mem.tail _ (List.Mem.head _))) ?_
    refine z_const X (show cdA 84 15 = some (.iconst 2, 1, 0, 0, 0) from rfl) ?_
    refine z_ald X 161 (show cdA 84 16 = some (.iaload, 1, 0, 0, 0) from rfl) (by decide) rfl (by decide) (show 2 < 7 by decide) (by decide) ?_
    have b12 : ((-2147483648) : Int) ≤ iC s 141 (2 : Int).toNat ∧ iC s 141 (2 : Int).toNat ≤ 2147483647 := I.2 141 _ (show (2 : Int).toNat < 7 by first | exact oq_62527c24 | omega)
    refine z_add X (show cdA 84 17 = some (.iadd, 1, 0, 0, 0) from rfl) ?_
    refine z_any (fun y13 hy13 => ?_)
    exact w_iret X.1 q hRt rfl (ax_d X (show cdA 84 18 = some (.ireturn, 1, 0, 0, 0) from rfl)) (Nat.zero_le _) (Nat.zero_le _) ⟨_, rfl, I, F, y13, rfl, hy13, trivial⟩
set_option maxRecDepth 4000 in
theorem c0_loadAt_153 (G : GX l s0 D tys a0 dT) (I : Bd s) {x y : Int} (p0 : 0 ≤ x ∧ x ≤ 23) (p1 : rng y) : CT l s0 D A dT 4 (rmN 4) [.ref (A 153), .int (Int32.ofInt x), .int (Int32.ofInt y)] s (fun o t => Bd t ∧ Fm [] [141, 20] s t ∧ ∃ e, o = .inl (some (.int (Int32.ofInt e))) ∧ rng e ∧ (True)) := by
  refine ct_ofX G (by decide) (Nat.le_of_ble_eq_true rfl) (fun k X E ET hRt hXt q => ?_)
  show WS k 0 [(0, .ref (A 153)), (1, .int (Int32.ofInt x)), (2, .int (Int32.ofInt y))] [] _ 0 0
  have F : Fm [] [141, 20] s s := fm_rf _ _ s
  refine z_aload_n X (x := A 153) (show cdA 4 0 = some (.aload_n 0, 1, 0, 0, 0) from rfl) (List.Mem.head _) ?_
  refine z_load_n X (x := x) (show cdA 4 1 = some (.iload_n 1, 1, 0, 0, 0) from rfl) (List.Mem.tail _ (List.Mem.head _)) ?_
  refine z_load_n X (x := y) (show cdA 4 2 = some (.iload_n 2, 1, 0, 0, 0) from rfl) (List.Mem.tail _ (List.Mem.tail _ (List.Mem.head _))) ?_
  refine z_callV X 153 (rm := rmN 3) (As := [.int (Int32.ofInt x), .int (Int32.ofInt y)]) (st := []) (show cdA 4 3 = some (.invokevirtual 96, 3, 3, 0, 0) from rfl) rfl (by decide) rfl (by rw [E.1, E.2.1, E.2.2.1]; exact c0_hear_153 G I (by first | exact ⟨p0.1, p0.2⟩ | omega) (by first | exact ⟨p1.1, p1.2⟩ | omega)) ⟨by rw [E.2.2.2]; exact (show (rmN 3).frames + 1 ≤ (rmN 4).frames by decide), by rw [E.2.2.2]; exact (show 8 + (mNL (miB 3) + 11) + (rmN 3).locals ≤ (rmN 4).locals by decide), by rw [E.2.2.2]; exact (show 0 + (rmN 3).cells ≤ (rmN 4).cells by decide), by rw [E.2.2.2]; exact (show 0 + (rmN 3).slots ≤ (rmN 4).slots by decide)⟩ (Nat.le_of_ble_eq_true rfl) (fun vv s1 hq => ?_) (fun ee s1 hq => ?_)
  rotate_left
  · obtain ⟨Is1, Fs1, hv, hps1⟩ := hq; cases hv
  obtain ⟨Is1, Fs1, hv, hps1⟩ := hq
  cases hv
  have Gs1 := fm_ts F Fs1 (by decide) (by decide)
  show WS k 6 [(0, .ref (A 153)), (1, .int (Int32.ofInt x)), (2, .int (Int32.ofInt y))] [] (Wd A dT s1) 0 0
  refine z_aload_n X (x := A 153) (show cdA 4 6 = some (.aload_n 0, 1, 0, 0, 0) from rfl) (List.Mem.head _) ?_
  refine s_getR X 153 (show cdA 4 7 = some (.getfield 47, 3, 0, 1, 0) from rfl) (by decide) rfl rfl ?_
  refine z_aload_n X (x := A 153) (show cdA 4 10 = some (.aload_n 0, 1, 0, 0, 0) from rfl) (List.Mem.head _) ?_
  refine s_getR X 153 (show cdA 4 11 = some (.getfield 47, 3, 0, 1, 0) from rfl) (by decide) rfl rfl ?_
  refine z_getI X 19 (show cdA 4 14 = some (.getfield 100, 3, 7, 4, 0) from rfl) (by decide) rfl rfl ?_
  have b3 : ((-1) : Int) ≤ iI s1 13 ∧ iI s1 13 ≤ 7 := Is1.1 13
  refine z_aload_n X (x := A 153) (show cdA 4 17 = some (.aload_n 0, 1, 0, 0, 0) from rfl) (List.Mem.head _) ?_
  refine s_getR X 153 (show cdA 4 18 = some (.getfield 37, 3, 0, 11, 0) from rfl) (by decide) rfl rfl ?_
  refine z_callV X 19 (rm := rmN 84) (As := [.int (Int32.ofInt (iI s1 13)), .ref (A 161)]) (st := []) (show cdA 4 21 = some (.invokevirtual 103, 3, 84, 0, 0) from rfl) rfl (by decide) rfl (by rw [E.1, E.2.1, E.2.2.1]; exact c7_work_153 G Is1 (by first | exact ⟨b3.1, b3.2⟩ | omega)) ⟨by rw [E.2.2.2]; exact (show (rmN 84).frames + 1 ≤ (rmN 4).frames by decide), by rw [E.2.2.2]; exact (show 8 + (mNL (miB 84) + 11) + (rmN 84).locals ≤ (rmN 4).locals by decide), by rw [E.2.2.2]; exact (show 0 + (rmN 84).cells ≤ (rmN 4).cells by decide), by rw [E.2.2.2]; exact (show 0 + (rmN 84).slots ≤ (rmN 4).slots by decide)⟩ (Nat.le_of_ble_eq_true rfl) (fun vv s4 hq => ?_) (fun ee s4 hq => ?_)
  rotate_left
  · obtain ⟨Is4, Fs4, e5, hv, hrs4, hps4⟩ := hq; cases hv
  obtain ⟨Is4, Fs4, e5, hv, hrs4, hps4⟩ := hq
  cases hv
  have Gs4 := fm_ts Gs1 Fs4 (by decide) (by decide)
  show WS k 24 [(0, .ref (A 153)), (1, .int (Int32.ofInt x)), (2, .int (Int32.ofInt y))] [.int (Int32.ofInt e5)] (Wd A dT s4) 0 0
  exact w_iret X.1 q hRt rfl (ax_d X (show cdA 4 24 = some (.ireturn, 1, 0, 0, 0) from rfl)) (Nat.zero_le _) (Nat.zero_le _) ⟨_, rfl, Is4, Gs4, e5, rfl, hrs4, trivial⟩
set_option maxRecDepth 4000 in
theorem c0_followSteps_163 (G : GX l s0 D tys a0 dT) (I : Bd s) {x : Int} {aj bj : Int64} (p0 : 0 ≤ x ∧ x ≤ 11) (p1 : iI s 67 ≤ 11) : CT l s0 D A dT 2 (rmN 2) [.ref (A 163), .int (Int32.ofInt x), .long aj, .long bj] s (fun o t => Bd t ∧ Fm [] [144, 145, 146] s t ∧ o = .inl none ∧ (True)) := by
  refine ct_ofX G (by decide) (Nat.le_of_ble_eq_true rfl) (fun k X E ET hRt hXt q => ?_)
  show WS k 0 [(0, .ref (A 163)), (1, .int (Int32.ofInt x)), (2, .long aj), (4, .long bj)] [] _ 0 0
  have F : Fm [] [144, 145, 146] s s := fm_rf _ _ s
  have b1 : (0 : Int) ≤ iI s 67 ∧ iI s 67 ≤ 12 := I.1 67
  have L12 : ∀ (n : Nat) (t : PS) (xv : Int) (av : Int64) (bv : Int64) (ov : Int) (wi : Int) (cl : Int) (kd : Int), Bd t → Fm [] [144, 145, 146] s t → ((0 ≤ xv ∧ xv ≤ 11) ∧ rng ov ∧ rng wi ∧ rng cl ∧ 0 ≤ kd ∧ kd ≤ 5 ∧ iI t 67 ≤ 11) → (5 - kd : Int).toNat < n → (∀ (t' : PS) (ov' : Int) (wi' : Int) (cl' : Int) (kd' : Int), Bd t' → Fm [] [144, 145, 146] s t' → ((0 ≤ xv ∧ xv ≤ 11) ∧ rng ov' ∧ rng wi' ∧ rng cl' ∧ 0 ≤ kd' ∧ kd' ≤ 5 ∧ iI t' 67 ≤ 11) → WS k 148 [(0, .ref (A 163)), (1, .int (Int32.ofInt xv)), (2, .long av), (4, .long bv), (6, .int (Int32.ofInt ov')), (7, .int (Int32.ofInt wi')), (8, .int (Int32.ofInt cl')), (9, .int (Int32.ofInt kd'))] [] (Wd A dT t') 0 0) → WS k 12 [(0, .ref (A 163)), (1, .int (Int32.ofInt xv)), (2, .long av), (4, .long bv), (6, .int (Int32.ofInt ov)), (7, .int (Int32.ofInt wi)), (8, .int (Int32.ofInt cl)), (9, .int (Int32.ofInt kd))] [] (Wd A dT t) 0 0 := by
    intro n
    induction n with
    | zero =>
      intro t xv av bv ov wi cl kd I F hi hm kx
      exact absurd hm (Nat.not_lt_zero _)
    | succ n ih =>
      intro t xv av bv ov wi cl kd I F hi hm kx
      have b1001 : (0 : Int) ≤ iI t 67 ∧ iI t 67 ≤ 12 := I.1 67
      refine z_load X (x := kd) (show cdA 2 12 = some (.iload 9, 2, 0, 0, 0) from rfl) (List.Mem.tail _ (List.Mem.tail _ (List.Mem.tail _ (List.Mem.tail _ (List.Mem.tail _ (List.Mem.tail _ (List.Mem.tail _ (List.Mem.head _)))))))) ?_
      refine z_const X (show cdA 2 14 = some (.iconst 5, 1, 0, 0, 0) from rfl) ?_
      refine z_icmp_ge X (t := 148) (show cdA 2 15 = some (.if_icmp .ge 133, 3, 3, 0, 0) from rfl) (by decide) ⟨by first | exact oq_fa4e5087 hi.2.2.2.2.1 | omega, by first | exact oq_a3dd55e5 hi.2.2.2.2.2.1 | omega⟩ (by decide) (fun g1002 => ?_) (fun g1002 => ?_)
      ·
        refine WS_lv (lv := [(0, .ref (A 163)), (1, .int (Int32.ofInt xv)), (2, .long av), (4, .long bv), (6, .int (Int32.ofInt ov)), (7, .int (Int32.ofInt wi)), (8, .int (Int32.ofInt cl)), (9, .int (Int32.ofInt kd))]) (List.forall_mem_cons.mpr ⟨(List.Mem.head _), (List.forall_mem_cons.mpr ⟨(List.Mem.tail _ (List.Mem.head _)), (List.forall_mem_cons.mpr ⟨(List.Mem.tail _ (List.Mem.tail _ (List.Mem.head _))), (List.forall_mem_cons.mpr ⟨(List.Mem.tail _ (List.Mem.tail _ (List.Mem.tail _ (List.Mem.head _)))), (List.forall_mem_cons.mpr ⟨(List.Mem.tail _ (List.Mem.tail _ (List.Mem.tail _ (List.Mem.tail _ (List.Mem.head _))))), (List.forall_mem_cons.mpr ⟨(List.Mem.tail _ (List.Mem.tail _ (List.Mem.tail _ (List.Mem.tail _ (List.Mem.tail _ (List.Mem.head _)))))), (List.forall_mem_cons.mpr ⟨(List.Mem.tail _ (List.Mem.tail _ (List.Mem.tail _ (List.Mem.tail _ (List.Mem.tail _ (List.Mem.tail _ (List.Mem.head _))))))), (List.forall_mem_cons.mpr ⟨(List.Mem.tail _ (List.Mem.tail _ (List.Mem.tail _ (List.Mem.tail _ (List.Mem.tail _ (List.Mem.tail _ (List.Mem.tail _ (List.Mem.head _)))))))), (fun q h => absurd h List.not_mem_nil)⟩)⟩)⟩)⟩)⟩)⟩)⟩)⟩) ?_
        exact kx _ ov wi cl kd I F (by first | exact ⟨And.intro (hi.1.1) (hi.1.2), And.intro (hi.2.1.1) (hi.2.1.2), And.intro (hi.2.2.1.1) (hi.2.2.1.2), And.intro (hi.2.2.2.1.1) (hi.2.2.2.1.2), hi.2.2.2.2.1, hi.2.2.2.2.2.1, hi.2.2.2.2.2.2⟩ | omega)
      ·
        refine z_aload_n X (x := A 163) (show cdA 2 18 = some (.aload_n 0, 1, 0, 0, 0) from rfl) (List.Mem.head _) ?_
        refine s_getR X 163 (show cdA 2 19 = some (.getfield 43, 3, 0, 0, 0) from rfl) (by decide) rfl rfl ?_
        refine s_getR X 68 (show cdA 2 22 = some (.getfield 84, 3, 9, 5, 0) from rfl) (by decide) rfl rfl ?_
        refine z_load_n X (x := xv) (show cdA 2 25 = some (.iload_n 1, 1, 0, 0, 0) from rfl) (List.Mem.tail _ (List.Mem.head _)) ?_
        refine z_const X (show cdA 2 26 = some (.iconst 5, 1, 0, 0, 0) from rfl) ?_
        refine z_mul X (show cdA 2 27 = some (.imul, 1, 0, 0, 0) from rfl) ?_
        refine z_load X (x := kd) (show cdA 2 28 = some (.iload 9, 2, 0, 0, 0) from rfl) (List.Mem.tail _ (List.Mem.tail _ (List.Mem.tail _ (List.Mem.tail _ (List.Mem.tail _ (List.Mem.tail _ (List.Mem.tail _ (List.Mem.head _)))))))) ?_
        refine z_add X (show cdA 2 30 = some (.iadd, 1, 0, 0, 0) from rfl) ?_
        refine z_lald X 73 (show cdA 2 31 = some (.laload, 1, 0, 0, 0) from rfl) (by decide) rfl (by first | exact oq_59a253bd hi.1.1 hi.2.2.2.2.1 | omega) (show ((xv * 5) + kd) < 60 by first | exact oq_7279bf48 hi.1.2 g1002 | omega) (by decide) (fun j1003 => ?_)
        refine w_lstore X.1 (lv' := [(10, .long j1003), (0, .ref (A 163)), (1, .int (Int32.ofInt xv)), (2, .long av), (4, .long bv), (6, .int (Int32.ofInt ov)), (7, .int (Int32.ofInt wi)), (8, .int (Int32.ofInt cl)), (9, .int (Int32.ofInt kd))]) (ax_d X (show cdA 2 32 = some (.lstore 10, 2, 0, 0, 0) from rfl)) (by rw [X.2.1.2.2]; decide) (fun _ h => h) ?_
        refine w_lload X.1 (ax_d X (show cdA 2 34 = some (.lload 10, 2, 0, 0, 0) from rfl)) (x := j1003) (List.Mem.head _) ?_
        refine w_lconst X.1 (ax_d X (show cdA 2 36 = some (.lconst 0, 1, 0, 0, 0) from rfl)) rfl ?_
        refine z_anyJ (fun j1004 => ?_)
        refine w_lcmp X.1 (ax_d X (show cdA 2 37 = some (.lcmp, 1, 0, 0, 0) from rfl)) ?_
        refine z_any (fun y1005 hy1005 => ?_)
        refine z_if_eq X (t := 142) (show cdA 2 38 = some (.ifCond .eq 104, 3, 0, 0, 0) from rfl) (by decide) hy1005 (fun g1006 => ?_) (fun g1006 => ?_)
        ·
          refine z_inc X (x := kd) (lv' := [(9, .int (Int32.ofInt (kd + 1))), (10, .long j1003), (0, .ref (A 163)), (1, .int (Int32.ofInt xv)), (2, .long av), (4, .long bv), (6, .int (Int32.ofInt ov)), (7, .int (Int32.ofInt wi)), (8, .int (Int32.ofInt cl))]) (show cdA 2 142 = some (.iinc 9 1, 3, 0, 0, 0) from rfl) (by decide) (List.Mem.tail _ (List.Mem.tail _ (List.Mem.tail _ (List.Mem.tail _ (List.Mem.tail _ (List.Mem.tail _ (List.Mem.tail _ (List.Mem.tail _ (List.Mem.head _))))))))) (fun _ h => h) ?_
          refine z_goto X (t := 12) (show cdA 2 145 = some (.goto (-133), 3, 0, 0, 0) from rfl) (by decide) ?_
          refine WS_lv (lv := [(0, .ref (A 163)), (1, .int (Int32.ofInt xv)), (2, .long av), (4, .long bv), (6, .int (Int32.ofInt ov)), (7, .int (Int32.ofInt wi)), (8, .int (Int32.ofInt cl)), (9, .int (Int32.ofInt (kd + 1)))]) (List.forall_mem_cons.mpr ⟨(List.Mem.tail _ (List.Mem.tail _ (List.Mem.head _))), (List.forall_mem_cons.mpr ⟨(List.Mem.tail _ (List.Mem.tail _ (List.Mem.tail _ (List.Mem.head _)))), (List.forall_mem_cons.mpr ⟨(List.Mem.tail _ (List.Mem.tail _ (List.Mem.tail _ (List.Mem.tail _ (List.Mem.head _))))), (List.forall_mem_cons.mpr ⟨(List.Mem.tail _ (List.Mem.tail _ (List.Mem.tail _ (List.Mem.tail _ (List.Mem.tail _ (List.Mem.head _)))))), (List.forall_mem_cons.mpr ⟨(List.Mem.tail _ (List.Mem.tail _ (List.Mem.tail _ (List.Mem.tail _ (List.Mem.tail _ (List.Mem.tail _ (List.Mem.head _))))))), (List.forall_mem_cons.mpr ⟨(List.Mem.tail _ (List.Mem.tail _ (List.Mem.tail _ (List.Mem.tail _ (List.Mem.tail _ (List.Mem.tail _ (List.Mem.tail _ (List.Mem.head _)))))))), (List.forall_mem_cons.mpr ⟨(List.Mem.tail _ (List.Mem.tail _ (List.Mem.tail _ (List.Mem.tail _ (List.Mem.tail _ (List.Mem.tail _ (List.Mem.tail _ (List.Mem.tail _ (List.Mem.head _))))))))), (List.forall_mem_cons.mpr ⟨(List.Mem.head _), (fun q h => absurd h List.not_mem_nil)⟩)⟩)⟩)⟩)⟩)⟩)⟩)⟩) ?_
          exact ih _ xv av bv ov wi cl (kd + 1) I F (by first | exact ⟨And.intro (hi.1.1) (hi.1.2), And.intro (hi.2.1.1) (hi.2.1.2), And.intro (hi.2.2.1.1) (hi.2.2.1.2), And.intro (hi.2.2.2.1.1) (hi.2.2.2.1.2), oq_54f49eb5 hi.2.2.2.2.1, oq_c2445583 g1002, hi.2.2.2.2.2.2⟩ | omega) (by first | exact qk_me hm (by decide) (oq_33241a94 g1002) | omega) kx
        ·
          refine z_load X (x := kd) (show cdA 2 41 = some (.iload 9, 2, 0, 0, 0) from rfl) (List.Mem.tail _ (List.Mem.tail _ (List.Mem.tail _ (List.Mem.tail _ (List.Mem.tail _ (List.Mem.tail _ (List.Mem.tail _ (List.Mem.tail _ (List.Mem.head _))))))))) ?_
          refine z_const X (show cdA 2 43 = some (.iconst 1, 1, 0, 0, 0) from rfl) ?_
          have N1007 : ∀ j1008 : Int64, WS k 59 [(10, .long j1003), (0, .ref (A 163)), (1, .int (Int32.ofInt xv)), (2, .long av), (4, .long bv), (6, .int (Int32.ofInt ov)), (7, .int (Int32.ofInt wi)), (8, .int (Int32.ofInt cl)), (9, .int (Int32.ofInt kd))] [.long j1008] (Wd A dT t) 0 0 := by
            intro j1008
            refine w_lstore X.1 (lv' := [(12, .long j1008), (10, .long j1003), (0, .ref (A 163)), (1, .int (Int32.ofInt xv)), (2, .long av), (4, .long bv), (6, .int (Int32.ofInt ov)), (7, .int (Int32.ofInt wi)), (8, .int (Int32.ofInt cl)), (9, .int (Int32.ofInt kd))]) (ax_d X (show cdA 2 59 = some (.lstore 12, 2, 0, 0, 0) from rfl)) (by rw [X.2.1.2.2]; decide) (fun _ h => h) ?_
            refine z_load X (x := kd) (show cdA 2 61 = some (.iload 9, 2, 0, 0, 0) from rfl) (List.Mem.tail _ (List.Mem.tail _ (List.Mem.tail _ (List.Mem.tail _ (List.Mem.tail _ (List.Mem.tail _ (List.Mem.tail _ (List.Mem.tail _ (List.Mem.tail _ (List.Mem.head _)))))))))) ?_
            refine z_const X (show cdA 2 63 = some (.iconst 4, 1, 0, 0, 0) from rfl) ?_
            have N1009 : ∀ j1010 : Int64, WS k 90 [(12, .long j1008), (10, .long j1003), (0, .ref (A 163)), (1, .int (Int32.ofInt xv)), (2, .long av), (4, .long bv), (6, .int (Int32.ofInt ov)), (7, .int (Int32.ofInt wi)), (8, .int (Int32.ofInt cl)), (9, .int (Int32.ofInt kd))] [.long j1010] (Wd A dT t) 0 0 := by
              intro j1010
              refine w_lstore X.1 (lv' := [(14, .long j1010), (12, .long j1008), (10, .long j1003), (0, .ref (A 163)), (1, .int (Int32.ofInt xv)), (2, .long av), (4, .long bv), (6, .int (Int32.ofInt ov)), (7, .int (Int32.ofInt wi)), (8, .int (Int32.ofInt cl)), (9, .int (Int32.ofInt kd))]) (ax_d X (show cdA 2 90 = some (.lstore 14, 2, 0, 0, 0) from rfl)) (by rw [X.2.1.2.2]; decide) (fun _ h => h) ?_
              refine w_lload X.1 (ax_d X (show cdA 2 92 = some (.lload 10, 2, 0, 0, 0) from rfl)) (x := j1003) (List.Mem.tail _ (List.Mem.tail _ (List.Mem.head _))) ?_
              refine w_lload X.1 (ax_d X (show cdA 2 94 = some (.lload 12, 2, 0, 0, 0) from rfl)) (x := j1008) (List.Mem.tail _ (List.Mem.head _)) ?_
              refine w_land X.1 (ax_d X (show cdA 2 96 = some (.land, 1, 0, 0, 0) from rfl)) ?_
              refine z_anyJ (fun j1011 => ?_)
              refine w_lload X.1 (ax_d X (show cdA 2 97 = some (.lload 14, 2, 0, 0, 0) from rfl)) (x := j1010) (List.Mem.head _) ?_
              refine w_land X.1 (ax_d X (show cdA 2 99 = some (.land, 1, 0, 0, 0) from rfl)) ?_
              refine z_anyJ (fun j1012 => ?_)
              refine z_callS X (rm := rmN 298) (As := [.long j1012]) (st := []) (show cdA 2 100 = some (.invokestatic 51, 3, 298, 1, 0) from rfl) rfl (by rw [E.1, E.2.1, E.2.2.1]; exact j_bitL G I ) ⟨by rw [E.2.2.2]; exact (show (rmN 298).frames + 1 ≤ (rmN 2).frames by decide), by rw [E.2.2.2]; exact (show 8 + (mNL (miB 298) + 11) + (rmN 298).locals ≤ (rmN 2).locals by decide), by rw [E.2.2.2]; exact (show 0 + (rmN 298).cells ≤ (rmN 2).cells by decide), by rw [E.2.2.2]; exact (show 0 + (rmN 298).slots ≤ (rmN 2).slots by decide)⟩ (Nat.le_of_ble_eq_true rfl) (fun vv s1013 hq => ?_) (fun ee s1013 hq => ?_)
              rotate_left
              · obtain ⟨Is1013, Fs1013, e1014, hv, hrs1013, hps1013⟩ := hq; cases hv
              obtain ⟨Is1013, Fs1013, e1014, hv, hrs1013, hps1013⟩ := hq
              cases hv
              have Gs1013 := fm_ts F Fs1013 (by decide) (by decide)
              have ws1013_67 : iI s1013 67 = iI t 67 := fm_i Fs1013 (by decide)
              show WS k 103 [(14, .long j1010), (12, .long j1008), (10, .long j1003), (0, .ref (A 163)), (1, .int (Int32.ofInt xv)), (2, .long av), (4, .long bv), (6, .int (Int32.ofInt ov)), (7, .int (Int32.ofInt wi)), (8, .int (Int32.ofInt cl)), (9, .int (Int32.ofInt kd))] [.int (Int32.ofInt e1014)] (Wd A dT s1013) 0 0
              refine z_store X (lv' := [(16, .int (Int32.ofInt e1014)), (14, .long j1010), (12, .long j1008), (10, .long j1003), (0, .ref (A 163)), (1, .int (Int32.ofInt xv)), (2, .long av), (4, .long bv), (6, .int (Int32.ofInt ov)), (7, .int (Int32.ofInt wi)), (8, .int (Int32.ofInt cl)), (9, .int (Int32.ofInt kd))]) (show cdA 2 103 = some (.istore 16, 2, 0, 0, 0) from rfl) (by decide) (fun _ h => h) ?_
              refine z_load X (x := ov) (show cdA 2 105 = some (.iload 6, 2, 0, 0, 0) from rfl) (List.Mem.tail _ (List.Mem.tail _ (List.Mem.tail _ (List.Mem.tail _ (List.Mem.tail _ (List.Mem.tail _ (List.Mem.tail _ (List.Mem.tail _ (List.Mem.head _))))))))) ?_
              refine w_lload X.1 (ax_d X (show cdA 2 107 = some (.lload 10, 2, 0, 0, 0) from rfl)) (x := j1003) (List.Mem.tail _ (List.Mem.tail _ (List.Mem.tail _ (List.Mem.head _)))) ?_
              refine w_lload X.1 (ax_d X (show cdA 2 109 = some (.lload 12, 2, 0, 0, 0) from rfl)) (x := j1008) (List.Mem.tail _ (List.Mem.tail _ (List.Mem.head _))) ?_
              refine w_lload X.1 (ax_d X (show cdA 2 111 = some (.lload 14, 2, 0, 0, 0) from rfl)) (x := j1010) (List.Mem.tail _ (List.Mem.head _)) ?_
              refine w_lxor X.1 (ax_d X (show cdA 2 113 = some (.lxor, 1, 0, 0, 0) from rfl)) ?_
              refine z_anyJ (fun j1015 => ?_)
              refine w_land X.1 (ax_d X (show cdA 2 114 = some (.land, 1, 0, 0, 0) from rfl)) ?_
              refine z_anyJ (fun j1016 => ?_)
              refine z_callS X (rm := rmN 298) (As := [.long j1016]) (st := [.int (Int32.ofInt ov)]) (show cdA 2 115 = some (.invokestatic 51, 3, 298, 1, 0) from rfl) rfl (by rw [E.1, E.2.1, E.2.2.1]; exact j_bitL G Is1013 ) ⟨by rw [E.2.2.2]; exact (show (rmN 298).frames + 1 ≤ (rmN 2).frames by decide), by rw [E.2.2.2]; exact (show 8 + (mNL (miB 298) + 11) + (rmN 298).locals ≤ (rmN 2).locals by decide), by rw [E.2.2.2]; exact (show 0 + (rmN 298).cells ≤ (rmN 2).cells by decide), by rw [E.2.2.2]; exact (show 0 + (rmN 298).slots ≤ (rmN 2).slots by decide)⟩ (Nat.le_of_ble_eq_true rfl) (fun vv s1017 hq => ?_) (fun ee s1017 hq => ?_)
              rotate_left
              · obtain ⟨Is1017, Fs1017, e1018, hv, hrs1017, hps1017⟩ := hq; cases hv
              obtain ⟨Is1017, Fs1017, e1018, hv, hrs1017, hps1017⟩ := hq
              cases hv
              have Gs1017 := fm_ts Gs1013 Fs1017 (by decide) (by decide)
              have ws1017_67 : iI s1017 67 = iI s1013 67 := fm_i Fs1017 (by decide)
              show WS k 118 [(16, .int (Int32.ofInt e1014)), (14, .long j1010), (12, .long j1008), (10, .long j1003), (0, .ref (A 163)), (1, .int (Int32.ofInt xv)), (2, .long av), (4, .long bv), (6, .int (Int32.ofInt ov)), (7, .int (Int32.ofInt wi)), (8, .int (Int32.ofInt cl)), (9, .int (Int32.ofInt kd))] [.int (Int32.ofInt e1018), .int (Int32.ofInt ov)] (Wd A dT s1017) 0 0
              refine z_add X (show cdA 2 118 = some (.iadd, 1, 0, 0, 0) from rfl) ?_
              refine z_any (fun y1019 hy1019 => ?_)
              refine z_store X (lv' := [(6, .int (Int32.ofInt y1019)), (16, .int (Int32.ofInt e1014)), (14, .long j1010), (12, .long j1008), (10, .long j1003), (0, .ref (A 163)), (1, .int (Int32.ofInt xv)), (2, .long av), (4, .long bv), (7, .int (Int32.ofInt wi)), (8, .int (Int32.ofInt cl)), (9, .int (Int32.ofInt kd))]) (show cdA 2 119 = some (.istore 6, 2, 0, 0, 0) from rfl) (by decide) (fun _ h => h) ?_
              refine z_load X (x := wi) (show cdA 2 121 = some (.iload 7, 2, 0, 0, 0) from rfl) (List.Mem.tail _ (List.Mem.tail _ (List.Mem.tail _ (List.Mem.tail _ (List.Mem.tail _ (List.Mem.tail _ (List.Mem.tail _ (List.Mem.tail _ (List.Mem.tail _ (List.Mem.head _)))))))))) ?_
              refine z_load X (x := e1014) (show cdA 2 123 = some (.iload 16, 2, 0, 0, 0) from rfl) (List.Mem.tail _ (List.Mem.head _)) ?_
              refine z_add X (show cdA 2 125 = some (.iadd, 1, 0, 0, 0) from rfl) ?_
              refine z_any (fun y1020 hy1020 => ?_)
              refine z_store X (lv' := [(7, .int (Int32.ofInt y1020)), (6, .int (Int32.ofInt y1019)), (16, .int (Int32.ofInt e1014)), (14, .long j1010), (12, .long j1008), (10, .long j1003), (0, .ref (A 163)), (1, .int (Int32.ofInt xv)), (2, .long av), (4, .long bv), (8, .int (Int32.ofInt cl)), (9, .int (Int32.ofInt kd))]) (show cdA 2 126 = some (.istore 7, 2, 0, 0, 0) from rfl) (by decide) (fun _ h => h) ?_
              refine z_load X (x := kd) (show cdA 2 128 = some (.iload 9, 2, 0, 0, 0) from rfl) (List.Mem.tail _ (List.Mem.tail _ (List.Mem.tail _ (List.Mem.tail _ (List.Mem.tail _ (List.Mem.tail _ (List.Mem.tail _ (List.Mem.tail _ (List.Mem.tail _ (List.Mem.tail _ (List.Mem.tail _ (List.Mem.head _)))))))))))) ?_
              refine z_const X (show cdA 2 130 = some (.iconst 4, 1, 0, 0, 0) from rfl) ?_
              have N1021 : ∀ e1022 : Int, (((kd ≠ 4) ∧ e1022 = 0) ∨ ((kd = 4) ∧ e1022 = e1014)) → WS k 140 [(7, .int (Int32.ofInt y1020)), (6, .int (Int32.ofInt y1019)), (16, .int (Int32.ofInt e1014)), (14, .long j1010), (12, .long j1008), (10, .long j1003), (0, .ref (A 163)), (1, .int (Int32.ofInt xv)), (2, .long av), (4, .long bv), (8, .int (Int32.ofInt cl)), (9, .int (Int32.ofInt kd))] [.int (Int32.ofInt e1022)] (Wd A dT s1017) 0 0 := by
                intro e1022 he1022
                refine z_store X (lv' := [(8, .int (Int32.ofInt e1022)), (7, .int (Int32.ofInt y1020)), (6, .int (Int32.ofInt y1019)), (16, .int (Int32.ofInt e1014)), (14, .long j1010), (12, .long j1008), (10, .long j1003), (0, .ref (A 163)), (1, .int (Int32.ofInt xv)), (2, .long av), (4, .long bv), (9, .int (Int32.ofInt kd))]) (show cdA 2 140 = some (.istore 8, 2, 0, 0, 0) from rfl) (by decide) (fun _ h => h) ?_
                refine z_inc X (x := kd) (lv' := [(9, .int (Int32.ofInt (kd + 1))), (8, .int (Int32.ofInt e1022)), (7, .int (Int32.ofInt y1020)), (6, .int (Int32.ofInt y1019)), (16, .int (Int32.ofInt e1014)), (14, .long j1010), (12, .long j1008), (10, .long j1003), (0, .ref (A 163)), (1, .int (Int32.ofInt xv)), (2, .long av), (4, .long bv)]) (show cdA 2 142 = some (.iinc 9 1, 3, 0, 0, 0) from rfl) (by decide) (List.Mem.tail _ (List.Mem.tail _ (List.Mem.tail _ (List.Mem.tail _ (List.Mem.tail _ (List.Mem.tail _ (List.Mem.tail _ (List.Mem.tail _ (List.Mem.tail _ (List.Mem.tail _ (List.Mem.tail _ (List.Mem.head _)))))))))))) (fun _ h => h) ?_
                refine z_goto X (t := 12) (show cdA 2 145 = some (.goto (-133), 3, 0, 0, 0) from rfl) (by decide) ?_
                refine WS_lv (lv := [(0, .ref (A 163)), (1, .int (Int32.ofInt xv)), (2, .long av), (4, .long bv), (6, .int (Int32.ofInt y1019)), (7, .int (Int32.ofInt y1020)), (8, .int (Int32.ofInt e1022)), (9, .int (Int32.ofInt (kd + 1)))]) (List.forall_mem_cons.mpr ⟨(List.Mem.tail _ (List.Mem.tail _ (List.Mem.tail _ (List.Mem.tail _ (List.Mem.tail _ (List.Mem.tail _ (List.Mem.tail _ (List.Mem.tail _ (List.Mem.head _))))))))), (List.forall_mem_cons.mpr ⟨(List.Mem.tail _ (List.Mem.tail _ (List.Mem.tail _ (List.Mem.tail _ (List.Mem.tail _ (List.Mem.tail _ (List.Mem.tail _ (List.Mem.tail _ (List.Mem.tail _ (List.Mem.head _)))))))))), (List.forall_mem_cons.mpr ⟨(List.Mem.tail _ (List.Mem.tail _ (List.Mem.tail _ (List.Mem.tail _ (List.Mem.tail _ (List.Mem.tail _ (List.Mem.tail _ (List.Mem.tail _ (List.Mem.tail _ (List.Mem.tail _ (List.Mem.head _))))))))))), (List.forall_mem_cons.mpr ⟨(List.Mem.tail _ (List.Mem.tail _ (List.Mem.tail _ (List.Mem.tail _ (List.Mem.tail _ (List.Mem.tail _ (List.Mem.tail _ (List.Mem.tail _ (List.Mem.tail _ (List.Mem.tail _ (List.Mem.tail _ (List.Mem.head _)))))))))))), (List.forall_mem_cons.mpr ⟨(List.Mem.tail _ (List.Mem.tail _ (List.Mem.tail _ (List.Mem.head _)))), (List.forall_mem_cons.mpr ⟨(List.Mem.tail _ (List.Mem.tail _ (List.Mem.head _))), (List.forall_mem_cons.mpr ⟨(List.Mem.tail _ (List.Mem.head _)), (List.forall_mem_cons.mpr ⟨(List.Mem.head _), (fun q h => absurd h List.not_mem_nil)⟩)⟩)⟩)⟩)⟩)⟩)⟩)⟩) ?_
                exact ih _ xv av bv y1019 y1020 e1022 (kd + 1) Is1017 Gs1017 (by first | exact ⟨And.intro (hi.1.1) (hi.1.2), And.intro (hy1019.1) (hy1019.2), And.intro (hy1020.1) (hy1020.2), by omega, oq_54f49eb5 hi.2.2.2.2.1, oq_c2445583 g1002, oq_9a920414 ws1017_67 ws1013_67 hi.2.2.2.2.2.2⟩ | omega) (by first | exact qk_me hm (by decide) (oq_33241a94 g1002) | omega) kx
              refine z_icmp_ne X (t := 139) (show cdA 2 131 = some (.if_icmp .ne 8, 3, 1, 0, 0) from rfl) (by decide) ⟨by first | exact oq_fa4e5087 hi.2.2.2.2.1 | omega, by first | exact oq_85aa3fe6 g1002 | omega⟩ (by decide) (fun g1023 => ?_) (fun g1023 => ?_)
              ·
                refine z_const X (show cdA 2 139 = some (.iconst 0, 1, 0, 0, 0) from rfl) ?_
                exact N1021 _ (Or.inl ⟨g1023, rfl⟩)
              ·
                refine z_load X (x := e1014) (show cdA 2 134 = some (.iload 16, 2, 0, 0, 0) from rfl) (List.Mem.tail _ (List.Mem.tail _ (List.Mem.head _))) ?_
                refine z_goto X (t := 140) (show cdA 2 136 = some (.goto 4, 3, 0, 0, 0) from rfl) (by decide) ?_
                exact N1021 _ (Or.inr (⟨g1023, rfl⟩))
            refine z_icmp_ne X (t := 72) (show cdA 2 64 = some (.if_icmp .ne 8, 3, 1, 0, 0) from rfl) (by decide) ⟨by first | exact oq_fa4e5087 hi.2.2.2.2.1 | omega, by first | exact oq_85aa3fe6 g1002 | omega⟩ (by decide) (fun g1024 => ?_) (fun g1024 => ?_)
            ·
              refine z_load X (x := kd) (show cdA 2 72 = some (.iload 9, 2, 0, 0, 0) from rfl) (List.Mem.tail _ (List.Mem.tail _ (List.Mem.tail _ (List.Mem.tail _ (List.Mem.tail _ (List.Mem.tail _ (List.Mem.tail _ (List.Mem.tail _ (List.Mem.tail _ (List.Mem.head _)))))))))) ?_
              refine z_const X (show cdA 2 74 = some (.iconst 2, 1, 0, 0, 0) from rfl) ?_
              refine z_icmp_ge X (t := 85) (show cdA 2 75 = some (.if_icmp .ge 10, 3, 3, 0, 0) from rfl) (by decide) ⟨by first | exact oq_fa4e5087 hi.2.2.2.2.1 | omega, by first | exact oq_85aa3fe6 g1002 | omega⟩ (by decide) (fun g1025 => ?_) (fun g1025 => ?_)
              ·
                refine w_lload X.1 (ax_d X (show cdA 2 85 = some (.lload 12, 2, 0, 0, 0) from rfl)) (x := j1008) (List.Mem.head _) ?_
                refine z_bipush X (show cdA 2 87 = some (.bipush 8, 2, 0, 0, 8) from rfl) ?_
                refine w_lushr X.1 (ax_d X (show cdA 2 89 = some (.lushr, 1, 0, 0, 0) from rfl)) ?_
                refine z_anyJ (fun j1026 => ?_)
                exact N1009 _
              ·
                refine w_lload X.1 (ax_d X (show cdA 2 78 = some (.lload 12, 2, 0, 0, 0) from rfl)) (x := j1008) (List.Mem.head _) ?_
                refine z_const X (show cdA 2 80 = some (.iconst 1, 1, 0, 0, 0) from rfl) ?_
                refine w_lushr X.1 (ax_d X (show cdA 2 81 = some (.lushr, 1, 0, 0, 0) from rfl)) ?_
                refine z_anyJ (fun j1027 => ?_)
                refine z_goto X (t := 90) (show cdA 2 82 = some (.goto 8, 3, 0, 0, 0) from rfl) (by decide) ?_
                exact N1009 _
            ·
              refine w_lload X.1 (ax_d X (show cdA 2 67 = some (.lload 4, 2, 0, 0, 0) from rfl)) (x := bv) (List.Mem.tail _ (List.Mem.tail _ (List.Mem.tail _ (List.Mem.tail _ (List.Mem.tail _ (List.Mem.head _)))))) ?_
              refine z_goto X (t := 90) (show cdA 2 69 = some (.goto 21, 3, 0, 0, 0) from rfl) (by decide) ?_
              exact N1009 _
          refine z_icmp_eq X (t := 53) (show cdA 2 44 = some (.if_icmp .eq 9, 3, 0, 0, 0) from rfl) (by decide) ⟨by first | exact oq_fa4e5087 hi.2.2.2.2.1 | omega, by first | exact oq_85aa3fe6 g1002 | omega⟩ (by decide) (fun g1028 => ?_) (fun g1028 => ?_)
          ·
            refine w_lload X.1 (ax_d X (show cdA 2 53 = some (.lload 4, 2, 0, 0, 0) from rfl)) (x := bv) (List.Mem.tail _ (List.Mem.tail _ (List.Mem.tail _ (List.Mem.tail _ (List.Mem.head _))))) ?_
            refine z_goto X (t := 59) (show cdA 2 55 = some (.goto 4, 3, 0, 0, 0) from rfl) (by decide) ?_
            exact N1007 _
          ·
            refine z_load X (x := kd) (show cdA 2 47 = some (.iload 9, 2, 0, 0, 0) from rfl) (List.Mem.tail _ (List.Mem.tail _ (List.Mem.tail _ (List.Mem.tail _ (List.Mem.tail _ (List.Mem.tail _ (List.Mem.tail _ (List.Mem.tail _ (List.Mem.head _))))))))) ?_
            refine z_const X (show cdA 2 49 = some (.iconst 3, 1, 0, 0, 0) from rfl) ?_
            refine z_icmp_ne X (t := 58) (show cdA 2 50 = some (.if_icmp .ne 8, 3, 1, 0, 0) from rfl) (by decide) ⟨by first | exact oq_fa4e5087 hi.2.2.2.2.1 | omega, by first | exact oq_85aa3fe6 g1002 | omega⟩ (by decide) (fun g1029 => ?_) (fun g1029 => ?_)
            ·
              refine w_lload_n X.1 (ax_d X (show cdA 2 58 = some (.lload_n 2, 1, 0, 0, 0) from rfl)) (x := av) (List.Mem.tail _ (List.Mem.tail _ (List.Mem.tail _ (List.Mem.head _)))) ?_
              exact N1007 _
            ·
              refine w_lload X.1 (ax_d X (show cdA 2 53 = some (.lload 4, 2, 0, 0, 0) from rfl)) (x := bv) (List.Mem.tail _ (List.Mem.tail _ (List.Mem.tail _ (List.Mem.tail _ (List.Mem.head _))))) ?_
              refine z_goto X (t := 59) (show cdA 2 55 = some (.goto 4, 3, 0, 0, 0) from rfl) (by decide) ?_
              exact N1007 _
  refine z_const X (show cdA 2 0 = some (.iconst 0, 1, 0, 0, 0) from rfl) ?_
  refine z_store X (lv' := [(6, .int (Int32.ofInt 0)), (0, .ref (A 163)), (1, .int (Int32.ofInt x)), (2, .long aj), (4, .long bj)]) (show cdA 2 1 = some (.istore 6, 2, 0, 0, 0) from rfl) (by decide) (fun _ h => h) ?_
  refine z_const X (show cdA 2 3 = some (.iconst 0, 1, 0, 0, 0) from rfl) ?_
  refine z_store X (lv' := [(7, .int (Int32.ofInt 0)), (6, .int (Int32.ofInt 0)), (0, .ref (A 163)), (1, .int (Int32.ofInt x)), (2, .long aj), (4, .long bj)]) (show cdA 2 4 = some (.istore 7, 2, 0, 0, 0) from rfl) (by decide) (fun _ h => h) ?_
  refine z_const X (show cdA 2 6 = some (.iconst 0, 1, 0, 0, 0) from rfl) ?_
  refine z_store X (lv' := [(8, .int (Int32.ofInt 0)), (7, .int (Int32.ofInt 0)), (6, .int (Int32.ofInt 0)), (0, .ref (A 163)), (1, .int (Int32.ofInt x)), (2, .long aj), (4, .long bj)]) (show cdA 2 7 = some (.istore 8, 2, 0, 0, 0) from rfl) (by decide) (fun _ h => h) ?_
  refine z_const X (show cdA 2 9 = some (.iconst 0, 1, 0, 0, 0) from rfl) ?_
  refine z_store X (lv' := [(9, .int (Int32.ofInt 0)), (8, .int (Int32.ofInt 0)), (7, .int (Int32.ofInt 0)), (6, .int (Int32.ofInt 0)), (0, .ref (A 163)), (1, .int (Int32.ofInt x)), (2, .long aj), (4, .long bj)]) (show cdA 2 10 = some (.istore 9, 2, 0, 0, 0) from rfl) (by decide) (fun _ h => h) ?_
  refine WS_lv (lv := [(0, .ref (A 163)), (1, .int (Int32.ofInt x)), (2, .long aj), (4, .long bj), (6, .int (Int32.ofInt 0)), (7, .int (Int32.ofInt 0)), (8, .int (Int32.ofInt 0)), (9, .int (Int32.ofInt 0))]) (List.forall_mem_cons.mpr ⟨(List.Mem.tail _ (List.Mem.tail _ (List.Mem.tail _ (List.Mem.tail _ (List.Mem.head _))))), (List.forall_mem_cons.mpr ⟨(List.Mem.tail _ (List.Mem.tail _ (List.Mem.tail _ (List.Mem.tail _ (List.Mem.tail _ (List.Mem.head _)))))), (List.forall_mem_cons.mpr ⟨(List.Mem.tail _ (List.Mem.tail _ (List.Mem.tail _ (List.Mem.tail _ (List.Mem.tail _ (List.Mem.tail _ (List.Mem.head _))))))), (List.forall_mem_cons.mpr ⟨(List.Mem.tail _ (List.Mem.tail _ (List.Mem.tail _ (List.Mem.tail _ (List.Mem.tail _ (List.Mem.tail _ (List.Mem.tail _ (List.Mem.head _)))))))), (List.forall_mem_cons.mpr ⟨(List.Mem.tail _ (List.Mem.tail _ (List.Mem.tail _ (List.Mem.head _)))), (List.forall_mem_cons.mpr ⟨(List.Mem.tail _ (List.Mem.tail _ (List.Mem.head _))), (List.forall_mem_cons.mpr ⟨(List.Mem.tail _ (List.Mem.head _)), (List.forall_mem_cons.mpr ⟨(List.Mem.head _), (fun q h => absurd h List.not_mem_nil)⟩)⟩)⟩)⟩)⟩)⟩)⟩)⟩) ?_
  refine L12 ((5 - 0 : Int).toNat + 1) s x aj bj 0 0 0 0 I F (by first | exact ⟨And.intro (p0.1) (p0.2), And.intro (by decide) (by decide), And.intro (by decide) (by decide), And.intro (by decide) (by decide), by decide, by decide, p1⟩ | omega) (Nat.lt_succ_self _) ?_
  intro s2 x3 x4 x5 x6 Is2 Fs2 hs2
  have b7 : (0 : Int) ≤ iI s2 67 ∧ iI s2 67 ≤ 12 := Is2.1 67
  refine z_aload_n X (x := A 163) (show cdA 2 148 = some (.aload_n 0, 1, 0, 0, 0) from rfl) (List.Mem.head _) ?_
  refine s_getR X 163 (show cdA 2 149 = some (.getfield 15, 3, 0, 4, 0) from rfl) (by decide) rfl rfl ?_
  refine z_aload_n X (x := A 163) (show cdA 2 152 = some (.aload_n 0, 1, 0, 0, 0) from rfl) (List.Mem.head _) ?_
  refine z_getI X 163 (show cdA 2 153 = some (.getfield 57, 3, 0, 2, 0) from rfl) (by decide) rfl rfl ?_
  have b8 : (0 : Int) ≤ iI s2 67 ∧ iI s2 67 ≤ 12 := Is2.1 67
  refine z_load X (x := x3) (show cdA 2 156 = some (.iload 6, 2, 0, 0, 0) from rfl) (List.Mem.tail _ (List.Mem.tail _ (List.Mem.tail _ (List.Mem.tail _ (List.Mem.head _))))) ?_
  refine z_ast X 165 (show cdA 2 158 = some (.iastore, 1, 0, 0, 0) from rfl) (by decide) rfl (by first | exact b8.1 | omega) (show (iI s2 67) < 12 by first | exact oq_0ddfcfee hs2.2.2.2.2.2.2 | omega) (by decide) ?_
  obtain ⟨s9, hs9⟩ : ∃ x0, x0 = uC s2 144 ((iI s2 67)).toNat (Int32.ofInt x3) := ⟨_, rfl⟩
  rw [← hs9]
  have Is9 : Bd s9 := by rw [hs9]; exact bd_C Is2 (show ((-2147483648) : Int) ≤ x3 ∧ x3 ≤ 2147483647 by first | exact ⟨hs2.2.1.1, hs2.2.1.2⟩ | omega) ⟨by first | exact hs2.2.1.1 | omega, by first | exact hs2.2.1.2 | omega⟩
  have Fs9 := fm_C (i := ((iI s2 67)).toNat) (x := Int32.ofInt x3) Fs2 (show 144 ∈ _ by decide)
  rw [← hs9] at Fs9
  have ws9_67 : iI s9 67 = iI s2 67 := by rw [hs9]; rfl
  refine z_aload_n X (x := A 163) (show cdA 2 159 = some (.aload_n 0, 1, 0, 0, 0) from rfl) (List.Mem.head _) ?_
  refine s_getR X 163 (show cdA 2 160 = some (.getfield 18, 3, 0, 5, 0) from rfl) (by decide) rfl rfl ?_
  refine z_aload_n X (x := A 163) (show cdA 2 163 = some (.aload_n 0, 1, 0, 0, 0) from rfl) (List.Mem.head _) ?_
  refine z_getI X 163 (show cdA 2 164 = some (.getfield 57, 3, 0, 2, 0) from rfl) (by decide) rfl rfl ?_
  have b10 : (0 : Int) ≤ iI s9 67 ∧ iI s9 67 ≤ 12 := Is9.1 67
  refine z_load X (x := x4) (show cdA 2 167 = some (.iload 7, 2, 0, 0, 0) from rfl) (List.Mem.tail _ (List.Mem.tail _ (List.Mem.tail _ (List.Mem.tail _ (List.Mem.tail _ (List.Mem.head _)))))) ?_
  refine z_ast X 166 (show cdA 2 169 = some (.iastore, 1, 0, 0, 0) from rfl) (by decide) rfl (by first | exact b10.1 | omega) (show (iI s9 67) < 12 by first | exact oq_210fcd76 ws9_67 hs2.2.2.2.2.2.2 | omega) (by decide) ?_
  obtain ⟨s11, hs11⟩ : ∃ x0, x0 = uC s9 145 ((iI s9 67)).toNat (Int32.ofInt x4) := ⟨_, rfl⟩
  rw [← hs11]
  have Is11 : Bd s11 := by rw [hs11]; exact bd_C Is9 (show ((-2147483648) : Int) ≤ x4 ∧ x4 ≤ 2147483647 by first | exact ⟨hs2.2.2.1.1, hs2.2.2.1.2⟩ | omega) ⟨by first | exact hs2.2.2.1.1 | omega, by first | exact hs2.2.2.1.2 | omega⟩
  have Fs11 := fm_C (i := ((iI s9 67)).toNat) (x := Int32.ofInt x4) Fs9 (show 145 ∈ _ by decide)
  rw [← hs11] at Fs11
  have ws11_67 : iI s11 67 = iI s9 67 := by rw [hs11]; rfl
  refine z_aload_n X (x := A 163) (show cdA 2 170 = some (.aload_n 0, 1, 0, 0, 0) from rfl) (List.Mem.head _) ?_
  refine s_getR X 163 (show cdA 2 171 = some (.getfield 21, 3, 0, 6, 0) from rfl) (by decide) rfl rfl ?_
  refine z_aload_n X (x := A 163) (show cdA 2 174 = some (.aload_n 0, 1, 0, 0, 0) from rfl) (List.Mem.head _) ?_
  refine z_getI X 163 (show cdA 2 175 = some (.getfield 57, 3, 0, 2, 0) from rfl) (by decide) rfl rfl ?_
  have b12 : (0 : Int) ≤ iI s11 67 ∧ iI s11 67 ≤ 12 := Is11.1 67
  refine z_load X (x := x5) (show cdA 2 178 = some (.iload 8, 2, 0, 0, 0) from rfl) (List.Mem.tail _ (List.Mem.tail _ (List.Mem.tail _ (List.Mem.tail _ (List.Mem.tail _ (List.Mem.tail _ (List.Mem.head _))))))) ?_
  refine z_ast X 167 (show cdA 2 180 = some (.iastore, 1, 0, 0, 0) from rfl) (by decide) rfl (by first | exact b12.1 | omega) (show (iI s11 67) < 12 by first | exact oq_e2284db0 ws11_67 ws9_67 hs2.2.2.2.2.2.2 | omega) (by decide) ?_
  obtain ⟨s13, hs13⟩ : ∃ x0, x0 = uC s11 146 ((iI s11 67)).toNat (Int32.ofInt x5) := ⟨_, rfl⟩
  rw [← hs13]
  have Is13 : Bd s13 := by rw [hs13]; exact bd_C Is11 (show ((-2147483648) : Int) ≤ x5 ∧ x5 ≤ 2147483647 by first | exact ⟨hs2.2.2.2.1.1, hs2.2.2.2.1.2⟩ | omega) ⟨by first | exact hs2.2.2.2.1.1 | omega, by first | exact hs2.2.2.2.1.2 | omega⟩
  have Fs13 := fm_C (i := ((iI s11 67)).toNat) (x := Int32.ofInt x5) Fs11 (show 146 ∈ _ by decide)
  rw [← hs13] at Fs13
  have ws13_67 : iI s13 67 = iI s11 67 := by rw [hs13]; rfl
  exact w_vret X.1 q hRt (ax_d X (show cdA 2 181 = some (.return_, 1, 0, 0, 0) from rfl)) (Nat.zero_le _) (Nat.zero_le _) ⟨_, rfl, Is13, Fs13, rfl, trivial⟩
set_option maxRecDepth 4000 in
theorem c0_listen_163 (G : GX l s0 D tys a0 dT) (I : Bd s) {x : Int} {aj bj : Int64} (p0 : rng x) : CT l s0 D A dT 1 (rmN 1) [.ref (A 163), .long aj, .long bj, .int (Int32.ofInt x)] s (fun o t => Bd t ∧ Fm [67, 68] [150, 143, 144, 145, 146, 147, 148, 149] s t ∧ o = .inl none ∧ (True)) := by
  refine ct_ofX G (by decide) (Nat.le_of_ble_eq_true rfl) (fun k X E ET hRt hXt q => ?_)
  show WS k 0 [(0, .ref (A 163)), (1, .long aj), (3, .long bj), (5, .int (Int32.ofInt x))] [] _ 0 0
  have F : Fm [67, 68] [150, 143, 144, 145, 146, 147, 148, 149] s s := fm_rf _ _ s
  have b1 : (0 : Int) ≤ iI s 67 ∧ iI s 67 ≤ 12 := I.1 67
  have b2 : (0 : Int) ≤ iI s 68 ∧ iI s 68 ≤ 66 := I.1 68
  have b3 : (0 : Int) ≤ iI s 43 ∧ iI s 43 ≤ 12 := I.1 43
  have b4 : (0 : Int) ≤ iI s 44 ∧ iI s 44 ≤ 66 := I.1 44
  have L42 : ∀ (n : Nat) (t : PS) (av : Int64) (bv : Int64) (c : Int), Bd t → Fm [67, 68] [150, 143, 144, 145, 146, 147, 148, 149] s t → (0 ≤ c ∧ c ≤ 12 ∧ iI t 67 ≤ c) → (12 - c : Int).toNat < n → (∀ (t' : PS) (c' : Int), Bd t' → Fm [67, 68] [150, 143, 144, 145, 146, 147, 148, 149] s t' → (0 ≤ c' ∧ c' ≤ 12 ∧ iI t' 67 ≤ c') → WS k 125 [(0, .ref (A 163)), (1, .long av), (3, .long bv), (6, .int (Int32.ofInt c'))] [] (Wd A dT t') 0 0) → WS k 42 [(0, .ref (A 163)), (1, .long av), (3, .long bv), (6, .int (Int32.ofInt c))] [] (Wd A dT t) 0 0 := by
    intro n
    induction n with
    | zero =>
      intro t av bv c I F hi hm kx
      exact absurd hm (Nat.not_lt_zero _)
    | succ n ih =>
      intro t av bv c I F hi hm kx
      have b1001 : (0 : Int) ≤ iI t 67 ∧ iI t 67 ≤ 12 := I.1 67
      have b1002 : (0 : Int) ≤ iI t 68 ∧ iI t 68 ≤ 66 := I.1 68
      have b1003 : (0 : Int) ≤ iI t 43 ∧ iI t 43 ≤ 12 := I.1 43
      have b1004 : (0 : Int) ≤ iI t 44 ∧ iI t 44 ≤ 66 := I.1 44
      refine z_load X (x := c) (show cdA 1 42 = some (.iload 6, 2, 0, 0, 0) from rfl) (List.Mem.tail _ (List.Mem.tail _ (List.Mem.tail _ (List.Mem.head _)))) ?_
      refine z_aload_n X (x := A 163) (show cdA 1 44 = some (.aload_n 0, 1, 0, 0, 0) from rfl) (List.Mem.head _) ?_
      refine s_getR X 163 (show cdA 1 45 = some (.getfield 43, 3, 0, 0, 0) from rfl) (by decide) rfl rfl ?_
      refine z_getI X 68 (show cdA 1 48 = some (.getfield 61, 3, 9, 0, 0) from rfl) (by decide) rfl rfl ?_
      have b1005 : (0 : Int) ≤ iI t 43 ∧ iI t 43 ≤ 12 := I.1 43
      refine z_icmp_ge X (t := 125) (show cdA 1 51 = some (.if_icmp .ge 74, 3, 3, 0, 0) from rfl) (by decide) ⟨by first | exact oq_fa4e5087 hi.1 | omega, by first | exact oq_78843a64 hi.2.1 | omega⟩ (rng_to _) (fun g1006 => ?_) (fun g1006 => ?_)
      ·
        refine WS_lv (lv := [(0, .ref (A 163)), (1, .long av), (3, .long bv), (6, .int (Int32.ofInt c))]) (List.forall_mem_cons.mpr ⟨(List.Mem.head _), (List.forall_mem_cons.mpr ⟨(List.Mem.tail _ (List.Mem.head _)), (List.forall_mem_cons.mpr ⟨(List.Mem.tail _ (List.Mem.tail _ (List.Mem.head _))), (List.forall_mem_cons.mpr ⟨(List.Mem.tail _ (List.Mem.tail _ (List.Mem.tail _ (List.Mem.head _)))), (fun q h => absurd h List.not_mem_nil)⟩)⟩)⟩)⟩) ?_
        exact kx _ c I F (by first | exact ⟨hi.1, hi.2.1, hi.2.2⟩ | omega)
      ·
        refine z_aload_n X (x := A 163) (show cdA 1 54 = some (.aload_n 0, 1, 0, 0, 0) from rfl) (List.Mem.head _) ?_
        refine s_getR X 163 (show cdA 1 55 = some (.getfield 43, 3, 0, 0, 0) from rfl) (by decide) rfl rfl ?_
        refine s_getR X 68 (show cdA 1 58 = some (.getfield 64, 3, 9, 3, 0) from rfl) (by decide) rfl rfl ?_
        refine z_load X (x := c) (show cdA 1 61 = some (.iload 6, 2, 0, 0, 0) from rfl) (List.Mem.tail _ (List.Mem.tail _ (List.Mem.tail _ (List.Mem.head _)))) ?_
        refine z_const X (show cdA 1 63 = some (.iconst 2, 1, 0, 0, 0) from rfl) ?_
        refine z_mul X (show cdA 1 64 = some (.imul, 1, 0, 0, 0) from rfl) ?_
        refine z_lald X 71 (show cdA 1 65 = some (.laload, 1, 0, 0, 0) from rfl) (by decide) rfl (by first | exact oq_cfc6ac54 hi.1 | omega) (show (c * 2) < 24 by first | exact oq_e062d2c8 g1006 b1005.2 | omega) (by decide) (fun j1007 => ?_)
        refine w_lload_n X.1 (ax_d X (show cdA 1 66 = some (.lload_n 1, 1, 0, 0, 0) from rfl)) (x := av) (List.Mem.tail _ (List.Mem.head _)) ?_
        refine w_land X.1 (ax_d X (show cdA 1 67 = some (.land, 1, 0, 0, 0) from rfl)) ?_
        refine z_anyJ (fun j1008 => ?_)
        refine z_aload_n X (x := A 163) (show cdA 1 68 = some (.aload_n 0, 1, 0, 0, 0) from rfl) (List.Mem.head _) ?_
        refine s_getR X 163 (show cdA 1 69 = some (.getfield 43, 3, 0, 0, 0) from rfl) (by decide) rfl rfl ?_
        refine s_getR X 68 (show cdA 1 72 = some (.getfield 64, 3, 9, 3, 0) from rfl) (by decide) rfl rfl ?_
        refine z_load X (x := c) (show cdA 1 75 = some (.iload 6, 2, 0, 0, 0) from rfl) (List.Mem.tail _ (List.Mem.tail _ (List.Mem.tail _ (List.Mem.head _)))) ?_
        refine z_const X (show cdA 1 77 = some (.iconst 2, 1, 0, 0, 0) from rfl) ?_
        refine z_mul X (show cdA 1 78 = some (.imul, 1, 0, 0, 0) from rfl) ?_
        refine z_const X (show cdA 1 79 = some (.iconst 1, 1, 0, 0, 0) from rfl) ?_
        refine z_add X (show cdA 1 80 = some (.iadd, 1, 0, 0, 0) from rfl) ?_
        refine z_lald X 71 (show cdA 1 81 = some (.laload, 1, 0, 0, 0) from rfl) (by decide) rfl (by first | exact oq_8a3e0277 hi.1 | omega) (show ((c * 2) + 1) < 24 by first | exact oq_0edc0603 g1006 b1005.2 | omega) (by decide) (fun j1009 => ?_)
        refine w_lload_n X.1 (ax_d X (show cdA 1 82 = some (.lload_n 3, 1, 0, 0, 0) from rfl)) (x := bv) (List.Mem.tail _ (List.Mem.tail _ (List.Mem.head _))) ?_
        refine w_land X.1 (ax_d X (show cdA 1 83 = some (.land, 1, 0, 0, 0) from rfl)) ?_
        refine z_anyJ (fun j1010 => ?_)
        refine w_lor X.1 (ax_d X (show cdA 1 84 = some (.lor, 1, 0, 0, 0) from rfl)) ?_
        refine z_anyJ (fun j1011 => ?_)
        refine w_lconst X.1 (ax_d X (show cdA 1 85 = some (.lconst 0, 1, 0, 0, 0) from rfl)) rfl ?_
        refine z_anyJ (fun j1012 => ?_)
        refine w_lcmp X.1 (ax_d X (show cdA 1 86 = some (.lcmp, 1, 0, 0, 0) from rfl)) ?_
        refine z_any (fun y1013 hy1013 => ?_)
        refine z_if_eq X (t := 119) (show cdA 1 87 = some (.ifCond .eq 32, 3, 0, 0, 0) from rfl) (by decide) hy1013 (fun g1014 => ?_) (fun g1014 => ?_)
        ·
          refine z_inc X (x := c) (lv' := [(6, .int (Int32.ofInt (c + 1))), (0, .ref (A 163)), (1, .long av), (3, .long bv)]) (show cdA 1 119 = some (.iinc 6 1, 3, 0, 0, 0) from rfl) (by decide) (List.Mem.tail _ (List.Mem.tail _ (List.Mem.tail _ (List.Mem.head _)))) (fun _ h => h) ?_
          refine z_goto X (t := 42) (show cdA 1 122 = some (.goto (-80), 3, 0, 0, 0) from rfl) (by decide) ?_
          refine WS_lv (lv := [(0, .ref (A 163)), (1, .long av), (3, .long bv), (6, .int (Int32.ofInt (c + 1)))]) (List.forall_mem_cons.mpr ⟨(List.Mem.tail _ (List.Mem.head _)), (List.forall_mem_cons.mpr ⟨(List.Mem.tail _ (List.Mem.tail _ (List.Mem.head _))), (List.forall_mem_cons.mpr ⟨(List.Mem.tail _ (List.Mem.tail _ (List.Mem.tail _ (List.Mem.head _)))), (List.forall_mem_cons.mpr ⟨(List.Mem.head _), (fun q h => absurd h List.not_mem_nil)⟩)⟩)⟩)⟩) ?_
          exact ih _ av bv (c + 1) I F (by first | exact ⟨oq_54f49eb5 hi.1, oq_4dae995e g1006 b1005.2, oq_03182e9e hi.2.2⟩ | omega) (by first | exact qk_me hm (by decide) (oq_b575e8c1 g1006 b1005.2) | omega) kx
        ·
          refine z_aload_n X (x := A 163) (show cdA 1 90 = some (.aload_n 0, 1, 0, 0, 0) from rfl) (List.Mem.head _) ?_
          refine s_getR X 163 (show cdA 1 91 = some (.getfield 9, 3, 0, 3, 0) from rfl) (by decide) rfl rfl ?_
          refine z_aload_n X (x := A 163) (show cdA 1 94 = some (.aload_n 0, 1, 0, 0, 0) from rfl) (List.Mem.head _) ?_
          refine z_getI X 163 (show cdA 1 95 = some (.getfield 57, 3, 0, 2, 0) from rfl) (by decide) rfl rfl ?_
          have b1015 : (0 : Int) ≤ iI t 67 ∧ iI t 67 ≤ 12 := I.1 67
          refine z_load X (x := c) (show cdA 1 98 = some (.iload 6, 2, 0, 0, 0) from rfl) (List.Mem.tail _ (List.Mem.tail _ (List.Mem.tail _ (List.Mem.head _)))) ?_
          refine z_ast X 164 (show cdA 1 100 = some (.iastore, 1, 0, 0, 0) from rfl) (by decide) rfl (by first | exact b1015.1 | omega) (show (iI t 67) < 12 by first | exact oq_79196c7f hi.2.2 g1006 b1005.2 | omega) (by decide) ?_
          obtain ⟨s1016, hs1016⟩ : ∃ x0, x0 = uC t 143 ((iI t 67)).toNat (Int32.ofInt c) := ⟨_, rfl⟩
          rw [← hs1016]
          have Is1016 : Bd s1016 := by rw [hs1016]; exact bd_C I (show (0 : Int) ≤ c ∧ c ≤ 11 by first | exact ⟨hi.1, oq_e4d7f3c5 g1006 b1005.2⟩ | omega) ⟨by first | exact oq_fa4e5087 hi.1 | omega, by first | exact oq_78843a64 hi.2.1 | omega⟩
          have Fs1016 := fm_C (i := ((iI t 67)).toNat) (x := Int32.ofInt c) F (show 143 ∈ _ by decide)
          rw [← hs1016] at Fs1016
          have ws1016_67 : iI s1016 67 = iI t 67 := by rw [hs1016]; rfl
          have ws1016_68 : iI s1016 68 = iI t 68 := by rw [hs1016]; rfl
          have ws1016_43 : iI s1016 43 = iI t 43 := by rw [hs1016]; rfl
          have ws1016_44 : iI s1016 44 = iI t 44 := by rw [hs1016]; rfl
          refine z_aload_n X (x := A 163) (show cdA 1 101 = some (.aload_n 0, 1, 0, 0, 0) from rfl) (List.Mem.head _) ?_
          refine z_load X (x := c) (show cdA 1 102 = some (.iload 6, 2, 0, 0, 0) from rfl) (List.Mem.tail _ (List.Mem.tail _ (List.Mem.tail _ (List.Mem.head _)))) ?_
          refine w_lload_n X.1 (ax_d X (show cdA 1 104 = some (.lload_n 1, 1, 0, 0, 0) from rfl)) (x := av) (List.Mem.tail _ (List.Mem.head _)) ?_
          refine w_lload_n X.1 (ax_d X (show cdA 1 105 = some (.lload_n 3, 1, 0, 0, 0) from rfl)) (x := bv) (List.Mem.tail _ (List.Mem.tail _ (List.Mem.head _))) ?_
          refine z_callV X 163 (rm := rmN 2) (As := [.int (Int32.ofInt c), .long av, .long bv]) (st := []) (show cdA 1 106 = some (.invokevirtual 68, 3, 2, 0, 0) from rfl) rfl (by decide) rfl (by rw [E.1, E.2.1, E.2.2.1]; exact c0_followSteps_163 G Is1016 (by first | exact ⟨hi.1, oq_e4d7f3c5 g1006 b1005.2⟩ | omega) (by first | exact oq_2f168143 ws1016_67 hi.2.2 g1006 b1005.2 | omega)) ⟨by rw [E.2.2.2]; exact (show (rmN 2).frames + 1 ≤ (rmN 1).frames by decide), by rw [E.2.2.2]; exact (show 8 + (mNL (miB 2) + 11) + (rmN 2).locals ≤ (rmN 1).locals by decide), by rw [E.2.2.2]; exact (show 0 + (rmN 2).cells ≤ (rmN 1).cells by decide), by rw [E.2.2.2]; exact (show 0 + (rmN 2).slots ≤ (rmN 1).slots by decide)⟩ (Nat.le_of_ble_eq_true rfl) (fun vv s1017 hq => ?_) (fun ee s1017 hq => ?_)
          rotate_left
          · obtain ⟨Is1017, Fs1017, hv, hps1017⟩ := hq; cases hv
          obtain ⟨Is1017, Fs1017, hv, hps1017⟩ := hq
          cases hv
          have Gs1017 := fm_ts Fs1016 Fs1017 (by decide) (by decide)
          have ws1017_67 : iI s1017 67 = iI s1016 67 := fm_i Fs1017 (by decide)
          have ws1017_68 : iI s1017 68 = iI s1016 68 := fm_i Fs1017 (by decide)
          have ws1017_43 : iI s1017 43 = iI s1016 43 := fm_i Fs1017 (by decide)
          have ws1017_44 : iI s1017 44 = iI s1016 44 := fm_i Fs1017 (by decide)
          show WS k 109 [(0, .ref (A 163)), (1, .long av), (3, .long bv), (6, .int (Int32.ofInt c))] [] (Wd A dT s1017) 0 0
          refine z_aload_n X (x := A 163) (show cdA 1 109 = some (.aload_n 0, 1, 0, 0, 0) from rfl) (List.Mem.head _) ?_
          refine w_dup X.1 (ax_d X (show cdA 1 110 = some (.dup, 1, 0, 0, 0) from rfl)) rfl ?_
          refine z_getI X 163 (show cdA 1 111 = some (.getfield 57, 3, 0, 2, 0) from rfl) (by decide) rfl rfl ?_
          have b1019 : (0 : Int) ≤ iI s1017 67 ∧ iI s1017 67 ≤ 12 := Is1017.1 67
          refine z_const X (show cdA 1 114 = some (.iconst 1, 1, 0, 0, 0) from rfl) ?_
          refine z_add X (show cdA 1 115 = some (.iadd, 1, 0, 0, 0) from rfl) ?_
          refine s_putI X 163 (show cdA 1 116 = some (.putfield 57, 3, 0, 2, 0) from rfl) (by decide) rfl rfl (by decide) rfl rfl rfl ?_
          obtain ⟨s1020, hs1020⟩ : ∃ x0, x0 = uI s1017 67 (Int32.ofInt ((iI s1017 67) + 1)) := ⟨_, rfl⟩
          rw [← hs1020]
          have Is1020 : Bd s1020 := by rw [hs1020]; exact bd_I Is1017 (show (0 : Int) ≤ ((iI s1017 67) + 1) ∧ ((iI s1017 67) + 1) ≤ 12 by first | exact ⟨oq_54f49eb5 b1019.1, oq_1fea0193 ws1017_67 ws1016_67 hi.2.2 g1006 b1005.2⟩ | omega) ⟨by first | exact oq_74de1e16 b1019.1 | omega, by first | exact oq_76a8a5b7 b1019.2 | omega⟩
          have Fs1020 := fm_I (x := Int32.ofInt ((iI s1017 67) + 1)) Gs1017 (show 67 ∈ _ by decide)
          rw [← hs1020] at Fs1020
          have vs1020 : iI s1020 67 = ((iI s1017 67) + 1) := by rw [hs1020]; exact iI_u ⟨by first | exact oq_74de1e16 b1019.1 | omega, by first | exact oq_76a8a5b7 b1019.2 | omega⟩
          have ws1020_68 : iI s1020 68 = iI s1017 68 := by rw [hs1020]; rfl
          have ws1020_43 : iI s1020 43 = iI s1017 43 := by rw [hs1020]; rfl
          have ws1020_44 : iI s1020 44 = iI s1017 44 := by rw [hs1020]; rfl
          refine z_inc X (x := c) (lv' := [(6, .int (Int32.ofInt (c + 1))), (0, .ref (A 163)), (1, .long av), (3, .long bv)]) (show cdA 1 119 = some (.iinc 6 1, 3, 0, 0, 0) from rfl) (by decide) (List.Mem.tail _ (List.Mem.tail _ (List.Mem.tail _ (List.Mem.head _)))) (fun _ h => h) ?_
          refine z_goto X (t := 42) (show cdA 1 122 = some (.goto (-80), 3, 0, 0, 0) from rfl) (by decide) ?_
          refine WS_lv (lv := [(0, .ref (A 163)), (1, .long av), (3, .long bv), (6, .int (Int32.ofInt (c + 1)))]) (List.forall_mem_cons.mpr ⟨(List.Mem.tail _ (List.Mem.head _)), (List.forall_mem_cons.mpr ⟨(List.Mem.tail _ (List.Mem.tail _ (List.Mem.head _))), (List.forall_mem_cons.mpr ⟨(List.Mem.tail _ (List.Mem.tail _ (List.Mem.tail _ (List.Mem.head _)))), (List.forall_mem_cons.mpr ⟨(List.Mem.head _), (fun q h => absurd h List.not_mem_nil)⟩)⟩)⟩)⟩) ?_
          exact ih _ av bv (c + 1) Is1020 Fs1020 (by first | exact ⟨oq_54f49eb5 hi.1, oq_4dae995e g1006 b1005.2, oq_ecb13324 vs1020 hi.2.2 ws1017_67 ws1016_67⟩ | omega) (by first | exact qk_me hm (by decide) (oq_b575e8c1 g1006 b1005.2) | omega) kx
  have L133 : ∀ (n : Nat) (t : PS) (av : Int64) (bv : Int64) (c : Int), Bd t → Fm [67, 68] [150, 143, 144, 145, 146, 147, 148, 149] s t → (0 ≤ c ∧ c ≤ 66 ∧ iI t 68 ≤ c) → (66 - c : Int).toNat < n → (∀ (t' : PS) (c' : Int), Bd t' → Fm [67, 68] [150, 143, 144, 145, 146, 147, 148, 149] s t' → (0 ≤ c' ∧ c' ≤ 66 ∧ iI t' 68 ≤ c') → WS k 260 [(0, .ref (A 163)), (1, .long av), (3, .long bv), (6, .int (Int32.ofInt c'))] [] (Wd A dT t') 0 0) → WS k 133 [(0, .ref (A 163)), (1, .long av), (3, .long bv), (6, .int (Int32.ofInt c))] [] (Wd A dT t) 0 0 := by
    intro n
    induction n with
    | zero =>
      intro t av bv c I F hi hm kx
      exact absurd hm (Nat.not_lt_zero _)
    | succ n ih =>
      intro t av bv c I F hi hm kx
      have b2001 : (0 : Int) ≤ iI t 67 ∧ iI t 67 ≤ 12 := I.1 67
      have b2002 : (0 : Int) ≤ iI t 68 ∧ iI t 68 ≤ 66 := I.1 68
      have b2003 : (0 : Int) ≤ iI t 43 ∧ iI t 43 ≤ 12 := I.1 43
      have b2004 : (0 : Int) ≤ iI t 44 ∧ iI t 44 ≤ 66 := I.1 44
      refine z_load X (x := c) (show cdA 1 133 = some (.iload 6, 2, 0, 0, 0) from rfl) (List.Mem.tail _ (List.Mem.tail _ (List.Mem.tail _ (List.Mem.head _)))) ?_
      refine z_aload_n X (x := A 163) (show cdA 1 135 = some (.aload_n 0, 1, 0, 0, 0) from rfl) (List.Mem.head _) ?_
      refine s_getR X 163 (show cdA 1 136 = some (.getfield 43, 3, 0, 0, 0) from rfl) (by decide) rfl rfl ?_
      refine z_getI X 68 (show cdA 1 139 = some (.getfield 75, 3, 9, 8, 0) from rfl) (by decide) rfl rfl ?_
      have b2005 : (0 : Int) ≤ iI t 44 ∧ iI t 44 ≤ 66 := I.1 44
      refine z_icmp_ge X (t := 260) (show cdA 1 142 = some (.if_icmp .ge 118, 3, 3, 0, 0) from rfl) (by decide) ⟨by first | exact oq_fa4e5087 hi.1 | omega, by first | exact oq_64f2e926 hi.2.1 | omega⟩ (rng_to _) (fun g2006 => ?_) (fun g2006 => ?_)
      ·
        refine WS_lv (lv := [(0, .ref (A 163)), (1, .long av), (3, .long bv), (6, .int (Int32.ofInt c))]) (List.forall_mem_cons.mpr ⟨(List.Mem.head _), (List.forall_mem_cons.mpr ⟨(List.Mem.tail _ (List.Mem.head _)), (List.forall_mem_cons.mpr ⟨(List.Mem.tail _ (List.Mem.tail _ (List.Mem.head _))), (List.forall_mem_cons.mpr ⟨(List.Mem.tail _ (List.Mem.tail _ (List.Mem.tail _ (List.Mem.head _)))), (fun q h => absurd h List.not_mem_nil)⟩)⟩)⟩)⟩) ?_
        exact kx _ c I F (by first | exact ⟨hi.1, hi.2.1, hi.2.2⟩ | omega)
      ·
        refine z_aload_n X (x := A 163) (show cdA 1 145 = some (.aload_n 0, 1, 0, 0, 0) from rfl) (List.Mem.head _) ?_
        refine s_getR X 163 (show cdA 1 146 = some (.getfield 43, 3, 0, 0, 0) from rfl) (by decide) rfl rfl ?_
        refine s_getR X 68 (show cdA 1 149 = some (.getfield 78, 3, 9, 7, 0) from rfl) (by decide) rfl rfl ?_
        refine z_load X (x := c) (show cdA 1 152 = some (.iload 6, 2, 0, 0, 0) from rfl) (List.Mem.tail _ (List.Mem.tail _ (List.Mem.tail _ (List.Mem.head _)))) ?_
        refine z_const X (show cdA 1 154 = some (.iconst 2, 1, 0, 0, 0) from rfl) ?_
        refine z_mul X (show cdA 1 155 = some (.imul, 1, 0, 0, 0) from rfl) ?_
        refine z_lald X 75 (show cdA 1 156 = some (.laload, 1, 0, 0, 0) from rfl) (by decide) rfl (by first | exact oq_cfc6ac54 hi.1 | omega) (show (c * 2) < 132 by first | exact oq_ff78435a g2006 b2005.2 | omega) (by decide) (fun j2007 => ?_)
        refine w_lload_n X.1 (ax_d X (show cdA 1 157 = some (.lload_n 1, 1, 0, 0, 0) from rfl)) (x := av) (List.Mem.tail _ (List.Mem.head _)) ?_
        refine w_land X.1 (ax_d X (show cdA 1 158 = some (.land, 1, 0, 0, 0) from rfl)) ?_
        refine z_anyJ (fun j2008 => ?_)
        refine z_callS X (rm := rmN 298) (As := [.long j2008]) (st := []) (show cdA 1 159 = some (.invokestatic 51, 3, 298, 1, 0) from rfl) rfl (by rw [E.1, E.2.1, E.2.2.1]; exact j_bitL G I ) ⟨by rw [E.2.2.2]; exact (show (rmN 298).frames + 1 ≤ (rmN 1).frames by decide), by rw [E.2.2.2]; exact (show 8 + (mNL (miB 298) + 11) + (rmN 298).locals ≤ (rmN 1).locals by decide), by rw [E.2.2.2]; exact (show 0 + (rmN 298).cells ≤ (rmN 1).cells by decide), by rw [E.2.2.2]; exact (show 0 + (rmN 298).slots ≤ (rmN 1).slots by decide)⟩ (Nat.le_of_ble_eq_true rfl) (fun vv s2009 hq => ?_) (fun ee s2009 hq => ?_)
        rotate_left
        · obtain ⟨Is2009, Fs2009, e2010, hv, hrs2009, hps2009⟩ := hq; cases hv
        obtain ⟨Is2009, Fs2009, e2010, hv, hrs2009, hps2009⟩ := hq
        cases hv
        have Gs2009 := fm_ts F Fs2009 (by decide) (by decide)
        have ws2009_67 : iI s2009 67 = iI t 67 := fm_i Fs2009 (by decide)
        have ws2009_68 : iI s2009 68 = iI t 68 := fm_i Fs2009 (by decide)
        have ws2009_43 : iI s2009 43 = iI t 43 := fm_i Fs2009 (by decide)
        have ws2009_44 : iI s2009 44 = iI t 44 := fm_i Fs2009 (by decide)
        show WS k 162 [(0, .ref (A 163)), (1, .long av), (3, .long bv), (6, .int (Int32.ofInt c))] [.int (Int32.ofInt e2010)] (Wd A dT s2009) 0 0
        refine z_aload_n X (x := A 163) (show cdA 1 162 = some (.aload_n 0, 1, 0, 0, 0) from rfl) (List.Mem.head _) ?_
        refine s_getR X 163 (show cdA 1 163 = some (.getfield 43, 3, 0, 0, 0) from rfl) (by decide) rfl rfl ?_
        refine s_getR X 68 (show cdA 1 166 = some (.getfield 78, 3, 9, 7, 0) from rfl) (by decide) rfl rfl ?_
        refine z_load X (x := c) (show cdA 1 169 = some (.iload 6, 2, 0, 0, 0) from rfl) (List.Mem.tail _ (List.Mem.tail _ (List.Mem.tail _ (List.Mem.head _)))) ?_
        refine z_const X (show cdA 1 171 = some (.iconst 2, 1, 0, 0, 0) from rfl) ?_
        refine z_mul X (show cdA 1 172 = some (.imul, 1, 0, 0, 0) from rfl) ?_
        refine z_const X (show cdA 1 173 = some (.iconst 1, 1, 0, 0, 0) from rfl) ?_
        refine z_add X (show cdA 1 174 = some (.iadd, 1, 0, 0, 0) from rfl) ?_
        refine z_lald X 75 (show cdA 1 175 = some (.laload, 1, 0, 0, 0) from rfl) (by decide) rfl (by first | exact oq_8a3e0277 hi.1 | omega) (show ((c * 2) + 1) < 132 by first | exact oq_643e2065 g2006 b2005.2 | omega) (by decide) (fun j2011 => ?_)
        refine w_lload_n X.1 (ax_d X (show cdA 1 176 = some (.lload_n 3, 1, 0, 0, 0) from rfl)) (x := bv) (List.Mem.tail _ (List.Mem.tail _ (List.Mem.head _))) ?_
        refine w_land X.1 (ax_d X (show cdA 1 177 = some (.land, 1, 0, 0, 0) from rfl)) ?_
        refine z_anyJ (fun j2012 => ?_)
        refine z_callS X (rm := rmN 298) (As := [.long j2012]) (st := [.int (Int32.ofInt e2010)]) (show cdA 1 178 = some (.invokestatic 51, 3, 298, 1, 0) from rfl) rfl (by rw [E.1, E.2.1, E.2.2.1]; exact j_bitL G Is2009 ) ⟨by rw [E.2.2.2]; exact (show (rmN 298).frames + 1 ≤ (rmN 1).frames by decide), by rw [E.2.2.2]; exact (show 8 + (mNL (miB 298) + 11) + (rmN 298).locals ≤ (rmN 1).locals by decide), by rw [E.2.2.2]; exact (show 0 + (rmN 298).cells ≤ (rmN 1).cells by decide), by rw [E.2.2.2]; exact (show 0 + (rmN 298).slots ≤ (rmN 1).slots by decide)⟩ (Nat.le_of_ble_eq_true rfl) (fun vv s2013 hq => ?_) (fun ee s2013 hq => ?_)
        rotate_left
        · obtain ⟨Is2013, Fs2013, e2014, hv, hrs2013, hps2013⟩ := hq; cases hv
        obtain ⟨Is2013, Fs2013, e2014, hv, hrs2013, hps2013⟩ := hq
        cases hv
        have Gs2013 := fm_ts Gs2009 Fs2013 (by decide) (by decide)
        have ws2013_67 : iI s2013 67 = iI s2009 67 := fm_i Fs2013 (by decide)
        have ws2013_68 : iI s2013 68 = iI s2009 68 := fm_i Fs2013 (by decide)
        have ws2013_43 : iI s2013 43 = iI s2009 43 := fm_i Fs2013 (by decide)
        have ws2013_44 : iI s2013 44 = iI s2009 44 := fm_i Fs2013 (by decide)
        show WS k 181 [(0, .ref (A 163)), (1, .long av), (3, .long bv), (6, .int (Int32.ofInt c))] [.int (Int32.ofInt e2014), .int (Int32.ofInt e2010)] (Wd A dT s2013) 0 0
        refine z_add X (show cdA 1 181 = some (.iadd, 1, 0, 0, 0) from rfl) ?_
        refine z_any (fun y2015 hy2015 => ?_)
        refine z_store X (lv' := [(7, .int (Int32.ofInt y2015)), (0, .ref (A 163)), (1, .long av), (3, .long bv), (6, .int (Int32.ofInt c))]) (show cdA 1 182 = some (.istore 7, 2, 0, 0, 0) from rfl) (by decide) (fun _ h => h) ?_
        refine z_load X (x := y2015) (show cdA 1 184 = some (.iload 7, 2, 0, 0, 0) from rfl) (List.Mem.head _) ?_
        refine z_if_le X (t := 254) (show cdA 1 186 = some (.ifCond .le 68, 3, 5, 0, 0) from rfl) (by decide) hy2015 (fun g2016 => ?_) (fun g2016 => ?_)
        ·
          refine z_inc X (x := c) (lv' := [(6, .int (Int32.ofInt (c + 1))), (7, .int (Int32.ofInt y2015)), (0, .ref (A 163)), (1, .long av), (3, .long bv)]) (show cdA 1 254 = some (.iinc 6 1, 3, 0, 0, 0) from rfl) (by decide) (List.Mem.tail _ (List.Mem.tail _ (List.Mem.tail _ (List.Mem.tail _ (List.Mem.head _))))) (fun _ h => h) ?_
          refine z_goto X (t := 133) (show cdA 1 257 = some (.goto (-124), 3, 0, 0, 0) from rfl) (by decide) ?_
          refine WS_lv (lv := [(0, .ref (A 163)), (1, .long av), (3, .long bv), (6, .int (Int32.ofInt (c + 1)))]) (List.forall_mem_cons.mpr ⟨(List.Mem.tail _ (List.Mem.tail _ (List.Mem.head _))), (List.forall_mem_cons.mpr ⟨(List.Mem.tail _ (List.Mem.tail _ (List.Mem.tail _ (List.Mem.head _)))), (List.forall_mem_cons.mpr ⟨(List.Mem.tail _ (List.Mem.tail _ (List.Mem.tail _ (List.Mem.tail _ (List.Mem.head _))))), (List.forall_mem_cons.mpr ⟨(List.Mem.head _), (fun q h => absurd h List.not_mem_nil)⟩)⟩)⟩)⟩) ?_
          exact ih _ av bv (c + 1) Is2013 Gs2013 (by first | exact ⟨oq_54f49eb5 hi.1, oq_319a18a4 g2006 b2005.2, oq_2e1f687c ws2013_68 hi.2.2 ws2009_68⟩ | omega) (by first | exact qk_me hm (by decide) (oq_dd0e9829 g2006 b2005.2) | omega) kx
        ·
          refine z_aload_n X (x := A 163) (show cdA 1 189 = some (.aload_n 0, 1, 0, 0, 0) from rfl) (List.Mem.tail _ (List.Mem.head _)) ?_
          refine s_getR X 163 (show cdA 1 190 = some (.getfield 26, 3, 0, 8, 0) from rfl) (by decide) rfl rfl ?_
          refine z_aload_n X (x := A 163) (show cdA 1 193 = some (.aload_n 0, 1, 0, 0, 0) from rfl) (List.Mem.tail _ (List.Mem.head _)) ?_
          refine z_getI X 163 (show cdA 1 194 = some (.getfield 72, 3, 0, 7, 0) from rfl) (by decide) rfl rfl ?_
          have b2017 : (0 : Int) ≤ iI s2013 68 ∧ iI s2013 68 ≤ 66 := Is2013.1 68
          refine z_aload_n X (x := A 163) (show cdA 1 197 = some (.aload_n 0, 1, 0, 0, 0) from rfl) (List.Mem.tail _ (List.Mem.head _)) ?_
          refine s_getR X 163 (show cdA 1 198 = some (.getfield 43, 3, 0, 0, 0) from rfl) (by decide) rfl rfl ?_
          refine s_getR X 68 (show cdA 1 201 = some (.getfield 81, 3, 9, 6, 0) from rfl) (by decide) rfl rfl ?_
          refine z_load X (x := c) (show cdA 1 204 = some (.iload 6, 2, 0, 0, 0) from rfl) (List.Mem.tail _ (List.Mem.tail _ (List.Mem.tail _ (List.Mem.tail _ (List.Mem.head _))))) ?_
          refine z_ald X 74 (show cdA 1 206 = some (.iaload, 1, 0, 0, 0) from rfl) (by decide) rfl (by first | exact hi.1 | omega) (show c < 66 by first | exact oq_256e4529 g2006 b2005.2 | omega) (by decide) ?_
          have b2018 : (0 : Int) ≤ iC s2013 62 (c).toNat ∧ iC s2013 62 (c).toNat ≤ 143 := Is2013.2 62 _ (show (c).toNat < 66 by first | exact oq_d7ff7873 g2006 b2005.2 | omega)
          refine z_bipush X (show cdA 1 207 = some (.bipush 12, 2, 0, 0, 12) from rfl) ?_
          refine z_quot X (show cdA 1 209 = some (.idiv, 1, 0, 0, 0) from rfl) (by first | exact b2018.1 | omega) (rng_to _) (by decide) (by decide) ?_
          refine z_ast X 168 (show cdA 1 210 = some (.iastore, 1, 0, 0, 0) from rfl) (by decide) rfl (by first | exact b2017.1 | omega) (show (iI s2013 68) < 66 by first | exact oq_141bb310 ws2013_68 ws2009_68 hi.2.2 g2006 b2005.2 | omega) (by decide) ?_
          obtain ⟨s2019, hs2019⟩ : ∃ x0, x0 = uC s2013 147 ((iI s2013 68)).toNat (Int32.ofInt ((iC s2013 62 (c).toNat) / 12)) := ⟨_, rfl⟩
          rw [← hs2019]
          have Is2019 : Bd s2019 := by rw [hs2019]; exact bd_C Is2013 (show (0 : Int) ≤ ((iC s2013 62 (c).toNat) / 12) ∧ ((iC s2013 62 (c).toNat) / 12) ≤ 11 by first | exact ⟨oq_37eb78e0 b2018.1, oq_a03fe580 b2018.2⟩ | omega) ⟨by first | exact oq_e17ab641 b2018.1 | omega, by first | exact oq_c285d9d6 b2018.2 | omega⟩
          have Fs2019 := fm_C (i := ((iI s2013 68)).toNat) (x := Int32.ofInt ((iC s2013 62 (c).toNat) / 12)) Gs2013 (show 147 ∈ _ by decide)
          rw [← hs2019] at Fs2019
          have ws2019_67 : iI s2019 67 = iI s2013 67 := by rw [hs2019]; rfl
          have ws2019_68 : iI s2019 68 = iI s2013 68 := by rw [hs2019]; rfl
          have ws2019_43 : iI s2019 43 = iI s2013 43 := by rw [hs2019]; rfl
          have ws2019_44 : iI s2019 44 = iI s2013 44 := by rw [hs2019]; rfl
          refine z_aload_n X (x := A 163) (show cdA 1 211 = some (.aload_n 0, 1, 0, 0, 0) from rfl) (List.Mem.tail _ (List.Mem.head _)) ?_
          refine s_getR X 163 (show cdA 1 212 = some (.getfield 29, 3, 0, 9, 0) from rfl) (by decide) rfl rfl ?_
          refine z_aload_n X (x := A 163) (show cdA 1 215 = some (.aload_n 0, 1, 0, 0, 0) from rfl) (List.Mem.tail _ (List.Mem.head _)) ?_
          refine z_getI X 163 (show cdA 1 216 = some (.getfield 72, 3, 0, 7, 0) from rfl) (by decide) rfl rfl ?_
          have b2020 : (0 : Int) ≤ iI s2019 68 ∧ iI s2019 68 ≤ 66 := Is2019.1 68
          refine z_aload_n X (x := A 163) (show cdA 1 219 = some (.aload_n 0, 1, 0, 0, 0) from rfl) (List.Mem.tail _ (List.Mem.head _)) ?_
          refine s_getR X 163 (show cdA 1 220 = some (.getfield 43, 3, 0, 0, 0) from rfl) (by decide) rfl rfl ?_
          refine s_getR X 68 (show cdA 1 223 = some (.getfield 81, 3, 9, 6, 0) from rfl) (by decide) rfl rfl ?_
          refine z_load X (x := c) (show cdA 1 226 = some (.iload 6, 2, 0, 0, 0) from rfl) (List.Mem.tail _ (List.Mem.tail _ (List.Mem.tail _ (List.Mem.tail _ (List.Mem.head _))))) ?_
          refine z_ald X 74 (show cdA 1 228 = some (.iaload, 1, 0, 0, 0) from rfl) (by decide) rfl (by first | exact hi.1 | omega) (show c < 66 by first | exact oq_256e4529 g2006 b2005.2 | omega) (by decide) ?_
          have b2021 : (0 : Int) ≤ iC s2019 62 (c).toNat ∧ iC s2019 62 (c).toNat ≤ 143 := Is2019.2 62 _ (show (c).toNat < 66 by first | exact oq_d7ff7873 g2006 b2005.2 | omega)
          refine z_bipush X (show cdA 1 229 = some (.bipush 12, 2, 0, 0, 12) from rfl) ?_
          refine z_mod X (show cdA 1 231 = some (.irem, 1, 0, 0, 0) from rfl) (by first | exact b2021.1 | omega) (rng_to _) (by decide) (by decide) ?_
          refine z_ast X 169 (show cdA 1 232 = some (.iastore, 1, 0, 0, 0) from rfl) (by decide) rfl (by first | exact b2020.1 | omega) (show (iI s2019 68) < 66 by first | exact oq_47fd6e20 ws2019_68 ws2013_68 ws2009_68 g2006 b2005.2 hi.2.2 | omega) (by decide) ?_
          obtain ⟨s2022, hs2022⟩ : ∃ x0, x0 = uC s2019 148 ((iI s2019 68)).toNat (Int32.ofInt ((iC s2019 62 (c).toNat) % 12)) := ⟨_, rfl⟩
          rw [← hs2022]
          have Is2022 : Bd s2022 := by rw [hs2022]; exact bd_C Is2019 (show (0 : Int) ≤ ((iC s2019 62 (c).toNat) % 12) ∧ ((iC s2019 62 (c).toNat) % 12) ≤ 11 by first | exact ⟨oq_b83041cc, oq_e286272e⟩ | omega) ⟨by first | exact oq_9d26ea27 | omega, by first | exact oq_6634e3d0 | omega⟩
          have Fs2022 := fm_C (i := ((iI s2019 68)).toNat) (x := Int32.ofInt ((iC s2019 62 (c).toNat) % 12)) Fs2019 (show 148 ∈ _ by decide)
          rw [← hs2022] at Fs2022
          have ws2022_67 : iI s2022 67 = iI s2019 67 := by rw [hs2022]; rfl
          have ws2022_68 : iI s2022 68 = iI s2019 68 := by rw [hs2022]; rfl
          have ws2022_43 : iI s2022 43 = iI s2019 43 := by rw [hs2022]; rfl
          have ws2022_44 : iI s2022 44 = iI s2019 44 := by rw [hs2022]; rfl
          refine z_aload_n X (x := A 163) (show cdA 1 233 = some (.aload_n 0, 1, 0, 0, 0) from rfl) (List.Mem.tail _ (List.Mem.head _)) ?_
          refine s_getR X 163 (show cdA 1 234 = some (.getfield 32, 3, 0, 10, 0) from rfl) (by decide) rfl rfl ?_
          refine z_aload_n X (x := A 163) (show cdA 1 237 = some (.aload_n 0, 1, 0, 0, 0) from rfl) (List.Mem.tail _ (List.Mem.head _)) ?_
          refine z_getI X 163 (show cdA 1 238 = some (.getfield 72, 3, 0, 7, 0) from rfl) (by decide) rfl rfl ?_
          have b2023 : (0 : Int) ≤ iI s2022 68 ∧ iI s2022 68 ≤ 66 := Is2022.1 68
          refine z_load X (x := y2015) (show cdA 1 241 = some (.iload 7, 2, 0, 0, 0) from rfl) (List.Mem.head _) ?_
          refine z_ast X 170 (show cdA 1 243 = some (.iastore, 1, 0, 0, 0) from rfl) (by decide) rfl (by first | exact b2023.1 | omega) (show (iI s2022 68) < 66 by first | exact oq_3af0036b ws2022_68 ws2019_68 ws2013_68 ws2009_68 g2006 b2005.2 hi.2.2 | omega) (by decide) ?_
          obtain ⟨s2024, hs2024⟩ : ∃ x0, x0 = uC s2022 149 ((iI s2022 68)).toNat (Int32.ofInt y2015) := ⟨_, rfl⟩
          rw [← hs2024]
          have Is2024 : Bd s2024 := by rw [hs2024]; exact bd_C Is2022 (show ((-2147483648) : Int) ≤ y2015 ∧ y2015 ≤ 2147483647 by first | exact ⟨hy2015.1, hy2015.2⟩ | omega) hy2015
          have Fs2024 := fm_C (i := ((iI s2022 68)).toNat) (x := Int32.ofInt y2015) Fs2022 (show 149 ∈ _ by decide)
          rw [← hs2024] at Fs2024
          have ws2024_67 : iI s2024 67 = iI s2022 67 := by rw [hs2024]; rfl
          have ws2024_68 : iI s2024 68 = iI s2022 68 := by rw [hs2024]; rfl
          have ws2024_43 : iI s2024 43 = iI s2022 43 := by rw [hs2024]; rfl
          have ws2024_44 : iI s2024 44 = iI s2022 44 := by rw [hs2024]; rfl
          refine z_aload_n X (x := A 163) (show cdA 1 244 = some (.aload_n 0, 1, 0, 0, 0) from rfl) (List.Mem.tail _ (List.Mem.head _)) ?_
          refine w_dup X.1 (ax_d X (show cdA 1 245 = some (.dup, 1, 0, 0, 0) from rfl)) rfl ?_
          refine z_getI X 163 (show cdA 1 246 = some (.getfield 72, 3, 0, 7, 0) from rfl) (by decide) rfl rfl ?_
          have b2025 : (0 : Int) ≤ iI s2024 68 ∧ iI s2024 68 ≤ 66 := Is2024.1 68
          refine z_const X (show cdA 1 249 = some (.iconst 1, 1, 0, 0, 0) from rfl) ?_
          refine z_add X (show cdA 1 250 = some (.iadd, 1, 0, 0, 0) from rfl) ?_
          refine s_putI X 163 (show cdA 1 251 = some (.putfield 72, 3, 0, 7, 0) from rfl) (by decide) rfl rfl (by decide) rfl rfl rfl ?_
          obtain ⟨s2026, hs2026⟩ : ∃ x0, x0 = uI s2024 68 (Int32.ofInt ((iI s2024 68) + 1)) := ⟨_, rfl⟩
          rw [← hs2026]
          have Is2026 : Bd s2026 := by rw [hs2026]; exact bd_I Is2024 (show (0 : Int) ≤ ((iI s2024 68) + 1) ∧ ((iI s2024 68) + 1) ≤ 66 by first | exact ⟨oq_54f49eb5 b2025.1, oq_d0eb7b2e ws2024_68 ws2022_68 ws2019_68 ws2013_68 ws2009_68 g2006 b2005.2 hi.2.2⟩ | omega) ⟨by first | exact oq_74de1e16 b2025.1 | omega, by first | exact oq_d99c2177 b2025.2 | omega⟩
          have Fs2026 := fm_I (x := Int32.ofInt ((iI s2024 68) + 1)) Fs2024 (show 68 ∈ _ by decide)
          rw [← hs2026] at Fs2026
          have vs2026 : iI s2026 68 = ((iI s2024 68) + 1) := by rw [hs2026]; exact iI_u ⟨by first | exact oq_74de1e16 b2025.1 | omega, by first | exact oq_d99c2177 b2025.2 | omega⟩
          have ws2026_67 : iI s2026 67 = iI s2024 67 := by rw [hs2026]; rfl
          have ws2026_43 : iI s2026 43 = iI s2024 43 := by rw [hs2026]; rfl
          have ws2026_44 : iI s2026 44 = iI s2024 44 := by rw [hs2026]; rfl
          refine z_inc X (x := c) (lv' := [(6, .int (Int32.ofInt (c + 1))), (7, .int (Int32.ofInt y2015)), (0, .ref (A 163)), (1, .long av), (3, .long bv)]) (show cdA 1 254 = some (.iinc 6 1, 3, 0, 0, 0) from rfl) (by decide) (List.Mem.tail _ (List.Mem.tail _ (List.Mem.tail _ (List.Mem.tail _ (List.Mem.head _))))) (fun _ h => h) ?_
          refine z_goto X (t := 133) (show cdA 1 257 = some (.goto (-124), 3, 0, 0, 0) from rfl) (by decide) ?_
          refine WS_lv (lv := [(0, .ref (A 163)), (1, .long av), (3, .long bv), (6, .int (Int32.ofInt (c + 1)))]) (List.forall_mem_cons.mpr ⟨(List.Mem.tail _ (List.Mem.tail _ (List.Mem.head _))), (List.forall_mem_cons.mpr ⟨(List.Mem.tail _ (List.Mem.tail _ (List.Mem.tail _ (List.Mem.head _)))), (List.forall_mem_cons.mpr ⟨(List.Mem.tail _ (List.Mem.tail _ (List.Mem.tail _ (List.Mem.tail _ (List.Mem.head _))))), (List.forall_mem_cons.mpr ⟨(List.Mem.head _), (fun q h => absurd h List.not_mem_nil)⟩)⟩)⟩)⟩) ?_
          exact ih _ av bv (c + 1) Is2026 Fs2026 (by first | exact ⟨oq_54f49eb5 hi.1, oq_319a18a4 g2006 b2005.2, oq_6fc60775 vs2026 ws2024_68 ws2022_68 ws2019_68 ws2013_68 ws2009_68 hi.2.2⟩ | omega) (by first | exact qk_me hm (by decide) (oq_dd0e9829 g2006 b2005.2) | omega) kx
  refine z_aload_n X (x := A 163) (show cdA 1 0 = some (.aload_n 0, 1, 0, 0, 0) from rfl) (List.Mem.head _) ?_
  refine s_getR X 163 (show cdA 1 1 = some (.getfield 37, 3, 0, 11, 0) from rfl) (by decide) rfl rfl ?_
  refine z_const X (show cdA 1 4 = some (.iconst 4, 1, 0, 0, 0) from rfl) ?_
  refine w_lload_n X.1 (ax_d X (show cdA 1 5 = some (.lload_n 1, 1, 0, 0, 0) from rfl)) (x := aj) (List.Mem.tail _ (List.Mem.head _)) ?_
  refine z_callS X (rm := rmN 298) (As := [.long aj]) (st := [.int (Int32.ofInt 4), .ref (A 171)]) (show cdA 1 6 = some (.invokestatic 51, 3, 298, 1, 0) from rfl) rfl (by rw [E.1, E.2.1, E.2.2.1]; exact j_bitL G I ) ⟨by rw [E.2.2.2]; exact (show (rmN 298).frames + 1 ≤ (rmN 1).frames by decide), by rw [E.2.2.2]; exact (show 8 + (mNL (miB 298) + 11) + (rmN 298).locals ≤ (rmN 1).locals by decide), by rw [E.2.2.2]; exact (show 0 + (rmN 298).cells ≤ (rmN 1).cells by decide), by rw [E.2.2.2]; exact (show 0 + (rmN 298).slots ≤ (rmN 1).slots by decide)⟩ (Nat.le_of_ble_eq_true rfl) (fun vv s5 hq => ?_) (fun ee s5 hq => ?_)
  rotate_left
  · obtain ⟨Is5, Fs5, e6, hv, hrs5, hps5⟩ := hq; cases hv
  obtain ⟨Is5, Fs5, e6, hv, hrs5, hps5⟩ := hq
  cases hv
  have Gs5 := fm_ts F Fs5 (by decide) (by decide)
  have ws5_67 : iI s5 67 = iI s 67 := fm_i Fs5 (by decide)
  have ws5_68 : iI s5 68 = iI s 68 := fm_i Fs5 (by decide)
  have ws5_43 : iI s5 43 = iI s 43 := fm_i Fs5 (by decide)
  have ws5_44 : iI s5 44 = iI s 44 := fm_i Fs5 (by decide)
  show WS k 9 [(0, .ref (A 163)), (1, .long aj), (3, .long bj), (5, .int (Int32.ofInt x))] [.int (Int32.ofInt e6), .int (Int32.ofInt 4), .ref (A 171)] (Wd A dT s5) 0 0
  refine w_lload_n X.1 (ax_d X (show cdA 1 9 = some (.lload_n 3, 1, 0, 0, 0) from rfl)) (x := bj) (List.Mem.tail _ (List.Mem.tail _ (List.Mem.head _))) ?_
  refine z_callS X (rm := rmN 298) (As := [.long bj]) (st := [.int (Int32.ofInt e6), .int (Int32.ofInt 4), .ref (A 171)]) (show cdA 1 10 = some (.invokestatic 51, 3, 298, 1, 0) from rfl) rfl (by rw [E.1, E.2.1, E.2.2.1]; exact j_bitL G Is5 ) ⟨by rw [E.2.2.2]; exact (show (rmN 298).frames + 1 ≤ (rmN 1).frames by decide), by rw [E.2.2.2]; exact (show 8 + (mNL (miB 298) + 11) + (rmN 298).locals ≤ (rmN 1).locals by decide), by rw [E.2.2.2]; exact (show 0 + (rmN 298).cells ≤ (rmN 1).cells by decide), by rw [E.2.2.2]; exact (show 0 + (rmN 298).slots ≤ (rmN 1).slots by decide)⟩ (Nat.le_of_ble_eq_true rfl) (fun vv s7 hq => ?_) (fun ee s7 hq => ?_)
  rotate_left
  · obtain ⟨Is7, Fs7, e8, hv, hrs7, hps7⟩ := hq; cases hv
  obtain ⟨Is7, Fs7, e8, hv, hrs7, hps7⟩ := hq
  cases hv
  have Gs7 := fm_ts Gs5 Fs7 (by decide) (by decide)
  have ws7_67 : iI s7 67 = iI s5 67 := fm_i Fs7 (by decide)
  have ws7_68 : iI s7 68 = iI s5 68 := fm_i Fs7 (by decide)
  have ws7_43 : iI s7 43 = iI s5 43 := fm_i Fs7 (by decide)
  have ws7_44 : iI s7 44 = iI s5 44 := fm_i Fs7 (by decide)
  show WS k 13 [(0, .ref (A 163)), (1, .long aj), (3, .long bj), (5, .int (Int32.ofInt x))] [.int (Int32.ofInt e8), .int (Int32.ofInt e6), .int (Int32.ofInt 4), .ref (A 171)] (Wd A dT s7) 0 0
  refine z_add X (show cdA 1 13 = some (.iadd, 1, 0, 0, 0) from rfl) ?_
  refine z_any (fun y9 hy9 => ?_)
  refine z_ast X 171 (show cdA 1 14 = some (.iastore, 1, 0, 0, 0) from rfl) (by decide) rfl (by decide) (show 4 < 7 by decide) (by decide) ?_
  obtain ⟨s10, hs10⟩ : ∃ x0, x0 = uC s7 150 (4 : Int).toNat (Int32.ofInt y9) := ⟨_, rfl⟩
  rw [← hs10]
  have Is10 : Bd s10 := by rw [hs10]; exact bd_C Is7 (show ((-2147483648) : Int) ≤ y9 ∧ y9 ≤ 2147483647 by first | exact ⟨hy9.1, hy9.2⟩ | omega) hy9
  have Fs10 := fm_C (i := (4 : Int).toNat) (x := Int32.ofInt y9) Gs7 (show 150 ∈ _ by decide)
  rw [← hs10] at Fs10
  have ws10_67 : iI s10 67 = iI s7 67 := by rw [hs10]; rfl
  have ws10_68 : iI s10 68 = iI s7 68 := by rw [hs10]; rfl
  have ws10_43 : iI s10 43 = iI s7 43 := by rw [hs10]; rfl
  have ws10_44 : iI s10 44 = iI s7 44 := by rw [hs10]; rfl
  refine z_aload_n X (x := A 163) (show cdA 1 15 = some (.aload_n 0, 1, 0, 0, 0) from rfl) (List.Mem.head _) ?_
  refine s_getR X 163 (show cdA 1 16 = some (.getfield 37, 3, 0, 11, 0) from rfl) (by decide) rfl rfl ?_
  refine z_const X (show cdA 1 19 = some (.iconst 5, 1, 0, 0, 0) from rfl) ?_
  refine w_lload_n X.1 (ax_d X (show cdA 1 20 = some (.lload_n 1, 1, 0, 0, 0) from rfl)) (x := aj) (List.Mem.tail _ (List.Mem.head _)) ?_
  refine z_callS X (rm := rmN 298) (As := [.long aj]) (st := [.int (Int32.ofInt 5), .ref (A 171)]) (show cdA 1 21 = some (.invokestatic 51, 3, 298, 1, 0) from rfl) rfl (by rw [E.1, E.2.1, E.2.2.1]; exact j_bitL G Is10 ) ⟨by rw [E.2.2.2]; exact (show (rmN 298).frames + 1 ≤ (rmN 1).frames by decide), by rw [E.2.2.2]; exact (show 8 + (mNL (miB 298) + 11) + (rmN 298).locals ≤ (rmN 1).locals by decide), by rw [E.2.2.2]; exact (show 0 + (rmN 298).cells ≤ (rmN 1).cells by decide), by rw [E.2.2.2]; exact (show 0 + (rmN 298).slots ≤ (rmN 1).slots by decide)⟩ (Nat.le_of_ble_eq_true rfl) (fun vv s11 hq => ?_) (fun ee s11 hq => ?_)
  rotate_left
  · obtain ⟨Is11, Fs11, e12, hv, hrs11, hps11⟩ := hq; cases hv
  obtain ⟨Is11, Fs11, e12, hv, hrs11, hps11⟩ := hq
  cases hv
  have Gs11 := fm_ts Fs10 Fs11 (by decide) (by decide)
  have ws11_67 : iI s11 67 = iI s10 67 := fm_i Fs11 (by decide)
  have ws11_68 : iI s11 68 = iI s10 68 := fm_i Fs11 (by decide)
  have ws11_43 : iI s11 43 = iI s10 43 := fm_i Fs11 (by decide)
  have ws11_44 : iI s11 44 = iI s10 44 := fm_i Fs11 (by decide)
  show WS k 24 [(0, .ref (A 163)), (1, .long aj), (3, .long bj), (5, .int (Int32.ofInt x))] [.int (Int32.ofInt e12), .int (Int32.ofInt 5), .ref (A 171)] (Wd A dT s11) 0 0
  refine z_ast X 171 (show cdA 1 24 = some (.iastore, 1, 0, 0, 0) from rfl) (by decide) rfl (by decide) (show 5 < 7 by decide) (by decide) ?_
  obtain ⟨s13, hs13⟩ : ∃ x0, x0 = uC s11 150 (5 : Int).toNat (Int32.ofInt e12) := ⟨_, rfl⟩
  rw [← hs13]
  have Is13 : Bd s13 := by rw [hs13]; exact bd_C Is11 (show ((-2147483648) : Int) ≤ e12 ∧ e12 ≤ 2147483647 by omega) hrs11
  have Fs13 := fm_C (i := (5 : Int).toNat) (x := Int32.ofInt e12) Gs11 (show 150 ∈ _ by decide)
  rw [← hs13] at Fs13
  have ws13_67 : iI s13 67 = iI s11 67 := by rw [hs13]; rfl
  have ws13_68 : iI s13 68 = iI s11 68 := by rw [hs13]; rfl
  have ws13_43 : iI s13 43 = iI s11 43 := by rw [hs13]; rfl
  have ws13_44 : iI s13 44 = iI s11 44 := by rw [hs13]; rfl
  refine z_aload_n X (x := A 163) (show cdA 1 25 = some (.aload_n 0, 1, 0, 0, 0) from rfl) (List.Mem.head _) ?_
  refine s_getR X 163 (show cdA 1 26 = some (.getfield 37, 3, 0, 11, 0) from rfl) (by decide) rfl rfl ?_
  refine z_bipush X (show cdA 1 29 = some (.bipush 6, 2, 0, 0, 6) from rfl) ?_
  refine z_load X (x := x) (show cdA 1 31 = some (.iload 5, 2, 0, 0, 0) from rfl) (List.Mem.tail _ (List.Mem.tail _ (List.Mem.tail _ (List.Mem.head _)))) ?_
  refine z_ast X 171 (show cdA 1 33 = some (.iastore, 1, 0, 0, 0) from rfl) (by decide) rfl (by decide) (show 6 < 7 by decide) (by decide) ?_
  obtain ⟨s14, hs14⟩ : ∃ x0, x0 = uC s13 150 (6 : Int).toNat (Int32.ofInt x) := ⟨_, rfl⟩
  rw [← hs14]
  have Is14 : Bd s14 := by rw [hs14]; exact bd_C Is13 (show ((-2147483648) : Int) ≤ x ∧ x ≤ 2147483647 by first | exact ⟨p0.1, p0.2⟩ | omega) ⟨by first | exact p0.1 | omega, by first | exact p0.2 | omega⟩
  have Fs14 := fm_C (i := (6 : Int).toNat) (x := Int32.ofInt x) Fs13 (show 150 ∈ _ by decide)
  rw [← hs14] at Fs14
  have ws14_67 : iI s14 67 = iI s13 67 := by rw [hs14]; rfl
  have ws14_68 : iI s14 68 = iI s13 68 := by rw [hs14]; rfl
  have ws14_43 : iI s14 43 = iI s13 43 := by rw [hs14]; rfl
  have ws14_44 : iI s14 44 = iI s13 44 := by rw [hs14]; rfl
  refine z_aload_n X (x := A 163) (show cdA 1 34 = some (.aload_n 0, 1, 0, 0, 0) from rfl) (List.Mem.head _) ?_
  refine z_const X (show cdA 1 35 = some (.iconst 0, 1, 0, 0, 0) from rfl) ?_
  refine s_putI X 163 (show cdA 1 36 = some (.putfield 57, 3, 0, 2, 0) from rfl) (by decide) rfl rfl (by decide) rfl rfl rfl ?_
  obtain ⟨s15, hs15⟩ : ∃ x0, x0 = uI s14 67 (Int32.ofInt 0) := ⟨_, rfl⟩
  rw [← hs15]
  have Is15 : Bd s15 := by rw [hs15]; exact bd_I Is14 (show (0 : Int) ≤ 0 ∧ 0 ≤ 12 by first | exact ⟨by decide, by decide⟩ | omega) (by decide)
  have Fs15 := fm_I (x := Int32.ofInt 0) Fs14 (show 67 ∈ _ by decide)
  rw [← hs15] at Fs15
  have vs15 : iI s15 67 = 0 := by rw [hs15]; exact iI_u (by decide)
  have ws15_68 : iI s15 68 = iI s14 68 := by rw [hs15]; rfl
  have ws15_43 : iI s15 43 = iI s14 43 := by rw [hs15]; rfl
  have ws15_44 : iI s15 44 = iI s14 44 := by rw [hs15]; rfl
  refine z_const X (show cdA 1 39 = some (.iconst 0, 1, 0, 0, 0) from rfl) ?_
  refine z_store X (lv' := [(6, .int (Int32.ofInt 0)), (0, .ref (A 163)), (1, .long aj), (3, .long bj), (5, .int (Int32.ofInt x))]) (show cdA 1 40 = some (.istore 6, 2, 0, 0, 0) from rfl) (by decide) (fun _ h => h) ?_
  refine WS_lv (lv := [(0, .ref (A 163)), (1, .long aj), (3, .long bj), (6, .int (Int32.ofInt 0))]) (List.forall_mem_cons.mpr ⟨(List.Mem.tail _ (List.Mem.head _)), (List.forall_mem_cons.mpr ⟨(List.Mem.tail _ (List.Mem.tail _ (List.Mem.head _))), (List.forall_mem_cons.mpr ⟨(List.Mem.tail _ (List.Mem.tail _ (List.Mem.tail _ (List.Mem.head _)))), (List.forall_mem_cons.mpr ⟨(List.Mem.head _), (fun q h => absurd h List.not_mem_nil)⟩)⟩)⟩)⟩) ?_
  refine L42 ((12 - 0 : Int).toNat + 1) s15 aj bj 0 Is15 Fs15 (by first | exact ⟨by decide, by decide, oq_1af0b4f8 vs15⟩ | omega) (Nat.lt_succ_self _) ?_
  intro s16 x17 Is16 Fs16 hs16
  have b18 : (0 : Int) ≤ iI s16 67 ∧ iI s16 67 ≤ 12 := Is16.1 67
  have b19 : (0 : Int) ≤ iI s16 68 ∧ iI s16 68 ≤ 66 := Is16.1 68
  have b20 : (0 : Int) ≤ iI s16 43 ∧ iI s16 43 ≤ 12 := Is16.1 43
  have b21 : (0 : Int) ≤ iI s16 44 ∧ iI s16 44 ≤ 66 := Is16.1 44
  refine z_aload_n X (x := A 163) (show cdA 1 125 = some (.aload_n 0, 1, 0, 0, 0) from rfl) (List.Mem.head _) ?_
  refine z_const X (show cdA 1 126 = some (.iconst 0, 1, 0, 0, 0) from rfl) ?_
  refine s_putI X 163 (show cdA 1 127 = some (.putfield 72, 3, 0, 7, 0) from rfl) (by decide) rfl rfl (by decide) rfl rfl rfl ?_
  obtain ⟨s22, hs22⟩ : ∃ x0, x0 = uI s16 68 (Int32.ofInt 0) := ⟨_, rfl⟩
  rw [← hs22]
  have Is22 : Bd s22 := by rw [hs22]; exact bd_I Is16 (show (0 : Int) ≤ 0 ∧ 0 ≤ 66 by first | exact ⟨by decide, by decide⟩ | omega) (by decide)
  have Fs22 := fm_I (x := Int32.ofInt 0) Fs16 (show 68 ∈ _ by decide)
  rw [← hs22] at Fs22
  have vs22 : iI s22 68 = 0 := by rw [hs22]; exact iI_u (by decide)
  have ws22_67 : iI s22 67 = iI s16 67 := by rw [hs22]; rfl
  have ws22_43 : iI s22 43 = iI s16 43 := by rw [hs22]; rfl
  have ws22_44 : iI s22 44 = iI s16 44 := by rw [hs22]; rfl
  refine z_const X (show cdA 1 130 = some (.iconst 0, 1, 0, 0, 0) from rfl) ?_
  refine z_store X (lv' := [(6, .int (Int32.ofInt 0)), (0, .ref (A 163)), (1, .long aj), (3, .long bj)]) (show cdA 1 131 = some (.istore 6, 2, 0, 0, 0) from rfl) (by decide) (fun _ h => h) ?_
  refine WS_lv (lv := [(0, .ref (A 163)), (1, .long aj), (3, .long bj), (6, .int (Int32.ofInt 0))]) (List.forall_mem_cons.mpr ⟨(List.Mem.tail _ (List.Mem.head _)), (List.forall_mem_cons.mpr ⟨(List.Mem.tail _ (List.Mem.tail _ (List.Mem.head _))), (List.forall_mem_cons.mpr ⟨(List.Mem.tail _ (List.Mem.tail _ (List.Mem.tail _ (List.Mem.head _)))), (List.forall_mem_cons.mpr ⟨(List.Mem.head _), (fun q h => absurd h List.not_mem_nil)⟩)⟩)⟩)⟩) ?_
  refine L133 ((66 - 0 : Int).toNat + 1) s22 aj bj 0 Is22 Fs22 (by first | exact ⟨by decide, by decide, oq_1af0b4f8 vs22⟩ | omega) (Nat.lt_succ_self _) ?_
  intro s23 x24 Is23 Fs23 hs23
  have b25 : (0 : Int) ≤ iI s23 67 ∧ iI s23 67 ≤ 12 := Is23.1 67
  have b26 : (0 : Int) ≤ iI s23 68 ∧ iI s23 68 ≤ 66 := Is23.1 68
  have b27 : (0 : Int) ≤ iI s23 43 ∧ iI s23 43 ≤ 12 := Is23.1 43
  have b28 : (0 : Int) ≤ iI s23 44 ∧ iI s23 44 ≤ 66 := Is23.1 44
  exact w_vret X.1 q hRt (ax_d X (show cdA 1 260 = some (.return_, 1, 0, 0, 0) from rfl)) (Nat.zero_le _) (Nat.zero_le _) ⟨_, rfl, Is23, Fs23, rfl, trivial⟩
set_option maxRecDepth 4000 in
theorem c0_hear_163 (G : GX l s0 D tys a0 dT) (I : Bd s) {x y : Int} (p0 : 0 ≤ x ∧ x ≤ 23) (p1 : rng y) : CT l s0 D A dT 3 (rmN 3) [.ref (A 163), .int (Int32.ofInt x), .int (Int32.ofInt y)] s (fun o t => Bd t ∧ Fm [] [150] s t ∧ o = .inl none ∧ (True)) := by
  refine ct_ofX G (by decide) (Nat.le_of_ble_eq_true rfl) (fun k X E ET hRt hXt q => ?_)
  show WS k 0 [(0, .ref (A 163)), (1, .int (Int32.ofInt x)), (2, .int (Int32.ofInt y))] [] _ 0 0
  have F : Fm [] [150] s s := fm_rf _ _ s
  have b1 : (0 : Int) ≤ iI s 67 ∧ iI s 67 ≤ 12 := I.1 67
  have b2 : (0 : Int) ≤ iI s 68 ∧ iI s 68 ≤ 66 := I.1 68
  have L20 : ∀ (n : Nat) (t : PS) (yv ro wa cr ov cl c : Int), Bd t → Fm [] [150] s t → (rng yv ∧ (0 ≤ ro ∧ ro ≤ 276) ∧ rng wa ∧ rng cr ∧ rng ov ∧ rng cl ∧ 0 ≤ c ∧ c ≤ 12) → (12 - c : Int).toNat < n → (∀ (t' : PS) (wa' cr' ov' cl' c' : Int), Bd t' → Fm [] [150] s t' → (rng yv ∧ (0 ≤ ro ∧ ro ≤ 276) ∧ rng wa' ∧ rng cr' ∧ rng ov' ∧ rng cl' ∧ 0 ≤ c' ∧ c' ≤ 12) → WS k 106 [(0, .ref (A 163)), (2, .int (Int32.ofInt yv)), (3, .int (Int32.ofInt ro)), (4, .int (Int32.ofInt wa')), (5, .int (Int32.ofInt cr')), (6, .int (Int32.ofInt ov')), (7, .int (Int32.ofInt cl')), (8, .int (Int32.ofInt c'))] [] (Wd A dT t') 0 0) → WS k 20 [(0, .ref (A 163)), (2, .int (Int32.ofInt yv)), (3, .int (Int32.ofInt ro)), (4, .int (Int32.ofInt wa)), (5, .int (Int32.ofInt cr)), (6, .int (Int32.ofInt ov)), (7, .int (Int32.ofInt cl)), (8, .int (Int32.ofInt c))] [] (Wd A dT t) 0 0 := by
    intro n
    induction n with
    | zero =>
      intro t yv ro wa cr ov cl c I F hi hm kx
      exact absurd hm (Nat.not_lt_zero _)
    | succ n ih =>
      intro t yv ro wa cr ov cl c I F hi hm kx
      have b1001 : (0 : Int) ≤ iI t 67 ∧ iI t 67 ≤ 12 := I.1 67
      have b1002 : (0 : Int) ≤ iI t 68 ∧ iI t 68 ≤ 66 := I.1 68
      refine z_load X (x := c) (show cdA 3 20 = some (.iload 8, 2, 0, 0, 0) from rfl) (List.Mem.tail _ (List.Mem.tail _ (List.Mem.tail _ (List.Mem.tail _ (List.Mem.tail _ (List.Mem.tail _ (List.Mem.tail _ (List.Mem.head _)))))))) ?_
      refine z_aload_n X (x := A 163) (show cdA 3 22 = some (.aload_n 0, 1, 0, 0, 0) from rfl) (List.Mem.head _) ?_
      refine z_getI X 163 (show cdA 3 23 = some (.getfield 57, 3, 0, 2, 0) from rfl) (by decide) rfl rfl ?_
      have b1003 : (0 : Int) ≤ iI t 67 ∧ iI t 67 ≤ 12 := I.1 67
      refine z_icmp_ge X (t := 106) (show cdA 3 26 = some (.if_icmp .ge 80, 3, 3, 0, 0) from rfl) (by decide) ⟨by first | exact oq_fa4e5087 hi.2.2.2.2.2.2.1 | omega, by first | exact oq_78843a64 hi.2.2.2.2.2.2.2 | omega⟩ (rng_to _) (fun g1004 => ?_) (fun g1004 => ?_)
      ·
        refine WS_lv (lv := [(0, .ref (A 163)), (2, .int (Int32.ofInt yv)), (3, .int (Int32.ofInt ro)), (4, .int (Int32.ofInt wa)), (5, .int (Int32.ofInt cr)), (6, .int (Int32.ofInt ov)), (7, .int (Int32.ofInt cl)), (8, .int (Int32.ofInt c))]) (List.forall_mem_cons.mpr ⟨(List.Mem.head _), (List.forall_mem_cons.mpr ⟨(List.Mem.tail _ (List.Mem.head _)), (List.forall_mem_cons.mpr ⟨(List.Mem.tail _ (List.Mem.tail _ (List.Mem.head _))), (List.forall_mem_cons.mpr ⟨(List.Mem.tail _ (List.Mem.tail _ (List.Mem.tail _ (List.Mem.head _)))), (List.forall_mem_cons.mpr ⟨(List.Mem.tail _ (List.Mem.tail _ (List.Mem.tail _ (List.Mem.tail _ (List.Mem.head _))))), (List.forall_mem_cons.mpr ⟨(List.Mem.tail _ (List.Mem.tail _ (List.Mem.tail _ (List.Mem.tail _ (List.Mem.tail _ (List.Mem.head _)))))), (List.forall_mem_cons.mpr ⟨(List.Mem.tail _ (List.Mem.tail _ (List.Mem.tail _ (List.Mem.tail _ (List.Mem.tail _ (List.Mem.tail _ (List.Mem.head _))))))), (List.forall_mem_cons.mpr ⟨(List.Mem.tail _ (List.Mem.tail _ (List.Mem.tail _ (List.Mem.tail _ (List.Mem.tail _ (List.Mem.tail _ (List.Mem.tail _ (List.Mem.head _)))))))), (fun q h => absurd h List.not_mem_nil)⟩)⟩)⟩)⟩)⟩)⟩)⟩)⟩) ?_
        exact kx _ wa cr ov cl c I F (by first | exact ⟨And.intro (hi.1.1) (hi.1.2), And.intro (hi.2.1.1) (hi.2.1.2), And.intro (hi.2.2.1.1) (hi.2.2.1.2), And.intro (hi.2.2.2.1.1) (hi.2.2.2.1.2), And.intro (hi.2.2.2.2.1.1) (hi.2.2.2.2.1.2), And.intro (hi.2.2.2.2.2.1.1) (hi.2.2.2.2.2.1.2), hi.2.2.2.2.2.2.1, hi.2.2.2.2.2.2.2⟩ | omega)
      ·
        refine z_aload_n X (x := A 163) (show cdA 3 29 = some (.aload_n 0, 1, 0, 0, 0) from rfl) (List.Mem.head _) ?_
        refine s_getR X 163 (show cdA 3 30 = some (.getfield 9, 3, 0, 3, 0) from rfl) (by decide) rfl rfl ?_
        refine z_load X (x := c) (show cdA 3 33 = some (.iload 8, 2, 0, 0, 0) from rfl) (List.Mem.tail _ (List.Mem.tail _ (List.Mem.tail _ (List.Mem.tail _ (List.Mem.tail _ (List.Mem.tail _ (List.Mem.tail _ (List.Mem.head _)))))))) ?_
        refine z_ald X 164 (show cdA 3 35 = some (.iaload, 1, 0, 0, 0) from rfl) (by decide) rfl (by first | exact hi.2.2.2.2.2.2.1 | omega) (show c < 12 by first | exact oq_f36e82a8 g1004 b1003.2 | omega) (by decide) ?_
        have b1005 : (0 : Int) ≤ iC t 143 (c).toNat ∧ iC t 143 (c).toNat ≤ 11 := I.2 143 _ (show (c).toNat < 12 by first | exact oq_2dac6850 g1004 b1003.2 | omega)
        refine z_load_n X (x := yv) (show cdA 3 36 = some (.iload_n 2, 1, 0, 0, 0) from rfl) (List.Mem.tail _ (List.Mem.head _)) ?_
        have N1006 : ∀ e1007 : Int, ((((iC t 143 (c).toNat) ≠ yv) ∧ ((0 : Int) ≤ iC t 143 (c).toNat ∧ iC t 143 (c).toNat ≤ 11) ∧ ((0 : Int) ≤ iC t 67 ((ro + (iC t 143 (c).toNat))).toNat ∧ iC t 67 ((ro + (iC t 143 (c).toNat))).toNat ≤ 50) ∧ e1007 = (iC t 67 ((ro + (iC t 143 (c).toNat))).toNat)) ∨ (((iC t 143 (c).toNat) = yv) ∧ e1007 = 0)) → WS k 61 [(0, .ref (A 163)), (2, .int (Int32.ofInt yv)), (3, .int (Int32.ofInt ro)), (4, .int (Int32.ofInt wa)), (5, .int (Int32.ofInt cr)), (6, .int (Int32.ofInt ov)), (7, .int (Int32.ofInt cl)), (8, .int (Int32.ofInt c))] [.int (Int32.ofInt e1007)] (Wd A dT t) 0 0 := by
          intro e1007 he1007
          refine z_store X (lv' := [(9, .int (Int32.ofInt e1007)), (0, .ref (A 163)), (2, .int (Int32.ofInt yv)), (3, .int (Int32.ofInt ro)), (4, .int (Int32.ofInt wa)), (5, .int (Int32.ofInt cr)), (6, .int (Int32.ofInt ov)), (7, .int (Int32.ofInt cl)), (8, .int (Int32.ofInt c))]) (show cdA 3 61 = some (.istore 9, 2, 0, 0, 0) from rfl) (by decide) (fun _ h => h) ?_
          refine z_load X (x := wa) (show cdA 3 63 = some (.iload 4, 2, 0, 0, 0) from rfl) (List.Mem.tail _ (List.Mem.tail _ (List.Mem.tail _ (List.Mem.tail _ (List.Mem.head _))))) ?_
          refine z_load X (x := e1007) (show cdA 3 65 = some (.iload 9, 2, 0, 0, 0) from rfl) (List.Mem.head _) ?_
          refine z_add X (show cdA 3 67 = some (.iadd, 1, 0, 0, 0) from rfl) ?_
          refine z_any (fun y1008 hy1008 => ?_)
          refine z_store X (lv' := [(4, .int (Int32.ofInt y1008)), (9, .int (Int32.ofInt e1007)), (0, .ref (A 163)), (2, .int (Int32.ofInt yv)), (3, .int (Int32.ofInt ro)), (5, .int (Int32.ofInt cr)), (6, .int (Int32.ofInt ov)), (7, .int (Int32.ofInt cl)), (8, .int (Int32.ofInt c))]) (show cdA 3 68 = some (.istore 4, 2, 0, 0, 0) from rfl) (by decide) (fun _ h => h) ?_
          refine z_load X (x := ov) (show cdA 3 70 = some (.iload 6, 2, 0, 0, 0) from rfl) (List.Mem.tail _ (List.Mem.tail _ (List.Mem.tail _ (List.Mem.tail _ (List.Mem.tail _ (List.Mem.tail _ (List.Mem.head _))))))) ?_
          refine z_load X (x := e1007) (show cdA 3 72 = some (.iload 9, 2, 0, 0, 0) from rfl) (List.Mem.tail _ (List.Mem.head _)) ?_
          refine z_aload_n X (x := A 163) (show cdA 3 74 = some (.aload_n 0, 1, 0, 0, 0) from rfl) (List.Mem.tail _ (List.Mem.tail _ (List.Mem.head _))) ?_
          refine s_getR X 163 (show cdA 3 75 = some (.getfield 15, 3, 0, 4, 0) from rfl) (by decide) rfl rfl ?_
          refine z_load X (x := c) (show cdA 3 78 = some (.iload 8, 2, 0, 0, 0) from rfl) (List.Mem.tail _ (List.Mem.tail _ (List.Mem.tail _ (List.Mem.tail _ (List.Mem.tail _ (List.Mem.tail _ (List.Mem.tail _ (List.Mem.tail _ (List.Mem.head _))))))))) ?_
          refine z_ald X 165 (show cdA 3 80 = some (.iaload, 1, 0, 0, 0) from rfl) (by decide) rfl (by first | exact hi.2.2.2.2.2.2.1 | omega) (show c < 12 by first | exact oq_f36e82a8 g1004 b1003.2 | omega) (by decide) ?_
          have b1009 : ((-2147483648) : Int) ≤ iC t 144 (c).toNat ∧ iC t 144 (c).toNat ≤ 2147483647 := I.2 144 _ (show (c).toNat < 12 by first | exact oq_2dac6850 g1004 b1003.2 | omega)
          refine z_mul X (show cdA 3 81 = some (.imul, 1, 0, 0, 0) from rfl) ?_
          refine z_any (fun y1010 hy1010 => ?_)
          refine z_add X (show cdA 3 82 = some (.iadd, 1, 0, 0, 0) from rfl) ?_
          refine z_any (fun y1011 hy1011 => ?_)
          refine z_store X (lv' := [(6, .int (Int32.ofInt y1011)), (4, .int (Int32.ofInt y1008)), (9, .int (Int32.ofInt e1007)), (0, .ref (A 163)), (2, .int (Int32.ofInt yv)), (3, .int (Int32.ofInt ro)), (5, .int (Int32.ofInt cr)), (7, .int (Int32.ofInt cl)), (8, .int (Int32.ofInt c))]) (show cdA 3 83 = some (.istore 6, 2, 0, 0, 0) from rfl) (by decide) (fun _ h => h) ?_
          refine z_load X (x := cl) (show cdA 3 85 = some (.iload 7, 2, 0, 0, 0) from rfl) (List.Mem.tail _ (List.Mem.tail _ (List.Mem.tail _ (List.Mem.tail _ (List.Mem.tail _ (List.Mem.tail _ (List.Mem.tail _ (List.Mem.head _)))))))) ?_
          refine z_load X (x := e1007) (show cdA 3 87 = some (.iload 9, 2, 0, 0, 0) from rfl) (List.Mem.tail _ (List.Mem.tail _ (List.Mem.head _))) ?_
          refine z_aload_n X (x := A 163) (show cdA 3 89 = some (.aload_n 0, 1, 0, 0, 0) from rfl) (List.Mem.tail _ (List.Mem.tail _ (List.Mem.tail _ (List.Mem.head _)))) ?_
          refine s_getR X 163 (show cdA 3 90 = some (.getfield 21, 3, 0, 6, 0) from rfl) (by decide) rfl rfl ?_
          refine z_load X (x := c) (show cdA 3 93 = some (.iload 8, 2, 0, 0, 0) from rfl) (List.Mem.tail _ (List.Mem.tail _ (List.Mem.tail _ (List.Mem.tail _ (List.Mem.tail _ (List.Mem.tail _ (List.Mem.tail _ (List.Mem.tail _ (List.Mem.head _))))))))) ?_
          refine z_ald X 167 (show cdA 3 95 = some (.iaload, 1, 0, 0, 0) from rfl) (by decide) rfl (by first | exact hi.2.2.2.2.2.2.1 | omega) (show c < 12 by first | exact oq_f36e82a8 g1004 b1003.2 | omega) (by decide) ?_
          have b1012 : ((-2147483648) : Int) ≤ iC t 146 (c).toNat ∧ iC t 146 (c).toNat ≤ 2147483647 := I.2 146 _ (show (c).toNat < 12 by first | exact oq_2dac6850 g1004 b1003.2 | omega)
          refine z_mul X (show cdA 3 96 = some (.imul, 1, 0, 0, 0) from rfl) ?_
          refine z_any (fun y1013 hy1013 => ?_)
          refine z_add X (show cdA 3 97 = some (.iadd, 1, 0, 0, 0) from rfl) ?_
          refine z_any (fun y1014 hy1014 => ?_)
          refine z_store X (lv' := [(7, .int (Int32.ofInt y1014)), (6, .int (Int32.ofInt y1011)), (4, .int (Int32.ofInt y1008)), (9, .int (Int32.ofInt e1007)), (0, .ref (A 163)), (2, .int (Int32.ofInt yv)), (3, .int (Int32.ofInt ro)), (5, .int (Int32.ofInt cr)), (8, .int (Int32.ofInt c))]) (show cdA 3 98 = some (.istore 7, 2, 0, 0, 0) from rfl) (by decide) (fun _ h => h) ?_
          refine z_inc X (x := c) (lv' := [(8, .int (Int32.ofInt (c + 1))), (7, .int (Int32.ofInt y1014)), (6, .int (Int32.ofInt y1011)), (4, .int (Int32.ofInt y1008)), (9, .int (Int32.ofInt e1007)), (0, .ref (A 163)), (2, .int (Int32.ofInt yv)), (3, .int (Int32.ofInt ro)), (5, .int (Int32.ofInt cr))]) (show cdA 3 100 = some (.iinc 8 1, 3, 0, 0, 0) from rfl) (by decide) (List.Mem.tail _ (List.Mem.tail _ (List.Mem.tail _ (List.Mem.tail _ (List.Mem.tail _ (List.Mem.tail _ (List.Mem.tail _ (List.Mem.tail _ (List.Mem.head _))))))))) (fun _ h => h) ?_
          refine z_goto X (t := 20) (show cdA 3 103 = some (.goto (-83), 3, 0, 0, 0) from rfl) (by decide) ?_
          refine WS_lv (lv := [(0, .ref (A 163)), (2, .int (Int32.ofInt yv)), (3, .int (Int32.ofInt ro)), (4, .int (Int32.ofInt y1008)), (5, .int (Int32.ofInt cr)), (6, .int (Int32.ofInt y1011)), (7, .int (Int32.ofInt y1014)), (8, .int (Int32.ofInt (c + 1)))]) (List.forall_mem_cons.mpr ⟨(List.Mem.tail _ (List.Mem.tail _ (List.Mem.tail _ (List.Mem.tail _ (List.Mem.tail _ (List.Mem.head _)))))), (List.forall_mem_cons.mpr ⟨(List.Mem.tail _ (List.Mem.tail _ (List.Mem.tail _ (List.Mem.tail _ (List.Mem.tail _ (List.Mem.tail _ (List.Mem.head _))))))), (List.forall_mem_cons.mpr ⟨(List.Mem.tail _ (List.Mem.tail _ (List.Mem.tail _ (List.Mem.tail _ (List.Mem.tail _ (List.Mem.tail _ (List.Mem.tail _ (List.Mem.head _)))))))), (List.forall_mem_cons.mpr ⟨(List.Mem.tail _ (List.Mem.tail _ (List.Mem.tail _ (List.Mem.head _)))), (List.forall_mem_cons.mpr ⟨(List.Mem.tail _ (List.Mem.tail _ (List.Mem.tail _ (List.Mem.tail _ (List.Mem.tail _ (List.Mem.tail _ (List.Mem.tail _ (List.Mem.tail _ (List.Mem.head _))))))))), (List.forall_mem_cons.mpr ⟨(List.Mem.tail _ (List.Mem.tail _ (List.Mem.head _))), (List.forall_mem_cons.mpr ⟨(List.Mem.tail _ (List.Mem.head _)), (List.forall_mem_cons.mpr ⟨(List.Mem.head _), (fun q h => absurd h List.not_mem_nil)⟩)⟩)⟩)⟩)⟩)⟩)⟩)⟩) ?_
          exact ih _ yv ro y1008 cr y1011 y1014 (c + 1) I F (by first | exact ⟨And.intro (hi.1.1) (hi.1.2), And.intro (hi.2.1.1) (hi.2.1.2), And.intro (hy1008.1) (hy1008.2), And.intro (hi.2.2.2.1.1) (hi.2.2.2.1.2), And.intro (hy1011.1) (hy1011.2), And.intro (hy1014.1) (hy1014.2), oq_54f49eb5 hi.2.2.2.2.2.2.1, oq_4dae995e g1004 b1003.2⟩ | omega) (by first | exact qk_me hm (by decide) (oq_b575e8c1 g1004 b1003.2) | omega) kx
        refine z_icmp_ne X (t := 44) (show cdA 3 37 = some (.if_icmp .ne 7, 3, 1, 0, 0) from rfl) (by decide) (rng_to _) ⟨by first | exact hi.1.1 | omega, by first | exact hi.1.2 | omega⟩ (fun g1015 => ?_) (fun g1015 => ?_)
        ·
          refine z_aload_n X (x := A 163) (show cdA 3 44 = some (.aload_n 0, 1, 0, 0, 0) from rfl) (List.Mem.head _) ?_
          refine s_getR X 163 (show cdA 3 45 = some (.getfield 43, 3, 0, 0, 0) from rfl) (by decide) rfl rfl ?_
          refine s_getR X 68 (show cdA 3 48 = some (.getfield 87, 3, 9, 12, 0) from rfl) (by decide) rfl rfl ?_
          refine z_load_n X (x := ro) (show cdA 3 51 = some (.iload_n 3, 1, 0, 0, 0) from rfl) (List.Mem.tail _ (List.Mem.tail _ (List.Mem.head _))) ?_
          refine z_aload_n X (x := A 163) (show cdA 3 52 = some (.aload_n 0, 1, 0, 0, 0) from rfl) (List.Mem.head _) ?_
          refine s_getR X 163 (show cdA 3 53 = some (.getfield 9, 3, 0, 3, 0) from rfl) (by decide) rfl rfl ?_
          refine z_load X (x := c) (show cdA 3 56 = some (.iload 8, 2, 0, 0, 0) from rfl) (List.Mem.tail _ (List.Mem.tail _ (List.Mem.tail _ (List.Mem.tail _ (List.Mem.tail _ (List.Mem.tail _ (List.Mem.tail _ (List.Mem.head _)))))))) ?_
          refine z_ald X 164 (show cdA 3 58 = some (.iaload, 1, 0, 0, 0) from rfl) (by decide) rfl (by first | exact hi.2.2.2.2.2.2.1 | omega) (show c < 12 by first | exact oq_f36e82a8 g1004 b1003.2 | omega) (by decide) ?_
          have b1016 : (0 : Int) ≤ iC t 143 (c).toNat ∧ iC t 143 (c).toNat ≤ 11 := I.2 143 _ (show (c).toNat < 12 by first | exact oq_2dac6850 g1004 b1003.2 | omega)
          refine z_add X (show cdA 3 59 = some (.iadd, 1, 0, 0, 0) from rfl) ?_
          refine z_ald X 79 (show cdA 3 60 = some (.iaload, 1, 0, 0, 0) from rfl) (by decide) rfl (by first | exact oq_dd29f52d hi.2.1.1 b1016.1 | omega) (show (ro + (iC t 143 (c).toNat)) < 288 by first | exact oq_f94a0088 hi.2.1.2 b1016.2 | omega) (by decide) ?_
          have b1017 : (0 : Int) ≤ iC t 67 ((ro + (iC t 143 (c).toNat))).toNat ∧ iC t 67 ((ro + (iC t 143 (c).toNat))).toNat ≤ 50 := I.2 67 _ (show ((ro + (iC t 143 (c).toNat))).toNat < 288 by first | exact oq_3d7ae1dd hi.2.1.2 b1016.2 | omega)
          exact N1006 _ (Or.inl ⟨g1015, b1016, b1017, rfl⟩)
        ·
          refine z_const X (show cdA 3 40 = some (.iconst 0, 1, 0, 0, 0) from rfl) ?_
          refine z_goto X (t := 61) (show cdA 3 41 = some (.goto 20, 3, 0, 0, 0) from rfl) (by decide) ?_
          exact N1006 _ (Or.inr (⟨g1015, rfl⟩))
  have L109 : ∀ (n : Nat) (t : PS) (yv ro wa cr ov cl c : Int), Bd t → Fm [] [150] s t → (rng yv ∧ (0 ≤ ro ∧ ro ≤ 276) ∧ rng wa ∧ rng cr ∧ rng ov ∧ rng cl ∧ 0 ≤ c ∧ c ≤ 66) → (66 - c : Int).toNat < n → (∀ (t' : PS) (cr' c' : Int), Bd t' → Fm [] [150] s t' → (rng yv ∧ (0 ≤ ro ∧ ro ≤ 276) ∧ rng wa ∧ rng cr' ∧ rng ov ∧ rng cl ∧ 0 ≤ c' ∧ c' ≤ 66) → WS k 196 [(0, .ref (A 163)), (2, .int (Int32.ofInt yv)), (3, .int (Int32.ofInt ro)), (4, .int (Int32.ofInt wa)), (5, .int (Int32.ofInt cr')), (6, .int (Int32.ofInt ov)), (7, .int (Int32.ofInt cl)), (8, .int (Int32.ofInt c'))] [] (Wd A dT t') 0 0) → WS k 109 [(0, .ref (A 163)), (2, .int (Int32.ofInt yv)), (3, .int (Int32.ofInt ro)), (4, .int (Int32.ofInt wa)), (5, .int (Int32.ofInt cr)), (6, .int (Int32.ofInt ov)), (7, .int (Int32.ofInt cl)), (8, .int (Int32.ofInt c))] [] (Wd A dT t) 0 0 := by
    intro n
    induction n with
    | zero =>
      intro t yv ro wa cr ov cl c I F hi hm kx
      exact absurd hm (Nat.not_lt_zero _)
    | succ n ih =>
      intro t yv ro wa cr ov cl c I F hi hm kx
      have b2001 : (0 : Int) ≤ iI t 67 ∧ iI t 67 ≤ 12 := I.1 67
      have b2002 : (0 : Int) ≤ iI t 68 ∧ iI t 68 ≤ 66 := I.1 68
      refine z_load X (x := c) (show cdA 3 109 = some (.iload 8, 2, 0, 0, 0) from rfl) (List.Mem.tail _ (List.Mem.tail _ (List.Mem.tail _ (List.Mem.tail _ (List.Mem.tail _ (List.Mem.tail _ (List.Mem.tail _ (List.Mem.head _)))))))) ?_
      refine z_aload_n X (x := A 163) (show cdA 3 111 = some (.aload_n 0, 1, 0, 0, 0) from rfl) (List.Mem.head _) ?_
      refine z_getI X 163 (show cdA 3 112 = some (.getfield 72, 3, 0, 7, 0) from rfl) (by decide) rfl rfl ?_
      have b2003 : (0 : Int) ≤ iI t 68 ∧ iI t 68 ≤ 66 := I.1 68
      refine z_icmp_ge X (t := 196) (show cdA 3 115 = some (.if_icmp .ge 81, 3, 3, 0, 0) from rfl) (by decide) ⟨by first | exact oq_fa4e5087 hi.2.2.2.2.2.2.1 | omega, by first | exact oq_64f2e926 hi.2.2.2.2.2.2.2 | omega⟩ (rng_to _) (fun g2004 => ?_) (fun g2004 => ?_)
      ·
        refine WS_lv (lv := [(0, .ref (A 163)), (2, .int (Int32.ofInt yv)), (3, .int (Int32.ofInt ro)), (4, .int (Int32.ofInt wa)), (5, .int (Int32.ofInt cr)), (6, .int (Int32.ofInt ov)), (7, .int (Int32.ofInt cl)), (8, .int (Int32.ofInt c))]) (List.forall_mem_cons.mpr ⟨(List.Mem.head _), (List.forall_mem_cons.mpr ⟨(List.Mem.tail _ (List.Mem.head _)), (List.forall_mem_cons.mpr ⟨(List.Mem.tail _ (List.Mem.tail _ (List.Mem.head _))), (List.forall_mem_cons.mpr ⟨(List.Mem.tail _ (List.Mem.tail _ (List.Mem.tail _ (List.Mem.head _)))), (List.forall_mem_cons.mpr ⟨(List.Mem.tail _ (List.Mem.tail _ (List.Mem.tail _ (List.Mem.tail _ (List.Mem.head _))))), (List.forall_mem_cons.mpr ⟨(List.Mem.tail _ (List.Mem.tail _ (List.Mem.tail _ (List.Mem.tail _ (List.Mem.tail _ (List.Mem.head _)))))), (List.forall_mem_cons.mpr ⟨(List.Mem.tail _ (List.Mem.tail _ (List.Mem.tail _ (List.Mem.tail _ (List.Mem.tail _ (List.Mem.tail _ (List.Mem.head _))))))), (List.forall_mem_cons.mpr ⟨(List.Mem.tail _ (List.Mem.tail _ (List.Mem.tail _ (List.Mem.tail _ (List.Mem.tail _ (List.Mem.tail _ (List.Mem.tail _ (List.Mem.head _)))))))), (fun q h => absurd h List.not_mem_nil)⟩)⟩)⟩)⟩)⟩)⟩)⟩)⟩) ?_
        exact kx _ cr c I F (by first | exact ⟨And.intro (hi.1.1) (hi.1.2), And.intro (hi.2.1.1) (hi.2.1.2), And.intro (hi.2.2.1.1) (hi.2.2.1.2), And.intro (hi.2.2.2.1.1) (hi.2.2.2.1.2), And.intro (hi.2.2.2.2.1.1) (hi.2.2.2.2.1.2), And.intro (hi.2.2.2.2.2.1.1) (hi.2.2.2.2.2.1.2), hi.2.2.2.2.2.2.1, hi.2.2.2.2.2.2.2⟩ | omega)
      ·
        refine z_aload_n X (x := A 163) (show cdA 3 118 = some (.aload_n 0, 1, 0, 0, 0) from rfl) (List.Mem.head _) ?_
        refine s_getR X 163 (show cdA 3 119 = some (.getfield 26, 3, 0, 8, 0) from rfl) (by decide) rfl rfl ?_
        refine z_load X (x := c) (show cdA 3 122 = some (.iload 8, 2, 0, 0, 0) from rfl) (List.Mem.tail _ (List.Mem.tail _ (List.Mem.tail _ (List.Mem.tail _ (List.Mem.tail _ (List.Mem.tail _ (List.Mem.tail _ (List.Mem.head _)))))))) ?_
        refine z_ald X 168 (show cdA 3 124 = some (.iaload, 1, 0, 0, 0) from rfl) (by decide) rfl (by first | exact hi.2.2.2.2.2.2.1 | omega) (show c < 66 by first | exact oq_256e4529 g2004 b2003.2 | omega) (by decide) ?_
        have b2005 : (0 : Int) ≤ iC t 147 (c).toNat ∧ iC t 147 (c).toNat ≤ 11 := I.2 147 _ (show (c).toNat < 66 by first | exact oq_d7ff7873 g2004 b2003.2 | omega)
        refine z_load_n X (x := yv) (show cdA 3 125 = some (.iload_n 2, 1, 0, 0, 0) from rfl) (List.Mem.tail _ (List.Mem.head _)) ?_
        refine z_icmp_eq X (t := 190) (show cdA 3 126 = some (.if_icmp .eq 64, 3, 0, 0, 0) from rfl) (by decide) (rng_to _) ⟨by first | exact hi.1.1 | omega, by first | exact hi.1.2 | omega⟩ (fun g2006 => ?_) (fun g2006 => ?_)
        ·
          refine z_inc X (x := c) (lv' := [(8, .int (Int32.ofInt (c + 1))), (0, .ref (A 163)), (2, .int (Int32.ofInt yv)), (3, .int (Int32.ofInt ro)), (4, .int (Int32.ofInt wa)), (5, .int (Int32.ofInt cr)), (6, .int (Int32.ofInt ov)), (7, .int (Int32.ofInt cl))]) (show cdA 3 190 = some (.iinc 8 1, 3, 0, 0, 0) from rfl) (by decide) (List.Mem.tail _ (List.Mem.tail _ (List.Mem.tail _ (List.Mem.tail _ (List.Mem.tail _ (List.Mem.tail _ (List.Mem.tail _ (List.Mem.head _)))))))) (fun _ h => h) ?_
          refine z_goto X (t := 109) (show cdA 3 193 = some (.goto (-84), 3, 0, 0, 0) from rfl) (by decide) ?_
          refine WS_lv (lv := [(0, .ref (A 163)), (2, .int (Int32.ofInt yv)), (3, .int (Int32.ofInt ro)), (4, .int (Int32.ofInt wa)), (5, .int (Int32.ofInt cr)), (6, .int (Int32.ofInt ov)), (7, .int (Int32.ofInt cl)), (8, .int (Int32.ofInt (c + 1)))]) (List.forall_mem_cons.mpr ⟨(List.Mem.tail _ (List.Mem.head _)), (List.forall_mem_cons.mpr ⟨(List.Mem.tail _ (List.Mem.tail _ (List.Mem.head _))), (List.forall_mem_cons.mpr ⟨(List.Mem.tail _ (List.Mem.tail _ (List.Mem.tail _ (List.Mem.head _)))), (List.forall_mem_cons.mpr ⟨(List.Mem.tail _ (List.Mem.tail _ (List.Mem.tail _ (List.Mem.tail _ (List.Mem.head _))))), (List.forall_mem_cons.mpr ⟨(List.Mem.tail _ (List.Mem.tail _ (List.Mem.tail _ (List.Mem.tail _ (List.Mem.tail _ (List.Mem.head _)))))), (List.forall_mem_cons.mpr ⟨(List.Mem.tail _ (List.Mem.tail _ (List.Mem.tail _ (List.Mem.tail _ (List.Mem.tail _ (List.Mem.tail _ (List.Mem.head _))))))), (List.forall_mem_cons.mpr ⟨(List.Mem.tail _ (List.Mem.tail _ (List.Mem.tail _ (List.Mem.tail _ (List.Mem.tail _ (List.Mem.tail _ (List.Mem.tail _ (List.Mem.head _)))))))), (List.forall_mem_cons.mpr ⟨(List.Mem.head _), (fun q h => absurd h List.not_mem_nil)⟩)⟩)⟩)⟩)⟩)⟩)⟩)⟩) ?_
          exact ih _ yv ro wa cr ov cl (c + 1) I F (by first | exact ⟨And.intro (hi.1.1) (hi.1.2), And.intro (hi.2.1.1) (hi.2.1.2), And.intro (hi.2.2.1.1) (hi.2.2.1.2), And.intro (hi.2.2.2.1.1) (hi.2.2.2.1.2), And.intro (hi.2.2.2.2.1.1) (hi.2.2.2.2.1.2), And.intro (hi.2.2.2.2.2.1.1) (hi.2.2.2.2.2.1.2), oq_54f49eb5 hi.2.2.2.2.2.2.1, oq_319a18a4 g2004 b2003.2⟩ | omega) (by first | exact qk_me hm (by decide) (oq_dd0e9829 g2004 b2003.2) | omega) kx
        ·
          refine z_aload_n X (x := A 163) (show cdA 3 129 = some (.aload_n 0, 1, 0, 0, 0) from rfl) (List.Mem.head _) ?_
          refine s_getR X 163 (show cdA 3 130 = some (.getfield 29, 3, 0, 9, 0) from rfl) (by decide) rfl rfl ?_
          refine z_load X (x := c) (show cdA 3 133 = some (.iload 8, 2, 0, 0, 0) from rfl) (List.Mem.tail _ (List.Mem.tail _ (List.Mem.tail _ (List.Mem.tail _ (List.Mem.tail _ (List.Mem.tail _ (List.Mem.tail _ (List.Mem.head _)))))))) ?_
          refine z_ald X 169 (show cdA 3 135 = some (.iaload, 1, 0, 0, 0) from rfl) (by decide) rfl (by first | exact hi.2.2.2.2.2.2.1 | omega) (show c < 66 by first | exact oq_256e4529 g2004 b2003.2 | omega) (by decide) ?_
          have b2007 : (0 : Int) ≤ iC t 148 (c).toNat ∧ iC t 148 (c).toNat ≤ 11 := I.2 148 _ (show (c).toNat < 66 by first | exact oq_d7ff7873 g2004 b2003.2 | omega)
          refine z_load_n X (x := yv) (show cdA 3 136 = some (.iload_n 2, 1, 0, 0, 0) from rfl) (List.Mem.tail _ (List.Mem.head _)) ?_
          refine z_icmp_eq X (t := 190) (show cdA 3 137 = some (.if_icmp .eq 53, 3, 0, 0, 0) from rfl) (by decide) (rng_to _) ⟨by first | exact hi.1.1 | omega, by first | exact hi.1.2 | omega⟩ (fun g2008 => ?_) (fun g2008 => ?_)
          ·
            refine z_inc X (x := c) (lv' := [(8, .int (Int32.ofInt (c + 1))), (0, .ref (A 163)), (2, .int (Int32.ofInt yv)), (3, .int (Int32.ofInt ro)), (4, .int (Int32.ofInt wa)), (5, .int (Int32.ofInt cr)), (6, .int (Int32.ofInt ov)), (7, .int (Int32.ofInt cl))]) (show cdA 3 190 = some (.iinc 8 1, 3, 0, 0, 0) from rfl) (by decide) (List.Mem.tail _ (List.Mem.tail _ (List.Mem.tail _ (List.Mem.tail _ (List.Mem.tail _ (List.Mem.tail _ (List.Mem.tail _ (List.Mem.head _)))))))) (fun _ h => h) ?_
            refine z_goto X (t := 109) (show cdA 3 193 = some (.goto (-84), 3, 0, 0, 0) from rfl) (by decide) ?_
            refine WS_lv (lv := [(0, .ref (A 163)), (2, .int (Int32.ofInt yv)), (3, .int (Int32.ofInt ro)), (4, .int (Int32.ofInt wa)), (5, .int (Int32.ofInt cr)), (6, .int (Int32.ofInt ov)), (7, .int (Int32.ofInt cl)), (8, .int (Int32.ofInt (c + 1)))]) (List.forall_mem_cons.mpr ⟨(List.Mem.tail _ (List.Mem.head _)), (List.forall_mem_cons.mpr ⟨(List.Mem.tail _ (List.Mem.tail _ (List.Mem.head _))), (List.forall_mem_cons.mpr ⟨(List.Mem.tail _ (List.Mem.tail _ (List.Mem.tail _ (List.Mem.head _)))), (List.forall_mem_cons.mpr ⟨(List.Mem.tail _ (List.Mem.tail _ (List.Mem.tail _ (List.Mem.tail _ (List.Mem.head _))))), (List.forall_mem_cons.mpr ⟨(List.Mem.tail _ (List.Mem.tail _ (List.Mem.tail _ (List.Mem.tail _ (List.Mem.tail _ (List.Mem.head _)))))), (List.forall_mem_cons.mpr ⟨(List.Mem.tail _ (List.Mem.tail _ (List.Mem.tail _ (List.Mem.tail _ (List.Mem.tail _ (List.Mem.tail _ (List.Mem.head _))))))), (List.forall_mem_cons.mpr ⟨(List.Mem.tail _ (List.Mem.tail _ (List.Mem.tail _ (List.Mem.tail _ (List.Mem.tail _ (List.Mem.tail _ (List.Mem.tail _ (List.Mem.head _)))))))), (List.forall_mem_cons.mpr ⟨(List.Mem.head _), (fun q h => absurd h List.not_mem_nil)⟩)⟩)⟩)⟩)⟩)⟩)⟩)⟩) ?_
            exact ih _ yv ro wa cr ov cl (c + 1) I F (by first | exact ⟨And.intro (hi.1.1) (hi.1.2), And.intro (hi.2.1.1) (hi.2.1.2), And.intro (hi.2.2.1.1) (hi.2.2.1.2), And.intro (hi.2.2.2.1.1) (hi.2.2.2.1.2), And.intro (hi.2.2.2.2.1.1) (hi.2.2.2.2.1.2), And.intro (hi.2.2.2.2.2.1.1) (hi.2.2.2.2.2.1.2), oq_54f49eb5 hi.2.2.2.2.2.2.1, oq_319a18a4 g2004 b2003.2⟩ | omega) (by first | exact qk_me hm (by decide) (oq_dd0e9829 g2004 b2003.2) | omega) kx
          ·
            refine z_load X (x := cr) (show cdA 3 140 = some (.iload 5, 2, 0, 0, 0) from rfl) (List.Mem.tail _ (List.Mem.tail _ (List.Mem.tail _ (List.Mem.tail _ (List.Mem.head _))))) ?_
            refine z_aload_n X (x := A 163) (show cdA 3 142 = some (.aload_n 0, 1, 0, 0, 0) from rfl) (List.Mem.head _) ?_
            refine s_getR X 163 (show cdA 3 143 = some (.getfield 32, 3, 0, 10, 0) from rfl) (by decide) rfl rfl ?_
            refine z_load X (x := c) (show cdA 3 146 = some (.iload 8, 2, 0, 0, 0) from rfl) (List.Mem.tail _ (List.Mem.tail _ (List.Mem.tail _ (List.Mem.tail _ (List.Mem.tail _ (List.Mem.tail _ (List.Mem.tail _ (List.Mem.head _)))))))) ?_
            refine z_ald X 170 (show cdA 3 148 = some (.iaload, 1, 0, 0, 0) from rfl) (by decide) rfl (by first | exact hi.2.2.2.2.2.2.1 | omega) (show c < 66 by first | exact oq_256e4529 g2004 b2003.2 | omega) (by decide) ?_
            have b2009 : ((-2147483648) : Int) ≤ iC t 149 (c).toNat ∧ iC t 149 (c).toNat ≤ 2147483647 := I.2 149 _ (show (c).toNat < 66 by first | exact oq_d7ff7873 g2004 b2003.2 | omega)
            refine z_aload_n X (x := A 163) (show cdA 3 149 = some (.aload_n 0, 1, 0, 0, 0) from rfl) (List.Mem.head _) ?_
            refine s_getR X 163 (show cdA 3 150 = some (.getfield 43, 3, 0, 0, 0) from rfl) (by decide) rfl rfl ?_
            refine s_getR X 68 (show cdA 3 153 = some (.getfield 87, 3, 9, 12, 0) from rfl) (by decide) rfl rfl ?_
            refine z_load_n X (x := ro) (show cdA 3 156 = some (.iload_n 3, 1, 0, 0, 0) from rfl) (List.Mem.tail _ (List.Mem.tail _ (List.Mem.head _))) ?_
            refine z_aload_n X (x := A 163) (show cdA 3 157 = some (.aload_n 0, 1, 0, 0, 0) from rfl) (List.Mem.head _) ?_
            refine s_getR X 163 (show cdA 3 158 = some (.getfield 26, 3, 0, 8, 0) from rfl) (by decide) rfl rfl ?_
            refine z_load X (x := c) (show cdA 3 161 = some (.iload 8, 2, 0, 0, 0) from rfl) (List.Mem.tail _ (List.Mem.tail _ (List.Mem.tail _ (List.Mem.tail _ (List.Mem.tail _ (List.Mem.tail _ (List.Mem.tail _ (List.Mem.head _)))))))) ?_
            refine z_ald X 168 (show cdA 3 163 = some (.iaload, 1, 0, 0, 0) from rfl) (by decide) rfl (by first | exact hi.2.2.2.2.2.2.1 | omega) (show c < 66 by first | exact oq_256e4529 g2004 b2003.2 | omega) (by decide) ?_
            have b2010 : (0 : Int) ≤ iC t 147 (c).toNat ∧ iC t 147 (c).toNat ≤ 11 := I.2 147 _ (show (c).toNat < 66 by first | exact oq_d7ff7873 g2004 b2003.2 | omega)
            refine z_add X (show cdA 3 164 = some (.iadd, 1, 0, 0, 0) from rfl) ?_
            refine z_ald X 79 (show cdA 3 165 = some (.iaload, 1, 0, 0, 0) from rfl) (by decide) rfl (by first | exact oq_dd29f52d hi.2.1.1 b2010.1 | omega) (show (ro + (iC t 147 (c).toNat)) < 288 by first | exact oq_f94a0088 hi.2.1.2 b2010.2 | omega) (by decide) ?_
            have b2011 : (0 : Int) ≤ iC t 67 ((ro + (iC t 147 (c).toNat))).toNat ∧ iC t 67 ((ro + (iC t 147 (c).toNat))).toNat ≤ 50 := I.2 67 _ (show ((ro + (iC t 147 (c).toNat))).toNat < 288 by first | exact oq_3d7ae1dd hi.2.1.2 b2010.2 | omega)
            refine z_aload_n X (x := A 163) (show cdA 3 166 = some (.aload_n 0, 1, 0, 0, 0) from rfl) (List.Mem.head _) ?_
            refine s_getR X 163 (show cdA 3 167 = some (.getfield 43, 3, 0, 0, 0) from rfl) (by decide) rfl rfl ?_
            refine s_getR X 68 (show cdA 3 170 = some (.getfield 87, 3, 9, 12, 0) from rfl) (by decide) rfl rfl ?_
            refine z_load_n X (x := ro) (show cdA 3 173 = some (.iload_n 3, 1, 0, 0, 0) from rfl) (List.Mem.tail _ (List.Mem.tail _ (List.Mem.head _))) ?_
            refine z_aload_n X (x := A 163) (show cdA 3 174 = some (.aload_n 0, 1, 0, 0, 0) from rfl) (List.Mem.head _) ?_
            refine s_getR X 163 (show cdA 3 175 = some (.getfield 29, 3, 0, 9, 0) from rfl) (by decide) rfl rfl ?_
            refine z_load X (x := c) (show cdA 3 178 = some (.iload 8, 2, 0, 0, 0) from rfl) (List.Mem.tail _ (List.Mem.tail _ (List.Mem.tail _ (List.Mem.tail _ (List.Mem.tail _ (List.Mem.tail _ (List.Mem.tail _ (List.Mem.head _)))))))) ?_
            refine z_ald X 169 (show cdA 3 180 = some (.iaload, 1, 0, 0, 0) from rfl) (by decide) rfl (by first | exact hi.2.2.2.2.2.2.1 | omega) (show c < 66 by first | exact oq_256e4529 g2004 b2003.2 | omega) (by decide) ?_
            have b2012 : (0 : Int) ≤ iC t 148 (c).toNat ∧ iC t 148 (c).toNat ≤ 11 := I.2 148 _ (show (c).toNat < 66 by first | exact oq_d7ff7873 g2004 b2003.2 | omega)
            refine z_add X (show cdA 3 181 = some (.iadd, 1, 0, 0, 0) from rfl) ?_
            refine z_ald X 79 (show cdA 3 182 = some (.iaload, 1, 0, 0, 0) from rfl) (by decide) rfl (by first | exact oq_dd29f52d hi.2.1.1 b2012.1 | omega) (show (ro + (iC t 148 (c).toNat)) < 288 by first | exact oq_f94a0088 hi.2.1.2 b2012.2 | omega) (by decide) ?_
            have b2013 : (0 : Int) ≤ iC t 67 ((ro + (iC t 148 (c).toNat))).toNat ∧ iC t 67 ((ro + (iC t 148 (c).toNat))).toNat ≤ 50 := I.2 67 _ (show ((ro + (iC t 148 (c).toNat))).toNat < 288 by first | exact oq_3d7ae1dd hi.2.1.2 b2012.2 | omega)
            refine z_min X (show cdA 3 183 = some (.invokestatic 90, 3, 0, 8, 0) from rfl) (rng_to _) (rng_to _) (by rw [E.2.2.2]; decide) (by rw [E.2.2.2]; exact Nat.le_of_ble_eq_true rfl) (Nat.zero_le _) (Nat.zero_le _) (fun e2014 he2014 => ?_)
            refine z_mul X (show cdA 3 186 = some (.imul, 1, 0, 0, 0) from rfl) ?_
            refine z_any (fun y2015 hy2015 => ?_)
            refine z_add X (show cdA 3 187 = some (.iadd, 1, 0, 0, 0) from rfl) ?_
            refine z_any (fun y2016 hy2016 => ?_)
            refine z_store X (lv' := [(5, .int (Int32.ofInt y2016)), (0, .ref (A 163)), (2, .int (Int32.ofInt yv)), (3, .int (Int32.ofInt ro)), (4, .int (Int32.ofInt wa)), (6, .int (Int32.ofInt ov)), (7, .int (Int32.ofInt cl)), (8, .int (Int32.ofInt c))]) (show cdA 3 188 = some (.istore 5, 2, 0, 0, 0) from rfl) (by decide) (fun _ h => h) ?_
            refine z_inc X (x := c) (lv' := [(8, .int (Int32.ofInt (c + 1))), (5, .int (Int32.ofInt y2016)), (0, .ref (A 163)), (2, .int (Int32.ofInt yv)), (3, .int (Int32.ofInt ro)), (4, .int (Int32.ofInt wa)), (6, .int (Int32.ofInt ov)), (7, .int (Int32.ofInt cl))]) (show cdA 3 190 = some (.iinc 8 1, 3, 0, 0, 0) from rfl) (by decide) (List.Mem.tail _ (List.Mem.tail _ (List.Mem.tail _ (List.Mem.tail _ (List.Mem.tail _ (List.Mem.tail _ (List.Mem.tail _ (List.Mem.head _)))))))) (fun _ h => h) ?_
            refine z_goto X (t := 109) (show cdA 3 193 = some (.goto (-84), 3, 0, 0, 0) from rfl) (by decide) ?_
            refine WS_lv (lv := [(0, .ref (A 163)), (2, .int (Int32.ofInt yv)), (3, .int (Int32.ofInt ro)), (4, .int (Int32.ofInt wa)), (5, .int (Int32.ofInt y2016)), (6, .int (Int32.ofInt ov)), (7, .int (Int32.ofInt cl)), (8, .int (Int32.ofInt (c + 1)))]) (List.forall_mem_cons.mpr ⟨(List.Mem.tail _ (List.Mem.tail _ (List.Mem.head _))), (List.forall_mem_cons.mpr ⟨(List.Mem.tail _ (List.Mem.tail _ (List.Mem.tail _ (List.Mem.head _)))), (List.forall_mem_cons.mpr ⟨(List.Mem.tail _ (List.Mem.tail _ (List.Mem.tail _ (List.Mem.tail _ (List.Mem.head _))))), (List.forall_mem_cons.mpr ⟨(List.Mem.tail _ (List.Mem.tail _ (List.Mem.tail _ (List.Mem.tail _ (List.Mem.tail _ (List.Mem.head _)))))), (List.forall_mem_cons.mpr ⟨(List.Mem.tail _ (List.Mem.head _)), (List.forall_mem_cons.mpr ⟨(List.Mem.tail _ (List.Mem.tail _ (List.Mem.tail _ (List.Mem.tail _ (List.Mem.tail _ (List.Mem.tail _ (List.Mem.head _))))))), (List.forall_mem_cons.mpr ⟨(List.Mem.tail _ (List.Mem.tail _ (List.Mem.tail _ (List.Mem.tail _ (List.Mem.tail _ (List.Mem.tail _ (List.Mem.tail _ (List.Mem.head _)))))))), (List.forall_mem_cons.mpr ⟨(List.Mem.head _), (fun q h => absurd h List.not_mem_nil)⟩)⟩)⟩)⟩)⟩)⟩)⟩)⟩) ?_
            exact ih _ yv ro wa y2016 ov cl (c + 1) I F (by first | exact ⟨And.intro (hi.1.1) (hi.1.2), And.intro (hi.2.1.1) (hi.2.1.2), And.intro (hi.2.2.1.1) (hi.2.2.1.2), And.intro (hy2016.1) (hy2016.2), And.intro (hi.2.2.2.2.1.1) (hi.2.2.2.2.1.2), And.intro (hi.2.2.2.2.2.1.1) (hi.2.2.2.2.2.1.2), oq_54f49eb5 hi.2.2.2.2.2.2.1, oq_319a18a4 g2004 b2003.2⟩ | omega) (by first | exact qk_me hm (by decide) (oq_dd0e9829 g2004 b2003.2) | omega) kx
  refine z_load_n X (x := x) (show cdA 3 0 = some (.iload_n 1, 1, 0, 0, 0) from rfl) (List.Mem.tail _ (List.Mem.head _)) ?_
  refine z_bipush X (show cdA 3 1 = some (.bipush 12, 2, 0, 0, 12) from rfl) ?_
  refine z_mul X (show cdA 3 3 = some (.imul, 1, 0, 0, 0) from rfl) ?_
  refine z_store_n X (lv' := [(3, .int (Int32.ofInt (x * 12))), (0, .ref (A 163)), (1, .int (Int32.ofInt x)), (2, .int (Int32.ofInt y))]) (show cdA 3 4 = some (.istore_n 3, 1, 0, 0, 0) from rfl) (by decide) (fun _ h => h) ?_
  refine z_const X (show cdA 3 5 = some (.iconst 0, 1, 0, 0, 0) from rfl) ?_
  refine z_store X (lv' := [(4, .int (Int32.ofInt 0)), (3, .int (Int32.ofInt (x * 12))), (0, .ref (A 163)), (1, .int (Int32.ofInt x)), (2, .int (Int32.ofInt y))]) (show cdA 3 6 = some (.istore 4, 2, 0, 0, 0) from rfl) (by decide) (fun _ h => h) ?_
  refine z_const X (show cdA 3 8 = some (.iconst 0, 1, 0, 0, 0) from rfl) ?_
  refine z_store X (lv' := [(5, .int (Int32.ofInt 0)), (4, .int (Int32.ofInt 0)), (3, .int (Int32.ofInt (x * 12))), (0, .ref (A 163)), (1, .int (Int32.ofInt x)), (2, .int (Int32.ofInt y))]) (show cdA 3 9 = some (.istore 5, 2, 0, 0, 0) from rfl) (by decide) (fun _ h => h) ?_
  refine z_const X (show cdA 3 11 = some (.iconst 0, 1, 0, 0, 0) from rfl) ?_
  refine z_store X (lv' := [(6, .int (Int32.ofInt 0)), (5, .int (Int32.ofInt 0)), (4, .int (Int32.ofInt 0)), (3, .int (Int32.ofInt (x * 12))), (0, .ref (A 163)), (1, .int (Int32.ofInt x)), (2, .int (Int32.ofInt y))]) (show cdA 3 12 = some (.istore 6, 2, 0, 0, 0) from rfl) (by decide) (fun _ h => h) ?_
  refine z_const X (show cdA 3 14 = some (.iconst 0, 1, 0, 0, 0) from rfl) ?_
  refine z_store X (lv' := [(7, .int (Int32.ofInt 0)), (6, .int (Int32.ofInt 0)), (5, .int (Int32.ofInt 0)), (4, .int (Int32.ofInt 0)), (3, .int (Int32.ofInt (x * 12))), (0, .ref (A 163)), (1, .int (Int32.ofInt x)), (2, .int (Int32.ofInt y))]) (show cdA 3 15 = some (.istore 7, 2, 0, 0, 0) from rfl) (by decide) (fun _ h => h) ?_
  refine z_const X (show cdA 3 17 = some (.iconst 0, 1, 0, 0, 0) from rfl) ?_
  refine z_store X (lv' := [(8, .int (Int32.ofInt 0)), (7, .int (Int32.ofInt 0)), (6, .int (Int32.ofInt 0)), (5, .int (Int32.ofInt 0)), (4, .int (Int32.ofInt 0)), (3, .int (Int32.ofInt (x * 12))), (0, .ref (A 163)), (1, .int (Int32.ofInt x)), (2, .int (Int32.ofInt y))]) (show cdA 3 18 = some (.istore 8, 2, 0, 0, 0) from rfl) (by decide) (fun _ h => h) ?_
  refine WS_lv (lv := [(0, .ref (A 163)), (2, .int (Int32.ofInt y)), (3, .int (Int32.ofInt (x * 12))), (4, .int (Int32.ofInt 0)), (5, .int (Int32.ofInt 0)), (6, .int (Int32.ofInt 0)), (7, .int (Int32.ofInt 0)), (8, .int (Int32.ofInt 0))]) (List.forall_mem_cons.mpr ⟨(List.Mem.tail _ (List.Mem.tail _ (List.Mem.tail _ (List.Mem.tail _ (List.Mem.tail _ (List.Mem.tail _ (List.Mem.head _))))))), (List.forall_mem_cons.mpr ⟨(List.Mem.tail _ (List.Mem.tail _ (List.Mem.tail _ (List.Mem.tail _ (List.Mem.tail _ (List.Mem.tail _ (List.Mem.tail _ (List.Mem.tail _ (List.Mem.head _))))))))), (List.forall_mem_cons.mpr ⟨(List.Mem.tail _ (List.Mem.tail _ (List.Mem.tail _ (List.Mem.tail _ (List.Mem.tail _ (List.Mem.head _)))))), (List.forall_mem_cons.mpr ⟨(List.Mem.tail _ (List.Mem.tail _ (List.Mem.tail _ (List.Mem.tail _ (List.Mem.head _))))), (List.forall_mem_cons.mpr ⟨(List.Mem.tail _ (List.Mem.tail _ (List.Mem.tail _ (List.Mem.head _)))), (List.forall_mem_cons.mpr ⟨(List.Mem.tail _ (List.Mem.tail _ (List.Mem.head _))), (List.forall_mem_cons.mpr ⟨(List.Mem.tail _ (List.Mem.head _)), (List.forall_mem_cons.mpr ⟨(List.Mem.head _), (fun q h => absurd h List.not_mem_nil)⟩)⟩)⟩)⟩)⟩)⟩)⟩)⟩) ?_
  refine L20 ((12 - 0 : Int).toNat + 1) s y (x * 12) 0 0 0 0 0 I F (by first | exact ⟨And.intro (p1.1) (p1.2), And.intro (oq_6b8c39bb p0.1) (oq_70eefe4f p0.2), And.intro (by decide) (by decide), And.intro (by decide) (by decide), And.intro (by decide) (by decide), And.intro (by decide) (by decide), by decide, by decide⟩ | omega) (Nat.lt_succ_self _) ?_
  intro s3 x4 x5 x6 x7 x8 Is3 Fs3 hs3
  have b9 : (0 : Int) ≤ iI s3 67 ∧ iI s3 67 ≤ 12 := Is3.1 67
  have b10 : (0 : Int) ≤ iI s3 68 ∧ iI s3 68 ≤ 66 := Is3.1 68
  refine z_const X (show cdA 3 106 = some (.iconst 0, 1, 0, 0, 0) from rfl) ?_
  refine z_store X (lv' := [(8, .int (Int32.ofInt 0)), (0, .ref (A 163)), (2, .int (Int32.ofInt y)), (3, .int (Int32.ofInt (x * 12))), (4, .int (Int32.ofInt x4)), (5, .int (Int32.ofInt x5)), (6, .int (Int32.ofInt x6)), (7, .int (Int32.ofInt x7))]) (show cdA 3 107 = some (.istore 8, 2, 0, 0, 0) from rfl) (by decide) (fun _ h => h) ?_
  refine WS_lv (lv := [(0, .ref (A 163)), (2, .int (Int32.ofInt y)), (3, .int (Int32.ofInt (x * 12))), (4, .int (Int32.ofInt x4)), (5, .int (Int32.ofInt x5)), (6, .int (Int32.ofInt x6)), (7, .int (Int32.ofInt x7)), (8, .int (Int32.ofInt 0))]) (List.forall_mem_cons.mpr ⟨(List.Mem.tail _ (List.Mem.head _)), (List.forall_mem_cons.mpr ⟨(List.Mem.tail _ (List.Mem.tail _ (List.Mem.head _))), (List.forall_mem_cons.mpr ⟨(List.Mem.tail _ (List.Mem.tail _ (List.Mem.tail _ (List.Mem.head _)))), (List.forall_mem_cons.mpr ⟨(List.Mem.tail _ (List.Mem.tail _ (List.Mem.tail _ (List.Mem.tail _ (List.Mem.head _))))), (List.forall_mem_cons.mpr ⟨(List.Mem.tail _ (List.Mem.tail _ (List.Mem.tail _ (List.Mem.tail _ (List.Mem.tail _ (List.Mem.head _)))))), (List.forall_mem_cons.mpr ⟨(List.Mem.tail _ (List.Mem.tail _ (List.Mem.tail _ (List.Mem.tail _ (List.Mem.tail _ (List.Mem.tail _ (List.Mem.head _))))))), (List.forall_mem_cons.mpr ⟨(List.Mem.tail _ (List.Mem.tail _ (List.Mem.tail _ (List.Mem.tail _ (List.Mem.tail _ (List.Mem.tail _ (List.Mem.tail _ (List.Mem.head _)))))))), (List.forall_mem_cons.mpr ⟨(List.Mem.head _), (fun q h => absurd h List.not_mem_nil)⟩)⟩)⟩)⟩)⟩)⟩)⟩)⟩) ?_
  refine L109 ((66 - 0 : Int).toNat + 1) s3 y (x * 12) x4 x5 x6 x7 0 Is3 Fs3 (by first | exact ⟨And.intro (hs3.1.1) (hs3.1.2), And.intro (hs3.2.1.1) (hs3.2.1.2), And.intro (hs3.2.2.1.1) (hs3.2.2.1.2), And.intro (hs3.2.2.2.1.1) (hs3.2.2.2.1.2), And.intro (hs3.2.2.2.2.1.1) (hs3.2.2.2.2.1.2), And.intro (hs3.2.2.2.2.2.1.1) (hs3.2.2.2.2.2.1.2), by decide, by decide⟩ | omega) (Nat.lt_succ_self _) ?_
  intro s11 x12 x13 Is11 Fs11 hs11
  have b14 : (0 : Int) ≤ iI s11 67 ∧ iI s11 67 ≤ 12 := Is11.1 67
  have b15 : (0 : Int) ≤ iI s11 68 ∧ iI s11 68 ≤ 66 := Is11.1 68
  refine z_aload_n X (x := A 163) (show cdA 3 196 = some (.aload_n 0, 1, 0, 0, 0) from rfl) (List.Mem.head _) ?_
  refine s_getR X 163 (show cdA 3 197 = some (.getfield 37, 3, 0, 11, 0) from rfl) (by decide) rfl rfl ?_
  refine z_const X (show cdA 3 200 = some (.iconst 0, 1, 0, 0, 0) from rfl) ?_
  refine z_load X (x := x4) (show cdA 3 201 = some (.iload 4, 2, 0, 0, 0) from rfl) (List.Mem.tail _ (List.Mem.tail _ (List.Mem.tail _ (List.Mem.head _)))) ?_
  refine z_ast X 171 (show cdA 3 203 = some (.iastore, 1, 0, 0, 0) from rfl) (by decide) rfl (by decide) (show 0 < 7 by decide) (by decide) ?_
  obtain ⟨s16, hs16⟩ : ∃ x0, x0 = uC s11 150 (0 : Int).toNat (Int32.ofInt x4) := ⟨_, rfl⟩
  rw [← hs16]
  have Is16 : Bd s16 := by rw [hs16]; exact bd_C Is11 (show ((-2147483648) : Int) ≤ x4 ∧ x4 ≤ 2147483647 by first | exact ⟨hs11.2.2.1.1, hs11.2.2.1.2⟩ | omega) ⟨by first | exact hs11.2.2.1.1 | omega, by first | exact hs11.2.2.1.2 | omega⟩
  have Fs16 := fm_C (i := (0 : Int).toNat) (x := Int32.ofInt x4) Fs11 (show 150 ∈ _ by decide)
  rw [← hs16] at Fs16
  have ws16_67 : iI s16 67 = iI s11 67 := by rw [hs16]; rfl
  have ws16_68 : iI s16 68 = iI s11 68 := by rw [hs16]; rfl
  refine z_aload_n X (x := A 163) (show cdA 3 204 = some (.aload_n 0, 1, 0, 0, 0) from rfl) (List.Mem.head _) ?_
  refine s_getR X 163 (show cdA 3 205 = some (.getfield 37, 3, 0, 11, 0) from rfl) (by decide) rfl rfl ?_
  refine z_const X (show cdA 3 208 = some (.iconst 1, 1, 0, 0, 0) from rfl) ?_
  refine z_load X (x := x12) (show cdA 3 209 = some (.iload 5, 2, 0, 0, 0) from rfl) (List.Mem.tail _ (List.Mem.tail _ (List.Mem.tail _ (List.Mem.tail _ (List.Mem.head _))))) ?_
  refine z_ast X 171 (show cdA 3 211 = some (.iastore, 1, 0, 0, 0) from rfl) (by decide) rfl (by decide) (show 1 < 7 by decide) (by decide) ?_
  obtain ⟨s17, hs17⟩ : ∃ x0, x0 = uC s16 150 (1 : Int).toNat (Int32.ofInt x12) := ⟨_, rfl⟩
  rw [← hs17]
  have Is17 : Bd s17 := by rw [hs17]; exact bd_C Is16 (show ((-2147483648) : Int) ≤ x12 ∧ x12 ≤ 2147483647 by first | exact ⟨hs11.2.2.2.1.1, hs11.2.2.2.1.2⟩ | omega) ⟨by first | exact hs11.2.2.2.1.1 | omega, by first | exact hs11.2.2.2.1.2 | omega⟩
  have Fs17 := fm_C (i := (1 : Int).toNat) (x := Int32.ofInt x12) Fs16 (show 150 ∈ _ by decide)
  rw [← hs17] at Fs17
  have ws17_67 : iI s17 67 = iI s16 67 := by rw [hs17]; rfl
  have ws17_68 : iI s17 68 = iI s16 68 := by rw [hs17]; rfl
  refine z_aload_n X (x := A 163) (show cdA 3 212 = some (.aload_n 0, 1, 0, 0, 0) from rfl) (List.Mem.head _) ?_
  refine s_getR X 163 (show cdA 3 213 = some (.getfield 37, 3, 0, 11, 0) from rfl) (by decide) rfl rfl ?_
  refine z_const X (show cdA 3 216 = some (.iconst 2, 1, 0, 0, 0) from rfl) ?_
  refine z_load X (x := x6) (show cdA 3 217 = some (.iload 6, 2, 0, 0, 0) from rfl) (List.Mem.tail _ (List.Mem.tail _ (List.Mem.tail _ (List.Mem.tail _ (List.Mem.tail _ (List.Mem.head _)))))) ?_
  refine z_ast X 171 (show cdA 3 219 = some (.iastore, 1, 0, 0, 0) from rfl) (by decide) rfl (by decide) (show 2 < 7 by decide) (by decide) ?_
  obtain ⟨s18, hs18⟩ : ∃ x0, x0 = uC s17 150 (2 : Int).toNat (Int32.ofInt x6) := ⟨_, rfl⟩
  rw [← hs18]
  have Is18 : Bd s18 := by rw [hs18]; exact bd_C Is17 (show ((-2147483648) : Int) ≤ x6 ∧ x6 ≤ 2147483647 by first | exact ⟨hs11.2.2.2.2.1.1, hs11.2.2.2.2.1.2⟩ | omega) ⟨by first | exact hs11.2.2.2.2.1.1 | omega, by first | exact hs11.2.2.2.2.1.2 | omega⟩
  have Fs18 := fm_C (i := (2 : Int).toNat) (x := Int32.ofInt x6) Fs17 (show 150 ∈ _ by decide)
  rw [← hs18] at Fs18
  have ws18_67 : iI s18 67 = iI s17 67 := by rw [hs18]; rfl
  have ws18_68 : iI s18 68 = iI s17 68 := by rw [hs18]; rfl
  refine z_aload_n X (x := A 163) (show cdA 3 220 = some (.aload_n 0, 1, 0, 0, 0) from rfl) (List.Mem.head _) ?_
  refine s_getR X 163 (show cdA 3 221 = some (.getfield 37, 3, 0, 11, 0) from rfl) (by decide) rfl rfl ?_
  refine z_const X (show cdA 3 224 = some (.iconst 3, 1, 0, 0, 0) from rfl) ?_
  refine z_load X (x := x7) (show cdA 3 225 = some (.iload 7, 2, 0, 0, 0) from rfl) (List.Mem.tail _ (List.Mem.tail _ (List.Mem.tail _ (List.Mem.tail _ (List.Mem.tail _ (List.Mem.tail _ (List.Mem.head _))))))) ?_
  refine z_ast X 171 (show cdA 3 227 = some (.iastore, 1, 0, 0, 0) from rfl) (by decide) rfl (by decide) (show 3 < 7 by decide) (by decide) ?_
  obtain ⟨s19, hs19⟩ : ∃ x0, x0 = uC s18 150 (3 : Int).toNat (Int32.ofInt x7) := ⟨_, rfl⟩
  rw [← hs19]
  have Is19 : Bd s19 := by rw [hs19]; exact bd_C Is18 (show ((-2147483648) : Int) ≤ x7 ∧ x7 ≤ 2147483647 by first | exact ⟨hs11.2.2.2.2.2.1.1, hs11.2.2.2.2.2.1.2⟩ | omega) ⟨by first | exact hs11.2.2.2.2.2.1.1 | omega, by first | exact hs11.2.2.2.2.2.1.2 | omega⟩
  have Fs19 := fm_C (i := (3 : Int).toNat) (x := Int32.ofInt x7) Fs18 (show 150 ∈ _ by decide)
  rw [← hs19] at Fs19
  have ws19_67 : iI s19 67 = iI s18 67 := by rw [hs19]; rfl
  have ws19_68 : iI s19 68 = iI s18 68 := by rw [hs19]; rfl
  exact w_vret X.1 q hRt (ax_d X (show cdA 3 228 = some (.return_, 1, 0, 0, 0) from rfl)) (Nat.zero_le _) (Nat.zero_le _) ⟨_, rfl, Is19, Fs19, rfl, trivial⟩
set_option maxRecDepth 4000 in
theorem c7_work_163 (G : GX l s0 D tys a0 dT) (I : Bd s) {x : Int} (p0 : -1 ≤ x ∧ x ≤ 7) : CT l s0 D A dT 84 (rmN 84) [.ref (A 19), .int (Int32.ofInt x), .ref (A 171)] s (fun o t => Bd t ∧ Fm [] [20] s t ∧ ∃ e, o = .inl (some (.int (Int32.ofInt e))) ∧ rng e ∧ (True)) := by
  refine ct_ofX G (by decide) (Nat.le_of_ble_eq_true rfl) (fun k X E ET hRt hXt q => ?_)
  show WS k 0 [(0, .ref (A 19)), (1, .int (Int32.ofInt x)), (2, .ref (A 171))] [] _ 0 0
  have F : Fm [] [20] s s := fm_rf _ _ s
  have L28 : ∀ (n : Nat) (t : PS) (xv dp c : Int), Bd t → Fm [] [20] s t → ((0 ≤ xv ∧ xv ≤ 7) ∧ (0 ≤ dp ∧ dp ≤ 200) ∧ 0 ≤ c ∧ c ≤ 200) → (200 - c : Int).toNat < n → (∀ (t' : PS) (dp' c' : Int), Bd t' → Fm [] [20] s t' → ((0 ≤ xv ∧ xv ≤ 7) ∧ (0 ≤ dp' ∧ dp' ≤ 200) ∧ 0 ≤ c' ∧ c' ≤ 200) → WS k 163 [(0, .ref (A 19)), (2, .ref (A 171)), (1, .int (Int32.ofInt xv)), (3, .int (Int32.ofInt dp')), (4, .int (Int32.ofInt c'))] [] (Wd A dT t') 0 0) → WS k 28 [(0, .ref (A 19)), (2, .ref (A 171)), (1, .int (Int32.ofInt xv)), (3, .int (Int32.ofInt dp)), (4, .int (Int32.ofInt c))] [] (Wd A dT t) 0 0 := by
    intro n
    induction n with
    | zero =>
      intro t xv dp c I F hi hm kx
      exact absurd hm (Nat.not_lt_zero _)
    | succ n ih =>
      intro t xv dp c I F hi hm kx
      refine z_load X (x := c) (show cdA 84 28 = some (.iload 4, 2, 0, 0, 0) from rfl) (List.Mem.tail _ (List.Mem.tail _ (List.Mem.tail _ (List.Mem.tail _ (List.Mem.head _))))) ?_
      refine z_aload_n X (x := A 19) (show cdA 84 30 = some (.aload_n 0, 1, 0, 0, 0) from rfl) (List.Mem.head _) ?_
      refine s_getR X 19 (show cdA 84 31 = some (.getfield 15, 3, 7, 2, 0) from rfl) (by decide) rfl rfl ?_
      refine z_load_n X (x := xv) (show cdA 84 34 = some (.iload_n 1, 1, 0, 0, 0) from rfl) (List.Mem.tail _ (List.Mem.tail _ (List.Mem.head _))) ?_
      refine z_ald X 21 (show cdA 84 35 = some (.iaload, 1, 0, 0, 0) from rfl) (by decide) rfl (by first | exact hi.1.1 | omega) (show xv < 8 by first | exact oq_aaea290e hi.1.2 | omega) (by decide) ?_
      have b1001 : (0 : Int) ≤ iC t 17 (xv).toNat ∧ iC t 17 (xv).toNat ≤ 200 := I.2 17 _ (show (xv).toNat < 8 by first | exact oq_c19a3aae hi.1.2 | omega)
      refine z_icmp_ge X (t := 163) (show cdA 84 36 = some (.if_icmp .ge 127, 3, 3, 0, 0) from rfl) (by decide) ⟨by first | exact oq_fa4e5087 hi.2.2.1 | omega, by first | exact oq_52af2b96 hi.2.2.2 | omega⟩ (rng_to _) (fun g1002 => ?_) (fun g1002 => ?_)
      ·
        refine WS_lv (lv := [(0, .ref (A 19)), (2, .ref (A 171)), (1, .int (Int32.ofInt xv)), (3, .int (Int32.ofInt dp)), (4, .int (Int32.ofInt c))]) (List.forall_mem_cons.mpr ⟨(List.Mem.head _), (List.forall_mem_cons.mpr ⟨(List.Mem.tail _ (List.Mem.head _)), (List.forall_mem_cons.mpr ⟨(List.Mem.tail _ (List.Mem.tail _ (List.Mem.head _))), (List.forall_mem_cons.mpr ⟨(List.Mem.tail _ (List.Mem.tail _ (List.Mem.tail _ (List.Mem.head _)))), (List.forall_mem_cons.mpr ⟨(List.Mem.tail _ (List.Mem.tail _ (List.Mem.tail _ (List.Mem.tail _ (List.Mem.head _))))), (fun q h => absurd h List.not_mem_nil)⟩)⟩)⟩)⟩)⟩) ?_
        exact kx _ dp c I F (by first | exact ⟨And.intro (hi.1.1) (hi.1.2), And.intro (hi.2.1.1) (hi.2.1.2), hi.2.2.1, hi.2.2.2⟩ | omega)
      ·
        refine z_aload_n X (x := A 19) (show cdA 84 39 = some (.aload_n 0, 1, 0, 0, 0) from rfl) (List.Mem.head _) ?_
        refine s_getR X 19 (show cdA 84 40 = some (.getfield 11, 3, 7, 1, 0) from rfl) (by decide) rfl rfl ?_
        refine z_load X (x := c) (show cdA 84 43 = some (.iload 4, 2, 0, 0, 0) from rfl) (List.Mem.tail _ (List.Mem.tail _ (List.Mem.tail _ (List.Mem.tail _ (List.Mem.head _))))) ?_
        refine z_ald X 20 (show cdA 84 45 = some (.iaload, 1, 0, 0, 0) from rfl) (by decide) rfl (by first | exact hi.2.2.1 | omega) (show c < 200 by first | exact oq_6fca3d72 g1002 b1001.2 | omega) (by decide) ?_
        have b1003 : ((-2147483648) : Int) ≤ iC t 16 (c).toNat ∧ iC t 16 (c).toNat ≤ 2147483647 := I.2 16 _ (show (c).toNat < 200 by first | exact oq_b70289d5 g1002 b1001.2 | omega)
        refine z_store X (lv' := [(5, .int (Int32.ofInt (iC t 16 (c).toNat))), (0, .ref (A 19)), (2, .ref (A 171)), (1, .int (Int32.ofInt xv)), (3, .int (Int32.ofInt dp)), (4, .int (Int32.ofInt c))]) (show cdA 84 46 = some (.istore 5, 2, 0, 0, 0) from rfl) (by decide) (fun _ h => h) ?_
        refine z_load X (x := (iC t 16 (c).toNat)) (show cdA 84 48 = some (.iload 5, 2, 0, 0, 0) from rfl) (List.Mem.head _) ?_
        refine z_bipush X (show cdA 84 50 = some (.bipush (-8), 2, 0, 0, (-8)) from rfl) ?_
        refine z_icmp_le X (t := 90) (show cdA 84 52 = some (.if_icmp .le 38, 3, 5, 0, 0) from rfl) (by decide) (rng_to _) (by decide) (fun g1004 => ?_) (fun g1004 => ?_)
        ·
          refine z_load X (x := (iC t 16 (c).toNat)) (show cdA 84 90 = some (.iload 5, 2, 0, 0, 0) from rfl) (List.Mem.head _) ?_
          refine z_bipush X (show cdA 84 92 = some (.bipush (-8), 2, 0, 0, (-8)) from rfl) ?_
          refine z_icmp_ne X (t := 122) (show cdA 84 94 = some (.if_icmp .ne 28, 3, 1, 0, 0) from rfl) (by decide) (rng_to _) (by decide) (fun g1005 => ?_) (fun g1005 => ?_)
          ·
            refine z_load_n X (x := dp) (show cdA 84 122 = some (.iload_n 3, 1, 0, 0, 0) from rfl) (List.Mem.tail _ (List.Mem.tail _ (List.Mem.tail _ (List.Mem.tail _ (List.Mem.head _))))) ?_
            refine z_const X (show cdA 84 123 = some (.iconst 1, 1, 0, 0, 0) from rfl) ?_
            refine z_icmp_le X (t := 157) (show cdA 84 124 = some (.if_icmp .le 33, 3, 5, 0, 0) from rfl) (by decide) ⟨by first | exact oq_fa4e5087 hi.2.1.1 | omega, by first | exact oq_52af2b96 hi.2.1.2 | omega⟩ (by decide) (fun g1006 => ?_) (fun g1006 => ?_)
            ·
              refine z_inc X (x := c) (lv' := [(4, .int (Int32.ofInt (c + 1))), (5, .int (Int32.ofInt (iC t 16 (c).toNat))), (0, .ref (A 19)), (2, .ref (A 171)), (1, .int (Int32.ofInt xv)), (3, .int (Int32.ofInt dp))]) (show cdA 84 157 = some (.iinc 4 1, 3, 0, 0, 0) from rfl) (by decide) (List.Mem.tail _ (List.Mem.tail _ (List.Mem.tail _ (List.Mem.tail _ (List.Mem.tail _ (List.Mem.head _)))))) (fun _ h => h) ?_
              refine z_goto X (t := 28) (show cdA 84 160 = some (.goto (-132), 3, 0, 0, 0) from rfl) (by decide) ?_
              refine WS_lv (lv := [(0, .ref (A 19)), (2, .ref (A 171)), (1, .int (Int32.ofInt xv)), (3, .int (Int32.ofInt dp)), (4, .int (Int32.ofInt (c + 1)))]) (List.forall_mem_cons.mpr ⟨(List.Mem.tail _ (List.Mem.tail _ (List.Mem.head _))), (List.forall_mem_cons.mpr ⟨(List.Mem.tail _ (List.Mem.tail _ (List.Mem.tail _ (List.Mem.head _)))), (List.forall_mem_cons.mpr ⟨(List.Mem.tail _ (List.Mem.tail _ (List.Mem.tail _ (List.Mem.tail _ (List.Mem.head _))))), (List.forall_mem_cons.mpr ⟨(List.Mem.tail _ (List.Mem.tail _ (List.Mem.tail _ (List.Mem.tail _ (List.Mem.tail _ (List.Mem.head _)))))), (List.forall_mem_cons.mpr ⟨(List.Mem.head _), (fun q h => absurd h List.not_mem_nil)⟩)⟩)⟩)⟩)⟩) ?_
              exact ih _ xv dp (c + 1) I F (by first | exact ⟨And.intro (hi.1.1) (hi.1.2), And.intro (hi.2.1.1) (hi.2.1.2), oq_54f49eb5 hi.2.2.1, oq_228270fa g1002 b1001.2⟩ | omega) (by first | exact qk_me hm (by decide) (oq_b0a4f3e2 g1002 b1001.2) | omega) kx
            ·
              refine z_inc X (x := dp) (lv' := [(3, .int (Int32.ofInt (dp + (-1)))), (5, .int (Int32.ofInt (iC t 16 (c).toNat))), (0, .ref (A 19)), (2, .ref (A 171)), (1, .int (Int32.ofInt xv)), (4, .int (Int32.ofInt c))]) (show cdA 84 127 = some (.iinc 3 (-1), 3, 0, 0, 0) from rfl) (by decide) (List.Mem.tail _ (List.Mem.tail _ (List.Mem.tail _ (List.Mem.tail _ (List.Mem.head _))))) (fun _ h => h) ?_
              refine z_aload_n X (x := A 19) (show cdA 84 130 = some (.aload_n 0, 1, 0, 0, 0) from rfl) (List.Mem.tail _ (List.Mem.tail _ (List.Mem.head _))) ?_
              refine s_getR X 19 (show cdA 84 131 = some (.getfield 28, 3, 7, 13, 0) from rfl) (by decide) rfl rfl ?_
              refine z_load_n X (x := (dp + (-1))) (show cdA 84 134 = some (.iload_n 3, 1, 0, 0, 0) from rfl) (List.Mem.head _) ?_
              refine z_const X (show cdA 84 135 = some (.iconst 1, 1, 0, 0, 0) from rfl) ?_
              refine z_sub X (show cdA 84 136 = some (.isub, 1, 0, 0, 0) from rfl) ?_
              refine z_load X (x := (iC t 16 (c).toNat)) (show cdA 84 137 = some (.iload 5, 2, 0, 0, 0) from rfl) (List.Mem.tail _ (List.Mem.head _)) ?_
              refine z_aload_n X (x := A 19) (show cdA 84 139 = some (.aload_n 0, 1, 0, 0, 0) from rfl) (List.Mem.tail _ (List.Mem.tail _ (List.Mem.head _))) ?_
              refine s_getR X 19 (show cdA 84 140 = some (.getfield 28, 3, 7, 13, 0) from rfl) (by decide) rfl rfl ?_
              refine z_load_n X (x := (dp + (-1))) (show cdA 84 143 = some (.iload_n 3, 1, 0, 0, 0) from rfl) (List.Mem.head _) ?_
              refine z_const X (show cdA 84 144 = some (.iconst 1, 1, 0, 0, 0) from rfl) ?_
              refine z_sub X (show cdA 84 145 = some (.isub, 1, 0, 0, 0) from rfl) ?_
              refine z_ald X 24 (show cdA 84 146 = some (.iaload, 1, 0, 0, 0) from rfl) (by decide) rfl (by first | exact oq_d588e9be g1006 | omega) (show ((dp + (-1)) - 1) < 200 by first | exact oq_f9b4958f hi.2.1.2 | omega) (by decide) ?_
              have b1007 : ((-2147483648) : Int) ≤ iC t 20 (((dp + (-1)) - 1)).toNat ∧ iC t 20 (((dp + (-1)) - 1)).toNat ≤ 2147483647 := I.2 20 _ (show (((dp + (-1)) - 1)).toNat < 200 by first | exact oq_ab8c951f hi.2.1.2 | omega)
              refine z_aload_n X (x := A 19) (show cdA 84 147 = some (.aload_n 0, 1, 0, 0, 0) from rfl) (List.Mem.tail _ (List.Mem.tail _ (List.Mem.head _))) ?_
              refine s_getR X 19 (show cdA 84 148 = some (.getfield 28, 3, 7, 13, 0) from rfl) (by decide) rfl rfl ?_
              refine z_load_n X (x := (dp + (-1))) (show cdA 84 151 = some (.iload_n 3, 1, 0, 0, 0) from rfl) (List.Mem.head _) ?_
              refine z_ald X 24 (show cdA 84 152 = some (.iaload, 1, 0, 0, 0) from rfl) (by decide) rfl (by first | exact oq_6c14892a g1006 | omega) (show (dp + (-1)) < 200 by first | exact oq_2dcece94 hi.2.1.2 | omega) (by decide) ?_
              have b1008 : ((-2147483648) : Int) ≤ iC t 20 ((dp + (-1))).toNat ∧ iC t 20 ((dp + (-1))).toNat ≤ 2147483647 := I.2 20 _ (show ((dp + (-1))).toNat < 200 by first | exact oq_323b4624 hi.2.1.2 | omega)
              refine z_callS X (rm := rmN 85) (As := [.int (Int32.ofInt (iC t 16 (c).toNat)), .int (Int32.ofInt (iC t 20 (((dp + (-1)) - 1)).toNat)), .int (Int32.ofInt (iC t 20 ((dp + (-1))).toNat))]) (st := [.int (Int32.ofInt ((dp + (-1)) - 1)), .ref (A 24)]) (show cdA 84 153 = some (.invokestatic 154, 3, 85, 1, 0) from rfl) rfl (by rw [E.1, E.2.1, E.2.2.1]; exact c7_joined G I (by first | exact ⟨b1003.1, b1003.2⟩ | omega) (by first | exact ⟨b1007.1, b1007.2⟩ | omega) (by first | exact ⟨b1008.1, b1008.2⟩ | omega)) ⟨by rw [E.2.2.2]; exact (show (rmN 85).frames + 1 ≤ (rmN 84).frames by decide), by rw [E.2.2.2]; exact (show 8 + (mNL (miB 85) + 11) + (rmN 85).locals ≤ (rmN 84).locals by decide), by rw [E.2.2.2]; exact (show 0 + (rmN 85).cells ≤ (rmN 84).cells by decide), by rw [E.2.2.2]; exact (show 0 + (rmN 85).slots ≤ (rmN 84).slots by decide)⟩ (Nat.le_of_ble_eq_true rfl) (fun vv s1009 hq => ?_) (fun ee s1009 hq => ?_)
              rotate_left
              · obtain ⟨rfl, e1010, hv, hrs1009, hps1009⟩ := hq; cases hv
              obtain ⟨rfl, e1010, hv, hrs1009, hps1009⟩ := hq
              cases hv
              show WS k 156 [(3, .int (Int32.ofInt (dp + (-1)))), (5, .int (Int32.ofInt (iC t 16 (c).toNat))), (0, .ref (A 19)), (2, .ref (A 171)), (1, .int (Int32.ofInt xv)), (4, .int (Int32.ofInt c))] [.int (Int32.ofInt e1010), .int (Int32.ofInt ((dp + (-1)) - 1)), .ref (A 24)] (Wd A dT t) 0 0
              refine z_ast X 24 (show cdA 84 156 = some (.iastore, 1, 0, 0, 0) from rfl) (by decide) rfl (by first | exact oq_d588e9be g1006 | omega) (show ((dp + (-1)) - 1) < 200 by first | exact oq_f9b4958f hi.2.1.2 | omega) (by decide) ?_
              obtain ⟨s1011, hs1011⟩ : ∃ x0, x0 = uC t 20 (((dp + (-1)) - 1)).toNat (Int32.ofInt e1010) := ⟨_, rfl⟩
              rw [← hs1011]
              have Is1011 : Bd s1011 := by rw [hs1011]; exact bd_C I (show ((-2147483648) : Int) ≤ e1010 ∧ e1010 ≤ 2147483647 by first | exact ⟨hps1009.1, hps1009.2⟩ | omega) hrs1009
              have Fs1011 := fm_C (i := (((dp + (-1)) - 1)).toNat) (x := Int32.ofInt e1010) F (show 20 ∈ _ by decide)
              rw [← hs1011] at Fs1011
              refine z_inc X (x := c) (lv' := [(4, .int (Int32.ofInt (c + 1))), (3, .int (Int32.ofInt (dp + (-1)))), (5, .int (Int32.ofInt (iC t 16 (c).toNat))), (0, .ref (A 19)), (2, .ref (A 171)), (1, .int (Int32.ofInt xv))]) (show cdA 84 157 = some (.iinc 4 1, 3, 0, 0, 0) from rfl) (by decide) (List.Mem.tail _ (List.Mem.tail _ (List.Mem.tail _ (List.Mem.tail _ (List.Mem.tail _ (List.Mem.head _)))))) (fun _ h => h) ?_
              refine z_goto X (t := 28) (show cdA 84 160 = some (.goto (-132), 3, 0, 0, 0) from rfl) (by decide) ?_
              refine WS_lv (lv := [(0, .ref (A 19)), (2, .ref (A 171)), (1, .int (Int32.ofInt xv)), (3, .int (Int32.ofInt (dp + (-1)))), (4, .int (Int32.ofInt (c + 1)))]) (List.forall_mem_cons.mpr ⟨(List.Mem.tail _ (List.Mem.tail _ (List.Mem.tail _ (List.Mem.head _)))), (List.forall_mem_cons.mpr ⟨(List.Mem.tail _ (List.Mem.tail _ (List.Mem.tail _ (List.Mem.tail _ (List.Mem.head _))))), (List.forall_mem_cons.mpr ⟨(List.Mem.tail _ (List.Mem.tail _ (List.Mem.tail _ (List.Mem.tail _ (List.Mem.tail _ (List.Mem.head _)))))), (List.forall_mem_cons.mpr ⟨(List.Mem.tail _ (List.Mem.head _)), (List.forall_mem_cons.mpr ⟨(List.Mem.head _), (fun q h => absurd h List.not_mem_nil)⟩)⟩)⟩)⟩)⟩) ?_
              exact ih _ xv (dp + (-1)) (c + 1) Is1011 Fs1011 (by first | exact ⟨And.intro (hi.1.1) (hi.1.2), And.intro (oq_6c14892a g1006) (oq_af76c38b hi.2.1.2), oq_54f49eb5 hi.2.2.1, oq_228270fa g1002 b1001.2⟩ | omega) (by first | exact qk_me hm (by decide) (oq_b0a4f3e2 g1002 b1001.2) | omega) kx
          ·
            refine z_load_n X (x := dp) (show cdA 84 97 = some (.iload_n 3, 1, 0, 0, 0) from rfl) (List.Mem.tail _ (List.Mem.tail _ (List.Mem.tail _ (List.Mem.tail _ (List.Mem.head _))))) ?_
            refine z_if_le X (t := 157) (show cdA 84 98 = some (.ifCond .le 59, 3, 5, 0, 0) from rfl) (by decide) ⟨by first | exact oq_fa4e5087 hi.2.1.1 | omega, by first | exact oq_52af2b96 hi.2.1.2 | omega⟩ (fun g1012 => ?_) (fun g1012 => ?_)
            ·
              refine z_inc X (x := c) (lv' := [(4, .int (Int32.ofInt (c + 1))), (5, .int (Int32.ofInt (iC t 16 (c).toNat))), (0, .ref (A 19)), (2, .ref (A 171)), (1, .int (Int32.ofInt xv)), (3, .int (Int32.ofInt dp))]) (show cdA 84 157 = some (.iinc 4 1, 3, 0, 0, 0) from rfl) (by decide) (List.Mem.tail _ (List.Mem.tail _ (List.Mem.tail _ (List.Mem.tail _ (List.Mem.tail _ (List.Mem.head _)))))) (fun _ h => h) ?_
              refine z_goto X (t := 28) (show cdA 84 160 = some (.goto (-132), 3, 0, 0, 0) from rfl) (by decide) ?_
              refine WS_lv (lv := [(0, .ref (A 19)), (2, .ref (A 171)), (1, .int (Int32.ofInt xv)), (3, .int (Int32.ofInt dp)), (4, .int (Int32.ofInt (c + 1)))]) (List.forall_mem_cons.mpr ⟨(List.Mem.tail _ (List.Mem.tail _ (List.Mem.head _))), (List.forall_mem_cons.mpr ⟨(List.Mem.tail _ (List.Mem.tail _ (List.Mem.tail _ (List.Mem.head _)))), (List.forall_mem_cons.mpr ⟨(List.Mem.tail _ (List.Mem.tail _ (List.Mem.tail _ (List.Mem.tail _ (List.Mem.head _))))), (List.forall_mem_cons.mpr ⟨(List.Mem.tail _ (List.Mem.tail _ (List.Mem.tail _ (List.Mem.tail _ (List.Mem.tail _ (List.Mem.head _)))))), (List.forall_mem_cons.mpr ⟨(List.Mem.head _), (fun q h => absurd h List.not_mem_nil)⟩)⟩)⟩)⟩)⟩) ?_
              exact ih _ xv dp (c + 1) I F (by first | exact ⟨And.intro (hi.1.1) (hi.1.2), And.intro (hi.2.1.1) (hi.2.1.2), oq_54f49eb5 hi.2.2.1, oq_228270fa g1002 b1001.2⟩ | omega) (by first | exact qk_me hm (by decide) (oq_b0a4f3e2 g1002 b1001.2) | omega) kx
            ·
              refine z_aload_n X (x := A 19) (show cdA 84 101 = some (.aload_n 0, 1, 0, 0, 0) from rfl) (List.Mem.tail _ (List.Mem.head _)) ?_
              refine s_getR X 19 (show cdA 84 102 = some (.getfield 28, 3, 7, 13, 0) from rfl) (by decide) rfl rfl ?_
              refine z_load_n X (x := dp) (show cdA 84 105 = some (.iload_n 3, 1, 0, 0, 0) from rfl) (List.Mem.tail _ (List.Mem.tail _ (List.Mem.tail _ (List.Mem.tail _ (List.Mem.head _))))) ?_
              refine z_const X (show cdA 84 106 = some (.iconst 1, 1, 0, 0, 0) from rfl) ?_
              refine z_sub X (show cdA 84 107 = some (.isub, 1, 0, 0, 0) from rfl) ?_
              refine z_const X (show cdA 84 108 = some (.iconst 1, 1, 0, 0, 0) from rfl) ?_
              refine z_aload_n X (x := A 19) (show cdA 84 109 = some (.aload_n 0, 1, 0, 0, 0) from rfl) (List.Mem.tail _ (List.Mem.head _)) ?_
              refine s_getR X 19 (show cdA 84 110 = some (.getfield 28, 3, 7, 13, 0) from rfl) (by decide) rfl rfl ?_
              refine z_load_n X (x := dp) (show cdA 84 113 = some (.iload_n 3, 1, 0, 0, 0) from rfl) (List.Mem.tail _ (List.Mem.tail _ (List.Mem.tail _ (List.Mem.tail _ (List.Mem.head _))))) ?_
              refine z_const X (show cdA 84 114 = some (.iconst 1, 1, 0, 0, 0) from rfl) ?_
              refine z_sub X (show cdA 84 115 = some (.isub, 1, 0, 0, 0) from rfl) ?_
              refine z_ald X 24 (show cdA 84 116 = some (.iaload, 1, 0, 0, 0) from rfl) (by decide) rfl (by first | exact oq_a4f22177 g1012 | omega) (show (dp - 1) < 200 by first | exact oq_76ad2bb2 hi.2.1.2 | omega) (by decide) ?_
              have b1013 : ((-2147483648) : Int) ≤ iC t 20 ((dp - 1)).toNat ∧ iC t 20 ((dp - 1)).toNat ≤ 2147483647 := I.2 20 _ (show ((dp - 1)).toNat < 200 by first | exact oq_a03494ec hi.2.1.2 | omega)
              refine z_sub X (show cdA 84 117 = some (.isub, 1, 0, 0, 0) from rfl) ?_
              refine z_any (fun y1014 hy1014 => ?_)
              refine z_ast X 24 (show cdA 84 118 = some (.iastore, 1, 0, 0, 0) from rfl) (by decide) rfl (by first | exact oq_a4f22177 g1012 | omega) (show (dp - 1) < 200 by first | exact oq_76ad2bb2 hi.2.1.2 | omega) (by decide) ?_
              obtain ⟨s1015, hs1015⟩ : ∃ x0, x0 = uC t 20 ((dp - 1)).toNat (Int32.ofInt y1014) := ⟨_, rfl⟩
              rw [← hs1015]
              have Is1015 : Bd s1015 := by rw [hs1015]; exact bd_C I (show ((-2147483648) : Int) ≤ y1014 ∧ y1014 ≤ 2147483647 by first | exact ⟨hy1014.1, hy1014.2⟩ | omega) hy1014
              have Fs1015 := fm_C (i := ((dp - 1)).toNat) (x := Int32.ofInt y1014) F (show 20 ∈ _ by decide)
              rw [← hs1015] at Fs1015
              refine z_goto X (t := 157) (show cdA 84 119 = some (.goto 38, 3, 0, 0, 0) from rfl) (by decide) ?_
              refine z_inc X (x := c) (lv' := [(4, .int (Int32.ofInt (c + 1))), (5, .int (Int32.ofInt (iC t 16 (c).toNat))), (0, .ref (A 19)), (2, .ref (A 171)), (1, .int (Int32.ofInt xv)), (3, .int (Int32.ofInt dp))]) (show cdA 84 157 = some (.iinc 4 1, 3, 0, 0, 0) from rfl) (by decide) (List.Mem.tail _ (List.Mem.tail _ (List.Mem.tail _ (List.Mem.tail _ (List.Mem.tail _ (List.Mem.head _)))))) (fun _ h => h) ?_
              refine z_goto X (t := 28) (show cdA 84 160 = some (.goto (-132), 3, 0, 0, 0) from rfl) (by decide) ?_
              refine WS_lv (lv := [(0, .ref (A 19)), (2, .ref (A 171)), (1, .int (Int32.ofInt xv)), (3, .int (Int32.ofInt dp)), (4, .int (Int32.ofInt (c + 1)))]) (List.forall_mem_cons.mpr ⟨(List.Mem.tail _ (List.Mem.tail _ (List.Mem.head _))), (List.forall_mem_cons.mpr ⟨(List.Mem.tail _ (List.Mem.tail _ (List.Mem.tail _ (List.Mem.head _)))), (List.forall_mem_cons.mpr ⟨(List.Mem.tail _ (List.Mem.tail _ (List.Mem.tail _ (List.Mem.tail _ (List.Mem.head _))))), (List.forall_mem_cons.mpr ⟨(List.Mem.tail _ (List.Mem.tail _ (List.Mem.tail _ (List.Mem.tail _ (List.Mem.tail _ (List.Mem.head _)))))), (List.forall_mem_cons.mpr ⟨(List.Mem.head _), (fun q h => absurd h List.not_mem_nil)⟩)⟩)⟩)⟩)⟩) ?_
              exact ih _ xv dp (c + 1) Is1015 Fs1015 (by first | exact ⟨And.intro (hi.1.1) (hi.1.2), And.intro (hi.2.1.1) (hi.2.1.2), oq_54f49eb5 hi.2.2.1, oq_228270fa g1002 b1001.2⟩ | omega) (by first | exact qk_me hm (by decide) (oq_b0a4f3e2 g1002 b1001.2) | omega) kx
        ·
          refine z_load_n X (x := dp) (show cdA 84 55 = some (.iload_n 3, 1, 0, 0, 0) from rfl) (List.Mem.tail _ (List.Mem.tail _ (List.Mem.tail _ (List.Mem.tail _ (List.Mem.head _))))) ?_
          refine z_sipush X (show cdA 84 56 = some (.sipush 200, 3, 0, 0, 200) from rfl) ?_
          refine z_icmp_ge X (t := 157) (show cdA 84 59 = some (.if_icmp .ge 98, 3, 3, 0, 0) from rfl) (by decide) ⟨by first | exact oq_fa4e5087 hi.2.1.1 | omega, by first | exact oq_52af2b96 hi.2.1.2 | omega⟩ (by decide) (fun g1016 => ?_) (fun g1016 => ?_)
          ·
            refine z_inc X (x := c) (lv' := [(4, .int (Int32.ofInt (c + 1))), (5, .int (Int32.ofInt (iC t 16 (c).toNat))), (0, .ref (A 19)), (2, .ref (A 171)), (1, .int (Int32.ofInt xv)), (3, .int (Int32.ofInt dp))]) (show cdA 84 157 = some (.iinc 4 1, 3, 0, 0, 0) from rfl) (by decide) (List.Mem.tail _ (List.Mem.tail _ (List.Mem.tail _ (List.Mem.tail _ (List.Mem.tail _ (List.Mem.head _)))))) (fun _ h => h) ?_
            refine z_goto X (t := 28) (show cdA 84 160 = some (.goto (-132), 3, 0, 0, 0) from rfl) (by decide) ?_
            refine WS_lv (lv := [(0, .ref (A 19)), (2, .ref (A 171)), (1, .int (Int32.ofInt xv)), (3, .int (Int32.ofInt dp)), (4, .int (Int32.ofInt (c + 1)))]) (List.forall_mem_cons.mpr ⟨(List.Mem.tail _ (List.Mem.tail _ (List.Mem.head _))), (List.forall_mem_cons.mpr ⟨(List.Mem.tail _ (List.Mem.tail _ (List.Mem.tail _ (List.Mem.head _)))), (List.forall_mem_cons.mpr ⟨(List.Mem.tail _ (List.Mem.tail _ (List.Mem.tail _ (List.Mem.tail _ (List.Mem.head _))))), (List.forall_mem_cons.mpr ⟨(List.Mem.tail _ (List.Mem.tail _ (List.Mem.tail _ (List.Mem.tail _ (List.Mem.tail _ (List.Mem.head _)))))), (List.forall_mem_cons.mpr ⟨(List.Mem.head _), (fun q h => absurd h List.not_mem_nil)⟩)⟩)⟩)⟩)⟩) ?_
            exact ih _ xv dp (c + 1) I F (by first | exact ⟨And.intro (hi.1.1) (hi.1.2), And.intro (hi.2.1.1) (hi.2.1.2), oq_54f49eb5 hi.2.2.1, oq_228270fa g1002 b1001.2⟩ | omega) (by first | exact qk_me hm (by decide) (oq_b0a4f3e2 g1002 b1001.2) | omega) kx
          ·
            refine z_aload_n X (x := A 19) (show cdA 84 62 = some (.aload_n 0, 1, 0, 0, 0) from rfl) (List.Mem.tail _ (List.Mem.head _)) ?_
            refine s_getR X 19 (show cdA 84 63 = some (.getfield 28, 3, 7, 13, 0) from rfl) (by decide) rfl rfl ?_
            refine z_load_n X (x := dp) (show cdA 84 66 = some (.iload_n 3, 1, 0, 0, 0) from rfl) (List.Mem.tail _ (List.Mem.tail _ (List.Mem.tail _ (List.Mem.tail _ (List.Mem.head _))))) ?_
            refine z_load X (x := (iC t 16 (c).toNat)) (show cdA 84 67 = some (.iload 5, 2, 0, 0, 0) from rfl) (List.Mem.head _) ?_
            have N1017 : ∀ e1018 : Int, ((((iC t 16 (c).toNat) < 0) ∧ (((-2147483648) : Int) ≤ iC t 150 (((-1) - (iC t 16 (c).toNat))).toNat ∧ iC t 150 (((-1) - (iC t 16 (c).toNat))).toNat ≤ 2147483647) ∧ e1018 = (iC t 150 (((-1) - (iC t 16 (c).toNat))).toNat)) ∨ ((0 ≤ (iC t 16 (c).toNat)) ∧ e1018 = (iC t 16 (c).toNat))) → WS k 83 [(5, .int (Int32.ofInt (iC t 16 (c).toNat))), (0, .ref (A 19)), (2, .ref (A 171)), (1, .int (Int32.ofInt xv)), (3, .int (Int32.ofInt dp)), (4, .int (Int32.ofInt c))] [.int (Int32.ofInt e1018), .int (Int32.ofInt dp), .ref (A 24)] (Wd A dT t) 0 0 := by
              intro e1018 he1018
              refine z_ast X 24 (show cdA 84 83 = some (.iastore, 1, 0, 0, 0) from rfl) (by decide) rfl (by first | exact hi.2.1.1 | omega) (show dp < 200 by first | exact g1016 | omega) (by decide) ?_
              obtain ⟨s1019, hs1019⟩ : ∃ x0, x0 = uC t 20 (dp).toNat (Int32.ofInt e1018) := ⟨_, rfl⟩
              rw [← hs1019]
              have Is1019 : Bd s1019 := by rw [hs1019]; exact bd_C I (show ((-2147483648) : Int) ≤ e1018 ∧ e1018 ≤ 2147483647 by first | exact ⟨oq_05aece2f he1018, oq_93cedf2b he1018 b1003.2⟩ | omega) ⟨by first | exact oq_05aece2f he1018 | omega, by first | exact oq_93cedf2b he1018 b1003.2 | omega⟩
              have Fs1019 := fm_C (i := (dp).toNat) (x := Int32.ofInt e1018) F (show 20 ∈ _ by decide)
              rw [← hs1019] at Fs1019
              refine z_inc X (x := dp) (lv' := [(3, .int (Int32.ofInt (dp + 1))), (5, .int (Int32.ofInt (iC t 16 (c).toNat))), (0, .ref (A 19)), (2, .ref (A 171)), (1, .int (Int32.ofInt xv)), (4, .int (Int32.ofInt c))]) (show cdA 84 84 = some (.iinc 3 1, 3, 0, 0, 0) from rfl) (by decide) (List.Mem.tail _ (List.Mem.tail _ (List.Mem.tail _ (List.Mem.tail _ (List.Mem.head _))))) (fun _ h => h) ?_
              refine z_goto X (t := 157) (show cdA 84 87 = some (.goto 70, 3, 0, 0, 0) from rfl) (by decide) ?_
              refine z_inc X (x := c) (lv' := [(4, .int (Int32.ofInt (c + 1))), (3, .int (Int32.ofInt (dp + 1))), (5, .int (Int32.ofInt (iC t 16 (c).toNat))), (0, .ref (A 19)), (2, .ref (A 171)), (1, .int (Int32.ofInt xv))]) (show cdA 84 157 = some (.iinc 4 1, 3, 0, 0, 0) from rfl) (by decide) (List.Mem.tail _ (List.Mem.tail _ (List.Mem.tail _ (List.Mem.tail _ (List.Mem.tail _ (List.Mem.head _)))))) (fun _ h => h) ?_
              refine z_goto X (t := 28) (show cdA 84 160 = some (.goto (-132), 3, 0, 0, 0) from rfl) (by decide) ?_
              refine WS_lv (lv := [(0, .ref (A 19)), (2, .ref (A 171)), (1, .int (Int32.ofInt xv)), (3, .int (Int32.ofInt (dp + 1))), (4, .int (Int32.ofInt (c + 1)))]) (List.forall_mem_cons.mpr ⟨(List.Mem.tail _ (List.Mem.tail _ (List.Mem.tail _ (List.Mem.head _)))), (List.forall_mem_cons.mpr ⟨(List.Mem.tail _ (List.Mem.tail _ (List.Mem.tail _ (List.Mem.tail _ (List.Mem.head _))))), (List.forall_mem_cons.mpr ⟨(List.Mem.tail _ (List.Mem.tail _ (List.Mem.tail _ (List.Mem.tail _ (List.Mem.tail _ (List.Mem.head _)))))), (List.forall_mem_cons.mpr ⟨(List.Mem.tail _ (List.Mem.head _)), (List.forall_mem_cons.mpr ⟨(List.Mem.head _), (fun q h => absurd h List.not_mem_nil)⟩)⟩)⟩)⟩)⟩) ?_
              exact ih _ xv (dp + 1) (c + 1) Is1019 Fs1019 (by first | exact ⟨And.intro (hi.1.1) (hi.1.2), And.intro (oq_54f49eb5 hi.2.1.1) (oq_0cb6ab8a g1016), oq_54f49eb5 hi.2.2.1, oq_228270fa g1002 b1001.2⟩ | omega) (by first | exact qk_me hm (by decide) (oq_b0a4f3e2 g1002 b1001.2) | omega) kx
            refine z_if_lt X (t := 77) (show cdA 84 69 = some (.ifCond .lt 8, 3, 2, 0, 0) from rfl) (by decide) (rng_to _) (fun g1020 => ?_) (fun g1020 => ?_)
            ·
              refine z_aload_n X (x := A 171) (show cdA 84 77 = some (.aload_n 2, 1, 0, 0, 0) from rfl) (List.Mem.tail _ (List.Mem.tail _ (List.Mem.head _))) ?_
              refine z_const X (show cdA 84 78 = some (.iconst (-1), 1, 0, 0, 0) from rfl) ?_
              refine z_load X (x := (iC t 16 (c).toNat)) (show cdA 84 79 = some (.iload 5, 2, 0, 0, 0) from rfl) (List.Mem.head _) ?_
              refine z_sub X (show cdA 84 81 = some (.isub, 1, 0, 0, 0) from rfl) ?_
              refine z_ald X 171 (show cdA 84 82 = some (.iaload, 1, 0, 0, 0) from rfl) (by decide) rfl (by first | exact oq_c38d07c4 g1020 | omega) (show ((-1) - (iC t 16 (c).toNat)) < 7 by first | exact oq_a1f4cde5 g1004 | omega) (by decide) ?_
              have b1021 : ((-2147483648) : Int) ≤ iC t 150 (((-1) - (iC t 16 (c).toNat))).toNat ∧ iC t 150 (((-1) - (iC t 16 (c).toNat))).toNat ≤ 2147483647 := I.2 150 _ (show (((-1) - (iC t 16 (c).toNat))).toNat < 7 by first | exact oq_91b916ba g1004 | omega)
              exact N1017 _ (Or.inl ⟨g1020, b1021, rfl⟩)
            ·
              refine z_load X (x := (iC t 16 (c).toNat)) (show cdA 84 72 = some (.iload 5, 2, 0, 0, 0) from rfl) (List.Mem.head _) ?_
              refine z_goto X (t := 83) (show cdA 84 74 = some (.goto 9, 3, 0, 0, 0) from rfl) (by decide) ?_
              exact N1017 _ (Or.inr (⟨g1020, rfl⟩))
  refine z_load_n X (x := x) (show cdA 84 0 = some (.iload_n 1, 1, 0, 0, 0) from rfl) (List.Mem.tail _ (List.Mem.head _)) ?_
  refine z_const X (show cdA 84 1 = some (.iconst (-1), 1, 0, 0, 0) from rfl) ?_
  refine z_icmp_ne X (t := 19) (show cdA 84 2 = some (.if_icmp .ne 17, 3, 1, 0, 0) from rfl) (by decide) ⟨by first | exact oq_97ee2c2a p0.1 | omega, by first | exact oq_0e78ca7d p0.2 | omega⟩ (by decide) (fun g1 => ?_) (fun g1 => ?_)
  ·
    refine z_const X (show cdA 84 19 = some (.iconst 0, 1, 0, 0, 0) from rfl) ?_
    refine z_store_n X (lv' := [(3, .int (Int32.ofInt 0)), (0, .ref (A 19)), (1, .int (Int32.ofInt x)), (2, .ref (A 171))]) (show cdA 84 20 = some (.istore_n 3, 1, 0, 0, 0) from rfl) (by decide) (fun _ h => h) ?_
    refine z_aload_n X (x := A 19) (show cdA 84 21 = some (.aload_n 0, 1, 0, 0, 0) from rfl) (List.Mem.tail _ (List.Mem.head _)) ?_
    refine z_load_n X (x := x) (show cdA 84 22 = some (.iload_n 1, 1, 0, 0, 0) from rfl) (List.Mem.tail _ (List.Mem.tail _ (List.Mem.head _))) ?_
    refine z_callV X 19 (rm := rmN 70) (As := [.int (Int32.ofInt x)]) (st := []) (show cdA 84 23 = some (.invokevirtual 70, 3, 70, 0, 0) from rfl) rfl (by decide) rfl (by rw [E.1, E.2.1, E.2.2.1]; exact c7_beginOf_19 G I (by first | exact ⟨oq_7a1025bf g1 p0.1, p0.2⟩ | omega)) ⟨by rw [E.2.2.2]; exact (show (rmN 70).frames + 1 ≤ (rmN 84).frames by decide), by rw [E.2.2.2]; exact (show 8 + (mNL (miB 70) + 11) + (rmN 70).locals ≤ (rmN 84).locals by decide), by rw [E.2.2.2]; exact (show 0 + (rmN 70).cells ≤ (rmN 84).cells by decide), by rw [E.2.2.2]; exact (show 0 + (rmN 70).slots ≤ (rmN 84).slots by decide)⟩ (Nat.le_of_ble_eq_true rfl) (fun vv s2 hq => ?_) (fun ee s2 hq => ?_)
    rotate_left
    · obtain ⟨Is2, Fs2, e3, hv, hrs2, hps2⟩ := hq; cases hv
    obtain ⟨Is2, Fs2, e3, hv, hrs2, hps2⟩ := hq
    cases hv
    have Gs2 := fm_ts F Fs2 (by decide) (by decide)
    show WS k 26 [(3, .int (Int32.ofInt 0)), (0, .ref (A 19)), (1, .int (Int32.ofInt x)), (2, .ref (A 171))] [.int (Int32.ofInt e3)] (Wd A dT s2) 0 0
    refine z_store X (lv' := [(4, .int (Int32.ofInt e3)), (3, .int (Int32.ofInt 0)), (0, .ref (A 19)), (1, .int (Int32.ofInt x)), (2, .ref (A 171))]) (show cdA 84 26 = some (.istore 4, 2, 0, 0, 0) from rfl) (by decide) (fun _ h => h) ?_
    refine WS_lv (lv := [(0, .ref (A 19)), (2, .ref (A 171)), (1, .int (Int32.ofInt x)), (3, .int (Int32.ofInt 0)), (4, .int (Int32.ofInt e3))]) (List.forall_mem_cons.mpr ⟨(List.Mem.tail _ (List.Mem.tail _ (List.Mem.head _))), (List.forall_mem_cons.mpr ⟨(List.Mem.tail _ (List.Mem.tail _ (List.Mem.tail _ (List.Mem.tail _ (List.Mem.head _))))), (List.forall_mem_cons.mpr ⟨(List.Mem.tail _ (List.Mem.tail _ (List.Mem.tail _ (List.Mem.head _)))), (List.forall_mem_cons.mpr ⟨(List.Mem.tail _ (List.Mem.head _)), (List.forall_mem_cons.mpr ⟨(List.Mem.head _), (fun q h => absurd h List.not_mem_nil)⟩)⟩)⟩)⟩)⟩) ?_
    refine L28 ((200 - e3 : Int).toNat + 1) s2 x 0 e3 Is2 Gs2 (by first | exact ⟨oq_b629d6d6 g1 p0.2 p0.1, And.intro (by decide) (by decide), hps2.1, hps2.2⟩ | omega) (Nat.lt_succ_self _) ?_
    intro s4 x5 x6 Is4 Fs4 hs4
    refine z_aload_n X (x := A 19) (show cdA 84 163 = some (.aload_n 0, 1, 0, 0, 0) from rfl) (List.Mem.head _) ?_
    refine s_getR X 19 (show cdA 84 164 = some (.getfield 28, 3, 7, 13, 0) from rfl) (by decide) rfl rfl ?_
    refine z_const X (show cdA 84 167 = some (.iconst 0, 1, 0, 0, 0) from rfl) ?_
    refine z_ald X 24 (show cdA 84 168 = some (.iaload, 1, 0, 0, 0) from rfl) (by decide) rfl (by decide) (show 0 < 200 by decide) (by decide) ?_
    have b7 : ((-2147483648) : Int) ≤ iC s4 20 (0 : Int).toNat ∧ iC s4 20 (0 : Int).toNat ≤ 2147483647 := Is4.2 20 _ (show (0 : Int).toNat < 200 by first | exact oq_e7d7c2b9 | omega)
    exact w_iret X.1 q hRt rfl (ax_d X (show cdA 84 169 = some (.ireturn, 1, 0, 0, 0) from rfl)) (Nat.zero_le _) (Nat.zero_le _) ⟨_, rfl, Is4, Fs4, (iC s4 20 (0 : Int).toNat), rfl, (rng_to _), trivial⟩
  ·
    refine z_aload_n X (x := A 171) (show cdA 84 5 = some (.aload_n 2, 1, 0, 0, 0) from rfl) (List.Mem.tail _ (List.Mem.tail _ (List.Mem.head _))) ?_
    refine z_const X (show cdA 84 6 = some (.iconst 0, 1, 0, 0, 0) from rfl) ?_
    refine z_ald X 171 (show cdA 84 7 = some (.iaload, 1, 0, 0, 0) from rfl) (by decide) rfl (by decide) (show 0 < 7 by decide) (by decide) ?_
    have b8 : ((-2147483648) : Int) ≤ iC s 150 (0 : Int).toNat ∧ iC s 150 (0 : Int).toNat ≤ 2147483647 := I.2 150 _ (show (0 : Int).toNat < 7 by first | exact oq_e8ec3fa8 | omega)
    refine z_const X (show cdA 84 8 = some (.iconst 2, 1, 0, 0, 0) from rfl) ?_
    refine z_aload_n X (x := A 171) (show cdA 84 9 = some (.aload_n 2, 1, 0, 0, 0) from rfl) (List.Mem.tail _ (List.Mem.tail _ (List.Mem.head _))) ?_
    refine z_const X (show cdA 84 10 = some (.iconst 1, 1, 0, 0, 0) from rfl) ?_
    refine z_ald X 171 (show cdA 84 11 = some (.iaload, 1, 0, 0, 0) from rfl) (by decide) rfl (by decide) (show 1 < 7 by decide) (by decide) ?_
    have b9 : ((-2147483648) : Int) ≤ iC s 150 (1 : Int).toNat ∧ iC s 150 (1 : Int).toNat ≤ 2147483647 := I.2 150 _ (show (1 : Int).toNat < 7 by first | exact oq_a32b659c | omega)
    refine z_mul X (show cdA 84 12 = some (.imul, 1, 0, 0, 0) from rfl) ?_
    refine z_any (fun y10 hy10 => ?_)
    refine z_add X (show cdA 84 13 = some (.iadd, 1, 0, 0, 0) from rfl) ?_
    refine z_any (fun y11 hy11 => ?_)
    refine z_aload_n X (x := A 171) (show cdA 84 14 = some (.aload_n 2, 1, 0, 0, 0) from rfl) (List.Mem.tail _ (List.Mem.tail _ (List.Mem.head _))) ?_
    refine z_const X (show cdA 84 15 = some (.iconst 2, 1, 0, 0, 0) from rfl) ?_
    refine z_ald X 171 (show cdA 84 16 = some (.iaload, 1, 0, 0, 0) from rfl) (by decide) rfl (by decide) (show 2 < 7 by decide) (by decide) ?_
    have b12 : ((-2147483648) : Int) ≤ iC s 150 (2 : Int).toNat ∧ iC s 150 (2 : Int).toNat ≤ 2147483647 := I.2 150 _ (show (2 : Int).toNat < 7 by first | exact oq_62527c24 | omega)
    refine z_add X (show cdA 84 17 = some (.iadd, 1, 0, 0, 0) from rfl) ?_
    refine z_any (fun y13 hy13 => ?_)
    exact w_iret X.1 q hRt rfl (ax_d X (show cdA 84 18 = some (.ireturn, 1, 0, 0, 0) from rfl)) (Nat.zero_le _) (Nat.zero_le _) ⟨_, rfl, I, F, y13, rfl, hy13, trivial⟩
set_option maxRecDepth 4000 in
theorem c0_loadAt_163 (G : GX l s0 D tys a0 dT) (I : Bd s) {x y : Int} (p0 : 0 ≤ x ∧ x ≤ 23) (p1 : rng y) : CT l s0 D A dT 4 (rmN 4) [.ref (A 163), .int (Int32.ofInt x), .int (Int32.ofInt y)] s (fun o t => Bd t ∧ Fm [] [150, 20] s t ∧ ∃ e, o = .inl (some (.int (Int32.ofInt e))) ∧ rng e ∧ (True)) := by
  refine ct_ofX G (by decide) (Nat.le_of_ble_eq_true rfl) (fun k X E ET hRt hXt q => ?_)
  show WS k 0 [(0, .ref (A 163)), (1, .int (Int32.ofInt x)), (2, .int (Int32.ofInt y))] [] _ 0 0
  have F : Fm [] [150, 20] s s := fm_rf _ _ s
  refine z_aload_n X (x := A 163) (show cdA 4 0 = some (.aload_n 0, 1, 0, 0, 0) from rfl) (List.Mem.head _) ?_
  refine z_load_n X (x := x) (show cdA 4 1 = some (.iload_n 1, 1, 0, 0, 0) from rfl) (List.Mem.tail _ (List.Mem.head _)) ?_
  refine z_load_n X (x := y) (show cdA 4 2 = some (.iload_n 2, 1, 0, 0, 0) from rfl) (List.Mem.tail _ (List.Mem.tail _ (List.Mem.head _))) ?_
  refine z_callV X 163 (rm := rmN 3) (As := [.int (Int32.ofInt x), .int (Int32.ofInt y)]) (st := []) (show cdA 4 3 = some (.invokevirtual 96, 3, 3, 0, 0) from rfl) rfl (by decide) rfl (by rw [E.1, E.2.1, E.2.2.1]; exact c0_hear_163 G I (by first | exact ⟨p0.1, p0.2⟩ | omega) (by first | exact ⟨p1.1, p1.2⟩ | omega)) ⟨by rw [E.2.2.2]; exact (show (rmN 3).frames + 1 ≤ (rmN 4).frames by decide), by rw [E.2.2.2]; exact (show 8 + (mNL (miB 3) + 11) + (rmN 3).locals ≤ (rmN 4).locals by decide), by rw [E.2.2.2]; exact (show 0 + (rmN 3).cells ≤ (rmN 4).cells by decide), by rw [E.2.2.2]; exact (show 0 + (rmN 3).slots ≤ (rmN 4).slots by decide)⟩ (Nat.le_of_ble_eq_true rfl) (fun vv s1 hq => ?_) (fun ee s1 hq => ?_)
  rotate_left
  · obtain ⟨Is1, Fs1, hv, hps1⟩ := hq; cases hv
  obtain ⟨Is1, Fs1, hv, hps1⟩ := hq
  cases hv
  have Gs1 := fm_ts F Fs1 (by decide) (by decide)
  show WS k 6 [(0, .ref (A 163)), (1, .int (Int32.ofInt x)), (2, .int (Int32.ofInt y))] [] (Wd A dT s1) 0 0
  refine z_aload_n X (x := A 163) (show cdA 4 6 = some (.aload_n 0, 1, 0, 0, 0) from rfl) (List.Mem.head _) ?_
  refine s_getR X 163 (show cdA 4 7 = some (.getfield 47, 3, 0, 1, 0) from rfl) (by decide) rfl rfl ?_
  refine z_aload_n X (x := A 163) (show cdA 4 10 = some (.aload_n 0, 1, 0, 0, 0) from rfl) (List.Mem.head _) ?_
  refine s_getR X 163 (show cdA 4 11 = some (.getfield 47, 3, 0, 1, 0) from rfl) (by decide) rfl rfl ?_
  refine z_getI X 19 (show cdA 4 14 = some (.getfield 100, 3, 7, 4, 0) from rfl) (by decide) rfl rfl ?_
  have b3 : ((-1) : Int) ≤ iI s1 13 ∧ iI s1 13 ≤ 7 := Is1.1 13
  refine z_aload_n X (x := A 163) (show cdA 4 17 = some (.aload_n 0, 1, 0, 0, 0) from rfl) (List.Mem.head _) ?_
  refine s_getR X 163 (show cdA 4 18 = some (.getfield 37, 3, 0, 11, 0) from rfl) (by decide) rfl rfl ?_
  refine z_callV X 19 (rm := rmN 84) (As := [.int (Int32.ofInt (iI s1 13)), .ref (A 171)]) (st := []) (show cdA 4 21 = some (.invokevirtual 103, 3, 84, 0, 0) from rfl) rfl (by decide) rfl (by rw [E.1, E.2.1, E.2.2.1]; exact c7_work_163 G Is1 (by first | exact ⟨b3.1, b3.2⟩ | omega)) ⟨by rw [E.2.2.2]; exact (show (rmN 84).frames + 1 ≤ (rmN 4).frames by decide), by rw [E.2.2.2]; exact (show 8 + (mNL (miB 84) + 11) + (rmN 84).locals ≤ (rmN 4).locals by decide), by rw [E.2.2.2]; exact (show 0 + (rmN 84).cells ≤ (rmN 4).cells by decide), by rw [E.2.2.2]; exact (show 0 + (rmN 84).slots ≤ (rmN 4).slots by decide)⟩ (Nat.le_of_ble_eq_true rfl) (fun vv s4 hq => ?_) (fun ee s4 hq => ?_)
  rotate_left
  · obtain ⟨Is4, Fs4, e5, hv, hrs4, hps4⟩ := hq; cases hv
  obtain ⟨Is4, Fs4, e5, hv, hrs4, hps4⟩ := hq
  cases hv
  have Gs4 := fm_ts Gs1 Fs4 (by decide) (by decide)
  show WS k 24 [(0, .ref (A 163)), (1, .int (Int32.ofInt x)), (2, .int (Int32.ofInt y))] [.int (Int32.ofInt e5)] (Wd A dT s4) 0 0
  exact w_iret X.1 q hRt rfl (ax_d X (show cdA 4 24 = some (.ireturn, 1, 0, 0, 0) from rfl)) (Nat.zero_le _) (Nat.zero_le _) ⟨_, rfl, Is4, Gs4, e5, rfl, hrs4, trivial⟩
end M79
