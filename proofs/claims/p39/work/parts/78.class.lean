/-! The class: the ears of the storm -/
section M78
variable {l : Launch} {s0 : State} {D : va_G} {tys : List (ClassId × FieldType)} {a0 : Array Value} {A : Nat → Nat} {dT : Nat → ClassId} {s : PS}
set_option maxRecDepth 4000 in
theorem c0_followSteps_93 (G : GX l s0 D tys a0 dT) (I : Bd s) {x : Int} {aj bj : Int64} (p0 : 0 ≤ x ∧ x ≤ 11) (p1 : iI s 46 ≤ 11) : CT l s0 D A dT 2 (rmN 2) [.ref (A 93), .int (Int32.ofInt x), .long aj, .long bj] s (fun o t => Bd t ∧ Fm [] [81, 82, 83] s t ∧ o = .inl none ∧ (True)) := by
  refine ct_ofX G (by decide) (Nat.le_of_ble_eq_true rfl) (fun k X E ET hRt hXt q => ?_)
  show WS k 0 [(0, .ref (A 93)), (1, .int (Int32.ofInt x)), (2, .long aj), (4, .long bj)] [] _ 0 0
  have F : Fm [] [81, 82, 83] s s := fm_rf _ _ s
  have b1 := bi_46 I
  have L12 : ∀ (n : Nat) (t : PS) (xv : Int) (av : Int64) (bv : Int64) (ov : Int) (wi : Int) (cl : Int) (kd : Int), Bd t → Fm [] [81, 82, 83] s t → ((0 ≤ xv ∧ xv ≤ 11) ∧ rng ov ∧ rng wi ∧ rng cl ∧ 0 ≤ kd ∧ kd ≤ 5 ∧ iI t 46 ≤ 11) → (5 - kd : Int).toNat < n → (∀ (t' : PS) (ov' : Int) (wi' : Int) (cl' : Int) (kd' : Int), Bd t' → Fm [] [81, 82, 83] s t' → ((0 ≤ xv ∧ xv ≤ 11) ∧ rng ov' ∧ rng wi' ∧ rng cl' ∧ 0 ≤ kd' ∧ kd' ≤ 5 ∧ iI t' 46 ≤ 11) → WS k 148 [(0, .ref (A 93)), (1, .int (Int32.ofInt xv)), (2, .long av), (4, .long bv), (6, .int (Int32.ofInt ov')), (7, .int (Int32.ofInt wi')), (8, .int (Int32.ofInt cl')), (9, .int (Int32.ofInt kd'))] [] (Wd A dT t') 0 0) → WS k 12 [(0, .ref (A 93)), (1, .int (Int32.ofInt xv)), (2, .long av), (4, .long bv), (6, .int (Int32.ofInt ov)), (7, .int (Int32.ofInt wi)), (8, .int (Int32.ofInt cl)), (9, .int (Int32.ofInt kd))] [] (Wd A dT t) 0 0 := by
    intro n
    induction n with
    | zero =>
      intro t xv av bv ov wi cl kd I F hi hm kx
      exact absurd hm (Nat.not_lt_zero _)
    | succ n ih =>
      intro t xv av bv ov wi cl kd I F hi hm kx
      have b1001 := bi_46 I
      refine z_load X (x := kd) rfl (List.Mem.tail _ (List.Mem.tail _ (List.Mem.tail _ (List.Mem.tail _ (List.Mem.tail _ (List.Mem.tail _ (List.Mem.tail _ (List.Mem.head _)))))))) (z_const X rfl (z_icmp_ge X (t := 148) rfl rfl ⟨by first | exact oq_fa4e5087 hi.2.2.2.2.1 | omega, by first | exact oq_a3dd55e5 hi.2.2.2.2.2.1 | omega⟩ (by decide) (fun g1002 => ?_) (fun g1002 => ?_)))
      ·
        refine WS_pq [0, 1, 2, 3, 4, 5, 6, 7] (lv' := [(0, .ref (A 93)), (1, .int (Int32.ofInt xv)), (2, .long av), (4, .long bv), (6, .int (Int32.ofInt ov)), (7, .int (Int32.ofInt wi)), (8, .int (Int32.ofInt cl)), (9, .int (Int32.ofInt kd))]) rfl ?_
        exact kx _ ov wi cl kd I F (by first | exact ⟨And.intro (hi.1.1) (hi.1.2), And.intro (hi.2.1.1) (hi.2.1.2), And.intro (hi.2.2.1.1) (hi.2.2.1.2), And.intro (hi.2.2.2.1.1) (hi.2.2.2.1.2), hi.2.2.2.2.1, hi.2.2.2.2.2.1, hi.2.2.2.2.2.2⟩ | omega)
      ·
        refine z_aload_n X (x := A 93) rfl (List.Mem.head _) (s_getR X 93 rfl (c518_ok rfl) rfl rfl (s_getR X 68 rfl (c518_ok rfl) rfl rfl (z_load_n X (x := xv) rfl (List.Mem.tail _ (List.Mem.head _)) (z_const X rfl (z_mul X rfl (z_load X (x := kd) rfl (List.Mem.tail _ (List.Mem.tail _ (List.Mem.tail _ (List.Mem.tail _ (List.Mem.tail _ (List.Mem.tail _ (List.Mem.tail _ (List.Mem.head _)))))))) (z_add X rfl (z_lald X 73 rfl (c518_ok rfl) rfl (by first | exact oq_59a253bd hi.1.1 hi.2.2.2.2.1 | omega) (show ((xv * 5) + kd) < 60 by first | exact oq_7279bf48 hi.1.2 g1002 | omega) (cbig_ok rfl) (fun j1003 => ?_)))))))))
        refine w_lstore X.1 (lv' := [(10, .long j1003), (0, .ref (A 93)), (1, .int (Int32.ofInt xv)), (2, .long av), (4, .long bv), (6, .int (Int32.ofInt ov)), (7, .int (Int32.ofInt wi)), (8, .int (Int32.ofInt cl)), (9, .int (Int32.ofInt kd))]) (ax_d X (show cdA 2 32 = some (.lstore 10, 2, 0, 0, 0) from rfl)) (by rw [X.2.1.2.2]; decide) (fun _ h => h) (w_lload X.1 (ax_d X (show cdA 2 34 = some (.lload 10, 2, 0, 0, 0) from rfl)) (x := j1003) (List.Mem.head _) (w_lconst X.1 (ax_d X (show cdA 2 36 = some (.lconst 0, 1, 0, 0, 0) from rfl)) rfl (z_anyJ (fun j1004 => ?_))))
        refine w_lcmp X.1 (ax_d X (show cdA 2 37 = some (.lcmp, 1, 0, 0, 0) from rfl)) (z_any (fun y1005 hy1005 => ?_))
        refine z_if_eq X (t := 142) rfl rfl hy1005 (fun g1006 => ?_) (fun g1006 => ?_)
        ·
          refine z_inc X (x := kd) (lv' := [(9, .int (Int32.ofInt (kd + 1))), (10, .long j1003), (0, .ref (A 93)), (1, .int (Int32.ofInt xv)), (2, .long av), (4, .long bv), (6, .int (Int32.ofInt ov)), (7, .int (Int32.ofInt wi)), (8, .int (Int32.ofInt cl))]) rfl (by decide) (List.Mem.tail _ (List.Mem.tail _ (List.Mem.tail _ (List.Mem.tail _ (List.Mem.tail _ (List.Mem.tail _ (List.Mem.tail _ (List.Mem.tail _ (List.Mem.head _))))))))) (fun _ h => h) (z_goto X (t := 12) rfl rfl (WS_pq [2, 3, 4, 5, 6, 7, 8, 0] (lv' := [(0, .ref (A 93)), (1, .int (Int32.ofInt xv)), (2, .long av), (4, .long bv), (6, .int (Int32.ofInt ov)), (7, .int (Int32.ofInt wi)), (8, .int (Int32.ofInt cl)), (9, .int (Int32.ofInt (kd + 1)))]) rfl ?_))
          exact ih _ xv av bv ov wi cl (kd + 1) I F (by first | exact ⟨And.intro (hi.1.1) (hi.1.2), And.intro (hi.2.1.1) (hi.2.1.2), And.intro (hi.2.2.1.1) (hi.2.2.1.2), And.intro (hi.2.2.2.1.1) (hi.2.2.2.1.2), oq_54f49eb5 hi.2.2.2.2.1, oq_c2445583 g1002, hi.2.2.2.2.2.2⟩ | omega) (by first | exact qk_me hm (by decide) (oq_33241a94 g1002) | omega) kx
        ·
          refine z_load X (x := kd) rfl (List.Mem.tail _ (List.Mem.tail _ (List.Mem.tail _ (List.Mem.tail _ (List.Mem.tail _ (List.Mem.tail _ (List.Mem.tail _ (List.Mem.tail _ (List.Mem.head _))))))))) (z_const X rfl ?_)
          have N1007 : ∀ j1008 : Int64, WS k 59 [(10, .long j1003), (0, .ref (A 93)), (1, .int (Int32.ofInt xv)), (2, .long av), (4, .long bv), (6, .int (Int32.ofInt ov)), (7, .int (Int32.ofInt wi)), (8, .int (Int32.ofInt cl)), (9, .int (Int32.ofInt kd))] [.long j1008] (Wd A dT t) 0 0 := by
            intro j1008
            refine w_lstore X.1 (lv' := [(12, .long j1008), (10, .long j1003), (0, .ref (A 93)), (1, .int (Int32.ofInt xv)), (2, .long av), (4, .long bv), (6, .int (Int32.ofInt ov)), (7, .int (Int32.ofInt wi)), (8, .int (Int32.ofInt cl)), (9, .int (Int32.ofInt kd))]) (ax_d X (show cdA 2 59 = some (.lstore 12, 2, 0, 0, 0) from rfl)) (by rw [X.2.1.2.2]; decide) (fun _ h => h) (z_load X (x := kd) rfl (List.Mem.tail _ (List.Mem.tail _ (List.Mem.tail _ (List.Mem.tail _ (List.Mem.tail _ (List.Mem.tail _ (List.Mem.tail _ (List.Mem.tail _ (List.Mem.tail _ (List.Mem.head _)))))))))) (z_const X rfl ?_))
            have N1009 : ∀ j1010 : Int64, WS k 90 [(12, .long j1008), (10, .long j1003), (0, .ref (A 93)), (1, .int (Int32.ofInt xv)), (2, .long av), (4, .long bv), (6, .int (Int32.ofInt ov)), (7, .int (Int32.ofInt wi)), (8, .int (Int32.ofInt cl)), (9, .int (Int32.ofInt kd))] [.long j1010] (Wd A dT t) 0 0 := by
              intro j1010
              refine w_lstore X.1 (lv' := [(14, .long j1010), (12, .long j1008), (10, .long j1003), (0, .ref (A 93)), (1, .int (Int32.ofInt xv)), (2, .long av), (4, .long bv), (6, .int (Int32.ofInt ov)), (7, .int (Int32.ofInt wi)), (8, .int (Int32.ofInt cl)), (9, .int (Int32.ofInt kd))]) (ax_d X (show cdA 2 90 = some (.lstore 14, 2, 0, 0, 0) from rfl)) (by rw [X.2.1.2.2]; decide) (fun _ h => h) (w_lload X.1 (ax_d X (show cdA 2 92 = some (.lload 10, 2, 0, 0, 0) from rfl)) (x := j1003) (List.Mem.tail _ (List.Mem.tail _ (List.Mem.head _))) (w_lload X.1 (ax_d X (show cdA 2 94 = some (.lload 12, 2, 0, 0, 0) from rfl)) (x := j1008) (List.Mem.tail _ (List.Mem.head _)) (w_land X.1 (ax_d X (show cdA 2 96 = some (.land, 1, 0, 0, 0) from rfl)) (z_anyJ (fun j1011 => ?_)))))
              refine w_lload X.1 (ax_d X (show cdA 2 97 = some (.lload 14, 2, 0, 0, 0) from rfl)) (x := j1010) (List.Mem.head _) (w_land X.1 (ax_d X (show cdA 2 99 = some (.land, 1, 0, 0, 0) from rfl)) (z_anyJ (fun j1012 => ?_)))
              refine zcS_i0 X E (As := [.long j1012]) (st := []) rfl rfl (j_bitL G I ) rfl (Nat.le_of_ble_eq_true rfl) (fun s1013 e1014 Is1013 Fs1013 hrs1013 hps1013 => ?_)
              have Gs1013 := fm_tq F Fs1013 rfl rfl
              have ws1013_46 : iI s1013 46 = iI t 46 := fm_iq Fs1013 rfl
              refine z_store X (lv' := [(16, .int (Int32.ofInt e1014)), (14, .long j1010), (12, .long j1008), (10, .long j1003), (0, .ref (A 93)), (1, .int (Int32.ofInt xv)), (2, .long av), (4, .long bv), (6, .int (Int32.ofInt ov)), (7, .int (Int32.ofInt wi)), (8, .int (Int32.ofInt cl)), (9, .int (Int32.ofInt kd))]) rfl (by decide) (fun _ h => h) (z_load X (x := ov) rfl (List.Mem.tail _ (List.Mem.tail _ (List.Mem.tail _ (List.Mem.tail _ (List.Mem.tail _ (List.Mem.tail _ (List.Mem.tail _ (List.Mem.tail _ (List.Mem.head _))))))))) (w_lload X.1 (ax_d X (show cdA 2 107 = some (.lload 10, 2, 0, 0, 0) from rfl)) (x := j1003) (List.Mem.tail _ (List.Mem.tail _ (List.Mem.tail _ (List.Mem.head _)))) (w_lload X.1 (ax_d X (show cdA 2 109 = some (.lload 12, 2, 0, 0, 0) from rfl)) (x := j1008) (List.Mem.tail _ (List.Mem.tail _ (List.Mem.head _))) (w_lload X.1 (ax_d X (show cdA 2 111 = some (.lload 14, 2, 0, 0, 0) from rfl)) (x := j1010) (List.Mem.tail _ (List.Mem.head _)) (w_lxor X.1 (ax_d X (show cdA 2 113 = some (.lxor, 1, 0, 0, 0) from rfl)) (z_anyJ (fun j1015 => ?_)))))))
              refine w_land X.1 (ax_d X (show cdA 2 114 = some (.land, 1, 0, 0, 0) from rfl)) (z_anyJ (fun j1016 => ?_))
              refine zcS_i0 X E (As := [.long j1016]) (st := [.int (Int32.ofInt ov)]) rfl rfl (j_bitL G Is1013 ) rfl (Nat.le_of_ble_eq_true rfl) (fun s1017 e1018 Is1017 Fs1017 hrs1017 hps1017 => ?_)
              have Gs1017 := fm_tq Gs1013 Fs1017 rfl rfl
              have ws1017_46 : iI s1017 46 = iI s1013 46 := fm_iq Fs1017 rfl
              refine z_add X rfl (z_any (fun y1019 hy1019 => ?_))
              refine z_store X (lv' := [(6, .int (Int32.ofInt y1019)), (16, .int (Int32.ofInt e1014)), (14, .long j1010), (12, .long j1008), (10, .long j1003), (0, .ref (A 93)), (1, .int (Int32.ofInt xv)), (2, .long av), (4, .long bv), (7, .int (Int32.ofInt wi)), (8, .int (Int32.ofInt cl)), (9, .int (Int32.ofInt kd))]) rfl (by decide) (fun _ h => h) (z_load X (x := wi) rfl (List.Mem.tail _ (List.Mem.tail _ (List.Mem.tail _ (List.Mem.tail _ (List.Mem.tail _ (List.Mem.tail _ (List.Mem.tail _ (List.Mem.tail _ (List.Mem.tail _ (List.Mem.head _)))))))))) (z_load X (x := e1014) rfl (List.Mem.tail _ (List.Mem.head _)) (z_add X rfl (z_any (fun y1020 hy1020 => ?_)))))
              refine z_store X (lv' := [(7, .int (Int32.ofInt y1020)), (6, .int (Int32.ofInt y1019)), (16, .int (Int32.ofInt e1014)), (14, .long j1010), (12, .long j1008), (10, .long j1003), (0, .ref (A 93)), (1, .int (Int32.ofInt xv)), (2, .long av), (4, .long bv), (8, .int (Int32.ofInt cl)), (9, .int (Int32.ofInt kd))]) rfl (by decide) (fun _ h => h) (z_load X (x := kd) rfl (List.Mem.tail _ (List.Mem.tail _ (List.Mem.tail _ (List.Mem.tail _ (List.Mem.tail _ (List.Mem.tail _ (List.Mem.tail _ (List.Mem.tail _ (List.Mem.tail _ (List.Mem.tail _ (List.Mem.tail _ (List.Mem.head _)))))))))))) (z_const X rfl ?_))
              have N1021 : ∀ e1022 : Int, (((kd ≠ 4) ∧ e1022 = 0) ∨ ((kd = 4) ∧ e1022 = e1014)) → WS k 140 [(7, .int (Int32.ofInt y1020)), (6, .int (Int32.ofInt y1019)), (16, .int (Int32.ofInt e1014)), (14, .long j1010), (12, .long j1008), (10, .long j1003), (0, .ref (A 93)), (1, .int (Int32.ofInt xv)), (2, .long av), (4, .long bv), (8, .int (Int32.ofInt cl)), (9, .int (Int32.ofInt kd))] [.int (Int32.ofInt e1022)] (Wd A dT s1017) 0 0 := by
                intro e1022 he1022
                refine z_store X (lv' := [(8, .int (Int32.ofInt e1022)), (7, .int (Int32.ofInt y1020)), (6, .int (Int32.ofInt y1019)), (16, .int (Int32.ofInt e1014)), (14, .long j1010), (12, .long j1008), (10, .long j1003), (0, .ref (A 93)), (1, .int (Int32.ofInt xv)), (2, .long av), (4, .long bv), (9, .int (Int32.ofInt kd))]) rfl (by decide) (fun _ h => h) (z_inc X (x := kd) (lv' := [(9, .int (Int32.ofInt (kd + 1))), (8, .int (Int32.ofInt e1022)), (7, .int (Int32.ofInt y1020)), (6, .int (Int32.ofInt y1019)), (16, .int (Int32.ofInt e1014)), (14, .long j1010), (12, .long j1008), (10, .long j1003), (0, .ref (A 93)), (1, .int (Int32.ofInt xv)), (2, .long av), (4, .long bv)]) rfl (by decide) (List.Mem.tail _ (List.Mem.tail _ (List.Mem.tail _ (List.Mem.tail _ (List.Mem.tail _ (List.Mem.tail _ (List.Mem.tail _ (List.Mem.tail _ (List.Mem.tail _ (List.Mem.tail _ (List.Mem.tail _ (List.Mem.head _)))))))))))) (fun _ h => h) (z_goto X (t := 12) rfl rfl (WS_pq [8, 9, 10, 11, 3, 2, 1, 0] (lv' := [(0, .ref (A 93)), (1, .int (Int32.ofInt xv)), (2, .long av), (4, .long bv), (6, .int (Int32.ofInt y1019)), (7, .int (Int32.ofInt y1020)), (8, .int (Int32.ofInt e1022)), (9, .int (Int32.ofInt (kd + 1)))]) rfl ?_)))
                exact ih _ xv av bv y1019 y1020 e1022 (kd + 1) Is1017 Gs1017 (by first | exact ⟨And.intro (hi.1.1) (hi.1.2), And.intro (hy1019.1) (hy1019.2), And.intro (hy1020.1) (hy1020.2), by first | (clear he1022 g1006; omega) | (clear g1006; omega) | omega, oq_54f49eb5 hi.2.2.2.2.1, oq_c2445583 g1002, oq_9a920414 ws1017_46 ws1013_46 hi.2.2.2.2.2.2⟩ | omega) (by first | exact qk_me hm (by decide) (oq_33241a94 g1002) | omega) kx
              refine z_icmp_ne X (t := 139) rfl rfl ⟨by first | exact oq_fa4e5087 hi.2.2.2.2.1 | omega, by first | exact oq_85aa3fe6 g1002 | omega⟩ (by decide) (fun g1023 => ?_) (fun g1023 => ?_)
              ·
                exact z_const X rfl (N1021 _ (Or.inl ⟨g1023, rfl⟩))
              ·
                exact z_load X (x := e1014) rfl (List.Mem.tail _ (List.Mem.tail _ (List.Mem.head _))) (z_goto X (t := 140) rfl rfl (N1021 _ (Or.inr (⟨g1023, rfl⟩))))
            refine z_icmp_ne X (t := 72) rfl rfl ⟨by first | exact oq_fa4e5087 hi.2.2.2.2.1 | omega, by first | exact oq_85aa3fe6 g1002 | omega⟩ (by decide) (fun g1024 => ?_) (fun g1024 => ?_)
            ·
              refine z_load X (x := kd) rfl (List.Mem.tail _ (List.Mem.tail _ (List.Mem.tail _ (List.Mem.tail _ (List.Mem.tail _ (List.Mem.tail _ (List.Mem.tail _ (List.Mem.tail _ (List.Mem.tail _ (List.Mem.head _)))))))))) (z_const X rfl (z_icmp_ge X (t := 85) rfl rfl ⟨by first | exact oq_fa4e5087 hi.2.2.2.2.1 | omega, by first | exact oq_85aa3fe6 g1002 | omega⟩ (by decide) (fun g1025 => ?_) (fun g1025 => ?_)))
              ·
                refine w_lload X.1 (ax_d X (show cdA 2 85 = some (.lload 12, 2, 0, 0, 0) from rfl)) (x := j1008) (List.Mem.head _) (z_bipush X rfl (w_lushr X.1 (ax_d X (show cdA 2 89 = some (.lushr, 1, 0, 0, 0) from rfl)) (z_anyJ (fun j1026 => ?_))))
                exact N1009 _
              ·
                refine w_lload X.1 (ax_d X (show cdA 2 78 = some (.lload 12, 2, 0, 0, 0) from rfl)) (x := j1008) (List.Mem.head _) (z_const X rfl (w_lushr X.1 (ax_d X (show cdA 2 81 = some (.lushr, 1, 0, 0, 0) from rfl)) (z_anyJ (fun j1027 => ?_))))
                exact z_goto X (t := 90) rfl rfl (N1009 _)
            ·
              exact w_lload X.1 (ax_d X (show cdA 2 67 = some (.lload 4, 2, 0, 0, 0) from rfl)) (x := bv) (List.Mem.tail _ (List.Mem.tail _ (List.Mem.tail _ (List.Mem.tail _ (List.Mem.tail _ (List.Mem.head _)))))) (z_goto X (t := 90) rfl rfl (N1009 _))
          refine z_icmp_eq X (t := 53) rfl rfl ⟨by first | exact oq_fa4e5087 hi.2.2.2.2.1 | omega, by first | exact oq_85aa3fe6 g1002 | omega⟩ (by decide) (fun g1028 => ?_) (fun g1028 => ?_)
          ·
            exact w_lload X.1 (ax_d X (show cdA 2 53 = some (.lload 4, 2, 0, 0, 0) from rfl)) (x := bv) (List.Mem.tail _ (List.Mem.tail _ (List.Mem.tail _ (List.Mem.tail _ (List.Mem.head _))))) (z_goto X (t := 59) rfl rfl (N1007 _))
          ·
            refine z_load X (x := kd) rfl (List.Mem.tail _ (List.Mem.tail _ (List.Mem.tail _ (List.Mem.tail _ (List.Mem.tail _ (List.Mem.tail _ (List.Mem.tail _ (List.Mem.tail _ (List.Mem.head _))))))))) (z_const X rfl (z_icmp_ne X (t := 58) rfl rfl ⟨by first | exact oq_fa4e5087 hi.2.2.2.2.1 | omega, by first | exact oq_85aa3fe6 g1002 | omega⟩ (by decide) (fun g1029 => ?_) (fun g1029 => ?_)))
            ·
              exact w_lload_n X.1 (ax_d X (show cdA 2 58 = some (.lload_n 2, 1, 0, 0, 0) from rfl)) (x := av) (List.Mem.tail _ (List.Mem.tail _ (List.Mem.tail _ (List.Mem.head _)))) (N1007 _)
            ·
              exact w_lload X.1 (ax_d X (show cdA 2 53 = some (.lload 4, 2, 0, 0, 0) from rfl)) (x := bv) (List.Mem.tail _ (List.Mem.tail _ (List.Mem.tail _ (List.Mem.tail _ (List.Mem.head _))))) (z_goto X (t := 59) rfl rfl (N1007 _))
  refine z_const X rfl (z_store X (lv' := [(6, .int (Int32.ofInt 0)), (0, .ref (A 93)), (1, .int (Int32.ofInt x)), (2, .long aj), (4, .long bj)]) rfl (by decide) (fun _ h => h) (z_const X rfl (z_store X (lv' := [(7, .int (Int32.ofInt 0)), (6, .int (Int32.ofInt 0)), (0, .ref (A 93)), (1, .int (Int32.ofInt x)), (2, .long aj), (4, .long bj)]) rfl (by decide) (fun _ h => h) (z_const X rfl (z_store X (lv' := [(8, .int (Int32.ofInt 0)), (7, .int (Int32.ofInt 0)), (6, .int (Int32.ofInt 0)), (0, .ref (A 93)), (1, .int (Int32.ofInt x)), (2, .long aj), (4, .long bj)]) rfl (by decide) (fun _ h => h) (z_const X rfl (z_store X (lv' := [(9, .int (Int32.ofInt 0)), (8, .int (Int32.ofInt 0)), (7, .int (Int32.ofInt 0)), (6, .int (Int32.ofInt 0)), (0, .ref (A 93)), (1, .int (Int32.ofInt x)), (2, .long aj), (4, .long bj)]) rfl (by decide) (fun _ h => h) (WS_pq [4, 5, 6, 7, 3, 2, 1, 0] (lv' := [(0, .ref (A 93)), (1, .int (Int32.ofInt x)), (2, .long aj), (4, .long bj), (6, .int (Int32.ofInt 0)), (7, .int (Int32.ofInt 0)), (8, .int (Int32.ofInt 0)), (9, .int (Int32.ofInt 0))]) rfl (L12 ((5 - 0 : Int).toNat + 1) s x aj bj 0 0 0 0 I F (by first | exact ⟨And.intro (p0.1) (p0.2), And.intro (by decide) (by decide), And.intro (by decide) (by decide), And.intro (by decide) (by decide), by decide, by decide, p1⟩ | omega) (Nat.lt_succ_self _) ?_)))))))))
  intro s2 x3 x4 x5 x6 Is2 Fs2 hs2
  have b7 := bi_46 Is2
  refine z_aload_n X (x := A 93) rfl (List.Mem.head _) (s_getR X 93 rfl (c518_ok rfl) rfl rfl (z_aload_n X (x := A 93) rfl (List.Mem.head _) (z_getI X 93 rfl (c518_ok rfl) rfl rfl ?_)))
  have b8 := bi_46 Is2
  refine z_load X (x := x3) rfl (List.Mem.tail _ (List.Mem.tail _ (List.Mem.tail _ (List.Mem.tail _ (List.Mem.head _))))) (z_ast X 95 rfl (c518_ok rfl) rfl (by first | exact b8.1 | omega) (show (iI s2 46) < 12 by first | exact oq_0ddfcfee hs2.2.2.2.2.2.2 | omega) (cbig_ok rfl) (wd_gen (fun s9 hs9 => ?_)))
  have Is9 : Bd s9 := eqB hs9 (bd_C Is2 (show ((-2147483648) : Int) ≤ x3 ∧ x3 ≤ 2147483647 by first | exact ⟨hs2.2.1.1, hs2.2.1.2⟩ | omega) ⟨by first | exact hs2.2.1.1 | omega, by first | exact hs2.2.1.2 | omega⟩)
  have Fs9 := eqF hs9 (fm_C Fs2 (inl_ok (a := 81) rfl))
  have ws9_46 : iI s9 46 = iI s2 46 := eqI hs9 rfl
  refine z_aload_n X (x := A 93) rfl (List.Mem.head _) (s_getR X 93 rfl (c518_ok rfl) rfl rfl (z_aload_n X (x := A 93) rfl (List.Mem.head _) (z_getI X 93 rfl (c518_ok rfl) rfl rfl ?_)))
  have b10 := bi_46 Is9
  refine z_load X (x := x4) rfl (List.Mem.tail _ (List.Mem.tail _ (List.Mem.tail _ (List.Mem.tail _ (List.Mem.tail _ (List.Mem.head _)))))) (z_ast X 96 rfl (c518_ok rfl) rfl (by first | exact b10.1 | omega) (show (iI s9 46) < 12 by first | exact oq_210fcd76 ws9_46 hs2.2.2.2.2.2.2 | omega) (cbig_ok rfl) (wd_gen (fun s11 hs11 => ?_)))
  have Is11 : Bd s11 := eqB hs11 (bd_C Is9 (show ((-2147483648) : Int) ≤ x4 ∧ x4 ≤ 2147483647 by first | exact ⟨hs2.2.2.1.1, hs2.2.2.1.2⟩ | omega) ⟨by first | exact hs2.2.2.1.1 | omega, by first | exact hs2.2.2.1.2 | omega⟩)
  have Fs11 := eqF hs11 (fm_C Fs9 (inl_ok (a := 82) rfl))
  have ws11_46 : iI s11 46 = iI s9 46 := eqI hs11 rfl
  refine z_aload_n X (x := A 93) rfl (List.Mem.head _) (s_getR X 93 rfl (c518_ok rfl) rfl rfl (z_aload_n X (x := A 93) rfl (List.Mem.head _) (z_getI X 93 rfl (c518_ok rfl) rfl rfl ?_)))
  have b12 := bi_46 Is11
  refine z_load X (x := x5) rfl (List.Mem.tail _ (List.Mem.tail _ (List.Mem.tail _ (List.Mem.tail _ (List.Mem.tail _ (List.Mem.tail _ (List.Mem.head _))))))) (z_ast X 97 rfl (c518_ok rfl) rfl (by first | exact b12.1 | omega) (show (iI s11 46) < 12 by first | exact oq_e2284db0 ws11_46 ws9_46 hs2.2.2.2.2.2.2 | omega) (cbig_ok rfl) (wd_gen (fun s13 hs13 => ?_)))
  have Is13 : Bd s13 := eqB hs13 (bd_C Is11 (show ((-2147483648) : Int) ≤ x5 ∧ x5 ≤ 2147483647 by first | exact ⟨hs2.2.2.2.1.1, hs2.2.2.2.1.2⟩ | omega) ⟨by first | exact hs2.2.2.2.1.1 | omega, by first | exact hs2.2.2.2.1.2 | omega⟩)
  have Fs13 := eqF hs13 (fm_C Fs11 (inl_ok (a := 83) rfl))
  have ws13_46 : iI s13 46 = iI s11 46 := eqI hs13 rfl
  exact w_vret X.1 q hRt (ax_d X (show cdA 2 181 = some (.return_, 1, 0, 0, 0) from rfl)) (Nat.zero_le _) (Nat.zero_le _) ⟨_, rfl, Is13, Fs13, rfl, trivial⟩
set_option maxRecDepth 4000 in
theorem c0_listen_93 (G : GX l s0 D tys a0 dT) (I : Bd s) {x : Int} {aj bj : Int64} (p0 : rng x) : CT l s0 D A dT 1 (rmN 1) [.ref (A 93), .long aj, .long bj, .int (Int32.ofInt x)] s (fun o t => Bd t ∧ Fm [46, 47] [87, 80, 81, 82, 83, 84, 85, 86] s t ∧ o = .inl none ∧ (True)) := by
  refine ct_ofX G (by decide) (Nat.le_of_ble_eq_true rfl) (fun k X E ET hRt hXt q => ?_)
  show WS k 0 [(0, .ref (A 93)), (1, .long aj), (3, .long bj), (5, .int (Int32.ofInt x))] [] _ 0 0
  have F : Fm [46, 47] [87, 80, 81, 82, 83, 84, 85, 86] s s := fm_rf _ _ s
  have b1 := bi_46 I
  have b2 := bi_47 I
  have b3 := bi_43 I
  have b4 := bi_44 I
  have L42 : ∀ (n : Nat) (t : PS) (av : Int64) (bv : Int64) (c : Int), Bd t → Fm [46, 47] [87, 80, 81, 82, 83, 84, 85, 86] s t → (0 ≤ c ∧ c ≤ 12 ∧ iI t 46 ≤ c) → (12 - c : Int).toNat < n → (∀ (t' : PS) (c' : Int), Bd t' → Fm [46, 47] [87, 80, 81, 82, 83, 84, 85, 86] s t' → (0 ≤ c' ∧ c' ≤ 12 ∧ iI t' 46 ≤ c') → WS k 125 [(0, .ref (A 93)), (1, .long av), (3, .long bv), (6, .int (Int32.ofInt c'))] [] (Wd A dT t') 0 0) → WS k 42 [(0, .ref (A 93)), (1, .long av), (3, .long bv), (6, .int (Int32.ofInt c))] [] (Wd A dT t) 0 0 := by
    intro n
    induction n with
    | zero =>
      intro t av bv c I F hi hm kx
      exact absurd hm (Nat.not_lt_zero _)
    | succ n ih =>
      intro t av bv c I F hi hm kx
      have b1001 := bi_46 I
      have b1002 := bi_47 I
      have b1003 := bi_43 I
      have b1004 := bi_44 I
      refine z_load X (x := c) rfl (List.Mem.tail _ (List.Mem.tail _ (List.Mem.tail _ (List.Mem.head _)))) (z_aload_n X (x := A 93) rfl (List.Mem.head _) (s_getR X 93 rfl (c518_ok rfl) rfl rfl (z_getI X 68 rfl (c518_ok rfl) rfl rfl ?_)))
      have b1005 := bi_43 I
      refine z_icmp_ge X (t := 125) rfl rfl ⟨by first | exact oq_fa4e5087 hi.1 | omega, by first | exact oq_78843a64 hi.2.1 | omega⟩ (rng_to _) (fun g1006 => ?_) (fun g1006 => ?_)
      ·
        refine WS_pq [0, 1, 2, 3] (lv' := [(0, .ref (A 93)), (1, .long av), (3, .long bv), (6, .int (Int32.ofInt c))]) rfl ?_
        exact kx _ c I F (by first | exact ⟨hi.1, hi.2.1, hi.2.2⟩ | omega)
      ·
        refine z_aload_n X (x := A 93) rfl (List.Mem.head _) (s_getR X 93 rfl (c518_ok rfl) rfl rfl (s_getR X 68 rfl (c518_ok rfl) rfl rfl (z_load X (x := c) rfl (List.Mem.tail _ (List.Mem.tail _ (List.Mem.tail _ (List.Mem.head _)))) (z_const X rfl (z_mul X rfl (z_lald X 71 rfl (c518_ok rfl) rfl (by first | exact oq_cfc6ac54 hi.1 | omega) (show (c * 2) < 24 by first | exact oq_e062d2c8 g1006 b1005.2 | omega) (cbig_ok rfl) (fun j1007 => ?_)))))))
        refine w_lload_n X.1 (ax_d X (show cdA 1 66 = some (.lload_n 1, 1, 0, 0, 0) from rfl)) (x := av) (List.Mem.tail _ (List.Mem.head _)) (w_land X.1 (ax_d X (show cdA 1 67 = some (.land, 1, 0, 0, 0) from rfl)) (z_anyJ (fun j1008 => ?_)))
        refine z_aload_n X (x := A 93) rfl (List.Mem.head _) (s_getR X 93 rfl (c518_ok rfl) rfl rfl (s_getR X 68 rfl (c518_ok rfl) rfl rfl (z_load X (x := c) rfl (List.Mem.tail _ (List.Mem.tail _ (List.Mem.tail _ (List.Mem.head _)))) (z_const X rfl (z_mul X rfl (z_const X rfl (z_add X rfl (z_lald X 71 rfl (c518_ok rfl) rfl (by first | exact oq_8a3e0277 hi.1 | omega) (show ((c * 2) + 1) < 24 by first | exact oq_0edc0603 g1006 b1005.2 | omega) (cbig_ok rfl) (fun j1009 => ?_)))))))))
        refine w_lload_n X.1 (ax_d X (show cdA 1 82 = some (.lload_n 3, 1, 0, 0, 0) from rfl)) (x := bv) (List.Mem.tail _ (List.Mem.tail _ (List.Mem.head _))) (w_land X.1 (ax_d X (show cdA 1 83 = some (.land, 1, 0, 0, 0) from rfl)) (z_anyJ (fun j1010 => ?_)))
        refine w_lor X.1 (ax_d X (show cdA 1 84 = some (.lor, 1, 0, 0, 0) from rfl)) (z_anyJ (fun j1011 => ?_))
        refine w_lconst X.1 (ax_d X (show cdA 1 85 = some (.lconst 0, 1, 0, 0, 0) from rfl)) rfl (z_anyJ (fun j1012 => ?_))
        refine w_lcmp X.1 (ax_d X (show cdA 1 86 = some (.lcmp, 1, 0, 0, 0) from rfl)) (z_any (fun y1013 hy1013 => ?_))
        refine z_if_eq X (t := 119) rfl rfl hy1013 (fun g1014 => ?_) (fun g1014 => ?_)
        ·
          refine z_inc X (x := c) (lv' := [(6, .int (Int32.ofInt (c + 1))), (0, .ref (A 93)), (1, .long av), (3, .long bv)]) rfl (by decide) (List.Mem.tail _ (List.Mem.tail _ (List.Mem.tail _ (List.Mem.head _)))) (fun _ h => h) (z_goto X (t := 42) rfl rfl (WS_pq [1, 2, 3, 0] (lv' := [(0, .ref (A 93)), (1, .long av), (3, .long bv), (6, .int (Int32.ofInt (c + 1)))]) rfl ?_))
          exact ih _ av bv (c + 1) I F (by first | exact ⟨oq_54f49eb5 hi.1, oq_4dae995e g1006 b1005.2, oq_03182e9e hi.2.2⟩ | omega) (by first | exact qk_me hm (by decide) (oq_b575e8c1 g1006 b1005.2) | omega) kx
        ·
          refine z_aload_n X (x := A 93) rfl (List.Mem.head _) (s_getR X 93 rfl (c518_ok rfl) rfl rfl (z_aload_n X (x := A 93) rfl (List.Mem.head _) (z_getI X 93 rfl (c518_ok rfl) rfl rfl ?_)))
          have b1015 := bi_46 I
          refine z_load X (x := c) rfl (List.Mem.tail _ (List.Mem.tail _ (List.Mem.tail _ (List.Mem.head _)))) (z_ast X 94 rfl (c518_ok rfl) rfl (by first | exact b1015.1 | omega) (show (iI t 46) < 12 by first | exact oq_79196c7f hi.2.2 g1006 b1005.2 | omega) (cbig_ok rfl) (wd_gen (fun s1016 hs1016 => ?_)))
          have Is1016 : Bd s1016 := eqB hs1016 (bd_C I (show (0 : Int) ≤ c ∧ c ≤ 11 by first | exact ⟨hi.1, oq_e4d7f3c5 g1006 b1005.2⟩ | omega) ⟨by first | exact oq_fa4e5087 hi.1 | omega, by first | exact oq_78843a64 hi.2.1 | omega⟩)
          have Fs1016 := eqF hs1016 (fm_C F (inl_ok (a := 80) rfl))
          have ws1016_46 : iI s1016 46 = iI t 46 := eqI hs1016 rfl
          have ws1016_47 : iI s1016 47 = iI t 47 := eqI hs1016 rfl
          have ws1016_43 : iI s1016 43 = iI t 43 := eqI hs1016 rfl
          have ws1016_44 : iI s1016 44 = iI t 44 := eqI hs1016 rfl
          refine z_aload_n X (x := A 93) rfl (List.Mem.head _) (z_load X (x := c) rfl (List.Mem.tail _ (List.Mem.tail _ (List.Mem.tail _ (List.Mem.head _)))) (w_lload_n X.1 (ax_d X (show cdA 1 104 = some (.lload_n 1, 1, 0, 0, 0) from rfl)) (x := av) (List.Mem.tail _ (List.Mem.head _)) (w_lload_n X.1 (ax_d X (show cdA 1 105 = some (.lload_n 3, 1, 0, 0, 0) from rfl)) (x := bv) (List.Mem.tail _ (List.Mem.tail _ (List.Mem.head _))) (zcV_v0 X E 93 (As := [.int (Int32.ofInt c), .long av, .long bv]) (st := []) rfl rfl rfl rfl (c0_followSteps_93 G Is1016 (by first | exact ⟨hi.1, oq_e4d7f3c5 g1006 b1005.2⟩ | omega) (by first | exact oq_2f168143 ws1016_46 hi.2.2 g1006 b1005.2 | omega)) rfl (Nat.le_of_ble_eq_true rfl) (fun s1017 Is1017 Fs1017 hps1017 => ?_)))))
          have Gs1017 := fm_tq Fs1016 Fs1017 rfl rfl
          have ws1017_46 : iI s1017 46 = iI s1016 46 := fm_iq Fs1017 rfl
          have ws1017_47 : iI s1017 47 = iI s1016 47 := fm_iq Fs1017 rfl
          have ws1017_43 : iI s1017 43 = iI s1016 43 := fm_iq Fs1017 rfl
          have ws1017_44 : iI s1017 44 = iI s1016 44 := fm_iq Fs1017 rfl
          refine z_aload_n X (x := A 93) rfl (List.Mem.head _) (w_dup X.1 (ax_d X (show cdA 1 110 = some (.dup, 1, 0, 0, 0) from rfl)) rfl (z_getI X 93 rfl (c518_ok rfl) rfl rfl ?_))
          have b1019 := bi_46 Is1017
          refine z_const X rfl (z_add X rfl (s_putI X 93 rfl (c518_ok rfl) rfl rfl (by decide) rfl rfl rfl (wd_gen (fun s1020 hs1020 => ?_))))
          have Is1020 : Bd s1020 := eqB hs1020 (bd_I Is1017 (show (0 : Int) ≤ ((iI s1017 46) + 1) ∧ ((iI s1017 46) + 1) ≤ 12 by first | exact ⟨oq_54f49eb5 b1019.1, oq_1fea0193 ws1017_46 ws1016_46 hi.2.2 g1006 b1005.2⟩ | omega) ⟨by first | exact oq_74de1e16 b1019.1 | omega, by first | exact oq_76a8a5b7 b1019.2 | omega⟩)
          have Fs1020 := eqF hs1020 (fm_I Gs1017 (inl_ok (a := 46) rfl))
          have vs1020 : iI s1020 46 = ((iI s1017 46) + 1) := eqI hs1020 (iI_u ⟨by first | exact oq_74de1e16 b1019.1 | omega, by first | exact oq_76a8a5b7 b1019.2 | omega⟩)
          have ws1020_47 : iI s1020 47 = iI s1017 47 := eqI hs1020 rfl
          have ws1020_43 : iI s1020 43 = iI s1017 43 := eqI hs1020 rfl
          have ws1020_44 : iI s1020 44 = iI s1017 44 := eqI hs1020 rfl
          refine z_inc X (x := c) (lv' := [(6, .int (Int32.ofInt (c + 1))), (0, .ref (A 93)), (1, .long av), (3, .long bv)]) rfl (by decide) (List.Mem.tail _ (List.Mem.tail _ (List.Mem.tail _ (List.Mem.head _)))) (fun _ h => h) (z_goto X (t := 42) rfl rfl (WS_pq [1, 2, 3, 0] (lv' := [(0, .ref (A 93)), (1, .long av), (3, .long bv), (6, .int (Int32.ofInt (c + 1)))]) rfl ?_))
          exact ih _ av bv (c + 1) Is1020 Fs1020 (by first | exact ⟨oq_54f49eb5 hi.1, oq_4dae995e g1006 b1005.2, oq_ecb13324 vs1020 hi.2.2 ws1017_46 ws1016_46⟩ | omega) (by first | exact qk_me hm (by decide) (oq_b575e8c1 g1006 b1005.2) | omega) kx
  have L133 : ∀ (n : Nat) (t : PS) (av : Int64) (bv : Int64) (c : Int), Bd t → Fm [46, 47] [87, 80, 81, 82, 83, 84, 85, 86] s t → (0 ≤ c ∧ c ≤ 66 ∧ iI t 47 ≤ c) → (66 - c : Int).toNat < n → (∀ (t' : PS) (c' : Int), Bd t' → Fm [46, 47] [87, 80, 81, 82, 83, 84, 85, 86] s t' → (0 ≤ c' ∧ c' ≤ 66 ∧ iI t' 47 ≤ c') → WS k 260 [(0, .ref (A 93)), (1, .long av), (3, .long bv), (6, .int (Int32.ofInt c'))] [] (Wd A dT t') 0 0) → WS k 133 [(0, .ref (A 93)), (1, .long av), (3, .long bv), (6, .int (Int32.ofInt c))] [] (Wd A dT t) 0 0 := by
    intro n
    induction n with
    | zero =>
      intro t av bv c I F hi hm kx
      exact absurd hm (Nat.not_lt_zero _)
    | succ n ih =>
      intro t av bv c I F hi hm kx
      have b2001 := bi_46 I
      have b2002 := bi_47 I
      have b2003 := bi_43 I
      have b2004 := bi_44 I
      refine z_load X (x := c) rfl (List.Mem.tail _ (List.Mem.tail _ (List.Mem.tail _ (List.Mem.head _)))) (z_aload_n X (x := A 93) rfl (List.Mem.head _) (s_getR X 93 rfl (c518_ok rfl) rfl rfl (z_getI X 68 rfl (c518_ok rfl) rfl rfl ?_)))
      have b2005 := bi_44 I
      refine z_icmp_ge X (t := 260) rfl rfl ⟨by first | exact oq_fa4e5087 hi.1 | omega, by first | exact oq_64f2e926 hi.2.1 | omega⟩ (rng_to _) (fun g2006 => ?_) (fun g2006 => ?_)
      ·
        refine WS_pq [0, 1, 2, 3] (lv' := [(0, .ref (A 93)), (1, .long av), (3, .long bv), (6, .int (Int32.ofInt c))]) rfl ?_
        exact kx _ c I F (by first | exact ⟨hi.1, hi.2.1, hi.2.2⟩ | omega)
      ·
        refine z_aload_n X (x := A 93) rfl (List.Mem.head _) (s_getR X 93 rfl (c518_ok rfl) rfl rfl (s_getR X 68 rfl (c518_ok rfl) rfl rfl (z_load X (x := c) rfl (List.Mem.tail _ (List.Mem.tail _ (List.Mem.tail _ (List.Mem.head _)))) (z_const X rfl (z_mul X rfl (z_lald X 75 rfl (c518_ok rfl) rfl (by first | exact oq_cfc6ac54 hi.1 | omega) (show (c * 2) < 132 by first | exact oq_ff78435a g2006 b2005.2 | omega) (cbig_ok rfl) (fun j2007 => ?_)))))))
        refine w_lload_n X.1 (ax_d X (show cdA 1 157 = some (.lload_n 1, 1, 0, 0, 0) from rfl)) (x := av) (List.Mem.tail _ (List.Mem.head _)) (w_land X.1 (ax_d X (show cdA 1 158 = some (.land, 1, 0, 0, 0) from rfl)) (z_anyJ (fun j2008 => ?_)))
        refine zcS_i0 X E (As := [.long j2008]) (st := []) rfl rfl (j_bitL G I ) rfl (Nat.le_of_ble_eq_true rfl) (fun s2009 e2010 Is2009 Fs2009 hrs2009 hps2009 => ?_)
        have Gs2009 := fm_tq F Fs2009 rfl rfl
        have ws2009_46 : iI s2009 46 = iI t 46 := fm_iq Fs2009 rfl
        have ws2009_47 : iI s2009 47 = iI t 47 := fm_iq Fs2009 rfl
        have ws2009_43 : iI s2009 43 = iI t 43 := fm_iq Fs2009 rfl
        have ws2009_44 : iI s2009 44 = iI t 44 := fm_iq Fs2009 rfl
        refine z_aload_n X (x := A 93) rfl (List.Mem.head _) (s_getR X 93 rfl (c518_ok rfl) rfl rfl (s_getR X 68 rfl (c518_ok rfl) rfl rfl (z_load X (x := c) rfl (List.Mem.tail _ (List.Mem.tail _ (List.Mem.tail _ (List.Mem.head _)))) (z_const X rfl (z_mul X rfl (z_const X rfl (z_add X rfl (z_lald X 75 rfl (c518_ok rfl) rfl (by first | exact oq_8a3e0277 hi.1 | omega) (show ((c * 2) + 1) < 132 by first | exact oq_643e2065 g2006 b2005.2 | omega) (cbig_ok rfl) (fun j2011 => ?_)))))))))
        refine w_lload_n X.1 (ax_d X (show cdA 1 176 = some (.lload_n 3, 1, 0, 0, 0) from rfl)) (x := bv) (List.Mem.tail _ (List.Mem.tail _ (List.Mem.head _))) (w_land X.1 (ax_d X (show cdA 1 177 = some (.land, 1, 0, 0, 0) from rfl)) (z_anyJ (fun j2012 => ?_)))
        refine zcS_i0 X E (As := [.long j2012]) (st := [.int (Int32.ofInt e2010)]) rfl rfl (j_bitL G Is2009 ) rfl (Nat.le_of_ble_eq_true rfl) (fun s2013 e2014 Is2013 Fs2013 hrs2013 hps2013 => ?_)
        have Gs2013 := fm_tq Gs2009 Fs2013 rfl rfl
        have ws2013_46 : iI s2013 46 = iI s2009 46 := fm_iq Fs2013 rfl
        have ws2013_47 : iI s2013 47 = iI s2009 47 := fm_iq Fs2013 rfl
        have ws2013_43 : iI s2013 43 = iI s2009 43 := fm_iq Fs2013 rfl
        have ws2013_44 : iI s2013 44 = iI s2009 44 := fm_iq Fs2013 rfl
        refine z_add X rfl (z_any (fun y2015 hy2015 => ?_))
        refine z_store X (lv' := [(7, .int (Int32.ofInt y2015)), (0, .ref (A 93)), (1, .long av), (3, .long bv), (6, .int (Int32.ofInt c))]) rfl (by decide) (fun _ h => h) (z_load X (x := y2015) rfl (List.Mem.head _) (z_if_le X (t := 254) rfl rfl hy2015 (fun g2016 => ?_) (fun g2016 => ?_)))
        ·
          refine z_inc X (x := c) (lv' := [(6, .int (Int32.ofInt (c + 1))), (7, .int (Int32.ofInt y2015)), (0, .ref (A 93)), (1, .long av), (3, .long bv)]) rfl (by decide) (List.Mem.tail _ (List.Mem.tail _ (List.Mem.tail _ (List.Mem.tail _ (List.Mem.head _))))) (fun _ h => h) (z_goto X (t := 133) rfl rfl (WS_pq [2, 3, 4, 0] (lv' := [(0, .ref (A 93)), (1, .long av), (3, .long bv), (6, .int (Int32.ofInt (c + 1)))]) rfl ?_))
          exact ih _ av bv (c + 1) Is2013 Gs2013 (by first | exact ⟨oq_54f49eb5 hi.1, oq_319a18a4 g2006 b2005.2, oq_2e1f687c ws2013_47 hi.2.2 ws2009_47⟩ | omega) (by first | exact qk_me hm (by decide) (oq_dd0e9829 g2006 b2005.2) | omega) kx
        ·
          refine z_aload_n X (x := A 93) rfl (List.Mem.tail _ (List.Mem.head _)) (s_getR X 93 rfl (c518_ok rfl) rfl rfl (z_aload_n X (x := A 93) rfl (List.Mem.tail _ (List.Mem.head _)) (z_getI X 93 rfl (c518_ok rfl) rfl rfl ?_)))
          have b2017 := bi_47 Is2013
          refine z_aload_n X (x := A 93) rfl (List.Mem.tail _ (List.Mem.head _)) (s_getR X 93 rfl (c518_ok rfl) rfl rfl (s_getR X 68 rfl (c518_ok rfl) rfl rfl (z_load X (x := c) rfl (List.Mem.tail _ (List.Mem.tail _ (List.Mem.tail _ (List.Mem.tail _ (List.Mem.head _))))) (z_ald X 74 rfl (c518_ok rfl) rfl (by first | exact hi.1 | omega) (show c < 66 by first | exact oq_256e4529 g2006 b2005.2 | omega) (cbig_ok rfl) ?_))))
          have b2018 := bc_62 Is2013 (show (c).toNat < 66 by first | exact oq_d7ff7873 g2006 b2005.2 | omega)
          refine z_bipush X rfl (z_quot X rfl (by first | exact b2018.1 | omega) (rng_to _) (by decide) (by decide) (z_ast X 98 rfl (c518_ok rfl) rfl (by first | exact b2017.1 | omega) (show (iI s2013 47) < 66 by first | exact oq_141bb310 ws2013_47 ws2009_47 hi.2.2 g2006 b2005.2 | omega) (cbig_ok rfl) (wd_gen (fun s2019 hs2019 => ?_))))
          have Is2019 : Bd s2019 := eqB hs2019 (bd_C Is2013 (show (0 : Int) ≤ ((iC s2013 62 (c).toNat) / 12) ∧ ((iC s2013 62 (c).toNat) / 12) ≤ 11 by first | exact ⟨oq_37eb78e0 b2018.1, oq_a03fe580 b2018.2⟩ | omega) ⟨by first | exact oq_e17ab641 b2018.1 | omega, by first | exact oq_c285d9d6 b2018.2 | omega⟩)
          have Fs2019 := eqF hs2019 (fm_C Gs2013 (inl_ok (a := 84) rfl))
          have ws2019_46 : iI s2019 46 = iI s2013 46 := eqI hs2019 rfl
          have ws2019_47 : iI s2019 47 = iI s2013 47 := eqI hs2019 rfl
          have ws2019_43 : iI s2019 43 = iI s2013 43 := eqI hs2019 rfl
          have ws2019_44 : iI s2019 44 = iI s2013 44 := eqI hs2019 rfl
          refine z_aload_n X (x := A 93) rfl (List.Mem.tail _ (List.Mem.head _)) (s_getR X 93 rfl (c518_ok rfl) rfl rfl (z_aload_n X (x := A 93) rfl (List.Mem.tail _ (List.Mem.head _)) (z_getI X 93 rfl (c518_ok rfl) rfl rfl ?_)))
          have b2020 := bi_47 Is2019
          refine z_aload_n X (x := A 93) rfl (List.Mem.tail _ (List.Mem.head _)) (s_getR X 93 rfl (c518_ok rfl) rfl rfl (s_getR X 68 rfl (c518_ok rfl) rfl rfl (z_load X (x := c) rfl (List.Mem.tail _ (List.Mem.tail _ (List.Mem.tail _ (List.Mem.tail _ (List.Mem.head _))))) (z_ald X 74 rfl (c518_ok rfl) rfl (by first | exact hi.1 | omega) (show c < 66 by first | exact oq_256e4529 g2006 b2005.2 | omega) (cbig_ok rfl) ?_))))
          have b2021 := bc_62 Is2019 (show (c).toNat < 66 by first | exact oq_d7ff7873 g2006 b2005.2 | omega)
          refine z_bipush X rfl (z_mod X rfl (by first | exact b2021.1 | omega) (rng_to _) (by decide) (by decide) (z_ast X 99 rfl (c518_ok rfl) rfl (by first | exact b2020.1 | omega) (show (iI s2019 47) < 66 by first | exact oq_47fd6e20 ws2019_47 ws2013_47 ws2009_47 g2006 b2005.2 hi.2.2 | omega) (cbig_ok rfl) (wd_gen (fun s2022 hs2022 => ?_))))
          have Is2022 : Bd s2022 := eqB hs2022 (bd_C Is2019 (show (0 : Int) ≤ ((iC s2019 62 (c).toNat) % 12) ∧ ((iC s2019 62 (c).toNat) % 12) ≤ 11 by first | exact ⟨oq_b83041cc, oq_e286272e⟩ | omega) ⟨by first | exact oq_9d26ea27 | omega, by first | exact oq_6634e3d0 | omega⟩)
          have Fs2022 := eqF hs2022 (fm_C Fs2019 (inl_ok (a := 85) rfl))
          have ws2022_46 : iI s2022 46 = iI s2019 46 := eqI hs2022 rfl
          have ws2022_47 : iI s2022 47 = iI s2019 47 := eqI hs2022 rfl
          have ws2022_43 : iI s2022 43 = iI s2019 43 := eqI hs2022 rfl
          have ws2022_44 : iI s2022 44 = iI s2019 44 := eqI hs2022 rfl
          refine z_aload_n X (x := A 93) rfl (List.Mem.tail _ (List.Mem.head _)) (s_getR X 93 rfl (c518_ok rfl) rfl rfl (z_aload_n X (x := A 93) rfl (List.Mem.tail _ (List.Mem.head _)) (z_getI X 93 rfl (c518_ok rfl) rfl rfl ?_)))
          have b2023 := bi_47 Is2022
          refine z_load X (x := y2015) rfl (List.Mem.head _) (z_ast X 100 rfl (c518_ok rfl) rfl (by first | exact b2023.1 | omega) (show (iI s2022 47) < 66 by first | exact oq_3af0036b ws2022_47 ws2019_47 ws2013_47 ws2009_47 g2006 b2005.2 hi.2.2 | omega) (cbig_ok rfl) (wd_gen (fun s2024 hs2024 => ?_)))
          have Is2024 : Bd s2024 := eqB hs2024 (bd_C Is2022 (show ((-2147483648) : Int) ≤ y2015 ∧ y2015 ≤ 2147483647 by first | exact ⟨hy2015.1, hy2015.2⟩ | omega) hy2015)
          have Fs2024 := eqF hs2024 (fm_C Fs2022 (inl_ok (a := 86) rfl))
          have ws2024_46 : iI s2024 46 = iI s2022 46 := eqI hs2024 rfl
          have ws2024_47 : iI s2024 47 = iI s2022 47 := eqI hs2024 rfl
          have ws2024_43 : iI s2024 43 = iI s2022 43 := eqI hs2024 rfl
          have ws2024_44 : iI s2024 44 = iI s2022 44 := eqI hs2024 rfl
          refine z_aload_n X (x := A 93) rfl (List.Mem.tail _ (List.Mem.head _)) (w_dup X.1 (ax_d X (show cdA 1 245 = some (.dup, 1, 0, 0, 0) from rfl)) rfl (z_getI X 93 rfl (c518_ok rfl) rfl rfl ?_))
          have b2025 := bi_47 Is2024
          refine z_const X rfl (z_add X rfl (s_putI X 93 rfl (c518_ok rfl) rfl rfl (by decide) rfl rfl rfl (wd_gen (fun s2026 hs2026 => ?_))))
          have Is2026 : Bd s2026 := eqB hs2026 (bd_I Is2024 (show (0 : Int) ≤ ((iI s2024 47) + 1) ∧ ((iI s2024 47) + 1) ≤ 66 by first | exact ⟨oq_54f49eb5 b2025.1, oq_d0eb7b2e ws2024_47 ws2022_47 ws2019_47 ws2013_47 ws2009_47 g2006 b2005.2 hi.2.2⟩ | omega) ⟨by first | exact oq_74de1e16 b2025.1 | omega, by first | exact oq_d99c2177 b2025.2 | omega⟩)
          have Fs2026 := eqF hs2026 (fm_I Fs2024 (inl_ok (a := 47) rfl))
          have vs2026 : iI s2026 47 = ((iI s2024 47) + 1) := eqI hs2026 (iI_u ⟨by first | exact oq_74de1e16 b2025.1 | omega, by first | exact oq_d99c2177 b2025.2 | omega⟩)
          have ws2026_46 : iI s2026 46 = iI s2024 46 := eqI hs2026 rfl
          have ws2026_43 : iI s2026 43 = iI s2024 43 := eqI hs2026 rfl
          have ws2026_44 : iI s2026 44 = iI s2024 44 := eqI hs2026 rfl
          refine z_inc X (x := c) (lv' := [(6, .int (Int32.ofInt (c + 1))), (7, .int (Int32.ofInt y2015)), (0, .ref (A 93)), (1, .long av), (3, .long bv)]) rfl (by decide) (List.Mem.tail _ (List.Mem.tail _ (List.Mem.tail _ (List.Mem.tail _ (List.Mem.head _))))) (fun _ h => h) (z_goto X (t := 133) rfl rfl (WS_pq [2, 3, 4, 0] (lv' := [(0, .ref (A 93)), (1, .long av), (3, .long bv), (6, .int (Int32.ofInt (c + 1)))]) rfl ?_))
          exact ih _ av bv (c + 1) Is2026 Fs2026 (by first | exact ⟨oq_54f49eb5 hi.1, oq_319a18a4 g2006 b2005.2, oq_6fc60775 vs2026 ws2024_47 ws2022_47 ws2019_47 ws2013_47 ws2009_47 hi.2.2⟩ | omega) (by first | exact qk_me hm (by decide) (oq_dd0e9829 g2006 b2005.2) | omega) kx
  refine z_aload_n X (x := A 93) rfl (List.Mem.head _) (s_getR X 93 rfl (c518_ok rfl) rfl rfl (z_const X rfl (w_lload_n X.1 (ax_d X (show cdA 1 5 = some (.lload_n 1, 1, 0, 0, 0) from rfl)) (x := aj) (List.Mem.tail _ (List.Mem.head _)) (zcS_i0 X E (As := [.long aj]) (st := [.int (Int32.ofInt 4), .ref (A 101)]) rfl rfl (j_bitL G I ) rfl (Nat.le_of_ble_eq_true rfl) (fun s5 e6 Is5 Fs5 hrs5 hps5 => ?_)))))
  have Gs5 := fm_tq F Fs5 rfl rfl
  have ws5_46 : iI s5 46 = iI s 46 := fm_iq Fs5 rfl
  have ws5_47 : iI s5 47 = iI s 47 := fm_iq Fs5 rfl
  have ws5_43 : iI s5 43 = iI s 43 := fm_iq Fs5 rfl
  have ws5_44 : iI s5 44 = iI s 44 := fm_iq Fs5 rfl
  refine w_lload_n X.1 (ax_d X (show cdA 1 9 = some (.lload_n 3, 1, 0, 0, 0) from rfl)) (x := bj) (List.Mem.tail _ (List.Mem.tail _ (List.Mem.head _))) (zcS_i0 X E (As := [.long bj]) (st := [.int (Int32.ofInt e6), .int (Int32.ofInt 4), .ref (A 101)]) rfl rfl (j_bitL G Is5 ) rfl (Nat.le_of_ble_eq_true rfl) (fun s7 e8 Is7 Fs7 hrs7 hps7 => ?_))
  have Gs7 := fm_tq Gs5 Fs7 rfl rfl
  have ws7_46 : iI s7 46 = iI s5 46 := fm_iq Fs7 rfl
  have ws7_47 : iI s7 47 = iI s5 47 := fm_iq Fs7 rfl
  have ws7_43 : iI s7 43 = iI s5 43 := fm_iq Fs7 rfl
  have ws7_44 : iI s7 44 = iI s5 44 := fm_iq Fs7 rfl
  refine z_add X rfl (z_any (fun y9 hy9 => ?_))
  refine z_ast X 101 rfl (c518_ok rfl) rfl (by decide) (show 4 < 7 by decide) (cbig_ok rfl) (wd_gen (fun s10 hs10 => ?_))
  have Is10 : Bd s10 := eqB hs10 (bd_C Is7 (show ((-2147483648) : Int) ≤ y9 ∧ y9 ≤ 2147483647 by first | exact ⟨hy9.1, hy9.2⟩ | omega) hy9)
  have Fs10 := eqF hs10 (fm_C Gs7 (inl_ok (a := 87) rfl))
  have ws10_46 : iI s10 46 = iI s7 46 := eqI hs10 rfl
  have ws10_47 : iI s10 47 = iI s7 47 := eqI hs10 rfl
  have ws10_43 : iI s10 43 = iI s7 43 := eqI hs10 rfl
  have ws10_44 : iI s10 44 = iI s7 44 := eqI hs10 rfl
  refine z_aload_n X (x := A 93) rfl (List.Mem.head _) (s_getR X 93 rfl (c518_ok rfl) rfl rfl (z_const X rfl (w_lload_n X.1 (ax_d X (show cdA 1 20 = some (.lload_n 1, 1, 0, 0, 0) from rfl)) (x := aj) (List.Mem.tail _ (List.Mem.head _)) (zcS_i0 X E (As := [.long aj]) (st := [.int (Int32.ofInt 5), .ref (A 101)]) rfl rfl (j_bitL G Is10 ) rfl (Nat.le_of_ble_eq_true rfl) (fun s11 e12 Is11 Fs11 hrs11 hps11 => ?_)))))
  have Gs11 := fm_tq Fs10 Fs11 rfl rfl
  have ws11_46 : iI s11 46 = iI s10 46 := fm_iq Fs11 rfl
  have ws11_47 : iI s11 47 = iI s10 47 := fm_iq Fs11 rfl
  have ws11_43 : iI s11 43 = iI s10 43 := fm_iq Fs11 rfl
  have ws11_44 : iI s11 44 = iI s10 44 := fm_iq Fs11 rfl
  refine z_ast X 101 rfl (c518_ok rfl) rfl (by decide) (show 5 < 7 by decide) (cbig_ok rfl) (wd_gen (fun s13 hs13 => ?_))
  have Is13 : Bd s13 := eqB hs13 (bd_C Is11 (show ((-2147483648) : Int) ≤ e12 ∧ e12 ≤ 2147483647 by omega) hrs11)
  have Fs13 := eqF hs13 (fm_C Gs11 (inl_ok (a := 87) rfl))
  have ws13_46 : iI s13 46 = iI s11 46 := eqI hs13 rfl
  have ws13_47 : iI s13 47 = iI s11 47 := eqI hs13 rfl
  have ws13_43 : iI s13 43 = iI s11 43 := eqI hs13 rfl
  have ws13_44 : iI s13 44 = iI s11 44 := eqI hs13 rfl
  refine z_aload_n X (x := A 93) rfl (List.Mem.head _) (s_getR X 93 rfl (c518_ok rfl) rfl rfl (z_bipush X rfl (z_load X (x := x) rfl (List.Mem.tail _ (List.Mem.tail _ (List.Mem.tail _ (List.Mem.head _)))) (z_ast X 101 rfl (c518_ok rfl) rfl (by decide) (show 6 < 7 by decide) (cbig_ok rfl) (wd_gen (fun s14 hs14 => ?_))))))
  have Is14 : Bd s14 := eqB hs14 (bd_C Is13 (show ((-2147483648) : Int) ≤ x ∧ x ≤ 2147483647 by first | exact ⟨p0.1, p0.2⟩ | omega) ⟨by first | exact p0.1 | omega, by first | exact p0.2 | omega⟩)
  have Fs14 := eqF hs14 (fm_C Fs13 (inl_ok (a := 87) rfl))
  have ws14_46 : iI s14 46 = iI s13 46 := eqI hs14 rfl
  have ws14_47 : iI s14 47 = iI s13 47 := eqI hs14 rfl
  have ws14_43 : iI s14 43 = iI s13 43 := eqI hs14 rfl
  have ws14_44 : iI s14 44 = iI s13 44 := eqI hs14 rfl
  refine z_aload_n X (x := A 93) rfl (List.Mem.head _) (z_const X rfl (s_putI X 93 rfl (c518_ok rfl) rfl rfl (by decide) rfl rfl rfl (wd_gen (fun s15 hs15 => ?_))))
  have Is15 : Bd s15 := eqB hs15 (bd_I Is14 (show (0 : Int) ≤ 0 ∧ 0 ≤ 12 by first | exact ⟨by decide, by decide⟩ | omega) (by decide))
  have Fs15 := eqF hs15 (fm_I Fs14 (inl_ok (a := 46) rfl))
  have vs15 : iI s15 46 = 0 := eqI hs15 (iI_u (by decide))
  have ws15_47 : iI s15 47 = iI s14 47 := eqI hs15 rfl
  have ws15_43 : iI s15 43 = iI s14 43 := eqI hs15 rfl
  have ws15_44 : iI s15 44 = iI s14 44 := eqI hs15 rfl
  refine z_const X rfl (z_store X (lv' := [(6, .int (Int32.ofInt 0)), (0, .ref (A 93)), (1, .long aj), (3, .long bj), (5, .int (Int32.ofInt x))]) rfl (by decide) (fun _ h => h) (WS_pq [1, 2, 3, 0] (lv' := [(0, .ref (A 93)), (1, .long aj), (3, .long bj), (6, .int (Int32.ofInt 0))]) rfl (L42 ((12 - 0 : Int).toNat + 1) s15 aj bj 0 Is15 Fs15 (by first | exact ⟨by decide, by decide, oq_1af0b4f8 vs15⟩ | omega) (Nat.lt_succ_self _) ?_)))
  intro s16 x17 Is16 Fs16 hs16
  have b18 := bi_46 Is16
  have b19 := bi_47 Is16
  have b20 := bi_43 Is16
  have b21 := bi_44 Is16
  refine z_aload_n X (x := A 93) rfl (List.Mem.head _) (z_const X rfl (s_putI X 93 rfl (c518_ok rfl) rfl rfl (by decide) rfl rfl rfl (wd_gen (fun s22 hs22 => ?_))))
  have Is22 : Bd s22 := eqB hs22 (bd_I Is16 (show (0 : Int) ≤ 0 ∧ 0 ≤ 66 by first | exact ⟨by decide, by decide⟩ | omega) (by decide))
  have Fs22 := eqF hs22 (fm_I Fs16 (inl_ok (a := 47) rfl))
  have vs22 : iI s22 47 = 0 := eqI hs22 (iI_u (by decide))
  have ws22_46 : iI s22 46 = iI s16 46 := eqI hs22 rfl
  have ws22_43 : iI s22 43 = iI s16 43 := eqI hs22 rfl
  have ws22_44 : iI s22 44 = iI s16 44 := eqI hs22 rfl
  refine z_const X rfl (z_store X (lv' := [(6, .int (Int32.ofInt 0)), (0, .ref (A 93)), (1, .long aj), (3, .long bj)]) rfl (by decide) (fun _ h => h) (WS_pq [1, 2, 3, 0] (lv' := [(0, .ref (A 93)), (1, .long aj), (3, .long bj), (6, .int (Int32.ofInt 0))]) rfl (L133 ((66 - 0 : Int).toNat + 1) s22 aj bj 0 Is22 Fs22 (by first | exact ⟨by decide, by decide, oq_1af0b4f8 vs22⟩ | omega) (Nat.lt_succ_self _) ?_)))
  intro s23 x24 Is23 Fs23 hs23
  have b25 := bi_46 Is23
  have b26 := bi_47 Is23
  have b27 := bi_43 Is23
  have b28 := bi_44 Is23
  exact w_vret X.1 q hRt (ax_d X (show cdA 1 260 = some (.return_, 1, 0, 0, 0) from rfl)) (Nat.zero_le _) (Nat.zero_le _) ⟨_, rfl, Is23, Fs23, rfl, trivial⟩
set_option maxRecDepth 4000 in
theorem c0_hear_93 (G : GX l s0 D tys a0 dT) (I : Bd s) {x y : Int} (p0 : 0 ≤ x ∧ x ≤ 23) (p1 : rng y) : CT l s0 D A dT 3 (rmN 3) [.ref (A 93), .int (Int32.ofInt x), .int (Int32.ofInt y)] s (fun o t => Bd t ∧ Fm [] [87] s t ∧ o = .inl none ∧ (True)) := by
  refine ct_ofX G (by decide) (Nat.le_of_ble_eq_true rfl) (fun k X E ET hRt hXt q => ?_)
  show WS k 0 [(0, .ref (A 93)), (1, .int (Int32.ofInt x)), (2, .int (Int32.ofInt y))] [] _ 0 0
  have F : Fm [] [87] s s := fm_rf _ _ s
  have b1 := bi_46 I
  have b2 := bi_47 I
  have L20 : ∀ (n : Nat) (t : PS) (yv ro wa cr ov cl c : Int), Bd t → Fm [] [87] s t → (rng yv ∧ (0 ≤ ro ∧ ro ≤ 276) ∧ rng wa ∧ rng cr ∧ rng ov ∧ rng cl ∧ 0 ≤ c ∧ c ≤ 12) → (12 - c : Int).toNat < n → (∀ (t' : PS) (wa' cr' ov' cl' c' : Int), Bd t' → Fm [] [87] s t' → (rng yv ∧ (0 ≤ ro ∧ ro ≤ 276) ∧ rng wa' ∧ rng cr' ∧ rng ov' ∧ rng cl' ∧ 0 ≤ c' ∧ c' ≤ 12) → WS k 106 [(0, .ref (A 93)), (2, .int (Int32.ofInt yv)), (3, .int (Int32.ofInt ro)), (4, .int (Int32.ofInt wa')), (5, .int (Int32.ofInt cr')), (6, .int (Int32.ofInt ov')), (7, .int (Int32.ofInt cl')), (8, .int (Int32.ofInt c'))] [] (Wd A dT t') 0 0) → WS k 20 [(0, .ref (A 93)), (2, .int (Int32.ofInt yv)), (3, .int (Int32.ofInt ro)), (4, .int (Int32.ofInt wa)), (5, .int (Int32.ofInt cr)), (6, .int (Int32.ofInt ov)), (7, .int (Int32.ofInt cl)), (8, .int (Int32.ofInt c))] [] (Wd A dT t) 0 0 := by
    intro n
    induction n with
    | zero =>
      intro t yv ro wa cr ov cl c I F hi hm kx
      exact absurd hm (Nat.not_lt_zero _)
    | succ n ih =>
      intro t yv ro wa cr ov cl c I F hi hm kx
      have b1001 := bi_46 I
      have b1002 := bi_47 I
      refine z_load X (x := c) rfl (List.Mem.tail _ (List.Mem.tail _ (List.Mem.tail _ (List.Mem.tail _ (List.Mem.tail _ (List.Mem.tail _ (List.Mem.tail _ (List.Mem.head _)))))))) (z_aload_n X (x := A 93) rfl (List.Mem.head _) (z_getI X 93 rfl (c518_ok rfl) rfl rfl ?_))
      have b1003 := bi_46 I
      refine z_icmp_ge X (t := 106) rfl rfl ⟨by first | exact oq_fa4e5087 hi.2.2.2.2.2.2.1 | omega, by first | exact oq_78843a64 hi.2.2.2.2.2.2.2 | omega⟩ (rng_to _) (fun g1004 => ?_) (fun g1004 => ?_)
      ·
        refine WS_pq [0, 1, 2, 3, 4, 5, 6, 7] (lv' := [(0, .ref (A 93)), (2, .int (Int32.ofInt yv)), (3, .int (Int32.ofInt ro)), (4, .int (Int32.ofInt wa)), (5, .int (Int32.ofInt cr)), (6, .int (Int32.ofInt ov)), (7, .int (Int32.ofInt cl)), (8, .int (Int32.ofInt c))]) rfl ?_
        exact kx _ wa cr ov cl c I F (by first | exact ⟨And.intro (hi.1.1) (hi.1.2), And.intro (hi.2.1.1) (hi.2.1.2), And.intro (hi.2.2.1.1) (hi.2.2.1.2), And.intro (hi.2.2.2.1.1) (hi.2.2.2.1.2), And.intro (hi.2.2.2.2.1.1) (hi.2.2.2.2.1.2), And.intro (hi.2.2.2.2.2.1.1) (hi.2.2.2.2.2.1.2), hi.2.2.2.2.2.2.1, hi.2.2.2.2.2.2.2⟩ | omega)
      ·
        refine z_aload_n X (x := A 93) rfl (List.Mem.head _) (s_getR X 93 rfl (c518_ok rfl) rfl rfl (z_load X (x := c) rfl (List.Mem.tail _ (List.Mem.tail _ (List.Mem.tail _ (List.Mem.tail _ (List.Mem.tail _ (List.Mem.tail _ (List.Mem.tail _ (List.Mem.head _)))))))) (z_ald X 94 rfl (c518_ok rfl) rfl (by first | exact hi.2.2.2.2.2.2.1 | omega) (show c < 12 by first | exact oq_f36e82a8 g1004 b1003.2 | omega) (cbig_ok rfl) ?_)))
        have b1005 := bc_80 I (show (c).toNat < 12 by first | exact oq_2dac6850 g1004 b1003.2 | omega)
        refine z_load_n X (x := yv) rfl (List.Mem.tail _ (List.Mem.head _)) ?_
        have N1006 : ∀ e1007 : Int, ((((iC t 80 (c).toNat) ≠ yv) ∧ ((0 : Int) ≤ iC t 80 (c).toNat ∧ iC t 80 (c).toNat ≤ 11) ∧ ((0 : Int) ≤ iC t 67 ((ro + (iC t 80 (c).toNat))).toNat ∧ iC t 67 ((ro + (iC t 80 (c).toNat))).toNat ≤ 50) ∧ e1007 = (iC t 67 ((ro + (iC t 80 (c).toNat))).toNat)) ∨ (((iC t 80 (c).toNat) = yv) ∧ e1007 = 0)) → WS k 61 [(0, .ref (A 93)), (2, .int (Int32.ofInt yv)), (3, .int (Int32.ofInt ro)), (4, .int (Int32.ofInt wa)), (5, .int (Int32.ofInt cr)), (6, .int (Int32.ofInt ov)), (7, .int (Int32.ofInt cl)), (8, .int (Int32.ofInt c))] [.int (Int32.ofInt e1007)] (Wd A dT t) 0 0 := by
          intro e1007 he1007
          refine z_store X (lv' := [(9, .int (Int32.ofInt e1007)), (0, .ref (A 93)), (2, .int (Int32.ofInt yv)), (3, .int (Int32.ofInt ro)), (4, .int (Int32.ofInt wa)), (5, .int (Int32.ofInt cr)), (6, .int (Int32.ofInt ov)), (7, .int (Int32.ofInt cl)), (8, .int (Int32.ofInt c))]) rfl (by decide) (fun _ h => h) (z_load X (x := wa) rfl (List.Mem.tail _ (List.Mem.tail _ (List.Mem.tail _ (List.Mem.tail _ (List.Mem.head _))))) (z_load X (x := e1007) rfl (List.Mem.head _) (z_add X rfl (z_any (fun y1008 hy1008 => ?_)))))
          refine z_store X (lv' := [(4, .int (Int32.ofInt y1008)), (9, .int (Int32.ofInt e1007)), (0, .ref (A 93)), (2, .int (Int32.ofInt yv)), (3, .int (Int32.ofInt ro)), (5, .int (Int32.ofInt cr)), (6, .int (Int32.ofInt ov)), (7, .int (Int32.ofInt cl)), (8, .int (Int32.ofInt c))]) rfl (by decide) (fun _ h => h) (z_load X (x := ov) rfl (List.Mem.tail _ (List.Mem.tail _ (List.Mem.tail _ (List.Mem.tail _ (List.Mem.tail _ (List.Mem.tail _ (List.Mem.head _))))))) (z_load X (x := e1007) rfl (List.Mem.tail _ (List.Mem.head _)) (z_aload_n X (x := A 93) rfl (List.Mem.tail _ (List.Mem.tail _ (List.Mem.head _))) (s_getR X 93 rfl (c518_ok rfl) rfl rfl (z_load X (x := c) rfl (List.Mem.tail _ (List.Mem.tail _ (List.Mem.tail _ (List.Mem.tail _ (List.Mem.tail _ (List.Mem.tail _ (List.Mem.tail _ (List.Mem.tail _ (List.Mem.head _))))))))) (z_ald X 95 rfl (c518_ok rfl) rfl (by first | exact hi.2.2.2.2.2.2.1 | omega) (show c < 12 by first | exact oq_f36e82a8 g1004 b1003.2 | omega) (cbig_ok rfl) ?_))))))
          have b1009 := bc_81 I (show (c).toNat < 12 by first | exact oq_2dac6850 g1004 b1003.2 | omega)
          refine z_mul X rfl (z_any (fun y1010 hy1010 => ?_))
          refine z_add X rfl (z_any (fun y1011 hy1011 => ?_))
          refine z_store X (lv' := [(6, .int (Int32.ofInt y1011)), (4, .int (Int32.ofInt y1008)), (9, .int (Int32.ofInt e1007)), (0, .ref (A 93)), (2, .int (Int32.ofInt yv)), (3, .int (Int32.ofInt ro)), (5, .int (Int32.ofInt cr)), (7, .int (Int32.ofInt cl)), (8, .int (Int32.ofInt c))]) rfl (by decide) (fun _ h => h) (z_load X (x := cl) rfl (List.Mem.tail _ (List.Mem.tail _ (List.Mem.tail _ (List.Mem.tail _ (List.Mem.tail _ (List.Mem.tail _ (List.Mem.tail _ (List.Mem.head _)))))))) (z_load X (x := e1007) rfl (List.Mem.tail _ (List.Mem.tail _ (List.Mem.head _))) (z_aload_n X (x := A 93) rfl (List.Mem.tail _ (List.Mem.tail _ (List.Mem.tail _ (List.Mem.head _)))) (s_getR X 93 rfl (c518_ok rfl) rfl rfl (z_load X (x := c) rfl (List.Mem.tail _ (List.Mem.tail _ (List.Mem.tail _ (List.Mem.tail _ (List.Mem.tail _ (List.Mem.tail _ (List.Mem.tail _ (List.Mem.tail _ (List.Mem.head _))))))))) (z_ald X 97 rfl (c518_ok rfl) rfl (by first | exact hi.2.2.2.2.2.2.1 | omega) (show c < 12 by first | exact oq_f36e82a8 g1004 b1003.2 | omega) (cbig_ok rfl) ?_))))))
          have b1012 := bc_83 I (show (c).toNat < 12 by first | exact oq_2dac6850 g1004 b1003.2 | omega)
          refine z_mul X rfl (z_any (fun y1013 hy1013 => ?_))
          refine z_add X rfl (z_any (fun y1014 hy1014 => ?_))
          refine z_store X (lv' := [(7, .int (Int32.ofInt y1014)), (6, .int (Int32.ofInt y1011)), (4, .int (Int32.ofInt y1008)), (9, .int (Int32.ofInt e1007)), (0, .ref (A 93)), (2, .int (Int32.ofInt yv)), (3, .int (Int32.ofInt ro)), (5, .int (Int32.ofInt cr)), (8, .int (Int32.ofInt c))]) rfl (by decide) (fun _ h => h) (z_inc X (x := c) (lv' := [(8, .int (Int32.ofInt (c + 1))), (7, .int (Int32.ofInt y1014)), (6, .int (Int32.ofInt y1011)), (4, .int (Int32.ofInt y1008)), (9, .int (Int32.ofInt e1007)), (0, .ref (A 93)), (2, .int (Int32.ofInt yv)), (3, .int (Int32.ofInt ro)), (5, .int (Int32.ofInt cr))]) rfl (by decide) (List.Mem.tail _ (List.Mem.tail _ (List.Mem.tail _ (List.Mem.tail _ (List.Mem.tail _ (List.Mem.tail _ (List.Mem.tail _ (List.Mem.tail _ (List.Mem.head _))))))))) (fun _ h => h) (z_goto X (t := 20) rfl rfl (WS_pq [5, 6, 7, 3, 8, 2, 1, 0] (lv' := [(0, .ref (A 93)), (2, .int (Int32.ofInt yv)), (3, .int (Int32.ofInt ro)), (4, .int (Int32.ofInt y1008)), (5, .int (Int32.ofInt cr)), (6, .int (Int32.ofInt y1011)), (7, .int (Int32.ofInt y1014)), (8, .int (Int32.ofInt (c + 1)))]) rfl ?_)))
          exact ih _ yv ro y1008 cr y1011 y1014 (c + 1) I F (by first | exact ⟨And.intro (hi.1.1) (hi.1.2), And.intro (hi.2.1.1) (hi.2.1.2), And.intro (hy1008.1) (hy1008.2), And.intro (hi.2.2.2.1.1) (hi.2.2.2.1.2), And.intro (hy1011.1) (hy1011.2), And.intro (hy1014.1) (hy1014.2), oq_54f49eb5 hi.2.2.2.2.2.2.1, oq_4dae995e g1004 b1003.2⟩ | omega) (by first | exact qk_me hm (by decide) (oq_b575e8c1 g1004 b1003.2) | omega) kx
        refine z_icmp_ne X (t := 44) rfl rfl (rng_to _) ⟨by first | exact hi.1.1 | omega, by first | exact hi.1.2 | omega⟩ (fun g1015 => ?_) (fun g1015 => ?_)
        ·
          refine z_aload_n X (x := A 93) rfl (List.Mem.head _) (s_getR X 93 rfl (c518_ok rfl) rfl rfl (s_getR X 68 rfl (c518_ok rfl) rfl rfl (z_load_n X (x := ro) rfl (List.Mem.tail _ (List.Mem.tail _ (List.Mem.head _))) (z_aload_n X (x := A 93) rfl (List.Mem.head _) (s_getR X 93 rfl (c518_ok rfl) rfl rfl (z_load X (x := c) rfl (List.Mem.tail _ (List.Mem.tail _ (List.Mem.tail _ (List.Mem.tail _ (List.Mem.tail _ (List.Mem.tail _ (List.Mem.tail _ (List.Mem.head _)))))))) (z_ald X 94 rfl (c518_ok rfl) rfl (by first | exact hi.2.2.2.2.2.2.1 | omega) (show c < 12 by first | exact oq_f36e82a8 g1004 b1003.2 | omega) (cbig_ok rfl) ?_)))))))
          have b1016 := bc_80 I (show (c).toNat < 12 by first | exact oq_2dac6850 g1004 b1003.2 | omega)
          refine z_add X rfl (z_ald X 79 rfl (c518_ok rfl) rfl (by first | exact oq_dd29f52d hi.2.1.1 b1016.1 | omega) (show (ro + (iC t 80 (c).toNat)) < 288 by first | exact oq_f94a0088 hi.2.1.2 b1016.2 | omega) (cbig_ok rfl) ?_)
          have b1017 := bc_67 I (show ((ro + (iC t 80 (c).toNat))).toNat < 288 by first | exact oq_3d7ae1dd hi.2.1.2 b1016.2 | omega)
          exact N1006 _ (Or.inl ⟨g1015, b1016, b1017, rfl⟩)
        ·
          exact z_const X rfl (z_goto X (t := 61) rfl rfl (N1006 _ (Or.inr (⟨g1015, rfl⟩))))
  have L109 : ∀ (n : Nat) (t : PS) (yv ro wa cr ov cl c : Int), Bd t → Fm [] [87] s t → (rng yv ∧ (0 ≤ ro ∧ ro ≤ 276) ∧ rng wa ∧ rng cr ∧ rng ov ∧ rng cl ∧ 0 ≤ c ∧ c ≤ 66) → (66 - c : Int).toNat < n → (∀ (t' : PS) (cr' c' : Int), Bd t' → Fm [] [87] s t' → (rng yv ∧ (0 ≤ ro ∧ ro ≤ 276) ∧ rng wa ∧ rng cr' ∧ rng ov ∧ rng cl ∧ 0 ≤ c' ∧ c' ≤ 66) → WS k 196 [(0, .ref (A 93)), (2, .int (Int32.ofInt yv)), (3, .int (Int32.ofInt ro)), (4, .int (Int32.ofInt wa)), (5, .int (Int32.ofInt cr')), (6, .int (Int32.ofInt ov)), (7, .int (Int32.ofInt cl)), (8, .int (Int32.ofInt c'))] [] (Wd A dT t') 0 0) → WS k 109 [(0, .ref (A 93)), (2, .int (Int32.ofInt yv)), (3, .int (Int32.ofInt ro)), (4, .int (Int32.ofInt wa)), (5, .int (Int32.ofInt cr)), (6, .int (Int32.ofInt ov)), (7, .int (Int32.ofInt cl)), (8, .int (Int32.ofInt c))] [] (Wd A dT t) 0 0 := by
    intro n
    induction n with
    | zero =>
      intro t yv ro wa cr ov cl c I F hi hm kx
      exact absurd hm (Nat.not_lt_zero _)
    | succ n ih =>
      intro t yv ro wa cr ov cl c I F hi hm kx
      have b2001 := bi_46 I
      have b2002 := bi_47 I
      refine z_load X (x := c) rfl (List.Mem.tail _ (List.Mem.tail _ (List.Mem.tail _ (List.Mem.tail _ (List.Mem.tail _ (List.Mem.tail _ (List.Mem.tail _ (List.Mem.head _)))))))) (z_aload_n X (x := A 93) rfl (List.Mem.head _) (z_getI X 93 rfl (c518_ok rfl) rfl rfl ?_))
      have b2003 := bi_47 I
      refine z_icmp_ge X (t := 196) rfl rfl ⟨by first | exact oq_fa4e5087 hi.2.2.2.2.2.2.1 | omega, by first | exact oq_64f2e926 hi.2.2.2.2.2.2.2 | omega⟩ (rng_to _) (fun g2004 => ?_) (fun g2004 => ?_)
      ·
        refine WS_pq [0, 1, 2, 3, 4, 5, 6, 7] (lv' := [(0, .ref (A 93)), (2, .int (Int32.ofInt yv)), (3, .int (Int32.ofInt ro)), (4, .int (Int32.ofInt wa)), (5, .int (Int32.ofInt cr)), (6, .int (Int32.ofInt ov)), (7, .int (Int32.ofInt cl)), (8, .int (Int32.ofInt c))]) rfl ?_
        exact kx _ cr c I F (by first | exact ⟨And.intro (hi.1.1) (hi.1.2), And.intro (hi.2.1.1) (hi.2.1.2), And.intro (hi.2.2.1.1) (hi.2.2.1.2), And.intro (hi.2.2.2.1.1) (hi.2.2.2.1.2), And.intro (hi.2.2.2.2.1.1) (hi.2.2.2.2.1.2), And.intro (hi.2.2.2.2.2.1.1) (hi.2.2.2.2.2.1.2), hi.2.2.2.2.2.2.1, hi.2.2.2.2.2.2.2⟩ | omega)
      ·
        refine z_aload_n X (x := A 93) rfl (List.Mem.head _) (s_getR X 93 rfl (c518_ok rfl) rfl rfl (z_load X (x := c) rfl (List.Mem.tail _ (List.Mem.tail _ (List.Mem.tail _ (List.Mem.tail _ (List.Mem.tail _ (List.Mem.tail _ (List.Mem.tail _ (List.Mem.head _)))))))) (z_ald X 98 rfl (c518_ok rfl) rfl (by first | exact hi.2.2.2.2.2.2.1 | omega) (show c < 66 by first | exact oq_256e4529 g2004 b2003.2 | omega) (cbig_ok rfl) ?_)))
        have b2005 := bc_84 I (show (c).toNat < 66 by first | exact oq_d7ff7873 g2004 b2003.2 | omega)
        refine z_load_n X (x := yv) rfl (List.Mem.tail _ (List.Mem.head _)) (z_icmp_eq X (t := 190) rfl rfl (rng_to _) ⟨by first | exact hi.1.1 | omega, by first | exact hi.1.2 | omega⟩ (fun g2006 => ?_) (fun g2006 => ?_))
        ·
          refine z_inc X (x := c) (lv' := [(8, .int (Int32.ofInt (c + 1))), (0, .ref (A 93)), (2, .int (Int32.ofInt yv)), (3, .int (Int32.ofInt ro)), (4, .int (Int32.ofInt wa)), (5, .int (Int32.ofInt cr)), (6, .int (Int32.ofInt ov)), (7, .int (Int32.ofInt cl))]) rfl (by decide) (List.Mem.tail _ (List.Mem.tail _ (List.Mem.tail _ (List.Mem.tail _ (List.Mem.tail _ (List.Mem.tail _ (List.Mem.tail _ (List.Mem.head _)))))))) (fun _ h => h) (z_goto X (t := 109) rfl rfl (WS_pq [1, 2, 3, 4, 5, 6, 7, 0] (lv' := [(0, .ref (A 93)), (2, .int (Int32.ofInt yv)), (3, .int (Int32.ofInt ro)), (4, .int (Int32.ofInt wa)), (5, .int (Int32.ofInt cr)), (6, .int (Int32.ofInt ov)), (7, .int (Int32.ofInt cl)), (8, .int (Int32.ofInt (c + 1)))]) rfl ?_))
          exact ih _ yv ro wa cr ov cl (c + 1) I F (by first | exact ⟨And.intro (hi.1.1) (hi.1.2), And.intro (hi.2.1.1) (hi.2.1.2), And.intro (hi.2.2.1.1) (hi.2.2.1.2), And.intro (hi.2.2.2.1.1) (hi.2.2.2.1.2), And.intro (hi.2.2.2.2.1.1) (hi.2.2.2.2.1.2), And.intro (hi.2.2.2.2.2.1.1) (hi.2.2.2.2.2.1.2), oq_54f49eb5 hi.2.2.2.2.2.2.1, oq_319a18a4 g2004 b2003.2⟩ | omega) (by first | exact qk_me hm (by decide) (oq_dd0e9829 g2004 b2003.2) | omega) kx
        ·
          refine z_aload_n X (x := A 93) rfl (List.Mem.head _) (s_getR X 93 rfl (c518_ok rfl) rfl rfl (z_load X (x := c) rfl (List.Mem.tail _ (List.Mem.tail _ (List.Mem.tail _ (List.Mem.tail _ (List.Mem.tail _ (List.Mem.tail _ (List.Mem.tail _ (List.Mem.head _)))))))) (z_ald X 99 rfl (c518_ok rfl) rfl (by first | exact hi.2.2.2.2.2.2.1 | omega) (show c < 66 by first | exact oq_256e4529 g2004 b2003.2 | omega) (cbig_ok rfl) ?_)))
          have b2007 := bc_85 I (show (c).toNat < 66 by first | exact oq_d7ff7873 g2004 b2003.2 | omega)
          refine z_load_n X (x := yv) rfl (List.Mem.tail _ (List.Mem.head _)) (z_icmp_eq X (t := 190) rfl rfl (rng_to _) ⟨by first | exact hi.1.1 | omega, by first | exact hi.1.2 | omega⟩ (fun g2008 => ?_) (fun g2008 => ?_))
          ·
            refine z_inc X (x := c) (lv' := [(8, .int (Int32.ofInt (c + 1))), (0, .ref (A 93)), (2, .int (Int32.ofInt yv)), (3, .int (Int32.ofInt ro)), (4, .int (Int32.ofInt wa)), (5, .int (Int32.ofInt cr)), (6, .int (Int32.ofInt ov)), (7, .int (Int32.ofInt cl))]) rfl (by decide) (List.Mem.tail _ (List.Mem.tail _ (List.Mem.tail _ (List.Mem.tail _ (List.Mem.tail _ (List.Mem.tail _ (List.Mem.tail _ (List.Mem.head _)))))))) (fun _ h => h) (z_goto X (t := 109) rfl rfl (WS_pq [1, 2, 3, 4, 5, 6, 7, 0] (lv' := [(0, .ref (A 93)), (2, .int (Int32.ofInt yv)), (3, .int (Int32.ofInt ro)), (4, .int (Int32.ofInt wa)), (5, .int (Int32.ofInt cr)), (6, .int (Int32.ofInt ov)), (7, .int (Int32.ofInt cl)), (8, .int (Int32.ofInt (c + 1)))]) rfl ?_))
            exact ih _ yv ro wa cr ov cl (c + 1) I F (by first | exact ⟨And.intro (hi.1.1) (hi.1.2), And.intro (hi.2.1.1) (hi.2.1.2), And.intro (hi.2.2.1.1) (hi.2.2.1.2), And.intro (hi.2.2.2.1.1) (hi.2.2.2.1.2), And.intro (hi.2.2.2.2.1.1) (hi.2.2.2.2.1.2), And.intro (hi.2.2.2.2.2.1.1) (hi.2.2.2.2.2.1.2), oq_54f49eb5 hi.2.2.2.2.2.2.1, oq_319a18a4 g2004 b2003.2⟩ | omega) (by first | exact qk_me hm (by decide) (oq_dd0e9829 g2004 b2003.2) | omega) kx
          ·
            refine z_load X (x := cr) rfl (List.Mem.tail _ (List.Mem.tail _ (List.Mem.tail _ (List.Mem.tail _ (List.Mem.head _))))) (z_aload_n X (x := A 93) rfl (List.Mem.head _) (s_getR X 93 rfl (c518_ok rfl) rfl rfl (z_load X (x := c) rfl (List.Mem.tail _ (List.Mem.tail _ (List.Mem.tail _ (List.Mem.tail _ (List.Mem.tail _ (List.Mem.tail _ (List.Mem.tail _ (List.Mem.head _)))))))) (z_ald X 100 rfl (c518_ok rfl) rfl (by first | exact hi.2.2.2.2.2.2.1 | omega) (show c < 66 by first | exact oq_256e4529 g2004 b2003.2 | omega) (cbig_ok rfl) ?_))))
            have b2009 := bc_86 I (show (c).toNat < 66 by first | exact oq_d7ff7873 g2004 b2003.2 | omega)
            refine z_aload_n X (x := A 93) rfl (List.Mem.head _) (s_getR X 93 rfl (c518_ok rfl) rfl rfl (s_getR X 68 rfl (c518_ok rfl) rfl rfl (z_load_n X (x := ro) rfl (List.Mem.tail _ (List.Mem.tail _ (List.Mem.head _))) (z_aload_n X (x := A 93) rfl (List.Mem.head _) (s_getR X 93 rfl (c518_ok rfl) rfl rfl (z_load X (x := c) rfl (List.Mem.tail _ (List.Mem.tail _ (List.Mem.tail _ (List.Mem.tail _ (List.Mem.tail _ (List.Mem.tail _ (List.Mem.tail _ (List.Mem.head _)))))))) (z_ald X 98 rfl (c518_ok rfl) rfl (by first | exact hi.2.2.2.2.2.2.1 | omega) (show c < 66 by first | exact oq_256e4529 g2004 b2003.2 | omega) (cbig_ok rfl) ?_)))))))
            have b2010 := bc_84 I (show (c).toNat < 66 by first | exact oq_d7ff7873 g2004 b2003.2 | omega)
            refine z_add X rfl (z_ald X 79 rfl (c518_ok rfl) rfl (by first | exact oq_dd29f52d hi.2.1.1 b2010.1 | omega) (show (ro + (iC t 84 (c).toNat)) < 288 by first | exact oq_f94a0088 hi.2.1.2 b2010.2 | omega) (cbig_ok rfl) ?_)
            have b2011 := bc_67 I (show ((ro + (iC t 84 (c).toNat))).toNat < 288 by first | exact oq_3d7ae1dd hi.2.1.2 b2010.2 | omega)
            refine z_aload_n X (x := A 93) rfl (List.Mem.head _) (s_getR X 93 rfl (c518_ok rfl) rfl rfl (s_getR X 68 rfl (c518_ok rfl) rfl rfl (z_load_n X (x := ro) rfl (List.Mem.tail _ (List.Mem.tail _ (List.Mem.head _))) (z_aload_n X (x := A 93) rfl (List.Mem.head _) (s_getR X 93 rfl (c518_ok rfl) rfl rfl (z_load X (x := c) rfl (List.Mem.tail _ (List.Mem.tail _ (List.Mem.tail _ (List.Mem.tail _ (List.Mem.tail _ (List.Mem.tail _ (List.Mem.tail _ (List.Mem.head _)))))))) (z_ald X 99 rfl (c518_ok rfl) rfl (by first | exact hi.2.2.2.2.2.2.1 | omega) (show c < 66 by first | exact oq_256e4529 g2004 b2003.2 | omega) (cbig_ok rfl) ?_)))))))
            have b2012 := bc_85 I (show (c).toNat < 66 by first | exact oq_d7ff7873 g2004 b2003.2 | omega)
            refine z_add X rfl (z_ald X 79 rfl (c518_ok rfl) rfl (by first | exact oq_dd29f52d hi.2.1.1 b2012.1 | omega) (show (ro + (iC t 85 (c).toNat)) < 288 by first | exact oq_f94a0088 hi.2.1.2 b2012.2 | omega) (cbig_ok rfl) ?_)
            have b2013 := bc_67 I (show ((ro + (iC t 85 (c).toNat))).toNat < 288 by first | exact oq_3d7ae1dd hi.2.1.2 b2012.2 | omega)
            refine z_min X rfl (rng_to _) (rng_to _) (by rw [E.2.2.2]; decide) (by rw [E.2.2.2]; exact Nat.le_of_ble_eq_true rfl) (Nat.zero_le _) (Nat.zero_le _) (fun e2014 he2014 => ?_)
            refine z_mul X rfl (z_any (fun y2015 hy2015 => ?_))
            refine z_add X rfl (z_any (fun y2016 hy2016 => ?_))
            refine z_store X (lv' := [(5, .int (Int32.ofInt y2016)), (0, .ref (A 93)), (2, .int (Int32.ofInt yv)), (3, .int (Int32.ofInt ro)), (4, .int (Int32.ofInt wa)), (6, .int (Int32.ofInt ov)), (7, .int (Int32.ofInt cl)), (8, .int (Int32.ofInt c))]) rfl (by decide) (fun _ h => h) (z_inc X (x := c) (lv' := [(8, .int (Int32.ofInt (c + 1))), (5, .int (Int32.ofInt y2016)), (0, .ref (A 93)), (2, .int (Int32.ofInt yv)), (3, .int (Int32.ofInt ro)), (4, .int (Int32.ofInt wa)), (6, .int (Int32.ofInt ov)), (7, .int (Int32.ofInt cl))]) rfl (by decide) (List.Mem.tail _ (List.Mem.tail _ (List.Mem.tail _ (List.Mem.tail _ (List.Mem.tail _ (List.Mem.tail _ (List.Mem.tail _ (List.Mem.head _)))))))) (fun _ h => h) (z_goto X (t := 109) rfl rfl (WS_pq [2, 3, 4, 5, 1, 6, 7, 0] (lv' := [(0, .ref (A 93)), (2, .int (Int32.ofInt yv)), (3, .int (Int32.ofInt ro)), (4, .int (Int32.ofInt wa)), (5, .int (Int32.ofInt y2016)), (6, .int (Int32.ofInt ov)), (7, .int (Int32.ofInt cl)), (8, .int (Int32.ofInt (c + 1)))]) rfl ?_)))
            exact ih _ yv ro wa y2016 ov cl (c + 1) I F (by first | exact ⟨And.intro (hi.1.1) (hi.1.2), And.intro (hi.2.1.1) (hi.2.1.2), And.intro (hi.2.2.1.1) (hi.2.2.1.2), And.intro (hy2016.1) (hy2016.2), And.intro (hi.2.2.2.2.1.1) (hi.2.2.2.2.1.2), And.intro (hi.2.2.2.2.2.1.1) (hi.2.2.2.2.2.1.2), oq_54f49eb5 hi.2.2.2.2.2.2.1, oq_319a18a4 g2004 b2003.2⟩ | omega) (by first | exact qk_me hm (by decide) (oq_dd0e9829 g2004 b2003.2) | omega) kx
  refine z_load_n X (x := x) rfl (List.Mem.tail _ (List.Mem.head _)) (z_bipush X rfl (z_mul X rfl (z_store_n X (lv' := [(3, .int (Int32.ofInt (x * 12))), (0, .ref (A 93)), (1, .int (Int32.ofInt x)), (2, .int (Int32.ofInt y))]) rfl (by decide) (fun _ h => h) (z_const X rfl (z_store X (lv' := [(4, .int (Int32.ofInt 0)), (3, .int (Int32.ofInt (x * 12))), (0, .ref (A 93)), (1, .int (Int32.ofInt x)), (2, .int (Int32.ofInt y))]) rfl (by decide) (fun _ h => h) (z_const X rfl (z_store X (lv' := [(5, .int (Int32.ofInt 0)), (4, .int (Int32.ofInt 0)), (3, .int (Int32.ofInt (x * 12))), (0, .ref (A 93)), (1, .int (Int32.ofInt x)), (2, .int (Int32.ofInt y))]) rfl (by decide) (fun _ h => h) (z_const X rfl (z_store X (lv' := [(6, .int (Int32.ofInt 0)), (5, .int (Int32.ofInt 0)), (4, .int (Int32.ofInt 0)), (3, .int (Int32.ofInt (x * 12))), (0, .ref (A 93)), (1, .int (Int32.ofInt x)), (2, .int (Int32.ofInt y))]) rfl (by decide) (fun _ h => h) (z_const X rfl (z_store X (lv' := [(7, .int (Int32.ofInt 0)), (6, .int (Int32.ofInt 0)), (5, .int (Int32.ofInt 0)), (4, .int (Int32.ofInt 0)), (3, .int (Int32.ofInt (x * 12))), (0, .ref (A 93)), (1, .int (Int32.ofInt x)), (2, .int (Int32.ofInt y))]) rfl (by decide) (fun _ h => h) ?_)))))))))))
  refine z_const X rfl (z_store X (lv' := [(8, .int (Int32.ofInt 0)), (7, .int (Int32.ofInt 0)), (6, .int (Int32.ofInt 0)), (5, .int (Int32.ofInt 0)), (4, .int (Int32.ofInt 0)), (3, .int (Int32.ofInt (x * 12))), (0, .ref (A 93)), (1, .int (Int32.ofInt x)), (2, .int (Int32.ofInt y))]) rfl (by decide) (fun _ h => h) (WS_pq [6, 8, 5, 4, 3, 2, 1, 0] (lv' := [(0, .ref (A 93)), (2, .int (Int32.ofInt y)), (3, .int (Int32.ofInt (x * 12))), (4, .int (Int32.ofInt 0)), (5, .int (Int32.ofInt 0)), (6, .int (Int32.ofInt 0)), (7, .int (Int32.ofInt 0)), (8, .int (Int32.ofInt 0))]) rfl (L20 ((12 - 0 : Int).toNat + 1) s y (x * 12) 0 0 0 0 0 I F (by first | exact ⟨And.intro (p1.1) (p1.2), And.intro (oq_6b8c39bb p0.1) (oq_70eefe4f p0.2), And.intro (by decide) (by decide), And.intro (by decide) (by decide), And.intro (by decide) (by decide), And.intro (by decide) (by decide), by decide, by decide⟩ | omega) (Nat.lt_succ_self _) ?_)))
  intro s3 x4 x5 x6 x7 x8 Is3 Fs3 hs3
  have b9 := bi_46 Is3
  have b10 := bi_47 Is3
  refine z_const X rfl (z_store X (lv' := [(8, .int (Int32.ofInt 0)), (0, .ref (A 93)), (2, .int (Int32.ofInt y)), (3, .int (Int32.ofInt (x * 12))), (4, .int (Int32.ofInt x4)), (5, .int (Int32.ofInt x5)), (6, .int (Int32.ofInt x6)), (7, .int (Int32.ofInt x7))]) rfl (by decide) (fun _ h => h) (WS_pq [1, 2, 3, 4, 5, 6, 7, 0] (lv' := [(0, .ref (A 93)), (2, .int (Int32.ofInt y)), (3, .int (Int32.ofInt (x * 12))), (4, .int (Int32.ofInt x4)), (5, .int (Int32.ofInt x5)), (6, .int (Int32.ofInt x6)), (7, .int (Int32.ofInt x7)), (8, .int (Int32.ofInt 0))]) rfl (L109 ((66 - 0 : Int).toNat + 1) s3 y (x * 12) x4 x5 x6 x7 0 Is3 Fs3 (by first | exact ⟨And.intro (hs3.1.1) (hs3.1.2), And.intro (hs3.2.1.1) (hs3.2.1.2), And.intro (hs3.2.2.1.1) (hs3.2.2.1.2), And.intro (hs3.2.2.2.1.1) (hs3.2.2.2.1.2), And.intro (hs3.2.2.2.2.1.1) (hs3.2.2.2.2.1.2), And.intro (hs3.2.2.2.2.2.1.1) (hs3.2.2.2.2.2.1.2), by decide, by decide⟩ | omega) (Nat.lt_succ_self _) ?_)))
  intro s11 x12 x13 Is11 Fs11 hs11
  have b14 := bi_46 Is11
  have b15 := bi_47 Is11
  refine z_aload_n X (x := A 93) rfl (List.Mem.head _) (s_getR X 93 rfl (c518_ok rfl) rfl rfl (z_const X rfl (z_load X (x := x4) rfl (List.Mem.tail _ (List.Mem.tail _ (List.Mem.tail _ (List.Mem.head _)))) (z_ast X 101 rfl (c518_ok rfl) rfl (by decide) (show 0 < 7 by decide) (cbig_ok rfl) (wd_gen (fun s16 hs16 => ?_))))))
  have Is16 : Bd s16 := eqB hs16 (bd_C Is11 (show ((-2147483648) : Int) ≤ x4 ∧ x4 ≤ 2147483647 by first | exact ⟨hs11.2.2.1.1, hs11.2.2.1.2⟩ | omega) ⟨by first | exact hs11.2.2.1.1 | omega, by first | exact hs11.2.2.1.2 | omega⟩)
  have Fs16 := eqF hs16 (fm_C Fs11 (inl_ok (a := 87) rfl))
  have ws16_46 : iI s16 46 = iI s11 46 := eqI hs16 rfl
  have ws16_47 : iI s16 47 = iI s11 47 := eqI hs16 rfl
  refine z_aload_n X (x := A 93) rfl (List.Mem.head _) (s_getR X 93 rfl (c518_ok rfl) rfl rfl (z_const X rfl (z_load X (x := x12) rfl (List.Mem.tail _ (List.Mem.tail _ (List.Mem.tail _ (List.Mem.tail _ (List.Mem.head _))))) (z_ast X 101 rfl (c518_ok rfl) rfl (by decide) (show 1 < 7 by decide) (cbig_ok rfl) (wd_gen (fun s17 hs17 => ?_))))))
  have Is17 : Bd s17 := eqB hs17 (bd_C Is16 (show ((-2147483648) : Int) ≤ x12 ∧ x12 ≤ 2147483647 by first | exact ⟨hs11.2.2.2.1.1, hs11.2.2.2.1.2⟩ | omega) ⟨by first | exact hs11.2.2.2.1.1 | omega, by first | exact hs11.2.2.2.1.2 | omega⟩)
  have Fs17 := eqF hs17 (fm_C Fs16 (inl_ok (a := 87) rfl))
  have ws17_46 : iI s17 46 = iI s16 46 := eqI hs17 rfl
  have ws17_47 : iI s17 47 = iI s16 47 := eqI hs17 rfl
  refine z_aload_n X (x := A 93) rfl (List.Mem.head _) (s_getR X 93 rfl (c518_ok rfl) rfl rfl (z_const X rfl (z_load X (x := x6) rfl (List.Mem.tail _ (List.Mem.tail _ (List.Mem.tail _ (List.Mem.tail _ (List.Mem.tail _ (List.Mem.head _)))))) (z_ast X 101 rfl (c518_ok rfl) rfl (by decide) (show 2 < 7 by decide) (cbig_ok rfl) (wd_gen (fun s18 hs18 => ?_))))))
  have Is18 : Bd s18 := eqB hs18 (bd_C Is17 (show ((-2147483648) : Int) ≤ x6 ∧ x6 ≤ 2147483647 by first | exact ⟨hs11.2.2.2.2.1.1, hs11.2.2.2.2.1.2⟩ | omega) ⟨by first | exact hs11.2.2.2.2.1.1 | omega, by first | exact hs11.2.2.2.2.1.2 | omega⟩)
  have Fs18 := eqF hs18 (fm_C Fs17 (inl_ok (a := 87) rfl))
  have ws18_46 : iI s18 46 = iI s17 46 := eqI hs18 rfl
  have ws18_47 : iI s18 47 = iI s17 47 := eqI hs18 rfl
  refine z_aload_n X (x := A 93) rfl (List.Mem.head _) (s_getR X 93 rfl (c518_ok rfl) rfl rfl (z_const X rfl (z_load X (x := x7) rfl (List.Mem.tail _ (List.Mem.tail _ (List.Mem.tail _ (List.Mem.tail _ (List.Mem.tail _ (List.Mem.tail _ (List.Mem.head _))))))) (z_ast X 101 rfl (c518_ok rfl) rfl (by decide) (show 3 < 7 by decide) (cbig_ok rfl) (wd_gen (fun s19 hs19 => ?_))))))
  have Is19 : Bd s19 := eqB hs19 (bd_C Is18 (show ((-2147483648) : Int) ≤ x7 ∧ x7 ≤ 2147483647 by first | exact ⟨hs11.2.2.2.2.2.1.1, hs11.2.2.2.2.2.1.2⟩ | omega) ⟨by first | exact hs11.2.2.2.2.2.1.1 | omega, by first | exact hs11.2.2.2.2.2.1.2 | omega⟩)
  have Fs19 := eqF hs19 (fm_C Fs18 (inl_ok (a := 87) rfl))
  have ws19_46 : iI s19 46 = iI s18 46 := eqI hs19 rfl
  have ws19_47 : iI s19 47 = iI s18 47 := eqI hs19 rfl
  exact w_vret X.1 q hRt (ax_d X (show cdA 3 228 = some (.return_, 1, 0, 0, 0) from rfl)) (Nat.zero_le _) (Nat.zero_le _) ⟨_, rfl, Is19, Fs19, rfl, trivial⟩
set_option maxRecDepth 4000 in
theorem c7_work_93 (G : GX l s0 D tys a0 dT) (I : Bd s) {x : Int} (p0 : -1 ≤ x ∧ x ≤ 7) : CT l s0 D A dT 84 (rmN 84) [.ref (A 19), .int (Int32.ofInt x), .ref (A 101)] s (fun o t => Bd t ∧ Fm [] [20] s t ∧ ∃ e, o = .inl (some (.int (Int32.ofInt e))) ∧ rng e ∧ (True)) := by
  refine ct_ofX G (by decide) (Nat.le_of_ble_eq_true rfl) (fun k X E ET hRt hXt q => ?_)
  show WS k 0 [(0, .ref (A 19)), (1, .int (Int32.ofInt x)), (2, .ref (A 101))] [] _ 0 0
  have F : Fm [] [20] s s := fm_rf _ _ s
  have L28 : ∀ (n : Nat) (t : PS) (xv dp c : Int), Bd t → Fm [] [20] s t → ((0 ≤ xv ∧ xv ≤ 7) ∧ (0 ≤ dp ∧ dp ≤ 200) ∧ 0 ≤ c ∧ c ≤ 200) → (200 - c : Int).toNat < n → (∀ (t' : PS) (dp' c' : Int), Bd t' → Fm [] [20] s t' → ((0 ≤ xv ∧ xv ≤ 7) ∧ (0 ≤ dp' ∧ dp' ≤ 200) ∧ 0 ≤ c' ∧ c' ≤ 200) → WS k 163 [(0, .ref (A 19)), (2, .ref (A 101)), (1, .int (Int32.ofInt xv)), (3, .int (Int32.ofInt dp')), (4, .int (Int32.ofInt c'))] [] (Wd A dT t') 0 0) → WS k 28 [(0, .ref (A 19)), (2, .ref (A 101)), (1, .int (Int32.ofInt xv)), (3, .int (Int32.ofInt dp)), (4, .int (Int32.ofInt c))] [] (Wd A dT t) 0 0 := by
    intro n
    induction n with
    | zero =>
      intro t xv dp c I F hi hm kx
      exact absurd hm (Nat.not_lt_zero _)
    | succ n ih =>
      intro t xv dp c I F hi hm kx
      refine z_load X (x := c) rfl (List.Mem.tail _ (List.Mem.tail _ (List.Mem.tail _ (List.Mem.tail _ (List.Mem.head _))))) (z_aload_n X (x := A 19) rfl (List.Mem.head _) (s_getR X 19 rfl (c518_ok rfl) rfl rfl (z_load_n X (x := xv) rfl (List.Mem.tail _ (List.Mem.tail _ (List.Mem.head _))) (z_ald X 21 rfl (c518_ok rfl) rfl (by first | exact hi.1.1 | omega) (show xv < 8 by first | exact oq_aaea290e hi.1.2 | omega) (cbig_ok rfl) ?_))))
      have b1001 := bc_17 I (show (xv).toNat < 8 by first | exact oq_c19a3aae hi.1.2 | omega)
      refine z_icmp_ge X (t := 163) rfl rfl ⟨by first | exact oq_fa4e5087 hi.2.2.1 | omega, by first | exact oq_52af2b96 hi.2.2.2 | omega⟩ (rng_to _) (fun g1002 => ?_) (fun g1002 => ?_)
      ·
        refine WS_pq [0, 1, 2, 3, 4] (lv' := [(0, .ref (A 19)), (2, .ref (A 101)), (1, .int (Int32.ofInt xv)), (3, .int (Int32.ofInt dp)), (4, .int (Int32.ofInt c))]) rfl ?_
        exact kx _ dp c I F (by first | exact ⟨And.intro (hi.1.1) (hi.1.2), And.intro (hi.2.1.1) (hi.2.1.2), hi.2.2.1, hi.2.2.2⟩ | omega)
      ·
        refine z_aload_n X (x := A 19) rfl (List.Mem.head _) (s_getR X 19 rfl (c518_ok rfl) rfl rfl (z_load X (x := c) rfl (List.Mem.tail _ (List.Mem.tail _ (List.Mem.tail _ (List.Mem.tail _ (List.Mem.head _))))) (z_ald X 20 rfl (c518_ok rfl) rfl (by first | exact hi.2.2.1 | omega) (show c < 200 by first | exact oq_6fca3d72 g1002 b1001.2 | omega) (cbig_ok rfl) ?_)))
        have b1003 := bc_16 I (show (c).toNat < 200 by first | exact oq_b70289d5 g1002 b1001.2 | omega)
        refine z_store X (lv' := [(5, .int (Int32.ofInt (iC t 16 (c).toNat))), (0, .ref (A 19)), (2, .ref (A 101)), (1, .int (Int32.ofInt xv)), (3, .int (Int32.ofInt dp)), (4, .int (Int32.ofInt c))]) rfl (by decide) (fun _ h => h) (z_load X (x := (iC t 16 (c).toNat)) rfl (List.Mem.head _) (z_bipush X rfl (z_icmp_le X (t := 90) rfl rfl (rng_to _) (by decide) (fun g1004 => ?_) (fun g1004 => ?_))))
        ·
          refine z_load X (x := (iC t 16 (c).toNat)) rfl (List.Mem.head _) (z_bipush X rfl (z_icmp_ne X (t := 122) rfl rfl (rng_to _) (by decide) (fun g1005 => ?_) (fun g1005 => ?_)))
          ·
            refine z_load_n X (x := dp) rfl (List.Mem.tail _ (List.Mem.tail _ (List.Mem.tail _ (List.Mem.tail _ (List.Mem.head _))))) (z_const X rfl (z_icmp_le X (t := 157) rfl rfl ⟨by first | exact oq_fa4e5087 hi.2.1.1 | omega, by first | exact oq_52af2b96 hi.2.1.2 | omega⟩ (by decide) (fun g1006 => ?_) (fun g1006 => ?_)))
            ·
              refine z_inc X (x := c) (lv' := [(4, .int (Int32.ofInt (c + 1))), (5, .int (Int32.ofInt (iC t 16 (c).toNat))), (0, .ref (A 19)), (2, .ref (A 101)), (1, .int (Int32.ofInt xv)), (3, .int (Int32.ofInt dp))]) rfl (by decide) (List.Mem.tail _ (List.Mem.tail _ (List.Mem.tail _ (List.Mem.tail _ (List.Mem.tail _ (List.Mem.head _)))))) (fun _ h => h) (z_goto X (t := 28) rfl rfl (WS_pq [2, 3, 4, 5, 0] (lv' := [(0, .ref (A 19)), (2, .ref (A 101)), (1, .int (Int32.ofInt xv)), (3, .int (Int32.ofInt dp)), (4, .int (Int32.ofInt (c + 1)))]) rfl ?_))
              exact ih _ xv dp (c + 1) I F (by first | exact ⟨And.intro (hi.1.1) (hi.1.2), And.intro (hi.2.1.1) (hi.2.1.2), oq_54f49eb5 hi.2.2.1, oq_228270fa g1002 b1001.2⟩ | omega) (by first | exact qk_me hm (by decide) (oq_b0a4f3e2 g1002 b1001.2) | omega) kx
            ·
              refine z_inc X (x := dp) (lv' := [(3, .int (Int32.ofInt (dp + (-1)))), (5, .int (Int32.ofInt (iC t 16 (c).toNat))), (0, .ref (A 19)), (2, .ref (A 101)), (1, .int (Int32.ofInt xv)), (4, .int (Int32.ofInt c))]) rfl (by decide) (List.Mem.tail _ (List.Mem.tail _ (List.Mem.tail _ (List.Mem.tail _ (List.Mem.head _))))) (fun _ h => h) (z_aload_n X (x := A 19) rfl (List.Mem.tail _ (List.Mem.tail _ (List.Mem.head _))) (s_getR X 19 rfl (c518_ok rfl) rfl rfl (z_load_n X (x := (dp + (-1))) rfl (List.Mem.head _) (z_const X rfl (z_sub X rfl (z_load X (x := (iC t 16 (c).toNat)) rfl (List.Mem.tail _ (List.Mem.head _)) (z_aload_n X (x := A 19) rfl (List.Mem.tail _ (List.Mem.tail _ (List.Mem.head _))) (s_getR X 19 rfl (c518_ok rfl) rfl rfl (z_load_n X (x := (dp + (-1))) rfl (List.Mem.head _) (z_const X rfl (z_sub X rfl ?_)))))))))))
              refine z_ald X 24 rfl (c518_ok rfl) rfl (by first | exact oq_d588e9be g1006 | omega) (show ((dp + (-1)) - 1) < 200 by first | exact oq_f9b4958f hi.2.1.2 | omega) (cbig_ok rfl) ?_
              have b1007 := bc_20 I (show (((dp + (-1)) - 1)).toNat < 200 by first | exact oq_ab8c951f hi.2.1.2 | omega)
              refine z_aload_n X (x := A 19) rfl (List.Mem.tail _ (List.Mem.tail _ (List.Mem.head _))) (s_getR X 19 rfl (c518_ok rfl) rfl rfl (z_load_n X (x := (dp + (-1))) rfl (List.Mem.head _) (z_ald X 24 rfl (c518_ok rfl) rfl (by first | exact oq_6c14892a g1006 | omega) (show (dp + (-1)) < 200 by first | exact oq_2dcece94 hi.2.1.2 | omega) (cbig_ok rfl) ?_)))
              have b1008 := bc_20 I (show ((dp + (-1))).toNat < 200 by first | exact oq_323b4624 hi.2.1.2 | omega)
              refine z_callS X (rm := rmN 85) (As := [.int (Int32.ofInt (iC t 16 (c).toNat)), .int (Int32.ofInt (iC t 20 (((dp + (-1)) - 1)).toNat)), .int (Int32.ofInt (iC t 20 ((dp + (-1))).toNat))]) (st := [.int (Int32.ofInt ((dp + (-1)) - 1)), .ref (A 24)]) rfl rfl (by rw [E.1, E.2.1, E.2.2.1]; exact c7_joined G I (by first | exact ⟨b1003.1, b1003.2⟩ | omega) (by first | exact ⟨b1007.1, b1007.2⟩ | omega) (by first | exact ⟨b1008.1, b1008.2⟩ | omega)) ⟨by rw [E.2.2.2]; exact (show (rmN 85).frames + 1 ≤ (rmN 84).frames by decide), by rw [E.2.2.2]; exact (show 8 + (mNL (miB 85) + 11) + (rmN 85).locals ≤ (rmN 84).locals by decide), by rw [E.2.2.2]; exact (show 0 + (rmN 85).cells ≤ (rmN 84).cells by decide), by rw [E.2.2.2]; exact (show 0 + (rmN 85).slots ≤ (rmN 84).slots by decide)⟩ (Nat.le_of_ble_eq_true rfl) (fun vv s1009 hq => ?_) (fun ee s1009 hq => ?_)
              rotate_left
              · obtain ⟨rfl, e1010, hv, hrs1009, hps1009⟩ := hq; cases hv
              obtain ⟨rfl, e1010, hv, hrs1009, hps1009⟩ := hq
              cases hv
              show WS k 156 [(3, .int (Int32.ofInt (dp + (-1)))), (5, .int (Int32.ofInt (iC t 16 (c).toNat))), (0, .ref (A 19)), (2, .ref (A 101)), (1, .int (Int32.ofInt xv)), (4, .int (Int32.ofInt c))] [.int (Int32.ofInt e1010), .int (Int32.ofInt ((dp + (-1)) - 1)), .ref (A 24)] (Wd A dT t) 0 0
              refine z_ast X 24 rfl (c518_ok rfl) rfl (by first | exact oq_d588e9be g1006 | omega) (show ((dp + (-1)) - 1) < 200 by first | exact oq_f9b4958f hi.2.1.2 | omega) (cbig_ok rfl) (wd_gen (fun s1011 hs1011 => ?_))
              have Is1011 : Bd s1011 := eqB hs1011 (bd_C I (show ((-2147483648) : Int) ≤ e1010 ∧ e1010 ≤ 2147483647 by first | exact ⟨hps1009.1, hps1009.2⟩ | omega) hrs1009)
              have Fs1011 := eqF hs1011 (fm_C F (inl_ok (a := 20) rfl))
              refine z_inc X (x := c) (lv' := [(4, .int (Int32.ofInt (c + 1))), (3, .int (Int32.ofInt (dp + (-1)))), (5, .int (Int32.ofInt (iC t 16 (c).toNat))), (0, .ref (A 19)), (2, .ref (A 101)), (1, .int (Int32.ofInt xv))]) rfl (by decide) (List.Mem.tail _ (List.Mem.tail _ (List.Mem.tail _ (List.Mem.tail _ (List.Mem.tail _ (List.Mem.head _)))))) (fun _ h => h) (z_goto X (t := 28) rfl rfl (WS_pq [3, 4, 5, 1, 0] (lv' := [(0, .ref (A 19)), (2, .ref (A 101)), (1, .int (Int32.ofInt xv)), (3, .int (Int32.ofInt (dp + (-1)))), (4, .int (Int32.ofInt (c + 1)))]) rfl ?_))
              exact ih _ xv (dp + (-1)) (c + 1) Is1011 Fs1011 (by first | exact ⟨And.intro (hi.1.1) (hi.1.2), And.intro (oq_6c14892a g1006) (oq_af76c38b hi.2.1.2), oq_54f49eb5 hi.2.2.1, oq_228270fa g1002 b1001.2⟩ | omega) (by first | exact qk_me hm (by decide) (oq_b0a4f3e2 g1002 b1001.2) | omega) kx
          ·
            refine z_load_n X (x := dp) rfl (List.Mem.tail _ (List.Mem.tail _ (List.Mem.tail _ (List.Mem.tail _ (List.Mem.head _))))) (z_if_le X (t := 157) rfl rfl ⟨by first | exact oq_fa4e5087 hi.2.1.1 | omega, by first | exact oq_52af2b96 hi.2.1.2 | omega⟩ (fun g1012 => ?_) (fun g1012 => ?_))
            ·
              refine z_inc X (x := c) (lv' := [(4, .int (Int32.ofInt (c + 1))), (5, .int (Int32.ofInt (iC t 16 (c).toNat))), (0, .ref (A 19)), (2, .ref (A 101)), (1, .int (Int32.ofInt xv)), (3, .int (Int32.ofInt dp))]) rfl (by decide) (List.Mem.tail _ (List.Mem.tail _ (List.Mem.tail _ (List.Mem.tail _ (List.Mem.tail _ (List.Mem.head _)))))) (fun _ h => h) (z_goto X (t := 28) rfl rfl (WS_pq [2, 3, 4, 5, 0] (lv' := [(0, .ref (A 19)), (2, .ref (A 101)), (1, .int (Int32.ofInt xv)), (3, .int (Int32.ofInt dp)), (4, .int (Int32.ofInt (c + 1)))]) rfl ?_))
              exact ih _ xv dp (c + 1) I F (by first | exact ⟨And.intro (hi.1.1) (hi.1.2), And.intro (hi.2.1.1) (hi.2.1.2), oq_54f49eb5 hi.2.2.1, oq_228270fa g1002 b1001.2⟩ | omega) (by first | exact qk_me hm (by decide) (oq_b0a4f3e2 g1002 b1001.2) | omega) kx
            ·
              refine z_aload_n X (x := A 19) rfl (List.Mem.tail _ (List.Mem.head _)) (s_getR X 19 rfl (c518_ok rfl) rfl rfl (z_load_n X (x := dp) rfl (List.Mem.tail _ (List.Mem.tail _ (List.Mem.tail _ (List.Mem.tail _ (List.Mem.head _))))) (z_const X rfl (z_sub X rfl (z_const X rfl (z_aload_n X (x := A 19) rfl (List.Mem.tail _ (List.Mem.head _)) (s_getR X 19 rfl (c518_ok rfl) rfl rfl (z_load_n X (x := dp) rfl (List.Mem.tail _ (List.Mem.tail _ (List.Mem.tail _ (List.Mem.tail _ (List.Mem.head _))))) (z_const X rfl (z_sub X rfl (z_ald X 24 rfl (c518_ok rfl) rfl (by first | exact oq_a4f22177 g1012 | omega) (show (dp - 1) < 200 by first | exact oq_76ad2bb2 hi.2.1.2 | omega) (cbig_ok rfl) ?_)))))))))))
              have b1013 := bc_20 I (show ((dp - 1)).toNat < 200 by first | exact oq_a03494ec hi.2.1.2 | omega)
              refine z_sub X rfl (z_any (fun y1014 hy1014 => ?_))
              refine z_ast X 24 rfl (c518_ok rfl) rfl (by first | exact oq_a4f22177 g1012 | omega) (show (dp - 1) < 200 by first | exact oq_76ad2bb2 hi.2.1.2 | omega) (cbig_ok rfl) (wd_gen (fun s1015 hs1015 => ?_))
              have Is1015 : Bd s1015 := eqB hs1015 (bd_C I (show ((-2147483648) : Int) ≤ y1014 ∧ y1014 ≤ 2147483647 by first | exact ⟨hy1014.1, hy1014.2⟩ | omega) hy1014)
              have Fs1015 := eqF hs1015 (fm_C F (inl_ok (a := 20) rfl))
              refine z_goto X (t := 157) rfl rfl (z_inc X (x := c) (lv' := [(4, .int (Int32.ofInt (c + 1))), (5, .int (Int32.ofInt (iC t 16 (c).toNat))), (0, .ref (A 19)), (2, .ref (A 101)), (1, .int (Int32.ofInt xv)), (3, .int (Int32.ofInt dp))]) rfl (by decide) (List.Mem.tail _ (List.Mem.tail _ (List.Mem.tail _ (List.Mem.tail _ (List.Mem.tail _ (List.Mem.head _)))))) (fun _ h => h) (z_goto X (t := 28) rfl rfl (WS_pq [2, 3, 4, 5, 0] (lv' := [(0, .ref (A 19)), (2, .ref (A 101)), (1, .int (Int32.ofInt xv)), (3, .int (Int32.ofInt dp)), (4, .int (Int32.ofInt (c + 1)))]) rfl ?_)))
              exact ih _ xv dp (c + 1) Is1015 Fs1015 (by first | exact ⟨And.intro (hi.1.1) (hi.1.2), And.intro (hi.2.1.1) (hi.2.1.2), oq_54f49eb5 hi.2.2.1, oq_228270fa g1002 b1001.2⟩ | omega) (by first | exact qk_me hm (by decide) (oq_b0a4f3e2 g1002 b1001.2) | omega) kx
        ·
          refine z_load_n X (x := dp) rfl (List.Mem.tail _ (List.Mem.tail _ (List.Mem.tail _ (List.Mem.tail _ (List.Mem.head _))))) (z_sipush X rfl (z_icmp_ge X (t := 157) rfl rfl ⟨by first | exact oq_fa4e5087 hi.2.1.1 | omega, by first | exact oq_52af2b96 hi.2.1.2 | omega⟩ (by decide) (fun g1016 => ?_) (fun g1016 => ?_)))
          ·
            refine z_inc X (x := c) (lv' := [(4, .int (Int32.ofInt (c + 1))), (5, .int (Int32.ofInt (iC t 16 (c).toNat))), (0, .ref (A 19)), (2, .ref (A 101)), (1, .int (Int32.ofInt xv)), (3, .int (Int32.ofInt dp))]) rfl (by decide) (List.Mem.tail _ (List.Mem.tail _ (List.Mem.tail _ (List.Mem.tail _ (List.Mem.tail _ (List.Mem.head _)))))) (fun _ h => h) (z_goto X (t := 28) rfl rfl (WS_pq [2, 3, 4, 5, 0] (lv' := [(0, .ref (A 19)), (2, .ref (A 101)), (1, .int (Int32.ofInt xv)), (3, .int (Int32.ofInt dp)), (4, .int (Int32.ofInt (c + 1)))]) rfl ?_))
            exact ih _ xv dp (c + 1) I F (by first | exact ⟨And.intro (hi.1.1) (hi.1.2), And.intro (hi.2.1.1) (hi.2.1.2), oq_54f49eb5 hi.2.2.1, oq_228270fa g1002 b1001.2⟩ | omega) (by first | exact qk_me hm (by decide) (oq_b0a4f3e2 g1002 b1001.2) | omega) kx
          ·
            refine z_aload_n X (x := A 19) rfl (List.Mem.tail _ (List.Mem.head _)) (s_getR X 19 rfl (c518_ok rfl) rfl rfl (z_load_n X (x := dp) rfl (List.Mem.tail _ (List.Mem.tail _ (List.Mem.tail _ (List.Mem.tail _ (List.Mem.head _))))) (z_load X (x := (iC t 16 (c).toNat)) rfl (List.Mem.head _) ?_)))
            have N1017 : ∀ e1018 : Int, ((((iC t 16 (c).toNat) < 0) ∧ (((-2147483648) : Int) ≤ iC t 87 (((-1) - (iC t 16 (c).toNat))).toNat ∧ iC t 87 (((-1) - (iC t 16 (c).toNat))).toNat ≤ 2147483647) ∧ e1018 = (iC t 87 (((-1) - (iC t 16 (c).toNat))).toNat)) ∨ ((0 ≤ (iC t 16 (c).toNat)) ∧ e1018 = (iC t 16 (c).toNat))) → WS k 83 [(5, .int (Int32.ofInt (iC t 16 (c).toNat))), (0, .ref (A 19)), (2, .ref (A 101)), (1, .int (Int32.ofInt xv)), (3, .int (Int32.ofInt dp)), (4, .int (Int32.ofInt c))] [.int (Int32.ofInt e1018), .int (Int32.ofInt dp), .ref (A 24)] (Wd A dT t) 0 0 := by
              intro e1018 he1018
              refine z_ast X 24 rfl (c518_ok rfl) rfl (by first | exact hi.2.1.1 | omega) (show dp < 200 by first | exact g1016 | omega) (cbig_ok rfl) (wd_gen (fun s1019 hs1019 => ?_))
              have Is1019 : Bd s1019 := eqB hs1019 (bd_C I (show ((-2147483648) : Int) ≤ e1018 ∧ e1018 ≤ 2147483647 by first | exact ⟨oq_05aece2f he1018, oq_93cedf2b he1018 b1003.2⟩ | omega) ⟨by first | exact oq_05aece2f he1018 | omega, by first | exact oq_93cedf2b he1018 b1003.2 | omega⟩)
              have Fs1019 := eqF hs1019 (fm_C F (inl_ok (a := 20) rfl))
              refine z_inc X (x := dp) (lv' := [(3, .int (Int32.ofInt (dp + 1))), (5, .int (Int32.ofInt (iC t 16 (c).toNat))), (0, .ref (A 19)), (2, .ref (A 101)), (1, .int (Int32.ofInt xv)), (4, .int (Int32.ofInt c))]) rfl (by decide) (List.Mem.tail _ (List.Mem.tail _ (List.Mem.tail _ (List.Mem.tail _ (List.Mem.head _))))) (fun _ h => h) (z_goto X (t := 157) rfl rfl (z_inc X (x := c) (lv' := [(4, .int (Int32.ofInt (c + 1))), (3, .int (Int32.ofInt (dp + 1))), (5, .int (Int32.ofInt (iC t 16 (c).toNat))), (0, .ref (A 19)), (2, .ref (A 101)), (1, .int (Int32.ofInt xv))]) rfl (by decide) (List.Mem.tail _ (List.Mem.tail _ (List.Mem.tail _ (List.Mem.tail _ (List.Mem.tail _ (List.Mem.head _)))))) (fun _ h => h) (z_goto X (t := 28) rfl rfl (WS_pq [3, 4, 5, 1, 0] (lv' := [(0, .ref (A 19)), (2, .ref (A 101)), (1, .int (Int32.ofInt xv)), (3, .int (Int32.ofInt (dp + 1))), (4, .int (Int32.ofInt (c + 1)))]) rfl ?_))))
              exact ih _ xv (dp + 1) (c + 1) Is1019 Fs1019 (by first | exact ⟨And.intro (hi.1.1) (hi.1.2), And.intro (oq_54f49eb5 hi.2.1.1) (oq_0cb6ab8a g1016), oq_54f49eb5 hi.2.2.1, oq_228270fa g1002 b1001.2⟩ | omega) (by first | exact qk_me hm (by decide) (oq_b0a4f3e2 g1002 b1001.2) | omega) kx
            refine z_if_lt X (t := 77) rfl rfl (rng_to _) (fun g1020 => ?_) (fun g1020 => ?_)
            ·
              refine z_aload_n X (x := A 101) rfl (List.Mem.tail _ (List.Mem.tail _ (List.Mem.head _))) (z_const X rfl (z_load X (x := (iC t 16 (c).toNat)) rfl (List.Mem.head _) (z_sub X rfl (z_ald X 101 rfl (c518_ok rfl) rfl (by first | exact oq_c38d07c4 g1020 | omega) (show ((-1) - (iC t 16 (c).toNat)) < 7 by first | exact oq_a1f4cde5 g1004 | omega) (cbig_ok rfl) ?_))))
              have b1021 := bc_87 I (show (((-1) - (iC t 16 (c).toNat))).toNat < 7 by first | exact oq_91b916ba g1004 | omega)
              exact N1017 _ (Or.inl ⟨g1020, b1021, rfl⟩)
            ·
              exact z_load X (x := (iC t 16 (c).toNat)) rfl (List.Mem.head _) (z_goto X (t := 83) rfl rfl (N1017 _ (Or.inr (⟨g1020, rfl⟩))))
  refine z_load_n X (x := x) rfl (List.Mem.tail _ (List.Mem.head _)) (z_const X rfl (z_icmp_ne X (t := 19) rfl rfl ⟨by first | exact oq_97ee2c2a p0.1 | omega, by first | exact oq_0e78ca7d p0.2 | omega⟩ (by decide) (fun g1 => ?_) (fun g1 => ?_)))
  ·
    refine z_const X rfl (z_store_n X (lv' := [(3, .int (Int32.ofInt 0)), (0, .ref (A 19)), (1, .int (Int32.ofInt x)), (2, .ref (A 101))]) rfl (by decide) (fun _ h => h) (z_aload_n X (x := A 19) rfl (List.Mem.tail _ (List.Mem.head _)) (z_load_n X (x := x) rfl (List.Mem.tail _ (List.Mem.tail _ (List.Mem.head _))) (zcV_i0 X E 19 (As := [.int (Int32.ofInt x)]) (st := []) rfl rfl rfl rfl (c7_beginOf_19 G I (by first | exact ⟨oq_7a1025bf g1 p0.1, p0.2⟩ | omega)) rfl (Nat.le_of_ble_eq_true rfl) (fun s2 e3 Is2 Fs2 hrs2 hps2 => ?_)))))
    have Gs2 := fm_tq F Fs2 rfl rfl
    refine z_store X (lv' := [(4, .int (Int32.ofInt e3)), (3, .int (Int32.ofInt 0)), (0, .ref (A 19)), (1, .int (Int32.ofInt x)), (2, .ref (A 101))]) rfl (by decide) (fun _ h => h) (WS_pq [2, 4, 3, 1, 0] (lv' := [(0, .ref (A 19)), (2, .ref (A 101)), (1, .int (Int32.ofInt x)), (3, .int (Int32.ofInt 0)), (4, .int (Int32.ofInt e3))]) rfl (L28 ((200 - e3 : Int).toNat + 1) s2 x 0 e3 Is2 Gs2 (by first | exact ⟨oq_b629d6d6 g1 p0.2 p0.1, And.intro (by decide) (by decide), hps2.1, hps2.2⟩ | omega) (Nat.lt_succ_self _) ?_))
    intro s4 x5 x6 Is4 Fs4 hs4
    refine z_aload_n X (x := A 19) rfl (List.Mem.head _) (s_getR X 19 rfl (c518_ok rfl) rfl rfl (z_const X rfl (z_ald X 24 rfl (c518_ok rfl) rfl (by decide) (show 0 < 200 by decide) (cbig_ok rfl) ?_)))
    have b7 := bc_20 Is4 (show (0 : Int).toNat < 200 by first | exact oq_e7d7c2b9 | omega)
    exact w_iret X.1 q hRt rfl (ax_d X (show cdA 84 169 = some (.ireturn, 1, 0, 0, 0) from rfl)) (Nat.zero_le _) (Nat.zero_le _) ⟨_, rfl, Is4, Fs4, (iC s4 20 (0 : Int).toNat), rfl, (rng_to _), trivial⟩
  ·
    refine z_aload_n X (x := A 101) rfl (List.Mem.tail _ (List.Mem.tail _ (List.Mem.head _))) (z_const X rfl (z_ald X 101 rfl (c518_ok rfl) rfl (by decide) (show 0 < 7 by decide) (cbig_ok rfl) ?_))
    have b8 := bc_87 I (show (0 : Int).toNat < 7 by first | exact oq_e8ec3fa8 | omega)
    refine z_const X rfl (z_aload_n X (x := A 101) rfl (List.Mem.tail _ (List.Mem.tail _ (List.Mem.head _))) (z_const X rfl (z_ald X 101 rfl (c518_ok rfl) rfl (by decide) (show 1 < 7 by decide) (cbig_ok rfl) ?_)))
    have b9 := bc_87 I (show (1 : Int).toNat < 7 by first | exact oq_a32b659c | omega)
    refine z_mul X rfl (z_any (fun y10 hy10 => ?_))
    refine z_add X rfl (z_any (fun y11 hy11 => ?_))
    refine z_aload_n X (x := A 101) rfl (List.Mem.tail _ (List.Mem.tail _ (List.Mem.head _))) (z_const X rfl (z_ald X 101 rfl (c518_ok rfl) rfl (by decide) (show 2 < 7 by decide) (cbig_ok rfl) ?_))
    have b12 := bc_87 I (show (2 : Int).toNat < 7 by first | exact oq_62527c24 | omega)
    refine z_add X rfl (z_any (fun y13 hy13 => ?_))
    exact w_iret X.1 q hRt rfl (ax_d X (show cdA 84 18 = some (.ireturn, 1, 0, 0, 0) from rfl)) (Nat.zero_le _) (Nat.zero_le _) ⟨_, rfl, I, F, y13, rfl, hy13, trivial⟩
set_option maxRecDepth 4000 in
theorem c0_loadAt_93 (G : GX l s0 D tys a0 dT) (I : Bd s) {x y : Int} (p0 : 0 ≤ x ∧ x ≤ 23) (p1 : rng y) : CT l s0 D A dT 4 (rmN 4) [.ref (A 93), .int (Int32.ofInt x), .int (Int32.ofInt y)] s (fun o t => Bd t ∧ Fm [] [87, 20] s t ∧ ∃ e, o = .inl (some (.int (Int32.ofInt e))) ∧ rng e ∧ (True)) := by
  refine ct_ofX G (by decide) (Nat.le_of_ble_eq_true rfl) (fun k X E ET hRt hXt q => ?_)
  show WS k 0 [(0, .ref (A 93)), (1, .int (Int32.ofInt x)), (2, .int (Int32.ofInt y))] [] _ 0 0
  have F : Fm [] [87, 20] s s := fm_rf _ _ s
  refine z_aload_n X (x := A 93) rfl (List.Mem.head _) (z_load_n X (x := x) rfl (List.Mem.tail _ (List.Mem.head _)) (z_load_n X (x := y) rfl (List.Mem.tail _ (List.Mem.tail _ (List.Mem.head _))) (zcV_v0 X E 93 (As := [.int (Int32.ofInt x), .int (Int32.ofInt y)]) (st := []) rfl rfl rfl rfl (c0_hear_93 G I (by first | exact ⟨p0.1, p0.2⟩ | omega) (by first | exact ⟨p1.1, p1.2⟩ | omega)) rfl (Nat.le_of_ble_eq_true rfl) (fun s1 Is1 Fs1 hps1 => ?_))))
  have Gs1 := fm_tq F Fs1 rfl rfl
  refine z_aload_n X (x := A 93) rfl (List.Mem.head _) (s_getR X 93 rfl (c518_ok rfl) rfl rfl (z_aload_n X (x := A 93) rfl (List.Mem.head _) (s_getR X 93 rfl (c518_ok rfl) rfl rfl (z_getI X 19 rfl (c518_ok rfl) rfl rfl ?_))))
  have b3 := bi_13 Is1
  refine z_aload_n X (x := A 93) rfl (List.Mem.head _) (s_getR X 93 rfl (c518_ok rfl) rfl rfl (zcV_i0 X E 19 (As := [.int (Int32.ofInt (iI s1 13)), .ref (A 101)]) (st := []) rfl rfl rfl rfl (c7_work_93 G Is1 (by first | exact ⟨b3.1, b3.2⟩ | omega)) rfl (Nat.le_of_ble_eq_true rfl) (fun s4 e5 Is4 Fs4 hrs4 hps4 => ?_)))
  have Gs4 := fm_tq Gs1 Fs4 rfl rfl
  exact w_iret X.1 q hRt rfl (ax_d X (show cdA 4 24 = some (.ireturn, 1, 0, 0, 0) from rfl)) (Nat.zero_le _) (Nat.zero_le _) ⟨_, rfl, Is4, Gs4, e5, rfl, hrs4, trivial⟩
set_option maxRecDepth 4000 in
theorem c0_followSteps_103 (G : GX l s0 D tys a0 dT) (I : Bd s) {x : Int} {aj bj : Int64} (p0 : 0 ≤ x ∧ x ≤ 11) (p1 : iI s 49 ≤ 11) : CT l s0 D A dT 2 (rmN 2) [.ref (A 103), .int (Int32.ofInt x), .long aj, .long bj] s (fun o t => Bd t ∧ Fm [] [90, 91, 92] s t ∧ o = .inl none ∧ (True)) := by
  refine ct_ofX G (by decide) (Nat.le_of_ble_eq_true rfl) (fun k X E ET hRt hXt q => ?_)
  show WS k 0 [(0, .ref (A 103)), (1, .int (Int32.ofInt x)), (2, .long aj), (4, .long bj)] [] _ 0 0
  have F : Fm [] [90, 91, 92] s s := fm_rf _ _ s
  have b1 := bi_49 I
  have L12 : ∀ (n : Nat) (t : PS) (xv : Int) (av : Int64) (bv : Int64) (ov : Int) (wi : Int) (cl : Int) (kd : Int), Bd t → Fm [] [90, 91, 92] s t → ((0 ≤ xv ∧ xv ≤ 11) ∧ rng ov ∧ rng wi ∧ rng cl ∧ 0 ≤ kd ∧ kd ≤ 5 ∧ iI t 49 ≤ 11) → (5 - kd : Int).toNat < n → (∀ (t' : PS) (ov' : Int) (wi' : Int) (cl' : Int) (kd' : Int), Bd t' → Fm [] [90, 91, 92] s t' → ((0 ≤ xv ∧ xv ≤ 11) ∧ rng ov' ∧ rng wi' ∧ rng cl' ∧ 0 ≤ kd' ∧ kd' ≤ 5 ∧ iI t' 49 ≤ 11) → WS k 148 [(0, .ref (A 103)), (1, .int (Int32.ofInt xv)), (2, .long av), (4, .long bv), (6, .int (Int32.ofInt ov')), (7, .int (Int32.ofInt wi')), (8, .int (Int32.ofInt cl')), (9, .int (Int32.ofInt kd'))] [] (Wd A dT t') 0 0) → WS k 12 [(0, .ref (A 103)), (1, .int (Int32.ofInt xv)), (2, .long av), (4, .long bv), (6, .int (Int32.ofInt ov)), (7, .int (Int32.ofInt wi)), (8, .int (Int32.ofInt cl)), (9, .int (Int32.ofInt kd))] [] (Wd A dT t) 0 0 := by
    intro n
    induction n with
    | zero =>
      intro t xv av bv ov wi cl kd I F hi hm kx
      exact absurd hm (Nat.not_lt_zero _)
    | succ n ih =>
      intro t xv av bv ov wi cl kd I F hi hm kx
      have b1001 := bi_49 I
      refine z_load X (x := kd) rfl (List.Mem.tail _ (List.Mem.tail _ (List.Mem.tail _ (List.Mem.tail _ (List.Mem.tail _ (List.Mem.tail _ (List.Mem.tail _ (List.Mem.head _)))))))) (z_const X rfl (z_icmp_ge X (t := 148) rfl rfl ⟨by first | exact oq_fa4e5087 hi.2.2.2.2.1 | omega, by first | exact oq_a3dd55e5 hi.2.2.2.2.2.1 | omega⟩ (by decide) (fun g1002 => ?_) (fun g1002 => ?_)))
      ·
        refine WS_pq [0, 1, 2, 3, 4, 5, 6, 7] (lv' := [(0, .ref (A 103)), (1, .int (Int32.ofInt xv)), (2, .long av), (4, .long bv), (6, .int (Int32.ofInt ov)), (7, .int (Int32.ofInt wi)), (8, .int (Int32.ofInt cl)), (9, .int (Int32.ofInt kd))]) rfl ?_
        exact kx _ ov wi cl kd I F (by first | exact ⟨And.intro (hi.1.1) (hi.1.2), And.intro (hi.2.1.1) (hi.2.1.2), And.intro (hi.2.2.1.1) (hi.2.2.1.2), And.intro (hi.2.2.2.1.1) (hi.2.2.2.1.2), hi.2.2.2.2.1, hi.2.2.2.2.2.1, hi.2.2.2.2.2.2⟩ | omega)
      ·
        refine z_aload_n X (x := A 103) rfl (List.Mem.head _) (s_getR X 103 rfl (c518_ok rfl) rfl rfl (s_getR X 68 rfl (c518_ok rfl) rfl rfl (z_load_n X (x := xv) rfl (List.Mem.tail _ (List.Mem.head _)) (z_const X rfl (z_mul X rfl (z_load X (x := kd) rfl (List.Mem.tail _ (List.Mem.tail _ (List.Mem.tail _ (List.Mem.tail _ (List.Mem.tail _ (List.Mem.tail _ (List.Mem.tail _ (List.Mem.head _)))))))) (z_add X rfl (z_lald X 73 rfl (c518_ok rfl) rfl (by first | exact oq_59a253bd hi.1.1 hi.2.2.2.2.1 | omega) (show ((xv * 5) + kd) < 60 by first | exact oq_7279bf48 hi.1.2 g1002 | omega) (cbig_ok rfl) (fun j1003 => ?_)))))))))
        refine w_lstore X.1 (lv' := [(10, .long j1003), (0, .ref (A 103)), (1, .int (Int32.ofInt xv)), (2, .long av), (4, .long bv), (6, .int (Int32.ofInt ov)), (7, .int (Int32.ofInt wi)), (8, .int (Int32.ofInt cl)), (9, .int (Int32.ofInt kd))]) (ax_d X (show cdA 2 32 = some (.lstore 10, 2, 0, 0, 0) from rfl)) (by rw [X.2.1.2.2]; decide) (fun _ h => h) (w_lload X.1 (ax_d X (show cdA 2 34 = some (.lload 10, 2, 0, 0, 0) from rfl)) (x := j1003) (List.Mem.head _) (w_lconst X.1 (ax_d X (show cdA 2 36 = some (.lconst 0, 1, 0, 0, 0) from rfl)) rfl (z_anyJ (fun j1004 => ?_))))
        refine w_lcmp X.1 (ax_d X (show cdA 2 37 = some (.lcmp, 1, 0, 0, 0) from rfl)) (z_any (fun y1005 hy1005 => ?_))
        refine z_if_eq X (t := 142) rfl rfl hy1005 (fun g1006 => ?_) (fun g1006 => ?_)
        ·
          refine z_inc X (x := kd) (lv' := [(9, .int (Int32.ofInt (kd + 1))), (10, .long j1003), (0, .ref (A 103)), (1, .int (Int32.ofInt xv)), (2, .long av), (4, .long bv), (6, .int (Int32.ofInt ov)), (7, .int (Int32.ofInt wi)), (8, .int (Int32.ofInt cl))]) rfl (by decide) (List.Mem.tail _ (List.Mem.tail _ (List.Mem.tail _ (List.Mem.tail _ (List.Mem.tail _ (List.Mem.tail _ (List.Mem.tail _ (List.Mem.tail _ (List.Mem.head _))))))))) (fun _ h => h) (z_goto X (t := 12) rfl rfl (WS_pq [2, 3, 4, 5, 6, 7, 8, 0] (lv' := [(0, .ref (A 103)), (1, .int (Int32.ofInt xv)), (2, .long av), (4, .long bv), (6, .int (Int32.ofInt ov)), (7, .int (Int32.ofInt wi)), (8, .int (Int32.ofInt cl)), (9, .int (Int32.ofInt (kd + 1)))]) rfl ?_))
          exact ih _ xv av bv ov wi cl (kd + 1) I F (by first | exact ⟨And.intro (hi.1.1) (hi.1.2), And.intro (hi.2.1.1) (hi.2.1.2), And.intro (hi.2.2.1.1) (hi.2.2.1.2), And.intro (hi.2.2.2.1.1) (hi.2.2.2.1.2), oq_54f49eb5 hi.2.2.2.2.1, oq_c2445583 g1002, hi.2.2.2.2.2.2⟩ | omega) (by first | exact qk_me hm (by decide) (oq_33241a94 g1002) | omega) kx
        ·
          refine z_load X (x := kd) rfl (List.Mem.tail _ (List.Mem.tail _ (List.Mem.tail _ (List.Mem.tail _ (List.Mem.tail _ (List.Mem.tail _ (List.Mem.tail _ (List.Mem.tail _ (List.Mem.head _))))))))) (z_const X rfl ?_)
          have N1007 : ∀ j1008 : Int64, WS k 59 [(10, .long j1003), (0, .ref (A 103)), (1, .int (Int32.ofInt xv)), (2, .long av), (4, .long bv), (6, .int (Int32.ofInt ov)), (7, .int (Int32.ofInt wi)), (8, .int (Int32.ofInt cl)), (9, .int (Int32.ofInt kd))] [.long j1008] (Wd A dT t) 0 0 := by
            intro j1008
            refine w_lstore X.1 (lv' := [(12, .long j1008), (10, .long j1003), (0, .ref (A 103)), (1, .int (Int32.ofInt xv)), (2, .long av), (4, .long bv), (6, .int (Int32.ofInt ov)), (7, .int (Int32.ofInt wi)), (8, .int (Int32.ofInt cl)), (9, .int (Int32.ofInt kd))]) (ax_d X (show cdA 2 59 = some (.lstore 12, 2, 0, 0, 0) from rfl)) (by rw [X.2.1.2.2]; decide) (fun _ h => h) (z_load X (x := kd) rfl (List.Mem.tail _ (List.Mem.tail _ (List.Mem.tail _ (List.Mem.tail _ (List.Mem.tail _ (List.Mem.tail _ (List.Mem.tail _ (List.Mem.tail _ (List.Mem.tail _ (List.Mem.head _)))))))))) (z_const X rfl ?_))
            have N1009 : ∀ j1010 : Int64, WS k 90 [(12, .long j1008), (10, .long j1003), (0, .ref (A 103)), (1, .int (Int32.ofInt xv)), (2, .long av), (4, .long bv), (6, .int (Int32.ofInt ov)), (7, .int (Int32.ofInt wi)), (8, .int (Int32.ofInt cl)), (9, .int (Int32.ofInt kd))] [.long j1010] (Wd A dT t) 0 0 := by
              intro j1010
              refine w_lstore X.1 (lv' := [(14, .long j1010), (12, .long j1008), (10, .long j1003), (0, .ref (A 103)), (1, .int (Int32.ofInt xv)), (2, .long av), (4, .long bv), (6, .int (Int32.ofInt ov)), (7, .int (Int32.ofInt wi)), (8, .int (Int32.ofInt cl)), (9, .int (Int32.ofInt kd))]) (ax_d X (show cdA 2 90 = some (.lstore 14, 2, 0, 0, 0) from rfl)) (by rw [X.2.1.2.2]; decide) (fun _ h => h) (w_lload X.1 (ax_d X (show cdA 2 92 = some (.lload 10, 2, 0, 0, 0) from rfl)) (x := j1003) (List.Mem.tail _ (List.Mem.tail _ (List.Mem.head _))) (w_lload X.1 (ax_d X (show cdA 2 94 = some (.lload 12, 2, 0, 0, 0) from rfl)) (x := j1008) (List.Mem.tail _ (List.Mem.head _)) (w_land X.1 (ax_d X (show cdA 2 96 = some (.land, 1, 0, 0, 0) from rfl)) (z_anyJ (fun j1011 => ?_)))))
              refine w_lload X.1 (ax_d X (show cdA 2 97 = some (.lload 14, 2, 0, 0, 0) from rfl)) (x := j1010) (List.Mem.head _) (w_land X.1 (ax_d X (show cdA 2 99 = some (.land, 1, 0, 0, 0) from rfl)) (z_anyJ (fun j1012 => ?_)))
              refine zcS_i0 X E (As := [.long j1012]) (st := []) rfl rfl (j_bitL G I ) rfl (Nat.le_of_ble_eq_true rfl) (fun s1013 e1014 Is1013 Fs1013 hrs1013 hps1013 => ?_)
              have Gs1013 := fm_tq F Fs1013 rfl rfl
              have ws1013_49 : iI s1013 49 = iI t 49 := fm_iq Fs1013 rfl
              refine z_store X (lv' := [(16, .int (Int32.ofInt e1014)), (14, .long j1010), (12, .long j1008), (10, .long j1003), (0, .ref (A 103)), (1, .int (Int32.ofInt xv)), (2, .long av), (4, .long bv), (6, .int (Int32.ofInt ov)), (7, .int (Int32.ofInt wi)), (8, .int (Int32.ofInt cl)), (9, .int (Int32.ofInt kd))]) rfl (by decide) (fun _ h => h) (z_load X (x := ov) rfl (List.Mem.tail _ (List.Mem.tail _ (List.Mem.tail _ (List.Mem.tail _ (List.Mem.tail _ (List.Mem.tail _ (List.Mem.tail _ (List.Mem.tail _ (List.Mem.head _))))))))) (w_lload X.1 (ax_d X (show cdA 2 107 = some (.lload 10, 2, 0, 0, 0) from rfl)) (x := j1003) (List.Mem.tail _ (List.Mem.tail _ (List.Mem.tail _ (List.Mem.head _)))) (w_lload X.1 (ax_d X (show cdA 2 109 = some (.lload 12, 2, 0, 0, 0) from rfl)) (x := j1008) (List.Mem.tail _ (List.Mem.tail _ (List.Mem.head _))) (w_lload X.1 (ax_d X (show cdA 2 111 = some (.lload 14, 2, 0, 0, 0) from rfl)) (x := j1010) (List.Mem.tail _ (List.Mem.head _)) (w_lxor X.1 (ax_d X (show cdA 2 113 = some (.lxor, 1, 0, 0, 0) from rfl)) (z_anyJ (fun j1015 => ?_)))))))
              refine w_land X.1 (ax_d X (show cdA 2 114 = some (.land, 1, 0, 0, 0) from rfl)) (z_anyJ (fun j1016 => ?_))
              refine zcS_i0 X E (As := [.long j1016]) (st := [.int (Int32.ofInt ov)]) rfl rfl (j_bitL G Is1013 ) rfl (Nat.le_of_ble_eq_true rfl) (fun s1017 e1018 Is1017 Fs1017 hrs1017 hps1017 => ?_)
              have Gs1017 := fm_tq Gs1013 Fs1017 rfl rfl
              have ws1017_49 : iI s1017 49 = iI s1013 49 := fm_iq Fs1017 rfl
              refine z_add X rfl (z_any (fun y1019 hy1019 => ?_))
              refine z_store X (lv' := [(6, .int (Int32.ofInt y1019)), (16, .int (Int32.ofInt e1014)), (14, .long j1010), (12, .long j1008), (10, .long j1003), (0, .ref (A 103)), (1, .int (Int32.ofInt xv)), (2, .long av), (4, .long bv), (7, .int (Int32.ofInt wi)), (8, .int (Int32.ofInt cl)), (9, .int (Int32.ofInt kd))]) rfl (by decide) (fun _ h => h) (z_load X (x := wi) rfl (List.Mem.tail _ (List.Mem.tail _ (List.Mem.tail _ (List.Mem.tail _ (List.Mem.tail _ (List.Mem.tail _ (List.Mem.tail _ (List.Mem.tail _ (List.Mem.tail _ (List.Mem.head _)))))))))) (z_load X (x := e1014) rfl (List.Mem.tail _ (List.Mem.head _)) (z_add X rfl (z_any (fun y1020 hy1020 => ?_)))))
              refine z_store X (lv' := [(7, .int (Int32.ofInt y1020)), (6, .int (Int32.ofInt y1019)), (16, .int (Int32.ofInt e1014)), (14, .long j1010), (12, .long j1008), (10, .long j1003), (0, .ref (A 103)), (1, .int (Int32.ofInt xv)), (2, .long av), (4, .long bv), (8, .int (Int32.ofInt cl)), (9, .int (Int32.ofInt kd))]) rfl (by decide) (fun _ h => h) (z_load X (x := kd) rfl (List.Mem.tail _ (List.Mem.tail _ (List.Mem.tail _ (List.Mem.tail _ (List.Mem.tail _ (List.Mem.tail _ (List.Mem.tail _ (List.Mem.tail _ (List.Mem.tail _ (List.Mem.tail _ (List.Mem.tail _ (List.Mem.head _)))))))))))) (z_const X rfl ?_))
              have N1021 : ∀ e1022 : Int, (((kd ≠ 4) ∧ e1022 = 0) ∨ ((kd = 4) ∧ e1022 = e1014)) → WS k 140 [(7, .int (Int32.ofInt y1020)), (6, .int (Int32.ofInt y1019)), (16, .int (Int32.ofInt e1014)), (14, .long j1010), (12, .long j1008), (10, .long j1003), (0, .ref (A 103)), (1, .int (Int32.ofInt xv)), (2, .long av), (4, .long bv), (8, .int (Int32.ofInt cl)), (9, .int (Int32.ofInt kd))] [.int (Int32.ofInt e1022)] (Wd A dT s1017) 0 0 := by
                intro e1022 he1022
                refine z_store X (lv' := [(8, .int (Int32.ofInt e1022)), (7, .int (Int32.ofInt y1020)), (6, .int (Int32.ofInt y1019)), (16, .int (Int32.ofInt e1014)), (14, .long j1010), (12, .long j1008), (10, .long j1003), (0, .ref (A 103)), (1, .int (Int32.ofInt xv)), (2, .long av), (4, .long bv), (9, .int (Int32.ofInt kd))]) rfl (by decide) (fun _ h => h) (z_inc X (x := kd) (lv' := [(9, .int (Int32.ofInt (kd + 1))), (8, .int (Int32.ofInt e1022)), (7, .int (Int32.ofInt y1020)), (6, .int (Int32.ofInt y1019)), (16, .int (Int32.ofInt e1014)), (14, .long j1010), (12, .long j1008), (10, .long j1003), (0, .ref (A 103)), (1, .int (Int32.ofInt xv)), (2, .long av), (4, .long bv)]) rfl (by decide) (List.Mem.tail _ (List.Mem.tail _ (List.Mem.tail _ (List.Mem.tail _ (List.Mem.tail _ (List.Mem.tail _ (List.Mem.tail _ (List.Mem.tail _ (List.Mem.tail _ (List.Mem.tail _ (List.Mem.tail _ (List.Mem.head _)))))))))))) (fun _ h => h) (z_goto X (t := 12) rfl rfl (WS_pq [8, 9, 10, 11, 3, 2, 1, 0] (lv' := [(0, .ref (A 103)), (1, .int (Int32.ofInt xv)), (2, .long av), (4, .long bv), (6, .int (Int32.ofInt y1019)), (7, .int (Int32.ofInt y1020)), (8, .int (Int32.ofInt e1022)), (9, .int (Int32.ofInt (kd + 1)))]) rfl ?_)))
                exact ih _ xv av bv y1019 y1020 e1022 (kd + 1) Is1017 Gs1017 (by first | exact ⟨And.intro (hi.1.1) (hi.1.2), And.intro (hy1019.1) (hy1019.2), And.intro (hy1020.1) (hy1020.2), by first | (clear he1022 g1006; omega) | (clear g1006; omega) | omega, oq_54f49eb5 hi.2.2.2.2.1, oq_c2445583 g1002, oq_9a920414 ws1017_49 ws1013_49 hi.2.2.2.2.2.2⟩ | omega) (by first | exact qk_me hm (by decide) (oq_33241a94 g1002) | omega) kx
              refine z_icmp_ne X (t := 139) rfl rfl ⟨by first | exact oq_fa4e5087 hi.2.2.2.2.1 | omega, by first | exact oq_85aa3fe6 g1002 | omega⟩ (by decide) (fun g1023 => ?_) (fun g1023 => ?_)
              ·
                exact z_const X rfl (N1021 _ (Or.inl ⟨g1023, rfl⟩))
              ·
                exact z_load X (x := e1014) rfl (List.Mem.tail _ (List.Mem.tail _ (List.Mem.head _))) (z_goto X (t := 140) rfl rfl (N1021 _ (Or.inr (⟨g1023, rfl⟩))))
            refine z_icmp_ne X (t := 72) rfl rfl ⟨by first | exact oq_fa4e5087 hi.2.2.2.2.1 | omega, by first | exact oq_85aa3fe6 g1002 | omega⟩ (by decide) (fun g1024 => ?_) (fun g1024 => ?_)
            ·
              refine z_load X (x := kd) rfl (List.Mem.tail _ (List.Mem.tail _ (List.Mem.tail _ (List.Mem.tail _ (List.Mem.tail _ (List.Mem.tail _ (List.Mem.tail _ (List.Mem.tail _ (List.Mem.tail _ (List.Mem.head _)))))))))) (z_const X rfl (z_icmp_ge X (t := 85) rfl rfl ⟨by first | exact oq_fa4e5087 hi.2.2.2.2.1 | omega, by first | exact oq_85aa3fe6 g1002 | omega⟩ (by decide) (fun g1025 => ?_) (fun g1025 => ?_)))
              ·
                refine w_lload X.1 (ax_d X (show cdA 2 85 = some (.lload 12, 2, 0, 0, 0) from rfl)) (x := j1008) (List.Mem.head _) (z_bipush X rfl (w_lushr X.1 (ax_d X (show cdA 2 89 = some (.lushr, 1, 0, 0, 0) from rfl)) (z_anyJ (fun j1026 => ?_))))
                exact N1009 _
              ·
                refine w_lload X.1 (ax_d X (show cdA 2 78 = some (.lload 12, 2, 0, 0, 0) from rfl)) (x := j1008) (List.Mem.head _) (z_const X rfl (w_lushr X.1 (ax_d X (show cdA 2 81 = some (.lushr, 1, 0, 0, 0) from rfl)) (z_anyJ (fun j1027 => ?_))))
                exact z_goto X (t := 90) rfl rfl (N1009 _)
            ·
              exact w_lload X.1 (ax_d X (show cdA 2 67 = some (.lload 4, 2, 0, 0, 0) from rfl)) (x := bv) (List.Mem.tail _ (List.Mem.tail _ (List.Mem.tail _ (List.Mem.tail _ (List.Mem.tail _ (List.Mem.head _)))))) (z_goto X (t := 90) rfl rfl (N1009 _))
          refine z_icmp_eq X (t := 53) rfl rfl ⟨by first | exact oq_fa4e5087 hi.2.2.2.2.1 | omega, by first | exact oq_85aa3fe6 g1002 | omega⟩ (by decide) (fun g1028 => ?_) (fun g1028 => ?_)
          ·
            exact w_lload X.1 (ax_d X (show cdA 2 53 = some (.lload 4, 2, 0, 0, 0) from rfl)) (x := bv) (List.Mem.tail _ (List.Mem.tail _ (List.Mem.tail _ (List.Mem.tail _ (List.Mem.head _))))) (z_goto X (t := 59) rfl rfl (N1007 _))
          ·
            refine z_load X (x := kd) rfl (List.Mem.tail _ (List.Mem.tail _ (List.Mem.tail _ (List.Mem.tail _ (List.Mem.tail _ (List.Mem.tail _ (List.Mem.tail _ (List.Mem.tail _ (List.Mem.head _))))))))) (z_const X rfl (z_icmp_ne X (t := 58) rfl rfl ⟨by first | exact oq_fa4e5087 hi.2.2.2.2.1 | omega, by first | exact oq_85aa3fe6 g1002 | omega⟩ (by decide) (fun g1029 => ?_) (fun g1029 => ?_)))
            ·
              exact w_lload_n X.1 (ax_d X (show cdA 2 58 = some (.lload_n 2, 1, 0, 0, 0) from rfl)) (x := av) (List.Mem.tail _ (List.Mem.tail _ (List.Mem.tail _ (List.Mem.head _)))) (N1007 _)
            ·
              exact w_lload X.1 (ax_d X (show cdA 2 53 = some (.lload 4, 2, 0, 0, 0) from rfl)) (x := bv) (List.Mem.tail _ (List.Mem.tail _ (List.Mem.tail _ (List.Mem.tail _ (List.Mem.head _))))) (z_goto X (t := 59) rfl rfl (N1007 _))
  refine z_const X rfl (z_store X (lv' := [(6, .int (Int32.ofInt 0)), (0, .ref (A 103)), (1, .int (Int32.ofInt x)), (2, .long aj), (4, .long bj)]) rfl (by decide) (fun _ h => h) (z_const X rfl (z_store X (lv' := [(7, .int (Int32.ofInt 0)), (6, .int (Int32.ofInt 0)), (0, .ref (A 103)), (1, .int (Int32.ofInt x)), (2, .long aj), (4, .long bj)]) rfl (by decide) (fun _ h => h) (z_const X rfl (z_store X (lv' := [(8, .int (Int32.ofInt 0)), (7, .int (Int32.ofInt 0)), (6, .int (Int32.ofInt 0)), (0, .ref (A 103)), (1, .int (Int32.ofInt x)), (2, .long aj), (4, .long bj)]) rfl (by decide) (fun _ h => h) (z_const X rfl (z_store X (lv' := [(9, .int (Int32.ofInt 0)), (8, .int (Int32.ofInt 0)), (7, .int (Int32.ofInt 0)), (6, .int (Int32.ofInt 0)), (0, .ref (A 103)), (1, .int (Int32.ofInt x)), (2, .long aj), (4, .long bj)]) rfl (by decide) (fun _ h => h) (WS_pq [4, 5, 6, 7, 3, 2, 1, 0] (lv' := [(0, .ref (A 103)), (1, .int (Int32.ofInt x)), (2, .long aj), (4, .long bj), (6, .int (Int32.ofInt 0)), (7, .int (Int32.ofInt 0)), (8, .int (Int32.ofInt 0)), (9, .int (Int32.ofInt 0))]) rfl (L12 ((5 - 0 : Int).toNat + 1) s x aj bj 0 0 0 0 I F (by first | exact ⟨And.intro (p0.1) (p0.2), And.intro (by decide) (by decide), And.intro (by decide) (by decide), And.intro (by decide) (by decide), by decide, by decide, p1⟩ | omega) (Nat.lt_succ_self _) ?_)))))))))
  intro s2 x3 x4 x5 x6 Is2 Fs2 hs2
  have b7 := bi_49 Is2
  refine z_aload_n X (x := A 103) rfl (List.Mem.head _) (s_getR X 103 rfl (c518_ok rfl) rfl rfl (z_aload_n X (x := A 103) rfl (List.Mem.head _) (z_getI X 103 rfl (c518_ok rfl) rfl rfl ?_)))
  have b8 := bi_49 Is2
  refine z_load X (x := x3) rfl (List.Mem.tail _ (List.Mem.tail _ (List.Mem.tail _ (List.Mem.tail _ (List.Mem.head _))))) (z_ast X 105 rfl (c518_ok rfl) rfl (by first | exact b8.1 | omega) (show (iI s2 49) < 12 by first | exact oq_0ddfcfee hs2.2.2.2.2.2.2 | omega) (cbig_ok rfl) (wd_gen (fun s9 hs9 => ?_)))
  have Is9 : Bd s9 := eqB hs9 (bd_C Is2 (show ((-2147483648) : Int) ≤ x3 ∧ x3 ≤ 2147483647 by first | exact ⟨hs2.2.1.1, hs2.2.1.2⟩ | omega) ⟨by first | exact hs2.2.1.1 | omega, by first | exact hs2.2.1.2 | omega⟩)
  have Fs9 := eqF hs9 (fm_C Fs2 (inl_ok (a := 90) rfl))
  have ws9_49 : iI s9 49 = iI s2 49 := eqI hs9 rfl
  refine z_aload_n X (x := A 103) rfl (List.Mem.head _) (s_getR X 103 rfl (c518_ok rfl) rfl rfl (z_aload_n X (x := A 103) rfl (List.Mem.head _) (z_getI X 103 rfl (c518_ok rfl) rfl rfl ?_)))
  have b10 := bi_49 Is9
  refine z_load X (x := x4) rfl (List.Mem.tail _ (List.Mem.tail _ (List.Mem.tail _ (List.Mem.tail _ (List.Mem.tail _ (List.Mem.head _)))))) (z_ast X 106 rfl (c518_ok rfl) rfl (by first | exact b10.1 | omega) (show (iI s9 49) < 12 by first | exact oq_210fcd76 ws9_49 hs2.2.2.2.2.2.2 | omega) (cbig_ok rfl) (wd_gen (fun s11 hs11 => ?_)))
  have Is11 : Bd s11 := eqB hs11 (bd_C Is9 (show ((-2147483648) : Int) ≤ x4 ∧ x4 ≤ 2147483647 by first | exact ⟨hs2.2.2.1.1, hs2.2.2.1.2⟩ | omega) ⟨by first | exact hs2.2.2.1.1 | omega, by first | exact hs2.2.2.1.2 | omega⟩)
  have Fs11 := eqF hs11 (fm_C Fs9 (inl_ok (a := 91) rfl))
  have ws11_49 : iI s11 49 = iI s9 49 := eqI hs11 rfl
  refine z_aload_n X (x := A 103) rfl (List.Mem.head _) (s_getR X 103 rfl (c518_ok rfl) rfl rfl (z_aload_n X (x := A 103) rfl (List.Mem.head _) (z_getI X 103 rfl (c518_ok rfl) rfl rfl ?_)))
  have b12 := bi_49 Is11
  refine z_load X (x := x5) rfl (List.Mem.tail _ (List.Mem.tail _ (List.Mem.tail _ (List.Mem.tail _ (List.Mem.tail _ (List.Mem.tail _ (List.Mem.head _))))))) (z_ast X 107 rfl (c518_ok rfl) rfl (by first | exact b12.1 | omega) (show (iI s11 49) < 12 by first | exact oq_e2284db0 ws11_49 ws9_49 hs2.2.2.2.2.2.2 | omega) (cbig_ok rfl) (wd_gen (fun s13 hs13 => ?_)))
  have Is13 : Bd s13 := eqB hs13 (bd_C Is11 (show ((-2147483648) : Int) ≤ x5 ∧ x5 ≤ 2147483647 by first | exact ⟨hs2.2.2.2.1.1, hs2.2.2.2.1.2⟩ | omega) ⟨by first | exact hs2.2.2.2.1.1 | omega, by first | exact hs2.2.2.2.1.2 | omega⟩)
  have Fs13 := eqF hs13 (fm_C Fs11 (inl_ok (a := 92) rfl))
  have ws13_49 : iI s13 49 = iI s11 49 := eqI hs13 rfl
  exact w_vret X.1 q hRt (ax_d X (show cdA 2 181 = some (.return_, 1, 0, 0, 0) from rfl)) (Nat.zero_le _) (Nat.zero_le _) ⟨_, rfl, Is13, Fs13, rfl, trivial⟩
set_option maxRecDepth 4000 in
theorem c0_listen_103 (G : GX l s0 D tys a0 dT) (I : Bd s) {x : Int} {aj bj : Int64} (p0 : rng x) : CT l s0 D A dT 1 (rmN 1) [.ref (A 103), .long aj, .long bj, .int (Int32.ofInt x)] s (fun o t => Bd t ∧ Fm [49, 50] [96, 89, 90, 91, 92, 93, 94, 95] s t ∧ o = .inl none ∧ (True)) := by
  refine ct_ofX G (by decide) (Nat.le_of_ble_eq_true rfl) (fun k X E ET hRt hXt q => ?_)
  show WS k 0 [(0, .ref (A 103)), (1, .long aj), (3, .long bj), (5, .int (Int32.ofInt x))] [] _ 0 0
  have F : Fm [49, 50] [96, 89, 90, 91, 92, 93, 94, 95] s s := fm_rf _ _ s
  have b1 := bi_49 I
  have b2 := bi_50 I
  have b3 := bi_43 I
  have b4 := bi_44 I
  have L42 : ∀ (n : Nat) (t : PS) (av : Int64) (bv : Int64) (c : Int), Bd t → Fm [49, 50] [96, 89, 90, 91, 92, 93, 94, 95] s t → (0 ≤ c ∧ c ≤ 12 ∧ iI t 49 ≤ c) → (12 - c : Int).toNat < n → (∀ (t' : PS) (c' : Int), Bd t' → Fm [49, 50] [96, 89, 90, 91, 92, 93, 94, 95] s t' → (0 ≤ c' ∧ c' ≤ 12 ∧ iI t' 49 ≤ c') → WS k 125 [(0, .ref (A 103)), (1, .long av), (3, .long bv), (6, .int (Int32.ofInt c'))] [] (Wd A dT t') 0 0) → WS k 42 [(0, .ref (A 103)), (1, .long av), (3, .long bv), (6, .int (Int32.ofInt c))] [] (Wd A dT t) 0 0 := by
    intro n
    induction n with
    | zero =>
      intro t av bv c I F hi hm kx
      exact absurd hm (Nat.not_lt_zero _)
    | succ n ih =>
      intro t av bv c I F hi hm kx
      have b1001 := bi_49 I
      have b1002 := bi_50 I
      have b1003 := bi_43 I
      have b1004 := bi_44 I
      refine z_load X (x := c) rfl (List.Mem.tail _ (List.Mem.tail _ (List.Mem.tail _ (List.Mem.head _)))) (z_aload_n X (x := A 103) rfl (List.Mem.head _) (s_getR X 103 rfl (c518_ok rfl) rfl rfl (z_getI X 68 rfl (c518_ok rfl) rfl rfl ?_)))
      have b1005 := bi_43 I
      refine z_icmp_ge X (t := 125) rfl rfl ⟨by first | exact oq_fa4e5087 hi.1 | omega, by first | exact oq_78843a64 hi.2.1 | omega⟩ (rng_to _) (fun g1006 => ?_) (fun g1006 => ?_)
      ·
        refine WS_pq [0, 1, 2, 3] (lv' := [(0, .ref (A 103)), (1, .long av), (3, .long bv), (6, .int (Int32.ofInt c))]) rfl ?_
        exact kx _ c I F (by first | exact ⟨hi.1, hi.2.1, hi.2.2⟩ | omega)
      ·
        refine z_aload_n X (x := A 103) rfl (List.Mem.head _) (s_getR X 103 rfl (c518_ok rfl) rfl rfl (s_getR X 68 rfl (c518_ok rfl) rfl rfl (z_load X (x := c) rfl (List.Mem.tail _ (List.Mem.tail _ (List.Mem.tail _ (List.Mem.head _)))) (z_const X rfl (z_mul X rfl (z_lald X 71 rfl (c518_ok rfl) rfl (by first | exact oq_cfc6ac54 hi.1 | omega) (show (c * 2) < 24 by first | exact oq_e062d2c8 g1006 b1005.2 | omega) (cbig_ok rfl) (fun j1007 => ?_)))))))
        refine w_lload_n X.1 (ax_d X (show cdA 1 66 = some (.lload_n 1, 1, 0, 0, 0) from rfl)) (x := av) (List.Mem.tail _ (List.Mem.head _)) (w_land X.1 (ax_d X (show cdA 1 67 = some (.land, 1, 0, 0, 0) from rfl)) (z_anyJ (fun j1008 => ?_)))
        refine z_aload_n X (x := A 103) rfl (List.Mem.head _) (s_getR X 103 rfl (c518_ok rfl) rfl rfl (s_getR X 68 rfl (c518_ok rfl) rfl rfl (z_load X (x := c) rfl (List.Mem.tail _ (List.Mem.tail _ (List.Mem.tail _ (List.Mem.head _)))) (z_const X rfl (z_mul X rfl (z_const X rfl (z_add X rfl (z_lald X 71 rfl (c518_ok rfl) rfl (by first | exact oq_8a3e0277 hi.1 | omega) (show ((c * 2) + 1) < 24 by first | exact oq_0edc0603 g1006 b1005.2 | omega) (cbig_ok rfl) (fun j1009 => ?_)))))))))
        refine w_lload_n X.1 (ax_d X (show cdA 1 82 = some (.lload_n 3, 1, 0, 0, 0) from rfl)) (x := bv) (List.Mem.tail _ (List.Mem.tail _ (List.Mem.head _))) (w_land X.1 (ax_d X (show cdA 1 83 = some (.land, 1, 0, 0, 0) from rfl)) (z_anyJ (fun j1010 => ?_)))
        refine w_lor X.1 (ax_d X (show cdA 1 84 = some (.lor, 1, 0, 0, 0) from rfl)) (z_anyJ (fun j1011 => ?_))
        refine w_lconst X.1 (ax_d X (show cdA 1 85 = some (.lconst 0, 1, 0, 0, 0) from rfl)) rfl (z_anyJ (fun j1012 => ?_))
        refine w_lcmp X.1 (ax_d X (show cdA 1 86 = some (.lcmp, 1, 0, 0, 0) from rfl)) (z_any (fun y1013 hy1013 => ?_))
        refine z_if_eq X (t := 119) rfl rfl hy1013 (fun g1014 => ?_) (fun g1014 => ?_)
        ·
          refine z_inc X (x := c) (lv' := [(6, .int (Int32.ofInt (c + 1))), (0, .ref (A 103)), (1, .long av), (3, .long bv)]) rfl (by decide) (List.Mem.tail _ (List.Mem.tail _ (List.Mem.tail _ (List.Mem.head _)))) (fun _ h => h) (z_goto X (t := 42) rfl rfl (WS_pq [1, 2, 3, 0] (lv' := [(0, .ref (A 103)), (1, .long av), (3, .long bv), (6, .int (Int32.ofInt (c + 1)))]) rfl ?_))
          exact ih _ av bv (c + 1) I F (by first | exact ⟨oq_54f49eb5 hi.1, oq_4dae995e g1006 b1005.2, oq_03182e9e hi.2.2⟩ | omega) (by first | exact qk_me hm (by decide) (oq_b575e8c1 g1006 b1005.2) | omega) kx
        ·
          refine z_aload_n X (x := A 103) rfl (List.Mem.head _) (s_getR X 103 rfl (c518_ok rfl) rfl rfl (z_aload_n X (x := A 103) rfl (List.Mem.head _) (z_getI X 103 rfl (c518_ok rfl) rfl rfl ?_)))
          have b1015 := bi_49 I
          refine z_load X (x := c) rfl (List.Mem.tail _ (List.Mem.tail _ (List.Mem.tail _ (List.Mem.head _)))) (z_ast X 104 rfl (c518_ok rfl) rfl (by first | exact b1015.1 | omega) (show (iI t 49) < 12 by first | exact oq_79196c7f hi.2.2 g1006 b1005.2 | omega) (cbig_ok rfl) (wd_gen (fun s1016 hs1016 => ?_)))
          have Is1016 : Bd s1016 := eqB hs1016 (bd_C I (show (0 : Int) ≤ c ∧ c ≤ 11 by first | exact ⟨hi.1, oq_e4d7f3c5 g1006 b1005.2⟩ | omega) ⟨by first | exact oq_fa4e5087 hi.1 | omega, by first | exact oq_78843a64 hi.2.1 | omega⟩)
          have Fs1016 := eqF hs1016 (fm_C F (inl_ok (a := 89) rfl))
          have ws1016_49 : iI s1016 49 = iI t 49 := eqI hs1016 rfl
          have ws1016_50 : iI s1016 50 = iI t 50 := eqI hs1016 rfl
          have ws1016_43 : iI s1016 43 = iI t 43 := eqI hs1016 rfl
          have ws1016_44 : iI s1016 44 = iI t 44 := eqI hs1016 rfl
          refine z_aload_n X (x := A 103) rfl (List.Mem.head _) (z_load X (x := c) rfl (List.Mem.tail _ (List.Mem.tail _ (List.Mem.tail _ (List.Mem.head _)))) (w_lload_n X.1 (ax_d X (show cdA 1 104 = some (.lload_n 1, 1, 0, 0, 0) from rfl)) (x := av) (List.Mem.tail _ (List.Mem.head _)) (w_lload_n X.1 (ax_d X (show cdA 1 105 = some (.lload_n 3, 1, 0, 0, 0) from rfl)) (x := bv) (List.Mem.tail _ (List.Mem.tail _ (List.Mem.head _))) (zcV_v0 X E 103 (As := [.int (Int32.ofInt c), .long av, .long bv]) (st := []) rfl rfl rfl rfl (c0_followSteps_103 G Is1016 (by first | exact ⟨hi.1, oq_e4d7f3c5 g1006 b1005.2⟩ | omega) (by first | exact oq_2f168143 ws1016_49 hi.2.2 g1006 b1005.2 | omega)) rfl (Nat.le_of_ble_eq_true rfl) (fun s1017 Is1017 Fs1017 hps1017 => ?_)))))
          have Gs1017 := fm_tq Fs1016 Fs1017 rfl rfl
          have ws1017_49 : iI s1017 49 = iI s1016 49 := fm_iq Fs1017 rfl
          have ws1017_50 : iI s1017 50 = iI s1016 50 := fm_iq Fs1017 rfl
          have ws1017_43 : iI s1017 43 = iI s1016 43 := fm_iq Fs1017 rfl
          have ws1017_44 : iI s1017 44 = iI s1016 44 := fm_iq Fs1017 rfl
          refine z_aload_n X (x := A 103) rfl (List.Mem.head _) (w_dup X.1 (ax_d X (show cdA 1 110 = some (.dup, 1, 0, 0, 0) from rfl)) rfl (z_getI X 103 rfl (c518_ok rfl) rfl rfl ?_))
          have b1019 := bi_49 Is1017
          refine z_const X rfl (z_add X rfl (s_putI X 103 rfl (c518_ok rfl) rfl rfl (by decide) rfl rfl rfl (wd_gen (fun s1020 hs1020 => ?_))))
          have Is1020 : Bd s1020 := eqB hs1020 (bd_I Is1017 (show (0 : Int) ≤ ((iI s1017 49) + 1) ∧ ((iI s1017 49) + 1) ≤ 12 by first | exact ⟨oq_54f49eb5 b1019.1, oq_1fea0193 ws1017_49 ws1016_49 hi.2.2 g1006 b1005.2⟩ | omega) ⟨by first | exact oq_74de1e16 b1019.1 | omega, by first | exact oq_76a8a5b7 b1019.2 | omega⟩)
          have Fs1020 := eqF hs1020 (fm_I Gs1017 (inl_ok (a := 49) rfl))
          have vs1020 : iI s1020 49 = ((iI s1017 49) + 1) := eqI hs1020 (iI_u ⟨by first | exact oq_74de1e16 b1019.1 | omega, by first | exact oq_76a8a5b7 b1019.2 | omega⟩)
          have ws1020_50 : iI s1020 50 = iI s1017 50 := eqI hs1020 rfl
          have ws1020_43 : iI s1020 43 = iI s1017 43 := eqI hs1020 rfl
          have ws1020_44 : iI s1020 44 = iI s1017 44 := eqI hs1020 rfl
          refine z_inc X (x := c) (lv' := [(6, .int (Int32.ofInt (c + 1))), (0, .ref (A 103)), (1, .long av), (3, .long bv)]) rfl (by decide) (List.Mem.tail _ (List.Mem.tail _ (List.Mem.tail _ (List.Mem.head _)))) (fun _ h => h) (z_goto X (t := 42) rfl rfl (WS_pq [1, 2, 3, 0] (lv' := [(0, .ref (A 103)), (1, .long av), (3, .long bv), (6, .int (Int32.ofInt (c + 1)))]) rfl ?_))
          exact ih _ av bv (c + 1) Is1020 Fs1020 (by first | exact ⟨oq_54f49eb5 hi.1, oq_4dae995e g1006 b1005.2, oq_ecb13324 vs1020 hi.2.2 ws1017_49 ws1016_49⟩ | omega) (by first | exact qk_me hm (by decide) (oq_b575e8c1 g1006 b1005.2) | omega) kx
  have L133 : ∀ (n : Nat) (t : PS) (av : Int64) (bv : Int64) (c : Int), Bd t → Fm [49, 50] [96, 89, 90, 91, 92, 93, 94, 95] s t → (0 ≤ c ∧ c ≤ 66 ∧ iI t 50 ≤ c) → (66 - c : Int).toNat < n → (∀ (t' : PS) (c' : Int), Bd t' → Fm [49, 50] [96, 89, 90, 91, 92, 93, 94, 95] s t' → (0 ≤ c' ∧ c' ≤ 66 ∧ iI t' 50 ≤ c') → WS k 260 [(0, .ref (A 103)), (1, .long av), (3, .long bv), (6, .int (Int32.ofInt c'))] [] (Wd A dT t') 0 0) → WS k 133 [(0, .ref (A 103)), (1, .long av), (3, .long bv), (6, .int (Int32.ofInt c))] [] (Wd A dT t) 0 0 := by
    intro n
    induction n with
    | zero =>
      intro t av bv c I F hi hm kx
      exact absurd hm (Nat.not_lt_zero _)
    | succ n ih =>
      intro t av bv c I F hi hm kx
      have b2001 := bi_49 I
      have b2002 := bi_50 I
      have b2003 := bi_43 I
      have b2004 := bi_44 I
      refine z_load X (x := c) rfl (List.Mem.tail _ (List.Mem.tail _ (List.Mem.tail _ (List.Mem.head _)))) (z_aload_n X (x := A 103) rfl (List.Mem.head _) (s_getR X 103 rfl (c518_ok rfl) rfl rfl (z_getI X 68 rfl (c518_ok rfl) rfl rfl ?_)))
      have b2005 := bi_44 I
      refine z_icmp_ge X (t := 260) rfl rfl ⟨by first | exact oq_fa4e5087 hi.1 | omega, by first | exact oq_64f2e926 hi.2.1 | omega⟩ (rng_to _) (fun g2006 => ?_) (fun g2006 => ?_)
      ·
        refine WS_pq [0, 1, 2, 3] (lv' := [(0, .ref (A 103)), (1, .long av), (3, .long bv), (6, .int (Int32.ofInt c))]) rfl ?_
        exact kx _ c I F (by first | exact ⟨hi.1, hi.2.1, hi.2.2⟩ | omega)
      ·
        refine z_aload_n X (x := A 103) rfl (List.Mem.head _) (s_getR X 103 rfl (c518_ok rfl) rfl rfl (s_getR X 68 rfl (c518_ok rfl) rfl rfl (z_load X (x := c) rfl (List.Mem.tail _ (List.Mem.tail _ (List.Mem.tail _ (List.Mem.head _)))) (z_const X rfl (z_mul X rfl (z_lald X 75 rfl (c518_ok rfl) rfl (by first | exact oq_cfc6ac54 hi.1 | omega) (show (c * 2) < 132 by first | exact oq_ff78435a g2006 b2005.2 | omega) (cbig_ok rfl) (fun j2007 => ?_)))))))
        refine w_lload_n X.1 (ax_d X (show cdA 1 157 = some (.lload_n 1, 1, 0, 0, 0) from rfl)) (x := av) (List.Mem.tail _ (List.Mem.head _)) (w_land X.1 (ax_d X (show cdA 1 158 = some (.land, 1, 0, 0, 0) from rfl)) (z_anyJ (fun j2008 => ?_)))
        refine zcS_i0 X E (As := [.long j2008]) (st := []) rfl rfl (j_bitL G I ) rfl (Nat.le_of_ble_eq_true rfl) (fun s2009 e2010 Is2009 Fs2009 hrs2009 hps2009 => ?_)
        have Gs2009 := fm_tq F Fs2009 rfl rfl
        have ws2009_49 : iI s2009 49 = iI t 49 := fm_iq Fs2009 rfl
        have ws2009_50 : iI s2009 50 = iI t 50 := fm_iq Fs2009 rfl
        have ws2009_43 : iI s2009 43 = iI t 43 := fm_iq Fs2009 rfl
        have ws2009_44 : iI s2009 44 = iI t 44 := fm_iq Fs2009 rfl
        refine z_aload_n X (x := A 103) rfl (List.Mem.head _) (s_getR X 103 rfl (c518_ok rfl) rfl rfl (s_getR X 68 rfl (c518_ok rfl) rfl rfl (z_load X (x := c) rfl (List.Mem.tail _ (List.Mem.tail _ (List.Mem.tail _ (List.Mem.head _)))) (z_const X rfl (z_mul X rfl (z_const X rfl (z_add X rfl (z_lald X 75 rfl (c518_ok rfl) rfl (by first | exact oq_8a3e0277 hi.1 | omega) (show ((c * 2) + 1) < 132 by first | exact oq_643e2065 g2006 b2005.2 | omega) (cbig_ok rfl) (fun j2011 => ?_)))))))))
        refine w_lload_n X.1 (ax_d X (show cdA 1 176 = some (.lload_n 3, 1, 0, 0, 0) from rfl)) (x := bv) (List.Mem.tail _ (List.Mem.tail _ (List.Mem.head _))) (w_land X.1 (ax_d X (show cdA 1 177 = some (.land, 1, 0, 0, 0) from rfl)) (z_anyJ (fun j2012 => ?_)))
        refine zcS_i0 X E (As := [.long j2012]) (st := [.int (Int32.ofInt e2010)]) rfl rfl (j_bitL G Is2009 ) rfl (Nat.le_of_ble_eq_true rfl) (fun s2013 e2014 Is2013 Fs2013 hrs2013 hps2013 => ?_)
        have Gs2013 := fm_tq Gs2009 Fs2013 rfl rfl
        have ws2013_49 : iI s2013 49 = iI s2009 49 := fm_iq Fs2013 rfl
        have ws2013_50 : iI s2013 50 = iI s2009 50 := fm_iq Fs2013 rfl
        have ws2013_43 : iI s2013 43 = iI s2009 43 := fm_iq Fs2013 rfl
        have ws2013_44 : iI s2013 44 = iI s2009 44 := fm_iq Fs2013 rfl
        refine z_add X rfl (z_any (fun y2015 hy2015 => ?_))
        refine z_store X (lv' := [(7, .int (Int32.ofInt y2015)), (0, .ref (A 103)), (1, .long av), (3, .long bv), (6, .int (Int32.ofInt c))]) rfl (by decide) (fun _ h => h) (z_load X (x := y2015) rfl (List.Mem.head _) (z_if_le X (t := 254) rfl rfl hy2015 (fun g2016 => ?_) (fun g2016 => ?_)))
        ·
          refine z_inc X (x := c) (lv' := [(6, .int (Int32.ofInt (c + 1))), (7, .int (Int32.ofInt y2015)), (0, .ref (A 103)), (1, .long av), (3, .long bv)]) rfl (by decide) (List.Mem.tail _ (List.Mem.tail _ (List.Mem.tail _ (List.Mem.tail _ (List.Mem.head _))))) (fun _ h => h) (z_goto X (t := 133) rfl rfl (WS_pq [2, 3, 4, 0] (lv' := [(0, .ref (A 103)), (1, .long av), (3, .long bv), (6, .int (Int32.ofInt (c + 1)))]) rfl ?_))
          exact ih _ av bv (c + 1) Is2013 Gs2013 (by first | exact ⟨oq_54f49eb5 hi.1, oq_319a18a4 g2006 b2005.2, oq_2e1f687c ws2013_50 hi.2.2 ws2009_50⟩ | omega) (by first | exact qk_me hm (by decide) (oq_dd0e9829 g2006 b2005.2) | omega) kx
        ·
          refine z_aload_n X (x := A 103) rfl (List.Mem.tail _ (List.Mem.head _)) (s_getR X 103 rfl (c518_ok rfl) rfl rfl (z_aload_n X (x := A 103) rfl (List.Mem.tail _ (List.Mem.head _)) (z_getI X 103 rfl (c518_ok rfl) rfl rfl ?_)))
          have b2017 := bi_50 Is2013
          refine z_aload_n X (x := A 103) rfl (List.Mem.tail _ (List.Mem.head _)) (s_getR X 103 rfl (c518_ok rfl) rfl rfl (s_getR X 68 rfl (c518_ok rfl) rfl rfl (z_load X (x := c) rfl (List.Mem.tail _ (List.Mem.tail _ (List.Mem.tail _ (List.Mem.tail _ (List.Mem.head _))))) (z_ald X 74 rfl (c518_ok rfl) rfl (by first | exact hi.1 | omega) (show c < 66 by first | exact oq_256e4529 g2006 b2005.2 | omega) (cbig_ok rfl) ?_))))
          have b2018 := bc_62 Is2013 (show (c).toNat < 66 by first | exact oq_d7ff7873 g2006 b2005.2 | omega)
          refine z_bipush X rfl (z_quot X rfl (by first | exact b2018.1 | omega) (rng_to _) (by decide) (by decide) (z_ast X 108 rfl (c518_ok rfl) rfl (by first | exact b2017.1 | omega) (show (iI s2013 50) < 66 by first | exact oq_141bb310 ws2013_50 ws2009_50 hi.2.2 g2006 b2005.2 | omega) (cbig_ok rfl) (wd_gen (fun s2019 hs2019 => ?_))))
          have Is2019 : Bd s2019 := eqB hs2019 (bd_C Is2013 (show (0 : Int) ≤ ((iC s2013 62 (c).toNat) / 12) ∧ ((iC s2013 62 (c).toNat) / 12) ≤ 11 by first | exact ⟨oq_37eb78e0 b2018.1, oq_a03fe580 b2018.2⟩ | omega) ⟨by first | exact oq_e17ab641 b2018.1 | omega, by first | exact oq_c285d9d6 b2018.2 | omega⟩)
          have Fs2019 := eqF hs2019 (fm_C Gs2013 (inl_ok (a := 93) rfl))
          have ws2019_49 : iI s2019 49 = iI s2013 49 := eqI hs2019 rfl
          have ws2019_50 : iI s2019 50 = iI s2013 50 := eqI hs2019 rfl
          have ws2019_43 : iI s2019 43 = iI s2013 43 := eqI hs2019 rfl
          have ws2019_44 : iI s2019 44 = iI s2013 44 := eqI hs2019 rfl
          refine z_aload_n X (x := A 103) rfl (List.Mem.tail _ (List.Mem.head _)) (s_getR X 103 rfl (c518_ok rfl) rfl rfl (z_aload_n X (x := A 103) rfl (List.Mem.tail _ (List.Mem.head _)) (z_getI X 103 rfl (c518_ok rfl) rfl rfl ?_)))
          have b2020 := bi_50 Is2019
          refine z_aload_n X (x := A 103) rfl (List.Mem.tail _ (List.Mem.head _)) (s_getR X 103 rfl (c518_ok rfl) rfl rfl (s_getR X 68 rfl (c518_ok rfl) rfl rfl (z_load X (x := c) rfl (List.Mem.tail _ (List.Mem.tail _ (List.Mem.tail _ (List.Mem.tail _ (List.Mem.head _))))) (z_ald X 74 rfl (c518_ok rfl) rfl (by first | exact hi.1 | omega) (show c < 66 by first | exact oq_256e4529 g2006 b2005.2 | omega) (cbig_ok rfl) ?_))))
          have b2021 := bc_62 Is2019 (show (c).toNat < 66 by first | exact oq_d7ff7873 g2006 b2005.2 | omega)
          refine z_bipush X rfl (z_mod X rfl (by first | exact b2021.1 | omega) (rng_to _) (by decide) (by decide) (z_ast X 109 rfl (c518_ok rfl) rfl (by first | exact b2020.1 | omega) (show (iI s2019 50) < 66 by first | exact oq_47fd6e20 ws2019_50 ws2013_50 ws2009_50 g2006 b2005.2 hi.2.2 | omega) (cbig_ok rfl) (wd_gen (fun s2022 hs2022 => ?_))))
          have Is2022 : Bd s2022 := eqB hs2022 (bd_C Is2019 (show (0 : Int) ≤ ((iC s2019 62 (c).toNat) % 12) ∧ ((iC s2019 62 (c).toNat) % 12) ≤ 11 by first | exact ⟨oq_b83041cc, oq_e286272e⟩ | omega) ⟨by first | exact oq_9d26ea27 | omega, by first | exact oq_6634e3d0 | omega⟩)
          have Fs2022 := eqF hs2022 (fm_C Fs2019 (inl_ok (a := 94) rfl))
          have ws2022_49 : iI s2022 49 = iI s2019 49 := eqI hs2022 rfl
          have ws2022_50 : iI s2022 50 = iI s2019 50 := eqI hs2022 rfl
          have ws2022_43 : iI s2022 43 = iI s2019 43 := eqI hs2022 rfl
          have ws2022_44 : iI s2022 44 = iI s2019 44 := eqI hs2022 rfl
          refine z_aload_n X (x := A 103) rfl (List.Mem.tail _ (List.Mem.head _)) (s_getR X 103 rfl (c518_ok rfl) rfl rfl (z_aload_n X (x := A 103) rfl (List.Mem.tail _ (List.Mem.head _)) (z_getI X 103 rfl (c518_ok rfl) rfl rfl ?_)))
          have b2023 := bi_50 Is2022
          refine z_load X (x := y2015) rfl (List.Mem.head _) (z_ast X 110 rfl (c518_ok rfl) rfl (by first | exact b2023.1 | omega) (show (iI s2022 50) < 66 by first | exact oq_3af0036b ws2022_50 ws2019_50 ws2013_50 ws2009_50 g2006 b2005.2 hi.2.2 | omega) (cbig_ok rfl) (wd_gen (fun s2024 hs2024 => ?_)))
          have Is2024 : Bd s2024 := eqB hs2024 (bd_C Is2022 (show ((-2147483648) : Int) ≤ y2015 ∧ y2015 ≤ 2147483647 by first | exact ⟨hy2015.1, hy2015.2⟩ | omega) hy2015)
          have Fs2024 := eqF hs2024 (fm_C Fs2022 (inl_ok (a := 95) rfl))
          have ws2024_49 : iI s2024 49 = iI s2022 49 := eqI hs2024 rfl
          have ws2024_50 : iI s2024 50 = iI s2022 50 := eqI hs2024 rfl
          have ws2024_43 : iI s2024 43 = iI s2022 43 := eqI hs2024 rfl
          have ws2024_44 : iI s2024 44 = iI s2022 44 := eqI hs2024 rfl
          refine z_aload_n X (x := A 103) rfl (List.Mem.tail _ (List.Mem.head _)) (w_dup X.1 (ax_d X (show cdA 1 245 = some (.dup, 1, 0, 0, 0) from rfl)) rfl (z_getI X 103 rfl (c518_ok rfl) rfl rfl ?_))
          have b2025 := bi_50 Is2024
          refine z_const X rfl (z_add X rfl (s_putI X 103 rfl (c518_ok rfl) rfl rfl (by decide) rfl rfl rfl (wd_gen (fun s2026 hs2026 => ?_))))
          have Is2026 : Bd s2026 := eqB hs2026 (bd_I Is2024 (show (0 : Int) ≤ ((iI s2024 50) + 1) ∧ ((iI s2024 50) + 1) ≤ 66 by first | exact ⟨oq_54f49eb5 b2025.1, oq_d0eb7b2e ws2024_50 ws2022_50 ws2019_50 ws2013_50 ws2009_50 g2006 b2005.2 hi.2.2⟩ | omega) ⟨by first | exact oq_74de1e16 b2025.1 | omega, by first | exact oq_d99c2177 b2025.2 | omega⟩)
          have Fs2026 := eqF hs2026 (fm_I Fs2024 (inl_ok (a := 50) rfl))
          have vs2026 : iI s2026 50 = ((iI s2024 50) + 1) := eqI hs2026 (iI_u ⟨by first | exact oq_74de1e16 b2025.1 | omega, by first | exact oq_d99c2177 b2025.2 | omega⟩)
          have ws2026_49 : iI s2026 49 = iI s2024 49 := eqI hs2026 rfl
          have ws2026_43 : iI s2026 43 = iI s2024 43 := eqI hs2026 rfl
          have ws2026_44 : iI s2026 44 = iI s2024 44 := eqI hs2026 rfl
          refine z_inc X (x := c) (lv' := [(6, .int (Int32.ofInt (c + 1))), (7, .int (Int32.ofInt y2015)), (0, .ref (A 103)), (1, .long av), (3, .long bv)]) rfl (by decide) (List.Mem.tail _ (List.Mem.tail _ (List.Mem.tail _ (List.Mem.tail _ (List.Mem.head _))))) (fun _ h => h) (z_goto X (t := 133) rfl rfl (WS_pq [2, 3, 4, 0] (lv' := [(0, .ref (A 103)), (1, .long av), (3, .long bv), (6, .int (Int32.ofInt (c + 1)))]) rfl ?_))
          exact ih _ av bv (c + 1) Is2026 Fs2026 (by first | exact ⟨oq_54f49eb5 hi.1, oq_319a18a4 g2006 b2005.2, oq_6fc60775 vs2026 ws2024_50 ws2022_50 ws2019_50 ws2013_50 ws2009_50 hi.2.2⟩ | omega) (by first | exact qk_me hm (by decide) (oq_dd0e9829 g2006 b2005.2) | omega) kx
  refine z_aload_n X (x := A 103) rfl (List.Mem.head _) (s_getR X 103 rfl (c518_ok rfl) rfl rfl (z_const X rfl (w_lload_n X.1 (ax_d X (show cdA 1 5 = some (.lload_n 1, 1, 0, 0, 0) from rfl)) (x := aj) (List.Mem.tail _ (List.Mem.head _)) (zcS_i0 X E (As := [.long aj]) (st := [.int (Int32.ofInt 4), .ref (A 111)]) rfl rfl (j_bitL G I ) rfl (Nat.le_of_ble_eq_true rfl) (fun s5 e6 Is5 Fs5 hrs5 hps5 => ?_)))))
  have Gs5 := fm_tq F Fs5 rfl rfl
  have ws5_49 : iI s5 49 = iI s 49 := fm_iq Fs5 rfl
  have ws5_50 : iI s5 50 = iI s 50 := fm_iq Fs5 rfl
  have ws5_43 : iI s5 43 = iI s 43 := fm_iq Fs5 rfl
  have ws5_44 : iI s5 44 = iI s 44 := fm_iq Fs5 rfl
  refine w_lload_n X.1 (ax_d X (show cdA 1 9 = some (.lload_n 3, 1, 0, 0, 0) from rfl)) (x := bj) (List.Mem.tail _ (List.Mem.tail _ (List.Mem.head _))) (zcS_i0 X E (As := [.long bj]) (st := [.int (Int32.ofInt e6), .int (Int32.ofInt 4), .ref (A 111)]) rfl rfl (j_bitL G Is5 ) rfl (Nat.le_of_ble_eq_true rfl) (fun s7 e8 Is7 Fs7 hrs7 hps7 => ?_))
  have Gs7 := fm_tq Gs5 Fs7 rfl rfl
  have ws7_49 : iI s7 49 = iI s5 49 := fm_iq Fs7 rfl
  have ws7_50 : iI s7 50 = iI s5 50 := fm_iq Fs7 rfl
  have ws7_43 : iI s7 43 = iI s5 43 := fm_iq Fs7 rfl
  have ws7_44 : iI s7 44 = iI s5 44 := fm_iq Fs7 rfl
  refine z_add X rfl (z_any (fun y9 hy9 => ?_))
  refine z_ast X 111 rfl (c518_ok rfl) rfl (by decide) (show 4 < 7 by decide) (cbig_ok rfl) (wd_gen (fun s10 hs10 => ?_))
  have Is10 : Bd s10 := eqB hs10 (bd_C Is7 (show ((-2147483648) : Int) ≤ y9 ∧ y9 ≤ 2147483647 by first | exact ⟨hy9.1, hy9.2⟩ | omega) hy9)
  have Fs10 := eqF hs10 (fm_C Gs7 (inl_ok (a := 96) rfl))
  have ws10_49 : iI s10 49 = iI s7 49 := eqI hs10 rfl
  have ws10_50 : iI s10 50 = iI s7 50 := eqI hs10 rfl
  have ws10_43 : iI s10 43 = iI s7 43 := eqI hs10 rfl
  have ws10_44 : iI s10 44 = iI s7 44 := eqI hs10 rfl
  refine z_aload_n X (x := A 103) rfl (List.Mem.head _) (s_getR X 103 rfl (c518_ok rfl) rfl rfl (z_const X rfl (w_lload_n X.1 (ax_d X (show cdA 1 20 = some (.lload_n 1, 1, 0, 0, 0) from rfl)) (x := aj) (List.Mem.tail _ (List.Mem.head _)) (zcS_i0 X E (As := [.long aj]) (st := [.int (Int32.ofInt 5), .ref (A 111)]) rfl rfl (j_bitL G Is10 ) rfl (Nat.le_of_ble_eq_true rfl) (fun s11 e12 Is11 Fs11 hrs11 hps11 => ?_)))))
  have Gs11 := fm_tq Fs10 Fs11 rfl rfl
  have ws11_49 : iI s11 49 = iI s10 49 := fm_iq Fs11 rfl
  have ws11_50 : iI s11 50 = iI s10 50 := fm_iq Fs11 rfl
  have ws11_43 : iI s11 43 = iI s10 43 := fm_iq Fs11 rfl
  have ws11_44 : iI s11 44 = iI s10 44 := fm_iq Fs11 rfl
  refine z_ast X 111 rfl (c518_ok rfl) rfl (by decide) (show 5 < 7 by decide) (cbig_ok rfl) (wd_gen (fun s13 hs13 => ?_))
  have Is13 : Bd s13 := eqB hs13 (bd_C Is11 (show ((-2147483648) : Int) ≤ e12 ∧ e12 ≤ 2147483647 by omega) hrs11)
  have Fs13 := eqF hs13 (fm_C Gs11 (inl_ok (a := 96) rfl))
  have ws13_49 : iI s13 49 = iI s11 49 := eqI hs13 rfl
  have ws13_50 : iI s13 50 = iI s11 50 := eqI hs13 rfl
  have ws13_43 : iI s13 43 = iI s11 43 := eqI hs13 rfl
  have ws13_44 : iI s13 44 = iI s11 44 := eqI hs13 rfl
  refine z_aload_n X (x := A 103) rfl (List.Mem.head _) (s_getR X 103 rfl (c518_ok rfl) rfl rfl (z_bipush X rfl (z_load X (x := x) rfl (List.Mem.tail _ (List.Mem.tail _ (List.Mem.tail _ (List.Mem.head _)))) (z_ast X 111 rfl (c518_ok rfl) rfl (by decide) (show 6 < 7 by decide) (cbig_ok rfl) (wd_gen (fun s14 hs14 => ?_))))))
  have Is14 : Bd s14 := eqB hs14 (bd_C Is13 (show ((-2147483648) : Int) ≤ x ∧ x ≤ 2147483647 by first | exact ⟨p0.1, p0.2⟩ | omega) ⟨by first | exact p0.1 | omega, by first | exact p0.2 | omega⟩)
  have Fs14 := eqF hs14 (fm_C Fs13 (inl_ok (a := 96) rfl))
  have ws14_49 : iI s14 49 = iI s13 49 := eqI hs14 rfl
  have ws14_50 : iI s14 50 = iI s13 50 := eqI hs14 rfl
  have ws14_43 : iI s14 43 = iI s13 43 := eqI hs14 rfl
  have ws14_44 : iI s14 44 = iI s13 44 := eqI hs14 rfl
  refine z_aload_n X (x := A 103) rfl (List.Mem.head _) (z_const X rfl (s_putI X 103 rfl (c518_ok rfl) rfl rfl (by decide) rfl rfl rfl (wd_gen (fun s15 hs15 => ?_))))
  have Is15 : Bd s15 := eqB hs15 (bd_I Is14 (show (0 : Int) ≤ 0 ∧ 0 ≤ 12 by first | exact ⟨by decide, by decide⟩ | omega) (by decide))
  have Fs15 := eqF hs15 (fm_I Fs14 (inl_ok (a := 49) rfl))
  have vs15 : iI s15 49 = 0 := eqI hs15 (iI_u (by decide))
  have ws15_50 : iI s15 50 = iI s14 50 := eqI hs15 rfl
  have ws15_43 : iI s15 43 = iI s14 43 := eqI hs15 rfl
  have ws15_44 : iI s15 44 = iI s14 44 := eqI hs15 rfl
  refine z_const X rfl (z_store X (lv' := [(6, .int (Int32.ofInt 0)), (0, .ref (A 103)), (1, .long aj), (3, .long bj), (5, .int (Int32.ofInt x))]) rfl (by decide) (fun _ h => h) (WS_pq [1, 2, 3, 0] (lv' := [(0, .ref (A 103)), (1, .long aj), (3, .long bj), (6, .int (Int32.ofInt 0))]) rfl (L42 ((12 - 0 : Int).toNat + 1) s15 aj bj 0 Is15 Fs15 (by first | exact ⟨by decide, by decide, oq_1af0b4f8 vs15⟩ | omega) (Nat.lt_succ_self _) ?_)))
  intro s16 x17 Is16 Fs16 hs16
  have b18 := bi_49 Is16
  have b19 := bi_50 Is16
  have b20 := bi_43 Is16
  have b21 := bi_44 Is16
  refine z_aload_n X (x := A 103) rfl (List.Mem.head _) (z_const X rfl (s_putI X 103 rfl (c518_ok rfl) rfl rfl (by decide) rfl rfl rfl (wd_gen (fun s22 hs22 => ?_))))
  have Is22 : Bd s22 := eqB hs22 (bd_I Is16 (show (0 : Int) ≤ 0 ∧ 0 ≤ 66 by first | exact ⟨by decide, by decide⟩ | omega) (by decide))
  have Fs22 := eqF hs22 (fm_I Fs16 (inl_ok (a := 50) rfl))
  have vs22 : iI s22 50 = 0 := eqI hs22 (iI_u (by decide))
  have ws22_49 : iI s22 49 = iI s16 49 := eqI hs22 rfl
  have ws22_43 : iI s22 43 = iI s16 43 := eqI hs22 rfl
  have ws22_44 : iI s22 44 = iI s16 44 := eqI hs22 rfl
  refine z_const X rfl (z_store X (lv' := [(6, .int (Int32.ofInt 0)), (0, .ref (A 103)), (1, .long aj), (3, .long bj)]) rfl (by decide) (fun _ h => h) (WS_pq [1, 2, 3, 0] (lv' := [(0, .ref (A 103)), (1, .long aj), (3, .long bj), (6, .int (Int32.ofInt 0))]) rfl (L133 ((66 - 0 : Int).toNat + 1) s22 aj bj 0 Is22 Fs22 (by first | exact ⟨by decide, by decide, oq_1af0b4f8 vs22⟩ | omega) (Nat.lt_succ_self _) ?_)))
  intro s23 x24 Is23 Fs23 hs23
  have b25 := bi_49 Is23
  have b26 := bi_50 Is23
  have b27 := bi_43 Is23
  have b28 := bi_44 Is23
  exact w_vret X.1 q hRt (ax_d X (show cdA 1 260 = some (.return_, 1, 0, 0, 0) from rfl)) (Nat.zero_le _) (Nat.zero_le _) ⟨_, rfl, Is23, Fs23, rfl, trivial⟩
set_option maxRecDepth 4000 in
theorem c0_hear_103 (G : GX l s0 D tys a0 dT) (I : Bd s) {x y : Int} (p0 : 0 ≤ x ∧ x ≤ 23) (p1 : rng y) : CT l s0 D A dT 3 (rmN 3) [.ref (A 103), .int (Int32.ofInt x), .int (Int32.ofInt y)] s (fun o t => Bd t ∧ Fm [] [96] s t ∧ o = .inl none ∧ (True)) := by
  refine ct_ofX G (by decide) (Nat.le_of_ble_eq_true rfl) (fun k X E ET hRt hXt q => ?_)
  show WS k 0 [(0, .ref (A 103)), (1, .int (Int32.ofInt x)), (2, .int (Int32.ofInt y))] [] _ 0 0
  have F : Fm [] [96] s s := fm_rf _ _ s
  have b1 := bi_49 I
  have b2 := bi_50 I
  have L20 : ∀ (n : Nat) (t : PS) (yv ro wa cr ov cl c : Int), Bd t → Fm [] [96] s t → (rng yv ∧ (0 ≤ ro ∧ ro ≤ 276) ∧ rng wa ∧ rng cr ∧ rng ov ∧ rng cl ∧ 0 ≤ c ∧ c ≤ 12) → (12 - c : Int).toNat < n → (∀ (t' : PS) (wa' cr' ov' cl' c' : Int), Bd t' → Fm [] [96] s t' → (rng yv ∧ (0 ≤ ro ∧ ro ≤ 276) ∧ rng wa' ∧ rng cr' ∧ rng ov' ∧ rng cl' ∧ 0 ≤ c' ∧ c' ≤ 12) → WS k 106 [(0, .ref (A 103)), (2, .int (Int32.ofInt yv)), (3, .int (Int32.ofInt ro)), (4, .int (Int32.ofInt wa')), (5, .int (Int32.ofInt cr')), (6, .int (Int32.ofInt ov')), (7, .int (Int32.ofInt cl')), (8, .int (Int32.ofInt c'))] [] (Wd A dT t') 0 0) → WS k 20 [(0, .ref (A 103)), (2, .int (Int32.ofInt yv)), (3, .int (Int32.ofInt ro)), (4, .int (Int32.ofInt wa)), (5, .int (Int32.ofInt cr)), (6, .int (Int32.ofInt ov)), (7, .int (Int32.ofInt cl)), (8, .int (Int32.ofInt c))] [] (Wd A dT t) 0 0 := by
    intro n
    induction n with
    | zero =>
      intro t yv ro wa cr ov cl c I F hi hm kx
      exact absurd hm (Nat.not_lt_zero _)
    | succ n ih =>
      intro t yv ro wa cr ov cl c I F hi hm kx
      have b1001 := bi_49 I
      have b1002 := bi_50 I
      refine z_load X (x := c) rfl (List.Mem.tail _ (List.Mem.tail _ (List.Mem.tail _ (List.Mem.tail _ (List.Mem.tail _ (List.Mem.tail _ (List.Mem.tail _ (List.Mem.head _)))))))) (z_aload_n X (x := A 103) rfl (List.Mem.head _) (z_getI X 103 rfl (c518_ok rfl) rfl rfl ?_))
      have b1003 := bi_49 I
      refine z_icmp_ge X (t := 106) rfl rfl ⟨by first | exact oq_fa4e5087 hi.2.2.2.2.2.2.1 | omega, by first | exact oq_78843a64 hi.2.2.2.2.2.2.2 | omega⟩ (rng_to _) (fun g1004 => ?_) (fun g1004 => ?_)
      ·
        refine WS_pq [0, 1, 2, 3, 4, 5, 6, 7] (lv' := [(0, .ref (A 103)), (2, .int (Int32.ofInt yv)), (3, .int (Int32.ofInt ro)), (4, .int (Int32.ofInt wa)), (5, .int (Int32.ofInt cr)), (6, .int (Int32.ofInt ov)), (7, .int (Int32.ofInt cl)), (8, .int (Int32.ofInt c))]) rfl ?_
        exact kx _ wa cr ov cl c I F (by first | exact ⟨And.intro (hi.1.1) (hi.1.2), And.intro (hi.2.1.1) (hi.2.1.2), And.intro (hi.2.2.1.1) (hi.2.2.1.2), And.intro (hi.2.2.2.1.1) (hi.2.2.2.1.2), And.intro (hi.2.2.2.2.1.1) (hi.2.2.2.2.1.2), And.intro (hi.2.2.2.2.2.1.1) (hi.2.2.2.2.2.1.2), hi.2.2.2.2.2.2.1, hi.2.2.2.2.2.2.2⟩ | omega)
      ·
        refine z_aload_n X (x := A 103) rfl (List.Mem.head _) (s_getR X 103 rfl (c518_ok rfl) rfl rfl (z_load X (x := c) rfl (List.Mem.tail _ (List.Mem.tail _ (List.Mem.tail _ (List.Mem.tail _ (List.Mem.tail _ (List.Mem.tail _ (List.Mem.tail _ (List.Mem.head _)))))))) (z_ald X 104 rfl (c518_ok rfl) rfl (by first | exact hi.2.2.2.2.2.2.1 | omega) (show c < 12 by first | exact oq_f36e82a8 g1004 b1003.2 | omega) (cbig_ok rfl) ?_)))
        have b1005 := bc_89 I (show (c).toNat < 12 by first | exact oq_2dac6850 g1004 b1003.2 | omega)
        refine z_load_n X (x := yv) rfl (List.Mem.tail _ (List.Mem.head _)) ?_
        have N1006 : ∀ e1007 : Int, ((((iC t 89 (c).toNat) ≠ yv) ∧ ((0 : Int) ≤ iC t 89 (c).toNat ∧ iC t 89 (c).toNat ≤ 11) ∧ ((0 : Int) ≤ iC t 67 ((ro + (iC t 89 (c).toNat))).toNat ∧ iC t 67 ((ro + (iC t 89 (c).toNat))).toNat ≤ 50) ∧ e1007 = (iC t 67 ((ro + (iC t 89 (c).toNat))).toNat)) ∨ (((iC t 89 (c).toNat) = yv) ∧ e1007 = 0)) → WS k 61 [(0, .ref (A 103)), (2, .int (Int32.ofInt yv)), (3, .int (Int32.ofInt ro)), (4, .int (Int32.ofInt wa)), (5, .int (Int32.ofInt cr)), (6, .int (Int32.ofInt ov)), (7, .int (Int32.ofInt cl)), (8, .int (Int32.ofInt c))] [.int (Int32.ofInt e1007)] (Wd A dT t) 0 0 := by
          intro e1007 he1007
          refine z_store X (lv' := [(9, .int (Int32.ofInt e1007)), (0, .ref (A 103)), (2, .int (Int32.ofInt yv)), (3, .int (Int32.ofInt ro)), (4, .int (Int32.ofInt wa)), (5, .int (Int32.ofInt cr)), (6, .int (Int32.ofInt ov)), (7, .int (Int32.ofInt cl)), (8, .int (Int32.ofInt c))]) rfl (by decide) (fun _ h => h) (z_load X (x := wa) rfl (List.Mem.tail _ (List.Mem.tail _ (List.Mem.tail _ (List.Mem.tail _ (List.Mem.head _))))) (z_load X (x := e1007) rfl (List.Mem.head _) (z_add X rfl (z_any (fun y1008 hy1008 => ?_)))))
          refine z_store X (lv' := [(4, .int (Int32.ofInt y1008)), (9, .int (Int32.ofInt e1007)), (0, .ref (A 103)), (2, .int (Int32.ofInt yv)), (3, .int (Int32.ofInt ro)), (5, .int (Int32.ofInt cr)), (6, .int (Int32.ofInt ov)), (7, .int (Int32.ofInt cl)), (8, .int (Int32.ofInt c))]) rfl (by decide) (fun _ h => h) (z_load X (x := ov) rfl (List.Mem.tail _ (List.Mem.tail _ (List.Mem.tail _ (List.Mem.tail _ (List.Mem.tail _ (List.Mem.tail _ (List.Mem.head _))))))) (z_load X (x := e1007) rfl (List.Mem.tail _ (List.Mem.head _)) (z_aload_n X (x := A 103) rfl (List.Mem.tail _ (List.Mem.tail _ (List.Mem.head _))) (s_getR X 103 rfl (c518_ok rfl) rfl rfl (z_load X (x := c) rfl (List.Mem.tail _ (List.Mem.tail _ (List.Mem.tail _ (List.Mem.tail _ (List.Mem.tail _ (List.Mem.tail _ (List.Mem.tail _ (List.Mem.tail _ (List.Mem.head _))))))))) (z_ald X 105 rfl (c518_ok rfl) rfl (by first | exact hi.2.2.2.2.2.2.1 | omega) (show c < 12 by first | exact oq_f36e82a8 g1004 b1003.2 | omega) (cbig_ok rfl) ?_))))))
          have b1009 := bc_90 I (show (c).toNat < 12 by first | exact oq_2dac6850 g1004 b1003.2 | omega)
          refine z_mul X rfl (z_any (fun y1010 hy1010 => ?_))
          refine z_add X rfl (z_any (fun y1011 hy1011 => ?_))
          refine z_store X (lv' := [(6, .int (Int32.ofInt y1011)), (4, .int (Int32.ofInt y1008)), (9, .int (Int32.ofInt e1007)), (0, .ref (A 103)), (2, .int (Int32.ofInt yv)), (3, .int (Int32.ofInt ro)), (5, .int (Int32.ofInt cr)), (7, .int (Int32.ofInt cl)), (8, .int (Int32.ofInt c))]) rfl (by decide) (fun _ h => h) (z_load X (x := cl) rfl (List.Mem.tail _ (List.Mem.tail _ (List.Mem.tail _ (List.Mem.tail _ (List.Mem.tail _ (List.Mem.tail _ (List.Mem.tail _ (List.Mem.head _)))))))) (z_load X (x := e1007) rfl (List.Mem.tail _ (List.Mem.tail _ (List.Mem.head _))) (z_aload_n X (x := A 103) rfl (List.Mem.tail _ (List.Mem.tail _ (List.Mem.tail _ (List.Mem.head _)))) (s_getR X 103 rfl (c518_ok rfl) rfl rfl (z_load X (x := c) rfl (List.Mem.tail _ (List.Mem.tail _ (List.Mem.tail _ (List.Mem.tail _ (List.Mem.tail _ (List.Mem.tail _ (List.Mem.tail _ (List.Mem.tail _ (List.Mem.head _))))))))) (z_ald X 107 rfl (c518_ok rfl) rfl (by first | exact hi.2.2.2.2.2.2.1 | omega) (show c < 12 by first | exact oq_f36e82a8 g1004 b1003.2 | omega) (cbig_ok rfl) ?_))))))
          have b1012 := bc_92 I (show (c).toNat < 12 by first | exact oq_2dac6850 g1004 b1003.2 | omega)
          refine z_mul X rfl (z_any (fun y1013 hy1013 => ?_))
          refine z_add X rfl (z_any (fun y1014 hy1014 => ?_))
          refine z_store X (lv' := [(7, .int (Int32.ofInt y1014)), (6, .int (Int32.ofInt y1011)), (4, .int (Int32.ofInt y1008)), (9, .int (Int32.ofInt e1007)), (0, .ref (A 103)), (2, .int (Int32.ofInt yv)), (3, .int (Int32.ofInt ro)), (5, .int (Int32.ofInt cr)), (8, .int (Int32.ofInt c))]) rfl (by decide) (fun _ h => h) (z_inc X (x := c) (lv' := [(8, .int (Int32.ofInt (c + 1))), (7, .int (Int32.ofInt y1014)), (6, .int (Int32.ofInt y1011)), (4, .int (Int32.ofInt y1008)), (9, .int (Int32.ofInt e1007)), (0, .ref (A 103)), (2, .int (Int32.ofInt yv)), (3, .int (Int32.ofInt ro)), (5, .int (Int32.ofInt cr))]) rfl (by decide) (List.Mem.tail _ (List.Mem.tail _ (List.Mem.tail _ (List.Mem.tail _ (List.Mem.tail _ (List.Mem.tail _ (List.Mem.tail _ (List.Mem.tail _ (List.Mem.head _))))))))) (fun _ h => h) (z_goto X (t := 20) rfl rfl (WS_pq [5, 6, 7, 3, 8, 2, 1, 0] (lv' := [(0, .ref (A 103)), (2, .int (Int32.ofInt yv)), (3, .int (Int32.ofInt ro)), (4, .int (Int32.ofInt y1008)), (5, .int (Int32.ofInt cr)), (6, .int (Int32.ofInt y1011)), (7, .int (Int32.ofInt y1014)), (8, .int (Int32.ofInt (c + 1)))]) rfl ?_)))
          exact ih _ yv ro y1008 cr y1011 y1014 (c + 1) I F (by first | exact ⟨And.intro (hi.1.1) (hi.1.2), And.intro (hi.2.1.1) (hi.2.1.2), And.intro (hy1008.1) (hy1008.2), And.intro (hi.2.2.2.1.1) (hi.2.2.2.1.2), And.intro (hy1011.1) (hy1011.2), And.intro (hy1014.1) (hy1014.2), oq_54f49eb5 hi.2.2.2.2.2.2.1, oq_4dae995e g1004 b1003.2⟩ | omega) (by first | exact qk_me hm (by decide) (oq_b575e8c1 g1004 b1003.2) | omega) kx
        refine z_icmp_ne X (t := 44) rfl rfl (rng_to _) ⟨by first | exact hi.1.1 | omega, by first | exact hi.1.2 | omega⟩ (fun g1015 => ?_) (fun g1015 => ?_)
        ·
          refine z_aload_n X (x := A 103) rfl (List.Mem.head _) (s_getR X 103 rfl (c518_ok rfl) rfl rfl (s_getR X 68 rfl (c518_ok rfl) rfl rfl (z_load_n X (x := ro) rfl (List.Mem.tail _ (List.Mem.tail _ (List.Mem.head _))) (z_aload_n X (x := A 103) rfl (List.Mem.head _) (s_getR X 103 rfl (c518_ok rfl) rfl rfl (z_load X (x := c) rfl (List.Mem.tail _ (List.Mem.tail _ (List.Mem.tail _ (List.Mem.tail _ (List.Mem.tail _ (List.Mem.tail _ (List.Mem.tail _ (List.Mem.head _)))))))) (z_ald X 104 rfl (c518_ok rfl) rfl (by first | exact hi.2.2.2.2.2.2.1 | omega) (show c < 12 by first | exact oq_f36e82a8 g1004 b1003.2 | omega) (cbig_ok rfl) ?_)))))))
          have b1016 := bc_89 I (show (c).toNat < 12 by first | exact oq_2dac6850 g1004 b1003.2 | omega)
          refine z_add X rfl (z_ald X 79 rfl (c518_ok rfl) rfl (by first | exact oq_dd29f52d hi.2.1.1 b1016.1 | omega) (show (ro + (iC t 89 (c).toNat)) < 288 by first | exact oq_f94a0088 hi.2.1.2 b1016.2 | omega) (cbig_ok rfl) ?_)
          have b1017 := bc_67 I (show ((ro + (iC t 89 (c).toNat))).toNat < 288 by first | exact oq_3d7ae1dd hi.2.1.2 b1016.2 | omega)
          exact N1006 _ (Or.inl ⟨g1015, b1016, b1017, rfl⟩)
        ·
          exact z_const X rfl (z_goto X (t := 61) rfl rfl (N1006 _ (Or.inr (⟨g1015, rfl⟩))))
  have L109 : ∀ (n : Nat) (t : PS) (yv ro wa cr ov cl c : Int), Bd t → Fm [] [96] s t → (rng yv ∧ (0 ≤ ro ∧ ro ≤ 276) ∧ rng wa ∧ rng cr ∧ rng ov ∧ rng cl ∧ 0 ≤ c ∧ c ≤ 66) → (66 - c : Int).toNat < n → (∀ (t' : PS) (cr' c' : Int), Bd t' → Fm [] [96] s t' → (rng yv ∧ (0 ≤ ro ∧ ro ≤ 276) ∧ rng wa ∧ rng cr' ∧ rng ov ∧ rng cl ∧ 0 ≤ c' ∧ c' ≤ 66) → WS k 196 [(0, .ref (A 103)), (2, .int (Int32.ofInt yv)), (3, .int (Int32.ofInt ro)), (4, .int (Int32.ofInt wa)), (5, .int (Int32.ofInt cr')), (6, .int (Int32.ofInt ov)), (7, .int (Int32.ofInt cl)), (8, .int (Int32.ofInt c'))] [] (Wd A dT t') 0 0) → WS k 109 [(0, .ref (A 103)), (2, .int (Int32.ofInt yv)), (3, .int (Int32.ofInt ro)), (4, .int (Int32.ofInt wa)), (5, .int (Int32.ofInt cr)), (6, .int (Int32.ofInt ov)), (7, .int (Int32.ofInt cl)), (8, .int (Int32.ofInt c))] [] (Wd A dT t) 0 0 := by
    intro n
    induction n with
    | zero =>
      intro t yv ro wa cr ov cl c I F hi hm kx
      exact absurd hm (Nat.not_lt_zero _)
    | succ n ih =>
      intro t yv ro wa cr ov cl c I F hi hm kx
      have b2001 := bi_49 I
      have b2002 := bi_50 I
      refine z_load X (x := c) rfl (List.Mem.tail _ (List.Mem.tail _ (List.Mem.tail _ (List.Mem.tail _ (List.Mem.tail _ (List.Mem.tail _ (List.Mem.tail _ (List.Mem.head _)))))))) (z_aload_n X (x := A 103) rfl (List.Mem.head _) (z_getI X 103 rfl (c518_ok rfl) rfl rfl ?_))
      have b2003 := bi_50 I
      refine z_icmp_ge X (t := 196) rfl rfl ⟨by first | exact oq_fa4e5087 hi.2.2.2.2.2.2.1 | omega, by first | exact oq_64f2e926 hi.2.2.2.2.2.2.2 | omega⟩ (rng_to _) (fun g2004 => ?_) (fun g2004 => ?_)
      ·
        refine WS_pq [0, 1, 2, 3, 4, 5, 6, 7] (lv' := [(0, .ref (A 103)), (2, .int (Int32.ofInt yv)), (3, .int (Int32.ofInt ro)), (4, .int (Int32.ofInt wa)), (5, .int (Int32.ofInt cr)), (6, .int (Int32.ofInt ov)), (7, .int (Int32.ofInt cl)), (8, .int (Int32.ofInt c))]) rfl ?_
        exact kx _ cr c I F (by first | exact ⟨And.intro (hi.1.1) (hi.1.2), And.intro (hi.2.1.1) (hi.2.1.2), And.intro (hi.2.2.1.1) (hi.2.2.1.2), And.intro (hi.2.2.2.1.1) (hi.2.2.2.1.2), And.intro (hi.2.2.2.2.1.1) (hi.2.2.2.2.1.2), And.intro (hi.2.2.2.2.2.1.1) (hi.2.2.2.2.2.1.2), hi.2.2.2.2.2.2.1, hi.2.2.2.2.2.2.2⟩ | omega)
      ·
        refine z_aload_n X (x := A 103) rfl (List.Mem.head _) (s_getR X 103 rfl (c518_ok rfl) rfl rfl (z_load X (x := c) rfl (List.Mem.tail _ (List.Mem.tail _ (List.Mem.tail _ (List.Mem.tail _ (List.Mem.tail _ (List.Mem.tail _ (List.Mem.tail _ (List.Mem.head _)))))))) (z_ald X 108 rfl (c518_ok rfl) rfl (by first | exact hi.2.2.2.2.2.2.1 | omega) (show c < 66 by first | exact oq_256e4529 g2004 b2003.2 | omega) (cbig_ok rfl) ?_)))
        have b2005 := bc_93 I (show (c).toNat < 66 by first | exact oq_d7ff7873 g2004 b2003.2 | omega)
        refine z_load_n X (x := yv) rfl (List.Mem.tail _ (List.Mem.head _)) (z_icmp_eq X (t := 190) rfl rfl (rng_to _) ⟨by first | exact hi.1.1 | omega, by first | exact hi.1.2 | omega⟩ (fun g2006 => ?_) (fun g2006 => ?_))
        ·
          refine z_inc X (x := c) (lv' := [(8, .int (Int32.ofInt (c + 1))), (0, .ref (A 103)), (2, .int (Int32.ofInt yv)), (3, .int (Int32.ofInt ro)), (4, .int (Int32.ofInt wa)), (5, .int (Int32.ofInt cr)), (6, .int (Int32.ofInt ov)), (7, .int (Int32.ofInt cl))]) rfl (by decide) (List.Mem.tail _ (List.Mem.tail _ (List.Mem.tail _ (List.Mem.tail _ (List.Mem.tail _ (List.Mem.tail _ (List.Mem.tail _ (List.Mem.head _)))))))) (fun _ h => h) (z_goto X (t := 109) rfl rfl (WS_pq [1, 2, 3, 4, 5, 6, 7, 0] (lv' := [(0, .ref (A 103)), (2, .int (Int32.ofInt yv)), (3, .int (Int32.ofInt ro)), (4, .int (Int32.ofInt wa)), (5, .int (Int32.ofInt cr)), (6, .int (Int32.ofInt ov)), (7, .int (Int32.ofInt cl)), (8, .int (Int32.ofInt (c + 1)))]) rfl ?_))
          exact ih _ yv ro wa cr ov cl (c + 1) I F (by first | exact ⟨And.intro (hi.1.1) (hi.1.2), And.intro (hi.2.1.1) (hi.2.1.2), And.intro (hi.2.2.1.1) (hi.2.2.1.2), And.intro (hi.2.2.2.1.1) (hi.2.2.2.1.2), And.intro (hi.2.2.2.2.1.1) (hi.2.2.2.2.1.2), And.intro (hi.2.2.2.2.2.1.1) (hi.2.2.2.2.2.1.2), oq_54f49eb5 hi.2.2.2.2.2.2.1, oq_319a18a4 g2004 b2003.2⟩ | omega) (by first | exact qk_me hm (by decide) (oq_dd0e9829 g2004 b2003.2) | omega) kx
        ·
          refine z_aload_n X (x := A 103) rfl (List.Mem.head _) (s_getR X 103 rfl (c518_ok rfl) rfl rfl (z_load X (x := c) rfl (List.Mem.tail _ (List.Mem.tail _ (List.Mem.tail _ (List.Mem.tail _ (List.Mem.tail _ (List.Mem.tail _ (List.Mem.tail _ (List.Mem.head _)))))))) (z_ald X 109 rfl (c518_ok rfl) rfl (by first | exact hi.2.2.2.2.2.2.1 | omega) (show c < 66 by first | exact oq_256e4529 g2004 b2003.2 | omega) (cbig_ok rfl) ?_)))
          have b2007 := bc_94 I (show (c).toNat < 66 by first | exact oq_d7ff7873 g2004 b2003.2 | omega)
          refine z_load_n X (x := yv) rfl (List.Mem.tail _ (List.Mem.head _)) (z_icmp_eq X (t := 190) rfl rfl (rng_to _) ⟨by first | exact hi.1.1 | omega, by first | exact hi.1.2 | omega⟩ (fun g2008 => ?_) (fun g2008 => ?_))
          ·
            refine z_inc X (x := c) (lv' := [(8, .int (Int32.ofInt (c + 1))), (0, .ref (A 103)), (2, .int (Int32.ofInt yv)), (3, .int (Int32.ofInt ro)), (4, .int (Int32.ofInt wa)), (5, .int (Int32.ofInt cr)), (6, .int (Int32.ofInt ov)), (7, .int (Int32.ofInt cl))]) rfl (by decide) (List.Mem.tail _ (List.Mem.tail _ (List.Mem.tail _ (List.Mem.tail _ (List.Mem.tail _ (List.Mem.tail _ (List.Mem.tail _ (List.Mem.head _)))))))) (fun _ h => h) (z_goto X (t := 109) rfl rfl (WS_pq [1, 2, 3, 4, 5, 6, 7, 0] (lv' := [(0, .ref (A 103)), (2, .int (Int32.ofInt yv)), (3, .int (Int32.ofInt ro)), (4, .int (Int32.ofInt wa)), (5, .int (Int32.ofInt cr)), (6, .int (Int32.ofInt ov)), (7, .int (Int32.ofInt cl)), (8, .int (Int32.ofInt (c + 1)))]) rfl ?_))
            exact ih _ yv ro wa cr ov cl (c + 1) I F (by first | exact ⟨And.intro (hi.1.1) (hi.1.2), And.intro (hi.2.1.1) (hi.2.1.2), And.intro (hi.2.2.1.1) (hi.2.2.1.2), And.intro (hi.2.2.2.1.1) (hi.2.2.2.1.2), And.intro (hi.2.2.2.2.1.1) (hi.2.2.2.2.1.2), And.intro (hi.2.2.2.2.2.1.1) (hi.2.2.2.2.2.1.2), oq_54f49eb5 hi.2.2.2.2.2.2.1, oq_319a18a4 g2004 b2003.2⟩ | omega) (by first | exact qk_me hm (by decide) (oq_dd0e9829 g2004 b2003.2) | omega) kx
          ·
            refine z_load X (x := cr) rfl (List.Mem.tail _ (List.Mem.tail _ (List.Mem.tail _ (List.Mem.tail _ (List.Mem.head _))))) (z_aload_n X (x := A 103) rfl (List.Mem.head _) (s_getR X 103 rfl (c518_ok rfl) rfl rfl (z_load X (x := c) rfl (List.Mem.tail _ (List.Mem.tail _ (List.Mem.tail _ (List.Mem.tail _ (List.Mem.tail _ (List.Mem.tail _ (List.Mem.tail _ (List.Mem.head _)))))))) (z_ald X 110 rfl (c518_ok rfl) rfl (by first | exact hi.2.2.2.2.2.2.1 | omega) (show c < 66 by first | exact oq_256e4529 g2004 b2003.2 | omega) (cbig_ok rfl) ?_))))
            have b2009 := bc_95 I (show (c).toNat < 66 by first | exact oq_d7ff7873 g2004 b2003.2 | omega)
            refine z_aload_n X (x := A 103) rfl (List.Mem.head _) (s_getR X 103 rfl (c518_ok rfl) rfl rfl (s_getR X 68 rfl (c518_ok rfl) rfl rfl (z_load_n X (x := ro) rfl (List.Mem.tail _ (List.Mem.tail _ (List.Mem.head _))) (z_aload_n X (x := A 103) rfl (List.Mem.head _) (s_getR X 103 rfl (c518_ok rfl) rfl rfl (z_load X (x := c) rfl (List.Mem.tail _ (List.Mem.tail _ (List.Mem.tail _ (List.Mem.tail _ (List.Mem.tail _ (List.Mem.tail _ (List.Mem.tail _ (List.Mem.head _)))))))) (z_ald X 108 rfl (c518_ok rfl) rfl (by first | exact hi.2.2.2.2.2.2.1 | omega) (show c < 66 by first | exact oq_256e4529 g2004 b2003.2 | omega) (cbig_ok rfl) ?_)))))))
            have b2010 := bc_93 I (show (c).toNat < 66 by first | exact oq_d7ff7873 g2004 b2003.2 | omega)
            refine z_add X rfl (z_ald X 79 rfl (c518_ok rfl) rfl (by first | exact oq_dd29f52d hi.2.1.1 b2010.1 | omega) (show (ro + (iC t 93 (c).toNat)) < 288 by first | exact oq_f94a0088 hi.2.1.2 b2010.2 | omega) (cbig_ok rfl) ?_)
            have b2011 := bc_67 I (show ((ro + (iC t 93 (c).toNat))).toNat < 288 by first | exact oq_3d7ae1dd hi.2.1.2 b2010.2 | omega)
            refine z_aload_n X (x := A 103) rfl (List.Mem.head _) (s_getR X 103 rfl (c518_ok rfl) rfl rfl (s_getR X 68 rfl (c518_ok rfl) rfl rfl (z_load_n X (x := ro) rfl (List.Mem.tail _ (List.Mem.tail _ (List.Mem.head _))) (z_aload_n X (x := A 103) rfl (List.Mem.head _) (s_getR X 103 rfl (c518_ok rfl) rfl rfl (z_load X (x := c) rfl (List.Mem.tail _ (List.Mem.tail _ (List.Mem.tail _ (List.Mem.tail _ (List.Mem.tail _ (List.Mem.tail _ (List.Mem.tail _ (List.Mem.head _)))))))) (z_ald X 109 rfl (c518_ok rfl) rfl (by first | exact hi.2.2.2.2.2.2.1 | omega) (show c < 66 by first | exact oq_256e4529 g2004 b2003.2 | omega) (cbig_ok rfl) ?_)))))))
            have b2012 := bc_94 I (show (c).toNat < 66 by first | exact oq_d7ff7873 g2004 b2003.2 | omega)
            refine z_add X rfl (z_ald X 79 rfl (c518_ok rfl) rfl (by first | exact oq_dd29f52d hi.2.1.1 b2012.1 | omega) (show (ro + (iC t 94 (c).toNat)) < 288 by first | exact oq_f94a0088 hi.2.1.2 b2012.2 | omega) (cbig_ok rfl) ?_)
            have b2013 := bc_67 I (show ((ro + (iC t 94 (c).toNat))).toNat < 288 by first | exact oq_3d7ae1dd hi.2.1.2 b2012.2 | omega)
            refine z_min X rfl (rng_to _) (rng_to _) (by rw [E.2.2.2]; decide) (by rw [E.2.2.2]; exact Nat.le_of_ble_eq_true rfl) (Nat.zero_le _) (Nat.zero_le _) (fun e2014 he2014 => ?_)
            refine z_mul X rfl (z_any (fun y2015 hy2015 => ?_))
            refine z_add X rfl (z_any (fun y2016 hy2016 => ?_))
            refine z_store X (lv' := [(5, .int (Int32.ofInt y2016)), (0, .ref (A 103)), (2, .int (Int32.ofInt yv)), (3, .int (Int32.ofInt ro)), (4, .int (Int32.ofInt wa)), (6, .int (Int32.ofInt ov)), (7, .int (Int32.ofInt cl)), (8, .int (Int32.ofInt c))]) rfl (by decide) (fun _ h => h) (z_inc X (x := c) (lv' := [(8, .int (Int32.ofInt (c + 1))), (5, .int (Int32.ofInt y2016)), (0, .ref (A 103)), (2, .int (Int32.ofInt yv)), (3, .int (Int32.ofInt ro)), (4, .int (Int32.ofInt wa)), (6, .int (Int32.ofInt ov)), (7, .int (Int32.ofInt cl))]) rfl (by decide) (List.Mem.tail _ (List.Mem.tail _ (List.Mem.tail _ (List.Mem.tail _ (List.Mem.tail _ (List.Mem.tail _ (List.Mem.tail _ (List.Mem.head _)))))))) (fun _ h => h) (z_goto X (t := 109) rfl rfl (WS_pq [2, 3, 4, 5, 1, 6, 7, 0] (lv' := [(0, .ref (A 103)), (2, .int (Int32.ofInt yv)), (3, .int (Int32.ofInt ro)), (4, .int (Int32.ofInt wa)), (5, .int (Int32.ofInt y2016)), (6, .int (Int32.ofInt ov)), (7, .int (Int32.ofInt cl)), (8, .int (Int32.ofInt (c + 1)))]) rfl ?_)))
            exact ih _ yv ro wa y2016 ov cl (c + 1) I F (by first | exact ⟨And.intro (hi.1.1) (hi.1.2), And.intro (hi.2.1.1) (hi.2.1.2), And.intro (hi.2.2.1.1) (hi.2.2.1.2), And.intro (hy2016.1) (hy2016.2), And.intro (hi.2.2.2.2.1.1) (hi.2.2.2.2.1.2), And.intro (hi.2.2.2.2.2.1.1) (hi.2.2.2.2.2.1.2), oq_54f49eb5 hi.2.2.2.2.2.2.1, oq_319a18a4 g2004 b2003.2⟩ | omega) (by first | exact qk_me hm (by decide) (oq_dd0e9829 g2004 b2003.2) | omega) kx
  refine z_load_n X (x := x) rfl (List.Mem.tail _ (List.Mem.head _)) (z_bipush X rfl (z_mul X rfl (z_store_n X (lv' := [(3, .int (Int32.ofInt (x * 12))), (0, .ref (A 103)), (1, .int (Int32.ofInt x)), (2, .int (Int32.ofInt y))]) rfl (by decide) (fun _ h => h) (z_const X rfl (z_store X (lv' := [(4, .int (Int32.ofInt 0)), (3, .int (Int32.ofInt (x * 12))), (0, .ref (A 103)), (1, .int (Int32.ofInt x)), (2, .int (Int32.ofInt y))]) rfl (by decide) (fun _ h => h) (z_const X rfl (z_store X (lv' := [(5, .int (Int32.ofInt 0)), (4, .int (Int32.ofInt 0)), (3, .int (Int32.ofInt (x * 12))), (0, .ref (A 103)), (1, .int (Int32.ofInt x)), (2, .int (Int32.ofInt y))]) rfl (by decide) (fun _ h => h) (z_const X rfl (z_store X (lv' := [(6, .int (Int32.ofInt 0)), (5, .int (Int32.ofInt 0)), (4, .int (Int32.ofInt 0)), (3, .int (Int32.ofInt (x * 12))), (0, .ref (A 103)), (1, .int (Int32.ofInt x)), (2, .int (Int32.ofInt y))]) rfl (by decide) (fun _ h => h) (z_const X rfl (z_store X (lv' := [(7, .int (Int32.ofInt 0)), (6, .int (Int32.ofInt 0)), (5, .int (Int32.ofInt 0)), (4, .int (Int32.ofInt 0)), (3, .int (Int32.ofInt (x * 12))), (0, .ref (A 103)), (1, .int (Int32.ofInt x)), (2, .int (Int32.ofInt y))]) rfl (by decide) (fun _ h => h) ?_)))))))))))
  refine z_const X rfl (z_store X (lv' := [(8, .int (Int32.ofInt 0)), (7, .int (Int32.ofInt 0)), (6, .int (Int32.ofInt 0)), (5, .int (Int32.ofInt 0)), (4, .int (Int32.ofInt 0)), (3, .int (Int32.ofInt (x * 12))), (0, .ref (A 103)), (1, .int (Int32.ofInt x)), (2, .int (Int32.ofInt y))]) rfl (by decide) (fun _ h => h) (WS_pq [6, 8, 5, 4, 3, 2, 1, 0] (lv' := [(0, .ref (A 103)), (2, .int (Int32.ofInt y)), (3, .int (Int32.ofInt (x * 12))), (4, .int (Int32.ofInt 0)), (5, .int (Int32.ofInt 0)), (6, .int (Int32.ofInt 0)), (7, .int (Int32.ofInt 0)), (8, .int (Int32.ofInt 0))]) rfl (L20 ((12 - 0 : Int).toNat + 1) s y (x * 12) 0 0 0 0 0 I F (by first | exact ⟨And.intro (p1.1) (p1.2), And.intro (oq_6b8c39bb p0.1) (oq_70eefe4f p0.2), And.intro (by decide) (by decide), And.intro (by decide) (by decide), And.intro (by decide) (by decide), And.intro (by decide) (by decide), by decide, by decide⟩ | omega) (Nat.lt_succ_self _) ?_)))
  intro s3 x4 x5 x6 x7 x8 Is3 Fs3 hs3
  have b9 := bi_49 Is3
  have b10 := bi_50 Is3
  refine z_const X rfl (z_store X (lv' := [(8, .int (Int32.ofInt 0)), (0, .ref (A 103)), (2, .int (Int32.ofInt y)), (3, .int (Int32.ofInt (x * 12))), (4, .int (Int32.ofInt x4)), (5, .int (Int32.ofInt x5)), (6, .int (Int32.ofInt x6)), (7, .int (Int32.ofInt x7))]) rfl (by decide) (fun _ h => h) (WS_pq [1, 2, 3, 4, 5, 6, 7, 0] (lv' := [(0, .ref (A 103)), (2, .int (Int32.ofInt y)), (3, .int (Int32.ofInt (x * 12))), (4, .int (Int32.ofInt x4)), (5, .int (Int32.ofInt x5)), (6, .int (Int32.ofInt x6)), (7, .int (Int32.ofInt x7)), (8, .int (Int32.ofInt 0))]) rfl (L109 ((66 - 0 : Int).toNat + 1) s3 y (x * 12) x4 x5 x6 x7 0 Is3 Fs3 (by first | exact ⟨And.intro (hs3.1.1) (hs3.1.2), And.intro (hs3.2.1.1) (hs3.2.1.2), And.intro (hs3.2.2.1.1) (hs3.2.2.1.2), And.intro (hs3.2.2.2.1.1) (hs3.2.2.2.1.2), And.intro (hs3.2.2.2.2.1.1) (hs3.2.2.2.2.1.2), And.intro (hs3.2.2.2.2.2.1.1) (hs3.2.2.2.2.2.1.2), by decide, by decide⟩ | omega) (Nat.lt_succ_self _) ?_)))
  intro s11 x12 x13 Is11 Fs11 hs11
  have b14 := bi_49 Is11
  have b15 := bi_50 Is11
  refine z_aload_n X (x := A 103) rfl (List.Mem.head _) (s_getR X 103 rfl (c518_ok rfl) rfl rfl (z_const X rfl (z_load X (x := x4) rfl (List.Mem.tail _ (List.Mem.tail _ (List.Mem.tail _ (List.Mem.head _)))) (z_ast X 111 rfl (c518_ok rfl) rfl (by decide) (show 0 < 7 by decide) (cbig_ok rfl) (wd_gen (fun s16 hs16 => ?_))))))
  have Is16 : Bd s16 := eqB hs16 (bd_C Is11 (show ((-2147483648) : Int) ≤ x4 ∧ x4 ≤ 2147483647 by first | exact ⟨hs11.2.2.1.1, hs11.2.2.1.2⟩ | omega) ⟨by first | exact hs11.2.2.1.1 | omega, by first | exact hs11.2.2.1.2 | omega⟩)
  have Fs16 := eqF hs16 (fm_C Fs11 (inl_ok (a := 96) rfl))
  have ws16_49 : iI s16 49 = iI s11 49 := eqI hs16 rfl
  have ws16_50 : iI s16 50 = iI s11 50 := eqI hs16 rfl
  refine z_aload_n X (x := A 103) rfl (List.Mem.head _) (s_getR X 103 rfl (c518_ok rfl) rfl rfl (z_const X rfl (z_load X (x := x12) rfl (List.Mem.tail _ (List.Mem.tail _ (List.Mem.tail _ (List.Mem.tail _ (List.Mem.head _))))) (z_ast X 111 rfl (c518_ok rfl) rfl (by decide) (show 1 < 7 by decide) (cbig_ok rfl) (wd_gen (fun s17 hs17 => ?_))))))
  have Is17 : Bd s17 := eqB hs17 (bd_C Is16 (show ((-2147483648) : Int) ≤ x12 ∧ x12 ≤ 2147483647 by first | exact ⟨hs11.2.2.2.1.1, hs11.2.2.2.1.2⟩ | omega) ⟨by first | exact hs11.2.2.2.1.1 | omega, by first | exact hs11.2.2.2.1.2 | omega⟩)
  have Fs17 := eqF hs17 (fm_C Fs16 (inl_ok (a := 96) rfl))
  have ws17_49 : iI s17 49 = iI s16 49 := eqI hs17 rfl
  have ws17_50 : iI s17 50 = iI s16 50 := eqI hs17 rfl
  refine z_aload_n X (x := A 103) rfl (List.Mem.head _) (s_getR X 103 rfl (c518_ok rfl) rfl rfl (z_const X rfl (z_load X (x := x6) rfl (List.Mem.tail _ (List.Mem.tail _ (List.Mem.tail _ (List.Mem.tail _ (List.Mem.tail _ (List.Mem.head _)))))) (z_ast X 111 rfl (c518_ok rfl) rfl (by decide) (show 2 < 7 by decide) (cbig_ok rfl) (wd_gen (fun s18 hs18 => ?_))))))
  have Is18 : Bd s18 := eqB hs18 (bd_C Is17 (show ((-2147483648) : Int) ≤ x6 ∧ x6 ≤ 2147483647 by first | exact ⟨hs11.2.2.2.2.1.1, hs11.2.2.2.2.1.2⟩ | omega) ⟨by first | exact hs11.2.2.2.2.1.1 | omega, by first | exact hs11.2.2.2.2.1.2 | omega⟩)
  have Fs18 := eqF hs18 (fm_C Fs17 (inl_ok (a := 96) rfl))
  have ws18_49 : iI s18 49 = iI s17 49 := eqI hs18 rfl
  have ws18_50 : iI s18 50 = iI s17 50 := eqI hs18 rfl
  refine z_aload_n X (x := A 103) rfl (List.Mem.head _) (s_getR X 103 rfl (c518_ok rfl) rfl rfl (z_const X rfl (z_load X (x := x7) rfl (List.Mem.tail _ (List.Mem.tail _ (List.Mem.tail _ (List.Mem.tail _ (List.Mem.tail _ (List.Mem.tail _ (List.Mem.head _))))))) (z_ast X 111 rfl (c518_ok rfl) rfl (by decide) (show 3 < 7 by decide) (cbig_ok rfl) (wd_gen (fun s19 hs19 => ?_))))))
  have Is19 : Bd s19 := eqB hs19 (bd_C Is18 (show ((-2147483648) : Int) ≤ x7 ∧ x7 ≤ 2147483647 by first | exact ⟨hs11.2.2.2.2.2.1.1, hs11.2.2.2.2.2.1.2⟩ | omega) ⟨by first | exact hs11.2.2.2.2.2.1.1 | omega, by first | exact hs11.2.2.2.2.2.1.2 | omega⟩)
  have Fs19 := eqF hs19 (fm_C Fs18 (inl_ok (a := 96) rfl))
  have ws19_49 : iI s19 49 = iI s18 49 := eqI hs19 rfl
  have ws19_50 : iI s19 50 = iI s18 50 := eqI hs19 rfl
  exact w_vret X.1 q hRt (ax_d X (show cdA 3 228 = some (.return_, 1, 0, 0, 0) from rfl)) (Nat.zero_le _) (Nat.zero_le _) ⟨_, rfl, Is19, Fs19, rfl, trivial⟩
set_option maxRecDepth 4000 in
theorem c7_work_103 (G : GX l s0 D tys a0 dT) (I : Bd s) {x : Int} (p0 : -1 ≤ x ∧ x ≤ 7) : CT l s0 D A dT 84 (rmN 84) [.ref (A 19), .int (Int32.ofInt x), .ref (A 111)] s (fun o t => Bd t ∧ Fm [] [20] s t ∧ ∃ e, o = .inl (some (.int (Int32.ofInt e))) ∧ rng e ∧ (True)) := by
  refine ct_ofX G (by decide) (Nat.le_of_ble_eq_true rfl) (fun k X E ET hRt hXt q => ?_)
  show WS k 0 [(0, .ref (A 19)), (1, .int (Int32.ofInt x)), (2, .ref (A 111))] [] _ 0 0
  have F : Fm [] [20] s s := fm_rf _ _ s
  have L28 : ∀ (n : Nat) (t : PS) (xv dp c : Int), Bd t → Fm [] [20] s t → ((0 ≤ xv ∧ xv ≤ 7) ∧ (0 ≤ dp ∧ dp ≤ 200) ∧ 0 ≤ c ∧ c ≤ 200) → (200 - c : Int).toNat < n → (∀ (t' : PS) (dp' c' : Int), Bd t' → Fm [] [20] s t' → ((0 ≤ xv ∧ xv ≤ 7) ∧ (0 ≤ dp' ∧ dp' ≤ 200) ∧ 0 ≤ c' ∧ c' ≤ 200) → WS k 163 [(0, .ref (A 19)), (2, .ref (A 111)), (1, .int (Int32.ofInt xv)), (3, .int (Int32.ofInt dp')), (4, .int (Int32.ofInt c'))] [] (Wd A dT t') 0 0) → WS k 28 [(0, .ref (A 19)), (2, .ref (A 111)), (1, .int (Int32.ofInt xv)), (3, .int (Int32.ofInt dp)), (4, .int (Int32.ofInt c))] [] (Wd A dT t) 0 0 := by
    intro n
    induction n with
    | zero =>
      intro t xv dp c I F hi hm kx
      exact absurd hm (Nat.not_lt_zero _)
    | succ n ih =>
      intro t xv dp c I F hi hm kx
      refine z_load X (x := c) rfl (List.Mem.tail _ (List.Mem.tail _ (List.Mem.tail _ (List.Mem.tail _ (List.Mem.head _))))) (z_aload_n X (x := A 19) rfl (List.Mem.head _) (s_getR X 19 rfl (c518_ok rfl) rfl rfl (z_load_n X (x := xv) rfl (List.Mem.tail _ (List.Mem.tail _ (List.Mem.head _))) (z_ald X 21 rfl (c518_ok rfl) rfl (by first | exact hi.1.1 | omega) (show xv < 8 by first | exact oq_aaea290e hi.1.2 | omega) (cbig_ok rfl) ?_))))
      have b1001 := bc_17 I (show (xv).toNat < 8 by first | exact oq_c19a3aae hi.1.2 | omega)
      refine z_icmp_ge X (t := 163) rfl rfl ⟨by first | exact oq_fa4e5087 hi.2.2.1 | omega, by first | exact oq_52af2b96 hi.2.2.2 | omega⟩ (rng_to _) (fun g1002 => ?_) (fun g1002 => ?_)
      ·
        refine WS_pq [0, 1, 2, 3, 4] (lv' := [(0, .ref (A 19)), (2, .ref (A 111)), (1, .int (Int32.ofInt xv)), (3, .int (Int32.ofInt dp)), (4, .int (Int32.ofInt c))]) rfl ?_
        exact kx _ dp c I F (by first | exact ⟨And.intro (hi.1.1) (hi.1.2), And.intro (hi.2.1.1) (hi.2.1.2), hi.2.2.1, hi.2.2.2⟩ | omega)
      ·
        refine z_aload_n X (x := A 19) rfl (List.Mem.head _) (s_getR X 19 rfl (c518_ok rfl) rfl rfl (z_load X (x := c) rfl (List.Mem.tail _ (List.Mem.tail _ (List.Mem.tail _ (List.Mem.tail _ (List.Mem.head _))))) (z_ald X 20 rfl (c518_ok rfl) rfl (by first | exact hi.2.2.1 | omega) (show c < 200 by first | exact oq_6fca3d72 g1002 b1001.2 | omega) (cbig_ok rfl) ?_)))
        have b1003 := bc_16 I (show (c).toNat < 200 by first | exact oq_b70289d5 g1002 b1001.2 | omega)
        refine z_store X (lv' := [(5, .int (Int32.ofInt (iC t 16 (c).toNat))), (0, .ref (A 19)), (2, .ref (A 111)), (1, .int (Int32.ofInt xv)), (3, .int (Int32.ofInt dp)), (4, .int (Int32.ofInt c))]) rfl (by decide) (fun _ h => h) (z_load X (x := (iC t 16 (c).toNat)) rfl (List.Mem.head _) (z_bipush X rfl (z_icmp_le X (t := 90) rfl rfl (rng_to _) (by decide) (fun g1004 => ?_) (fun g1004 => ?_))))
        ·
          refine z_load X (x := (iC t 16 (c).toNat)) rfl (List.Mem.head _) (z_bipush X rfl (z_icmp_ne X (t := 122) rfl rfl (rng_to _) (by decide) (fun g1005 => ?_) (fun g1005 => ?_)))
          ·
            refine z_load_n X (x := dp) rfl (List.Mem.tail _ (List.Mem.tail _ (List.Mem.tail _ (List.Mem.tail _ (List.Mem.head _))))) (z_const X rfl (z_icmp_le X (t := 157) rfl rfl ⟨by first | exact oq_fa4e5087 hi.2.1.1 | omega, by first | exact oq_52af2b96 hi.2.1.2 | omega⟩ (by decide) (fun g1006 => ?_) (fun g1006 => ?_)))
            ·
              refine z_inc X (x := c) (lv' := [(4, .int (Int32.ofInt (c + 1))), (5, .int (Int32.ofInt (iC t 16 (c).toNat))), (0, .ref (A 19)), (2, .ref (A 111)), (1, .int (Int32.ofInt xv)), (3, .int (Int32.ofInt dp))]) rfl (by decide) (List.Mem.tail _ (List.Mem.tail _ (List.Mem.tail _ (List.Mem.tail _ (List.Mem.tail _ (List.Mem.head _)))))) (fun _ h => h) (z_goto X (t := 28) rfl rfl (WS_pq [2, 3, 4, 5, 0] (lv' := [(0, .ref (A 19)), (2, .ref (A 111)), (1, .int (Int32.ofInt xv)), (3, .int (Int32.ofInt dp)), (4, .int (Int32.ofInt (c + 1)))]) rfl ?_))
              exact ih _ xv dp (c + 1) I F (by first | exact ⟨And.intro (hi.1.1) (hi.1.2), And.intro (hi.2.1.1) (hi.2.1.2), oq_54f49eb5 hi.2.2.1, oq_228270fa g1002 b1001.2⟩ | omega) (by first | exact qk_me hm (by decide) (oq_b0a4f3e2 g1002 b1001.2) | omega) kx
            ·
              refine z_inc X (x := dp) (lv' := [(3, .int (Int32.ofInt (dp + (-1)))), (5, .int (Int32.ofInt (iC t 16 (c).toNat))), (0, .ref (A 19)), (2, .ref (A 111)), (1, .int (Int32.ofInt xv)), (4, .int (Int32.ofInt c))]) rfl (by decide) (List.Mem.tail _ (List.Mem.tail _ (List.Mem.tail _ (List.Mem.tail _ (List.Mem.head _))))) (fun _ h => h) (z_aload_n X (x := A 19) rfl (List.Mem.tail _ (List.Mem.tail _ (List.Mem.head _))) (s_getR X 19 rfl (c518_ok rfl) rfl rfl (z_load_n X (x := (dp + (-1))) rfl (List.Mem.head _) (z_const X rfl (z_sub X rfl (z_load X (x := (iC t 16 (c).toNat)) rfl (List.Mem.tail _ (List.Mem.head _)) (z_aload_n X (x := A 19) rfl (List.Mem.tail _ (List.Mem.tail _ (List.Mem.head _))) (s_getR X 19 rfl (c518_ok rfl) rfl rfl (z_load_n X (x := (dp + (-1))) rfl (List.Mem.head _) (z_const X rfl (z_sub X rfl ?_)))))))))))
              refine z_ald X 24 rfl (c518_ok rfl) rfl (by first | exact oq_d588e9be g1006 | omega) (show ((dp + (-1)) - 1) < 200 by first | exact oq_f9b4958f hi.2.1.2 | omega) (cbig_ok rfl) ?_
              have b1007 := bc_20 I (show (((dp + (-1)) - 1)).toNat < 200 by first | exact oq_ab8c951f hi.2.1.2 | omega)
              refine z_aload_n X (x := A 19) rfl (List.Mem.tail _ (List.Mem.tail _ (List.Mem.head _))) (s_getR X 19 rfl (c518_ok rfl) rfl rfl (z_load_n X (x := (dp + (-1))) rfl (List.Mem.head _) (z_ald X 24 rfl (c518_ok rfl) rfl (by first | exact oq_6c14892a g1006 | omega) (show (dp + (-1)) < 200 by first | exact oq_2dcece94 hi.2.1.2 | omega) (cbig_ok rfl) ?_)))
              have b1008 := bc_20 I (show ((dp + (-1))).toNat < 200 by first | exact oq_323b4624 hi.2.1.2 | omega)
              refine z_callS X (rm := rmN 85) (As := [.int (Int32.ofInt (iC t 16 (c).toNat)), .int (Int32.ofInt (iC t 20 (((dp + (-1)) - 1)).toNat)), .int (Int32.ofInt (iC t 20 ((dp + (-1))).toNat))]) (st := [.int (Int32.ofInt ((dp + (-1)) - 1)), .ref (A 24)]) rfl rfl (by rw [E.1, E.2.1, E.2.2.1]; exact c7_joined G I (by first | exact ⟨b1003.1, b1003.2⟩ | omega) (by first | exact ⟨b1007.1, b1007.2⟩ | omega) (by first | exact ⟨b1008.1, b1008.2⟩ | omega)) ⟨by rw [E.2.2.2]; exact (show (rmN 85).frames + 1 ≤ (rmN 84).frames by decide), by rw [E.2.2.2]; exact (show 8 + (mNL (miB 85) + 11) + (rmN 85).locals ≤ (rmN 84).locals by decide), by rw [E.2.2.2]; exact (show 0 + (rmN 85).cells ≤ (rmN 84).cells by decide), by rw [E.2.2.2]; exact (show 0 + (rmN 85).slots ≤ (rmN 84).slots by decide)⟩ (Nat.le_of_ble_eq_true rfl) (fun vv s1009 hq => ?_) (fun ee s1009 hq => ?_)
              rotate_left
              · obtain ⟨rfl, e1010, hv, hrs1009, hps1009⟩ := hq; cases hv
              obtain ⟨rfl, e1010, hv, hrs1009, hps1009⟩ := hq
              cases hv
              show WS k 156 [(3, .int (Int32.ofInt (dp + (-1)))), (5, .int (Int32.ofInt (iC t 16 (c).toNat))), (0, .ref (A 19)), (2, .ref (A 111)), (1, .int (Int32.ofInt xv)), (4, .int (Int32.ofInt c))] [.int (Int32.ofInt e1010), .int (Int32.ofInt ((dp + (-1)) - 1)), .ref (A 24)] (Wd A dT t) 0 0
              refine z_ast X 24 rfl (c518_ok rfl) rfl (by first | exact oq_d588e9be g1006 | omega) (show ((dp + (-1)) - 1) < 200 by first | exact oq_f9b4958f hi.2.1.2 | omega) (cbig_ok rfl) (wd_gen (fun s1011 hs1011 => ?_))
              have Is1011 : Bd s1011 := eqB hs1011 (bd_C I (show ((-2147483648) : Int) ≤ e1010 ∧ e1010 ≤ 2147483647 by first | exact ⟨hps1009.1, hps1009.2⟩ | omega) hrs1009)
              have Fs1011 := eqF hs1011 (fm_C F (inl_ok (a := 20) rfl))
              refine z_inc X (x := c) (lv' := [(4, .int (Int32.ofInt (c + 1))), (3, .int (Int32.ofInt (dp + (-1)))), (5, .int (Int32.ofInt (iC t 16 (c).toNat))), (0, .ref (A 19)), (2, .ref (A 111)), (1, .int (Int32.ofInt xv))]) rfl (by decide) (List.Mem.tail _ (List.Mem.tail _ (List.Mem.tail _ (List.Mem.tail _ (List.Mem.tail _ (List.Mem.head _)))))) (fun _ h => h) (z_goto X (t := 28) rfl rfl (WS_pq [3, 4, 5, 1, 0] (lv' := [(0, .ref (A 19)), (2, .ref (A 111)), (1, .int (Int32.ofInt xv)), (3, .int (Int32.ofInt (dp + (-1)))), (4, .int (Int32.ofInt (c + 1)))]) rfl ?_))
              exact ih _ xv (dp + (-1)) (c + 1) Is1011 Fs1011 (by first | exact ⟨And.intro (hi.1.1) (hi.1.2), And.intro (oq_6c14892a g1006) (oq_af76c38b hi.2.1.2), oq_54f49eb5 hi.2.2.1, oq_228270fa g1002 b1001.2⟩ | omega) (by first | exact qk_me hm (by decide) (oq_b0a4f3e2 g1002 b1001.2) | omega) kx
          ·
            refine z_load_n X (x := dp) rfl (List.Mem.tail _ (List.Mem.tail _ (List.Mem.tail _ (List.Mem.tail _ (List.Mem.head _))))) (z_if_le X (t := 157) rfl rfl ⟨by first | exact oq_fa4e5087 hi.2.1.1 | omega, by first | exact oq_52af2b96 hi.2.1.2 | omega⟩ (fun g1012 => ?_) (fun g1012 => ?_))
            ·
              refine z_inc X (x := c) (lv' := [(4, .int (Int32.ofInt (c + 1))), (5, .int (Int32.ofInt (iC t 16 (c).toNat))), (0, .ref (A 19)), (2, .ref (A 111)), (1, .int (Int32.ofInt xv)), (3, .int (Int32.ofInt dp))]) rfl (by decide) (List.Mem.tail _ (List.Mem.tail _ (List.Mem.tail _ (List.Mem.tail _ (List.Mem.tail _ (List.Mem.head _)))))) (fun _ h => h) (z_goto X (t := 28) rfl rfl (WS_pq [2, 3, 4, 5, 0] (lv' := [(0, .ref (A 19)), (2, .ref (A 111)), (1, .int (Int32.ofInt xv)), (3, .int (Int32.ofInt dp)), (4, .int (Int32.ofInt (c + 1)))]) rfl ?_))
              exact ih _ xv dp (c + 1) I F (by first | exact ⟨And.intro (hi.1.1) (hi.1.2), And.intro (hi.2.1.1) (hi.2.1.2), oq_54f49eb5 hi.2.2.1, oq_228270fa g1002 b1001.2⟩ | omega) (by first | exact qk_me hm (by decide) (oq_b0a4f3e2 g1002 b1001.2) | omega) kx
            ·
              refine z_aload_n X (x := A 19) rfl (List.Mem.tail _ (List.Mem.head _)) (s_getR X 19 rfl (c518_ok rfl) rfl rfl (z_load_n X (x := dp) rfl (List.Mem.tail _ (List.Mem.tail _ (List.Mem.tail _ (List.Mem.tail _ (List.Mem.head _))))) (z_const X rfl (z_sub X rfl (z_const X rfl (z_aload_n X (x := A 19) rfl (List.Mem.tail _ (List.Mem.head _)) (s_getR X 19 rfl (c518_ok rfl) rfl rfl (z_load_n X (x := dp) rfl (List.Mem.tail _ (List.Mem.tail _ (List.Mem.tail _ (List.Mem.tail _ (List.Mem.head _))))) (z_const X rfl (z_sub X rfl (z_ald X 24 rfl (c518_ok rfl) rfl (by first | exact oq_a4f22177 g1012 | omega) (show (dp - 1) < 200 by first | exact oq_76ad2bb2 hi.2.1.2 | omega) (cbig_ok rfl) ?_)))))))))))
              have b1013 := bc_20 I (show ((dp - 1)).toNat < 200 by first | exact oq_a03494ec hi.2.1.2 | omega)
              refine z_sub X rfl (z_any (fun y1014 hy1014 => ?_))
              refine z_ast X 24 rfl (c518_ok rfl) rfl (by first | exact oq_a4f22177 g1012 | omega) (show (dp - 1) < 200 by first | exact oq_76ad2bb2 hi.2.1.2 | omega) (cbig_ok rfl) (wd_gen (fun s1015 hs1015 => ?_))
              have Is1015 : Bd s1015 := eqB hs1015 (bd_C I (show ((-2147483648) : Int) ≤ y1014 ∧ y1014 ≤ 2147483647 by first | exact ⟨hy1014.1, hy1014.2⟩ | omega) hy1014)
              have Fs1015 := eqF hs1015 (fm_C F (inl_ok (a := 20) rfl))
              refine z_goto X (t := 157) rfl rfl (z_inc X (x := c) (lv' := [(4, .int (Int32.ofInt (c + 1))), (5, .int (Int32.ofInt (iC t 16 (c).toNat))), (0, .ref (A 19)), (2, .ref (A 111)), (1, .int (Int32.ofInt xv)), (3, .int (Int32.ofInt dp))]) rfl (by decide) (List.Mem.tail _ (List.Mem.tail _ (List.Mem.tail _ (List.Mem.tail _ (List.Mem.tail _ (List.Mem.head _)))))) (fun _ h => h) (z_goto X (t := 28) rfl rfl (WS_pq [2, 3, 4, 5, 0] (lv' := [(0, .ref (A 19)), (2, .ref (A 111)), (1, .int (Int32.ofInt xv)), (3, .int (Int32.ofInt dp)), (4, .int (Int32.ofInt (c + 1)))]) rfl ?_)))
              exact ih _ xv dp (c + 1) Is1015 Fs1015 (by first | exact ⟨And.intro (hi.1.1) (hi.1.2), And.intro (hi.2.1.1) (hi.2.1.2), oq_54f49eb5 hi.2.2.1, oq_228270fa g1002 b1001.2⟩ | omega) (by first | exact qk_me hm (by decide) (oq_b0a4f3e2 g1002 b1001.2) | omega) kx
        ·
          refine z_load_n X (x := dp) rfl (List.Mem.tail _ (List.Mem.tail _ (List.Mem.tail _ (List.Mem.tail _ (List.Mem.head _))))) (z_sipush X rfl (z_icmp_ge X (t := 157) rfl rfl ⟨by first | exact oq_fa4e5087 hi.2.1.1 | omega, by first | exact oq_52af2b96 hi.2.1.2 | omega⟩ (by decide) (fun g1016 => ?_) (fun g1016 => ?_)))
          ·
            refine z_inc X (x := c) (lv' := [(4, .int (Int32.ofInt (c + 1))), (5, .int (Int32.ofInt (iC t 16 (c).toNat))), (0, .ref (A 19)), (2, .ref (A 111)), (1, .int (Int32.ofInt xv)), (3, .int (Int32.ofInt dp))]) rfl (by decide) (List.Mem.tail _ (List.Mem.tail _ (List.Mem.tail _ (List.Mem.tail _ (List.Mem.tail _ (List.Mem.head _)))))) (fun _ h => h) (z_goto X (t := 28) rfl rfl (WS_pq [2, 3, 4, 5, 0] (lv' := [(0, .ref (A 19)), (2, .ref (A 111)), (1, .int (Int32.ofInt xv)), (3, .int (Int32.ofInt dp)), (4, .int (Int32.ofInt (c + 1)))]) rfl ?_))
            exact ih _ xv dp (c + 1) I F (by first | exact ⟨And.intro (hi.1.1) (hi.1.2), And.intro (hi.2.1.1) (hi.2.1.2), oq_54f49eb5 hi.2.2.1, oq_228270fa g1002 b1001.2⟩ | omega) (by first | exact qk_me hm (by decide) (oq_b0a4f3e2 g1002 b1001.2) | omega) kx
          ·
            refine z_aload_n X (x := A 19) rfl (List.Mem.tail _ (List.Mem.head _)) (s_getR X 19 rfl (c518_ok rfl) rfl rfl (z_load_n X (x := dp) rfl (List.Mem.tail _ (List.Mem.tail _ (List.Mem.tail _ (List.Mem.tail _ (List.Mem.head _))))) (z_load X (x := (iC t 16 (c).toNat)) rfl (List.Mem.head _) ?_)))
            have N1017 : ∀ e1018 : Int, ((((iC t 16 (c).toNat) < 0) ∧ (((-2147483648) : Int) ≤ iC t 96 (((-1) - (iC t 16 (c).toNat))).toNat ∧ iC t 96 (((-1) - (iC t 16 (c).toNat))).toNat ≤ 2147483647) ∧ e1018 = (iC t 96 (((-1) - (iC t 16 (c).toNat))).toNat)) ∨ ((0 ≤ (iC t 16 (c).toNat)) ∧ e1018 = (iC t 16 (c).toNat))) → WS k 83 [(5, .int (Int32.ofInt (iC t 16 (c).toNat))), (0, .ref (A 19)), (2, .ref (A 111)), (1, .int (Int32.ofInt xv)), (3, .int (Int32.ofInt dp)), (4, .int (Int32.ofInt c))] [.int (Int32.ofInt e1018), .int (Int32.ofInt dp), .ref (A 24)] (Wd A dT t) 0 0 := by
              intro e1018 he1018
              refine z_ast X 24 rfl (c518_ok rfl) rfl (by first | exact hi.2.1.1 | omega) (show dp < 200 by first | exact g1016 | omega) (cbig_ok rfl) (wd_gen (fun s1019 hs1019 => ?_))
              have Is1019 : Bd s1019 := eqB hs1019 (bd_C I (show ((-2147483648) : Int) ≤ e1018 ∧ e1018 ≤ 2147483647 by first | exact ⟨oq_05aece2f he1018, oq_93cedf2b he1018 b1003.2⟩ | omega) ⟨by first | exact oq_05aece2f he1018 | omega, by first | exact oq_93cedf2b he1018 b1003.2 | omega⟩)
              have Fs1019 := eqF hs1019 (fm_C F (inl_ok (a := 20) rfl))
              refine z_inc X (x := dp) (lv' := [(3, .int (Int32.ofInt (dp + 1))), (5, .int (Int32.ofInt (iC t 16 (c).toNat))), (0, .ref (A 19)), (2, .ref (A 111)), (1, .int (Int32.ofInt xv)), (4, .int (Int32.ofInt c))]) rfl (by decide) (List.Mem.tail _ (List.Mem.tail _ (List.Mem.tail _ (List.Mem.tail _ (List.Mem.head _))))) (fun _ h => h) (z_goto X (t := 157) rfl rfl (z_inc X (x := c) (lv' := [(4, .int (Int32.ofInt (c + 1))), (3, .int (Int32.ofInt (dp + 1))), (5, .int (Int32.ofInt (iC t 16 (c).toNat))), (0, .ref (A 19)), (2, .ref (A 111)), (1, .int (Int32.ofInt xv))]) rfl (by decide) (List.Mem.tail _ (List.Mem.tail _ (List.Mem.tail _ (List.Mem.tail _ (List.Mem.tail _ (List.Mem.head _)))))) (fun _ h => h) (z_goto X (t := 28) rfl rfl (WS_pq [3, 4, 5, 1, 0] (lv' := [(0, .ref (A 19)), (2, .ref (A 111)), (1, .int (Int32.ofInt xv)), (3, .int (Int32.ofInt (dp + 1))), (4, .int (Int32.ofInt (c + 1)))]) rfl ?_))))
              exact ih _ xv (dp + 1) (c + 1) Is1019 Fs1019 (by first | exact ⟨And.intro (hi.1.1) (hi.1.2), And.intro (oq_54f49eb5 hi.2.1.1) (oq_0cb6ab8a g1016), oq_54f49eb5 hi.2.2.1, oq_228270fa g1002 b1001.2⟩ | omega) (by first | exact qk_me hm (by decide) (oq_b0a4f3e2 g1002 b1001.2) | omega) kx
            refine z_if_lt X (t := 77) rfl rfl (rng_to _) (fun g1020 => ?_) (fun g1020 => ?_)
            ·
              refine z_aload_n X (x := A 111) rfl (List.Mem.tail _ (List.Mem.tail _ (List.Mem.head _))) (z_const X rfl (z_load X (x := (iC t 16 (c).toNat)) rfl (List.Mem.head _) (z_sub X rfl (z_ald X 111 rfl (c518_ok rfl) rfl (by first | exact oq_c38d07c4 g1020 | omega) (show ((-1) - (iC t 16 (c).toNat)) < 7 by first | exact oq_a1f4cde5 g1004 | omega) (cbig_ok rfl) ?_))))
              have b1021 := bc_96 I (show (((-1) - (iC t 16 (c).toNat))).toNat < 7 by first | exact oq_91b916ba g1004 | omega)
              exact N1017 _ (Or.inl ⟨g1020, b1021, rfl⟩)
            ·
              exact z_load X (x := (iC t 16 (c).toNat)) rfl (List.Mem.head _) (z_goto X (t := 83) rfl rfl (N1017 _ (Or.inr (⟨g1020, rfl⟩))))
  refine z_load_n X (x := x) rfl (List.Mem.tail _ (List.Mem.head _)) (z_const X rfl (z_icmp_ne X (t := 19) rfl rfl ⟨by first | exact oq_97ee2c2a p0.1 | omega, by first | exact oq_0e78ca7d p0.2 | omega⟩ (by decide) (fun g1 => ?_) (fun g1 => ?_)))
  ·
    refine z_const X rfl (z_store_n X (lv' := [(3, .int (Int32.ofInt 0)), (0, .ref (A 19)), (1, .int (Int32.ofInt x)), (2, .ref (A 111))]) rfl (by decide) (fun _ h => h) (z_aload_n X (x := A 19) rfl (List.Mem.tail _ (List.Mem.head _)) (z_load_n X (x := x) rfl (List.Mem.tail _ (List.Mem.tail _ (List.Mem.head _))) (zcV_i0 X E 19 (As := [.int (Int32.ofInt x)]) (st := []) rfl rfl rfl rfl (c7_beginOf_19 G I (by first | exact ⟨oq_7a1025bf g1 p0.1, p0.2⟩ | omega)) rfl (Nat.le_of_ble_eq_true rfl) (fun s2 e3 Is2 Fs2 hrs2 hps2 => ?_)))))
    have Gs2 := fm_tq F Fs2 rfl rfl
    refine z_store X (lv' := [(4, .int (Int32.ofInt e3)), (3, .int (Int32.ofInt 0)), (0, .ref (A 19)), (1, .int (Int32.ofInt x)), (2, .ref (A 111))]) rfl (by decide) (fun _ h => h) (WS_pq [2, 4, 3, 1, 0] (lv' := [(0, .ref (A 19)), (2, .ref (A 111)), (1, .int (Int32.ofInt x)), (3, .int (Int32.ofInt 0)), (4, .int (Int32.ofInt e3))]) rfl (L28 ((200 - e3 : Int).toNat + 1) s2 x 0 e3 Is2 Gs2 (by first | exact ⟨oq_b629d6d6 g1 p0.2 p0.1, And.intro (by decide) (by decide), hps2.1, hps2.2⟩ | omega) (Nat.lt_succ_self _) ?_))
    intro s4 x5 x6 Is4 Fs4 hs4
    refine z_aload_n X (x := A 19) rfl (List.Mem.head _) (s_getR X 19 rfl (c518_ok rfl) rfl rfl (z_const X rfl (z_ald X 24 rfl (c518_ok rfl) rfl (by decide) (show 0 < 200 by decide) (cbig_ok rfl) ?_)))
    have b7 := bc_20 Is4 (show (0 : Int).toNat < 200 by first | exact oq_e7d7c2b9 | omega)
    exact w_iret X.1 q hRt rfl (ax_d X (show cdA 84 169 = some (.ireturn, 1, 0, 0, 0) from rfl)) (Nat.zero_le _) (Nat.zero_le _) ⟨_, rfl, Is4, Fs4, (iC s4 20 (0 : Int).toNat), rfl, (rng_to _), trivial⟩
  ·
    refine z_aload_n X (x := A 111) rfl (List.Mem.tail _ (List.Mem.tail _ (List.Mem.head _))) (z_const X rfl (z_ald X 111 rfl (c518_ok rfl) rfl (by decide) (show 0 < 7 by decide) (cbig_ok rfl) ?_))
    have b8 := bc_96 I (show (0 : Int).toNat < 7 by first | exact oq_e8ec3fa8 | omega)
    refine z_const X rfl (z_aload_n X (x := A 111) rfl (List.Mem.tail _ (List.Mem.tail _ (List.Mem.head _))) (z_const X rfl (z_ald X 111 rfl (c518_ok rfl) rfl (by decide) (show 1 < 7 by decide) (cbig_ok rfl) ?_)))
    have b9 := bc_96 I (show (1 : Int).toNat < 7 by first | exact oq_a32b659c | omega)
    refine z_mul X rfl (z_any (fun y10 hy10 => ?_))
    refine z_add X rfl (z_any (fun y11 hy11 => ?_))
    refine z_aload_n X (x := A 111) rfl (List.Mem.tail _ (List.Mem.tail _ (List.Mem.head _))) (z_const X rfl (z_ald X 111 rfl (c518_ok rfl) rfl (by decide) (show 2 < 7 by decide) (cbig_ok rfl) ?_))
    have b12 := bc_96 I (show (2 : Int).toNat < 7 by first | exact oq_62527c24 | omega)
    refine z_add X rfl (z_any (fun y13 hy13 => ?_))
    exact w_iret X.1 q hRt rfl (ax_d X (show cdA 84 18 = some (.ireturn, 1, 0, 0, 0) from rfl)) (Nat.zero_le _) (Nat.zero_le _) ⟨_, rfl, I, F, y13, rfl, hy13, trivial⟩
set_option maxRecDepth 4000 in
theorem c0_loadAt_103 (G : GX l s0 D tys a0 dT) (I : Bd s) {x y : Int} (p0 : 0 ≤ x ∧ x ≤ 23) (p1 : rng y) : CT l s0 D A dT 4 (rmN 4) [.ref (A 103), .int (Int32.ofInt x), .int (Int32.ofInt y)] s (fun o t => Bd t ∧ Fm [] [96, 20] s t ∧ ∃ e, o = .inl (some (.int (Int32.ofInt e))) ∧ rng e ∧ (True)) := by
  refine ct_ofX G (by decide) (Nat.le_of_ble_eq_true rfl) (fun k X E ET hRt hXt q => ?_)
  show WS k 0 [(0, .ref (A 103)), (1, .int (Int32.ofInt x)), (2, .int (Int32.ofInt y))] [] _ 0 0
  have F : Fm [] [96, 20] s s := fm_rf _ _ s
  refine z_aload_n X (x := A 103) rfl (List.Mem.head _) (z_load_n X (x := x) rfl (List.Mem.tail _ (List.Mem.head _)) (z_load_n X (x := y) rfl (List.Mem.tail _ (List.Mem.tail _ (List.Mem.head _))) (zcV_v0 X E 103 (As := [.int (Int32.ofInt x), .int (Int32.ofInt y)]) (st := []) rfl rfl rfl rfl (c0_hear_103 G I (by first | exact ⟨p0.1, p0.2⟩ | omega) (by first | exact ⟨p1.1, p1.2⟩ | omega)) rfl (Nat.le_of_ble_eq_true rfl) (fun s1 Is1 Fs1 hps1 => ?_))))
  have Gs1 := fm_tq F Fs1 rfl rfl
  refine z_aload_n X (x := A 103) rfl (List.Mem.head _) (s_getR X 103 rfl (c518_ok rfl) rfl rfl (z_aload_n X (x := A 103) rfl (List.Mem.head _) (s_getR X 103 rfl (c518_ok rfl) rfl rfl (z_getI X 19 rfl (c518_ok rfl) rfl rfl ?_))))
  have b3 := bi_13 Is1
  refine z_aload_n X (x := A 103) rfl (List.Mem.head _) (s_getR X 103 rfl (c518_ok rfl) rfl rfl (zcV_i0 X E 19 (As := [.int (Int32.ofInt (iI s1 13)), .ref (A 111)]) (st := []) rfl rfl rfl rfl (c7_work_103 G Is1 (by first | exact ⟨b3.1, b3.2⟩ | omega)) rfl (Nat.le_of_ble_eq_true rfl) (fun s4 e5 Is4 Fs4 hrs4 hps4 => ?_)))
  have Gs4 := fm_tq Gs1 Fs4 rfl rfl
  exact w_iret X.1 q hRt rfl (ax_d X (show cdA 4 24 = some (.ireturn, 1, 0, 0, 0) from rfl)) (Nat.zero_le _) (Nat.zero_le _) ⟨_, rfl, Is4, Gs4, e5, rfl, hrs4, trivial⟩
set_option maxRecDepth 4000 in
theorem c0_followSteps_113 (G : GX l s0 D tys a0 dT) (I : Bd s) {x : Int} {aj bj : Int64} (p0 : 0 ≤ x ∧ x ≤ 11) (p1 : iI s 52 ≤ 11) : CT l s0 D A dT 2 (rmN 2) [.ref (A 113), .int (Int32.ofInt x), .long aj, .long bj] s (fun o t => Bd t ∧ Fm [] [99, 100, 101] s t ∧ o = .inl none ∧ (True)) := by
  refine ct_ofX G (by decide) (Nat.le_of_ble_eq_true rfl) (fun k X E ET hRt hXt q => ?_)
  show WS k 0 [(0, .ref (A 113)), (1, .int (Int32.ofInt x)), (2, .long aj), (4, .long bj)] [] _ 0 0
  have F : Fm [] [99, 100, 101] s s := fm_rf _ _ s
  have b1 := bi_52 I
  have L12 : ∀ (n : Nat) (t : PS) (xv : Int) (av : Int64) (bv : Int64) (ov : Int) (wi : Int) (cl : Int) (kd : Int), Bd t → Fm [] [99, 100, 101] s t → ((0 ≤ xv ∧ xv ≤ 11) ∧ rng ov ∧ rng wi ∧ rng cl ∧ 0 ≤ kd ∧ kd ≤ 5 ∧ iI t 52 ≤ 11) → (5 - kd : Int).toNat < n → (∀ (t' : PS) (ov' : Int) (wi' : Int) (cl' : Int) (kd' : Int), Bd t' → Fm [] [99, 100, 101] s t' → ((0 ≤ xv ∧ xv ≤ 11) ∧ rng ov' ∧ rng wi' ∧ rng cl' ∧ 0 ≤ kd' ∧ kd' ≤ 5 ∧ iI t' 52 ≤ 11) → WS k 148 [(0, .ref (A 113)), (1, .int (Int32.ofInt xv)), (2, .long av), (4, .long bv), (6, .int (Int32.ofInt ov')), (7, .int (Int32.ofInt wi')), (8, .int (Int32.ofInt cl')), (9, .int (Int32.ofInt kd'))] [] (Wd A dT t') 0 0) → WS k 12 [(0, .ref (A 113)), (1, .int (Int32.ofInt xv)), (2, .long av), (4, .long bv), (6, .int (Int32.ofInt ov)), (7, .int (Int32.ofInt wi)), (8, .int (Int32.ofInt cl)), (9, .int (Int32.ofInt kd))] [] (Wd A dT t) 0 0 := by
    intro n
    induction n with
    | zero =>
      intro t xv av bv ov wi cl kd I F hi hm kx
      exact absurd hm (Nat.not_lt_zero _)
    | succ n ih =>
      intro t xv av bv ov wi cl kd I F hi hm kx
      have b1001 := bi_52 I
      refine z_load X (x := kd) rfl (List.Mem.tail _ (List.Mem.tail _ (List.Mem.tail _ (List.Mem.tail _ (List.Mem.tail _ (List.Mem.tail _ (List.Mem.tail _ (List.Mem.head _)))))))) (z_const X rfl (z_icmp_ge X (t := 148) rfl rfl ⟨by first | exact oq_fa4e5087 hi.2.2.2.2.1 | omega, by first | exact oq_a3dd55e5 hi.2.2.2.2.2.1 | omega⟩ (by decide) (fun g1002 => ?_) (fun g1002 => ?_)))
      ·
        refine WS_pq [0, 1, 2, 3, 4, 5, 6, 7] (lv' := [(0, .ref (A 113)), (1, .int (Int32.ofInt xv)), (2, .long av), (4, .long bv), (6, .int (Int32.ofInt ov)), (7, .int (Int32.ofInt wi)), (8, .int (Int32.ofInt cl)), (9, .int (Int32.ofInt kd))]) rfl ?_
        exact kx _ ov wi cl kd I F (by first | exact ⟨And.intro (hi.1.1) (hi.1.2), And.intro (hi.2.1.1) (hi.2.1.2), And.intro (hi.2.2.1.1) (hi.2.2.1.2), And.intro (hi.2.2.2.1.1) (hi.2.2.2.1.2), hi.2.2.2.2.1, hi.2.2.2.2.2.1, hi.2.2.2.2.2.2⟩ | omega)
      ·
        refine z_aload_n X (x := A 113) rfl (List.Mem.head _) (s_getR X 113 rfl (c518_ok rfl) rfl rfl (s_getR X 68 rfl (c518_ok rfl) rfl rfl (z_load_n X (x := xv) rfl (List.Mem.tail _ (List.Mem.head _)) (z_const X rfl (z_mul X rfl (z_load X (x := kd) rfl (List.Mem.tail _ (List.Mem.tail _ (List.Mem.tail _ (List.Mem.tail _ (List.Mem.tail _ (List.Mem.tail _ (List.Mem.tail _ (List.Mem.head _)))))))) (z_add X rfl (z_lald X 73 rfl (c518_ok rfl) rfl (by first | exact oq_59a253bd hi.1.1 hi.2.2.2.2.1 | omega) (show ((xv * 5) + kd) < 60 by first | exact oq_7279bf48 hi.1.2 g1002 | omega) (cbig_ok rfl) (fun j1003 => ?_)))))))))
        refine w_lstore X.1 (lv' := [(10, .long j1003), (0, .ref (A 113)), (1, .int (Int32.ofInt xv)), (2, .long av), (4, .long bv), (6, .int (Int32.ofInt ov)), (7, .int (Int32.ofInt wi)), (8, .int (Int32.ofInt cl)), (9, .int (Int32.ofInt kd))]) (ax_d X (show cdA 2 32 = some (.lstore 10, 2, 0, 0, 0) from rfl)) (by rw [X.2.1.2.2]; decide) (fun _ h => h) (w_lload X.1 (ax_d X (show cdA 2 34 = some (.lload 10, 2, 0, 0, 0) from rfl)) (x := j1003) (List.Mem.head _) (w_lconst X.1 (ax_d X (show cdA 2 36 = some (.lconst 0, 1, 0, 0, 0) from rfl)) rfl (z_anyJ (fun j1004 => ?_))))
        refine w_lcmp X.1 (ax_d X (show cdA 2 37 = some (.lcmp, 1, 0, 0, 0) from rfl)) (z_any (fun y1005 hy1005 => ?_))
        refine z_if_eq X (t := 142) rfl rfl hy1005 (fun g1006 => ?_) (fun g1006 => ?_)
        ·
          refine z_inc X (x := kd) (lv' := [(9, .int (Int32.ofInt (kd + 1))), (10, .long j1003), (0, .ref (A 113)), (1, .int (Int32.ofInt xv)), (2, .long av), (4, .long bv), (6, .int (Int32.ofInt ov)), (7, .int (Int32.ofInt wi)), (8, .int (Int32.ofInt cl))]) rfl (by decide) (List.Mem.tail _ (List.Mem.tail _ (List.Mem.tail _ (List.Mem.tail _ (List.Mem.tail _ (List.Mem.tail _ (List.Mem.tail _ (List.Mem.tail _ (List.Mem.head _))))))))) (fun _ h => h) (z_goto X (t := 12) rfl rfl (WS_pq [2, 3, 4, 5, 6, 7, 8, 0] (lv' := [(0, .ref (A 113)), (1, .int (Int32.ofInt xv)), (2, .long av), (4, .long bv), (6, .int (Int32.ofInt ov)), (7, .int (Int32.ofInt wi)), (8, .int (Int32.ofInt cl)), (9, .int (Int32.ofInt (kd + 1)))]) rfl ?_))
          exact ih _ xv av bv ov wi cl (kd + 1) I F (by first | exact ⟨And.intro (hi.1.1) (hi.1.2), And.intro (hi.2.1.1) (hi.2.1.2), And.intro (hi.2.2.1.1) (hi.2.2.1.2), And.intro (hi.2.2.2.1.1) (hi.2.2.2.1.2), oq_54f49eb5 hi.2.2.2.2.1, oq_c2445583 g1002, hi.2.2.2.2.2.2⟩ | omega) (by first | exact qk_me hm (by decide) (oq_33241a94 g1002) | omega) kx
        ·
          refine z_load X (x := kd) rfl (List.Mem.tail _ (List.Mem.tail _ (List.Mem.tail _ (List.Mem.tail _ (List.Mem.tail _ (List.Mem.tail _ (List.Mem.tail _ (List.Mem.tail _ (List.Mem.head _))))))))) (z_const X rfl ?_)
          have N1007 : ∀ j1008 : Int64, WS k 59 [(10, .long j1003), (0, .ref (A 113)), (1, .int (Int32.ofInt xv)), (2, .long av), (4, .long bv), (6, .int (Int32.ofInt ov)), (7, .int (Int32.ofInt wi)), (8, .int (Int32.ofInt cl)), (9, .int (Int32.ofInt kd))] [.long j1008] (Wd A dT t) 0 0 := by
            intro j1008
            refine w_lstore X.1 (lv' := [(12, .long j1008), (10, .long j1003), (0, .ref (A 113)), (1, .int (Int32.ofInt xv)), (2, .long av), (4, .long bv), (6, .int (Int32.ofInt ov)), (7, .int (Int32.ofInt wi)), (8, .int (Int32.ofInt cl)), (9, .int (Int32.ofInt kd))]) (ax_d X (show cdA 2 59 = some (.lstore 12, 2, 0, 0, 0) from rfl)) (by rw [X.2.1.2.2]; decide) (fun _ h => h) (z_load X (x := kd) rfl (List.Mem.tail _ (List.Mem.tail _ (List.Mem.tail _ (List.Mem.tail _ (List.Mem.tail _ (List.Mem.tail _ (List.Mem.tail _ (List.Mem.tail _ (List.Mem.tail _ (List.Mem.head _)))))))))) (z_const X rfl ?_))
            have N1009 : ∀ j1010 : Int64, WS k 90 [(12, .long j1008), (10, .long j1003), (0, .ref (A 113)), (1, .int (Int32.ofInt xv)), (2, .long av), (4, .long bv), (6, .int (Int32.ofInt ov)), (7, .int (Int32.ofInt wi)), (8, .int (Int32.ofInt cl)), (9, .int (Int32.ofInt kd))] [.long j1010] (Wd A dT t) 0 0 := by
              intro j1010
              refine w_lstore X.1 (lv' := [(14, .long j1010), (12, .long j1008), (10, .long j1003), (0, .ref (A 113)), (1, .int (Int32.ofInt xv)), (2, .long av), (4, .long bv), (6, .int (Int32.ofInt ov)), (7, .int (Int32.ofInt wi)), (8, .int (Int32.ofInt cl)), (9, .int (Int32.ofInt kd))]) (ax_d X (show cdA 2 90 = some (.lstore 14, 2, 0, 0, 0) from rfl)) (by rw [X.2.1.2.2]; decide) (fun _ h => h) (w_lload X.1 (ax_d X (show cdA 2 92 = some (.lload 10, 2, 0, 0, 0) from rfl)) (x := j1003) (List.Mem.tail _ (List.Mem.tail _ (List.Mem.head _))) (w_lload X.1 (ax_d X (show cdA 2 94 = some (.lload 12, 2, 0, 0, 0) from rfl)) (x := j1008) (List.Mem.tail _ (List.Mem.head _)) (w_land X.1 (ax_d X (show cdA 2 96 = some (.land, 1, 0, 0, 0) from rfl)) (z_anyJ (fun j1011 => ?_)))))
              refine w_lload X.1 (ax_d X (show cdA 2 97 = some (.lload 14, 2, 0, 0, 0) from rfl)) (x := j1010) (List.Mem.head _) (w_land X.1 (ax_d X (show cdA 2 99 = some (.land, 1, 0, 0, 0) from rfl)) (z_anyJ (fun j1012 => ?_)))
              refine zcS_i0 X E (As := [.long j1012]) (st := []) rfl rfl (j_bitL G I ) rfl (Nat.le_of_ble_eq_true rfl) (fun s1013 e1014 Is1013 Fs1013 hrs1013 hps1013 => ?_)
              have Gs1013 := fm_tq F Fs1013 rfl rfl
              have ws1013_52 : iI s1013 52 = iI t 52 := fm_iq Fs1013 rfl
              refine z_store X (lv' := [(16, .int (Int32.ofInt e1014)), (14, .long j1010), (12, .long j1008), (10, .long j1003), (0, .ref (A 113)), (1, .int (Int32.ofInt xv)), (2, .long av), (4, .long bv), (6, .int (Int32.ofInt ov)), (7, .int (Int32.ofInt wi)), (8, .int (Int32.ofInt cl)), (9, .int (Int32.ofInt kd))]) rfl (by decide) (fun _ h => h) (z_load X (x := ov) rfl (List.Mem.tail _ (List.Mem.tail _ (List.Mem.tail _ (List.Mem.tail _ (List.Mem.tail _ (List.Mem.tail _ (List.Mem.tail _ (List.Mem.tail _ (List.Mem.head _))))))))) (w_lload X.1 (ax_d X (show cdA 2 107 = some (.lload 10, 2, 0, 0, 0) from rfl)) (x := j1003) (List.Mem.tail _ (List.Mem.tail _ (List.Mem.tail _ (List.Mem.head _)))) (w_lload X.1 (ax_d X (show cdA 2 109 = some (.lload 12, 2, 0, 0, 0) from rfl)) (x := j1008) (List.Mem.tail _ (List.Mem.tail _ (List.Mem.head _))) (w_lload X.1 (ax_d X (show cdA 2 111 = some (.lload 14, 2, 0, 0, 0) from rfl)) (x := j1010) (List.Mem.tail _ (List.Mem.head _)) (w_lxor X.1 (ax_d X (show cdA 2 113 = some (.lxor, 1, 0, 0, 0) from rfl)) (z_anyJ (fun j1015 => ?_)))))))
              refine w_land X.1 (ax_d X (show cdA 2 114 = some (.land, 1, 0, 0, 0) from rfl)) (z_anyJ (fun j1016 => ?_))
              refine zcS_i0 X E (As := [.long j1016]) (st := [.int (Int32.ofInt ov)]) rfl rfl (j_bitL G Is1013 ) rfl (Nat.le_of_ble_eq_true rfl) (fun s1017 e1018 Is1017 Fs1017 hrs1017 hps1017 => ?_)
              have Gs1017 := fm_tq Gs1013 Fs1017 rfl rfl
              have ws1017_52 : iI s1017 52 = iI s1013 52 := fm_iq Fs1017 rfl
              refine z_add X rfl (z_any (fun y1019 hy1019 => ?_))
              refine z_store X (lv' := [(6, .int (Int32.ofInt y1019)), (16, .int (Int32.ofInt e1014)), (14, .long j1010), (12, .long j1008), (10, .long j1003), (0, .ref (A 113)), (1, .int (Int32.ofInt xv)), (2, .long av), (4, .long bv), (7, .int (Int32.ofInt wi)), (8, .int (Int32.ofInt cl)), (9, .int (Int32.ofInt kd))]) rfl (by decide) (fun _ h => h) (z_load X (x := wi) rfl (List.Mem.tail _ (List.Mem.tail _ (List.Mem.tail _ (List.Mem.tail _ (List.Mem.tail _ (List.Mem.tail _ (List.Mem.tail _ (List.Mem.tail _ (List.Mem.tail _ (List.Mem.head _)))))))))) (z_load X (x := e1014) rfl (List.Mem.tail _ (List.Mem.head _)) (z_add X rfl (z_any (fun y1020 hy1020 => ?_)))))
              refine z_store X (lv' := [(7, .int (Int32.ofInt y1020)), (6, .int (Int32.ofInt y1019)), (16, .int (Int32.ofInt e1014)), (14, .long j1010), (12, .long j1008), (10, .long j1003), (0, .ref (A 113)), (1, .int (Int32.ofInt xv)), (2, .long av), (4, .long bv), (8, .int (Int32.ofInt cl)), (9, .int (Int32.ofInt kd))]) rfl (by decide) (fun _ h => h) (z_load X (x := kd) rfl (List.Mem.tail _ (List.Mem.tail _ (List.Mem.tail _ (List.Mem.tail _ (List.Mem.tail _ (List.Mem.tail _ (List.Mem.tail _ (List.Mem.tail _ (List.Mem.tail _ (List.Mem.tail _ (List.Mem.tail _ (List.Mem.head _)))))))))))) (z_const X rfl ?_))
              have N1021 : ∀ e1022 : Int, (((kd ≠ 4) ∧ e1022 = 0) ∨ ((kd = 4) ∧ e1022 = e1014)) → WS k 140 [(7, .int (Int32.ofInt y1020)), (6, .int (Int32.ofInt y1019)), (16, .int (Int32.ofInt e1014)), (14, .long j1010), (12, .long j1008), (10, .long j1003), (0, .ref (A 113)), (1, .int (Int32.ofInt xv)), (2, .long av), (4, .long bv), (8, .int (Int32.ofInt cl)), (9, .int (Int32.ofInt kd))] [.int (Int32.ofInt e1022)] (Wd A dT s1017) 0 0 := by
                intro e1022 he1022
                refine z_store X (lv' := [(8, .int (Int32.ofInt e1022)), (7, .int (Int32.ofInt y1020)), (6, .int (Int32.ofInt y1019)), (16, .int (Int32.ofInt e1014)), (14, .long j1010), (12, .long j1008), (10, .long j1003), (0, .ref (A 113)), (1, .int (Int32.ofInt xv)), (2, .long av), (4, .long bv), (9, .int (Int32.ofInt kd))]) rfl (by decide) (fun _ h => h) (z_inc X (x := kd) (lv' := [(9, .int (Int32.ofInt (kd + 1))), (8, .int (Int32.ofInt e1022)), (7, .int (Int32.ofInt y1020)), (6, .int (Int32.ofInt y1019)), (16, .int (Int32.ofInt e1014)), (14, .long j1010), (12, .long j1008), (10, .long j1003), (0, .ref (A 113)), (1, .int (Int32.ofInt xv)), (2, .long av), (4, .long bv)]) rfl (by decide) (List.Mem.tail _ (List.Mem.tail _ (List.Mem.tail _ (List.Mem.tail _ (List.Mem.tail _ (List.Mem.tail _ (List.Mem.tail _ (List.Mem.tail _ (List.Mem.tail _ (List.Mem.tail _ (List.Mem.tail _ (List.Mem.head _)))))))))))) (fun _ h => h) (z_goto X (t := 12) rfl rfl (WS_pq [8, 9, 10, 11, 3, 2, 1, 0] (lv' := [(0, .ref (A 113)), (1, .int (Int32.ofInt xv)), (2, .long av), (4, .long bv), (6, .int (Int32.ofInt y1019)), (7, .int (Int32.ofInt y1020)), (8, .int (Int32.ofInt e1022)), (9, .int (Int32.ofInt (kd + 1)))]) rfl ?_)))
                exact ih _ xv av bv y1019 y1020 e1022 (kd + 1) Is1017 Gs1017 (by first | exact ⟨And.intro (hi.1.1) (hi.1.2), And.intro (hy1019.1) (hy1019.2), And.intro (hy1020.1) (hy1020.2), by first | (clear he1022 g1006; omega) | (clear g1006; omega) | omega, oq_54f49eb5 hi.2.2.2.2.1, oq_c2445583 g1002, oq_9a920414 ws1017_52 ws1013_52 hi.2.2.2.2.2.2⟩ | omega) (by first | exact qk_me hm (by decide) (oq_33241a94 g1002) | omega) kx
              refine z_icmp_ne X (t := 139) rfl rfl ⟨by first | exact oq_fa4e5087 hi.2.2.2.2.1 | omega, by first | exact oq_85aa3fe6 g1002 | omega⟩ (by decide) (fun g1023 => ?_) (fun g1023 => ?_)
              ·
                exact z_const X rfl (N1021 _ (Or.inl ⟨g1023, rfl⟩))
              ·
                exact z_load X (x := e1014) rfl (List.Mem.tail _ (List.Mem.tail _ (List.Mem.head _))) (z_goto X (t := 140) rfl rfl (N1021 _ (Or.inr (⟨g1023, rfl⟩))))
            refine z_icmp_ne X (t := 72) rfl rfl ⟨by first | exact oq_fa4e5087 hi.2.2.2.2.1 | omega, by first | exact oq_85aa3fe6 g1002 | omega⟩ (by decide) (fun g1024 => ?_) (fun g1024 => ?_)
            ·
              refine z_load X (x := kd) rfl (List.Mem.tail _ (List.Mem.tail _ (List.Mem.tail _ (List.Mem.tail _ (List.Mem.tail _ (List.Mem.tail _ (List.Mem.tail _ (List.Mem.tail _ (List.Mem.tail _ (List.Mem.head _)))))))))) (z_const X rfl (z_icmp_ge X (t := 85) rfl rfl ⟨by first | exact oq_fa4e5087 hi.2.2.2.2.1 | omega, by first | exact oq_85aa3fe6 g1002 | omega⟩ (by decide) (fun g1025 => ?_) (fun g1025 => ?_)))
              ·
                refine w_lload X.1 (ax_d X (show cdA 2 85 = some (.lload 12, 2, 0, 0, 0) from rfl)) (x := j1008) (List.Mem.head _) (z_bipush X rfl (w_lushr X.1 (ax_d X (show cdA 2 89 = some (.lushr, 1, 0, 0, 0) from rfl)) (z_anyJ (fun j1026 => ?_))))
                exact N1009 _
              ·
                refine w_lload X.1 (ax_d X (show cdA 2 78 = some (.lload 12, 2, 0, 0, 0) from rfl)) (x := j1008) (List.Mem.head _) (z_const X rfl (w_lushr X.1 (ax_d X (show cdA 2 81 = some (.lushr, 1, 0, 0, 0) from rfl)) (z_anyJ (fun j1027 => ?_))))
                exact z_goto X (t := 90) rfl rfl (N1009 _)
            ·
              exact w_lload X.1 (ax_d X (show cdA 2 67 = some (.lload 4, 2, 0, 0, 0) from rfl)) (x := bv) (List.Mem.tail _ (List.Mem.tail _ (List.Mem.tail _ (List.Mem.tail _ (List.Mem.tail _ (List.Mem.head _)))))) (z_goto X (t := 90) rfl rfl (N1009 _))
          refine z_icmp_eq X (t := 53) rfl rfl ⟨by first | exact oq_fa4e5087 hi.2.2.2.2.1 | omega, by first | exact oq_85aa3fe6 g1002 | omega⟩ (by decide) (fun g1028 => ?_) (fun g1028 => ?_)
          ·
            exact w_lload X.1 (ax_d X (show cdA 2 53 = some (.lload 4, 2, 0, 0, 0) from rfl)) (x := bv) (List.Mem.tail _ (List.Mem.tail _ (List.Mem.tail _ (List.Mem.tail _ (List.Mem.head _))))) (z_goto X (t := 59) rfl rfl (N1007 _))
          ·
            refine z_load X (x := kd) rfl (List.Mem.tail _ (List.Mem.tail _ (List.Mem.tail _ (List.Mem.tail _ (List.Mem.tail _ (List.Mem.tail _ (List.Mem.tail _ (List.Mem.tail _ (List.Mem.head _))))))))) (z_const X rfl (z_icmp_ne X (t := 58) rfl rfl ⟨by first | exact oq_fa4e5087 hi.2.2.2.2.1 | omega, by first | exact oq_85aa3fe6 g1002 | omega⟩ (by decide) (fun g1029 => ?_) (fun g1029 => ?_)))
            ·
              exact w_lload_n X.1 (ax_d X (show cdA 2 58 = some (.lload_n 2, 1, 0, 0, 0) from rfl)) (x := av) (List.Mem.tail _ (List.Mem.tail _ (List.Mem.tail _ (List.Mem.head _)))) (N1007 _)
            ·
              exact w_lload X.1 (ax_d X (show cdA 2 53 = some (.lload 4, 2, 0, 0, 0) from rfl)) (x := bv) (List.Mem.tail _ (List.Mem.tail _ (List.Mem.tail _ (List.Mem.tail _ (List.Mem.head _))))) (z_goto X (t := 59) rfl rfl (N1007 _))
  refine z_const X rfl (z_store X (lv' := [(6, .int (Int32.ofInt 0)), (0, .ref (A 113)), (1, .int (Int32.ofInt x)), (2, .long aj), (4, .long bj)]) rfl (by decide) (fun _ h => h) (z_const X rfl (z_store X (lv' := [(7, .int (Int32.ofInt 0)), (6, .int (Int32.ofInt 0)), (0, .ref (A 113)), (1, .int (Int32.ofInt x)), (2, .long aj), (4, .long bj)]) rfl (by decide) (fun _ h => h) (z_const X rfl (z_store X (lv' := [(8, .int (Int32.ofInt 0)), (7, .int (Int32.ofInt 0)), (6, .int (Int32.ofInt 0)), (0, .ref (A 113)), (1, .int (Int32.ofInt x)), (2, .long aj), (4, .long bj)]) rfl (by decide) (fun _ h => h) (z_const X rfl (z_store X (lv' := [(9, .int (Int32.ofInt 0)), (8, .int (Int32.ofInt 0)), (7, .int (Int32.ofInt 0)), (6, .int (Int32.ofInt 0)), (0, .ref (A 113)), (1, .int (Int32.ofInt x)), (2, .long aj), (4, .long bj)]) rfl (by decide) (fun _ h => h) (WS_pq [4, 5, 6, 7, 3, 2, 1, 0] (lv' := [(0, .ref (A 113)), (1, .int (Int32.ofInt x)), (2, .long aj), (4, .long bj), (6, .int (Int32.ofInt 0)), (7, .int (Int32.ofInt 0)), (8, .int (Int32.ofInt 0)), (9, .int (Int32.ofInt 0))]) rfl (L12 ((5 - 0 : Int).toNat + 1) s x aj bj 0 0 0 0 I F (by first | exact ⟨And.intro (p0.1) (p0.2), And.intro (by decide) (by decide), And.intro (by decide) (by decide), And.intro (by decide) (by decide), by decide, by decide, p1⟩ | omega) (Nat.lt_succ_self _) ?_)))))))))
  intro s2 x3 x4 x5 x6 Is2 Fs2 hs2
  have b7 := bi_52 Is2
  refine z_aload_n X (x := A 113) rfl (List.Mem.head _) (s_getR X 113 rfl (c518_ok rfl) rfl rfl (z_aload_n X (x := A 113) rfl (List.Mem.head _) (z_getI X 113 rfl (c518_ok rfl) rfl rfl ?_)))
  have b8 := bi_52 Is2
  refine z_load X (x := x3) rfl (List.Mem.tail _ (List.Mem.tail _ (List.Mem.tail _ (List.Mem.tail _ (List.Mem.head _))))) (z_ast X 115 rfl (c518_ok rfl) rfl (by first | exact b8.1 | omega) (show (iI s2 52) < 12 by first | exact oq_0ddfcfee hs2.2.2.2.2.2.2 | omega) (cbig_ok rfl) (wd_gen (fun s9 hs9 => ?_)))
  have Is9 : Bd s9 := eqB hs9 (bd_C Is2 (show ((-2147483648) : Int) ≤ x3 ∧ x3 ≤ 2147483647 by first | exact ⟨hs2.2.1.1, hs2.2.1.2⟩ | omega) ⟨by first | exact hs2.2.1.1 | omega, by first | exact hs2.2.1.2 | omega⟩)
  have Fs9 := eqF hs9 (fm_C Fs2 (inl_ok (a := 99) rfl))
  have ws9_52 : iI s9 52 = iI s2 52 := eqI hs9 rfl
  refine z_aload_n X (x := A 113) rfl (List.Mem.head _) (s_getR X 113 rfl (c518_ok rfl) rfl rfl (z_aload_n X (x := A 113) rfl (List.Mem.head _) (z_getI X 113 rfl (c518_ok rfl) rfl rfl ?_)))
  have b10 := bi_52 Is9
  refine z_load X (x := x4) rfl (List.Mem.tail _ (List.Mem.tail _ (List.Mem.tail _ (List.Mem.tail _ (List.Mem.tail _ (List.Mem.head _)))))) (z_ast X 116 rfl (c518_ok rfl) rfl (by first | exact b10.1 | omega) (show (iI s9 52) < 12 by first | exact oq_210fcd76 ws9_52 hs2.2.2.2.2.2.2 | omega) (cbig_ok rfl) (wd_gen (fun s11 hs11 => ?_)))
  have Is11 : Bd s11 := eqB hs11 (bd_C Is9 (show ((-2147483648) : Int) ≤ x4 ∧ x4 ≤ 2147483647 by first | exact ⟨hs2.2.2.1.1, hs2.2.2.1.2⟩ | omega) ⟨by first | exact hs2.2.2.1.1 | omega, by first | exact hs2.2.2.1.2 | omega⟩)
  have Fs11 := eqF hs11 (fm_C Fs9 (inl_ok (a := 100) rfl))
  have ws11_52 : iI s11 52 = iI s9 52 := eqI hs11 rfl
  refine z_aload_n X (x := A 113) rfl (List.Mem.head _) (s_getR X 113 rfl (c518_ok rfl) rfl rfl (z_aload_n X (x := A 113) rfl (List.Mem.head _) (z_getI X 113 rfl (c518_ok rfl) rfl rfl ?_)))
  have b12 := bi_52 Is11
  refine z_load X (x := x5) rfl (List.Mem.tail _ (List.Mem.tail _ (List.Mem.tail _ (List.Mem.tail _ (List.Mem.tail _ (List.Mem.tail _ (List.Mem.head _))))))) (z_ast X 117 rfl (c518_ok rfl) rfl (by first | exact b12.1 | omega) (show (iI s11 52) < 12 by first | exact oq_e2284db0 ws11_52 ws9_52 hs2.2.2.2.2.2.2 | omega) (cbig_ok rfl) (wd_gen (fun s13 hs13 => ?_)))
  have Is13 : Bd s13 := eqB hs13 (bd_C Is11 (show ((-2147483648) : Int) ≤ x5 ∧ x5 ≤ 2147483647 by first | exact ⟨hs2.2.2.2.1.1, hs2.2.2.2.1.2⟩ | omega) ⟨by first | exact hs2.2.2.2.1.1 | omega, by first | exact hs2.2.2.2.1.2 | omega⟩)
  have Fs13 := eqF hs13 (fm_C Fs11 (inl_ok (a := 101) rfl))
  have ws13_52 : iI s13 52 = iI s11 52 := eqI hs13 rfl
  exact w_vret X.1 q hRt (ax_d X (show cdA 2 181 = some (.return_, 1, 0, 0, 0) from rfl)) (Nat.zero_le _) (Nat.zero_le _) ⟨_, rfl, Is13, Fs13, rfl, trivial⟩
set_option maxRecDepth 4000 in
theorem c0_listen_113 (G : GX l s0 D tys a0 dT) (I : Bd s) {x : Int} {aj bj : Int64} (p0 : rng x) : CT l s0 D A dT 1 (rmN 1) [.ref (A 113), .long aj, .long bj, .int (Int32.ofInt x)] s (fun o t => Bd t ∧ Fm [52, 53] [105, 98, 99, 100, 101, 102, 103, 104] s t ∧ o = .inl none ∧ (True)) := by
  refine ct_ofX G (by decide) (Nat.le_of_ble_eq_true rfl) (fun k X E ET hRt hXt q => ?_)
  show WS k 0 [(0, .ref (A 113)), (1, .long aj), (3, .long bj), (5, .int (Int32.ofInt x))] [] _ 0 0
  have F : Fm [52, 53] [105, 98, 99, 100, 101, 102, 103, 104] s s := fm_rf _ _ s
  have b1 := bi_52 I
  have b2 := bi_53 I
  have b3 := bi_43 I
  have b4 := bi_44 I
  have L42 : ∀ (n : Nat) (t : PS) (av : Int64) (bv : Int64) (c : Int), Bd t → Fm [52, 53] [105, 98, 99, 100, 101, 102, 103, 104] s t → (0 ≤ c ∧ c ≤ 12 ∧ iI t 52 ≤ c) → (12 - c : Int).toNat < n → (∀ (t' : PS) (c' : Int), Bd t' → Fm [52, 53] [105, 98, 99, 100, 101, 102, 103, 104] s t' → (0 ≤ c' ∧ c' ≤ 12 ∧ iI t' 52 ≤ c') → WS k 125 [(0, .ref (A 113)), (1, .long av), (3, .long bv), (6, .int (Int32.ofInt c'))] [] (Wd A dT t') 0 0) → WS k 42 [(0, .ref (A 113)), (1, .long av), (3, .long bv), (6, .int (Int32.ofInt c))] [] (Wd A dT t) 0 0 := by
    intro n
    induction n with
    | zero =>
      intro t av bv c I F hi hm kx
      exact absurd hm (Nat.not_lt_zero _)
    | succ n ih =>
      intro t av bv c I F hi hm kx
      have b1001 := bi_52 I
      have b1002 := bi_53 I
      have b1003 := bi_43 I
      have b1004 := bi_44 I
      refine z_load X (x := c) rfl (List.Mem.tail _ (List.Mem.tail _ (List.Mem.tail _ (List.Mem.head _)))) (z_aload_n X (x := A 113) rfl (List.Mem.head _) (s_getR X 113 rfl (c518_ok rfl) rfl rfl (z_getI X 68 rfl (c518_ok rfl) rfl rfl ?_)))
      have b1005 := bi_43 I
      refine z_icmp_ge X (t := 125) rfl rfl ⟨by first | exact oq_fa4e5087 hi.1 | omega, by first | exact oq_78843a64 hi.2.1 | omega⟩ (rng_to _) (fun g1006 => ?_) (fun g1006 => ?_)
      ·
        refine WS_pq [0, 1, 2, 3] (lv' := [(0, .ref (A 113)), (1, .long av), (3, .long bv), (6, .int (Int32.ofInt c))]) rfl ?_
        exact kx _ c I F (by first | exact ⟨hi.1, hi.2.1, hi.2.2⟩ | omega)
      ·
        refine z_aload_n X (x := A 113) rfl (List.Mem.head _) (s_getR X 113 rfl (c518_ok rfl) rfl rfl (s_getR X 68 rfl (c518_ok rfl) rfl rfl (z_load X (x := c) rfl (List.Mem.tail _ (List.Mem.tail _ (List.Mem.tail _ (List.Mem.head _)))) (z_const X rfl (z_mul X rfl (z_lald X 71 rfl (c518_ok rfl) rfl (by first | exact oq_cfc6ac54 hi.1 | omega) (show (c * 2) < 24 by first | exact oq_e062d2c8 g1006 b1005.2 | omega) (cbig_ok rfl) (fun j1007 => ?_)))))))
        refine w_lload_n X.1 (ax_d X (show cdA 1 66 = some (.lload_n 1, 1, 0, 0, 0) from rfl)) (x := av) (List.Mem.tail _ (List.Mem.head _)) (w_land X.1 (ax_d X (show cdA 1 67 = some (.land, 1, 0, 0, 0) from rfl)) (z_anyJ (fun j1008 => ?_)))
        refine z_aload_n X (x := A 113) rfl (List.Mem.head _) (s_getR X 113 rfl (c518_ok rfl) rfl rfl (s_getR X 68 rfl (c518_ok rfl) rfl rfl (z_load X (x := c) rfl (List.Mem.tail _ (List.Mem.tail _ (List.Mem.tail _ (List.Mem.head _)))) (z_const X rfl (z_mul X rfl (z_const X rfl (z_add X rfl (z_lald X 71 rfl (c518_ok rfl) rfl (by first | exact oq_8a3e0277 hi.1 | omega) (show ((c * 2) + 1) < 24 by first | exact oq_0edc0603 g1006 b1005.2 | omega) (cbig_ok rfl) (fun j1009 => ?_)))))))))
        refine w_lload_n X.1 (ax_d X (show cdA 1 82 = some (.lload_n 3, 1, 0, 0, 0) from rfl)) (x := bv) (List.Mem.tail _ (List.Mem.tail _ (List.Mem.head _))) (w_land X.1 (ax_d X (show cdA 1 83 = some (.land, 1, 0, 0, 0) from rfl)) (z_anyJ (fun j1010 => ?_)))
        refine w_lor X.1 (ax_d X (show cdA 1 84 = some (.lor, 1, 0, 0, 0) from rfl)) (z_anyJ (fun j1011 => ?_))
        refine w_lconst X.1 (ax_d X (show cdA 1 85 = some (.lconst 0, 1, 0, 0, 0) from rfl)) rfl (z_anyJ (fun j1012 => ?_))
        refine w_lcmp X.1 (ax_d X (show cdA 1 86 = some (.lcmp, 1, 0, 0, 0) from rfl)) (z_any (fun y1013 hy1013 => ?_))
        refine z_if_eq X (t := 119) rfl rfl hy1013 (fun g1014 => ?_) (fun g1014 => ?_)
        ·
          refine z_inc X (x := c) (lv' := [(6, .int (Int32.ofInt (c + 1))), (0, .ref (A 113)), (1, .long av), (3, .long bv)]) rfl (by decide) (List.Mem.tail _ (List.Mem.tail _ (List.Mem.tail _ (List.Mem.head _)))) (fun _ h => h) (z_goto X (t := 42) rfl rfl (WS_pq [1, 2, 3, 0] (lv' := [(0, .ref (A 113)), (1, .long av), (3, .long bv), (6, .int (Int32.ofInt (c + 1)))]) rfl ?_))
          exact ih _ av bv (c + 1) I F (by first | exact ⟨oq_54f49eb5 hi.1, oq_4dae995e g1006 b1005.2, oq_03182e9e hi.2.2⟩ | omega) (by first | exact qk_me hm (by decide) (oq_b575e8c1 g1006 b1005.2) | omega) kx
        ·
          refine z_aload_n X (x := A 113) rfl (List.Mem.head _) (s_getR X 113 rfl (c518_ok rfl) rfl rfl (z_aload_n X (x := A 113) rfl (List.Mem.head _) (z_getI X 113 rfl (c518_ok rfl) rfl rfl ?_)))
          have b1015 := bi_52 I
          refine z_load X (x := c) rfl (List.Mem.tail _ (List.Mem.tail _ (List.Mem.tail _ (List.Mem.head _)))) (z_ast X 114 rfl (c518_ok rfl) rfl (by first | exact b1015.1 | omega) (show (iI t 52) < 12 by first | exact oq_79196c7f hi.2.2 g1006 b1005.2 | omega) (cbig_ok rfl) (wd_gen (fun s1016 hs1016 => ?_)))
          have Is1016 : Bd s1016 := eqB hs1016 (bd_C I (show (0 : Int) ≤ c ∧ c ≤ 11 by first | exact ⟨hi.1, oq_e4d7f3c5 g1006 b1005.2⟩ | omega) ⟨by first | exact oq_fa4e5087 hi.1 | omega, by first | exact oq_78843a64 hi.2.1 | omega⟩)
          have Fs1016 := eqF hs1016 (fm_C F (inl_ok (a := 98) rfl))
          have ws1016_52 : iI s1016 52 = iI t 52 := eqI hs1016 rfl
          have ws1016_53 : iI s1016 53 = iI t 53 := eqI hs1016 rfl
          have ws1016_43 : iI s1016 43 = iI t 43 := eqI hs1016 rfl
          have ws1016_44 : iI s1016 44 = iI t 44 := eqI hs1016 rfl
          refine z_aload_n X (x := A 113) rfl (List.Mem.head _) (z_load X (x := c) rfl (List.Mem.tail _ (List.Mem.tail _ (List.Mem.tail _ (List.Mem.head _)))) (w_lload_n X.1 (ax_d X (show cdA 1 104 = some (.lload_n 1, 1, 0, 0, 0) from rfl)) (x := av) (List.Mem.tail _ (List.Mem.head _)) (w_lload_n X.1 (ax_d X (show cdA 1 105 = some (.lload_n 3, 1, 0, 0, 0) from rfl)) (x := bv) (List.Mem.tail _ (List.Mem.tail _ (List.Mem.head _))) (zcV_v0 X E 113 (As := [.int (Int32.ofInt c), .long av, .long bv]) (st := []) rfl rfl rfl rfl (c0_followSteps_113 G Is1016 (by first | exact ⟨hi.1, oq_e4d7f3c5 g1006 b1005.2⟩ | omega) (by first | exact oq_2f168143 ws1016_52 hi.2.2 g1006 b1005.2 | omega)) rfl (Nat.le_of_ble_eq_true rfl) (fun s1017 Is1017 Fs1017 hps1017 => ?_)))))
          have Gs1017 := fm_tq Fs1016 Fs1017 rfl rfl
          have ws1017_52 : iI s1017 52 = iI s1016 52 := fm_iq Fs1017 rfl
          have ws1017_53 : iI s1017 53 = iI s1016 53 := fm_iq Fs1017 rfl
          have ws1017_43 : iI s1017 43 = iI s1016 43 := fm_iq Fs1017 rfl
          have ws1017_44 : iI s1017 44 = iI s1016 44 := fm_iq Fs1017 rfl
          refine z_aload_n X (x := A 113) rfl (List.Mem.head _) (w_dup X.1 (ax_d X (show cdA 1 110 = some (.dup, 1, 0, 0, 0) from rfl)) rfl (z_getI X 113 rfl (c518_ok rfl) rfl rfl ?_))
          have b1019 := bi_52 Is1017
          refine z_const X rfl (z_add X rfl (s_putI X 113 rfl (c518_ok rfl) rfl rfl (by decide) rfl rfl rfl (wd_gen (fun s1020 hs1020 => ?_))))
          have Is1020 : Bd s1020 := eqB hs1020 (bd_I Is1017 (show (0 : Int) ≤ ((iI s1017 52) + 1) ∧ ((iI s1017 52) + 1) ≤ 12 by first | exact ⟨oq_54f49eb5 b1019.1, oq_1fea0193 ws1017_52 ws1016_52 hi.2.2 g1006 b1005.2⟩ | omega) ⟨by first | exact oq_74de1e16 b1019.1 | omega, by first | exact oq_76a8a5b7 b1019.2 | omega⟩)
          have Fs1020 := eqF hs1020 (fm_I Gs1017 (inl_ok (a := 52) rfl))
          have vs1020 : iI s1020 52 = ((iI s1017 52) + 1) := eqI hs1020 (iI_u ⟨by first | exact oq_74de1e16 b1019.1 | omega, by first | exact oq_76a8a5b7 b1019.2 | omega⟩)
          have ws1020_53 : iI s1020 53 = iI s1017 53 := eqI hs1020 rfl
          have ws1020_43 : iI s1020 43 = iI s1017 43 := eqI hs1020 rfl
          have ws1020_44 : iI s1020 44 = iI s1017 44 := eqI hs1020 rfl
          refine z_inc X (x := c) (lv' := [(6, .int (Int32.ofInt (c + 1))), (0, .ref (A 113)), (1, .long av), (3, .long bv)]) rfl (by decide) (List.Mem.tail _ (List.Mem.tail _ (List.Mem.tail _ (List.Mem.head _)))) (fun _ h => h) (z_goto X (t := 42) rfl rfl (WS_pq [1, 2, 3, 0] (lv' := [(0, .ref (A 113)), (1, .long av), (3, .long bv), (6, .int (Int32.ofInt (c + 1)))]) rfl ?_))
          exact ih _ av bv (c + 1) Is1020 Fs1020 (by first | exact ⟨oq_54f49eb5 hi.1, oq_4dae995e g1006 b1005.2, oq_ecb13324 vs1020 hi.2.2 ws1017_52 ws1016_52⟩ | omega) (by first | exact qk_me hm (by decide) (oq_b575e8c1 g1006 b1005.2) | omega) kx
  have L133 : ∀ (n : Nat) (t : PS) (av : Int64) (bv : Int64) (c : Int), Bd t → Fm [52, 53] [105, 98, 99, 100, 101, 102, 103, 104] s t → (0 ≤ c ∧ c ≤ 66 ∧ iI t 53 ≤ c) → (66 - c : Int).toNat < n → (∀ (t' : PS) (c' : Int), Bd t' → Fm [52, 53] [105, 98, 99, 100, 101, 102, 103, 104] s t' → (0 ≤ c' ∧ c' ≤ 66 ∧ iI t' 53 ≤ c') → WS k 260 [(0, .ref (A 113)), (1, .long av), (3, .long bv), (6, .int (Int32.ofInt c'))] [] (Wd A dT t') 0 0) → WS k 133 [(0, .ref (A 113)), (1, .long av), (3, .long bv), (6, .int (Int32.ofInt c))] [] (Wd A dT t) 0 0 := by
    intro n
    induction n with
    | zero =>
      intro t av bv c I F hi hm kx
      exact absurd hm (Nat.not_lt_zero _)
    | succ n ih =>
      intro t av bv c I F hi hm kx
      have b2001 := bi_52 I
      have b2002 := bi_53 I
      have b2003 := bi_43 I
      have b2004 := bi_44 I
      refine z_load X (x := c) rfl (List.Mem.tail _ (List.Mem.tail _ (List.Mem.tail _ (List.Mem.head _)))) (z_aload_n X (x := A 113) rfl (List.Mem.head _) (s_getR X 113 rfl (c518_ok rfl) rfl rfl (z_getI X 68 rfl (c518_ok rfl) rfl rfl ?_)))
      have b2005 := bi_44 I
      refine z_icmp_ge X (t := 260) rfl rfl ⟨by first | exact oq_fa4e5087 hi.1 | omega, by first | exact oq_64f2e926 hi.2.1 | omega⟩ (rng_to _) (fun g2006 => ?_) (fun g2006 => ?_)
      ·
        refine WS_pq [0, 1, 2, 3] (lv' := [(0, .ref (A 113)), (1, .long av), (3, .long bv), (6, .int (Int32.ofInt c))]) rfl ?_
        exact kx _ c I F (by first | exact ⟨hi.1, hi.2.1, hi.2.2⟩ | omega)
      ·
        refine z_aload_n X (x := A 113) rfl (List.Mem.head _) (s_getR X 113 rfl (c518_ok rfl) rfl rfl (s_getR X 68 rfl (c518_ok rfl) rfl rfl (z_load X (x := c) rfl (List.Mem.tail _ (List.Mem.tail _ (List.Mem.tail _ (List.Mem.head _)))) (z_const X rfl (z_mul X rfl (z_lald X 75 rfl (c518_ok rfl) rfl (by first | exact oq_cfc6ac54 hi.1 | omega) (show (c * 2) < 132 by first | exact oq_ff78435a g2006 b2005.2 | omega) (cbig_ok rfl) (fun j2007 => ?_)))))))
        refine w_lload_n X.1 (ax_d X (show cdA 1 157 = some (.lload_n 1, 1, 0, 0, 0) from rfl)) (x := av) (List.Mem.tail _ (List.Mem.head _)) (w_land X.1 (ax_d X (show cdA 1 158 = some (.land, 1, 0, 0, 0) from rfl)) (z_anyJ (fun j2008 => ?_)))
        refine zcS_i0 X E (As := [.long j2008]) (st := []) rfl rfl (j_bitL G I ) rfl (Nat.le_of_ble_eq_true rfl) (fun s2009 e2010 Is2009 Fs2009 hrs2009 hps2009 => ?_)
        have Gs2009 := fm_tq F Fs2009 rfl rfl
        have ws2009_52 : iI s2009 52 = iI t 52 := fm_iq Fs2009 rfl
        have ws2009_53 : iI s2009 53 = iI t 53 := fm_iq Fs2009 rfl
        have ws2009_43 : iI s2009 43 = iI t 43 := fm_iq Fs2009 rfl
        have ws2009_44 : iI s2009 44 = iI t 44 := fm_iq Fs2009 rfl
        refine z_aload_n X (x := A 113) rfl (List.Mem.head _) (s_getR X 113 rfl (c518_ok rfl) rfl rfl (s_getR X 68 rfl (c518_ok rfl) rfl rfl (z_load X (x := c) rfl (List.Mem.tail _ (List.Mem.tail _ (List.Mem.tail _ (List.Mem.head _)))) (z_const X rfl (z_mul X rfl (z_const X rfl (z_add X rfl (z_lald X 75 rfl (c518_ok rfl) rfl (by first | exact oq_8a3e0277 hi.1 | omega) (show ((c * 2) + 1) < 132 by first | exact oq_643e2065 g2006 b2005.2 | omega) (cbig_ok rfl) (fun j2011 => ?_)))))))))
        refine w_lload_n X.1 (ax_d X (show cdA 1 176 = some (.lload_n 3, 1, 0, 0, 0) from rfl)) (x := bv) (List.Mem.tail _ (List.Mem.tail _ (List.Mem.head _))) (w_land X.1 (ax_d X (show cdA 1 177 = some (.land, 1, 0, 0, 0) from rfl)) (z_anyJ (fun j2012 => ?_)))
        refine zcS_i0 X E (As := [.long j2012]) (st := [.int (Int32.ofInt e2010)]) rfl rfl (j_bitL G Is2009 ) rfl (Nat.le_of_ble_eq_true rfl) (fun s2013 e2014 Is2013 Fs2013 hrs2013 hps2013 => ?_)
        have Gs2013 := fm_tq Gs2009 Fs2013 rfl rfl
        have ws2013_52 : iI s2013 52 = iI s2009 52 := fm_iq Fs2013 rfl
        have ws2013_53 : iI s2013 53 = iI s2009 53 := fm_iq Fs2013 rfl
        have ws2013_43 : iI s2013 43 = iI s2009 43 := fm_iq Fs2013 rfl
        have ws2013_44 : iI s2013 44 = iI s2009 44 := fm_iq Fs2013 rfl
        refine z_add X rfl (z_any (fun y2015 hy2015 => ?_))
        refine z_store X (lv' := [(7, .int (Int32.ofInt y2015)), (0, .ref (A 113)), (1, .long av), (3, .long bv), (6, .int (Int32.ofInt c))]) rfl (by decide) (fun _ h => h) (z_load X (x := y2015) rfl (List.Mem.head _) (z_if_le X (t := 254) rfl rfl hy2015 (fun g2016 => ?_) (fun g2016 => ?_)))
        ·
          refine z_inc X (x := c) (lv' := [(6, .int (Int32.ofInt (c + 1))), (7, .int (Int32.ofInt y2015)), (0, .ref (A 113)), (1, .long av), (3, .long bv)]) rfl (by decide) (List.Mem.tail _ (List.Mem.tail _ (List.Mem.tail _ (List.Mem.tail _ (List.Mem.head _))))) (fun _ h => h) (z_goto X (t := 133) rfl rfl (WS_pq [2, 3, 4, 0] (lv' := [(0, .ref (A 113)), (1, .long av), (3, .long bv), (6, .int (Int32.ofInt (c + 1)))]) rfl ?_))
          exact ih _ av bv (c + 1) Is2013 Gs2013 (by first | exact ⟨oq_54f49eb5 hi.1, oq_319a18a4 g2006 b2005.2, oq_2e1f687c ws2013_53 hi.2.2 ws2009_53⟩ | omega) (by first | exact qk_me hm (by decide) (oq_dd0e9829 g2006 b2005.2) | omega) kx
        ·
          refine z_aload_n X (x := A 113) rfl (List.Mem.tail _ (List.Mem.head _)) (s_getR X 113 rfl (c518_ok rfl) rfl rfl (z_aload_n X (x := A 113) rfl (List.Mem.tail _ (List.Mem.head _)) (z_getI X 113 rfl (c518_ok rfl) rfl rfl ?_)))
          have b2017 := bi_53 Is2013
          refine z_aload_n X (x := A 113) rfl (List.Mem.tail _ (List.Mem.head _)) (s_getR X 113 rfl (c518_ok rfl) rfl rfl (s_getR X 68 rfl (c518_ok rfl) rfl rfl (z_load X (x := c) rfl (List.Mem.tail _ (List.Mem.tail _ (List.Mem.tail _ (List.Mem.tail _ (List.Mem.head _))))) (z_ald X 74 rfl (c518_ok rfl) rfl (by first | exact hi.1 | omega) (show c < 66 by first | exact oq_256e4529 g2006 b2005.2 | omega) (cbig_ok rfl) ?_))))
          have b2018 := bc_62 Is2013 (show (c).toNat < 66 by first | exact oq_d7ff7873 g2006 b2005.2 | omega)
          refine z_bipush X rfl (z_quot X rfl (by first | exact b2018.1 | omega) (rng_to _) (by decide) (by decide) (z_ast X 118 rfl (c518_ok rfl) rfl (by first | exact b2017.1 | omega) (show (iI s2013 53) < 66 by first | exact oq_141bb310 ws2013_53 ws2009_53 hi.2.2 g2006 b2005.2 | omega) (cbig_ok rfl) (wd_gen (fun s2019 hs2019 => ?_))))
          have Is2019 : Bd s2019 := eqB hs2019 (bd_C Is2013 (show (0 : Int) ≤ ((iC s2013 62 (c).toNat) / 12) ∧ ((iC s2013 62 (c).toNat) / 12) ≤ 11 by first | exact ⟨oq_37eb78e0 b2018.1, oq_a03fe580 b2018.2⟩ | omega) ⟨by first | exact oq_e17ab641 b2018.1 | omega, by first | exact oq_c285d9d6 b2018.2 | omega⟩)
          have Fs2019 := eqF hs2019 (fm_C Gs2013 (inl_ok (a := 102) rfl))
          have ws2019_52 : iI s2019 52 = iI s2013 52 := eqI hs2019 rfl
          have ws2019_53 : iI s2019 53 = iI s2013 53 := eqI hs2019 rfl
          have ws2019_43 : iI s2019 43 = iI s2013 43 := eqI hs2019 rfl
          have ws2019_44 : iI s2019 44 = iI s2013 44 := eqI hs2019 rfl
          refine z_aload_n X (x := A 113) rfl (List.Mem.tail _ (List.Mem.head _)) (s_getR X 113 rfl (c518_ok rfl) rfl rfl (z_aload_n X (x := A 113) rfl (List.Mem.tail _ (List.Mem.head _)) (z_getI X 113 rfl (c518_ok rfl) rfl rfl ?_)))
          have b2020 := bi_53 Is2019
          refine z_aload_n X (x := A 113) rfl (List.Mem.tail _ (List.Mem.head _)) (s_getR X 113 rfl (c518_ok rfl) rfl rfl (s_getR X 68 rfl (c518_ok rfl) rfl rfl (z_load X (x := c) rfl (List.Mem.tail _ (List.Mem.tail _ (List.Mem.tail _ (List.Mem.tail _ (List.Mem.head _))))) (z_ald X 74 rfl (c518_ok rfl) rfl (by first | exact hi.1 | omega) (show c < 66 by first | exact oq_256e4529 g2006 b2005.2 | omega) (cbig_ok rfl) ?_))))
          have b2021 := bc_62 Is2019 (show (c).toNat < 66 by first | exact oq_d7ff7873 g2006 b2005.2 | omega)
          refine z_bipush X rfl (z_mod X rfl (by first | exact b2021.1 | omega) (rng_to _) (by decide) (by decide) (z_ast X 119 rfl (c518_ok rfl) rfl (by first | exact b2020.1 | omega) (show (iI s2019 53) < 66 by first | exact oq_47fd6e20 ws2019_53 ws2013_53 ws2009_53 g2006 b2005.2 hi.2.2 | omega) (cbig_ok rfl) (wd_gen (fun s2022 hs2022 => ?_))))
          have Is2022 : Bd s2022 := eqB hs2022 (bd_C Is2019 (show (0 : Int) ≤ ((iC s2019 62 (c).toNat) % 12) ∧ ((iC s2019 62 (c).toNat) % 12) ≤ 11 by first | exact ⟨oq_b83041cc, oq_e286272e⟩ | omega) ⟨by first | exact oq_9d26ea27 | omega, by first | exact oq_6634e3d0 | omega⟩)
          have Fs2022 := eqF hs2022 (fm_C Fs2019 (inl_ok (a := 103) rfl))
          have ws2022_52 : iI s2022 52 = iI s2019 52 := eqI hs2022 rfl
          have ws2022_53 : iI s2022 53 = iI s2019 53 := eqI hs2022 rfl
          have ws2022_43 : iI s2022 43 = iI s2019 43 := eqI hs2022 rfl
          have ws2022_44 : iI s2022 44 = iI s2019 44 := eqI hs2022 rfl
          refine z_aload_n X (x := A 113) rfl (List.Mem.tail _ (List.Mem.head _)) (s_getR X 113 rfl (c518_ok rfl) rfl rfl (z_aload_n X (x := A 113) rfl (List.Mem.tail _ (List.Mem.head _)) (z_getI X 113 rfl (c518_ok rfl) rfl rfl ?_)))
          have b2023 := bi_53 Is2022
          refine z_load X (x := y2015) rfl (List.Mem.head _) (z_ast X 120 rfl (c518_ok rfl) rfl (by first | exact b2023.1 | omega) (show (iI s2022 53) < 66 by first | exact oq_3af0036b ws2022_53 ws2019_53 ws2013_53 ws2009_53 g2006 b2005.2 hi.2.2 | omega) (cbig_ok rfl) (wd_gen (fun s2024 hs2024 => ?_)))
          have Is2024 : Bd s2024 := eqB hs2024 (bd_C Is2022 (show ((-2147483648) : Int) ≤ y2015 ∧ y2015 ≤ 2147483647 by first | exact ⟨hy2015.1, hy2015.2⟩ | omega) hy2015)
          have Fs2024 := eqF hs2024 (fm_C Fs2022 (inl_ok (a := 104) rfl))
          have ws2024_52 : iI s2024 52 = iI s2022 52 := eqI hs2024 rfl
          have ws2024_53 : iI s2024 53 = iI s2022 53 := eqI hs2024 rfl
          have ws2024_43 : iI s2024 43 = iI s2022 43 := eqI hs2024 rfl
          have ws2024_44 : iI s2024 44 = iI s2022 44 := eqI hs2024 rfl
          refine z_aload_n X (x := A 113) rfl (List.Mem.tail _ (List.Mem.head _)) (w_dup X.1 (ax_d X (show cdA 1 245 = some (.dup, 1, 0, 0, 0) from rfl)) rfl (z_getI X 113 rfl (c518_ok rfl) rfl rfl ?_))
          have b2025 := bi_53 Is2024
          refine z_const X rfl (z_add X rfl (s_putI X 113 rfl (c518_ok rfl) rfl rfl (by decide) rfl rfl rfl (wd_gen (fun s2026 hs2026 => ?_))))
          have Is2026 : Bd s2026 := eqB hs2026 (bd_I Is2024 (show (0 : Int) ≤ ((iI s2024 53) + 1) ∧ ((iI s2024 53) + 1) ≤ 66 by first | exact ⟨oq_54f49eb5 b2025.1, oq_d0eb7b2e ws2024_53 ws2022_53 ws2019_53 ws2013_53 ws2009_53 g2006 b2005.2 hi.2.2⟩ | omega) ⟨by first | exact oq_74de1e16 b2025.1 | omega, by first | exact oq_d99c2177 b2025.2 | omega⟩)
          have Fs2026 := eqF hs2026 (fm_I Fs2024 (inl_ok (a := 53) rfl))
          have vs2026 : iI s2026 53 = ((iI s2024 53) + 1) := eqI hs2026 (iI_u ⟨by first | exact oq_74de1e16 b2025.1 | omega, by first | exact oq_d99c2177 b2025.2 | omega⟩)
          have ws2026_52 : iI s2026 52 = iI s2024 52 := eqI hs2026 rfl
          have ws2026_43 : iI s2026 43 = iI s2024 43 := eqI hs2026 rfl
          have ws2026_44 : iI s2026 44 = iI s2024 44 := eqI hs2026 rfl
          refine z_inc X (x := c) (lv' := [(6, .int (Int32.ofInt (c + 1))), (7, .int (Int32.ofInt y2015)), (0, .ref (A 113)), (1, .long av), (3, .long bv)]) rfl (by decide) (List.Mem.tail _ (List.Mem.tail _ (List.Mem.tail _ (List.Mem.tail _ (List.Mem.head _))))) (fun _ h => h) (z_goto X (t := 133) rfl rfl (WS_pq [2, 3, 4, 0] (lv' := [(0, .ref (A 113)), (1, .long av), (3, .long bv), (6, .int (Int32.ofInt (c + 1)))]) rfl ?_))
          exact ih _ av bv (c + 1) Is2026 Fs2026 (by first | exact ⟨oq_54f49eb5 hi.1, oq_319a18a4 g2006 b2005.2, oq_6fc60775 vs2026 ws2024_53 ws2022_53 ws2019_53 ws2013_53 ws2009_53 hi.2.2⟩ | omega) (by first | exact qk_me hm (by decide) (oq_dd0e9829 g2006 b2005.2) | omega) kx
  refine z_aload_n X (x := A 113) rfl (List.Mem.head _) (s_getR X 113 rfl (c518_ok rfl) rfl rfl (z_const X rfl (w_lload_n X.1 (ax_d X (show cdA 1 5 = some (.lload_n 1, 1, 0, 0, 0) from rfl)) (x := aj) (List.Mem.tail _ (List.Mem.head _)) (zcS_i0 X E (As := [.long aj]) (st := [.int (Int32.ofInt 4), .ref (A 121)]) rfl rfl (j_bitL G I ) rfl (Nat.le_of_ble_eq_true rfl) (fun s5 e6 Is5 Fs5 hrs5 hps5 => ?_)))))
  have Gs5 := fm_tq F Fs5 rfl rfl
  have ws5_52 : iI s5 52 = iI s 52 := fm_iq Fs5 rfl
  have ws5_53 : iI s5 53 = iI s 53 := fm_iq Fs5 rfl
  have ws5_43 : iI s5 43 = iI s 43 := fm_iq Fs5 rfl
  have ws5_44 : iI s5 44 = iI s 44 := fm_iq Fs5 rfl
  refine w_lload_n X.1 (ax_d X (show cdA 1 9 = some (.lload_n 3, 1, 0, 0, 0) from rfl)) (x := bj) (List.Mem.tail _ (List.Mem.tail _ (List.Mem.head _))) (zcS_i0 X E (As := [.long bj]) (st := [.int (Int32.ofInt e6), .int (Int32.ofInt 4), .ref (A 121)]) rfl rfl (j_bitL G Is5 ) rfl (Nat.le_of_ble_eq_true rfl) (fun s7 e8 Is7 Fs7 hrs7 hps7 => ?_))
  have Gs7 := fm_tq Gs5 Fs7 rfl rfl
  have ws7_52 : iI s7 52 = iI s5 52 := fm_iq Fs7 rfl
  have ws7_53 : iI s7 53 = iI s5 53 := fm_iq Fs7 rfl
  have ws7_43 : iI s7 43 = iI s5 43 := fm_iq Fs7 rfl
  have ws7_44 : iI s7 44 = iI s5 44 := fm_iq Fs7 rfl
  refine z_add X rfl (z_any (fun y9 hy9 => ?_))
  refine z_ast X 121 rfl (c518_ok rfl) rfl (by decide) (show 4 < 7 by decide) (cbig_ok rfl) (wd_gen (fun s10 hs10 => ?_))
  have Is10 : Bd s10 := eqB hs10 (bd_C Is7 (show ((-2147483648) : Int) ≤ y9 ∧ y9 ≤ 2147483647 by first | exact ⟨hy9.1, hy9.2⟩ | omega) hy9)
  have Fs10 := eqF hs10 (fm_C Gs7 (inl_ok (a := 105) rfl))
  have ws10_52 : iI s10 52 = iI s7 52 := eqI hs10 rfl
  have ws10_53 : iI s10 53 = iI s7 53 := eqI hs10 rfl
  have ws10_43 : iI s10 43 = iI s7 43 := eqI hs10 rfl
  have ws10_44 : iI s10 44 = iI s7 44 := eqI hs10 rfl
  refine z_aload_n X (x := A 113) rfl (List.Mem.head _) (s_getR X 113 rfl (c518_ok rfl) rfl rfl (z_const X rfl (w_lload_n X.1 (ax_d X (show cdA 1 20 = some (.lload_n 1, 1, 0, 0, 0) from rfl)) (x := aj) (List.Mem.tail _ (List.Mem.head _)) (zcS_i0 X E (As := [.long aj]) (st := [.int (Int32.ofInt 5), .ref (A 121)]) rfl rfl (j_bitL G Is10 ) rfl (Nat.le_of_ble_eq_true rfl) (fun s11 e12 Is11 Fs11 hrs11 hps11 => ?_)))))
  have Gs11 := fm_tq Fs10 Fs11 rfl rfl
  have ws11_52 : iI s11 52 = iI s10 52 := fm_iq Fs11 rfl
  have ws11_53 : iI s11 53 = iI s10 53 := fm_iq Fs11 rfl
  have ws11_43 : iI s11 43 = iI s10 43 := fm_iq Fs11 rfl
  have ws11_44 : iI s11 44 = iI s10 44 := fm_iq Fs11 rfl
  refine z_ast X 121 rfl (c518_ok rfl) rfl (by decide) (show 5 < 7 by decide) (cbig_ok rfl) (wd_gen (fun s13 hs13 => ?_))
  have Is13 : Bd s13 := eqB hs13 (bd_C Is11 (show ((-2147483648) : Int) ≤ e12 ∧ e12 ≤ 2147483647 by omega) hrs11)
  have Fs13 := eqF hs13 (fm_C Gs11 (inl_ok (a := 105) rfl))
  have ws13_52 : iI s13 52 = iI s11 52 := eqI hs13 rfl
  have ws13_53 : iI s13 53 = iI s11 53 := eqI hs13 rfl
  have ws13_43 : iI s13 43 = iI s11 43 := eqI hs13 rfl
  have ws13_44 : iI s13 44 = iI s11 44 := eqI hs13 rfl
  refine z_aload_n X (x := A 113) rfl (List.Mem.head _) (s_getR X 113 rfl (c518_ok rfl) rfl rfl (z_bipush X rfl (z_load X (x := x) rfl (List.Mem.tail _ (List.Mem.tail _ (List.Mem.tail _ (List.Mem.head _)))) (z_ast X 121 rfl (c518_ok rfl) rfl (by decide) (show 6 < 7 by decide) (cbig_ok rfl) (wd_gen (fun s14 hs14 => ?_))))))
  have Is14 : Bd s14 := eqB hs14 (bd_C Is13 (show ((-2147483648) : Int) ≤ x ∧ x ≤ 2147483647 by first | exact ⟨p0.1, p0.2⟩ | omega) ⟨by first | exact p0.1 | omega, by first | exact p0.2 | omega⟩)
  have Fs14 := eqF hs14 (fm_C Fs13 (inl_ok (a := 105) rfl))
  have ws14_52 : iI s14 52 = iI s13 52 := eqI hs14 rfl
  have ws14_53 : iI s14 53 = iI s13 53 := eqI hs14 rfl
  have ws14_43 : iI s14 43 = iI s13 43 := eqI hs14 rfl
  have ws14_44 : iI s14 44 = iI s13 44 := eqI hs14 rfl
  refine z_aload_n X (x := A 113) rfl (List.Mem.head _) (z_const X rfl (s_putI X 113 rfl (c518_ok rfl) rfl rfl (by decide) rfl rfl rfl (wd_gen (fun s15 hs15 => ?_))))
  have Is15 : Bd s15 := eqB hs15 (bd_I Is14 (show (0 : Int) ≤ 0 ∧ 0 ≤ 12 by first | exact ⟨by decide, by decide⟩ | omega) (by decide))
  have Fs15 := eqF hs15 (fm_I Fs14 (inl_ok (a := 52) rfl))
  have vs15 : iI s15 52 = 0 := eqI hs15 (iI_u (by decide))
  have ws15_53 : iI s15 53 = iI s14 53 := eqI hs15 rfl
  have ws15_43 : iI s15 43 = iI s14 43 := eqI hs15 rfl
  have ws15_44 : iI s15 44 = iI s14 44 := eqI hs15 rfl
  refine z_const X rfl (z_store X (lv' := [(6, .int (Int32.ofInt 0)), (0, .ref (A 113)), (1, .long aj), (3, .long bj), (5, .int (Int32.ofInt x))]) rfl (by decide) (fun _ h => h) (WS_pq [1, 2, 3, 0] (lv' := [(0, .ref (A 113)), (1, .long aj), (3, .long bj), (6, .int (Int32.ofInt 0))]) rfl (L42 ((12 - 0 : Int).toNat + 1) s15 aj bj 0 Is15 Fs15 (by first | exact ⟨by decide, by decide, oq_1af0b4f8 vs15⟩ | omega) (Nat.lt_succ_self _) ?_)))
  intro s16 x17 Is16 Fs16 hs16
  have b18 := bi_52 Is16
  have b19 := bi_53 Is16
  have b20 := bi_43 Is16
  have b21 := bi_44 Is16
  refine z_aload_n X (x := A 113) rfl (List.Mem.head _) (z_const X rfl (s_putI X 113 rfl (c518_ok rfl) rfl rfl (by decide) rfl rfl rfl (wd_gen (fun s22 hs22 => ?_))))
  have Is22 : Bd s22 := eqB hs22 (bd_I Is16 (show (0 : Int) ≤ 0 ∧ 0 ≤ 66 by first | exact ⟨by decide, by decide⟩ | omega) (by decide))
  have Fs22 := eqF hs22 (fm_I Fs16 (inl_ok (a := 53) rfl))
  have vs22 : iI s22 53 = 0 := eqI hs22 (iI_u (by decide))
  have ws22_52 : iI s22 52 = iI s16 52 := eqI hs22 rfl
  have ws22_43 : iI s22 43 = iI s16 43 := eqI hs22 rfl
  have ws22_44 : iI s22 44 = iI s16 44 := eqI hs22 rfl
  refine z_const X rfl (z_store X (lv' := [(6, .int (Int32.ofInt 0)), (0, .ref (A 113)), (1, .long aj), (3, .long bj)]) rfl (by decide) (fun _ h => h) (WS_pq [1, 2, 3, 0] (lv' := [(0, .ref (A 113)), (1, .long aj), (3, .long bj), (6, .int (Int32.ofInt 0))]) rfl (L133 ((66 - 0 : Int).toNat + 1) s22 aj bj 0 Is22 Fs22 (by first | exact ⟨by decide, by decide, oq_1af0b4f8 vs22⟩ | omega) (Nat.lt_succ_self _) ?_)))
  intro s23 x24 Is23 Fs23 hs23
  have b25 := bi_52 Is23
  have b26 := bi_53 Is23
  have b27 := bi_43 Is23
  have b28 := bi_44 Is23
  exact w_vret X.1 q hRt (ax_d X (show cdA 1 260 = some (.return_, 1, 0, 0, 0) from rfl)) (Nat.zero_le _) (Nat.zero_le _) ⟨_, rfl, Is23, Fs23, rfl, trivial⟩
set_option maxRecDepth 4000 in
theorem c0_hear_113 (G : GX l s0 D tys a0 dT) (I : Bd s) {x y : Int} (p0 : 0 ≤ x ∧ x ≤ 23) (p1 : rng y) : CT l s0 D A dT 3 (rmN 3) [.ref (A 113), .int (Int32.ofInt x), .int (Int32.ofInt y)] s (fun o t => Bd t ∧ Fm [] [105] s t ∧ o = .inl none ∧ (True)) := by
  refine ct_ofX G (by decide) (Nat.le_of_ble_eq_true rfl) (fun k X E ET hRt hXt q => ?_)
  show WS k 0 [(0, .ref (A 113)), (1, .int (Int32.ofInt x)), (2, .int (Int32.ofInt y))] [] _ 0 0
  have F : Fm [] [105] s s := fm_rf _ _ s
  have b1 := bi_52 I
  have b2 := bi_53 I
  have L20 : ∀ (n : Nat) (t : PS) (yv ro wa cr ov cl c : Int), Bd t → Fm [] [105] s t → (rng yv ∧ (0 ≤ ro ∧ ro ≤ 276) ∧ rng wa ∧ rng cr ∧ rng ov ∧ rng cl ∧ 0 ≤ c ∧ c ≤ 12) → (12 - c : Int).toNat < n → (∀ (t' : PS) (wa' cr' ov' cl' c' : Int), Bd t' → Fm [] [105] s t' → (rng yv ∧ (0 ≤ ro ∧ ro ≤ 276) ∧ rng wa' ∧ rng cr' ∧ rng ov' ∧ rng cl' ∧ 0 ≤ c' ∧ c' ≤ 12) → WS k 106 [(0, .ref (A 113)), (2, .int (Int32.ofInt yv)), (3, .int (Int32.ofInt ro)), (4, .int (Int32.ofInt wa')), (5, .int (Int32.ofInt cr')), (6, .int (Int32.ofInt ov')), (7, .int (Int32.ofInt cl')), (8, .int (Int32.ofInt c'))] [] (Wd A dT t') 0 0) → WS k 20 [(0, .ref (A 113)), (2, .int (Int32.ofInt yv)), (3, .int (Int32.ofInt ro)), (4, .int (Int32.ofInt wa)), (5, .int (Int32.ofInt cr)), (6, .int (Int32.ofInt ov)), (7, .int (Int32.ofInt cl)), (8, .int (Int32.ofInt c))] [] (Wd A dT t) 0 0 := by
    intro n
    induction n with
    | zero =>
      intro t yv ro wa cr ov cl c I F hi hm kx
      exact absurd hm (Nat.not_lt_zero _)
    | succ n ih =>
      intro t yv ro wa cr ov cl c I F hi hm kx
      have b1001 := bi_52 I
      have b1002 := bi_53 I
      refine z_load X (x := c) rfl (List.Mem.tail _ (List.Mem.tail _ (List.Mem.tail _ (List.Mem.tail _ (List.Mem.tail _ (List.Mem.tail _ (List.Mem.tail _ (List.Mem.head _)))))))) (z_aload_n X (x := A 113) rfl (List.Mem.head _) (z_getI X 113 rfl (c518_ok rfl) rfl rfl ?_))
      have b1003 := bi_52 I
      refine z_icmp_ge X (t := 106) rfl rfl ⟨by first | exact oq_fa4e5087 hi.2.2.2.2.2.2.1 | omega, by first | exact oq_78843a64 hi.2.2.2.2.2.2.2 | omega⟩ (rng_to _) (fun g1004 => ?_) (fun g1004 => ?_)
      ·
        refine WS_pq [0, 1, 2, 3, 4, 5, 6, 7] (lv' := [(0, .ref (A 113)), (2, .int (Int32.ofInt yv)), (3, .int (Int32.ofInt ro)), (4, .int (Int32.ofInt wa)), (5, .int (Int32.ofInt cr)), (6, .int (Int32.ofInt ov)), (7, .int (Int32.ofInt cl)), (8, .int (Int32.ofInt c))]) rfl ?_
        exact kx _ wa cr ov cl c I F (by first | exact ⟨And.intro (hi.1.1) (hi.1.2), And.intro (hi.2.1.1) (hi.2.1.2), And.intro (hi.2.2.1.1) (hi.2.2.1.2), And.intro (hi.2.2.2.1.1) (hi.2.2.2.1.2), And.intro (hi.2.2.2.2.1.1) (hi.2.2.2.2.1.2), And.intro (hi.2.2.2.2.2.1.1) (hi.2.2.2.2.2.1.2), hi.2.2.2.2.2.2.1, hi.2.2.2.2.2.2.2⟩ | omega)
      ·
        refine z_aload_n X (x := A 113) rfl (List.Mem.head _) (s_getR X 113 rfl (c518_ok rfl) rfl rfl (z_load X (x := c) rfl (List.Mem.tail _ (List.Mem.tail _ (List.Mem.tail _ (List.Mem.tail _ (List.Mem.tail _ (List.Mem.tail _ (List.Mem.tail _ (List.Mem.head _)))))))) (z_ald X 114 rfl (c518_ok rfl) rfl (by first | exact hi.2.2.2.2.2.2.1 | omega) (show c < 12 by first | exact oq_f36e82a8 g1004 b1003.2 | omega) (cbig_ok rfl) ?_)))
        have b1005 := bc_98 I (show (c).toNat < 12 by first | exact oq_2dac6850 g1004 b1003.2 | omega)
        refine z_load_n X (x := yv) rfl (List.Mem.tail _ (List.Mem.head _)) ?_
        have N1006 : ∀ e1007 : Int, ((((iC t 98 (c).toNat) ≠ yv) ∧ ((0 : Int) ≤ iC t 98 (c).toNat ∧ iC t 98 (c).toNat ≤ 11) ∧ ((0 : Int) ≤ iC t 67 ((ro + (iC t 98 (c).toNat))).toNat ∧ iC t 67 ((ro + (iC t 98 (c).toNat))).toNat ≤ 50) ∧ e1007 = (iC t 67 ((ro + (iC t 98 (c).toNat))).toNat)) ∨ (((iC t 98 (c).toNat) = yv) ∧ e1007 = 0)) → WS k 61 [(0, .ref (A 113)), (2, .int (Int32.ofInt yv)), (3, .int (Int32.ofInt ro)), (4, .int (Int32.ofInt wa)), (5, .int (Int32.ofInt cr)), (6, .int (Int32.ofInt ov)), (7, .int (Int32.ofInt cl)), (8, .int (Int32.ofInt c))] [.int (Int32.ofInt e1007)] (Wd A dT t) 0 0 := by
          intro e1007 he1007
          refine z_store X (lv' := [(9, .int (Int32.ofInt e1007)), (0, .ref (A 113)), (2, .int (Int32.ofInt yv)), (3, .int (Int32.ofInt ro)), (4, .int (Int32.ofInt wa)), (5, .int (Int32.ofInt cr)), (6, .int (Int32.ofInt ov)), (7, .int (Int32.ofInt cl)), (8, .int (Int32.ofInt c))]) rfl (by decide) (fun _ h => h) (z_load X (x := wa) rfl (List.Mem.tail _ (List.Mem.tail _ (List.Mem.tail _ (List.Mem.tail _ (List.Mem.head _))))) (z_load X (x := e1007) rfl (List.Mem.head _) (z_add X rfl (z_any (fun y1008 hy1008 => ?_)))))
          refine z_store X (lv' := [(4, .int (Int32.ofInt y1008)), (9, .int (Int32.ofInt e1007)), (0, .ref (A 113)), (2, .int (Int32.ofInt yv)), (3, .int (Int32.ofInt ro)), (5, .int (Int32.ofInt cr)), (6, .int (Int32.ofInt ov)), (7, .int (Int32.ofInt cl)), (8, .int (Int32.ofInt c))]) rfl (by decide) (fun _ h => h) (z_load X (x := ov) rfl (List.Mem.tail _ (List.Mem.tail _ (List.Mem.tail _ (List.Mem.tail _ (List.Mem.tail _ (List.Mem.tail _ (List.Mem.head _))))))) (z_load X (x := e1007) rfl (List.Mem.tail _ (List.Mem.head _)) (z_aload_n X (x := A 113) rfl (List.Mem.tail _ (List.Mem.tail _ (List.Mem.head _))) (s_getR X 113 rfl (c518_ok rfl) rfl rfl (z_load X (x := c) rfl (List.Mem.tail _ (List.Mem.tail _ (List.Mem.tail _ (List.Mem.tail _ (List.Mem.tail _ (List.Mem.tail _ (List.Mem.tail _ (List.Mem.tail _ (List.Mem.head _))))))))) (z_ald X 115 rfl (c518_ok rfl) rfl (by first | exact hi.2.2.2.2.2.2.1 | omega) (show c < 12 by first | exact oq_f36e82a8 g1004 b1003.2 | omega) (cbig_ok rfl) ?_))))))
          have b1009 := bc_99 I (show (c).toNat < 12 by first | exact oq_2dac6850 g1004 b1003.2 | omega)
          refine z_mul X rfl (z_any (fun y1010 hy1010 => ?_))
          refine z_add X rfl (z_any (fun y1011 hy1011 => ?_))
          refine z_store X (lv' := [(6, .int (Int32.ofInt y1011)), (4, .int (Int32.ofInt y1008)), (9, .int (Int32.ofInt e1007)), (0, .ref (A 113)), (2, .int (Int32.ofInt yv)), (3, .int (Int32.ofInt ro)), (5, .int (Int32.ofInt cr)), (7, .int (Int32.ofInt cl)), (8, .int (Int32.ofInt c))]) rfl (by decide) (fun _ h => h) (z_load X (x := cl) rfl (List.Mem.tail _ (List.Mem.tail _ (List.Mem.tail _ (List.Mem.tail _ (List.Mem.tail _ (List.Mem.tail _ (List.Mem.tail _ (List.Mem.head _)))))))) (z_load X (x := e1007) rfl (List.Mem.tail _ (List.Mem.tail _ (List.Mem.head _))) (z_aload_n X (x := A 113) rfl (List.Mem.tail _ (List.Mem.tail _ (List.Mem.tail _ (List.Mem.head _)))) (s_getR X 113 rfl (c518_ok rfl) rfl rfl (z_load X (x := c) rfl (List.Mem.tail _ (List.Mem.tail _ (List.Mem.tail _ (List.Mem.tail _ (List.Mem.tail _ (List.Mem.tail _ (List.Mem.tail _ (List.Mem.tail _ (List.Mem.head _))))))))) (z_ald X 117 rfl (c518_ok rfl) rfl (by first | exact hi.2.2.2.2.2.2.1 | omega) (show c < 12 by first | exact oq_f36e82a8 g1004 b1003.2 | omega) (cbig_ok rfl) ?_))))))
          have b1012 := bc_101 I (show (c).toNat < 12 by first | exact oq_2dac6850 g1004 b1003.2 | omega)
          refine z_mul X rfl (z_any (fun y1013 hy1013 => ?_))
          refine z_add X rfl (z_any (fun y1014 hy1014 => ?_))
          refine z_store X (lv' := [(7, .int (Int32.ofInt y1014)), (6, .int (Int32.ofInt y1011)), (4, .int (Int32.ofInt y1008)), (9, .int (Int32.ofInt e1007)), (0, .ref (A 113)), (2, .int (Int32.ofInt yv)), (3, .int (Int32.ofInt ro)), (5, .int (Int32.ofInt cr)), (8, .int (Int32.ofInt c))]) rfl (by decide) (fun _ h => h) (z_inc X (x := c) (lv' := [(8, .int (Int32.ofInt (c + 1))), (7, .int (Int32.ofInt y1014)), (6, .int (Int32.ofInt y1011)), (4, .int (Int32.ofInt y1008)), (9, .int (Int32.ofInt e1007)), (0, .ref (A 113)), (2, .int (Int32.ofInt yv)), (3, .int (Int32.ofInt ro)), (5, .int (Int32.ofInt cr))]) rfl (by decide) (List.Mem.tail _ (List.Mem.tail _ (List.Mem.tail _ (List.Mem.tail _ (List.Mem.tail _ (List.Mem.tail _ (List.Mem.tail _ (List.Mem.tail _ (List.Mem.head _))))))))) (fun _ h => h) (z_goto X (t := 20) rfl rfl (WS_pq [5, 6, 7, 3, 8, 2, 1, 0] (lv' := [(0, .ref (A 113)), (2, .int (Int32.ofInt yv)), (3, .int (Int32.ofInt ro)), (4, .int (Int32.ofInt y1008)), (5, .int (Int32.ofInt cr)), (6, .int (Int32.ofInt y1011)), (7, .int (Int32.ofInt y1014)), (8, .int (Int32.ofInt (c + 1)))]) rfl ?_)))
          exact ih _ yv ro y1008 cr y1011 y1014 (c + 1) I F (by first | exact ⟨And.intro (hi.1.1) (hi.1.2), And.intro (hi.2.1.1) (hi.2.1.2), And.intro (hy1008.1) (hy1008.2), And.intro (hi.2.2.2.1.1) (hi.2.2.2.1.2), And.intro (hy1011.1) (hy1011.2), And.intro (hy1014.1) (hy1014.2), oq_54f49eb5 hi.2.2.2.2.2.2.1, oq_4dae995e g1004 b1003.2⟩ | omega) (by first | exact qk_me hm (by decide) (oq_b575e8c1 g1004 b1003.2) | omega) kx
        refine z_icmp_ne X (t := 44) rfl rfl (rng_to _) ⟨by first | exact hi.1.1 | omega, by first | exact hi.1.2 | omega⟩ (fun g1015 => ?_) (fun g1015 => ?_)
        ·
          refine z_aload_n X (x := A 113) rfl (List.Mem.head _) (s_getR X 113 rfl (c518_ok rfl) rfl rfl (s_getR X 68 rfl (c518_ok rfl) rfl rfl (z_load_n X (x := ro) rfl (List.Mem.tail _ (List.Mem.tail _ (List.Mem.head _))) (z_aload_n X (x := A 113) rfl (List.Mem.head _) (s_getR X 113 rfl (c518_ok rfl) rfl rfl (z_load X (x := c) rfl (List.Mem.tail _ (List.Mem.tail _ (List.Mem.tail _ (List.Mem.tail _ (List.Mem.tail _ (List.Mem.tail _ (List.Mem.tail _ (List.Mem.head _)))))))) (z_ald X 114 rfl (c518_ok rfl) rfl (by first | exact hi.2.2.2.2.2.2.1 | omega) (show c < 12 by first | exact oq_f36e82a8 g1004 b1003.2 | omega) (cbig_ok rfl) ?_)))))))
          have b1016 := bc_98 I (show (c).toNat < 12 by first | exact oq_2dac6850 g1004 b1003.2 | omega)
          refine z_add X rfl (z_ald X 79 rfl (c518_ok rfl) rfl (by first | exact oq_dd29f52d hi.2.1.1 b1016.1 | omega) (show (ro + (iC t 98 (c).toNat)) < 288 by first | exact oq_f94a0088 hi.2.1.2 b1016.2 | omega) (cbig_ok rfl) ?_)
          have b1017 := bc_67 I (show ((ro + (iC t 98 (c).toNat))).toNat < 288 by first | exact oq_3d7ae1dd hi.2.1.2 b1016.2 | omega)
          exact N1006 _ (Or.inl ⟨g1015, b1016, b1017, rfl⟩)
        ·
          exact z_const X rfl (z_goto X (t := 61) rfl rfl (N1006 _ (Or.inr (⟨g1015, rfl⟩))))
  have L109 : ∀ (n : Nat) (t : PS) (yv ro wa cr ov cl c : Int), Bd t → Fm [] [105] s t → (rng yv ∧ (0 ≤ ro ∧ ro ≤ 276) ∧ rng wa ∧ rng cr ∧ rng ov ∧ rng cl ∧ 0 ≤ c ∧ c ≤ 66) → (66 - c : Int).toNat < n → (∀ (t' : PS) (cr' c' : Int), Bd t' → Fm [] [105] s t' → (rng yv ∧ (0 ≤ ro ∧ ro ≤ 276) ∧ rng wa ∧ rng cr' ∧ rng ov ∧ rng cl ∧ 0 ≤ c' ∧ c' ≤ 66) → WS k 196 [(0, .ref (A 113)), (2, .int (Int32.ofInt yv)), (3, .int (Int32.ofInt ro)), (4, .int (Int32.ofInt wa)), (5, .int (Int32.ofInt cr')), (6, .int (Int32.ofInt ov)), (7, .int (Int32.ofInt cl)), (8, .int (Int32.ofInt c'))] [] (Wd A dT t') 0 0) → WS k 109 [(0, .ref (A 113)), (2, .int (Int32.ofInt yv)), (3, .int (Int32.ofInt ro)), (4, .int (Int32.ofInt wa)), (5, .int (Int32.ofInt cr)), (6, .int (Int32.ofInt ov)), (7, .int (Int32.ofInt cl)), (8, .int (Int32.ofInt c))] [] (Wd A dT t) 0 0 := by
    intro n
    induction n with
    | zero =>
      intro t yv ro wa cr ov cl c I F hi hm kx
      exact absurd hm (Nat.not_lt_zero _)
    | succ n ih =>
      intro t yv ro wa cr ov cl c I F hi hm kx
      have b2001 := bi_52 I
      have b2002 := bi_53 I
      refine z_load X (x := c) rfl (List.Mem.tail _ (List.Mem.tail _ (List.Mem.tail _ (List.Mem.tail _ (List.Mem.tail _ (List.Mem.tail _ (List.Mem.tail _ (List.Mem.head _)))))))) (z_aload_n X (x := A 113) rfl (List.Mem.head _) (z_getI X 113 rfl (c518_ok rfl) rfl rfl ?_))
      have b2003 := bi_53 I
      refine z_icmp_ge X (t := 196) rfl rfl ⟨by first | exact oq_fa4e5087 hi.2.2.2.2.2.2.1 | omega, by first | exact oq_64f2e926 hi.2.2.2.2.2.2.2 | omega⟩ (rng_to _) (fun g2004 => ?_) (fun g2004 => ?_)
      ·
        refine WS_pq [0, 1, 2, 3, 4, 5, 6, 7] (lv' := [(0, .ref (A 113)), (2, .int (Int32.ofInt yv)), (3, .int (Int32.ofInt ro)), (4, .int (Int32.ofInt wa)), (5, .int (Int32.ofInt cr)), (6, .int (Int32.ofInt ov)), (7, .int (Int32.ofInt cl)), (8, .int (Int32.ofInt c))]) rfl ?_
        exact kx _ cr c I F (by first | exact ⟨And.intro (hi.1.1) (hi.1.2), And.intro (hi.2.1.1) (hi.2.1.2), And.intro (hi.2.2.1.1) (hi.2.2.1.2), And.intro (hi.2.2.2.1.1) (hi.2.2.2.1.2), And.intro (hi.2.2.2.2.1.1) (hi.2.2.2.2.1.2), And.intro (hi.2.2.2.2.2.1.1) (hi.2.2.2.2.2.1.2), hi.2.2.2.2.2.2.1, hi.2.2.2.2.2.2.2⟩ | omega)
      ·
        refine z_aload_n X (x := A 113) rfl (List.Mem.head _) (s_getR X 113 rfl (c518_ok rfl) rfl rfl (z_load X (x := c) rfl (List.Mem.tail _ (List.Mem.tail _ (List.Mem.tail _ (List.Mem.tail _ (List.Mem.tail _ (List.Mem.tail _ (List.Mem.tail _ (List.Mem.head _)))))))) (z_ald X 118 rfl (c518_ok rfl) rfl (by first | exact hi.2.2.2.2.2.2.1 | omega) (show c < 66 by first | exact oq_256e4529 g2004 b2003.2 | omega) (cbig_ok rfl) ?_)))
        have b2005 := bc_102 I (show (c).toNat < 66 by first | exact oq_d7ff7873 g2004 b2003.2 | omega)
        refine z_load_n X (x := yv) rfl (List.Mem.tail _ (List.Mem.head _)) (z_icmp_eq X (t := 190) rfl rfl (rng_to _) ⟨by first | exact hi.1.1 | omega, by first | exact hi.1.2 | omega⟩ (fun g2006 => ?_) (fun g2006 => ?_))
        ·
          refine z_inc X (x := c) (lv' := [(8, .int (Int32.ofInt (c + 1))), (0, .ref (A 113)), (2, .int (Int32.ofInt yv)), (3, .int (Int32.ofInt ro)), (4, .int (Int32.ofInt wa)), (5, .int (Int32.ofInt cr)), (6, .int (Int32.ofInt ov)), (7, .int (Int32.ofInt cl))]) rfl (by decide) (List.Mem.tail _ (List.Mem.tail _ (List.Mem.tail _ (List.Mem.tail _ (List.Mem.tail _ (List.Mem.tail _ (List.Mem.tail _ (List.Mem.head _)))))))) (fun _ h => h) (z_goto X (t := 109) rfl rfl (WS_pq [1, 2, 3, 4, 5, 6, 7, 0] (lv' := [(0, .ref (A 113)), (2, .int (Int32.ofInt yv)), (3, .int (Int32.ofInt ro)), (4, .int (Int32.ofInt wa)), (5, .int (Int32.ofInt cr)), (6, .int (Int32.ofInt ov)), (7, .int (Int32.ofInt cl)), (8, .int (Int32.ofInt (c + 1)))]) rfl ?_))
          exact ih _ yv ro wa cr ov cl (c + 1) I F (by first | exact ⟨And.intro (hi.1.1) (hi.1.2), And.intro (hi.2.1.1) (hi.2.1.2), And.intro (hi.2.2.1.1) (hi.2.2.1.2), And.intro (hi.2.2.2.1.1) (hi.2.2.2.1.2), And.intro (hi.2.2.2.2.1.1) (hi.2.2.2.2.1.2), And.intro (hi.2.2.2.2.2.1.1) (hi.2.2.2.2.2.1.2), oq_54f49eb5 hi.2.2.2.2.2.2.1, oq_319a18a4 g2004 b2003.2⟩ | omega) (by first | exact qk_me hm (by decide) (oq_dd0e9829 g2004 b2003.2) | omega) kx
        ·
          refine z_aload_n X (x := A 113) rfl (List.Mem.head _) (s_getR X 113 rfl (c518_ok rfl) rfl rfl (z_load X (x := c) rfl (List.Mem.tail _ (List.Mem.tail _ (List.Mem.tail _ (List.Mem.tail _ (List.Mem.tail _ (List.Mem.tail _ (List.Mem.tail _ (List.Mem.head _)))))))) (z_ald X 119 rfl (c518_ok rfl) rfl (by first | exact hi.2.2.2.2.2.2.1 | omega) (show c < 66 by first | exact oq_256e4529 g2004 b2003.2 | omega) (cbig_ok rfl) ?_)))
          have b2007 := bc_103 I (show (c).toNat < 66 by first | exact oq_d7ff7873 g2004 b2003.2 | omega)
          refine z_load_n X (x := yv) rfl (List.Mem.tail _ (List.Mem.head _)) (z_icmp_eq X (t := 190) rfl rfl (rng_to _) ⟨by first | exact hi.1.1 | omega, by first | exact hi.1.2 | omega⟩ (fun g2008 => ?_) (fun g2008 => ?_))
          ·
            refine z_inc X (x := c) (lv' := [(8, .int (Int32.ofInt (c + 1))), (0, .ref (A 113)), (2, .int (Int32.ofInt yv)), (3, .int (Int32.ofInt ro)), (4, .int (Int32.ofInt wa)), (5, .int (Int32.ofInt cr)), (6, .int (Int32.ofInt ov)), (7, .int (Int32.ofInt cl))]) rfl (by decide) (List.Mem.tail _ (List.Mem.tail _ (List.Mem.tail _ (List.Mem.tail _ (List.Mem.tail _ (List.Mem.tail _ (List.Mem.tail _ (List.Mem.head _)))))))) (fun _ h => h) (z_goto X (t := 109) rfl rfl (WS_pq [1, 2, 3, 4, 5, 6, 7, 0] (lv' := [(0, .ref (A 113)), (2, .int (Int32.ofInt yv)), (3, .int (Int32.ofInt ro)), (4, .int (Int32.ofInt wa)), (5, .int (Int32.ofInt cr)), (6, .int (Int32.ofInt ov)), (7, .int (Int32.ofInt cl)), (8, .int (Int32.ofInt (c + 1)))]) rfl ?_))
            exact ih _ yv ro wa cr ov cl (c + 1) I F (by first | exact ⟨And.intro (hi.1.1) (hi.1.2), And.intro (hi.2.1.1) (hi.2.1.2), And.intro (hi.2.2.1.1) (hi.2.2.1.2), And.intro (hi.2.2.2.1.1) (hi.2.2.2.1.2), And.intro (hi.2.2.2.2.1.1) (hi.2.2.2.2.1.2), And.intro (hi.2.2.2.2.2.1.1) (hi.2.2.2.2.2.1.2), oq_54f49eb5 hi.2.2.2.2.2.2.1, oq_319a18a4 g2004 b2003.2⟩ | omega) (by first | exact qk_me hm (by decide) (oq_dd0e9829 g2004 b2003.2) | omega) kx
          ·
            refine z_load X (x := cr) rfl (List.Mem.tail _ (List.Mem.tail _ (List.Mem.tail _ (List.Mem.tail _ (List.Mem.head _))))) (z_aload_n X (x := A 113) rfl (List.Mem.head _) (s_getR X 113 rfl (c518_ok rfl) rfl rfl (z_load X (x := c) rfl (List.Mem.tail _ (List.Mem.tail _ (List.Mem.tail _ (List.Mem.tail _ (List.Mem.tail _ (List.Mem.tail _ (List.Mem.tail _ (List.Mem.head _)))))))) (z_ald X 120 rfl (c518_ok rfl) rfl (by first | exact hi.2.2.2.2.2.2.1 | omega) (show c < 66 by first | exact oq_256e4529 g2004 b2003.2 | omega) (cbig_ok rfl) ?_))))
            have b2009 := bc_104 I (show (c).toNat < 66 by first | exact oq_d7ff7873 g2004 b2003.2 | omega)
            refine z_aload_n X (x := A 113) rfl (List.Mem.head _) (s_getR X 113 rfl (c518_ok rfl) rfl rfl (s_getR X 68 rfl (c518_ok rfl) rfl rfl (z_load_n X (x := ro) rfl (List.Mem.tail _ (List.Mem.tail _ (List.Mem.head _))) (z_aload_n X (x := A 113) rfl (List.Mem.head _) (s_getR X 113 rfl (c518_ok rfl) rfl rfl (z_load X (x := c) rfl (List.Mem.tail _ (List.Mem.tail _ (List.Mem.tail _ (List.Mem.tail _ (List.Mem.tail _ (List.Mem.tail _ (List.Mem.tail _ (List.Mem.head _)))))))) (z_ald X 118 rfl (c518_ok rfl) rfl (by first | exact hi.2.2.2.2.2.2.1 | omega) (show c < 66 by first | exact oq_256e4529 g2004 b2003.2 | omega) (cbig_ok rfl) ?_)))))))
            have b2010 := bc_102 I (show (c).toNat < 66 by first | exact oq_d7ff7873 g2004 b2003.2 | omega)
            refine z_add X rfl (z_ald X 79 rfl (c518_ok rfl) rfl (by first | exact oq_dd29f52d hi.2.1.1 b2010.1 | omega) (show (ro + (iC t 102 (c).toNat)) < 288 by first | exact oq_f94a0088 hi.2.1.2 b2010.2 | omega) (cbig_ok rfl) ?_)
            have b2011 := bc_67 I (show ((ro + (iC t 102 (c).toNat))).toNat < 288 by first | exact oq_3d7ae1dd hi.2.1.2 b2010.2 | omega)
            refine z_aload_n X (x := A 113) rfl (List.Mem.head _) (s_getR X 113 rfl (c518_ok rfl) rfl rfl (s_getR X 68 rfl (c518_ok rfl) rfl rfl (z_load_n X (x := ro) rfl (List.Mem.tail _ (List.Mem.tail _ (List.Mem.head _))) (z_aload_n X (x := A 113) rfl (List.Mem.head _) (s_getR X 113 rfl (c518_ok rfl) rfl rfl (z_load X (x := c) rfl (List.Mem.tail _ (List.Mem.tail _ (List.Mem.tail _ (List.Mem.tail _ (List.Mem.tail _ (List.Mem.tail _ (List.Mem.tail _ (List.Mem.head _)))))))) (z_ald X 119 rfl (c518_ok rfl) rfl (by first | exact hi.2.2.2.2.2.2.1 | omega) (show c < 66 by first | exact oq_256e4529 g2004 b2003.2 | omega) (cbig_ok rfl) ?_)))))))
            have b2012 := bc_103 I (show (c).toNat < 66 by first | exact oq_d7ff7873 g2004 b2003.2 | omega)
            refine z_add X rfl (z_ald X 79 rfl (c518_ok rfl) rfl (by first | exact oq_dd29f52d hi.2.1.1 b2012.1 | omega) (show (ro + (iC t 103 (c).toNat)) < 288 by first | exact oq_f94a0088 hi.2.1.2 b2012.2 | omega) (cbig_ok rfl) ?_)
            have b2013 := bc_67 I (show ((ro + (iC t 103 (c).toNat))).toNat < 288 by first | exact oq_3d7ae1dd hi.2.1.2 b2012.2 | omega)
            refine z_min X rfl (rng_to _) (rng_to _) (by rw [E.2.2.2]; decide) (by rw [E.2.2.2]; exact Nat.le_of_ble_eq_true rfl) (Nat.zero_le _) (Nat.zero_le _) (fun e2014 he2014 => ?_)
            refine z_mul X rfl (z_any (fun y2015 hy2015 => ?_))
            refine z_add X rfl (z_any (fun y2016 hy2016 => ?_))
            refine z_store X (lv' := [(5, .int (Int32.ofInt y2016)), (0, .ref (A 113)), (2, .int (Int32.ofInt yv)), (3, .int (Int32.ofInt ro)), (4, .int (Int32.ofInt wa)), (6, .int (Int32.ofInt ov)), (7, .int (Int32.ofInt cl)), (8, .int (Int32.ofInt c))]) rfl (by decide) (fun _ h => h) (z_inc X (x := c) (lv' := [(8, .int (Int32.ofInt (c + 1))), (5, .int (Int32.ofInt y2016)), (0, .ref (A 113)), (2, .int (Int32.ofInt yv)), (3, .int (Int32.ofInt ro)), (4, .int (Int32.ofInt wa)), (6, .int (Int32.ofInt ov)), (7, .int (Int32.ofInt cl))]) rfl (by decide) (List.Mem.tail _ (List.Mem.tail _ (List.Mem.tail _ (List.Mem.tail _ (List.Mem.tail _ (List.Mem.tail _ (List.Mem.tail _ (List.Mem.head _)))))))) (fun _ h => h) (z_goto X (t := 109) rfl rfl (WS_pq [2, 3, 4, 5, 1, 6, 7, 0] (lv' := [(0, .ref (A 113)), (2, .int (Int32.ofInt yv)), (3, .int (Int32.ofInt ro)), (4, .int (Int32.ofInt wa)), (5, .int (Int32.ofInt y2016)), (6, .int (Int32.ofInt ov)), (7, .int (Int32.ofInt cl)), (8, .int (Int32.ofInt (c + 1)))]) rfl ?_)))
            exact ih _ yv ro wa y2016 ov cl (c + 1) I F (by first | exact ⟨And.intro (hi.1.1) (hi.1.2), And.intro (hi.2.1.1) (hi.2.1.2), And.intro (hi.2.2.1.1) (hi.2.2.1.2), And.intro (hy2016.1) (hy2016.2), And.intro (hi.2.2.2.2.1.1) (hi.2.2.2.2.1.2), And.intro (hi.2.2.2.2.2.1.1) (hi.2.2.2.2.2.1.2), oq_54f49eb5 hi.2.2.2.2.2.2.1, oq_319a18a4 g2004 b2003.2⟩ | omega) (by first | exact qk_me hm (by decide) (oq_dd0e9829 g2004 b2003.2) | omega) kx
  refine z_load_n X (x := x) rfl (List.Mem.tail _ (List.Mem.head _)) (z_bipush X rfl (z_mul X rfl (z_store_n X (lv' := [(3, .int (Int32.ofInt (x * 12))), (0, .ref (A 113)), (1, .int (Int32.ofInt x)), (2, .int (Int32.ofInt y))]) rfl (by decide) (fun _ h => h) (z_const X rfl (z_store X (lv' := [(4, .int (Int32.ofInt 0)), (3, .int (Int32.ofInt (x * 12))), (0, .ref (A 113)), (1, .int (Int32.ofInt x)), (2, .int (Int32.ofInt y))]) rfl (by decide) (fun _ h => h) (z_const X rfl (z_store X (lv' := [(5, .int (Int32.ofInt 0)), (4, .int (Int32.ofInt 0)), (3, .int (Int32.ofInt (x * 12))), (0, .ref (A 113)), (1, .int (Int32.ofInt x)), (2, .int (Int32.ofInt y))]) rfl (by decide) (fun _ h => h) (z_const X rfl (z_store X (lv' := [(6, .int (Int32.ofInt 0)), (5, .int (Int32.ofInt 0)), (4, .int (Int32.ofInt 0)), (3, .int (Int32.ofInt (x * 12))), (0, .ref (A 113)), (1, .int (Int32.ofInt x)), (2, .int (Int32.ofInt y))]) rfl (by decide) (fun _ h => h) (z_const X rfl (z_store X (lv' := [(7, .int (Int32.ofInt 0)), (6, .int (Int32.ofInt 0)), (5, .int (Int32.ofInt 0)), (4, .int (Int32.ofInt 0)), (3, .int (Int32.ofInt (x * 12))), (0, .ref (A 113)), (1, .int (Int32.ofInt x)), (2, .int (Int32.ofInt y))]) rfl (by decide) (fun _ h => h) ?_)))))))))))
  refine z_const X rfl (z_store X (lv' := [(8, .int (Int32.ofInt 0)), (7, .int (Int32.ofInt 0)), (6, .int (Int32.ofInt 0)), (5, .int (Int32.ofInt 0)), (4, .int (Int32.ofInt 0)), (3, .int (Int32.ofInt (x * 12))), (0, .ref (A 113)), (1, .int (Int32.ofInt x)), (2, .int (Int32.ofInt y))]) rfl (by decide) (fun _ h => h) (WS_pq [6, 8, 5, 4, 3, 2, 1, 0] (lv' := [(0, .ref (A 113)), (2, .int (Int32.ofInt y)), (3, .int (Int32.ofInt (x * 12))), (4, .int (Int32.ofInt 0)), (5, .int (Int32.ofInt 0)), (6, .int (Int32.ofInt 0)), (7, .int (Int32.ofInt 0)), (8, .int (Int32.ofInt 0))]) rfl (L20 ((12 - 0 : Int).toNat + 1) s y (x * 12) 0 0 0 0 0 I F (by first | exact ⟨And.intro (p1.1) (p1.2), And.intro (oq_6b8c39bb p0.1) (oq_70eefe4f p0.2), And.intro (by decide) (by decide), And.intro (by decide) (by decide), And.intro (by decide) (by decide), And.intro (by decide) (by decide), by decide, by decide⟩ | omega) (Nat.lt_succ_self _) ?_)))
  intro s3 x4 x5 x6 x7 x8 Is3 Fs3 hs3
  have b9 := bi_52 Is3
  have b10 := bi_53 Is3
  refine z_const X rfl (z_store X (lv' := [(8, .int (Int32.ofInt 0)), (0, .ref (A 113)), (2, .int (Int32.ofInt y)), (3, .int (Int32.ofInt (x * 12))), (4, .int (Int32.ofInt x4)), (5, .int (Int32.ofInt x5)), (6, .int (Int32.ofInt x6)), (7, .int (Int32.ofInt x7))]) rfl (by decide) (fun _ h => h) (WS_pq [1, 2, 3, 4, 5, 6, 7, 0] (lv' := [(0, .ref (A 113)), (2, .int (Int32.ofInt y)), (3, .int (Int32.ofInt (x * 12))), (4, .int (Int32.ofInt x4)), (5, .int (Int32.ofInt x5)), (6, .int (Int32.ofInt x6)), (7, .int (Int32.ofInt x7)), (8, .int (Int32.ofInt 0))]) rfl (L109 ((66 - 0 : Int).toNat + 1) s3 y (x * 12) x4 x5 x6 x7 0 Is3 Fs3 (by first | exact ⟨And.intro (hs3.1.1) (hs3.1.2), And.intro (hs3.2.1.1) (hs3.2.1.2), And.intro (hs3.2.2.1.1) (hs3.2.2.1.2), And.intro (hs3.2.2.2.1.1) (hs3.2.2.2.1.2), And.intro (hs3.2.2.2.2.1.1) (hs3.2.2.2.2.1.2), And.intro (hs3.2.2.2.2.2.1.1) (hs3.2.2.2.2.2.1.2), by decide, by decide⟩ | omega) (Nat.lt_succ_self _) ?_)))
  intro s11 x12 x13 Is11 Fs11 hs11
  have b14 := bi_52 Is11
  have b15 := bi_53 Is11
  refine z_aload_n X (x := A 113) rfl (List.Mem.head _) (s_getR X 113 rfl (c518_ok rfl) rfl rfl (z_const X rfl (z_load X (x := x4) rfl (List.Mem.tail _ (List.Mem.tail _ (List.Mem.tail _ (List.Mem.head _)))) (z_ast X 121 rfl (c518_ok rfl) rfl (by decide) (show 0 < 7 by decide) (cbig_ok rfl) (wd_gen (fun s16 hs16 => ?_))))))
  have Is16 : Bd s16 := eqB hs16 (bd_C Is11 (show ((-2147483648) : Int) ≤ x4 ∧ x4 ≤ 2147483647 by first | exact ⟨hs11.2.2.1.1, hs11.2.2.1.2⟩ | omega) ⟨by first | exact hs11.2.2.1.1 | omega, by first | exact hs11.2.2.1.2 | omega⟩)
  have Fs16 := eqF hs16 (fm_C Fs11 (inl_ok (a := 105) rfl))
  have ws16_52 : iI s16 52 = iI s11 52 := eqI hs16 rfl
  have ws16_53 : iI s16 53 = iI s11 53 := eqI hs16 rfl
  refine z_aload_n X (x := A 113) rfl (List.Mem.head _) (s_getR X 113 rfl (c518_ok rfl) rfl rfl (z_const X rfl (z_load X (x := x12) rfl (List.Mem.tail _ (List.Mem.tail _ (List.Mem.tail _ (List.Mem.tail _ (List.Mem.head _))))) (z_ast X 121 rfl (c518_ok rfl) rfl (by decide) (show 1 < 7 by decide) (cbig_ok rfl) (wd_gen (fun s17 hs17 => ?_))))))
  have Is17 : Bd s17 := eqB hs17 (bd_C Is16 (show ((-2147483648) : Int) ≤ x12 ∧ x12 ≤ 2147483647 by first | exact ⟨hs11.2.2.2.1.1, hs11.2.2.2.1.2⟩ | omega) ⟨by first | exact hs11.2.2.2.1.1 | omega, by first | exact hs11.2.2.2.1.2 | omega⟩)
  have Fs17 := eqF hs17 (fm_C Fs16 (inl_ok (a := 105) rfl))
  have ws17_52 : iI s17 52 = iI s16 52 := eqI hs17 rfl
  have ws17_53 : iI s17 53 = iI s16 53 := eqI hs17 rfl
  refine z_aload_n X (x := A 113) rfl (List.Mem.head _) (s_getR X 113 rfl (c518_ok rfl) rfl rfl (z_const X rfl (z_load X (x := x6) rfl (List.Mem.tail _ (List.Mem.tail _ (List.Mem.tail _ (List.Mem.tail _ (List.Mem.tail _ (List.Mem.head _)))))) (z_ast X 121 rfl (c518_ok rfl) rfl (by decide) (show 2 < 7 by decide) (cbig_ok rfl) (wd_gen (fun s18 hs18 => ?_))))))
  have Is18 : Bd s18 := eqB hs18 (bd_C Is17 (show ((-2147483648) : Int) ≤ x6 ∧ x6 ≤ 2147483647 by first | exact ⟨hs11.2.2.2.2.1.1, hs11.2.2.2.2.1.2⟩ | omega) ⟨by first | exact hs11.2.2.2.2.1.1 | omega, by first | exact hs11.2.2.2.2.1.2 | omega⟩)
  have Fs18 := eqF hs18 (fm_C Fs17 (inl_ok (a := 105) rfl))
  have ws18_52 : iI s18 52 = iI s17 52 := eqI hs18 rfl
  have ws18_53 : iI s18 53 = iI s17 53 := eqI hs18 rfl
  refine z_aload_n X (x := A 113) rfl (List.Mem.head _) (s_getR X 113 rfl (c518_ok rfl) rfl rfl (z_const X rfl (z_load X (x := x7) rfl (List.Mem.tail _ (List.Mem.tail _ (List.Mem.tail _ (List.Mem.tail _ (List.Mem.tail _ (List.Mem.tail _ (List.Mem.head _))))))) (z_ast X 121 rfl (c518_ok rfl) rfl (by decide) (show 3 < 7 by decide) (cbig_ok rfl) (wd_gen (fun s19 hs19 => ?_))))))
  have Is19 : Bd s19 := eqB hs19 (bd_C Is18 (show ((-2147483648) : Int) ≤ x7 ∧ x7 ≤ 2147483647 by first | exact ⟨hs11.2.2.2.2.2.1.1, hs11.2.2.2.2.2.1.2⟩ | omega) ⟨by first | exact hs11.2.2.2.2.2.1.1 | omega, by first | exact hs11.2.2.2.2.2.1.2 | omega⟩)
  have Fs19 := eqF hs19 (fm_C Fs18 (inl_ok (a := 105) rfl))
  have ws19_52 : iI s19 52 = iI s18 52 := eqI hs19 rfl
  have ws19_53 : iI s19 53 = iI s18 53 := eqI hs19 rfl
  exact w_vret X.1 q hRt (ax_d X (show cdA 3 228 = some (.return_, 1, 0, 0, 0) from rfl)) (Nat.zero_le _) (Nat.zero_le _) ⟨_, rfl, Is19, Fs19, rfl, trivial⟩
set_option maxRecDepth 4000 in
theorem c7_work_113 (G : GX l s0 D tys a0 dT) (I : Bd s) {x : Int} (p0 : -1 ≤ x ∧ x ≤ 7) : CT l s0 D A dT 84 (rmN 84) [.ref (A 19), .int (Int32.ofInt x), .ref (A 121)] s (fun o t => Bd t ∧ Fm [] [20] s t ∧ ∃ e, o = .inl (some (.int (Int32.ofInt e))) ∧ rng e ∧ (True)) := by
  refine ct_ofX G (by decide) (Nat.le_of_ble_eq_true rfl) (fun k X E ET hRt hXt q => ?_)
  show WS k 0 [(0, .ref (A 19)), (1, .int (Int32.ofInt x)), (2, .ref (A 121))] [] _ 0 0
  have F : Fm [] [20] s s := fm_rf _ _ s
  have L28 : ∀ (n : Nat) (t : PS) (xv dp c : Int), Bd t → Fm [] [20] s t → ((0 ≤ xv ∧ xv ≤ 7) ∧ (0 ≤ dp ∧ dp ≤ 200) ∧ 0 ≤ c ∧ c ≤ 200) → (200 - c : Int).toNat < n → (∀ (t' : PS) (dp' c' : Int), Bd t' → Fm [] [20] s t' → ((0 ≤ xv ∧ xv ≤ 7) ∧ (0 ≤ dp' ∧ dp' ≤ 200) ∧ 0 ≤ c' ∧ c' ≤ 200) → WS k 163 [(0, .ref (A 19)), (2, .ref (A 121)), (1, .int (Int32.ofInt xv)), (3, .int (Int32.ofInt dp')), (4, .int (Int32.ofInt c'))] [] (Wd A dT t') 0 0) → WS k 28 [(0, .ref (A 19)), (2, .ref (A 121)), (1, .int (Int32.ofInt xv)), (3, .int (Int32.ofInt dp)), (4, .int (Int32.ofInt c))] [] (Wd A dT t) 0 0 := by
    intro n
    induction n with
    | zero =>
      intro t xv dp c I F hi hm kx
      exact absurd hm (Nat.not_lt_zero _)
    | succ n ih =>
      intro t xv dp c I F hi hm kx
      refine z_load X (x := c) rfl (List.Mem.tail _ (List.Mem.tail _ (List.Mem.tail _ (List.Mem.tail _ (List.Mem.head _))))) (z_aload_n X (x := A 19) rfl (List.Mem.head _) (s_getR X 19 rfl (c518_ok rfl) rfl rfl (z_load_n X (x := xv) rfl (List.Mem.tail _ (List.Mem.tail _ (List.Mem.head _))) (z_ald X 21 rfl (c518_ok rfl) rfl (by first | exact hi.1.1 | omega) (show xv < 8 by first | exact oq_aaea290e hi.1.2 | omega) (cbig_ok rfl) ?_))))
      have b1001 := bc_17 I (show (xv).toNat < 8 by first | exact oq_c19a3aae hi.1.2 | omega)
      refine z_icmp_ge X (t := 163) rfl rfl ⟨by first | exact oq_fa4e5087 hi.2.2.1 | omega, by first | exact oq_52af2b96 hi.2.2.2 | omega⟩ (rng_to _) (fun g1002 => ?_) (fun g1002 => ?_)
      ·
        refine WS_pq [0, 1, 2, 3, 4] (lv' := [(0, .ref (A 19)), (2, .ref (A 121)), (1, .int (Int32.ofInt xv)), (3, .int (Int32.ofInt dp)), (4, .int (Int32.ofInt c))]) rfl ?_
        exact kx _ dp c I F (by first | exact ⟨And.intro (hi.1.1) (hi.1.2), And.intro (hi.2.1.1) (hi.2.1.2), hi.2.2.1, hi.2.2.2⟩ | omega)
      ·
        refine z_aload_n X (x := A 19) rfl (List.Mem.head _) (s_getR X 19 rfl (c518_ok rfl) rfl rfl (z_load X (x := c) rfl (List.Mem.tail _ (List.Mem.tail _ (List.Mem.tail _ (List.Mem.tail _ (List.Mem.head _))))) (z_ald X 20 rfl (c518_ok rfl) rfl (by first | exact hi.2.2.1 | omega) (show c < 200 by first | exact oq_6fca3d72 g1002 b1001.2 | omega) (cbig_ok rfl) ?_)))
        have b1003 := bc_16 I (show (c).toNat < 200 by first | exact oq_b70289d5 g1002 b1001.2 | omega)
        refine z_store X (lv' := [(5, .int (Int32.ofInt (iC t 16 (c).toNat))), (0, .ref (A 19)), (2, .ref (A 121)), (1, .int (Int32.ofInt xv)), (3, .int (Int32.ofInt dp)), (4, .int (Int32.ofInt c))]) rfl (by decide) (fun _ h => h) (z_load X (x := (iC t 16 (c).toNat)) rfl (List.Mem.head _) (z_bipush X rfl (z_icmp_le X (t := 90) rfl rfl (rng_to _) (by decide) (fun g1004 => ?_) (fun g1004 => ?_))))
        ·
          refine z_load X (x := (iC t 16 (c).toNat)) rfl (List.Mem.head _) (z_bipush X rfl (z_icmp_ne X (t := 122) rfl rfl (rng_to _) (by decide) (fun g1005 => ?_) (fun g1005 => ?_)))
          ·
            refine z_load_n X (x := dp) rfl (List.Mem.tail _ (List.Mem.tail _ (List.Mem.tail _ (List.Mem.tail _ (List.Mem.head _))))) (z_const X rfl (z_icmp_le X (t := 157) rfl rfl ⟨by first | exact oq_fa4e5087 hi.2.1.1 | omega, by first | exact oq_52af2b96 hi.2.1.2 | omega⟩ (by decide) (fun g1006 => ?_) (fun g1006 => ?_)))
            ·
              refine z_inc X (x := c) (lv' := [(4, .int (Int32.ofInt (c + 1))), (5, .int (Int32.ofInt (iC t 16 (c).toNat))), (0, .ref (A 19)), (2, .ref (A 121)), (1, .int (Int32.ofInt xv)), (3, .int (Int32.ofInt dp))]) rfl (by decide) (List.Mem.tail _ (List.Mem.tail _ (List.Mem.tail _ (List.Mem.tail _ (List.Mem.tail _ (List.Mem.head _)))))) (fun _ h => h) (z_goto X (t := 28) rfl rfl (WS_pq [2, 3, 4, 5, 0] (lv' := [(0, .ref (A 19)), (2, .ref (A 121)), (1, .int (Int32.ofInt xv)), (3, .int (Int32.ofInt dp)), (4, .int (Int32.ofInt (c + 1)))]) rfl ?_))
              exact ih _ xv dp (c + 1) I F (by first | exact ⟨And.intro (hi.1.1) (hi.1.2), And.intro (hi.2.1.1) (hi.2.1.2), oq_54f49eb5 hi.2.2.1, oq_228270fa g1002 b1001.2⟩ | omega) (by first | exact qk_me hm (by decide) (oq_b0a4f3e2 g1002 b1001.2) | omega) kx
            ·
              refine z_inc X (x := dp) (lv' := [(3, .int (Int32.ofInt (dp + (-1)))), (5, .int (Int32.ofInt (iC t 16 (c).toNat))), (0, .ref (A 19)), (2, .ref (A 121)), (1, .int (Int32.ofInt xv)), (4, .int (Int32.ofInt c))]) rfl (by decide) (List.Mem.tail _ (List.Mem.tail _ (List.Mem.tail _ (List.Mem.tail _ (List.Mem.head _))))) (fun _ h => h) (z_aload_n X (x := A 19) rfl (List.Mem.tail _ (List.Mem.tail _ (List.Mem.head _))) (s_getR X 19 rfl (c518_ok rfl) rfl rfl (z_load_n X (x := (dp + (-1))) rfl (List.Mem.head _) (z_const X rfl (z_sub X rfl (z_load X (x := (iC t 16 (c).toNat)) rfl (List.Mem.tail _ (List.Mem.head _)) (z_aload_n X (x := A 19) rfl (List.Mem.tail _ (List.Mem.tail _ (List.Mem.head _))) (s_getR X 19 rfl (c518_ok rfl) rfl rfl (z_load_n X (x := (dp + (-1))) rfl (List.Mem.head _) (z_const X rfl (z_sub X rfl ?_)))))))))))
              refine z_ald X 24 rfl (c518_ok rfl) rfl (by first | exact oq_d588e9be g1006 | omega) (show ((dp + (-1)) - 1) < 200 by first | exact oq_f9b4958f hi.2.1.2 | omega) (cbig_ok rfl) ?_
              have b1007 := bc_20 I (show (((dp + (-1)) - 1)).toNat < 200 by first | exact oq_ab8c951f hi.2.1.2 | omega)
              refine z_aload_n X (x := A 19) rfl (List.Mem.tail _ (List.Mem.tail _ (List.Mem.head _))) (s_getR X 19 rfl (c518_ok rfl) rfl rfl (z_load_n X (x := (dp + (-1))) rfl (List.Mem.head _) (z_ald X 24 rfl (c518_ok rfl) rfl (by first | exact oq_6c14892a g1006 | omega) (show (dp + (-1)) < 200 by first | exact oq_2dcece94 hi.2.1.2 | omega) (cbig_ok rfl) ?_)))
              have b1008 := bc_20 I (show ((dp + (-1))).toNat < 200 by first | exact oq_323b4624 hi.2.1.2 | omega)
              refine z_callS X (rm := rmN 85) (As := [.int (Int32.ofInt (iC t 16 (c).toNat)), .int (Int32.ofInt (iC t 20 (((dp + (-1)) - 1)).toNat)), .int (Int32.ofInt (iC t 20 ((dp + (-1))).toNat))]) (st := [.int (Int32.ofInt ((dp + (-1)) - 1)), .ref (A 24)]) rfl rfl (by rw [E.1, E.2.1, E.2.2.1]; exact c7_joined G I (by first | exact ⟨b1003.1, b1003.2⟩ | omega) (by first | exact ⟨b1007.1, b1007.2⟩ | omega) (by first | exact ⟨b1008.1, b1008.2⟩ | omega)) ⟨by rw [E.2.2.2]; exact (show (rmN 85).frames + 1 ≤ (rmN 84).frames by decide), by rw [E.2.2.2]; exact (show 8 + (mNL (miB 85) + 11) + (rmN 85).locals ≤ (rmN 84).locals by decide), by rw [E.2.2.2]; exact (show 0 + (rmN 85).cells ≤ (rmN 84).cells by decide), by rw [E.2.2.2]; exact (show 0 + (rmN 85).slots ≤ (rmN 84).slots by decide)⟩ (Nat.le_of_ble_eq_true rfl) (fun vv s1009 hq => ?_) (fun ee s1009 hq => ?_)
              rotate_left
              · obtain ⟨rfl, e1010, hv, hrs1009, hps1009⟩ := hq; cases hv
              obtain ⟨rfl, e1010, hv, hrs1009, hps1009⟩ := hq
              cases hv
              show WS k 156 [(3, .int (Int32.ofInt (dp + (-1)))), (5, .int (Int32.ofInt (iC t 16 (c).toNat))), (0, .ref (A 19)), (2, .ref (A 121)), (1, .int (Int32.ofInt xv)), (4, .int (Int32.ofInt c))] [.int (Int32.ofInt e1010), .int (Int32.ofInt ((dp + (-1)) - 1)), .ref (A 24)] (Wd A dT t) 0 0
              refine z_ast X 24 rfl (c518_ok rfl) rfl (by first | exact oq_d588e9be g1006 | omega) (show ((dp + (-1)) - 1) < 200 by first | exact oq_f9b4958f hi.2.1.2 | omega) (cbig_ok rfl) (wd_gen (fun s1011 hs1011 => ?_))
              have Is1011 : Bd s1011 := eqB hs1011 (bd_C I (show ((-2147483648) : Int) ≤ e1010 ∧ e1010 ≤ 2147483647 by first | exact ⟨hps1009.1, hps1009.2⟩ | omega) hrs1009)
              have Fs1011 := eqF hs1011 (fm_C F (inl_ok (a := 20) rfl))
              refine z_inc X (x := c) (lv' := [(4, .int (Int32.ofInt (c + 1))), (3, .int (Int32.ofInt (dp + (-1)))), (5, .int (Int32.ofInt (iC t 16 (c).toNat))), (0, .ref (A 19)), (2, .ref (A 121)), (1, .int (Int32.ofInt xv))]) rfl (by decide) (List.Mem.tail _ (List.Mem.tail _ (List.Mem.tail _ (List.Mem.tail _ (List.Mem.tail _ (List.Mem.head _)))))) (fun _ h => h) (z_goto X (t := 28) rfl rfl (WS_pq [3, 4, 5, 1, 0] (lv' := [(0, .ref (A 19)), (2, .ref (A 121)), (1, .int (Int32.ofInt xv)), (3, .int (Int32.ofInt (dp + (-1)))), (4, .int (Int32.ofInt (c + 1)))]) rfl ?_))
              exact ih _ xv (dp + (-1)) (c + 1) Is1011 Fs1011 (by first | exact ⟨And.intro (hi.1.1) (hi.1.2), And.intro (oq_6c14892a g1006) (oq_af76c38b hi.2.1.2), oq_54f49eb5 hi.2.2.1, oq_228270fa g1002 b1001.2⟩ | omega) (by first | exact qk_me hm (by decide) (oq_b0a4f3e2 g1002 b1001.2) | omega) kx
          ·
            refine z_load_n X (x := dp) rfl (List.Mem.tail _ (List.Mem.tail _ (List.Mem.tail _ (List.Mem.tail _ (List.Mem.head _))))) (z_if_le X (t := 157) rfl rfl ⟨by first | exact oq_fa4e5087 hi.2.1.1 | omega, by first | exact oq_52af2b96 hi.2.1.2 | omega⟩ (fun g1012 => ?_) (fun g1012 => ?_))
            ·
              refine z_inc X (x := c) (lv' := [(4, .int (Int32.ofInt (c + 1))), (5, .int (Int32.ofInt (iC t 16 (c).toNat))), (0, .ref (A 19)), (2, .ref (A 121)), (1, .int (Int32.ofInt xv)), (3, .int (Int32.ofInt dp))]) rfl (by decide) (List.Mem.tail _ (List.Mem.tail _ (List.Mem.tail _ (List.Mem.tail _ (List.Mem.tail _ (List.Mem.head _)))))) (fun _ h => h) (z_goto X (t := 28) rfl rfl (WS_pq [2, 3, 4, 5, 0] (lv' := [(0, .ref (A 19)), (2, .ref (A 121)), (1, .int (Int32.ofInt xv)), (3, .int (Int32.ofInt dp)), (4, .int (Int32.ofInt (c + 1)))]) rfl ?_))
              exact ih _ xv dp (c + 1) I F (by first | exact ⟨And.intro (hi.1.1) (hi.1.2), And.intro (hi.2.1.1) (hi.2.1.2), oq_54f49eb5 hi.2.2.1, oq_228270fa g1002 b1001.2⟩ | omega) (by first | exact qk_me hm (by decide) (oq_b0a4f3e2 g1002 b1001.2) | omega) kx
            ·
              refine z_aload_n X (x := A 19) rfl (List.Mem.tail _ (List.Mem.head _)) (s_getR X 19 rfl (c518_ok rfl) rfl rfl (z_load_n X (x := dp) rfl (List.Mem.tail _ (List.Mem.tail _ (List.Mem.tail _ (List.Mem.tail _ (List.Mem.head _))))) (z_const X rfl (z_sub X rfl (z_const X rfl (z_aload_n X (x := A 19) rfl (List.Mem.tail _ (List.Mem.head _)) (s_getR X 19 rfl (c518_ok rfl) rfl rfl (z_load_n X (x := dp) rfl (List.Mem.tail _ (List.Mem.tail _ (List.Mem.tail _ (List.Mem.tail _ (List.Mem.head _))))) (z_const X rfl (z_sub X rfl (z_ald X 24 rfl (c518_ok rfl) rfl (by first | exact oq_a4f22177 g1012 | omega) (show (dp - 1) < 200 by first | exact oq_76ad2bb2 hi.2.1.2 | omega) (cbig_ok rfl) ?_)))))))))))
              have b1013 := bc_20 I (show ((dp - 1)).toNat < 200 by first | exact oq_a03494ec hi.2.1.2 | omega)
              refine z_sub X rfl (z_any (fun y1014 hy1014 => ?_))
              refine z_ast X 24 rfl (c518_ok rfl) rfl (by first | exact oq_a4f22177 g1012 | omega) (show (dp - 1) < 200 by first | exact oq_76ad2bb2 hi.2.1.2 | omega) (cbig_ok rfl) (wd_gen (fun s1015 hs1015 => ?_))
              have Is1015 : Bd s1015 := eqB hs1015 (bd_C I (show ((-2147483648) : Int) ≤ y1014 ∧ y1014 ≤ 2147483647 by first | exact ⟨hy1014.1, hy1014.2⟩ | omega) hy1014)
              have Fs1015 := eqF hs1015 (fm_C F (inl_ok (a := 20) rfl))
              refine z_goto X (t := 157) rfl rfl (z_inc X (x := c) (lv' := [(4, .int (Int32.ofInt (c + 1))), (5, .int (Int32.ofInt (iC t 16 (c).toNat))), (0, .ref (A 19)), (2, .ref (A 121)), (1, .int (Int32.ofInt xv)), (3, .int (Int32.ofInt dp))]) rfl (by decide) (List.Mem.tail _ (List.Mem.tail _ (List.Mem.tail _ (List.Mem.tail _ (List.Mem.tail _ (List.Mem.head _)))))) (fun _ h => h) (z_goto X (t := 28) rfl rfl (WS_pq [2, 3, 4, 5, 0] (lv' := [(0, .ref (A 19)), (2, .ref (A 121)), (1, .int (Int32.ofInt xv)), (3, .int (Int32.ofInt dp)), (4, .int (Int32.ofInt (c + 1)))]) rfl ?_)))
              exact ih _ xv dp (c + 1) Is1015 Fs1015 (by first | exact ⟨And.intro (hi.1.1) (hi.1.2), And.intro (hi.2.1.1) (hi.2.1.2), oq_54f49eb5 hi.2.2.1, oq_228270fa g1002 b1001.2⟩ | omega) (by first | exact qk_me hm (by decide) (oq_b0a4f3e2 g1002 b1001.2) | omega) kx
        ·
          refine z_load_n X (x := dp) rfl (List.Mem.tail _ (List.Mem.tail _ (List.Mem.tail _ (List.Mem.tail _ (List.Mem.head _))))) (z_sipush X rfl (z_icmp_ge X (t := 157) rfl rfl ⟨by first | exact oq_fa4e5087 hi.2.1.1 | omega, by first | exact oq_52af2b96 hi.2.1.2 | omega⟩ (by decide) (fun g1016 => ?_) (fun g1016 => ?_)))
          ·
            refine z_inc X (x := c) (lv' := [(4, .int (Int32.ofInt (c + 1))), (5, .int (Int32.ofInt (iC t 16 (c).toNat))), (0, .ref (A 19)), (2, .ref (A 121)), (1, .int (Int32.ofInt xv)), (3, .int (Int32.ofInt dp))]) rfl (by decide) (List.Mem.tail _ (List.Mem.tail _ (List.Mem.tail _ (List.Mem.tail _ (List.Mem.tail _ (List.Mem.head _)))))) (fun _ h => h) (z_goto X (t := 28) rfl rfl (WS_pq [2, 3, 4, 5, 0] (lv' := [(0, .ref (A 19)), (2, .ref (A 121)), (1, .int (Int32.ofInt xv)), (3, .int (Int32.ofInt dp)), (4, .int (Int32.ofInt (c + 1)))]) rfl ?_))
            exact ih _ xv dp (c + 1) I F (by first | exact ⟨And.intro (hi.1.1) (hi.1.2), And.intro (hi.2.1.1) (hi.2.1.2), oq_54f49eb5 hi.2.2.1, oq_228270fa g1002 b1001.2⟩ | omega) (by first | exact qk_me hm (by decide) (oq_b0a4f3e2 g1002 b1001.2) | omega) kx
          ·
            refine z_aload_n X (x := A 19) rfl (List.Mem.tail _ (List.Mem.head _)) (s_getR X 19 rfl (c518_ok rfl) rfl rfl (z_load_n X (x := dp) rfl (List.Mem.tail _ (List.Mem.tail _ (List.Mem.tail _ (List.Mem.tail _ (List.Mem.head _))))) (z_load X (x := (iC t 16 (c).toNat)) rfl (List.Mem.head _) ?_)))
            have N1017 : ∀ e1018 : Int, ((((iC t 16 (c).toNat) < 0) ∧ (((-2147483648) : Int) ≤ iC t 105 (((-1) - (iC t 16 (c).toNat))).toNat ∧ iC t 105 (((-1) - (iC t 16 (c).toNat))).toNat ≤ 2147483647) ∧ e1018 = (iC t 105 (((-1) - (iC t 16 (c).toNat))).toNat)) ∨ ((0 ≤ (iC t 16 (c).toNat)) ∧ e1018 = (iC t 16 (c).toNat))) → WS k 83 [(5, .int (Int32.ofInt (iC t 16 (c).toNat))), (0, .ref (A 19)), (2, .ref (A 121)), (1, .int (Int32.ofInt xv)), (3, .int (Int32.ofInt dp)), (4, .int (Int32.ofInt c))] [.int (Int32.ofInt e1018), .int (Int32.ofInt dp), .ref (A 24)] (Wd A dT t) 0 0 := by
              intro e1018 he1018
              refine z_ast X 24 rfl (c518_ok rfl) rfl (by first | exact hi.2.1.1 | omega) (show dp < 200 by first | exact g1016 | omega) (cbig_ok rfl) (wd_gen (fun s1019 hs1019 => ?_))
              have Is1019 : Bd s1019 := eqB hs1019 (bd_C I (show ((-2147483648) : Int) ≤ e1018 ∧ e1018 ≤ 2147483647 by first | exact ⟨oq_05aece2f he1018, oq_93cedf2b he1018 b1003.2⟩ | omega) ⟨by first | exact oq_05aece2f he1018 | omega, by first | exact oq_93cedf2b he1018 b1003.2 | omega⟩)
              have Fs1019 := eqF hs1019 (fm_C F (inl_ok (a := 20) rfl))
              refine z_inc X (x := dp) (lv' := [(3, .int (Int32.ofInt (dp + 1))), (5, .int (Int32.ofInt (iC t 16 (c).toNat))), (0, .ref (A 19)), (2, .ref (A 121)), (1, .int (Int32.ofInt xv)), (4, .int (Int32.ofInt c))]) rfl (by decide) (List.Mem.tail _ (List.Mem.tail _ (List.Mem.tail _ (List.Mem.tail _ (List.Mem.head _))))) (fun _ h => h) (z_goto X (t := 157) rfl rfl (z_inc X (x := c) (lv' := [(4, .int (Int32.ofInt (c + 1))), (3, .int (Int32.ofInt (dp + 1))), (5, .int (Int32.ofInt (iC t 16 (c).toNat))), (0, .ref (A 19)), (2, .ref (A 121)), (1, .int (Int32.ofInt xv))]) rfl (by decide) (List.Mem.tail _ (List.Mem.tail _ (List.Mem.tail _ (List.Mem.tail _ (List.Mem.tail _ (List.Mem.head _)))))) (fun _ h => h) (z_goto X (t := 28) rfl rfl (WS_pq [3, 4, 5, 1, 0] (lv' := [(0, .ref (A 19)), (2, .ref (A 121)), (1, .int (Int32.ofInt xv)), (3, .int (Int32.ofInt (dp + 1))), (4, .int (Int32.ofInt (c + 1)))]) rfl ?_))))
              exact ih _ xv (dp + 1) (c + 1) Is1019 Fs1019 (by first | exact ⟨And.intro (hi.1.1) (hi.1.2), And.intro (oq_54f49eb5 hi.2.1.1) (oq_0cb6ab8a g1016), oq_54f49eb5 hi.2.2.1, oq_228270fa g1002 b1001.2⟩ | omega) (by first | exact qk_me hm (by decide) (oq_b0a4f3e2 g1002 b1001.2) | omega) kx
            refine z_if_lt X (t := 77) rfl rfl (rng_to _) (fun g1020 => ?_) (fun g1020 => ?_)
            ·
              refine z_aload_n X (x := A 121) rfl (List.Mem.tail _ (List.Mem.tail _ (List.Mem.head _))) (z_const X rfl (z_load X (x := (iC t 16 (c).toNat)) rfl (List.Mem.head _) (z_sub X rfl (z_ald X 121 rfl (c518_ok rfl) rfl (by first | exact oq_c38d07c4 g1020 | omega) (show ((-1) - (iC t 16 (c).toNat)) < 7 by first | exact oq_a1f4cde5 g1004 | omega) (cbig_ok rfl) ?_))))
              have b1021 := bc_105 I (show (((-1) - (iC t 16 (c).toNat))).toNat < 7 by first | exact oq_91b916ba g1004 | omega)
              exact N1017 _ (Or.inl ⟨g1020, b1021, rfl⟩)
            ·
              exact z_load X (x := (iC t 16 (c).toNat)) rfl (List.Mem.head _) (z_goto X (t := 83) rfl rfl (N1017 _ (Or.inr (⟨g1020, rfl⟩))))
  refine z_load_n X (x := x) rfl (List.Mem.tail _ (List.Mem.head _)) (z_const X rfl (z_icmp_ne X (t := 19) rfl rfl ⟨by first | exact oq_97ee2c2a p0.1 | omega, by first | exact oq_0e78ca7d p0.2 | omega⟩ (by decide) (fun g1 => ?_) (fun g1 => ?_)))
  ·
    refine z_const X rfl (z_store_n X (lv' := [(3, .int (Int32.ofInt 0)), (0, .ref (A 19)), (1, .int (Int32.ofInt x)), (2, .ref (A 121))]) rfl (by decide) (fun _ h => h) (z_aload_n X (x := A 19) rfl (List.Mem.tail _ (List.Mem.head _)) (z_load_n X (x := x) rfl (List.Mem.tail _ (List.Mem.tail _ (List.Mem.head _))) (zcV_i0 X E 19 (As := [.int (Int32.ofInt x)]) (st := []) rfl rfl rfl rfl (c7_beginOf_19 G I (by first | exact ⟨oq_7a1025bf g1 p0.1, p0.2⟩ | omega)) rfl (Nat.le_of_ble_eq_true rfl) (fun s2 e3 Is2 Fs2 hrs2 hps2 => ?_)))))
    have Gs2 := fm_tq F Fs2 rfl rfl
    refine z_store X (lv' := [(4, .int (Int32.ofInt e3)), (3, .int (Int32.ofInt 0)), (0, .ref (A 19)), (1, .int (Int32.ofInt x)), (2, .ref (A 121))]) rfl (by decide) (fun _ h => h) (WS_pq [2, 4, 3, 1, 0] (lv' := [(0, .ref (A 19)), (2, .ref (A 121)), (1, .int (Int32.ofInt x)), (3, .int (Int32.ofInt 0)), (4, .int (Int32.ofInt e3))]) rfl (L28 ((200 - e3 : Int).toNat + 1) s2 x 0 e3 Is2 Gs2 (by first | exact ⟨oq_b629d6d6 g1 p0.2 p0.1, And.intro (by decide) (by decide), hps2.1, hps2.2⟩ | omega) (Nat.lt_succ_self _) ?_))
    intro s4 x5 x6 Is4 Fs4 hs4
    refine z_aload_n X (x := A 19) rfl (List.Mem.head _) (s_getR X 19 rfl (c518_ok rfl) rfl rfl (z_const X rfl (z_ald X 24 rfl (c518_ok rfl) rfl (by decide) (show 0 < 200 by decide) (cbig_ok rfl) ?_)))
    have b7 := bc_20 Is4 (show (0 : Int).toNat < 200 by first | exact oq_e7d7c2b9 | omega)
    exact w_iret X.1 q hRt rfl (ax_d X (show cdA 84 169 = some (.ireturn, 1, 0, 0, 0) from rfl)) (Nat.zero_le _) (Nat.zero_le _) ⟨_, rfl, Is4, Fs4, (iC s4 20 (0 : Int).toNat), rfl, (rng_to _), trivial⟩
  ·
    refine z_aload_n X (x := A 121) rfl (List.Mem.tail _ (List.Mem.tail _ (List.Mem.head _))) (z_const X rfl (z_ald X 121 rfl (c518_ok rfl) rfl (by decide) (show 0 < 7 by decide) (cbig_ok rfl) ?_))
    have b8 := bc_105 I (show (0 : Int).toNat < 7 by first | exact oq_e8ec3fa8 | omega)
    refine z_const X rfl (z_aload_n X (x := A 121) rfl (List.Mem.tail _ (List.Mem.tail _ (List.Mem.head _))) (z_const X rfl (z_ald X 121 rfl (c518_ok rfl) rfl (by decide) (show 1 < 7 by decide) (cbig_ok rfl) ?_)))
    have b9 := bc_105 I (show (1 : Int).toNat < 7 by first | exact oq_a32b659c | omega)
    refine z_mul X rfl (z_any (fun y10 hy10 => ?_))
    refine z_add X rfl (z_any (fun y11 hy11 => ?_))
    refine z_aload_n X (x := A 121) rfl (List.Mem.tail _ (List.Mem.tail _ (List.Mem.head _))) (z_const X rfl (z_ald X 121 rfl (c518_ok rfl) rfl (by decide) (show 2 < 7 by decide) (cbig_ok rfl) ?_))
    have b12 := bc_105 I (show (2 : Int).toNat < 7 by first | exact oq_62527c24 | omega)
    refine z_add X rfl (z_any (fun y13 hy13 => ?_))
    exact w_iret X.1 q hRt rfl (ax_d X (show cdA 84 18 = some (.ireturn, 1, 0, 0, 0) from rfl)) (Nat.zero_le _) (Nat.zero_le _) ⟨_, rfl, I, F, y13, rfl, hy13, trivial⟩
set_option maxRecDepth 4000 in
theorem c0_loadAt_113 (G : GX l s0 D tys a0 dT) (I : Bd s) {x y : Int} (p0 : 0 ≤ x ∧ x ≤ 23) (p1 : rng y) : CT l s0 D A dT 4 (rmN 4) [.ref (A 113), .int (Int32.ofInt x), .int (Int32.ofInt y)] s (fun o t => Bd t ∧ Fm [] [105, 20] s t ∧ ∃ e, o = .inl (some (.int (Int32.ofInt e))) ∧ rng e ∧ (True)) := by
  refine ct_ofX G (by decide) (Nat.le_of_ble_eq_true rfl) (fun k X E ET hRt hXt q => ?_)
  show WS k 0 [(0, .ref (A 113)), (1, .int (Int32.ofInt x)), (2, .int (Int32.ofInt y))] [] _ 0 0
  have F : Fm [] [105, 20] s s := fm_rf _ _ s
  refine z_aload_n X (x := A 113) rfl (List.Mem.head _) (z_load_n X (x := x) rfl (List.Mem.tail _ (List.Mem.head _)) (z_load_n X (x := y) rfl (List.Mem.tail _ (List.Mem.tail _ (List.Mem.head _))) (zcV_v0 X E 113 (As := [.int (Int32.ofInt x), .int (Int32.ofInt y)]) (st := []) rfl rfl rfl rfl (c0_hear_113 G I (by first | exact ⟨p0.1, p0.2⟩ | omega) (by first | exact ⟨p1.1, p1.2⟩ | omega)) rfl (Nat.le_of_ble_eq_true rfl) (fun s1 Is1 Fs1 hps1 => ?_))))
  have Gs1 := fm_tq F Fs1 rfl rfl
  refine z_aload_n X (x := A 113) rfl (List.Mem.head _) (s_getR X 113 rfl (c518_ok rfl) rfl rfl (z_aload_n X (x := A 113) rfl (List.Mem.head _) (s_getR X 113 rfl (c518_ok rfl) rfl rfl (z_getI X 19 rfl (c518_ok rfl) rfl rfl ?_))))
  have b3 := bi_13 Is1
  refine z_aload_n X (x := A 113) rfl (List.Mem.head _) (s_getR X 113 rfl (c518_ok rfl) rfl rfl (zcV_i0 X E 19 (As := [.int (Int32.ofInt (iI s1 13)), .ref (A 121)]) (st := []) rfl rfl rfl rfl (c7_work_113 G Is1 (by first | exact ⟨b3.1, b3.2⟩ | omega)) rfl (Nat.le_of_ble_eq_true rfl) (fun s4 e5 Is4 Fs4 hrs4 hps4 => ?_)))
  have Gs4 := fm_tq Gs1 Fs4 rfl rfl
  exact w_iret X.1 q hRt rfl (ax_d X (show cdA 4 24 = some (.ireturn, 1, 0, 0, 0) from rfl)) (Nat.zero_le _) (Nat.zero_le _) ⟨_, rfl, Is4, Gs4, e5, rfl, hrs4, trivial⟩
set_option maxRecDepth 4000 in
theorem c0_followSteps_123 (G : GX l s0 D tys a0 dT) (I : Bd s) {x : Int} {aj bj : Int64} (p0 : 0 ≤ x ∧ x ≤ 11) (p1 : iI s 55 ≤ 11) : CT l s0 D A dT 2 (rmN 2) [.ref (A 123), .int (Int32.ofInt x), .long aj, .long bj] s (fun o t => Bd t ∧ Fm [] [108, 109, 110] s t ∧ o = .inl none ∧ (True)) := by
  refine ct_ofX G (by decide) (Nat.le_of_ble_eq_true rfl) (fun k X E ET hRt hXt q => ?_)
  show WS k 0 [(0, .ref (A 123)), (1, .int (Int32.ofInt x)), (2, .long aj), (4, .long bj)] [] _ 0 0
  have F : Fm [] [108, 109, 110] s s := fm_rf _ _ s
  have b1 := bi_55 I
  have L12 : ∀ (n : Nat) (t : PS) (xv : Int) (av : Int64) (bv : Int64) (ov : Int) (wi : Int) (cl : Int) (kd : Int), Bd t → Fm [] [108, 109, 110] s t → ((0 ≤ xv ∧ xv ≤ 11) ∧ rng ov ∧ rng wi ∧ rng cl ∧ 0 ≤ kd ∧ kd ≤ 5 ∧ iI t 55 ≤ 11) → (5 - kd : Int).toNat < n → (∀ (t' : PS) (ov' : Int) (wi' : Int) (cl' : Int) (kd' : Int), Bd t' → Fm [] [108, 109, 110] s t' → ((0 ≤ xv ∧ xv ≤ 11) ∧ rng ov' ∧ rng wi' ∧ rng cl' ∧ 0 ≤ kd' ∧ kd' ≤ 5 ∧ iI t' 55 ≤ 11) → WS k 148 [(0, .ref (A 123)), (1, .int (Int32.ofInt xv)), (2, .long av), (4, .long bv), (6, .int (Int32.ofInt ov')), (7, .int (Int32.ofInt wi')), (8, .int (Int32.ofInt cl')), (9, .int (Int32.ofInt kd'))] [] (Wd A dT t') 0 0) → WS k 12 [(0, .ref (A 123)), (1, .int (Int32.ofInt xv)), (2, .long av), (4, .long bv), (6, .int (Int32.ofInt ov)), (7, .int (Int32.ofInt wi)), (8, .int (Int32.ofInt cl)), (9, .int (Int32.ofInt kd))] [] (Wd A dT t) 0 0 := by
    intro n
    induction n with
    | zero =>
      intro t xv av bv ov wi cl kd I F hi hm kx
      exact absurd hm (Nat.not_lt_zero _)
    | succ n ih =>
      intro t xv av bv ov wi cl kd I F hi hm kx
      have b1001 := bi_55 I
      refine z_load X (x := kd) rfl (List.Mem.tail _ (List.Mem.tail _ (List.Mem.tail _ (List.Mem.tail _ (List.Mem.tail _ (List.Mem.tail _ (List.Mem.tail _ (List.Mem.head _)))))))) (z_const X rfl (z_icmp_ge X (t := 148) rfl rfl ⟨by first | exact oq_fa4e5087 hi.2.2.2.2.1 | omega, by first | exact oq_a3dd55e5 hi.2.2.2.2.2.1 | omega⟩ (by decide) (fun g1002 => ?_) (fun g1002 => ?_)))
      ·
        refine WS_pq [0, 1, 2, 3, 4, 5, 6, 7] (lv' := [(0, .ref (A 123)), (1, .int (Int32.ofInt xv)), (2, .long av), (4, .long bv), (6, .int (Int32.ofInt ov)), (7, .int (Int32.ofInt wi)), (8, .int (Int32.ofInt cl)), (9, .int (Int32.ofInt kd))]) rfl ?_
        exact kx _ ov wi cl kd I F (by first | exact ⟨And.intro (hi.1.1) (hi.1.2), And.intro (hi.2.1.1) (hi.2.1.2), And.intro (hi.2.2.1.1) (hi.2.2.1.2), And.intro (hi.2.2.2.1.1) (hi.2.2.2.1.2), hi.2.2.2.2.1, hi.2.2.2.2.2.1, hi.2.2.2.2.2.2⟩ | omega)
      ·
        refine z_aload_n X (x := A 123) rfl (List.Mem.head _) (s_getR X 123 rfl (c518_ok rfl) rfl rfl (s_getR X 68 rfl (c518_ok rfl) rfl rfl (z_load_n X (x := xv) rfl (List.Mem.tail _ (List.Mem.head _)) (z_const X rfl (z_mul X rfl (z_load X (x := kd) rfl (List.Mem.tail _ (List.Mem.tail _ (List.Mem.tail _ (List.Mem.tail _ (List.Mem.tail _ (List.Mem.tail _ (List.Mem.tail _ (List.Mem.head _)))))))) (z_add X rfl (z_lald X 73 rfl (c518_ok rfl) rfl (by first | exact oq_59a253bd hi.1.1 hi.2.2.2.2.1 | omega) (show ((xv * 5) + kd) < 60 by first | exact oq_7279bf48 hi.1.2 g1002 | omega) (cbig_ok rfl) (fun j1003 => ?_)))))))))
        refine w_lstore X.1 (lv' := [(10, .long j1003), (0, .ref (A 123)), (1, .int (Int32.ofInt xv)), (2, .long av), (4, .long bv), (6, .int (Int32.ofInt ov)), (7, .int (Int32.ofInt wi)), (8, .int (Int32.ofInt cl)), (9, .int (Int32.ofInt kd))]) (ax_d X (show cdA 2 32 = some (.lstore 10, 2, 0, 0, 0) from rfl)) (by rw [X.2.1.2.2]; decide) (fun _ h => h) (w_lload X.1 (ax_d X (show cdA 2 34 = some (.lload 10, 2, 0, 0, 0) from rfl)) (x := j1003) (List.Mem.head _) (w_lconst X.1 (ax_d X (show cdA 2 36 = some (.lconst 0, 1, 0, 0, 0) from rfl)) rfl (z_anyJ (fun j1004 => ?_))))
        refine w_lcmp X.1 (ax_d X (show cdA 2 37 = some (.lcmp, 1, 0, 0, 0) from rfl)) (z_any (fun y1005 hy1005 => ?_))
        refine z_if_eq X (t := 142) rfl rfl hy1005 (fun g1006 => ?_) (fun g1006 => ?_)
        ·
          refine z_inc X (x := kd) (lv' := [(9, .int (Int32.ofInt (kd + 1))), (10, .long j1003), (0, .ref (A 123)), (1, .int (Int32.ofInt xv)), (2, .long av), (4, .long bv), (6, .int (Int32.ofInt ov)), (7, .int (Int32.ofInt wi)), (8, .int (Int32.ofInt cl))]) rfl (by decide) (List.Mem.tail _ (List.Mem.tail _ (List.Mem.tail _ (List.Mem.tail _ (List.Mem.tail _ (List.Mem.tail _ (List.Mem.tail _ (List.Mem.tail _ (List.Mem.head _))))))))) (fun _ h => h) (z_goto X (t := 12) rfl rfl (WS_pq [2, 3, 4, 5, 6, 7, 8, 0] (lv' := [(0, .ref (A 123)), (1, .int (Int32.ofInt xv)), (2, .long av), (4, .long bv), (6, .int (Int32.ofInt ov)), (7, .int (Int32.ofInt wi)), (8, .int (Int32.ofInt cl)), (9, .int (Int32.ofInt (kd + 1)))]) rfl ?_))
          exact ih _ xv av bv ov wi cl (kd + 1) I F (by first | exact ⟨And.intro (hi.1.1) (hi.1.2), And.intro (hi.2.1.1) (hi.2.1.2), And.intro (hi.2.2.1.1) (hi.2.2.1.2), And.intro (hi.2.2.2.1.1) (hi.2.2.2.1.2), oq_54f49eb5 hi.2.2.2.2.1, oq_c2445583 g1002, hi.2.2.2.2.2.2⟩ | omega) (by first | exact qk_me hm (by decide) (oq_33241a94 g1002) | omega) kx
        ·
          refine z_load X (x := kd) rfl (List.Mem.tail _ (List.Mem.tail _ (List.Mem.tail _ (List.Mem.tail _ (List.Mem.tail _ (List.Mem.tail _ (List.Mem.tail _ (List.Mem.tail _ (List.Mem.head _))))))))) (z_const X rfl ?_)
          have N1007 : ∀ j1008 : Int64, WS k 59 [(10, .long j1003), (0, .ref (A 123)), (1, .int (Int32.ofInt xv)), (2, .long av), (4, .long bv), (6, .int (Int32.ofInt ov)), (7, .int (Int32.ofInt wi)), (8, .int (Int32.ofInt cl)), (9, .int (Int32.ofInt kd))] [.long j1008] (Wd A dT t) 0 0 := by
            intro j1008
            refine w_lstore X.1 (lv' := [(12, .long j1008), (10, .long j1003), (0, .ref (A 123)), (1, .int (Int32.ofInt xv)), (2, .long av), (4, .long bv), (6, .int (Int32.ofInt ov)), (7, .int (Int32.ofInt wi)), (8, .int (Int32.ofInt cl)), (9, .int (Int32.ofInt kd))]) (ax_d X (show cdA 2 59 = some (.lstore 12, 2, 0, 0, 0) from rfl)) (by rw [X.2.1.2.2]; decide) (fun _ h => h) (z_load X (x := kd) rfl (List.Mem.tail _ (List.Mem.tail _ (List.Mem.tail _ (List.Mem.tail _ (List.Mem.tail _ (List.Mem.tail _ (List.Mem.tail _ (List.Mem.tail _ (List.Mem.tail _ (List.Mem.head _)))))))))) (z_const X rfl ?_))
            have N1009 : ∀ j1010 : Int64, WS k 90 [(12, .long j1008), (10, .long j1003), (0, .ref (A 123)), (1, .int (Int32.ofInt xv)), (2, .long av), (4, .long bv), (6, .int (Int32.ofInt ov)), (7, .int (Int32.ofInt wi)), (8, .int (Int32.ofInt cl)), (9, .int (Int32.ofInt kd))] [.long j1010] (Wd A dT t) 0 0 := by
              intro j1010
              refine w_lstore X.1 (lv' := [(14, .long j1010), (12, .long j1008), (10, .long j1003), (0, .ref (A 123)), (1, .int (Int32.ofInt xv)), (2, .long av), (4, .long bv), (6, .int (Int32.ofInt ov)), (7, .int (Int32.ofInt wi)), (8, .int (Int32.ofInt cl)), (9, .int (Int32.ofInt kd))]) (ax_d X (show cdA 2 90 = some (.lstore 14, 2, 0, 0, 0) from rfl)) (by rw [X.2.1.2.2]; decide) (fun _ h => h) (w_lload X.1 (ax_d X (show cdA 2 92 = some (.lload 10, 2, 0, 0, 0) from rfl)) (x := j1003) (List.Mem.tail _ (List.Mem.tail _ (List.Mem.head _))) (w_lload X.1 (ax_d X (show cdA 2 94 = some (.lload 12, 2, 0, 0, 0) from rfl)) (x := j1008) (List.Mem.tail _ (List.Mem.head _)) (w_land X.1 (ax_d X (show cdA 2 96 = some (.land, 1, 0, 0, 0) from rfl)) (z_anyJ (fun j1011 => ?_)))))
              refine w_lload X.1 (ax_d X (show cdA 2 97 = some (.lload 14, 2, 0, 0, 0) from rfl)) (x := j1010) (List.Mem.head _) (w_land X.1 (ax_d X (show cdA 2 99 = some (.land, 1, 0, 0, 0) from rfl)) (z_anyJ (fun j1012 => ?_)))
              refine zcS_i0 X E (As := [.long j1012]) (st := []) rfl rfl (j_bitL G I ) rfl (Nat.le_of_ble_eq_true rfl) (fun s1013 e1014 Is1013 Fs1013 hrs1013 hps1013 => ?_)
              have Gs1013 := fm_tq F Fs1013 rfl rfl
              have ws1013_55 : iI s1013 55 = iI t 55 := fm_iq Fs1013 rfl
              refine z_store X (lv' := [(16, .int (Int32.ofInt e1014)), (14, .long j1010), (12, .long j1008), (10, .long j1003), (0, .ref (A 123)), (1, .int (Int32.ofInt xv)), (2, .long av), (4, .long bv), (6, .int (Int32.ofInt ov)), (7, .int (Int32.ofInt wi)), (8, .int (Int32.ofInt cl)), (9, .int (Int32.ofInt kd))]) rfl (by decide) (fun _ h => h) (z_load X (x := ov) rfl (List.Mem.tail _ (List.Mem.tail _ (List.Mem.tail _ (List.Mem.tail _ (List.Mem.tail _ (List.Mem.tail _ (List.Mem.tail _ (List.Mem.tail _ (List.Mem.head _))))))))) (w_lload X.1 (ax_d X (show cdA 2 107 = some (.lload 10, 2, 0, 0, 0) from rfl)) (x := j1003) (List.Mem.tail _ (List.Mem.tail _ (List.Mem.tail _ (List.Mem.head _)))) (w_lload X.1 (ax_d X (show cdA 2 109 = some (.lload 12, 2, 0, 0, 0) from rfl)) (x := j1008) (List.Mem.tail _ (List.Mem.tail _ (List.Mem.head _))) (w_lload X.1 (ax_d X (show cdA 2 111 = some (.lload 14, 2, 0, 0, 0) from rfl)) (x := j1010) (List.Mem.tail _ (List.Mem.head _)) (w_lxor X.1 (ax_d X (show cdA 2 113 = some (.lxor, 1, 0, 0, 0) from rfl)) (z_anyJ (fun j1015 => ?_)))))))
              refine w_land X.1 (ax_d X (show cdA 2 114 = some (.land, 1, 0, 0, 0) from rfl)) (z_anyJ (fun j1016 => ?_))
              refine zcS_i0 X E (As := [.long j1016]) (st := [.int (Int32.ofInt ov)]) rfl rfl (j_bitL G Is1013 ) rfl (Nat.le_of_ble_eq_true rfl) (fun s1017 e1018 Is1017 Fs1017 hrs1017 hps1017 => ?_)
              have Gs1017 := fm_tq Gs1013 Fs1017 rfl rfl
              have ws1017_55 : iI s1017 55 = iI s1013 55 := fm_iq Fs1017 rfl
              refine z_add X rfl (z_any (fun y1019 hy1019 => ?_))
              refine z_store X (lv' := [(6, .int (Int32.ofInt y1019)), (16, .int (Int32.ofInt e1014)), (14, .long j1010), (12, .long j1008), (10, .long j1003), (0, .ref (A 123)), (1, .int (Int32.ofInt xv)), (2, .long av), (4, .long bv), (7, .int (Int32.ofInt wi)), (8, .int (Int32.ofInt cl)), (9, .int (Int32.ofInt kd))]) rfl (by decide) (fun _ h => h) (z_load X (x := wi) rfl (List.Mem.tail _ (List.Mem.tail _ (List.Mem.tail _ (List.Mem.tail _ (List.Mem.tail _ (List.Mem.tail _ (List.Mem.tail _ (List.Mem.tail _ (List.Mem.tail _ (List.Mem.head _)))))))))) (z_load X (x := e1014) rfl (List.Mem.tail _ (List.Mem.head _)) (z_add X rfl (z_any (fun y1020 hy1020 => ?_)))))
              refine z_store X (lv' := [(7, .int (Int32.ofInt y1020)), (6, .int (Int32.ofInt y1019)), (16, .int (Int32.ofInt e1014)), (14, .long j1010), (12, .long j1008), (10, .long j1003), (0, .ref (A 123)), (1, .int (Int32.ofInt xv)), (2, .long av), (4, .long bv), (8, .int (Int32.ofInt cl)), (9, .int (Int32.ofInt kd))]) rfl (by decide) (fun _ h => h) (z_load X (x := kd) rfl (List.Mem.tail _ (List.Mem.tail _ (List.Mem.tail _ (List.Mem.tail _ (List.Mem.tail _ (List.Mem.tail _ (List.Mem.tail _ (List.Mem.tail _ (List.Mem.tail _ (List.Mem.tail _ (List.Mem.tail _ (List.Mem.head _)))))))))))) (z_const X rfl ?_))
              have N1021 : ∀ e1022 : Int, (((kd ≠ 4) ∧ e1022 = 0) ∨ ((kd = 4) ∧ e1022 = e1014)) → WS k 140 [(7, .int (Int32.ofInt y1020)), (6, .int (Int32.ofInt y1019)), (16, .int (Int32.ofInt e1014)), (14, .long j1010), (12, .long j1008), (10, .long j1003), (0, .ref (A 123)), (1, .int (Int32.ofInt xv)), (2, .long av), (4, .long bv), (8, .int (Int32.ofInt cl)), (9, .int (Int32.ofInt kd))] [.int (Int32.ofInt e1022)] (Wd A dT s1017) 0 0 := by
                intro e1022 he1022
                refine z_store X (lv' := [(8, .int (Int32.ofInt e1022)), (7, .int (Int32.ofInt y1020)), (6, .int (Int32.ofInt y1019)), (16, .int (Int32.ofInt e1014)), (14, .long j1010), (12, .long j1008), (10, .long j1003), (0, .ref (A 123)), (1, .int (Int32.ofInt xv)), (2, .long av), (4, .long bv), (9, .int (Int32.ofInt kd))]) rfl (by decide) (fun _ h => h) (z_inc X (x := kd) (lv' := [(9, .int (Int32.ofInt (kd + 1))), (8, .int (Int32.ofInt e1022)), (7, .int (Int32.ofInt y1020)), (6, .int (Int32.ofInt y1019)), (16, .int (Int32.ofInt e1014)), (14, .long j1010), (12, .long j1008), (10, .long j1003), (0, .ref (A 123)), (1, .int (Int32.ofInt xv)), (2, .long av), (4, .long bv)]) rfl (by decide) (List.Mem.tail _ (List.Mem.tail _ (List.Mem.tail _ (List.Mem.tail _ (List.Mem.tail _ (List.Mem.tail _ (List.Mem.tail _ (List.Mem.tail _ (List.Mem.tail _ (List.Mem.tail _ (List.Mem.tail _ (List.Mem.head _)))))))))))) (fun _ h => h) (z_goto X (t := 12) rfl rfl (WS_pq [8, 9, 10, 11, 3, 2, 1, 0] (lv' := [(0, .ref (A 123)), (1, .int (Int32.ofInt xv)), (2, .long av), (4, .long bv), (6, .int (Int32.ofInt y1019)), (7, .int (Int32.ofInt y1020)), (8, .int (Int32.ofInt e1022)), (9, .int (Int32.ofInt (kd + 1)))]) rfl ?_)))
                exact ih _ xv av bv y1019 y1020 e1022 (kd + 1) Is1017 Gs1017 (by first | exact ⟨And.intro (hi.1.1) (hi.1.2), And.intro (hy1019.1) (hy1019.2), And.intro (hy1020.1) (hy1020.2), by first | (clear he1022 g1006; omega) | (clear g1006; omega) | omega, oq_54f49eb5 hi.2.2.2.2.1, oq_c2445583 g1002, oq_9a920414 ws1017_55 ws1013_55 hi.2.2.2.2.2.2⟩ | omega) (by first | exact qk_me hm (by decide) (oq_33241a94 g1002) | omega) kx
              refine z_icmp_ne X (t := 139) rfl rfl ⟨by first | exact oq_fa4e5087 hi.2.2.2.2.1 | omega, by first | exact oq_85aa3fe6 g1002 | omega⟩ (by decide) (fun g1023 => ?_) (fun g1023 => ?_)
              ·
                exact z_const X rfl (N1021 _ (Or.inl ⟨g1023, rfl⟩))
              ·
                exact z_load X (x := e1014) rfl (List.Mem.tail _ (List.Mem.tail _ (List.Mem.head _))) (z_goto X (t := 140) rfl rfl (N1021 _ (Or.inr (⟨g1023, rfl⟩))))
            refine z_icmp_ne X (t := 72) rfl rfl ⟨by first | exact oq_fa4e5087 hi.2.2.2.2.1 | omega, by first | exact oq_85aa3fe6 g1002 | omega⟩ (by decide) (fun g1024 => ?_) (fun g1024 => ?_)
            ·
              refine z_load X (x := kd) rfl (List.Mem.tail _ (List.Mem.tail _ (List.Mem.tail _ (List.Mem.tail _ (List.Mem.tail _ (List.Mem.tail _ (List.Mem.tail _ (List.Mem.tail _ (List.Mem.tail _ (List.Mem.head _)))))))))) (z_const X rfl (z_icmp_ge X (t := 85) rfl rfl ⟨by first | exact oq_fa4e5087 hi.2.2.2.2.1 | omega, by first | exact oq_85aa3fe6 g1002 | omega⟩ (by decide) (fun g1025 => ?_) (fun g1025 => ?_)))
              ·
                refine w_lload X.1 (ax_d X (show cdA 2 85 = some (.lload 12, 2, 0, 0, 0) from rfl)) (x := j1008) (List.Mem.head _) (z_bipush X rfl (w_lushr X.1 (ax_d X (show cdA 2 89 = some (.lushr, 1, 0, 0, 0) from rfl)) (z_anyJ (fun j1026 => ?_))))
                exact N1009 _
              ·
                refine w_lload X.1 (ax_d X (show cdA 2 78 = some (.lload 12, 2, 0, 0, 0) from rfl)) (x := j1008) (List.Mem.head _) (z_const X rfl (w_lushr X.1 (ax_d X (show cdA 2 81 = some (.lushr, 1, 0, 0, 0) from rfl)) (z_anyJ (fun j1027 => ?_))))
                exact z_goto X (t := 90) rfl rfl (N1009 _)
            ·
              exact w_lload X.1 (ax_d X (show cdA 2 67 = some (.lload 4, 2, 0, 0, 0) from rfl)) (x := bv) (List.Mem.tail _ (List.Mem.tail _ (List.Mem.tail _ (List.Mem.tail _ (List.Mem.tail _ (List.Mem.head _)))))) (z_goto X (t := 90) rfl rfl (N1009 _))
          refine z_icmp_eq X (t := 53) rfl rfl ⟨by first | exact oq_fa4e5087 hi.2.2.2.2.1 | omega, by first | exact oq_85aa3fe6 g1002 | omega⟩ (by decide) (fun g1028 => ?_) (fun g1028 => ?_)
          ·
            exact w_lload X.1 (ax_d X (show cdA 2 53 = some (.lload 4, 2, 0, 0, 0) from rfl)) (x := bv) (List.Mem.tail _ (List.Mem.tail _ (List.Mem.tail _ (List.Mem.tail _ (List.Mem.head _))))) (z_goto X (t := 59) rfl rfl (N1007 _))
          ·
            refine z_load X (x := kd) rfl (List.Mem.tail _ (List.Mem.tail _ (List.Mem.tail _ (List.Mem.tail _ (List.Mem.tail _ (List.Mem.tail _ (List.Mem.tail _ (List.Mem.tail _ (List.Mem.head _))))))))) (z_const X rfl (z_icmp_ne X (t := 58) rfl rfl ⟨by first | exact oq_fa4e5087 hi.2.2.2.2.1 | omega, by first | exact oq_85aa3fe6 g1002 | omega⟩ (by decide) (fun g1029 => ?_) (fun g1029 => ?_)))
            ·
              exact w_lload_n X.1 (ax_d X (show cdA 2 58 = some (.lload_n 2, 1, 0, 0, 0) from rfl)) (x := av) (List.Mem.tail _ (List.Mem.tail _ (List.Mem.tail _ (List.Mem.head _)))) (N1007 _)
            ·
              exact w_lload X.1 (ax_d X (show cdA 2 53 = some (.lload 4, 2, 0, 0, 0) from rfl)) (x := bv) (List.Mem.tail _ (List.Mem.tail _ (List.Mem.tail _ (List.Mem.tail _ (List.Mem.head _))))) (z_goto X (t := 59) rfl rfl (N1007 _))
  refine z_const X rfl (z_store X (lv' := [(6, .int (Int32.ofInt 0)), (0, .ref (A 123)), (1, .int (Int32.ofInt x)), (2, .long aj), (4, .long bj)]) rfl (by decide) (fun _ h => h) (z_const X rfl (z_store X (lv' := [(7, .int (Int32.ofInt 0)), (6, .int (Int32.ofInt 0)), (0, .ref (A 123)), (1, .int (Int32.ofInt x)), (2, .long aj), (4, .long bj)]) rfl (by decide) (fun _ h => h) (z_const X rfl (z_store X (lv' := [(8, .int (Int32.ofInt 0)), (7, .int (Int32.ofInt 0)), (6, .int (Int32.ofInt 0)), (0, .ref (A 123)), (1, .int (Int32.ofInt x)), (2, .long aj), (4, .long bj)]) rfl (by decide) (fun _ h => h) (z_const X rfl (z_store X (lv' := [(9, .int (Int32.ofInt 0)), (8, .int (Int32.ofInt 0)), (7, .int (Int32.ofInt 0)), (6, .int (Int32.ofInt 0)), (0, .ref (A 123)), (1, .int (Int32.ofInt x)), (2, .long aj), (4, .long bj)]) rfl (by decide) (fun _ h => h) (WS_pq [4, 5, 6, 7, 3, 2, 1, 0] (lv' := [(0, .ref (A 123)), (1, .int (Int32.ofInt x)), (2, .long aj), (4, .long bj), (6, .int (Int32.ofInt 0)), (7, .int (Int32.ofInt 0)), (8, .int (Int32.ofInt 0)), (9, .int (Int32.ofInt 0))]) rfl (L12 ((5 - 0 : Int).toNat + 1) s x aj bj 0 0 0 0 I F (by first | exact ⟨And.intro (p0.1) (p0.2), And.intro (by decide) (by decide), And.intro (by decide) (by decide), And.intro (by decide) (by decide), by decide, by decide, p1⟩ | omega) (Nat.lt_succ_self _) ?_)))))))))
  intro s2 x3 x4 x5 x6 Is2 Fs2 hs2
  have b7 := bi_55 Is2
  refine z_aload_n X (x := A 123) rfl (List.Mem.head _) (s_getR X 123 rfl (c518_ok rfl) rfl rfl (z_aload_n X (x := A 123) rfl (List.Mem.head _) (z_getI X 123 rfl (c518_ok rfl) rfl rfl ?_)))
  have b8 := bi_55 Is2
  refine z_load X (x := x3) rfl (List.Mem.tail _ (List.Mem.tail _ (List.Mem.tail _ (List.Mem.tail _ (List.Mem.head _))))) (z_ast X 125 rfl (c518_ok rfl) rfl (by first | exact b8.1 | omega) (show (iI s2 55) < 12 by first | exact oq_0ddfcfee hs2.2.2.2.2.2.2 | omega) (cbig_ok rfl) (wd_gen (fun s9 hs9 => ?_)))
  have Is9 : Bd s9 := eqB hs9 (bd_C Is2 (show ((-2147483648) : Int) ≤ x3 ∧ x3 ≤ 2147483647 by first | exact ⟨hs2.2.1.1, hs2.2.1.2⟩ | omega) ⟨by first | exact hs2.2.1.1 | omega, by first | exact hs2.2.1.2 | omega⟩)
  have Fs9 := eqF hs9 (fm_C Fs2 (inl_ok (a := 108) rfl))
  have ws9_55 : iI s9 55 = iI s2 55 := eqI hs9 rfl
  refine z_aload_n X (x := A 123) rfl (List.Mem.head _) (s_getR X 123 rfl (c518_ok rfl) rfl rfl (z_aload_n X (x := A 123) rfl (List.Mem.head _) (z_getI X 123 rfl (c518_ok rfl) rfl rfl ?_)))
  have b10 := bi_55 Is9
  refine z_load X (x := x4) rfl (List.Mem.tail _ (List.Mem.tail _ (List.Mem.tail _ (List.Mem.tail _ (List.Mem.tail _ (List.Mem.head _)))))) (z_ast X 126 rfl (c518_ok rfl) rfl (by first | exact b10.1 | omega) (show (iI s9 55) < 12 by first | exact oq_210fcd76 ws9_55 hs2.2.2.2.2.2.2 | omega) (cbig_ok rfl) (wd_gen (fun s11 hs11 => ?_)))
  have Is11 : Bd s11 := eqB hs11 (bd_C Is9 (show ((-2147483648) : Int) ≤ x4 ∧ x4 ≤ 2147483647 by first | exact ⟨hs2.2.2.1.1, hs2.2.2.1.2⟩ | omega) ⟨by first | exact hs2.2.2.1.1 | omega, by first | exact hs2.2.2.1.2 | omega⟩)
  have Fs11 := eqF hs11 (fm_C Fs9 (inl_ok (a := 109) rfl))
  have ws11_55 : iI s11 55 = iI s9 55 := eqI hs11 rfl
  refine z_aload_n X (x := A 123) rfl (List.Mem.head _) (s_getR X 123 rfl (c518_ok rfl) rfl rfl (z_aload_n X (x := A 123) rfl (List.Mem.head _) (z_getI X 123 rfl (c518_ok rfl) rfl rfl ?_)))
  have b12 := bi_55 Is11
  refine z_load X (x := x5) rfl (List.Mem.tail _ (List.Mem.tail _ (List.Mem.tail _ (List.Mem.tail _ (List.Mem.tail _ (List.Mem.tail _ (List.Mem.head _))))))) (z_ast X 127 rfl (c518_ok rfl) rfl (by first | exact b12.1 | omega) (show (iI s11 55) < 12 by first | exact oq_e2284db0 ws11_55 ws9_55 hs2.2.2.2.2.2.2 | omega) (cbig_ok rfl) (wd_gen (fun s13 hs13 => ?_)))
  have Is13 : Bd s13 := eqB hs13 (bd_C Is11 (show ((-2147483648) : Int) ≤ x5 ∧ x5 ≤ 2147483647 by first | exact ⟨hs2.2.2.2.1.1, hs2.2.2.2.1.2⟩ | omega) ⟨by first | exact hs2.2.2.2.1.1 | omega, by first | exact hs2.2.2.2.1.2 | omega⟩)
  have Fs13 := eqF hs13 (fm_C Fs11 (inl_ok (a := 110) rfl))
  have ws13_55 : iI s13 55 = iI s11 55 := eqI hs13 rfl
  exact w_vret X.1 q hRt (ax_d X (show cdA 2 181 = some (.return_, 1, 0, 0, 0) from rfl)) (Nat.zero_le _) (Nat.zero_le _) ⟨_, rfl, Is13, Fs13, rfl, trivial⟩
set_option maxRecDepth 4000 in
theorem c0_listen_123 (G : GX l s0 D tys a0 dT) (I : Bd s) {x : Int} {aj bj : Int64} (p0 : rng x) : CT l s0 D A dT 1 (rmN 1) [.ref (A 123), .long aj, .long bj, .int (Int32.ofInt x)] s (fun o t => Bd t ∧ Fm [55, 56] [114, 107, 108, 109, 110, 111, 112, 113] s t ∧ o = .inl none ∧ (True)) := by
  refine ct_ofX G (by decide) (Nat.le_of_ble_eq_true rfl) (fun k X E ET hRt hXt q => ?_)
  show WS k 0 [(0, .ref (A 123)), (1, .long aj), (3, .long bj), (5, .int (Int32.ofInt x))] [] _ 0 0
  have F : Fm [55, 56] [114, 107, 108, 109, 110, 111, 112, 113] s s := fm_rf _ _ s
  have b1 := bi_55 I
  have b2 := bi_56 I
  have b3 := bi_43 I
  have b4 := bi_44 I
  have L42 : ∀ (n : Nat) (t : PS) (av : Int64) (bv : Int64) (c : Int), Bd t → Fm [55, 56] [114, 107, 108, 109, 110, 111, 112, 113] s t → (0 ≤ c ∧ c ≤ 12 ∧ iI t 55 ≤ c) → (12 - c : Int).toNat < n → (∀ (t' : PS) (c' : Int), Bd t' → Fm [55, 56] [114, 107, 108, 109, 110, 111, 112, 113] s t' → (0 ≤ c' ∧ c' ≤ 12 ∧ iI t' 55 ≤ c') → WS k 125 [(0, .ref (A 123)), (1, .long av), (3, .long bv), (6, .int (Int32.ofInt c'))] [] (Wd A dT t') 0 0) → WS k 42 [(0, .ref (A 123)), (1, .long av), (3, .long bv), (6, .int (Int32.ofInt c))] [] (Wd A dT t) 0 0 := by
    intro n
    induction n with
    | zero =>
      intro t av bv c I F hi hm kx
      exact absurd hm (Nat.not_lt_zero _)
    | succ n ih =>
      intro t av bv c I F hi hm kx
      have b1001 := bi_55 I
      have b1002 := bi_56 I
      have b1003 := bi_43 I
      have b1004 := bi_44 I
      refine z_load X (x := c) rfl (List.Mem.tail _ (List.Mem.tail _ (List.Mem.tail _ (List.Mem.head _)))) (z_aload_n X (x := A 123) rfl (List.Mem.head _) (s_getR X 123 rfl (c518_ok rfl) rfl rfl (z_getI X 68 rfl (c518_ok rfl) rfl rfl ?_)))
      have b1005 := bi_43 I
      refine z_icmp_ge X (t := 125) rfl rfl ⟨by first | exact oq_fa4e5087 hi.1 | omega, by first | exact oq_78843a64 hi.2.1 | omega⟩ (rng_to _) (fun g1006 => ?_) (fun g1006 => ?_)
      ·
        refine WS_pq [0, 1, 2, 3] (lv' := [(0, .ref (A 123)), (1, .long av), (3, .long bv), (6, .int (Int32.ofInt c))]) rfl ?_
        exact kx _ c I F (by first | exact ⟨hi.1, hi.2.1, hi.2.2⟩ | omega)
      ·
        refine z_aload_n X (x := A 123) rfl (List.Mem.head _) (s_getR X 123 rfl (c518_ok rfl) rfl rfl (s_getR X 68 rfl (c518_ok rfl) rfl rfl (z_load X (x := c) rfl (List.Mem.tail _ (List.Mem.tail _ (List.Mem.tail _ (List.Mem.head _)))) (z_const X rfl (z_mul X rfl (z_lald X 71 rfl (c518_ok rfl) rfl (by first | exact oq_cfc6ac54 hi.1 | omega) (show (c * 2) < 24 by first | exact oq_e062d2c8 g1006 b1005.2 | omega) (cbig_ok rfl) (fun j1007 => ?_)))))))
        refine w_lload_n X.1 (ax_d X (show cdA 1 66 = some (.lload_n 1, 1, 0, 0, 0) from rfl)) (x := av) (List.Mem.tail _ (List.Mem.head _)) (w_land X.1 (ax_d X (show cdA 1 67 = some (.land, 1, 0, 0, 0) from rfl)) (z_anyJ (fun j1008 => ?_)))
        refine z_aload_n X (x := A 123) rfl (List.Mem.head _) (s_getR X 123 rfl (c518_ok rfl) rfl rfl (s_getR X 68 rfl (c518_ok rfl) rfl rfl (z_load X (x := c) rfl (List.Mem.tail _ (List.Mem.tail _ (List.Mem.tail _ (List.Mem.head _)))) (z_const X rfl (z_mul X rfl (z_const X rfl (z_add X rfl (z_lald X 71 rfl (c518_ok rfl) rfl (by first | exact oq_8a3e0277 hi.1 | omega) (show ((c * 2) + 1) < 24 by first | exact oq_0edc0603 g1006 b1005.2 | omega) (cbig_ok rfl) (fun j1009 => ?_)))))))))
        refine w_lload_n X.1 (ax_d X (show cdA 1 82 = some (.lload_n 3, 1, 0, 0, 0) from rfl)) (x := bv) (List.Mem.tail _ (List.Mem.tail _ (List.Mem.head _))) (w_land X.1 (ax_d X (show cdA 1 83 = some (.land, 1, 0, 0, 0) from rfl)) (z_anyJ (fun j1010 => ?_)))
        refine w_lor X.1 (ax_d X (show cdA 1 84 = some (.lor, 1, 0, 0, 0) from rfl)) (z_anyJ (fun j1011 => ?_))
        refine w_lconst X.1 (ax_d X (show cdA 1 85 = some (.lconst 0, 1, 0, 0, 0) from rfl)) rfl (z_anyJ (fun j1012 => ?_))
        refine w_lcmp X.1 (ax_d X (show cdA 1 86 = some (.lcmp, 1, 0, 0, 0) from rfl)) (z_any (fun y1013 hy1013 => ?_))
        refine z_if_eq X (t := 119) rfl rfl hy1013 (fun g1014 => ?_) (fun g1014 => ?_)
        ·
          refine z_inc X (x := c) (lv' := [(6, .int (Int32.ofInt (c + 1))), (0, .ref (A 123)), (1, .long av), (3, .long bv)]) rfl (by decide) (List.Mem.tail _ (List.Mem.tail _ (List.Mem.tail _ (List.Mem.head _)))) (fun _ h => h) (z_goto X (t := 42) rfl rfl (WS_pq [1, 2, 3, 0] (lv' := [(0, .ref (A 123)), (1, .long av), (3, .long bv), (6, .int (Int32.ofInt (c + 1)))]) rfl ?_))
          exact ih _ av bv (c + 1) I F (by first | exact ⟨oq_54f49eb5 hi.1, oq_4dae995e g1006 b1005.2, oq_03182e9e hi.2.2⟩ | omega) (by first | exact qk_me hm (by decide) (oq_b575e8c1 g1006 b1005.2) | omega) kx
        ·
          refine z_aload_n X (x := A 123) rfl (List.Mem.head _) (s_getR X 123 rfl (c518_ok rfl) rfl rfl (z_aload_n X (x := A 123) rfl (List.Mem.head _) (z_getI X 123 rfl (c518_ok rfl) rfl rfl ?_)))
          have b1015 := bi_55 I
          refine z_load X (x := c) rfl (List.Mem.tail _ (List.Mem.tail _ (List.Mem.tail _ (List.Mem.head _)))) (z_ast X 124 rfl (c518_ok rfl) rfl (by first | exact b1015.1 | omega) (show (iI t 55) < 12 by first | exact oq_79196c7f hi.2.2 g1006 b1005.2 | omega) (cbig_ok rfl) (wd_gen (fun s1016 hs1016 => ?_)))
          have Is1016 : Bd s1016 := eqB hs1016 (bd_C I (show (0 : Int) ≤ c ∧ c ≤ 11 by first | exact ⟨hi.1, oq_e4d7f3c5 g1006 b1005.2⟩ | omega) ⟨by first | exact oq_fa4e5087 hi.1 | omega, by first | exact oq_78843a64 hi.2.1 | omega⟩)
          have Fs1016 := eqF hs1016 (fm_C F (inl_ok (a := 107) rfl))
          have ws1016_55 : iI s1016 55 = iI t 55 := eqI hs1016 rfl
          have ws1016_56 : iI s1016 56 = iI t 56 := eqI hs1016 rfl
          have ws1016_43 : iI s1016 43 = iI t 43 := eqI hs1016 rfl
          have ws1016_44 : iI s1016 44 = iI t 44 := eqI hs1016 rfl
          refine z_aload_n X (x := A 123) rfl (List.Mem.head _) (z_load X (x := c) rfl (List.Mem.tail _ (List.Mem.tail _ (List.Mem.tail _ (List.Mem.head _)))) (w_lload_n X.1 (ax_d X (show cdA 1 104 = some (.lload_n 1, 1, 0, 0, 0) from rfl)) (x := av) (List.Mem.tail _ (List.Mem.head _)) (w_lload_n X.1 (ax_d X (show cdA 1 105 = some (.lload_n 3, 1, 0, 0, 0) from rfl)) (x := bv) (List.Mem.tail _ (List.Mem.tail _ (List.Mem.head _))) (zcV_v0 X E 123 (As := [.int (Int32.ofInt c), .long av, .long bv]) (st := []) rfl rfl rfl rfl (c0_followSteps_123 G Is1016 (by first | exact ⟨hi.1, oq_e4d7f3c5 g1006 b1005.2⟩ | omega) (by first | exact oq_2f168143 ws1016_55 hi.2.2 g1006 b1005.2 | omega)) rfl (Nat.le_of_ble_eq_true rfl) (fun s1017 Is1017 Fs1017 hps1017 => ?_)))))
          have Gs1017 := fm_tq Fs1016 Fs1017 rfl rfl
          have ws1017_55 : iI s1017 55 = iI s1016 55 := fm_iq Fs1017 rfl
          have ws1017_56 : iI s1017 56 = iI s1016 56 := fm_iq Fs1017 rfl
          have ws1017_43 : iI s1017 43 = iI s1016 43 := fm_iq Fs1017 rfl
          have ws1017_44 : iI s1017 44 = iI s1016 44 := fm_iq Fs1017 rfl
          refine z_aload_n X (x := A 123) rfl (List.Mem.head _) (w_dup X.1 (ax_d X (show cdA 1 110 = some (.dup, 1, 0, 0, 0) from rfl)) rfl (z_getI X 123 rfl (c518_ok rfl) rfl rfl ?_))
          have b1019 := bi_55 Is1017
          refine z_const X rfl (z_add X rfl (s_putI X 123 rfl (c518_ok rfl) rfl rfl (by decide) rfl rfl rfl (wd_gen (fun s1020 hs1020 => ?_))))
          have Is1020 : Bd s1020 := eqB hs1020 (bd_I Is1017 (show (0 : Int) ≤ ((iI s1017 55) + 1) ∧ ((iI s1017 55) + 1) ≤ 12 by first | exact ⟨oq_54f49eb5 b1019.1, oq_1fea0193 ws1017_55 ws1016_55 hi.2.2 g1006 b1005.2⟩ | omega) ⟨by first | exact oq_74de1e16 b1019.1 | omega, by first | exact oq_76a8a5b7 b1019.2 | omega⟩)
          have Fs1020 := eqF hs1020 (fm_I Gs1017 (inl_ok (a := 55) rfl))
          have vs1020 : iI s1020 55 = ((iI s1017 55) + 1) := eqI hs1020 (iI_u ⟨by first | exact oq_74de1e16 b1019.1 | omega, by first | exact oq_76a8a5b7 b1019.2 | omega⟩)
          have ws1020_56 : iI s1020 56 = iI s1017 56 := eqI hs1020 rfl
          have ws1020_43 : iI s1020 43 = iI s1017 43 := eqI hs1020 rfl
          have ws1020_44 : iI s1020 44 = iI s1017 44 := eqI hs1020 rfl
          refine z_inc X (x := c) (lv' := [(6, .int (Int32.ofInt (c + 1))), (0, .ref (A 123)), (1, .long av), (3, .long bv)]) rfl (by decide) (List.Mem.tail _ (List.Mem.tail _ (List.Mem.tail _ (List.Mem.head _)))) (fun _ h => h) (z_goto X (t := 42) rfl rfl (WS_pq [1, 2, 3, 0] (lv' := [(0, .ref (A 123)), (1, .long av), (3, .long bv), (6, .int (Int32.ofInt (c + 1)))]) rfl ?_))
          exact ih _ av bv (c + 1) Is1020 Fs1020 (by first | exact ⟨oq_54f49eb5 hi.1, oq_4dae995e g1006 b1005.2, oq_ecb13324 vs1020 hi.2.2 ws1017_55 ws1016_55⟩ | omega) (by first | exact qk_me hm (by decide) (oq_b575e8c1 g1006 b1005.2) | omega) kx
  have L133 : ∀ (n : Nat) (t : PS) (av : Int64) (bv : Int64) (c : Int), Bd t → Fm [55, 56] [114, 107, 108, 109, 110, 111, 112, 113] s t → (0 ≤ c ∧ c ≤ 66 ∧ iI t 56 ≤ c) → (66 - c : Int).toNat < n → (∀ (t' : PS) (c' : Int), Bd t' → Fm [55, 56] [114, 107, 108, 109, 110, 111, 112, 113] s t' → (0 ≤ c' ∧ c' ≤ 66 ∧ iI t' 56 ≤ c') → WS k 260 [(0, .ref (A 123)), (1, .long av), (3, .long bv), (6, .int (Int32.ofInt c'))] [] (Wd A dT t') 0 0) → WS k 133 [(0, .ref (A 123)), (1, .long av), (3, .long bv), (6, .int (Int32.ofInt c))] [] (Wd A dT t) 0 0 := by
    intro n
    induction n with
    | zero =>
      intro t av bv c I F hi hm kx
      exact absurd hm (Nat.not_lt_zero _)
    | succ n ih =>
      intro t av bv c I F hi hm kx
      have b2001 := bi_55 I
      have b2002 := bi_56 I
      have b2003 := bi_43 I
      have b2004 := bi_44 I
      refine z_load X (x := c) rfl (List.Mem.tail _ (List.Mem.tail _ (List.Mem.tail _ (List.Mem.head _)))) (z_aload_n X (x := A 123) rfl (List.Mem.head _) (s_getR X 123 rfl (c518_ok rfl) rfl rfl (z_getI X 68 rfl (c518_ok rfl) rfl rfl ?_)))
      have b2005 := bi_44 I
      refine z_icmp_ge X (t := 260) rfl rfl ⟨by first | exact oq_fa4e5087 hi.1 | omega, by first | exact oq_64f2e926 hi.2.1 | omega⟩ (rng_to _) (fun g2006 => ?_) (fun g2006 => ?_)
      ·
        refine WS_pq [0, 1, 2, 3] (lv' := [(0, .ref (A 123)), (1, .long av), (3, .long bv), (6, .int (Int32.ofInt c))]) rfl ?_
        exact kx _ c I F (by first | exact ⟨hi.1, hi.2.1, hi.2.2⟩ | omega)
      ·
        refine z_aload_n X (x := A 123) rfl (List.Mem.head _) (s_getR X 123 rfl (c518_ok rfl) rfl rfl (s_getR X 68 rfl (c518_ok rfl) rfl rfl (z_load X (x := c) rfl (List.Mem.tail _ (List.Mem.tail _ (List.Mem.tail _ (List.Mem.head _)))) (z_const X rfl (z_mul X rfl (z_lald X 75 rfl (c518_ok rfl) rfl (by first | exact oq_cfc6ac54 hi.1 | omega) (show (c * 2) < 132 by first | exact oq_ff78435a g2006 b2005.2 | omega) (cbig_ok rfl) (fun j2007 => ?_)))))))
        refine w_lload_n X.1 (ax_d X (show cdA 1 157 = some (.lload_n 1, 1, 0, 0, 0) from rfl)) (x := av) (List.Mem.tail _ (List.Mem.head _)) (w_land X.1 (ax_d X (show cdA 1 158 = some (.land, 1, 0, 0, 0) from rfl)) (z_anyJ (fun j2008 => ?_)))
        refine zcS_i0 X E (As := [.long j2008]) (st := []) rfl rfl (j_bitL G I ) rfl (Nat.le_of_ble_eq_true rfl) (fun s2009 e2010 Is2009 Fs2009 hrs2009 hps2009 => ?_)
        have Gs2009 := fm_tq F Fs2009 rfl rfl
        have ws2009_55 : iI s2009 55 = iI t 55 := fm_iq Fs2009 rfl
        have ws2009_56 : iI s2009 56 = iI t 56 := fm_iq Fs2009 rfl
        have ws2009_43 : iI s2009 43 = iI t 43 := fm_iq Fs2009 rfl
        have ws2009_44 : iI s2009 44 = iI t 44 := fm_iq Fs2009 rfl
        refine z_aload_n X (x := A 123) rfl (List.Mem.head _) (s_getR X 123 rfl (c518_ok rfl) rfl rfl (s_getR X 68 rfl (c518_ok rfl) rfl rfl (z_load X (x := c) rfl (List.Mem.tail _ (List.Mem.tail _ (List.Mem.tail _ (List.Mem.head _)))) (z_const X rfl (z_mul X rfl (z_const X rfl (z_add X rfl (z_lald X 75 rfl (c518_ok rfl) rfl (by first | exact oq_8a3e0277 hi.1 | omega) (show ((c * 2) + 1) < 132 by first | exact oq_643e2065 g2006 b2005.2 | omega) (cbig_ok rfl) (fun j2011 => ?_)))))))))
        refine w_lload_n X.1 (ax_d X (show cdA 1 176 = some (.lload_n 3, 1, 0, 0, 0) from rfl)) (x := bv) (List.Mem.tail _ (List.Mem.tail _ (List.Mem.head _))) (w_land X.1 (ax_d X (show cdA 1 177 = some (.land, 1, 0, 0, 0) from rfl)) (z_anyJ (fun j2012 => ?_)))
        refine zcS_i0 X E (As := [.long j2012]) (st := [.int (Int32.ofInt e2010)]) rfl rfl (j_bitL G Is2009 ) rfl (Nat.le_of_ble_eq_true rfl) (fun s2013 e2014 Is2013 Fs2013 hrs2013 hps2013 => ?_)
        have Gs2013 := fm_tq Gs2009 Fs2013 rfl rfl
        have ws2013_55 : iI s2013 55 = iI s2009 55 := fm_iq Fs2013 rfl
        have ws2013_56 : iI s2013 56 = iI s2009 56 := fm_iq Fs2013 rfl
        have ws2013_43 : iI s2013 43 = iI s2009 43 := fm_iq Fs2013 rfl
        have ws2013_44 : iI s2013 44 = iI s2009 44 := fm_iq Fs2013 rfl
        refine z_add X rfl (z_any (fun y2015 hy2015 => ?_))
        refine z_store X (lv' := [(7, .int (Int32.ofInt y2015)), (0, .ref (A 123)), (1, .long av), (3, .long bv), (6, .int (Int32.ofInt c))]) rfl (by decide) (fun _ h => h) (z_load X (x := y2015) rfl (List.Mem.head _) (z_if_le X (t := 254) rfl rfl hy2015 (fun g2016 => ?_) (fun g2016 => ?_)))
        ·
          refine z_inc X (x := c) (lv' := [(6, .int (Int32.ofInt (c + 1))), (7, .int (Int32.ofInt y2015)), (0, .ref (A 123)), (1, .long av), (3, .long bv)]) rfl (by decide) (List.Mem.tail _ (List.Mem.tail _ (List.Mem.tail _ (List.Mem.tail _ (List.Mem.head _))))) (fun _ h => h) (z_goto X (t := 133) rfl rfl (WS_pq [2, 3, 4, 0] (lv' := [(0, .ref (A 123)), (1, .long av), (3, .long bv), (6, .int (Int32.ofInt (c + 1)))]) rfl ?_))
          exact ih _ av bv (c + 1) Is2013 Gs2013 (by first | exact ⟨oq_54f49eb5 hi.1, oq_319a18a4 g2006 b2005.2, oq_2e1f687c ws2013_56 hi.2.2 ws2009_56⟩ | omega) (by first | exact qk_me hm (by decide) (oq_dd0e9829 g2006 b2005.2) | omega) kx
        ·
          refine z_aload_n X (x := A 123) rfl (List.Mem.tail _ (List.Mem.head _)) (s_getR X 123 rfl (c518_ok rfl) rfl rfl (z_aload_n X (x := A 123) rfl (List.Mem.tail _ (List.Mem.head _)) (z_getI X 123 rfl (c518_ok rfl) rfl rfl ?_)))
          have b2017 := bi_56 Is2013
          refine z_aload_n X (x := A 123) rfl (List.Mem.tail _ (List.Mem.head _)) (s_getR X 123 rfl (c518_ok rfl) rfl rfl (s_getR X 68 rfl (c518_ok rfl) rfl rfl (z_load X (x := c) rfl (List.Mem.tail _ (List.Mem.tail _ (List.Mem.tail _ (List.Mem.tail _ (List.Mem.head _))))) (z_ald X 74 rfl (c518_ok rfl) rfl (by first | exact hi.1 | omega) (show c < 66 by first | exact oq_256e4529 g2006 b2005.2 | omega) (cbig_ok rfl) ?_))))
          have b2018 := bc_62 Is2013 (show (c).toNat < 66 by first | exact oq_d7ff7873 g2006 b2005.2 | omega)
          refine z_bipush X rfl (z_quot X rfl (by first | exact b2018.1 | omega) (rng_to _) (by decide) (by decide) (z_ast X 128 rfl (c518_ok rfl) rfl (by first | exact b2017.1 | omega) (show (iI s2013 56) < 66 by first | exact oq_141bb310 ws2013_56 ws2009_56 hi.2.2 g2006 b2005.2 | omega) (cbig_ok rfl) (wd_gen (fun s2019 hs2019 => ?_))))
          have Is2019 : Bd s2019 := eqB hs2019 (bd_C Is2013 (show (0 : Int) ≤ ((iC s2013 62 (c).toNat) / 12) ∧ ((iC s2013 62 (c).toNat) / 12) ≤ 11 by first | exact ⟨oq_37eb78e0 b2018.1, oq_a03fe580 b2018.2⟩ | omega) ⟨by first | exact oq_e17ab641 b2018.1 | omega, by first | exact oq_c285d9d6 b2018.2 | omega⟩)
          have Fs2019 := eqF hs2019 (fm_C Gs2013 (inl_ok (a := 111) rfl))
          have ws2019_55 : iI s2019 55 = iI s2013 55 := eqI hs2019 rfl
          have ws2019_56 : iI s2019 56 = iI s2013 56 := eqI hs2019 rfl
          have ws2019_43 : iI s2019 43 = iI s2013 43 := eqI hs2019 rfl
          have ws2019_44 : iI s2019 44 = iI s2013 44 := eqI hs2019 rfl
          refine z_aload_n X (x := A 123) rfl (List.Mem.tail _ (List.Mem.head _)) (s_getR X 123 rfl (c518_ok rfl) rfl rfl (z_aload_n X (x := A 123) rfl (List.Mem.tail _ (List.Mem.head _)) (z_getI X 123 rfl (c518_ok rfl) rfl rfl ?_)))
          have b2020 := bi_56 Is2019
          refine z_aload_n X (x := A 123) rfl (List.Mem.tail _ (List.Mem.head _)) (s_getR X 123 rfl (c518_ok rfl) rfl rfl (s_getR X 68 rfl (c518_ok rfl) rfl rfl (z_load X (x := c) rfl (List.Mem.tail _ (List.Mem.tail _ (List.Mem.tail _ (List.Mem.tail _ (List.Mem.head _))))) (z_ald X 74 rfl (c518_ok rfl) rfl (by first | exact hi.1 | omega) (show c < 66 by first | exact oq_256e4529 g2006 b2005.2 | omega) (cbig_ok rfl) ?_))))
          have b2021 := bc_62 Is2019 (show (c).toNat < 66 by first | exact oq_d7ff7873 g2006 b2005.2 | omega)
          refine z_bipush X rfl (z_mod X rfl (by first | exact b2021.1 | omega) (rng_to _) (by decide) (by decide) (z_ast X 129 rfl (c518_ok rfl) rfl (by first | exact b2020.1 | omega) (show (iI s2019 56) < 66 by first | exact oq_47fd6e20 ws2019_56 ws2013_56 ws2009_56 g2006 b2005.2 hi.2.2 | omega) (cbig_ok rfl) (wd_gen (fun s2022 hs2022 => ?_))))
          have Is2022 : Bd s2022 := eqB hs2022 (bd_C Is2019 (show (0 : Int) ≤ ((iC s2019 62 (c).toNat) % 12) ∧ ((iC s2019 62 (c).toNat) % 12) ≤ 11 by first | exact ⟨oq_b83041cc, oq_e286272e⟩ | omega) ⟨by first | exact oq_9d26ea27 | omega, by first | exact oq_6634e3d0 | omega⟩)
          have Fs2022 := eqF hs2022 (fm_C Fs2019 (inl_ok (a := 112) rfl))
          have ws2022_55 : iI s2022 55 = iI s2019 55 := eqI hs2022 rfl
          have ws2022_56 : iI s2022 56 = iI s2019 56 := eqI hs2022 rfl
          have ws2022_43 : iI s2022 43 = iI s2019 43 := eqI hs2022 rfl
          have ws2022_44 : iI s2022 44 = iI s2019 44 := eqI hs2022 rfl
          refine z_aload_n X (x := A 123) rfl (List.Mem.tail _ (List.Mem.head _)) (s_getR X 123 rfl (c518_ok rfl) rfl rfl (z_aload_n X (x := A 123) rfl (List.Mem.tail _ (List.Mem.head _)) (z_getI X 123 rfl (c518_ok rfl) rfl rfl ?_)))
          have b2023 := bi_56 Is2022
          refine z_load X (x := y2015) rfl (List.Mem.head _) (z_ast X 130 rfl (c518_ok rfl) rfl (by first | exact b2023.1 | omega) (show (iI s2022 56) < 66 by first | exact oq_3af0036b ws2022_56 ws2019_56 ws2013_56 ws2009_56 g2006 b2005.2 hi.2.2 | omega) (cbig_ok rfl) (wd_gen (fun s2024 hs2024 => ?_)))
          have Is2024 : Bd s2024 := eqB hs2024 (bd_C Is2022 (show ((-2147483648) : Int) ≤ y2015 ∧ y2015 ≤ 2147483647 by first | exact ⟨hy2015.1, hy2015.2⟩ | omega) hy2015)
          have Fs2024 := eqF hs2024 (fm_C Fs2022 (inl_ok (a := 113) rfl))
          have ws2024_55 : iI s2024 55 = iI s2022 55 := eqI hs2024 rfl
          have ws2024_56 : iI s2024 56 = iI s2022 56 := eqI hs2024 rfl
          have ws2024_43 : iI s2024 43 = iI s2022 43 := eqI hs2024 rfl
          have ws2024_44 : iI s2024 44 = iI s2022 44 := eqI hs2024 rfl
          refine z_aload_n X (x := A 123) rfl (List.Mem.tail _ (List.Mem.head _)) (w_dup X.1 (ax_d X (show cdA 1 245 = some (.dup, 1, 0, 0, 0) from rfl)) rfl (z_getI X 123 rfl (c518_ok rfl) rfl rfl ?_))
          have b2025 := bi_56 Is2024
          refine z_const X rfl (z_add X rfl (s_putI X 123 rfl (c518_ok rfl) rfl rfl (by decide) rfl rfl rfl (wd_gen (fun s2026 hs2026 => ?_))))
          have Is2026 : Bd s2026 := eqB hs2026 (bd_I Is2024 (show (0 : Int) ≤ ((iI s2024 56) + 1) ∧ ((iI s2024 56) + 1) ≤ 66 by first | exact ⟨oq_54f49eb5 b2025.1, oq_d0eb7b2e ws2024_56 ws2022_56 ws2019_56 ws2013_56 ws2009_56 g2006 b2005.2 hi.2.2⟩ | omega) ⟨by first | exact oq_74de1e16 b2025.1 | omega, by first | exact oq_d99c2177 b2025.2 | omega⟩)
          have Fs2026 := eqF hs2026 (fm_I Fs2024 (inl_ok (a := 56) rfl))
          have vs2026 : iI s2026 56 = ((iI s2024 56) + 1) := eqI hs2026 (iI_u ⟨by first | exact oq_74de1e16 b2025.1 | omega, by first | exact oq_d99c2177 b2025.2 | omega⟩)
          have ws2026_55 : iI s2026 55 = iI s2024 55 := eqI hs2026 rfl
          have ws2026_43 : iI s2026 43 = iI s2024 43 := eqI hs2026 rfl
          have ws2026_44 : iI s2026 44 = iI s2024 44 := eqI hs2026 rfl
          refine z_inc X (x := c) (lv' := [(6, .int (Int32.ofInt (c + 1))), (7, .int (Int32.ofInt y2015)), (0, .ref (A 123)), (1, .long av), (3, .long bv)]) rfl (by decide) (List.Mem.tail _ (List.Mem.tail _ (List.Mem.tail _ (List.Mem.tail _ (List.Mem.head _))))) (fun _ h => h) (z_goto X (t := 133) rfl rfl (WS_pq [2, 3, 4, 0] (lv' := [(0, .ref (A 123)), (1, .long av), (3, .long bv), (6, .int (Int32.ofInt (c + 1)))]) rfl ?_))
          exact ih _ av bv (c + 1) Is2026 Fs2026 (by first | exact ⟨oq_54f49eb5 hi.1, oq_319a18a4 g2006 b2005.2, oq_6fc60775 vs2026 ws2024_56 ws2022_56 ws2019_56 ws2013_56 ws2009_56 hi.2.2⟩ | omega) (by first | exact qk_me hm (by decide) (oq_dd0e9829 g2006 b2005.2) | omega) kx
  refine z_aload_n X (x := A 123) rfl (List.Mem.head _) (s_getR X 123 rfl (c518_ok rfl) rfl rfl (z_const X rfl (w_lload_n X.1 (ax_d X (show cdA 1 5 = some (.lload_n 1, 1, 0, 0, 0) from rfl)) (x := aj) (List.Mem.tail _ (List.Mem.head _)) (zcS_i0 X E (As := [.long aj]) (st := [.int (Int32.ofInt 4), .ref (A 131)]) rfl rfl (j_bitL G I ) rfl (Nat.le_of_ble_eq_true rfl) (fun s5 e6 Is5 Fs5 hrs5 hps5 => ?_)))))
  have Gs5 := fm_tq F Fs5 rfl rfl
  have ws5_55 : iI s5 55 = iI s 55 := fm_iq Fs5 rfl
  have ws5_56 : iI s5 56 = iI s 56 := fm_iq Fs5 rfl
  have ws5_43 : iI s5 43 = iI s 43 := fm_iq Fs5 rfl
  have ws5_44 : iI s5 44 = iI s 44 := fm_iq Fs5 rfl
  refine w_lload_n X.1 (ax_d X (show cdA 1 9 = some (.lload_n 3, 1, 0, 0, 0) from rfl)) (x := bj) (List.Mem.tail _ (List.Mem.tail _ (List.Mem.head _))) (zcS_i0 X E (As := [.long bj]) (st := [.int (Int32.ofInt e6), .int (Int32.ofInt 4), .ref (A 131)]) rfl rfl (j_bitL G Is5 ) rfl (Nat.le_of_ble_eq_true rfl) (fun s7 e8 Is7 Fs7 hrs7 hps7 => ?_))
  have Gs7 := fm_tq Gs5 Fs7 rfl rfl
  have ws7_55 : iI s7 55 = iI s5 55 := fm_iq Fs7 rfl
  have ws7_56 : iI s7 56 = iI s5 56 := fm_iq Fs7 rfl
  have ws7_43 : iI s7 43 = iI s5 43 := fm_iq Fs7 rfl
  have ws7_44 : iI s7 44 = iI s5 44 := fm_iq Fs7 rfl
  refine z_add X rfl (z_any (fun y9 hy9 => ?_))
  refine z_ast X 131 rfl (c518_ok rfl) rfl (by decide) (show 4 < 7 by decide) (cbig_ok rfl) (wd_gen (fun s10 hs10 => ?_))
  have Is10 : Bd s10 := eqB hs10 (bd_C Is7 (show ((-2147483648) : Int) ≤ y9 ∧ y9 ≤ 2147483647 by first | exact ⟨hy9.1, hy9.2⟩ | omega) hy9)
  have Fs10 := eqF hs10 (fm_C Gs7 (inl_ok (a := 114) rfl))
  have ws10_55 : iI s10 55 = iI s7 55 := eqI hs10 rfl
  have ws10_56 : iI s10 56 = iI s7 56 := eqI hs10 rfl
  have ws10_43 : iI s10 43 = iI s7 43 := eqI hs10 rfl
  have ws10_44 : iI s10 44 = iI s7 44 := eqI hs10 rfl
  refine z_aload_n X (x := A 123) rfl (List.Mem.head _) (s_getR X 123 rfl (c518_ok rfl) rfl rfl (z_const X rfl (w_lload_n X.1 (ax_d X (show cdA 1 20 = some (.lload_n 1, 1, 0, 0, 0) from rfl)) (x := aj) (List.Mem.tail _ (List.Mem.head _)) (zcS_i0 X E (As := [.long aj]) (st := [.int (Int32.ofInt 5), .ref (A 131)]) rfl rfl (j_bitL G Is10 ) rfl (Nat.le_of_ble_eq_true rfl) (fun s11 e12 Is11 Fs11 hrs11 hps11 => ?_)))))
  have Gs11 := fm_tq Fs10 Fs11 rfl rfl
  have ws11_55 : iI s11 55 = iI s10 55 := fm_iq Fs11 rfl
  have ws11_56 : iI s11 56 = iI s10 56 := fm_iq Fs11 rfl
  have ws11_43 : iI s11 43 = iI s10 43 := fm_iq Fs11 rfl
  have ws11_44 : iI s11 44 = iI s10 44 := fm_iq Fs11 rfl
  refine z_ast X 131 rfl (c518_ok rfl) rfl (by decide) (show 5 < 7 by decide) (cbig_ok rfl) (wd_gen (fun s13 hs13 => ?_))
  have Is13 : Bd s13 := eqB hs13 (bd_C Is11 (show ((-2147483648) : Int) ≤ e12 ∧ e12 ≤ 2147483647 by omega) hrs11)
  have Fs13 := eqF hs13 (fm_C Gs11 (inl_ok (a := 114) rfl))
  have ws13_55 : iI s13 55 = iI s11 55 := eqI hs13 rfl
  have ws13_56 : iI s13 56 = iI s11 56 := eqI hs13 rfl
  have ws13_43 : iI s13 43 = iI s11 43 := eqI hs13 rfl
  have ws13_44 : iI s13 44 = iI s11 44 := eqI hs13 rfl
  refine z_aload_n X (x := A 123) rfl (List.Mem.head _) (s_getR X 123 rfl (c518_ok rfl) rfl rfl (z_bipush X rfl (z_load X (x := x) rfl (List.Mem.tail _ (List.Mem.tail _ (List.Mem.tail _ (List.Mem.head _)))) (z_ast X 131 rfl (c518_ok rfl) rfl (by decide) (show 6 < 7 by decide) (cbig_ok rfl) (wd_gen (fun s14 hs14 => ?_))))))
  have Is14 : Bd s14 := eqB hs14 (bd_C Is13 (show ((-2147483648) : Int) ≤ x ∧ x ≤ 2147483647 by first | exact ⟨p0.1, p0.2⟩ | omega) ⟨by first | exact p0.1 | omega, by first | exact p0.2 | omega⟩)
  have Fs14 := eqF hs14 (fm_C Fs13 (inl_ok (a := 114) rfl))
  have ws14_55 : iI s14 55 = iI s13 55 := eqI hs14 rfl
  have ws14_56 : iI s14 56 = iI s13 56 := eqI hs14 rfl
  have ws14_43 : iI s14 43 = iI s13 43 := eqI hs14 rfl
  have ws14_44 : iI s14 44 = iI s13 44 := eqI hs14 rfl
  refine z_aload_n X (x := A 123) rfl (List.Mem.head _) (z_const X rfl (s_putI X 123 rfl (c518_ok rfl) rfl rfl (by decide) rfl rfl rfl (wd_gen (fun s15 hs15 => ?_))))
  have Is15 : Bd s15 := eqB hs15 (bd_I Is14 (show (0 : Int) ≤ 0 ∧ 0 ≤ 12 by first | exact ⟨by decide, by decide⟩ | omega) (by decide))
  have Fs15 := eqF hs15 (fm_I Fs14 (inl_ok (a := 55) rfl))
  have vs15 : iI s15 55 = 0 := eqI hs15 (iI_u (by decide))
  have ws15_56 : iI s15 56 = iI s14 56 := eqI hs15 rfl
  have ws15_43 : iI s15 43 = iI s14 43 := eqI hs15 rfl
  have ws15_44 : iI s15 44 = iI s14 44 := eqI hs15 rfl
  refine z_const X rfl (z_store X (lv' := [(6, .int (Int32.ofInt 0)), (0, .ref (A 123)), (1, .long aj), (3, .long bj), (5, .int (Int32.ofInt x))]) rfl (by decide) (fun _ h => h) (WS_pq [1, 2, 3, 0] (lv' := [(0, .ref (A 123)), (1, .long aj), (3, .long bj), (6, .int (Int32.ofInt 0))]) rfl (L42 ((12 - 0 : Int).toNat + 1) s15 aj bj 0 Is15 Fs15 (by first | exact ⟨by decide, by decide, oq_1af0b4f8 vs15⟩ | omega) (Nat.lt_succ_self _) ?_)))
  intro s16 x17 Is16 Fs16 hs16
  have b18 := bi_55 Is16
  have b19 := bi_56 Is16
  have b20 := bi_43 Is16
  have b21 := bi_44 Is16
  refine z_aload_n X (x := A 123) rfl (List.Mem.head _) (z_const X rfl (s_putI X 123 rfl (c518_ok rfl) rfl rfl (by decide) rfl rfl rfl (wd_gen (fun s22 hs22 => ?_))))
  have Is22 : Bd s22 := eqB hs22 (bd_I Is16 (show (0 : Int) ≤ 0 ∧ 0 ≤ 66 by first | exact ⟨by decide, by decide⟩ | omega) (by decide))
  have Fs22 := eqF hs22 (fm_I Fs16 (inl_ok (a := 56) rfl))
  have vs22 : iI s22 56 = 0 := eqI hs22 (iI_u (by decide))
  have ws22_55 : iI s22 55 = iI s16 55 := eqI hs22 rfl
  have ws22_43 : iI s22 43 = iI s16 43 := eqI hs22 rfl
  have ws22_44 : iI s22 44 = iI s16 44 := eqI hs22 rfl
  refine z_const X rfl (z_store X (lv' := [(6, .int (Int32.ofInt 0)), (0, .ref (A 123)), (1, .long aj), (3, .long bj)]) rfl (by decide) (fun _ h => h) (WS_pq [1, 2, 3, 0] (lv' := [(0, .ref (A 123)), (1, .long aj), (3, .long bj), (6, .int (Int32.ofInt 0))]) rfl (L133 ((66 - 0 : Int).toNat + 1) s22 aj bj 0 Is22 Fs22 (by first | exact ⟨by decide, by decide, oq_1af0b4f8 vs22⟩ | omega) (Nat.lt_succ_self _) ?_)))
  intro s23 x24 Is23 Fs23 hs23
  have b25 := bi_55 Is23
  have b26 := bi_56 Is23
  have b27 := bi_43 Is23
  have b28 := bi_44 Is23
  exact w_vret X.1 q hRt (ax_d X (show cdA 1 260 = some (.return_, 1, 0, 0, 0) from rfl)) (Nat.zero_le _) (Nat.zero_le _) ⟨_, rfl, Is23, Fs23, rfl, trivial⟩
set_option maxRecDepth 4000 in
theorem c0_hear_123 (G : GX l s0 D tys a0 dT) (I : Bd s) {x y : Int} (p0 : 0 ≤ x ∧ x ≤ 23) (p1 : rng y) : CT l s0 D A dT 3 (rmN 3) [.ref (A 123), .int (Int32.ofInt x), .int (Int32.ofInt y)] s (fun o t => Bd t ∧ Fm [] [114] s t ∧ o = .inl none ∧ (True)) := by
  refine ct_ofX G (by decide) (Nat.le_of_ble_eq_true rfl) (fun k X E ET hRt hXt q => ?_)
  show WS k 0 [(0, .ref (A 123)), (1, .int (Int32.ofInt x)), (2, .int (Int32.ofInt y))] [] _ 0 0
  have F : Fm [] [114] s s := fm_rf _ _ s
  have b1 := bi_55 I
  have b2 := bi_56 I
  have L20 : ∀ (n : Nat) (t : PS) (yv ro wa cr ov cl c : Int), Bd t → Fm [] [114] s t → (rng yv ∧ (0 ≤ ro ∧ ro ≤ 276) ∧ rng wa ∧ rng cr ∧ rng ov ∧ rng cl ∧ 0 ≤ c ∧ c ≤ 12) → (12 - c : Int).toNat < n → (∀ (t' : PS) (wa' cr' ov' cl' c' : Int), Bd t' → Fm [] [114] s t' → (rng yv ∧ (0 ≤ ro ∧ ro ≤ 276) ∧ rng wa' ∧ rng cr' ∧ rng ov' ∧ rng cl' ∧ 0 ≤ c' ∧ c' ≤ 12) → WS k 106 [(0, .ref (A 123)), (2, .int (Int32.ofInt yv)), (3, .int (Int32.ofInt ro)), (4, .int (Int32.ofInt wa')), (5, .int (Int32.ofInt cr')), (6, .int (Int32.ofInt ov')), (7, .int (Int32.ofInt cl')), (8, .int (Int32.ofInt c'))] [] (Wd A dT t') 0 0) → WS k 20 [(0, .ref (A 123)), (2, .int (Int32.ofInt yv)), (3, .int (Int32.ofInt ro)), (4, .int (Int32.ofInt wa)), (5, .int (Int32.ofInt cr)), (6, .int (Int32.ofInt ov)), (7, .int (Int32.ofInt cl)), (8, .int (Int32.ofInt c))] [] (Wd A dT t) 0 0 := by
    intro n
    induction n with
    | zero =>
      intro t yv ro wa cr ov cl c I F hi hm kx
      exact absurd hm (Nat.not_lt_zero _)
    | succ n ih =>
      intro t yv ro wa cr ov cl c I F hi hm kx
      have b1001 := bi_55 I
      have b1002 := bi_56 I
      refine z_load X (x := c) rfl (List.Mem.tail _ (List.Mem.tail _ (List.Mem.tail _ (List.Mem.tail _ (List.Mem.tail _ (List.Mem.tail _ (List.Mem.tail _ (List.Mem.head _)))))))) (z_aload_n X (x := A 123) rfl (List.Mem.head _) (z_getI X 123 rfl (c518_ok rfl) rfl rfl ?_))
      have b1003 := bi_55 I
      refine z_icmp_ge X (t := 106) rfl rfl ⟨by first | exact oq_fa4e5087 hi.2.2.2.2.2.2.1 | omega, by first | exact oq_78843a64 hi.2.2.2.2.2.2.2 | omega⟩ (rng_to _) (fun g1004 => ?_) (fun g1004 => ?_)
      ·
        refine WS_pq [0, 1, 2, 3, 4, 5, 6, 7] (lv' := [(0, .ref (A 123)), (2, .int (Int32.ofInt yv)), (3, .int (Int32.ofInt ro)), (4, .int (Int32.ofInt wa)), (5, .int (Int32.ofInt cr)), (6, .int (Int32.ofInt ov)), (7, .int (Int32.ofInt cl)), (8, .int (Int32.ofInt c))]) rfl ?_
        exact kx _ wa cr ov cl c I F (by first | exact ⟨And.intro (hi.1.1) (hi.1.2), And.intro (hi.2.1.1) (hi.2.1.2), And.intro (hi.2.2.1.1) (hi.2.2.1.2), And.intro (hi.2.2.2.1.1) (hi.2.2.2.1.2), And.intro (hi.2.2.2.2.1.1) (hi.2.2.2.2.1.2), And.intro (hi.2.2.2.2.2.1.1) (hi.2.2.2.2.2.1.2), hi.2.2.2.2.2.2.1, hi.2.2.2.2.2.2.2⟩ | omega)
      ·
        refine z_aload_n X (x := A 123) rfl (List.Mem.head _) (s_getR X 123 rfl (c518_ok rfl) rfl rfl (z_load X (x := c) rfl (List.Mem.tail _ (List.Mem.tail _ (List.Mem.tail _ (List.Mem.tail _ (List.Mem.tail _ (List.Mem.tail _ (List.Mem.tail _ (List.Mem.head _)))))))) (z_ald X 124 rfl (c518_ok rfl) rfl (by first | exact hi.2.2.2.2.2.2.1 | omega) (show c < 12 by first | exact oq_f36e82a8 g1004 b1003.2 | omega) (cbig_ok rfl) ?_)))
        have b1005 := bc_107 I (show (c).toNat < 12 by first | exact oq_2dac6850 g1004 b1003.2 | omega)
        refine z_load_n X (x := yv) rfl (List.Mem.tail _ (List.Mem.head _)) ?_
        have N1006 : ∀ e1007 : Int, ((((iC t 107 (c).toNat) ≠ yv) ∧ ((0 : Int) ≤ iC t 107 (c).toNat ∧ iC t 107 (c).toNat ≤ 11) ∧ ((0 : Int) ≤ iC t 67 ((ro + (iC t 107 (c).toNat))).toNat ∧ iC t 67 ((ro + (iC t 107 (c).toNat))).toNat ≤ 50) ∧ e1007 = (iC t 67 ((ro + (iC t 107 (c).toNat))).toNat)) ∨ (((iC t 107 (c).toNat) = yv) ∧ e1007 = 0)) → WS k 61 [(0, .ref (A 123)), (2, .int (Int32.ofInt yv)), (3, .int (Int32.ofInt ro)), (4, .int (Int32.ofInt wa)), (5, .int (Int32.ofInt cr)), (6, .int (Int32.ofInt ov)), (7, .int (Int32.ofInt cl)), (8, .int (Int32.ofInt c))] [.int (Int32.ofInt e1007)] (Wd A dT t) 0 0 := by
          intro e1007 he1007
          refine z_store X (lv' := [(9, .int (Int32.ofInt e1007)), (0, .ref (A 123)), (2, .int (Int32.ofInt yv)), (3, .int (Int32.ofInt ro)), (4, .int (Int32.ofInt wa)), (5, .int (Int32.ofInt cr)), (6, .int (Int32.ofInt ov)), (7, .int (Int32.ofInt cl)), (8, .int (Int32.ofInt c))]) rfl (by decide) (fun _ h => h) (z_load X (x := wa) rfl (List.Mem.tail _ (List.Mem.tail _ (List.Mem.tail _ (List.Mem.tail _ (List.Mem.head _))))) (z_load X (x := e1007) rfl (List.Mem.head _) (z_add X rfl (z_any (fun y1008 hy1008 => ?_)))))
          refine z_store X (lv' := [(4, .int (Int32.ofInt y1008)), (9, .int (Int32.ofInt e1007)), (0, .ref (A 123)), (2, .int (Int32.ofInt yv)), (3, .int (Int32.ofInt ro)), (5, .int (Int32.ofInt cr)), (6, .int (Int32.ofInt ov)), (7, .int (Int32.ofInt cl)), (8, .int (Int32.ofInt c))]) rfl (by decide) (fun _ h => h) (z_load X (x := ov) rfl (List.Mem.tail _ (List.Mem.tail _ (List.Mem.tail _ (List.Mem.tail _ (List.Mem.tail _ (List.Mem.tail _ (List.Mem.head _))))))) (z_load X (x := e1007) rfl (List.Mem.tail _ (List.Mem.head _)) (z_aload_n X (x := A 123) rfl (List.Mem.tail _ (List.Mem.tail _ (List.Mem.head _))) (s_getR X 123 rfl (c518_ok rfl) rfl rfl (z_load X (x := c) rfl (List.Mem.tail _ (List.Mem.tail _ (List.Mem.tail _ (List.Mem.tail _ (List.Mem.tail _ (List.Mem.tail _ (List.Mem.tail _ (List.Mem.tail _ (List.Mem.head _))))))))) (z_ald X 125 rfl (c518_ok rfl) rfl (by first | exact hi.2.2.2.2.2.2.1 | omega) (show c < 12 by first | exact oq_f36e82a8 g1004 b1003.2 | omega) (cbig_ok rfl) ?_))))))
          have b1009 := bc_108 I (show (c).toNat < 12 by first | exact oq_2dac6850 g1004 b1003.2 | omega)
          refine z_mul X rfl (z_any (fun y1010 hy1010 => ?_))
          refine z_add X rfl (z_any (fun y1011 hy1011 => ?_))
          refine z_store X (lv' := [(6, .int (Int32.ofInt y1011)), (4, .int (Int32.ofInt y1008)), (9, .int (Int32.ofInt e1007)), (0, .ref (A 123)), (2, .int (Int32.ofInt yv)), (3, .int (Int32.ofInt ro)), (5, .int (Int32.ofInt cr)), (7, .int (Int32.ofInt cl)), (8, .int (Int32.ofInt c))]) rfl (by decide) (fun _ h => h) (z_load X (x := cl) rfl (List.Mem.tail _ (List.Mem.tail _ (List.Mem.tail _ (List.Mem.tail _ (List.Mem.tail _ (List.Mem.tail _ (List.Mem.tail _ (List.Mem.head _)))))))) (z_load X (x := e1007) rfl (List.Mem.tail _ (List.Mem.tail _ (List.Mem.head _))) (z_aload_n X (x := A 123) rfl (List.Mem.tail _ (List.Mem.tail _ (List.Mem.tail _ (List.Mem.head _)))) (s_getR X 123 rfl (c518_ok rfl) rfl rfl (z_load X (x := c) rfl (List.Mem.tail _ (List.Mem.tail _ (List.Mem.tail _ (List.Mem.tail _ (List.Mem.tail _ (List.Mem.tail _ (List.Mem.tail _ (List.Mem.tail _ (List.Mem.head _))))))))) (z_ald X 127 rfl (c518_ok rfl) rfl (by first | exact hi.2.2.2.2.2.2.1 | omega) (show c < 12 by first | exact oq_f36e82a8 g1004 b1003.2 | omega) (cbig_ok rfl) ?_))))))
          have b1012 := bc_110 I (show (c).toNat < 12 by first | exact oq_2dac6850 g1004 b1003.2 | omega)
          refine z_mul X rfl (z_any (fun y1013 hy1013 => ?_))
          refine z_add X rfl (z_any (fun y1014 hy1014 => ?_))
          refine z_store X (lv' := [(7, .int (Int32.ofInt y1014)), (6, .int (Int32.ofInt y1011)), (4, .int (Int32.ofInt y1008)), (9, .int (Int32.ofInt e1007)), (0, .ref (A 123)), (2, .int (Int32.ofInt yv)), (3, .int (Int32.ofInt ro)), (5, .int (Int32.ofInt cr)), (8, .int (Int32.ofInt c))]) rfl (by decide) (fun _ h => h) (z_inc X (x := c) (lv' := [(8, .int (Int32.ofInt (c + 1))), (7, .int (Int32.ofInt y1014)), (6, .int (Int32.ofInt y1011)), (4, .int (Int32.ofInt y1008)), (9, .int (Int32.ofInt e1007)), (0, .ref (A 123)), (2, .int (Int32.ofInt yv)), (3, .int (Int32.ofInt ro)), (5, .int (Int32.ofInt cr))]) rfl (by decide) (List.Mem.tail _ (List.Mem.tail _ (List.Mem.tail _ (List.Mem.tail _ (List.Mem.tail _ (List.Mem.tail _ (List.Mem.tail _ (List.Mem.tail _ (List.Mem.head _))))))))) (fun _ h => h) (z_goto X (t := 20) rfl rfl (WS_pq [5, 6, 7, 3, 8, 2, 1, 0] (lv' := [(0, .ref (A 123)), (2, .int (Int32.ofInt yv)), (3, .int (Int32.ofInt ro)), (4, .int (Int32.ofInt y1008)), (5, .int (Int32.ofInt cr)), (6, .int (Int32.ofInt y1011)), (7, .int (Int32.ofInt y1014)), (8, .int (Int32.ofInt (c + 1)))]) rfl ?_)))
          exact ih _ yv ro y1008 cr y1011 y1014 (c + 1) I F (by first | exact ⟨And.intro (hi.1.1) (hi.1.2), And.intro (hi.2.1.1) (hi.2.1.2), And.intro (hy1008.1) (hy1008.2), And.intro (hi.2.2.2.1.1) (hi.2.2.2.1.2), And.intro (hy1011.1) (hy1011.2), And.intro (hy1014.1) (hy1014.2), oq_54f49eb5 hi.2.2.2.2.2.2.1, oq_4dae995e g1004 b1003.2⟩ | omega) (by first | exact qk_me hm (by decide) (oq_b575e8c1 g1004 b1003.2) | omega) kx
        refine z_icmp_ne X (t := 44) rfl rfl (rng_to _) ⟨by first | exact hi.1.1 | omega, by first | exact hi.1.2 | omega⟩ (fun g1015 => ?_) (fun g1015 => ?_)
        ·
          refine z_aload_n X (x := A 123) rfl (List.Mem.head _) (s_getR X 123 rfl (c518_ok rfl) rfl rfl (s_getR X 68 rfl (c518_ok rfl) rfl rfl (z_load_n X (x := ro) rfl (List.Mem.tail _ (List.Mem.tail _ (List.Mem.head _))) (z_aload_n X (x := A 123) rfl (List.Mem.head _) (s_getR X 123 rfl (c518_ok rfl) rfl rfl (z_load X (x := c) rfl (List.Mem.tail _ (List.Mem.tail _ (List.Mem.tail _ (List.Mem.tail _ (List.Mem.tail _ (List.Mem.tail _ (List.Mem.tail _ (List.Mem.head _)))))))) (z_ald X 124 rfl (c518_ok rfl) rfl (by first | exact hi.2.2.2.2.2.2.1 | omega) (show c < 12 by first | exact oq_f36e82a8 g1004 b1003.2 | omega) (cbig_ok rfl) ?_)))))))
          have b1016 := bc_107 I (show (c).toNat < 12 by first | exact oq_2dac6850 g1004 b1003.2 | omega)
          refine z_add X rfl (z_ald X 79 rfl (c518_ok rfl) rfl (by first | exact oq_dd29f52d hi.2.1.1 b1016.1 | omega) (show (ro + (iC t 107 (c).toNat)) < 288 by first | exact oq_f94a0088 hi.2.1.2 b1016.2 | omega) (cbig_ok rfl) ?_)
          have b1017 := bc_67 I (show ((ro + (iC t 107 (c).toNat))).toNat < 288 by first | exact oq_3d7ae1dd hi.2.1.2 b1016.2 | omega)
          exact N1006 _ (Or.inl ⟨g1015, b1016, b1017, rfl⟩)
        ·
          exact z_const X rfl (z_goto X (t := 61) rfl rfl (N1006 _ (Or.inr (⟨g1015, rfl⟩))))
  have L109 : ∀ (n : Nat) (t : PS) (yv ro wa cr ov cl c : Int), Bd t → Fm [] [114] s t → (rng yv ∧ (0 ≤ ro ∧ ro ≤ 276) ∧ rng wa ∧ rng cr ∧ rng ov ∧ rng cl ∧ 0 ≤ c ∧ c ≤ 66) → (66 - c : Int).toNat < n → (∀ (t' : PS) (cr' c' : Int), Bd t' → Fm [] [114] s t' → (rng yv ∧ (0 ≤ ro ∧ ro ≤ 276) ∧ rng wa ∧ rng cr' ∧ rng ov ∧ rng cl ∧ 0 ≤ c' ∧ c' ≤ 66) → WS k 196 [(0, .ref (A 123)), (2, .int (Int32.ofInt yv)), (3, .int (Int32.ofInt ro)), (4, .int (Int32.ofInt wa)), (5, .int (Int32.ofInt cr')), (6, .int (Int32.ofInt ov)), (7, .int (Int32.ofInt cl)), (8, .int (Int32.ofInt c'))] [] (Wd A dT t') 0 0) → WS k 109 [(0, .ref (A 123)), (2, .int (Int32.ofInt yv)), (3, .int (Int32.ofInt ro)), (4, .int (Int32.ofInt wa)), (5, .int (Int32.ofInt cr)), (6, .int (Int32.ofInt ov)), (7, .int (Int32.ofInt cl)), (8, .int (Int32.ofInt c))] [] (Wd A dT t) 0 0 := by
    intro n
    induction n with
    | zero =>
      intro t yv ro wa cr ov cl c I F hi hm kx
      exact absurd hm (Nat.not_lt_zero _)
    | succ n ih =>
      intro t yv ro wa cr ov cl c I F hi hm kx
      have b2001 := bi_55 I
      have b2002 := bi_56 I
      refine z_load X (x := c) rfl (List.Mem.tail _ (List.Mem.tail _ (List.Mem.tail _ (List.Mem.tail _ (List.Mem.tail _ (List.Mem.tail _ (List.Mem.tail _ (List.Mem.head _)))))))) (z_aload_n X (x := A 123) rfl (List.Mem.head _) (z_getI X 123 rfl (c518_ok rfl) rfl rfl ?_))
      have b2003 := bi_56 I
      refine z_icmp_ge X (t := 196) rfl rfl ⟨by first | exact oq_fa4e5087 hi.2.2.2.2.2.2.1 | omega, by first | exact oq_64f2e926 hi.2.2.2.2.2.2.2 | omega⟩ (rng_to _) (fun g2004 => ?_) (fun g2004 => ?_)
      ·
        refine WS_pq [0, 1, 2, 3, 4, 5, 6, 7] (lv' := [(0, .ref (A 123)), (2, .int (Int32.ofInt yv)), (3, .int (Int32.ofInt ro)), (4, .int (Int32.ofInt wa)), (5, .int (Int32.ofInt cr)), (6, .int (Int32.ofInt ov)), (7, .int (Int32.ofInt cl)), (8, .int (Int32.ofInt c))]) rfl ?_
        exact kx _ cr c I F (by first | exact ⟨And.intro (hi.1.1) (hi.1.2), And.intro (hi.2.1.1) (hi.2.1.2), And.intro (hi.2.2.1.1) (hi.2.2.1.2), And.intro (hi.2.2.2.1.1) (hi.2.2.2.1.2), And.intro (hi.2.2.2.2.1.1) (hi.2.2.2.2.1.2), And.intro (hi.2.2.2.2.2.1.1) (hi.2.2.2.2.2.1.2), hi.2.2.2.2.2.2.1, hi.2.2.2.2.2.2.2⟩ | omega)
      ·
        refine z_aload_n X (x := A 123) rfl (List.Mem.head _) (s_getR X 123 rfl (c518_ok rfl) rfl rfl (z_load X (x := c) rfl (List.Mem.tail _ (List.Mem.tail _ (List.Mem.tail _ (List.Mem.tail _ (List.Mem.tail _ (List.Mem.tail _ (List.Mem.tail _ (List.Mem.head _)))))))) (z_ald X 128 rfl (c518_ok rfl) rfl (by first | exact hi.2.2.2.2.2.2.1 | omega) (show c < 66 by first | exact oq_256e4529 g2004 b2003.2 | omega) (cbig_ok rfl) ?_)))
        have b2005 := bc_111 I (show (c).toNat < 66 by first | exact oq_d7ff7873 g2004 b2003.2 | omega)
        refine z_load_n X (x := yv) rfl (List.Mem.tail _ (List.Mem.head _)) (z_icmp_eq X (t := 190) rfl rfl (rng_to _) ⟨by first | exact hi.1.1 | omega, by first | exact hi.1.2 | omega⟩ (fun g2006 => ?_) (fun g2006 => ?_))
        ·
          refine z_inc X (x := c) (lv' := [(8, .int (Int32.ofInt (c + 1))), (0, .ref (A 123)), (2, .int (Int32.ofInt yv)), (3, .int (Int32.ofInt ro)), (4, .int (Int32.ofInt wa)), (5, .int (Int32.ofInt cr)), (6, .int (Int32.ofInt ov)), (7, .int (Int32.ofInt cl))]) rfl (by decide) (List.Mem.tail _ (List.Mem.tail _ (List.Mem.tail _ (List.Mem.tail _ (List.Mem.tail _ (List.Mem.tail _ (List.Mem.tail _ (List.Mem.head _)))))))) (fun _ h => h) (z_goto X (t := 109) rfl rfl (WS_pq [1, 2, 3, 4, 5, 6, 7, 0] (lv' := [(0, .ref (A 123)), (2, .int (Int32.ofInt yv)), (3, .int (Int32.ofInt ro)), (4, .int (Int32.ofInt wa)), (5, .int (Int32.ofInt cr)), (6, .int (Int32.ofInt ov)), (7, .int (Int32.ofInt cl)), (8, .int (Int32.ofInt (c + 1)))]) rfl ?_))
          exact ih _ yv ro wa cr ov cl (c + 1) I F (by first | exact ⟨And.intro (hi.1.1) (hi.1.2), And.intro (hi.2.1.1) (hi.2.1.2), And.intro (hi.2.2.1.1) (hi.2.2.1.2), And.intro (hi.2.2.2.1.1) (hi.2.2.2.1.2), And.intro (hi.2.2.2.2.1.1) (hi.2.2.2.2.1.2), And.intro (hi.2.2.2.2.2.1.1) (hi.2.2.2.2.2.1.2), oq_54f49eb5 hi.2.2.2.2.2.2.1, oq_319a18a4 g2004 b2003.2⟩ | omega) (by first | exact qk_me hm (by decide) (oq_dd0e9829 g2004 b2003.2) | omega) kx
        ·
          refine z_aload_n X (x := A 123) rfl (List.Mem.head _) (s_getR X 123 rfl (c518_ok rfl) rfl rfl (z_load X (x := c) rfl (List.Mem.tail _ (List.Mem.tail _ (List.Mem.tail _ (List.Mem.tail _ (List.Mem.tail _ (List.Mem.tail _ (List.Mem.tail _ (List.Mem.head _)))))))) (z_ald X 129 rfl (c518_ok rfl) rfl (by first | exact hi.2.2.2.2.2.2.1 | omega) (show c < 66 by first | exact oq_256e4529 g2004 b2003.2 | omega) (cbig_ok rfl) ?_)))
          have b2007 := bc_112 I (show (c).toNat < 66 by first | exact oq_d7ff7873 g2004 b2003.2 | omega)
          refine z_load_n X (x := yv) rfl (List.Mem.tail _ (List.Mem.head _)) (z_icmp_eq X (t := 190) rfl rfl (rng_to _) ⟨by first | exact hi.1.1 | omega, by first | exact hi.1.2 | omega⟩ (fun g2008 => ?_) (fun g2008 => ?_))
          ·
            refine z_inc X (x := c) (lv' := [(8, .int (Int32.ofInt (c + 1))), (0, .ref (A 123)), (2, .int (Int32.ofInt yv)), (3, .int (Int32.ofInt ro)), (4, .int (Int32.ofInt wa)), (5, .int (Int32.ofInt cr)), (6, .int (Int32.ofInt ov)), (7, .int (Int32.ofInt cl))]) rfl (by decide) (List.Mem.tail _ (List.Mem.tail _ (List.Mem.tail _ (List.Mem.tail _ (List.Mem.tail _ (List.Mem.tail _ (List.Mem.tail _ (List.Mem.head _)))))))) (fun _ h => h) (z_goto X (t := 109) rfl rfl (WS_pq [1, 2, 3, 4, 5, 6, 7, 0] (lv' := [(0, .ref (A 123)), (2, .int (Int32.ofInt yv)), (3, .int (Int32.ofInt ro)), (4, .int (Int32.ofInt wa)), (5, .int (Int32.ofInt cr)), (6, .int (Int32.ofInt ov)), (7, .int (Int32.ofInt cl)), (8, .int (Int32.ofInt (c + 1)))]) rfl ?_))
            exact ih _ yv ro wa cr ov cl (c + 1) I F (by first | exact ⟨And.intro (hi.1.1) (hi.1.2), And.intro (hi.2.1.1) (hi.2.1.2), And.intro (hi.2.2.1.1) (hi.2.2.1.2), And.intro (hi.2.2.2.1.1) (hi.2.2.2.1.2), And.intro (hi.2.2.2.2.1.1) (hi.2.2.2.2.1.2), And.intro (hi.2.2.2.2.2.1.1) (hi.2.2.2.2.2.1.2), oq_54f49eb5 hi.2.2.2.2.2.2.1, oq_319a18a4 g2004 b2003.2⟩ | omega) (by first | exact qk_me hm (by decide) (oq_dd0e9829 g2004 b2003.2) | omega) kx
          ·
            refine z_load X (x := cr) rfl (List.Mem.tail _ (List.Mem.tail _ (List.Mem.tail _ (List.Mem.tail _ (List.Mem.head _))))) (z_aload_n X (x := A 123) rfl (List.Mem.head _) (s_getR X 123 rfl (c518_ok rfl) rfl rfl (z_load X (x := c) rfl (List.Mem.tail _ (List.Mem.tail _ (List.Mem.tail _ (List.Mem.tail _ (List.Mem.tail _ (List.Mem.tail _ (List.Mem.tail _ (List.Mem.head _)))))))) (z_ald X 130 rfl (c518_ok rfl) rfl (by first | exact hi.2.2.2.2.2.2.1 | omega) (show c < 66 by first | exact oq_256e4529 g2004 b2003.2 | omega) (cbig_ok rfl) ?_))))
            have b2009 := bc_113 I (show (c).toNat < 66 by first | exact oq_d7ff7873 g2004 b2003.2 | omega)
            refine z_aload_n X (x := A 123) rfl (List.Mem.head _) (s_getR X 123 rfl (c518_ok rfl) rfl rfl (s_getR X 68 rfl (c518_ok rfl) rfl rfl (z_load_n X (x := ro) rfl (List.Mem.tail _ (List.Mem.tail _ (List.Mem.head _))) (z_aload_n X (x := A 123) rfl (List.Mem.head _) (s_getR X 123 rfl (c518_ok rfl) rfl rfl (z_load X (x := c) rfl (List.Mem.tail _ (List.Mem.tail _ (List.Mem.tail _ (List.Mem.tail _ (List.Mem.tail _ (List.Mem.tail _ (List.Mem.tail _ (List.Mem.head _)))))))) (z_ald X 128 rfl (c518_ok rfl) rfl (by first | exact hi.2.2.2.2.2.2.1 | omega) (show c < 66 by first | exact oq_256e4529 g2004 b2003.2 | omega) (cbig_ok rfl) ?_)))))))
            have b2010 := bc_111 I (show (c).toNat < 66 by first | exact oq_d7ff7873 g2004 b2003.2 | omega)
            refine z_add X rfl (z_ald X 79 rfl (c518_ok rfl) rfl (by first | exact oq_dd29f52d hi.2.1.1 b2010.1 | omega) (show (ro + (iC t 111 (c).toNat)) < 288 by first | exact oq_f94a0088 hi.2.1.2 b2010.2 | omega) (cbig_ok rfl) ?_)
            have b2011 := bc_67 I (show ((ro + (iC t 111 (c).toNat))).toNat < 288 by first | exact oq_3d7ae1dd hi.2.1.2 b2010.2 | omega)
            refine z_aload_n X (x := A 123) rfl (List.Mem.head _) (s_getR X 123 rfl (c518_ok rfl) rfl rfl (s_getR X 68 rfl (c518_ok rfl) rfl rfl (z_load_n X (x := ro) rfl (List.Mem.tail _ (List.Mem.tail _ (List.Mem.head _))) (z_aload_n X (x := A 123) rfl (List.Mem.head _) (s_getR X 123 rfl (c518_ok rfl) rfl rfl (z_load X (x := c) rfl (List.Mem.tail _ (List.Mem.tail _ (List.Mem.tail _ (List.Mem.tail _ (List.Mem.tail _ (List.Mem.tail _ (List.Mem.tail _ (List.Mem.head _)))))))) (z_ald X 129 rfl (c518_ok rfl) rfl (by first | exact hi.2.2.2.2.2.2.1 | omega) (show c < 66 by first | exact oq_256e4529 g2004 b2003.2 | omega) (cbig_ok rfl) ?_)))))))
            have b2012 := bc_112 I (show (c).toNat < 66 by first | exact oq_d7ff7873 g2004 b2003.2 | omega)
            refine z_add X rfl (z_ald X 79 rfl (c518_ok rfl) rfl (by first | exact oq_dd29f52d hi.2.1.1 b2012.1 | omega) (show (ro + (iC t 112 (c).toNat)) < 288 by first | exact oq_f94a0088 hi.2.1.2 b2012.2 | omega) (cbig_ok rfl) ?_)
            have b2013 := bc_67 I (show ((ro + (iC t 112 (c).toNat))).toNat < 288 by first | exact oq_3d7ae1dd hi.2.1.2 b2012.2 | omega)
            refine z_min X rfl (rng_to _) (rng_to _) (by rw [E.2.2.2]; decide) (by rw [E.2.2.2]; exact Nat.le_of_ble_eq_true rfl) (Nat.zero_le _) (Nat.zero_le _) (fun e2014 he2014 => ?_)
            refine z_mul X rfl (z_any (fun y2015 hy2015 => ?_))
            refine z_add X rfl (z_any (fun y2016 hy2016 => ?_))
            refine z_store X (lv' := [(5, .int (Int32.ofInt y2016)), (0, .ref (A 123)), (2, .int (Int32.ofInt yv)), (3, .int (Int32.ofInt ro)), (4, .int (Int32.ofInt wa)), (6, .int (Int32.ofInt ov)), (7, .int (Int32.ofInt cl)), (8, .int (Int32.ofInt c))]) rfl (by decide) (fun _ h => h) (z_inc X (x := c) (lv' := [(8, .int (Int32.ofInt (c + 1))), (5, .int (Int32.ofInt y2016)), (0, .ref (A 123)), (2, .int (Int32.ofInt yv)), (3, .int (Int32.ofInt ro)), (4, .int (Int32.ofInt wa)), (6, .int (Int32.ofInt ov)), (7, .int (Int32.ofInt cl))]) rfl (by decide) (List.Mem.tail _ (List.Mem.tail _ (List.Mem.tail _ (List.Mem.tail _ (List.Mem.tail _ (List.Mem.tail _ (List.Mem.tail _ (List.Mem.head _)))))))) (fun _ h => h) (z_goto X (t := 109) rfl rfl (WS_pq [2, 3, 4, 5, 1, 6, 7, 0] (lv' := [(0, .ref (A 123)), (2, .int (Int32.ofInt yv)), (3, .int (Int32.ofInt ro)), (4, .int (Int32.ofInt wa)), (5, .int (Int32.ofInt y2016)), (6, .int (Int32.ofInt ov)), (7, .int (Int32.ofInt cl)), (8, .int (Int32.ofInt (c + 1)))]) rfl ?_)))
            exact ih _ yv ro wa y2016 ov cl (c + 1) I F (by first | exact ⟨And.intro (hi.1.1) (hi.1.2), And.intro (hi.2.1.1) (hi.2.1.2), And.intro (hi.2.2.1.1) (hi.2.2.1.2), And.intro (hy2016.1) (hy2016.2), And.intro (hi.2.2.2.2.1.1) (hi.2.2.2.2.1.2), And.intro (hi.2.2.2.2.2.1.1) (hi.2.2.2.2.2.1.2), oq_54f49eb5 hi.2.2.2.2.2.2.1, oq_319a18a4 g2004 b2003.2⟩ | omega) (by first | exact qk_me hm (by decide) (oq_dd0e9829 g2004 b2003.2) | omega) kx
  refine z_load_n X (x := x) rfl (List.Mem.tail _ (List.Mem.head _)) (z_bipush X rfl (z_mul X rfl (z_store_n X (lv' := [(3, .int (Int32.ofInt (x * 12))), (0, .ref (A 123)), (1, .int (Int32.ofInt x)), (2, .int (Int32.ofInt y))]) rfl (by decide) (fun _ h => h) (z_const X rfl (z_store X (lv' := [(4, .int (Int32.ofInt 0)), (3, .int (Int32.ofInt (x * 12))), (0, .ref (A 123)), (1, .int (Int32.ofInt x)), (2, .int (Int32.ofInt y))]) rfl (by decide) (fun _ h => h) (z_const X rfl (z_store X (lv' := [(5, .int (Int32.ofInt 0)), (4, .int (Int32.ofInt 0)), (3, .int (Int32.ofInt (x * 12))), (0, .ref (A 123)), (1, .int (Int32.ofInt x)), (2, .int (Int32.ofInt y))]) rfl (by decide) (fun _ h => h) (z_const X rfl (z_store X (lv' := [(6, .int (Int32.ofInt 0)), (5, .int (Int32.ofInt 0)), (4, .int (Int32.ofInt 0)), (3, .int (Int32.ofInt (x * 12))), (0, .ref (A 123)), (1, .int (Int32.ofInt x)), (2, .int (Int32.ofInt y))]) rfl (by decide) (fun _ h => h) (z_const X rfl (z_store X (lv' := [(7, .int (Int32.ofInt 0)), (6, .int (Int32.ofInt 0)), (5, .int (Int32.ofInt 0)), (4, .int (Int32.ofInt 0)), (3, .int (Int32.ofInt (x * 12))), (0, .ref (A 123)), (1, .int (Int32.ofInt x)), (2, .int (Int32.ofInt y))]) rfl (by decide) (fun _ h => h) ?_)))))))))))
  refine z_const X rfl (z_store X (lv' := [(8, .int (Int32.ofInt 0)), (7, .int (Int32.ofInt 0)), (6, .int (Int32.ofInt 0)), (5, .int (Int32.ofInt 0)), (4, .int (Int32.ofInt 0)), (3, .int (Int32.ofInt (x * 12))), (0, .ref (A 123)), (1, .int (Int32.ofInt x)), (2, .int (Int32.ofInt y))]) rfl (by decide) (fun _ h => h) (WS_pq [6, 8, 5, 4, 3, 2, 1, 0] (lv' := [(0, .ref (A 123)), (2, .int (Int32.ofInt y)), (3, .int (Int32.ofInt (x * 12))), (4, .int (Int32.ofInt 0)), (5, .int (Int32.ofInt 0)), (6, .int (Int32.ofInt 0)), (7, .int (Int32.ofInt 0)), (8, .int (Int32.ofInt 0))]) rfl (L20 ((12 - 0 : Int).toNat + 1) s y (x * 12) 0 0 0 0 0 I F (by first | exact ⟨And.intro (p1.1) (p1.2), And.intro (oq_6b8c39bb p0.1) (oq_70eefe4f p0.2), And.intro (by decide) (by decide), And.intro (by decide) (by decide), And.intro (by decide) (by decide), And.intro (by decide) (by decide), by decide, by decide⟩ | omega) (Nat.lt_succ_self _) ?_)))
  intro s3 x4 x5 x6 x7 x8 Is3 Fs3 hs3
  have b9 := bi_55 Is3
  have b10 := bi_56 Is3
  refine z_const X rfl (z_store X (lv' := [(8, .int (Int32.ofInt 0)), (0, .ref (A 123)), (2, .int (Int32.ofInt y)), (3, .int (Int32.ofInt (x * 12))), (4, .int (Int32.ofInt x4)), (5, .int (Int32.ofInt x5)), (6, .int (Int32.ofInt x6)), (7, .int (Int32.ofInt x7))]) rfl (by decide) (fun _ h => h) (WS_pq [1, 2, 3, 4, 5, 6, 7, 0] (lv' := [(0, .ref (A 123)), (2, .int (Int32.ofInt y)), (3, .int (Int32.ofInt (x * 12))), (4, .int (Int32.ofInt x4)), (5, .int (Int32.ofInt x5)), (6, .int (Int32.ofInt x6)), (7, .int (Int32.ofInt x7)), (8, .int (Int32.ofInt 0))]) rfl (L109 ((66 - 0 : Int).toNat + 1) s3 y (x * 12) x4 x5 x6 x7 0 Is3 Fs3 (by first | exact ⟨And.intro (hs3.1.1) (hs3.1.2), And.intro (hs3.2.1.1) (hs3.2.1.2), And.intro (hs3.2.2.1.1) (hs3.2.2.1.2), And.intro (hs3.2.2.2.1.1) (hs3.2.2.2.1.2), And.intro (hs3.2.2.2.2.1.1) (hs3.2.2.2.2.1.2), And.intro (hs3.2.2.2.2.2.1.1) (hs3.2.2.2.2.2.1.2), by decide, by decide⟩ | omega) (Nat.lt_succ_self _) ?_)))
  intro s11 x12 x13 Is11 Fs11 hs11
  have b14 := bi_55 Is11
  have b15 := bi_56 Is11
  refine z_aload_n X (x := A 123) rfl (List.Mem.head _) (s_getR X 123 rfl (c518_ok rfl) rfl rfl (z_const X rfl (z_load X (x := x4) rfl (List.Mem.tail _ (List.Mem.tail _ (List.Mem.tail _ (List.Mem.head _)))) (z_ast X 131 rfl (c518_ok rfl) rfl (by decide) (show 0 < 7 by decide) (cbig_ok rfl) (wd_gen (fun s16 hs16 => ?_))))))
  have Is16 : Bd s16 := eqB hs16 (bd_C Is11 (show ((-2147483648) : Int) ≤ x4 ∧ x4 ≤ 2147483647 by first | exact ⟨hs11.2.2.1.1, hs11.2.2.1.2⟩ | omega) ⟨by first | exact hs11.2.2.1.1 | omega, by first | exact hs11.2.2.1.2 | omega⟩)
  have Fs16 := eqF hs16 (fm_C Fs11 (inl_ok (a := 114) rfl))
  have ws16_55 : iI s16 55 = iI s11 55 := eqI hs16 rfl
  have ws16_56 : iI s16 56 = iI s11 56 := eqI hs16 rfl
  refine z_aload_n X (x := A 123) rfl (List.Mem.head _) (s_getR X 123 rfl (c518_ok rfl) rfl rfl (z_const X rfl (z_load X (x := x12) rfl (List.Mem.tail _ (List.Mem.tail _ (List.Mem.tail _ (List.Mem.tail _ (List.Mem.head _))))) (z_ast X 131 rfl (c518_ok rfl) rfl (by decide) (show 1 < 7 by decide) (cbig_ok rfl) (wd_gen (fun s17 hs17 => ?_))))))
  have Is17 : Bd s17 := eqB hs17 (bd_C Is16 (show ((-2147483648) : Int) ≤ x12 ∧ x12 ≤ 2147483647 by first | exact ⟨hs11.2.2.2.1.1, hs11.2.2.2.1.2⟩ | omega) ⟨by first | exact hs11.2.2.2.1.1 | omega, by first | exact hs11.2.2.2.1.2 | omega⟩)
  have Fs17 := eqF hs17 (fm_C Fs16 (inl_ok (a := 114) rfl))
  have ws17_55 : iI s17 55 = iI s16 55 := eqI hs17 rfl
  have ws17_56 : iI s17 56 = iI s16 56 := eqI hs17 rfl
  refine z_aload_n X (x := A 123) rfl (List.Mem.head _) (s_getR X 123 rfl (c518_ok rfl) rfl rfl (z_const X rfl (z_load X (x := x6) rfl (List.Mem.tail _ (List.Mem.tail _ (List.Mem.tail _ (List.Mem.tail _ (List.Mem.tail _ (List.Mem.head _)))))) (z_ast X 131 rfl (c518_ok rfl) rfl (by decide) (show 2 < 7 by decide) (cbig_ok rfl) (wd_gen (fun s18 hs18 => ?_))))))
  have Is18 : Bd s18 := eqB hs18 (bd_C Is17 (show ((-2147483648) : Int) ≤ x6 ∧ x6 ≤ 2147483647 by first | exact ⟨hs11.2.2.2.2.1.1, hs11.2.2.2.2.1.2⟩ | omega) ⟨by first | exact hs11.2.2.2.2.1.1 | omega, by first | exact hs11.2.2.2.2.1.2 | omega⟩)
  have Fs18 := eqF hs18 (fm_C Fs17 (inl_ok (a := 114) rfl))
  have ws18_55 : iI s18 55 = iI s17 55 := eqI hs18 rfl
  have ws18_56 : iI s18 56 = iI s17 56 := eqI hs18 rfl
  refine z_aload_n X (x := A 123) rfl (List.Mem.head _) (s_getR X 123 rfl (c518_ok rfl) rfl rfl (z_const X rfl (z_load X (x := x7) rfl (List.Mem.tail _ (List.Mem.tail _ (List.Mem.tail _ (List.Mem.tail _ (List.Mem.tail _ (List.Mem.tail _ (List.Mem.head _))))))) (z_ast X 131 rfl (c518_ok rfl) rfl (by decide) (show 3 < 7 by decide) (cbig_ok rfl) (wd_gen (fun s19 hs19 => ?_))))))
  have Is19 : Bd s19 := eqB hs19 (bd_C Is18 (show ((-2147483648) : Int) ≤ x7 ∧ x7 ≤ 2147483647 by first | exact ⟨hs11.2.2.2.2.2.1.1, hs11.2.2.2.2.2.1.2⟩ | omega) ⟨by first | exact hs11.2.2.2.2.2.1.1 | omega, by first | exact hs11.2.2.2.2.2.1.2 | omega⟩)
  have Fs19 := eqF hs19 (fm_C Fs18 (inl_ok (a := 114) rfl))
  have ws19_55 : iI s19 55 = iI s18 55 := eqI hs19 rfl
  have ws19_56 : iI s19 56 = iI s18 56 := eqI hs19 rfl
  exact w_vret X.1 q hRt (ax_d X (show cdA 3 228 = some (.return_, 1, 0, 0, 0) from rfl)) (Nat.zero_le _) (Nat.zero_le _) ⟨_, rfl, Is19, Fs19, rfl, trivial⟩
set_option maxRecDepth 4000 in
theorem c7_work_123 (G : GX l s0 D tys a0 dT) (I : Bd s) {x : Int} (p0 : -1 ≤ x ∧ x ≤ 7) : CT l s0 D A dT 84 (rmN 84) [.ref (A 19), .int (Int32.ofInt x), .ref (A 131)] s (fun o t => Bd t ∧ Fm [] [20] s t ∧ ∃ e, o = .inl (some (.int (Int32.ofInt e))) ∧ rng e ∧ (True)) := by
  refine ct_ofX G (by decide) (Nat.le_of_ble_eq_true rfl) (fun k X E ET hRt hXt q => ?_)
  show WS k 0 [(0, .ref (A 19)), (1, .int (Int32.ofInt x)), (2, .ref (A 131))] [] _ 0 0
  have F : Fm [] [20] s s := fm_rf _ _ s
  have L28 : ∀ (n : Nat) (t : PS) (xv dp c : Int), Bd t → Fm [] [20] s t → ((0 ≤ xv ∧ xv ≤ 7) ∧ (0 ≤ dp ∧ dp ≤ 200) ∧ 0 ≤ c ∧ c ≤ 200) → (200 - c : Int).toNat < n → (∀ (t' : PS) (dp' c' : Int), Bd t' → Fm [] [20] s t' → ((0 ≤ xv ∧ xv ≤ 7) ∧ (0 ≤ dp' ∧ dp' ≤ 200) ∧ 0 ≤ c' ∧ c' ≤ 200) → WS k 163 [(0, .ref (A 19)), (2, .ref (A 131)), (1, .int (Int32.ofInt xv)), (3, .int (Int32.ofInt dp')), (4, .int (Int32.ofInt c'))] [] (Wd A dT t') 0 0) → WS k 28 [(0, .ref (A 19)), (2, .ref (A 131)), (1, .int (Int32.ofInt xv)), (3, .int (Int32.ofInt dp)), (4, .int (Int32.ofInt c))] [] (Wd A dT t) 0 0 := by
    intro n
    induction n with
    | zero =>
      intro t xv dp c I F hi hm kx
      exact absurd hm (Nat.not_lt_zero _)
    | succ n ih =>
      intro t xv dp c I F hi hm kx
      refine z_load X (x := c) rfl (List.Mem.tail _ (List.Mem.tail _ (List.Mem.tail _ (List.Mem.tail _ (List.Mem.head _))))) (z_aload_n X (x := A 19) rfl (List.Mem.head _) (s_getR X 19 rfl (c518_ok rfl) rfl rfl (z_load_n X (x := xv) rfl (List.Mem.tail _ (List.Mem.tail _ (List.Mem.head _))) (z_ald X 21 rfl (c518_ok rfl) rfl (by first | exact hi.1.1 | omega) (show xv < 8 by first | exact oq_aaea290e hi.1.2 | omega) (cbig_ok rfl) ?_))))
      have b1001 := bc_17 I (show (xv).toNat < 8 by first | exact oq_c19a3aae hi.1.2 | omega)
      refine z_icmp_ge X (t := 163) rfl rfl ⟨by first | exact oq_fa4e5087 hi.2.2.1 | omega, by first | exact oq_52af2b96 hi.2.2.2 | omega⟩ (rng_to _) (fun g1002 => ?_) (fun g1002 => ?_)
      ·
        refine WS_pq [0, 1, 2, 3, 4] (lv' := [(0, .ref (A 19)), (2, .ref (A 131)), (1, .int (Int32.ofInt xv)), (3, .int (Int32.ofInt dp)), (4, .int (Int32.ofInt c))]) rfl ?_
        exact kx _ dp c I F (by first | exact ⟨And.intro (hi.1.1) (hi.1.2), And.intro (hi.2.1.1) (hi.2.1.2), hi.2.2.1, hi.2.2.2⟩ | omega)
      ·
        refine z_aload_n X (x := A 19) rfl (List.Mem.head _) (s_getR X 19 rfl (c518_ok rfl) rfl rfl (z_load X (x := c) rfl (List.Mem.tail _ (List.Mem.tail _ (List.Mem.tail _ (List.Mem.tail _ (List.Mem.head _))))) (z_ald X 20 rfl (c518_ok rfl) rfl (by first | exact hi.2.2.1 | omega) (show c < 200 by first | exact oq_6fca3d72 g1002 b1001.2 | omega) (cbig_ok rfl) ?_)))
        have b1003 := bc_16 I (show (c).toNat < 200 by first | exact oq_b70289d5 g1002 b1001.2 | omega)
        refine z_store X (lv' := [(5, .int (Int32.ofInt (iC t 16 (c).toNat))), (0, .ref (A 19)), (2, .ref (A 131)), (1, .int (Int32.ofInt xv)), (3, .int (Int32.ofInt dp)), (4, .int (Int32.ofInt c))]) rfl (by decide) (fun _ h => h) (z_load X (x := (iC t 16 (c).toNat)) rfl (List.Mem.head _) (z_bipush X rfl (z_icmp_le X (t := 90) rfl rfl (rng_to _) (by decide) (fun g1004 => ?_) (fun g1004 => ?_))))
        ·
          refine z_load X (x := (iC t 16 (c).toNat)) rfl (List.Mem.head _) (z_bipush X rfl (z_icmp_ne X (t := 122) rfl rfl (rng_to _) (by decide) (fun g1005 => ?_) (fun g1005 => ?_)))
          ·
            refine z_load_n X (x := dp) rfl (List.Mem.tail _ (List.Mem.tail _ (List.Mem.tail _ (List.Mem.tail _ (List.Mem.head _))))) (z_const X rfl (z_icmp_le X (t := 157) rfl rfl ⟨by first | exact oq_fa4e5087 hi.2.1.1 | omega, by first | exact oq_52af2b96 hi.2.1.2 | omega⟩ (by decide) (fun g1006 => ?_) (fun g1006 => ?_)))
            ·
              refine z_inc X (x := c) (lv' := [(4, .int (Int32.ofInt (c + 1))), (5, .int (Int32.ofInt (iC t 16 (c).toNat))), (0, .ref (A 19)), (2, .ref (A 131)), (1, .int (Int32.ofInt xv)), (3, .int (Int32.ofInt dp))]) rfl (by decide) (List.Mem.tail _ (List.Mem.tail _ (List.Mem.tail _ (List.Mem.tail _ (List.Mem.tail _ (List.Mem.head _)))))) (fun _ h => h) (z_goto X (t := 28) rfl rfl (WS_pq [2, 3, 4, 5, 0] (lv' := [(0, .ref (A 19)), (2, .ref (A 131)), (1, .int (Int32.ofInt xv)), (3, .int (Int32.ofInt dp)), (4, .int (Int32.ofInt (c + 1)))]) rfl ?_))
              exact ih _ xv dp (c + 1) I F (by first | exact ⟨And.intro (hi.1.1) (hi.1.2), And.intro (hi.2.1.1) (hi.2.1.2), oq_54f49eb5 hi.2.2.1, oq_228270fa g1002 b1001.2⟩ | omega) (by first | exact qk_me hm (by decide) (oq_b0a4f3e2 g1002 b1001.2) | omega) kx
            ·
              refine z_inc X (x := dp) (lv' := [(3, .int (Int32.ofInt (dp + (-1)))), (5, .int (Int32.ofInt (iC t 16 (c).toNat))), (0, .ref (A 19)), (2, .ref (A 131)), (1, .int (Int32.ofInt xv)), (4, .int (Int32.ofInt c))]) rfl (by decide) (List.Mem.tail _ (List.Mem.tail _ (List.Mem.tail _ (List.Mem.tail _ (List.Mem.head _))))) (fun _ h => h) (z_aload_n X (x := A 19) rfl (List.Mem.tail _ (List.Mem.tail _ (List.Mem.head _))) (s_getR X 19 rfl (c518_ok rfl) rfl rfl (z_load_n X (x := (dp + (-1))) rfl (List.Mem.head _) (z_const X rfl (z_sub X rfl (z_load X (x := (iC t 16 (c).toNat)) rfl (List.Mem.tail _ (List.Mem.head _)) (z_aload_n X (x := A 19) rfl (List.Mem.tail _ (List.Mem.tail _ (List.Mem.head _))) (s_getR X 19 rfl (c518_ok rfl) rfl rfl (z_load_n X (x := (dp + (-1))) rfl (List.Mem.head _) (z_const X rfl (z_sub X rfl ?_)))))))))))
              refine z_ald X 24 rfl (c518_ok rfl) rfl (by first | exact oq_d588e9be g1006 | omega) (show ((dp + (-1)) - 1) < 200 by first | exact oq_f9b4958f hi.2.1.2 | omega) (cbig_ok rfl) ?_
              have b1007 := bc_20 I (show (((dp + (-1)) - 1)).toNat < 200 by first | exact oq_ab8c951f hi.2.1.2 | omega)
              refine z_aload_n X (x := A 19) rfl (List.Mem.tail _ (List.Mem.tail _ (List.Mem.head _))) (s_getR X 19 rfl (c518_ok rfl) rfl rfl (z_load_n X (x := (dp + (-1))) rfl (List.Mem.head _) (z_ald X 24 rfl (c518_ok rfl) rfl (by first | exact oq_6c14892a g1006 | omega) (show (dp + (-1)) < 200 by first | exact oq_2dcece94 hi.2.1.2 | omega) (cbig_ok rfl) ?_)))
              have b1008 := bc_20 I (show ((dp + (-1))).toNat < 200 by first | exact oq_323b4624 hi.2.1.2 | omega)
              refine z_callS X (rm := rmN 85) (As := [.int (Int32.ofInt (iC t 16 (c).toNat)), .int (Int32.ofInt (iC t 20 (((dp + (-1)) - 1)).toNat)), .int (Int32.ofInt (iC t 20 ((dp + (-1))).toNat))]) (st := [.int (Int32.ofInt ((dp + (-1)) - 1)), .ref (A 24)]) rfl rfl (by rw [E.1, E.2.1, E.2.2.1]; exact c7_joined G I (by first | exact ⟨b1003.1, b1003.2⟩ | omega) (by first | exact ⟨b1007.1, b1007.2⟩ | omega) (by first | exact ⟨b1008.1, b1008.2⟩ | omega)) ⟨by rw [E.2.2.2]; exact (show (rmN 85).frames + 1 ≤ (rmN 84).frames by decide), by rw [E.2.2.2]; exact (show 8 + (mNL (miB 85) + 11) + (rmN 85).locals ≤ (rmN 84).locals by decide), by rw [E.2.2.2]; exact (show 0 + (rmN 85).cells ≤ (rmN 84).cells by decide), by rw [E.2.2.2]; exact (show 0 + (rmN 85).slots ≤ (rmN 84).slots by decide)⟩ (Nat.le_of_ble_eq_true rfl) (fun vv s1009 hq => ?_) (fun ee s1009 hq => ?_)
              rotate_left
              · obtain ⟨rfl, e1010, hv, hrs1009, hps1009⟩ := hq; cases hv
              obtain ⟨rfl, e1010, hv, hrs1009, hps1009⟩ := hq
              cases hv
              show WS k 156 [(3, .int (Int32.ofInt (dp + (-1)))), (5, .int (Int32.ofInt (iC t 16 (c).toNat))), (0, .ref (A 19)), (2, .ref (A 131)), (1, .int (Int32.ofInt xv)), (4, .int (Int32.ofInt c))] [.int (Int32.ofInt e1010), .int (Int32.ofInt ((dp + (-1)) - 1)), .ref (A 24)] (Wd A dT t) 0 0
              refine z_ast X 24 rfl (c518_ok rfl) rfl (by first | exact oq_d588e9be g1006 | omega) (show ((dp + (-1)) - 1) < 200 by first | exact oq_f9b4958f hi.2.1.2 | omega) (cbig_ok rfl) (wd_gen (fun s1011 hs1011 => ?_))
              have Is1011 : Bd s1011 := eqB hs1011 (bd_C I (show ((-2147483648) : Int) ≤ e1010 ∧ e1010 ≤ 2147483647 by first | exact ⟨hps1009.1, hps1009.2⟩ | omega) hrs1009)
              have Fs1011 := eqF hs1011 (fm_C F (inl_ok (a := 20) rfl))
              refine z_inc X (x := c) (lv' := [(4, .int (Int32.ofInt (c + 1))), (3, .int (Int32.ofInt (dp + (-1)))), (5, .int (Int32.ofInt (iC t 16 (c).toNat))), (0, .ref (A 19)), (2, .ref (A 131)), (1, .int (Int32.ofInt xv))]) rfl (by decide) (List.Mem.tail _ (List.Mem.tail _ (List.Mem.tail _ (List.Mem.tail _ (List.Mem.tail _ (List.Mem.head _)))))) (fun _ h => h) (z_goto X (t := 28) rfl rfl (WS_pq [3, 4, 5, 1, 0] (lv' := [(0, .ref (A 19)), (2, .ref (A 131)), (1, .int (Int32.ofInt xv)), (3, .int (Int32.ofInt (dp + (-1)))), (4, .int (Int32.ofInt (c + 1)))]) rfl ?_))
              exact ih _ xv (dp + (-1)) (c + 1) Is1011 Fs1011 (by first | exact ⟨And.intro (hi.1.1) (hi.1.2), And.intro (oq_6c14892a g1006) (oq_af76c38b hi.2.1.2), oq_54f49eb5 hi.2.2.1, oq_228270fa g1002 b1001.2⟩ | omega) (by first | exact qk_me hm (by decide) (oq_b0a4f3e2 g1002 b1001.2) | omega) kx
          ·
            refine z_load_n X (x := dp) rfl (List.Mem.tail _ (List.Mem.tail _ (List.Mem.tail _ (List.Mem.tail _ (List.Mem.head _))))) (z_if_le X (t := 157) rfl rfl ⟨by first | exact oq_fa4e5087 hi.2.1.1 | omega, by first | exact oq_52af2b96 hi.2.1.2 | omega⟩ (fun g1012 => ?_) (fun g1012 => ?_))
            ·
              refine z_inc X (x := c) (lv' := [(4, .int (Int32.ofInt (c + 1))), (5, .int (Int32.ofInt (iC t 16 (c).toNat))), (0, .ref (A 19)), (2, .ref (A 131)), (1, .int (Int32.ofInt xv)), (3, .int (Int32.ofInt dp))]) rfl (by decide) (List.Mem.tail _ (List.Mem.tail _ (List.Mem.tail _ (List.Mem.tail _ (List.Mem.tail _ (List.Mem.head _)))))) (fun _ h => h) (z_goto X (t := 28) rfl rfl (WS_pq [2, 3, 4, 5, 0] (lv' := [(0, .ref (A 19)), (2, .ref (A 131)), (1, .int (Int32.ofInt xv)), (3, .int (Int32.ofInt dp)), (4, .int (Int32.ofInt (c + 1)))]) rfl ?_))
              exact ih _ xv dp (c + 1) I F (by first | exact ⟨And.intro (hi.1.1) (hi.1.2), And.intro (hi.2.1.1) (hi.2.1.2), oq_54f49eb5 hi.2.2.1, oq_228270fa g1002 b1001.2⟩ | omega) (by first | exact qk_me hm (by decide) (oq_b0a4f3e2 g1002 b1001.2) | omega) kx
            ·
              refine z_aload_n X (x := A 19) rfl (List.Mem.tail _ (List.Mem.head _)) (s_getR X 19 rfl (c518_ok rfl) rfl rfl (z_load_n X (x := dp) rfl (List.Mem.tail _ (List.Mem.tail _ (List.Mem.tail _ (List.Mem.tail _ (List.Mem.head _))))) (z_const X rfl (z_sub X rfl (z_const X rfl (z_aload_n X (x := A 19) rfl (List.Mem.tail _ (List.Mem.head _)) (s_getR X 19 rfl (c518_ok rfl) rfl rfl (z_load_n X (x := dp) rfl (List.Mem.tail _ (List.Mem.tail _ (List.Mem.tail _ (List.Mem.tail _ (List.Mem.head _))))) (z_const X rfl (z_sub X rfl (z_ald X 24 rfl (c518_ok rfl) rfl (by first | exact oq_a4f22177 g1012 | omega) (show (dp - 1) < 200 by first | exact oq_76ad2bb2 hi.2.1.2 | omega) (cbig_ok rfl) ?_)))))))))))
              have b1013 := bc_20 I (show ((dp - 1)).toNat < 200 by first | exact oq_a03494ec hi.2.1.2 | omega)
              refine z_sub X rfl (z_any (fun y1014 hy1014 => ?_))
              refine z_ast X 24 rfl (c518_ok rfl) rfl (by first | exact oq_a4f22177 g1012 | omega) (show (dp - 1) < 200 by first | exact oq_76ad2bb2 hi.2.1.2 | omega) (cbig_ok rfl) (wd_gen (fun s1015 hs1015 => ?_))
              have Is1015 : Bd s1015 := eqB hs1015 (bd_C I (show ((-2147483648) : Int) ≤ y1014 ∧ y1014 ≤ 2147483647 by first | exact ⟨hy1014.1, hy1014.2⟩ | omega) hy1014)
              have Fs1015 := eqF hs1015 (fm_C F (inl_ok (a := 20) rfl))
              refine z_goto X (t := 157) rfl rfl (z_inc X (x := c) (lv' := [(4, .int (Int32.ofInt (c + 1))), (5, .int (Int32.ofInt (iC t 16 (c).toNat))), (0, .ref (A 19)), (2, .ref (A 131)), (1, .int (Int32.ofInt xv)), (3, .int (Int32.ofInt dp))]) rfl (by decide) (List.Mem.tail _ (List.Mem.tail _ (List.Mem.tail _ (List.Mem.tail _ (List.Mem.tail _ (List.Mem.head _)))))) (fun _ h => h) (z_goto X (t := 28) rfl rfl (WS_pq [2, 3, 4, 5, 0] (lv' := [(0, .ref (A 19)), (2, .ref (A 131)), (1, .int (Int32.ofInt xv)), (3, .int (Int32.ofInt dp)), (4, .int (Int32.ofInt (c + 1)))]) rfl ?_)))
              exact ih _ xv dp (c + 1) Is1015 Fs1015 (by first | exact ⟨And.intro (hi.1.1) (hi.1.2), And.intro (hi.2.1.1) (hi.2.1.2), oq_54f49eb5 hi.2.2.1, oq_228270fa g1002 b1001.2⟩ | omega) (by first | exact qk_me hm (by decide) (oq_b0a4f3e2 g1002 b1001.2) | omega) kx
        ·
          refine z_load_n X (x := dp) rfl (List.Mem.tail _ (List.Mem.tail _ (List.Mem.tail _ (List.Mem.tail _ (List.Mem.head _))))) (z_sipush X rfl (z_icmp_ge X (t := 157) rfl rfl ⟨by first | exact oq_fa4e5087 hi.2.1.1 | omega, by first | exact oq_52af2b96 hi.2.1.2 | omega⟩ (by decide) (fun g1016 => ?_) (fun g1016 => ?_)))
          ·
            refine z_inc X (x := c) (lv' := [(4, .int (Int32.ofInt (c + 1))), (5, .int (Int32.ofInt (iC t 16 (c).toNat))), (0, .ref (A 19)), (2, .ref (A 131)), (1, .int (Int32.ofInt xv)), (3, .int (Int32.ofInt dp))]) rfl (by decide) (List.Mem.tail _ (List.Mem.tail _ (List.Mem.tail _ (List.Mem.tail _ (List.Mem.tail _ (List.Mem.head _)))))) (fun _ h => h) (z_goto X (t := 28) rfl rfl (WS_pq [2, 3, 4, 5, 0] (lv' := [(0, .ref (A 19)), (2, .ref (A 131)), (1, .int (Int32.ofInt xv)), (3, .int (Int32.ofInt dp)), (4, .int (Int32.ofInt (c + 1)))]) rfl ?_))
            exact ih _ xv dp (c + 1) I F (by first | exact ⟨And.intro (hi.1.1) (hi.1.2), And.intro (hi.2.1.1) (hi.2.1.2), oq_54f49eb5 hi.2.2.1, oq_228270fa g1002 b1001.2⟩ | omega) (by first | exact qk_me hm (by decide) (oq_b0a4f3e2 g1002 b1001.2) | omega) kx
          ·
            refine z_aload_n X (x := A 19) rfl (List.Mem.tail _ (List.Mem.head _)) (s_getR X 19 rfl (c518_ok rfl) rfl rfl (z_load_n X (x := dp) rfl (List.Mem.tail _ (List.Mem.tail _ (List.Mem.tail _ (List.Mem.tail _ (List.Mem.head _))))) (z_load X (x := (iC t 16 (c).toNat)) rfl (List.Mem.head _) ?_)))
            have N1017 : ∀ e1018 : Int, ((((iC t 16 (c).toNat) < 0) ∧ (((-2147483648) : Int) ≤ iC t 114 (((-1) - (iC t 16 (c).toNat))).toNat ∧ iC t 114 (((-1) - (iC t 16 (c).toNat))).toNat ≤ 2147483647) ∧ e1018 = (iC t 114 (((-1) - (iC t 16 (c).toNat))).toNat)) ∨ ((0 ≤ (iC t 16 (c).toNat)) ∧ e1018 = (iC t 16 (c).toNat))) → WS k 83 [(5, .int (Int32.ofInt (iC t 16 (c).toNat))), (0, .ref (A 19)), (2, .ref (A 131)), (1, .int (Int32.ofInt xv)), (3, .int (Int32.ofInt dp)), (4, .int (Int32.ofInt c))] [.int (Int32.ofInt e1018), .int (Int32.ofInt dp), .ref (A 24)] (Wd A dT t) 0 0 := by
              intro e1018 he1018
              refine z_ast X 24 rfl (c518_ok rfl) rfl (by first | exact hi.2.1.1 | omega) (show dp < 200 by first | exact g1016 | omega) (cbig_ok rfl) (wd_gen (fun s1019 hs1019 => ?_))
              have Is1019 : Bd s1019 := eqB hs1019 (bd_C I (show ((-2147483648) : Int) ≤ e1018 ∧ e1018 ≤ 2147483647 by first | exact ⟨oq_05aece2f he1018, oq_93cedf2b he1018 b1003.2⟩ | omega) ⟨by first | exact oq_05aece2f he1018 | omega, by first | exact oq_93cedf2b he1018 b1003.2 | omega⟩)
              have Fs1019 := eqF hs1019 (fm_C F (inl_ok (a := 20) rfl))
              refine z_inc X (x := dp) (lv' := [(3, .int (Int32.ofInt (dp + 1))), (5, .int (Int32.ofInt (iC t 16 (c).toNat))), (0, .ref (A 19)), (2, .ref (A 131)), (1, .int (Int32.ofInt xv)), (4, .int (Int32.ofInt c))]) rfl (by decide) (List.Mem.tail _ (List.Mem.tail _ (List.Mem.tail _ (List.Mem.tail _ (List.Mem.head _))))) (fun _ h => h) (z_goto X (t := 157) rfl rfl (z_inc X (x := c) (lv' := [(4, .int (Int32.ofInt (c + 1))), (3, .int (Int32.ofInt (dp + 1))), (5, .int (Int32.ofInt (iC t 16 (c).toNat))), (0, .ref (A 19)), (2, .ref (A 131)), (1, .int (Int32.ofInt xv))]) rfl (by decide) (List.Mem.tail _ (List.Mem.tail _ (List.Mem.tail _ (List.Mem.tail _ (List.Mem.tail _ (List.Mem.head _)))))) (fun _ h => h) (z_goto X (t := 28) rfl rfl (WS_pq [3, 4, 5, 1, 0] (lv' := [(0, .ref (A 19)), (2, .ref (A 131)), (1, .int (Int32.ofInt xv)), (3, .int (Int32.ofInt (dp + 1))), (4, .int (Int32.ofInt (c + 1)))]) rfl ?_))))
              exact ih _ xv (dp + 1) (c + 1) Is1019 Fs1019 (by first | exact ⟨And.intro (hi.1.1) (hi.1.2), And.intro (oq_54f49eb5 hi.2.1.1) (oq_0cb6ab8a g1016), oq_54f49eb5 hi.2.2.1, oq_228270fa g1002 b1001.2⟩ | omega) (by first | exact qk_me hm (by decide) (oq_b0a4f3e2 g1002 b1001.2) | omega) kx
            refine z_if_lt X (t := 77) rfl rfl (rng_to _) (fun g1020 => ?_) (fun g1020 => ?_)
            ·
              refine z_aload_n X (x := A 131) rfl (List.Mem.tail _ (List.Mem.tail _ (List.Mem.head _))) (z_const X rfl (z_load X (x := (iC t 16 (c).toNat)) rfl (List.Mem.head _) (z_sub X rfl (z_ald X 131 rfl (c518_ok rfl) rfl (by first | exact oq_c38d07c4 g1020 | omega) (show ((-1) - (iC t 16 (c).toNat)) < 7 by first | exact oq_a1f4cde5 g1004 | omega) (cbig_ok rfl) ?_))))
              have b1021 := bc_114 I (show (((-1) - (iC t 16 (c).toNat))).toNat < 7 by first | exact oq_91b916ba g1004 | omega)
              exact N1017 _ (Or.inl ⟨g1020, b1021, rfl⟩)
            ·
              exact z_load X (x := (iC t 16 (c).toNat)) rfl (List.Mem.head _) (z_goto X (t := 83) rfl rfl (N1017 _ (Or.inr (⟨g1020, rfl⟩))))
  refine z_load_n X (x := x) rfl (List.Mem.tail _ (List.Mem.head _)) (z_const X rfl (z_icmp_ne X (t := 19) rfl rfl ⟨by first | exact oq_97ee2c2a p0.1 | omega, by first | exact oq_0e78ca7d p0.2 | omega⟩ (by decide) (fun g1 => ?_) (fun g1 => ?_)))
  ·
    refine z_const X rfl (z_store_n X (lv' := [(3, .int (Int32.ofInt 0)), (0, .ref (A 19)), (1, .int (Int32.ofInt x)), (2, .ref (A 131))]) rfl (by decide) (fun _ h => h) (z_aload_n X (x := A 19) rfl (List.Mem.tail _ (List.Mem.head _)) (z_load_n X (x := x) rfl (List.Mem.tail _ (List.Mem.tail _ (List.Mem.head _))) (zcV_i0 X E 19 (As := [.int (Int32.ofInt x)]) (st := []) rfl rfl rfl rfl (c7_beginOf_19 G I (by first | exact ⟨oq_7a1025bf g1 p0.1, p0.2⟩ | omega)) rfl (Nat.le_of_ble_eq_true rfl) (fun s2 e3 Is2 Fs2 hrs2 hps2 => ?_)))))
    have Gs2 := fm_tq F Fs2 rfl rfl
    refine z_store X (lv' := [(4, .int (Int32.ofInt e3)), (3, .int (Int32.ofInt 0)), (0, .ref (A 19)), (1, .int (Int32.ofInt x)), (2, .ref (A 131))]) rfl (by decide) (fun _ h => h) (WS_pq [2, 4, 3, 1, 0] (lv' := [(0, .ref (A 19)), (2, .ref (A 131)), (1, .int (Int32.ofInt x)), (3, .int (Int32.ofInt 0)), (4, .int (Int32.ofInt e3))]) rfl (L28 ((200 - e3 : Int).toNat + 1) s2 x 0 e3 Is2 Gs2 (by first | exact ⟨oq_b629d6d6 g1 p0.2 p0.1, And.intro (by decide) (by decide), hps2.1, hps2.2⟩ | omega) (Nat.lt_succ_self _) ?_))
    intro s4 x5 x6 Is4 Fs4 hs4
    refine z_aload_n X (x := A 19) rfl (List.Mem.head _) (s_getR X 19 rfl (c518_ok rfl) rfl rfl (z_const X rfl (z_ald X 24 rfl (c518_ok rfl) rfl (by decide) (show 0 < 200 by decide) (cbig_ok rfl) ?_)))
    have b7 := bc_20 Is4 (show (0 : Int).toNat < 200 by first | exact oq_e7d7c2b9 | omega)
    exact w_iret X.1 q hRt rfl (ax_d X (show cdA 84 169 = some (.ireturn, 1, 0, 0, 0) from rfl)) (Nat.zero_le _) (Nat.zero_le _) ⟨_, rfl, Is4, Fs4, (iC s4 20 (0 : Int).toNat), rfl, (rng_to _), trivial⟩
  ·
    refine z_aload_n X (x := A 131) rfl (List.Mem.tail _ (List.Mem.tail _ (List.Mem.head _))) (z_const X rfl (z_ald X 131 rfl (c518_ok rfl) rfl (by decide) (show 0 < 7 by decide) (cbig_ok rfl) ?_))
    have b8 := bc_114 I (show (0 : Int).toNat < 7 by first | exact oq_e8ec3fa8 | omega)
    refine z_const X rfl (z_aload_n X (x := A 131) rfl (List.Mem.tail _ (List.Mem.tail _ (List.Mem.head _))) (z_const X rfl (z_ald X 131 rfl (c518_ok rfl) rfl (by decide) (show 1 < 7 by decide) (cbig_ok rfl) ?_)))
    have b9 := bc_114 I (show (1 : Int).toNat < 7 by first | exact oq_a32b659c | omega)
    refine z_mul X rfl (z_any (fun y10 hy10 => ?_))
    refine z_add X rfl (z_any (fun y11 hy11 => ?_))
    refine z_aload_n X (x := A 131) rfl (List.Mem.tail _ (List.Mem.tail _ (List.Mem.head _))) (z_const X rfl (z_ald X 131 rfl (c518_ok rfl) rfl (by decide) (show 2 < 7 by decide) (cbig_ok rfl) ?_))
    have b12 := bc_114 I (show (2 : Int).toNat < 7 by first | exact oq_62527c24 | omega)
    refine z_add X rfl (z_any (fun y13 hy13 => ?_))
    exact w_iret X.1 q hRt rfl (ax_d X (show cdA 84 18 = some (.ireturn, 1, 0, 0, 0) from rfl)) (Nat.zero_le _) (Nat.zero_le _) ⟨_, rfl, I, F, y13, rfl, hy13, trivial⟩
set_option maxRecDepth 4000 in
theorem c0_loadAt_123 (G : GX l s0 D tys a0 dT) (I : Bd s) {x y : Int} (p0 : 0 ≤ x ∧ x ≤ 23) (p1 : rng y) : CT l s0 D A dT 4 (rmN 4) [.ref (A 123), .int (Int32.ofInt x), .int (Int32.ofInt y)] s (fun o t => Bd t ∧ Fm [] [114, 20] s t ∧ ∃ e, o = .inl (some (.int (Int32.ofInt e))) ∧ rng e ∧ (True)) := by
  refine ct_ofX G (by decide) (Nat.le_of_ble_eq_true rfl) (fun k X E ET hRt hXt q => ?_)
  show WS k 0 [(0, .ref (A 123)), (1, .int (Int32.ofInt x)), (2, .int (Int32.ofInt y))] [] _ 0 0
  have F : Fm [] [114, 20] s s := fm_rf _ _ s
  refine z_aload_n X (x := A 123) rfl (List.Mem.head _) (z_load_n X (x := x) rfl (List.Mem.tail _ (List.Mem.head _)) (z_load_n X (x := y) rfl (List.Mem.tail _ (List.Mem.tail _ (List.Mem.head _))) (zcV_v0 X E 123 (As := [.int (Int32.ofInt x), .int (Int32.ofInt y)]) (st := []) rfl rfl rfl rfl (c0_hear_123 G I (by first | exact ⟨p0.1, p0.2⟩ | omega) (by first | exact ⟨p1.1, p1.2⟩ | omega)) rfl (Nat.le_of_ble_eq_true rfl) (fun s1 Is1 Fs1 hps1 => ?_))))
  have Gs1 := fm_tq F Fs1 rfl rfl
  refine z_aload_n X (x := A 123) rfl (List.Mem.head _) (s_getR X 123 rfl (c518_ok rfl) rfl rfl (z_aload_n X (x := A 123) rfl (List.Mem.head _) (s_getR X 123 rfl (c518_ok rfl) rfl rfl (z_getI X 19 rfl (c518_ok rfl) rfl rfl ?_))))
  have b3 := bi_13 Is1
  refine z_aload_n X (x := A 123) rfl (List.Mem.head _) (s_getR X 123 rfl (c518_ok rfl) rfl rfl (zcV_i0 X E 19 (As := [.int (Int32.ofInt (iI s1 13)), .ref (A 131)]) (st := []) rfl rfl rfl rfl (c7_work_123 G Is1 (by first | exact ⟨b3.1, b3.2⟩ | omega)) rfl (Nat.le_of_ble_eq_true rfl) (fun s4 e5 Is4 Fs4 hrs4 hps4 => ?_)))
  have Gs4 := fm_tq Gs1 Fs4 rfl rfl
  exact w_iret X.1 q hRt rfl (ax_d X (show cdA 4 24 = some (.ireturn, 1, 0, 0, 0) from rfl)) (Nat.zero_le _) (Nat.zero_le _) ⟨_, rfl, Is4, Gs4, e5, rfl, hrs4, trivial⟩
end M78
