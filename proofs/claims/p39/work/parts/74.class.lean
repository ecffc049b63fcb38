section
theorem oq_9a920414 {a0 a1 a2 : Int} (h0 : a0 = a1) (h1 : a1 = a2) (h2 : a2 ≤ 11) : a0 ≤ 11 := by omega
theorem oq_85aa3fe6 {a0 : Int} (h0 : a0 < 5) : a0 ≤ 2147483647 := by omega
theorem oq_e062d2c8 {a0 a1 : Int} (h0 : a0 < a1) (h1 : a1 ≤ 12) : (a0 * 2) < 24 := by omega
theorem oq_0edc0603 {a0 a1 : Int} (h0 : a0 < a1) (h1 : a1 ≤ 12) : ((a0 * 2) + 1) < 24 := by omega
theorem oq_79196c7f {a0 a1 a2 : Int} (h0 : a0 ≤ a1) (h1 : a1 < a2) (h2 : a2 ≤ 12) : a0 < 12 := by omega
theorem oq_2f168143 {a0 a1 a2 a3 : Int} (h0 : a0 = a1) (h1 : a1 ≤ a2) (h2 : a2 < a3) (h3 : a3 ≤ 12) : a0 ≤ 11 := by omega
theorem oq_ecb13324 {a0 a1 a2 a3 a4 : Int} (h0 : a0 = (a1 + 1)) (h1 : a2 ≤ a3) (h2 : a1 = a4) (h3 : a4 = a2) : a0 ≤ (a3 + 1) := by omega
theorem oq_ff78435a {a0 a1 : Int} (h0 : a0 < a1) (h1 : a1 ≤ 66) : (a0 * 2) < 132 := by omega
theorem oq_643e2065 {a0 a1 : Int} (h0 : a0 < a1) (h1 : a1 ≤ 66) : ((a0 * 2) + 1) < 132 := by omega
theorem oq_256e4529 {a0 a1 : Int} (h0 : a0 < a1) (h1 : a1 ≤ 66) : a0 < 66 := by omega
theorem oq_d7ff7873 {a0 a1 : Int} (h0 : a0 < a1) (h1 : a1 ≤ 66) : (a0 : Int).toNat < 66 := by omega
theorem oq_141bb310 {a0 a1 a2 a3 a4 : Int} (h0 : a0 = a1) (h1 : a1 = a2) (h2 : a2 ≤ a3) (h3 : a3 < a4) (h4 : a4 ≤ 66) : a0 < 66 := by omega
theorem oq_37eb78e0 {a0 : Int} (h0 : 0 ≤ a0) : 0 ≤ (a0 / 12) := by omega
theorem oq_a03fe580 {a0 : Int} (h0 : a0 ≤ 143) : (a0 / 12) ≤ 11 := by omega
theorem oq_e17ab641 {a0 : Int} (h0 : 0 ≤ a0) : (-2147483648) ≤ (a0 / 12) := by omega
theorem oq_c285d9d6 {a0 : Int} (h0 : a0 ≤ 143) : (a0 / 12) ≤ 2147483647 := by omega
theorem oq_47fd6e20 {a0 a1 a2 a3 a4 a5 : Int} (h0 : a0 = a1) (h1 : a1 = a2) (h2 : a2 = a3) (h3 : a4 < a5) (h4 : a5 ≤ 66) (h5 : a3 ≤ a4) : a0 < 66 := by omega
theorem oq_b83041cc {a0 : Int}  : 0 ≤ (a0 % 12) := by omega
theorem oq_e286272e {a0 : Int}  : (a0 % 12) ≤ 11 := by omega
theorem oq_9d26ea27 {a0 : Int}  : (-2147483648) ≤ (a0 % 12) := by omega
theorem oq_6634e3d0 {a0 : Int}  : (a0 % 12) ≤ 2147483647 := by omega
theorem oq_3af0036b {a0 a1 a2 a3 a4 a5 a6 : Int} (h0 : a0 = a1) (h1 : a1 = a2) (h2 : a2 = a3) (h3 : a3 = a4) (h4 : a5 < a6) (h5 : a6 ≤ 66) (h6 : a4 ≤ a5) : a0 < 66 := by omega
theorem oq_d0eb7b2e {a0 a1 a2 a3 a4 a5 a6 a7 : Int} (h0 : a0 = a1) (h1 : a1 = a2) (h2 : a2 = a3) (h3 : a3 = a4) (h4 : a4 = a5) (h5 : a6 < a7) (h6 : a7 ≤ 66) (h7 : a5 ≤ a6) : (a0 + 1) ≤ 66 := by omega
theorem oq_6fc60775 {a0 a1 a2 a3 a4 a5 a6 a7 : Int} (h0 : a0 = (a1 + 1)) (h1 : a1 = a2) (h2 : a2 = a3) (h3 : a3 = a4) (h4 : a4 = a5) (h5 : a5 = a6) (h6 : a6 ≤ a7) : a0 ≤ (a7 + 1) := by omega
theorem oq_f94a0088 {a0 a1 : Int} (h0 : a0 ≤ 276) (h1 : a1 ≤ 11) : (a0 + a1) < 288 := by omega
theorem oq_3d7ae1dd {a0 a1 : Int} (h0 : a0 ≤ 276) (h1 : a1 ≤ 11) : ((a0 + a1) : Int).toNat < 288 := by omega
theorem oq_6b8c39bb {a0 : Int} (h0 : 0 ≤ a0) : 0 ≤ (a0 * 12) := by omega
theorem oq_70eefe4f {a0 : Int} (h0 : a0 ≤ 23) : (a0 * 12) ≤ 276 := by omega
theorem oq_b0a4f3e2 {a0 a1 : Int} (h0 : a0 < a1) (h1 : a1 ≤ 200) : 0 < (200 - a0) := by omega
theorem oq_d588e9be {a0 : Int} (h0 : 1 < a0) : 0 ≤ ((a0 + (-1)) - 1) := by omega
theorem oq_f9b4958f {a0 : Int} (h0 : a0 ≤ 200) : ((a0 + (-1)) - 1) < 200 := by omega
theorem oq_ab8c951f {a0 : Int} (h0 : a0 ≤ 200) : (((a0 + (-1)) - 1) : Int).toNat < 200 := by omega
theorem oq_6c14892a {a0 : Int} (h0 : 1 < a0) : 0 ≤ (a0 + (-1)) := by omega
theorem oq_2dcece94 {a0 : Int} (h0 : a0 ≤ 200) : (a0 + (-1)) < 200 := by omega
theorem oq_323b4624 {a0 : Int} (h0 : a0 ≤ 200) : ((a0 + (-1)) : Int).toNat < 200 := by omega
theorem oq_af76c38b {a0 : Int} (h0 : a0 ≤ 200) : (a0 + (-1)) ≤ 200 := by omega
theorem oq_76ad2bb2 {a0 : Int} (h0 : a0 ≤ 200) : (a0 - 1) < 200 := by omega
theorem oq_a03494ec {a0 : Int} (h0 : a0 ≤ 200) : ((a0 - 1) : Int).toNat < 200 := by omega
theorem oq_05aece2f {a0 a1 a2 : Int} (h0 : ((a0 < 0 ∧ (((-2147483648) ≤ a1 ∧ a1 ≤ 2147483647) ∧ a2 = a1)) ∨ (0 ≤ a0 ∧ a2 = a0))) : (-2147483648) ≤ a2 := by omega
theorem oq_93cedf2b {a0 a1 a2 : Int} (h0 : ((a0 < 0 ∧ (((-2147483648) ≤ a1 ∧ a1 ≤ 2147483647) ∧ a2 = a1)) ∨ (0 ≤ a0 ∧ a2 = a0))) (h1 : a0 ≤ 2147483647) : a2 ≤ 2147483647 := by omega
theorem oq_0cb6ab8a {a0 : Int} (h0 : a0 < 200) : (a0 + 1) ≤ 200 := by omega
theorem oq_c38d07c4 {a0 : Int} (h0 : a0 < 0) : 0 ≤ ((-1) - a0) := by omega
theorem oq_a1f4cde5 {a0 : Int} (h0 : (-8) < a0) : ((-1) - a0) < 7 := by omega
theorem oq_91b916ba {a0 : Int} (h0 : (-8) < a0) : (((-1) - a0) : Int).toNat < 7 := by omega
theorem oq_b629d6d6 {a0 : Int} (h0 : a0 ≠ (-1)) (h1 : a0 ≤ 7) (h2 : (-1) ≤ a0) : (0 ≤ a0 ∧ a0 ≤ 7) := by omega
theorem oq_e7d7c2b9  : (0 : Int).toNat < 200 := by omega
theorem oq_55c97650 {a0 a1 : Int} (h0 : a0 < a1) (h1 : a1 ≤ 11) : (a0 + 1) ≤ 12 := by omega
theorem oq_7e35da2a {a0 a1 : Int} (h0 : a0 < a1) (h1 : a1 ≤ 11) : 0 < (12 - a0) := by omega
/-! The class: the ear -/
section M74
variable {l : Launch} {s0 : State} {D : va_G} {tys : List (ClassId × FieldType)} {a0 : Array Value} {A : Nat → Nat} {dT : Nat → ClassId} {s : PS}
set_option maxRecDepth 4000 in
theorem c0_followSteps_31 (G : GX l s0 D tys a0 dT) (I : Bd s) {x : Int} {aj bj : Int64} (p0 : 0 ≤ x ∧ x ≤ 11) (p1 : iI s 22 ≤ 11) : CT l s0 D A dT 2 (rmN 2) [.ref (A 31), .int (Int32.ofInt x), .long aj, .long bj] s (fun o t => Bd t ∧ Fm [] [27, 28, 29] s t ∧ o = .inl none ∧ (True)) := by
  refine ct_ofX G (by decide) (Nat.le_of_ble_eq_true rfl) (fun k X E ET hRt hXt q => ?_)
  show WS k 0 [(0, .ref (A 31)), (1, .int (Int32.ofInt x)), (2, .long aj), (4, .long bj)] [] _ 0 0
  have F : Fm [] [27, 28, 29] s s := fm_rf _ _ s
  have b1 := bi_22 I
  have L12 : ∀ (n : Nat) (t : PS) (xv : Int) (av : Int64) (bv : Int64) (ov : Int) (wi : Int) (cl : Int) (kd : Int), Bd t → Fm [] [27, 28, 29] s t → ((0 ≤ xv ∧ xv ≤ 11) ∧ rng ov ∧ rng wi ∧ rng cl ∧ 0 ≤ kd ∧ kd ≤ 5 ∧ iI t 22 ≤ 11) → (5 - kd : Int).toNat < n → (∀ (t' : PS) (ov' : Int) (wi' : Int) (cl' : Int) (kd' : Int), Bd t' → Fm [] [27, 28, 29] s t' → ((0 ≤ xv ∧ xv ≤ 11) ∧ rng ov' ∧ rng wi' ∧ rng cl' ∧ 0 ≤ kd' ∧ kd' ≤ 5 ∧ iI t' 22 ≤ 11) → WS k 148 [(0, .ref (A 31)), (1, .int (Int32.ofInt xv)), (2, .long av), (4, .long bv), (6, .int (Int32.ofInt ov')), (7, .int (Int32.ofInt wi')), (8, .int (Int32.ofInt cl')), (9, .int (Int32.ofInt kd'))] [] (Wd A dT t') 0 0) → WS k 12 [(0, .ref (A 31)), (1, .int (Int32.ofInt xv)), (2, .long av), (4, .long bv), (6, .int (Int32.ofInt ov)), (7, .int (Int32.ofInt wi)), (8, .int (Int32.ofInt cl)), (9, .int (Int32.ofInt kd))] [] (Wd A dT t) 0 0 := by
    intro n
    induction n with
    | zero =>
      intro t xv av bv ov wi cl kd I F hi hm kx
      exact absurd hm (Nat.not_lt_zero _)
    | succ n ih =>
      intro t xv av bv ov wi cl kd I F hi hm kx
      have b1001 := bi_22 I
      refine z_load X (x := kd) rfl (List.Mem.tail _ (List.Mem.tail _ (List.Mem.tail _ (List.Mem.tail _ (List.Mem.tail _ (List.Mem.tail _ (List.Mem.tail _ (List.Mem.head _)))))))) (z_const X rfl (z_icmp_ge X (t := 148) rfl rfl ⟨by first | exact oq_fa4e5087 hi.2.2.2.2.1 | omega, by first | exact oq_a3dd55e5 hi.2.2.2.2.2.1 | omega⟩ (by decide) (fun g1002 => ?_) (fun g1002 => ?_)))
      ·
        refine WS_pq [0, 1, 2, 3, 4, 5, 6, 7] (lv' := [(0, .ref (A 31)), (1, .int (Int32.ofInt xv)), (2, .long av), (4, .long bv), (6, .int (Int32.ofInt ov)), (7, .int (Int32.ofInt wi)), (8, .int (Int32.ofInt cl)), (9, .int (Int32.ofInt kd))]) rfl ?_
        exact kx _ ov wi cl kd I F (by first | exact ⟨And.intro (hi.1.1) (hi.1.2), And.intro (hi.2.1.1) (hi.2.1.2), And.intro (hi.2.2.1.1) (hi.2.2.1.2), And.intro (hi.2.2.2.1.1) (hi.2.2.2.1.2), hi.2.2.2.2.1, hi.2.2.2.2.2.1, hi.2.2.2.2.2.2⟩ | omega)
      ·
        refine z_aload_n X (x := A 31) rfl (List.Mem.head _) (s_getR X 31 rfl (c518_ok rfl) rfl rfl (s_getR X 3 rfl (c518_ok rfl) rfl rfl (z_load_n X (x := xv) rfl (List.Mem.tail _ (List.Mem.head _)) (z_const X rfl (z_mul X rfl (z_load X (x := kd) rfl (List.Mem.tail _ (List.Mem.tail _ (List.Mem.tail _ (List.Mem.tail _ (List.Mem.tail _ (List.Mem.tail _ (List.Mem.tail _ (List.Mem.head _)))))))) (z_add X rfl (z_lald X 8 rfl (c518_ok rfl) rfl (by first | exact oq_59a253bd hi.1.1 hi.2.2.2.2.1 | omega) (show ((xv * 5) + kd) < 60 by first | exact oq_7279bf48 hi.1.2 g1002 | omega) (cbig_ok rfl) (fun j1003 => ?_)))))))))
        refine w_lstore X.1 (lv' := [(10, .long j1003), (0, .ref (A 31)), (1, .int (Int32.ofInt xv)), (2, .long av), (4, .long bv), (6, .int (Int32.ofInt ov)), (7, .int (Int32.ofInt wi)), (8, .int (Int32.ofInt cl)), (9, .int (Int32.ofInt kd))]) (ax_d X (show cdA 2 32 = some (.lstore 10, 2, 0, 0, 0) from rfl)) (by rw [X.2.1.2.2]; decide) (fun _ h => h) (w_lload X.1 (ax_d X (show cdA 2 34 = some (.lload 10, 2, 0, 0, 0) from rfl)) (x := j1003) (List.Mem.head _) (w_lconst X.1 (ax_d X (show cdA 2 36 = some (.lconst 0, 1, 0, 0, 0) from rfl)) rfl (z_anyJ (fun j1004 => ?_))))
        refine w_lcmp X.1 (ax_d X (show cdA 2 37 = some (.lcmp, 1, 0, 0, 0) from rfl)) (z_any (fun y1005 hy1005 => ?_))
        refine z_if_eq X (t := 142) rfl rfl hy1005 (fun g1006 => ?_) (fun g1006 => ?_)
        ·
          refine z_inc X (x := kd) (lv' := [(9, .int (Int32.ofInt (kd + 1))), (10, .long j1003), (0, .ref (A 31)), (1, .int (Int32.ofInt xv)), (2, .long av), (4, .long bv), (6, .int (Int32.ofInt ov)), (7, .int (Int32.ofInt wi)), (8, .int (Int32.ofInt cl))]) rfl (by decide) (List.Mem.tail _ (List.Mem.tail _ (List.Mem.tail _ (List.Mem.tail _ (List.Mem.tail _ (List.Mem.tail _ (List.Mem.tail _ (List.Mem.tail _ (List.Mem.head _))))))))) (fun _ h => h) (z_goto X (t := 12) rfl rfl (WS_pq [2, 3, 4, 5, 6, 7, 8, 0] (lv' := [(0, .ref (A 31)), (1, .int (Int32.ofInt xv)), (2, .long av), (4, .long bv), (6, .int (Int32.ofInt ov)), (7, .int (Int32.ofInt wi)), (8, .int (Int32.ofInt cl)), (9, .int (Int32.ofInt (kd + 1)))]) rfl ?_))
          exact ih _ xv av bv ov wi cl (kd + 1) I F (by first | exact ⟨And.intro (hi.1.1) (hi.1.2), And.intro (hi.2.1.1) (hi.2.1.2), And.intro (hi.2.2.1.1) (hi.2.2.1.2), And.intro (hi.2.2.2.1.1) (hi.2.2.2.1.2), oq_54f49eb5 hi.2.2.2.2.1, oq_c2445583 g1002, hi.2.2.2.2.2.2⟩ | omega) (by first | exact qk_me hm (by decide) (oq_33241a94 g1002) | omega) kx
        ·
          refine z_load X (x := kd) rfl (List.Mem.tail _ (List.Mem.tail _ (List.Mem.tail _ (List.Mem.tail _ (List.Mem.tail _ (List.Mem.tail _ (List.Mem.tail _ (List.Mem.tail _ (List.Mem.head _))))))))) (z_const X rfl ?_)
          have N1007 : ∀ j1008 : Int64, WS k 59 [(10, .long j1003), (0, .ref (A 31)), (1, .int (Int32.ofInt xv)), (2, .long av), (4, .long bv), (6, .int (Int32.ofInt ov)), (7, .int (Int32.ofInt wi)), (8, .int (Int32.ofInt cl)), (9, .int (Int32.ofInt kd))] [.long j1008] (Wd A dT t) 0 0 := by
            intro j1008
            refine w_lstore X.1 (lv' := [(12, .long j1008), (10, .long j1003), (0, .ref (A 31)), (1, .int (Int32.ofInt xv)), (2, .long av), (4, .long bv), (6, .int (Int32.ofInt ov)), (7, .int (Int32.ofInt wi)), (8, .int (Int32.ofInt cl)), (9, .int (Int32.ofInt kd))]) (ax_d X (show cdA 2 59 = some (.lstore 12, 2, 0, 0, 0) from rfl)) (by rw [X.2.1.2.2]; decide) (fun _ h => h) (z_load X (x := kd) rfl (List.Mem.tail _ (List.Mem.tail _ (List.Mem.tail _ (List.Mem.tail _ (List.Mem.tail _ (List.Mem.tail _ (List.Mem.tail _ (List.Mem.tail _ (List.Mem.tail _ (List.Mem.head _)))))))))) (z_const X rfl ?_))
            have N1009 : ∀ j1010 : Int64, WS k 90 [(12, .long j1008), (10, .long j1003), (0, .ref (A 31)), (1, .int (Int32.ofInt xv)), (2, .long av), (4, .long bv), (6, .int (Int32.ofInt ov)), (7, .int (Int32.ofInt wi)), (8, .int (Int32.ofInt cl)), (9, .int (Int32.ofInt kd))] [.long j1010] (Wd A dT t) 0 0 := by
              intro j1010
              refine w_lstore X.1 (lv' := [(14, .long j1010), (12, .long j1008), (10, .long j1003), (0, .ref (A 31)), (1, .int (Int32.ofInt xv)), (2, .long av), (4, .long bv), (6, .int (Int32.ofInt ov)), (7, .int (Int32.ofInt wi)), (8, .int (Int32.ofInt cl)), (9, .int (Int32.ofInt kd))]) (ax_d X (show cdA 2 90 = some (.lstore 14, 2, 0, 0, 0) from rfl)) (by rw [X.2.1.2.2]; decide) (fun _ h => h) (w_lload X.1 (ax_d X (show cdA 2 92 = some (.lload 10, 2, 0, 0, 0) from rfl)) (x := j1003) (List.Mem.tail _ (List.Mem.tail _ (List.Mem.head _))) (w_lload X.1 (ax_d X (show cdA 2 94 = some (.lload 12, 2, 0, 0, 0) from rfl)) (x := j1008) (List.Mem.tail _ (List.Mem.head _)) (w_land X.1 (ax_d X (show cdA 2 96 = some (.land, 1, 0, 0, 0) from rfl)) (z_anyJ (fun j1011 => ?_)))))
              refine w_lload X.1 (ax_d X (show cdA 2 97 = some (.lload 14, 2, 0, 0, 0) from rfl)) (x := j1010) (List.Mem.head _) (w_land X.1 (ax_d X (show cdA 2 99 = some (.land, 1, 0, 0, 0) from rfl)) (z_anyJ (fun j1012 => ?_)))
              refine zcS_i0 X E (As := [.long j1012]) (st := []) rfl rfl (j_bitL G I ) rfl (Nat.le_of_ble_eq_true rfl) (fun s1013 e1014 Is1013 Fs1013 hrs1013 hps1013 => ?_)
              have Gs1013 := fm_tq F Fs1013 rfl rfl
              have ws1013_22 : iI s1013 22 = iI t 22 := fm_iq Fs1013 rfl
              refine z_store X (lv' := [(16, .int (Int32.ofInt e1014)), (14, .long j1010), (12, .long j1008), (10, .long j1003), (0, .ref (A 31)), (1, .int (Int32.ofInt xv)), (2, .long av), (4, .long bv), (6, .int (Int32.ofInt ov)), (7, .int (Int32.ofInt wi)), (8, .int (Int32.ofInt cl)), (9, .int (Int32.ofInt kd))]) rfl (by decide) (fun _ h => h) (z_load X (x := ov) rfl (List.Mem.tail _ (List.Mem.tail _ (List.Mem.tail _ (List.Mem.tail _ (List.Mem.tail _ (List.Mem.tail _ (List.Mem.tail _ (List.Mem.tail _ (List.Mem.head _))))))))) (w_lload X.1 (ax_d X (show cdA 2 107 = some (.lload 10, 2, 0, 0, 0) from rfl)) (x := j1003) (List.Mem.tail _ (List.Mem.tail _ (List.Mem.tail _ (List.Mem.head _)))) (w_lload X.1 (ax_d X (show cdA 2 109 = some (.lload 12, 2, 0, 0, 0) from rfl)) (x := j1008) (List.Mem.tail _ (List.Mem.tail _ (List.Mem.head _))) (w_lload X.1 (ax_d X (show cdA 2 111 = some (.lload 14, 2, 0, 0, 0) from rfl)) (x := j1010) (List.Mem.tail _ (List.Mem.head _)) (w_lxor X.1 (ax_d X (show cdA 2 113 = some (.lxor, 1, 0, 0, 0) from rfl)) (z_anyJ (fun j1015 => ?_)))))))
              refine w_land X.1 (ax_d X (show cdA 2 114 = some (.land, 1, 0, 0, 0) from rfl)) (z_anyJ (fun j1016 => ?_))
              refine zcS_i0 X E (As := [.long j1016]) (st := [.int (Int32.ofInt ov)]) rfl rfl (j_bitL G Is1013 ) rfl (Nat.le_of_ble_eq_true rfl) (fun s1017 e1018 Is1017 Fs1017 hrs1017 hps1017 => ?_)
              have Gs1017 := fm_tq Gs1013 Fs1017 rfl rfl
              have ws1017_22 : iI s1017 22 = iI s1013 22 := fm_iq Fs1017 rfl
              refine z_add X rfl (z_any (fun y1019 hy1019 => ?_))
              refine z_store X (lv' := [(6, .int (Int32.ofInt y1019)), (16, .int (Int32.ofInt e1014)), (14, .long j1010), (12, .long j1008), (10, .long j1003), (0, .ref (A 31)), (1, .int (Int32.ofInt xv)), (2, .long av), (4, .long bv), (7, .int (Int32.ofInt wi)), (8, .int (Int32.ofInt cl)), (9, .int (Int32.ofInt kd))]) rfl (by decide) (fun _ h => h) (z_load X (x := wi) rfl (List.Mem.tail _ (List.Mem.tail _ (List.Mem.tail _ (List.Mem.tail _ (List.Mem.tail _ (List.Mem.tail _ (List.Mem.tail _ (List.Mem.tail _ (List.Mem.tail _ (List.Mem.head _)))))))))) (z_load X (x := e1014) rfl (List.Mem.tail _ (List.Mem.head _)) (z_add X rfl (z_any (fun y1020 hy1020 => ?_)))))
              refine z_store X (lv' := [(7, .int (Int32.ofInt y1020)), (6, .int (Int32.ofInt y1019)), (16, .int (Int32.ofInt e1014)), (14, .long j1010), (12, .long j1008), (10, .long j1003), (0, .ref (A 31)), (1, .int (Int32.ofInt xv)), (2, .long av), (4, .long bv), (8, .int (Int32.ofInt cl)), (9, .int (Int32.ofInt kd))]) rfl (by decide) (fun _ h => h) (z_load X (x := kd) rfl (List.Mem.tail _ (List.Mem.tail _ (List.Mem.tail _ (List.Mem.tail _ (List.Mem.tail _ (List.Mem.tail _ (List.Mem.tail _ (List.Mem.tail _ (List.Mem.tail _ (List.Mem.tail _ (List.Mem.tail _ (List.Mem.head _)))))))))))) (z_const X rfl ?_))
              have N1021 : ∀ e1022 : Int, (((kd ≠ 4) ∧ e1022 = 0) ∨ ((kd = 4) ∧ e1022 = e1014)) → WS k 140 [(7, .int (Int32.ofInt y1020)), (6, .int (Int32.ofInt y1019)), (16, .int (Int32.ofInt e1014)), (14, .long j1010), (12, .long j1008), (10, .long j1003), (0, .ref (A 31)), (1, .int (Int32.ofInt xv)), (2, .long av), (4, .long bv), (8, .int (Int32.ofInt cl)), (9, .int (Int32.ofInt kd))] [.int (Int32.ofInt e1022)] (Wd A dT s1017) 0 0 := by
                intro e1022 he1022
                refine z_store X (lv' := [(8, .int (Int32.ofInt e1022)), (7, .int (Int32.ofInt y1020)), (6, .int (Int32.ofInt y1019)), (16, .int (Int32.ofInt e1014)), (14, .long j1010), (12, .long j1008), (10, .long j1003), (0, .ref (A 31)), (1, .int (Int32.ofInt xv)), (2, .long av), (4, .long bv), (9, .int (Int32.ofInt kd))]) rfl (by decide) (fun _ h => h) (z_inc X (x := kd) (lv' := [(9, .int (Int32.ofInt (kd + 1))), (8, .int (Int32.ofInt e1022)), (7, .int (Int32.ofInt y1020)), (6, .int (Int32.ofInt y1019)), (16, .int (Int32.ofInt e1014)), (14, .long j1010), (12, .long j1008), (10, .long j1003), (0, .ref (A 31)), (1, .int (Int32.ofInt xv)), (2, .long av), (4, .long bv)]) rfl (by decide) (List.Mem.tail _ (List.Mem.tail _ (List.Mem.tail _ (List.Mem.tail _ (List.Mem.tail _ (List.Mem.tail _ (List.Mem.tail _ (List.Mem.tail _ (List.Mem.tail _ (List.Mem.tail _ (List.Mem.tail _ (List.Mem.head _)))))))))))) (fun _ h => h) (z_goto X (t := 12) rfl rfl (WS_pq [8, 9, 10, 11, 3, 2, 1, 0] (lv' := [(0, .ref (A 31)), (1, .int (Int32.ofInt xv)), (2, .long av), (4, .long bv), (6, .int (Int32.ofInt y1019)), (7, .int (Int32.ofInt y1020)), (8, .int (Int32.ofInt e1022)), (9, .int (Int32.ofInt (kd + 1)))]) rfl ?_)))
                exact ih _ xv av bv y1019 y1020 e1022 (kd + 1) Is1017 Gs1017 (by first | exact ⟨And.intro (hi.1.1) (hi.1.2), And.intro (hy1019.1) (hy1019.2), And.intro (hy1020.1) (hy1020.2), by first | (clear he1022 g1006; omega) | (clear g1006; omega) | omega, oq_54f49eb5 hi.2.2.2.2.1, oq_c2445583 g1002, oq_9a920414 ws1017_22 ws1013_22 hi.2.2.2.2.2.2⟩ | omega) (by first | exact qk_me hm (by decide) (oq_33241a94 g1002) | omega) kx
              refine z_icmp_ne X (t := 139) rfl rfl ⟨by first | exact oq_fa4e5087 hi.2.2.2.2.1 | omega, by first | exact oq_85aa3fe6 g1002 | omega⟩ (by decide) (fun g1023 => ?_) (fun g1023 => ?_)
              ·
                exact z_const X rfl (N1021 _ (Or.inl ⟨g1023, rfl⟩))
              ·
                exact z_load X (x := e1014) rfl (List.Mem.tail _ (List.Mem.tail _ (List.Mem.head _))) (z_goto X (t := 140) rfl rfl (N1021 _ (Or.inr (⟨g1023, rfl⟩))))
            refine z_icmp_ne X (t := 72) rfl rfl ⟨by first | exact oq_fa4e5087 hi.2.2.2.2.1 | omega, by first | exact oq_85aa3fe6 g1002 | omega⟩ (by decide) (fun g1024 => ?_) (fun g1024 => ?_)
            ·
              refine z_load X (x := kd) rfl (List.Mem.tail _ (List.Mem.tail _ (List.Mem.tail _ (List.Mem.tail _ (List.Mem.tail _ (List.Mem.tail _ (List.Mem.tail _ (List.Mem.tail _ (List.Mem.tail _ (List.Mem.head _)))))))))) (z_const X rfl (z_icmp_ge X (t := 85) rfl rfl ⟨by first | exact oq_fa4e5087 hi.2.2.2.2.1 | omega, by first | exact oq_85aa3fe6 g1002 | omega⟩ (by decide) (fun g1025 => ?_) (fun g1025 => ?_)))
              ·
                refine w_lload X.1 (ax_d X (show cdA 2 85 = some (.lload 12, 2, 0, 0, 0) from rfl)) (x := j1008) (List.Mem.head _) (z_bipush X rfl (w_lushr X.1 (ax_d X (show cdA 2 89 = some (.lushr, 1, 0, 0, 0) from rfl)) (z_anyJ (fun j1026 => ?_))))
                exact N1009 _
              ·
                refine w_lload X.1 (ax_d X (show cdA 2 78 = some (.lload 12, 2, 0, 0, 0) from rfl)) (x := j1008) (List.Mem.head _) (z_const X rfl (w_lushr X.1 (ax_d X (show cdA 2 81 = some (.lushr, 1, 0, 0, 0) from rfl)) (z_anyJ (fun j1027 => ?_))))
                exact z_goto X (t := 90) rfl rfl (N1009 _)
            ·
              exact w_lload X.1 (ax_d X (show cdA 2 67 = some (.lload 4, 2, 0, 0, 0) from rfl)) (x := bv) (List.Mem.tail _ (List.Mem.tail _ (List.Mem.tail _ (List.Mem.tail _ (List.Mem.tail _ (List.Mem.head _)))))) (z_goto X (t := 90) rfl rfl (N1009 _))
          refine z_icmp_eq X (t := 53) rfl rfl ⟨by first | exact oq_fa4e5087 hi.2.2.2.2.1 | omega, by first | exact oq_85aa3fe6 g1002 | omega⟩ (by decide) (fun g1028 => ?_) (fun g1028 => ?_)
          ·
            exact w_lload X.1 (ax_d X (show cdA 2 53 = some (.lload 4, 2, 0, 0, 0) from rfl)) (x := bv) (List.Mem.tail _ (List.Mem.tail _ (List.Mem.tail _ (List.Mem.tail _ (List.Mem.head _))))) (z_goto X (t := 59) rfl rfl (N1007 _))
          ·
            refine z_load X (x := kd) rfl (List.Mem.tail _ (List.Mem.tail _ (List.Mem.tail _ (List.Mem.tail _ (List.Mem.tail _ (List.Mem.tail _ (List.Mem.tail _ (List.Mem.tail _ (List.Mem.head _))))))))) (z_const X rfl (z_icmp_ne X (t := 58) rfl rfl ⟨by first | exact oq_fa4e5087 hi.2.2.2.2.1 | omega, by first | exact oq_85aa3fe6 g1002 | omega⟩ (by decide) (fun g1029 => ?_) (fun g1029 => ?_)))
            ·
              exact w_lload_n X.1 (ax_d X (show cdA 2 58 = some (.lload_n 2, 1, 0, 0, 0) from rfl)) (x := av) (List.Mem.tail _ (List.Mem.tail _ (List.Mem.tail _ (List.Mem.head _)))) (N1007 _)
            ·
              exact w_lload X.1 (ax_d X (show cdA 2 53 = some (.lload 4, 2, 0, 0, 0) from rfl)) (x := bv) (List.Mem.tail _ (List.Mem.tail _ (List.Mem.tail _ (List.Mem.tail _ (List.Mem.head _))))) (z_goto X (t := 59) rfl rfl (N1007 _))
  refine z_const X rfl (z_store X (lv' := [(6, .int (Int32.ofInt 0)), (0, .ref (A 31)), (1, .int (Int32.ofInt x)), (2, .long aj), (4, .long bj)]) rfl (by decide) (fun _ h => h) (z_const X rfl (z_store X (lv' := [(7, .int (Int32.ofInt 0)), (6, .int (Int32.ofInt 0)), (0, .ref (A 31)), (1, .int (Int32.ofInt x)), (2, .long aj), (4, .long bj)]) rfl (by decide) (fun _ h => h) (z_const X rfl (z_store X (lv' := [(8, .int (Int32.ofInt 0)), (7, .int (Int32.ofInt 0)), (6, .int (Int32.ofInt 0)), (0, .ref (A 31)), (1, .int (Int32.ofInt x)), (2, .long aj), (4, .long bj)]) rfl (by decide) (fun _ h => h) (z_const X rfl (z_store X (lv' := [(9, .int (Int32.ofInt 0)), (8, .int (Int32.ofInt 0)), (7, .int (Int32.ofInt 0)), (6, .int (Int32.ofInt 0)), (0, .ref (A 31)), (1, .int (Int32.ofInt x)), (2, .long aj), (4, .long bj)]) rfl (by decide) (fun _ h => h) (WS_pq [4, 5, 6, 7, 3, 2, 1, 0] (lv' := [(0, .ref (A 31)), (1, .int (Int32.ofInt x)), (2, .long aj), (4, .long bj), (6, .int (Int32.ofInt 0)), (7, .int (Int32.ofInt 0)), (8, .int (Int32.ofInt 0)), (9, .int (Int32.ofInt 0))]) rfl (L12 ((5 - 0 : Int).toNat + 1) s x aj bj 0 0 0 0 I F (by first | exact ⟨And.intro (p0.1) (p0.2), And.intro (by decide) (by decide), And.intro (by decide) (by decide), And.intro (by decide) (by decide), by decide, by decide, p1⟩ | omega) (Nat.lt_succ_self _) ?_)))))))))
  intro s2 x3 x4 x5 x6 Is2 Fs2 hs2
  have b7 := bi_22 Is2
  refine z_aload_n X (x := A 31) rfl (List.Mem.head _) (s_getR X 31 rfl (c518_ok rfl) rfl rfl (z_aload_n X (x := A 31) rfl (List.Mem.head _) (z_getI X 31 rfl (c518_ok rfl) rfl rfl ?_)))
  have b8 := bi_22 Is2
  refine z_load X (x := x3) rfl (List.Mem.tail _ (List.Mem.tail _ (List.Mem.tail _ (List.Mem.tail _ (List.Mem.head _))))) (z_ast X 33 rfl (c518_ok rfl) rfl (by first | exact b8.1 | omega) (show (iI s2 22) < 12 by first | exact oq_0ddfcfee hs2.2.2.2.2.2.2 | omega) (cbig_ok rfl) (wd_gen (fun s9 hs9 => ?_)))
  have Is9 : Bd s9 := eqB hs9 (bd_C Is2 (show ((-2147483648) : Int) ≤ x3 ∧ x3 ≤ 2147483647 by first | exact ⟨hs2.2.1.1, hs2.2.1.2⟩ | omega) ⟨by first | exact hs2.2.1.1 | omega, by first | exact hs2.2.1.2 | omega⟩)
  have Fs9 := eqF hs9 (fm_C Fs2 (inl_ok (a := 27) rfl))
  have ws9_22 : iI s9 22 = iI s2 22 := eqI hs9 rfl
  refine z_aload_n X (x := A 31) rfl (List.Mem.head _) (s_getR X 31 rfl (c518_ok rfl) rfl rfl (z_aload_n X (x := A 31) rfl (List.Mem.head _) (z_getI X 31 rfl (c518_ok rfl) rfl rfl ?_)))
  have b10 := bi_22 Is9
  refine z_load X (x := x4) rfl (List.Mem.tail _ (List.Mem.tail _ (List.Mem.tail _ (List.Mem.tail _ (List.Mem.tail _ (List.Mem.head _)))))) (z_ast X 34 rfl (c518_ok rfl) rfl (by first | exact b10.1 | omega) (show (iI s9 22) < 12 by first | exact oq_210fcd76 ws9_22 hs2.2.2.2.2.2.2 | omega) (cbig_ok rfl) (wd_gen (fun s11 hs11 => ?_)))
  have Is11 : Bd s11 := eqB hs11 (bd_C Is9 (show ((-2147483648) : Int) ≤ x4 ∧ x4 ≤ 2147483647 by first | exact ⟨hs2.2.2.1.1, hs2.2.2.1.2⟩ | omega) ⟨by first | exact hs2.2.2.1.1 | omega, by first | exact hs2.2.2.1.2 | omega⟩)
  have Fs11 := eqF hs11 (fm_C Fs9 (inl_ok (a := 28) rfl))
  have ws11_22 : iI s11 22 = iI s9 22 := eqI hs11 rfl
  refine z_aload_n X (x := A 31) rfl (List.Mem.head _) (s_getR X 31 rfl (c518_ok rfl) rfl rfl (z_aload_n X (x := A 31) rfl (List.Mem.head _) (z_getI X 31 rfl (c518_ok rfl) rfl rfl ?_)))
  have b12 := bi_22 Is11
  refine z_load X (x := x5) rfl (List.Mem.tail _ (List.Mem.tail _ (List.Mem.tail _ (List.Mem.tail _ (List.Mem.tail _ (List.Mem.tail _ (List.Mem.head _))))))) (z_ast X 35 rfl (c518_ok rfl) rfl (by first | exact b12.1 | omega) (show (iI s11 22) < 12 by first | exact oq_e2284db0 ws11_22 ws9_22 hs2.2.2.2.2.2.2 | omega) (cbig_ok rfl) (wd_gen (fun s13 hs13 => ?_)))
  have Is13 : Bd s13 := eqB hs13 (bd_C Is11 (show ((-2147483648) : Int) ≤ x5 ∧ x5 ≤ 2147483647 by first | exact ⟨hs2.2.2.2.1.1, hs2.2.2.2.1.2⟩ | omega) ⟨by first | exact hs2.2.2.2.1.1 | omega, by first | exact hs2.2.2.2.1.2 | omega⟩)
  have Fs13 := eqF hs13 (fm_C Fs11 (inl_ok (a := 29) rfl))
  have ws13_22 : iI s13 22 = iI s11 22 := eqI hs13 rfl
  exact w_vret X.1 q hRt (ax_d X (show cdA 2 181 = some (.return_, 1, 0, 0, 0) from rfl)) (Nat.zero_le _) (Nat.zero_le _) ⟨_, rfl, Is13, Fs13, rfl, trivial⟩
set_option maxRecDepth 4000 in
theorem c0_listen_31 (G : GX l s0 D tys a0 dT) (I : Bd s) {x : Int} {aj bj : Int64} (p0 : rng x) : CT l s0 D A dT 1 (rmN 1) [.ref (A 31), .long aj, .long bj, .int (Int32.ofInt x)] s (fun o t => Bd t ∧ Fm [22, 23] [33, 26, 27, 28, 29, 30, 31, 32] s t ∧ o = .inl none ∧ (True)) := by
  refine ct_ofX G (by decide) (Nat.le_of_ble_eq_true rfl) (fun k X E ET hRt hXt q => ?_)
  show WS k 0 [(0, .ref (A 31)), (1, .long aj), (3, .long bj), (5, .int (Int32.ofInt x))] [] _ 0 0
  have F : Fm [22, 23] [33, 26, 27, 28, 29, 30, 31, 32] s s := fm_rf _ _ s
  have b1 := bi_22 I
  have b2 := bi_23 I
  have b3 := bi_9 I
  have b4 := bi_10 I
  have L42 : ∀ (n : Nat) (t : PS) (av : Int64) (bv : Int64) (c : Int), Bd t → Fm [22, 23] [33, 26, 27, 28, 29, 30, 31, 32] s t → (0 ≤ c ∧ c ≤ 12 ∧ iI t 22 ≤ c) → (12 - c : Int).toNat < n → (∀ (t' : PS) (c' : Int), Bd t' → Fm [22, 23] [33, 26, 27, 28, 29, 30, 31, 32] s t' → (0 ≤ c' ∧ c' ≤ 12 ∧ iI t' 22 ≤ c') → WS k 125 [(0, .ref (A 31)), (1, .long av), (3, .long bv), (6, .int (Int32.ofInt c'))] [] (Wd A dT t') 0 0) → WS k 42 [(0, .ref (A 31)), (1, .long av), (3, .long bv), (6, .int (Int32.ofInt c))] [] (Wd A dT t) 0 0 := by
    intro n
    induction n with
    | zero =>
      intro t av bv c I F hi hm kx
      exact absurd hm (Nat.not_lt_zero _)
    | succ n ih =>
      intro t av bv c I F hi hm kx
      have b1001 := bi_22 I
      have b1002 := bi_23 I
      have b1003 := bi_9 I
      have b1004 := bi_10 I
      refine z_load X (x := c) rfl (List.Mem.tail _ (List.Mem.tail _ (List.Mem.tail _ (List.Mem.head _)))) (z_aload_n X (x := A 31) rfl (List.Mem.head _) (s_getR X 31 rfl (c518_ok rfl) rfl rfl (z_getI X 3 rfl (c518_ok rfl) rfl rfl ?_)))
      have b1005 := bi_9 I
      refine z_icmp_ge X (t := 125) rfl rfl ⟨by first | exact oq_fa4e5087 hi.1 | omega, by first | exact oq_78843a64 hi.2.1 | omega⟩ (rng_to _) (fun g1006 => ?_) (fun g1006 => ?_)
      ·
        refine WS_pq [0, 1, 2, 3] (lv' := [(0, .ref (A 31)), (1, .long av), (3, .long bv), (6, .int (Int32.ofInt c))]) rfl ?_
        exact kx _ c I F (by first | exact ⟨hi.1, hi.2.1, hi.2.2⟩ | omega)
      ·
        refine z_aload_n X (x := A 31) rfl (List.Mem.head _) (s_getR X 31 rfl (c518_ok rfl) rfl rfl (s_getR X 3 rfl (c518_ok rfl) rfl rfl (z_load X (x := c) rfl (List.Mem.tail _ (List.Mem.tail _ (List.Mem.tail _ (List.Mem.head _)))) (z_const X rfl (z_mul X rfl (z_lald X 6 rfl (c518_ok rfl) rfl (by first | exact oq_cfc6ac54 hi.1 | omega) (show (c * 2) < 24 by first | exact oq_e062d2c8 g1006 b1005.2 | omega) (cbig_ok rfl) (fun j1007 => ?_)))))))
        refine w_lload_n X.1 (ax_d X (show cdA 1 66 = some (.lload_n 1, 1, 0, 0, 0) from rfl)) (x := av) (List.Mem.tail _ (List.Mem.head _)) (w_land X.1 (ax_d X (show cdA 1 67 = some (.land, 1, 0, 0, 0) from rfl)) (z_anyJ (fun j1008 => ?_)))
        refine z_aload_n X (x := A 31) rfl (List.Mem.head _) (s_getR X 31 rfl (c518_ok rfl) rfl rfl (s_getR X 3 rfl (c518_ok rfl) rfl rfl (z_load X (x := c) rfl (List.Mem.tail _ (List.Mem.tail _ (List.Mem.tail _ (List.Mem.head _)))) (z_const X rfl (z_mul X rfl (z_const X rfl (z_add X rfl (z_lald X 6 rfl (c518_ok rfl) rfl (by first | exact oq_8a3e0277 hi.1 | omega) (show ((c * 2) + 1) < 24 by first | exact oq_0edc0603 g1006 b1005.2 | omega) (cbig_ok rfl) (fun j1009 => ?_)))))))))
        refine w_lload_n X.1 (ax_d X (show cdA 1 82 = some (.lload_n 3, 1, 0, 0, 0) from rfl)) (x := bv) (List.Mem.tail _ (List.Mem.tail _ (List.Mem.head _))) (w_land X.1 (ax_d X (show cdA 1 83 = some (.land, 1, 0, 0, 0) from rfl)) (z_anyJ (fun j1010 => ?_)))
        refine w_lor X.1 (ax_d X (show cdA 1 84 = some (.lor, 1, 0, 0, 0) from rfl)) (z_anyJ (fun j1011 => ?_))
        refine w_lconst X.1 (ax_d X (show cdA 1 85 = some (.lconst 0, 1, 0, 0, 0) from rfl)) rfl (z_anyJ (fun j1012 => ?_))
        refine w_lcmp X.1 (ax_d X (show cdA 1 86 = some (.lcmp, 1, 0, 0, 0) from rfl)) (z_any (fun y1013 hy1013 => ?_))
        refine z_if_eq X (t := 119) rfl rfl hy1013 (fun g1014 => ?_) (fun g1014 => ?_)
        ·
          refine z_inc X (x := c) (lv' := [(6, .int (Int32.ofInt (c + 1))), (0, .ref (A 31)), (1, .long av), (3, .long bv)]) rfl (by decide) (List.Mem.tail _ (List.Mem.tail _ (List.Mem.tail _ (List.Mem.head _)))) (fun _ h => h) (z_goto X (t := 42) rfl rfl (WS_pq [1, 2, 3, 0] (lv' := [(0, .ref (A 31)), (1, .long av), (3, .long bv), (6, .int (Int32.ofInt (c + 1)))]) rfl ?_))
          exact ih _ av bv (c + 1) I F (by first | exact ⟨oq_54f49eb5 hi.1, oq_4dae995e g1006 b1005.2, oq_03182e9e hi.2.2⟩ | omega) (by first | exact qk_me hm (by decide) (oq_b575e8c1 g1006 b1005.2) | omega) kx
        ·
          refine z_aload_n X (x := A 31) rfl (List.Mem.head _) (s_getR X 31 rfl (c518_ok rfl) rfl rfl (z_aload_n X (x := A 31) rfl (List.Mem.head _) (z_getI X 31 rfl (c518_ok rfl) rfl rfl ?_)))
          have b1015 := bi_22 I
          refine z_load X (x := c) rfl (List.Mem.tail _ (List.Mem.tail _ (List.Mem.tail _ (List.Mem.head _)))) (z_ast X 32 rfl (c518_ok rfl) rfl (by first | exact b1015.1 | omega) (show (iI t 22) < 12 by first | exact oq_79196c7f hi.2.2 g1006 b1005.2 | omega) (cbig_ok rfl) (wd_gen (fun s1016 hs1016 => ?_)))
          have Is1016 : Bd s1016 := eqB hs1016 (bd_C I (show (0 : Int) ≤ c ∧ c ≤ 11 by first | exact ⟨hi.1, oq_e4d7f3c5 g1006 b1005.2⟩ | omega) ⟨by first | exact oq_fa4e5087 hi.1 | omega, by first | exact oq_78843a64 hi.2.1 | omega⟩)
          have Fs1016 := eqF hs1016 (fm_C F (inl_ok (a := 26) rfl))
          have ws1016_22 : iI s1016 22 = iI t 22 := eqI hs1016 rfl
          have ws1016_23 : iI s1016 23 = iI t 23 := eqI hs1016 rfl
          have ws1016_9 : iI s1016 9 = iI t 9 := eqI hs1016 rfl
          have ws1016_10 : iI s1016 10 = iI t 10 := eqI hs1016 rfl
          refine z_aload_n X (x := A 31) rfl (List.Mem.head _) (z_load X (x := c) rfl (List.Mem.tail _ (List.Mem.tail _ (List.Mem.tail _ (List.Mem.head _)))) (w_lload_n X.1 (ax_d X (show cdA 1 104 = some (.lload_n 1, 1, 0, 0, 0) from rfl)) (x := av) (List.Mem.tail _ (List.Mem.head _)) (w_lload_n X.1 (ax_d X (show cdA 1 105 = some (.lload_n 3, 1, 0, 0, 0) from rfl)) (x := bv) (List.Mem.tail _ (List.Mem.tail _ (List.Mem.head _))) (zcV_v0 X E 31 (As := [.int (Int32.ofInt c), .long av, .long bv]) (st := []) rfl rfl rfl rfl (c0_followSteps_31 G Is1016 (by first | exact ⟨hi.1, oq_e4d7f3c5 g1006 b1005.2⟩ | omega) (by first | exact oq_2f168143 ws1016_22 hi.2.2 g1006 b1005.2 | omega)) rfl (Nat.le_of_ble_eq_true rfl) (fun s1017 Is1017 Fs1017 hps1017 => ?_)))))
          have Gs1017 := fm_tq Fs1016 Fs1017 rfl rfl
          have ws1017_22 : iI s1017 22 = iI s1016 22 := fm_iq Fs1017 rfl
          have ws1017_23 : iI s1017 23 = iI s1016 23 := fm_iq Fs1017 rfl
          have ws1017_9 : iI s1017 9 = iI s1016 9 := fm_iq Fs1017 rfl
          have ws1017_10 : iI s1017 10 = iI s1016 10 := fm_iq Fs1017 rfl
          refine z_aload_n X (x := A 31) rfl (List.Mem.head _) (w_dup X.1 (ax_d X (show cdA 1 110 = some (.dup, 1, 0, 0, 0) from rfl)) rfl (z_getI X 31 rfl (c518_ok rfl) rfl rfl ?_))
          have b1019 := bi_22 Is1017
          refine z_const X rfl (z_add X rfl (s_putI X 31 rfl (c518_ok rfl) rfl rfl (by decide) rfl rfl rfl (wd_gen (fun s1020 hs1020 => ?_))))
          have Is1020 : Bd s1020 := eqB hs1020 (bd_I Is1017 (show (0 : Int) ≤ ((iI s1017 22) + 1) ∧ ((iI s1017 22) + 1) ≤ 12 by first | exact ⟨oq_54f49eb5 b1019.1, oq_1fea0193 ws1017_22 ws1016_22 hi.2.2 g1006 b1005.2⟩ | omega) ⟨by first | exact oq_74de1e16 b1019.1 | omega, by first | exact oq_76a8a5b7 b1019.2 | omega⟩)
          have Fs1020 := eqF hs1020 (fm_I Gs1017 (inl_ok (a := 22) rfl))
          have vs1020 : iI s1020 22 = ((iI s1017 22) + 1) := eqI hs1020 (iI_u ⟨by first | exact oq_74de1e16 b1019.1 | omega, by first | exact oq_76a8a5b7 b1019.2 | omega⟩)
          have ws1020_23 : iI s1020 23 = iI s1017 23 := eqI hs1020 rfl
          have ws1020_9 : iI s1020 9 = iI s1017 9 := eqI hs1020 rfl
          have ws1020_10 : iI s1020 10 = iI s1017 10 := eqI hs1020 rfl
          refine z_inc X (x := c) (lv' := [(6, .int (Int32.ofInt (c + 1))), (0, .ref (A 31)), (1, .long av), (3, .long bv)]) rfl (by decide) (List.Mem.tail _ (List.Mem.tail _ (List.Mem.tail _ (List.Mem.head _)))) (fun _ h => h) (z_goto X (t := 42) rfl rfl (WS_pq [1, 2, 3, 0] (lv' := [(0, .ref (A 31)), (1, .long av), (3, .long bv), (6, .int (Int32.ofInt (c + 1)))]) rfl ?_))
          exact ih _ av bv (c + 1) Is1020 Fs1020 (by first | exact ⟨oq_54f49eb5 hi.1, oq_4dae995e g1006 b1005.2, oq_ecb13324 vs1020 hi.2.2 ws1017_22 ws1016_22⟩ | omega) (by first | exact qk_me hm (by decide) (oq_b575e8c1 g1006 b1005.2) | omega) kx
  have L133 : ∀ (n : Nat) (t : PS) (av : Int64) (bv : Int64) (c : Int), Bd t → Fm [22, 23] [33, 26, 27, 28, 29, 30, 31, 32] s t → (0 ≤ c ∧ c ≤ 66 ∧ iI t 23 ≤ c) → (66 - c : Int).toNat < n → (∀ (t' : PS) (c' : Int), Bd t' → Fm [22, 23] [33, 26, 27, 28, 29, 30, 31, 32] s t' → (0 ≤ c' ∧ c' ≤ 66 ∧ iI t' 23 ≤ c') → WS k 260 [(0, .ref (A 31)), (1, .long av), (3, .long bv), (6, .int (Int32.ofInt c'))] [] (Wd A dT t') 0 0) → WS k 133 [(0, .ref (A 31)), (1, .long av), (3, .long bv), (6, .int (Int32.ofInt c))] [] (Wd A dT t) 0 0 := by
    intro n
    induction n with
    | zero =>
      intro t av bv c I F hi hm kx
      exact absurd hm (Nat.not_lt_zero _)
    | succ n ih =>
      intro t av bv c I F hi hm kx
      have b2001 := bi_22 I
      have b2002 := bi_23 I
      have b2003 := bi_9 I
      have b2004 := bi_10 I
      refine z_load X (x := c) rfl (List.Mem.tail _ (List.Mem.tail _ (List.Mem.tail _ (List.Mem.head _)))) (z_aload_n X (x := A 31) rfl (List.Mem.head _) (s_getR X 31 rfl (c518_ok rfl) rfl rfl (z_getI X 3 rfl (c518_ok rfl) rfl rfl ?_)))
      have b2005 := bi_10 I
      refine z_icmp_ge X (t := 260) rfl rfl ⟨by first | exact oq_fa4e5087 hi.1 | omega, by first | exact oq_64f2e926 hi.2.1 | omega⟩ (rng_to _) (fun g2006 => ?_) (fun g2006 => ?_)
      ·
        refine WS_pq [0, 1, 2, 3] (lv' := [(0, .ref (A 31)), (1, .long av), (3, .long bv), (6, .int (Int32.ofInt c))]) rfl ?_
        exact kx _ c I F (by first | exact ⟨hi.1, hi.2.1, hi.2.2⟩ | omega)
      ·
        refine z_aload_n X (x := A 31) rfl (List.Mem.head _) (s_getR X 31 rfl (c518_ok rfl) rfl rfl (s_getR X 3 rfl (c518_ok rfl) rfl rfl (z_load X (x := c) rfl (List.Mem.tail _ (List.Mem.tail _ (List.Mem.tail _ (List.Mem.head _)))) (z_const X rfl (z_mul X rfl (z_lald X 10 rfl (c518_ok rfl) rfl (by first | exact oq_cfc6ac54 hi.1 | omega) (show (c * 2) < 132 by first | exact oq_ff78435a g2006 b2005.2 | omega) (cbig_ok rfl) (fun j2007 => ?_)))))))
        refine w_lload_n X.1 (ax_d X (show cdA 1 157 = some (.lload_n 1, 1, 0, 0, 0) from rfl)) (x := av) (List.Mem.tail _ (List.Mem.head _)) (w_land X.1 (ax_d X (show cdA 1 158 = some (.land, 1, 0, 0, 0) from rfl)) (z_anyJ (fun j2008 => ?_)))
        refine zcS_i0 X E (As := [.long j2008]) (st := []) rfl rfl (j_bitL G I ) rfl (Nat.le_of_ble_eq_true rfl) (fun s2009 e2010 Is2009 Fs2009 hrs2009 hps2009 => ?_)
        have Gs2009 := fm_tq F Fs2009 rfl rfl
        have ws2009_22 : iI s2009 22 = iI t 22 := fm_iq Fs2009 rfl
        have ws2009_23 : iI s2009 23 = iI t 23 := fm_iq Fs2009 rfl
        have ws2009_9 : iI s2009 9 = iI t 9 := fm_iq Fs2009 rfl
        have ws2009_10 : iI s2009 10 = iI t 10 := fm_iq Fs2009 rfl
        refine z_aload_n X (x := A 31) rfl (List.Mem.head _) (s_getR X 31 rfl (c518_ok rfl) rfl rfl (s_getR X 3 rfl (c518_ok rfl) rfl rfl (z_load X (x := c) rfl (List.Mem.tail _ (List.Mem.tail _ (List.Mem.tail _ (List.Mem.head _)))) (z_const X rfl (z_mul X rfl (z_const X rfl (z_add X rfl (z_lald X 10 rfl (c518_ok rfl) rfl (by first | exact oq_8a3e0277 hi.1 | omega) (show ((c * 2) + 1) < 132 by first | exact oq_643e2065 g2006 b2005.2 | omega) (cbig_ok rfl) (fun j2011 => ?_)))))))))
        refine w_lload_n X.1 (ax_d X (show cdA 1 176 = some (.lload_n 3, 1, 0, 0, 0) from rfl)) (x := bv) (List.Mem.tail _ (List.Mem.tail _ (List.Mem.head _))) (w_land X.1 (ax_d X (show cdA 1 177 = some (.land, 1, 0, 0, 0) from rfl)) (z_anyJ (fun j2012 => ?_)))
        refine zcS_i0 X E (As := [.long j2012]) (st := [.int (Int32.ofInt e2010)]) rfl rfl (j_bitL G Is2009 ) rfl (Nat.le_of_ble_eq_true rfl) (fun s2013 e2014 Is2013 Fs2013 hrs2013 hps2013 => ?_)
        have Gs2013 := fm_tq Gs2009 Fs2013 rfl rfl
        have ws2013_22 : iI s2013 22 = iI s2009 22 := fm_iq Fs2013 rfl
        have ws2013_23 : iI s2013 23 = iI s2009 23 := fm_iq Fs2013 rfl
        have ws2013_9 : iI s2013 9 = iI s2009 9 := fm_iq Fs2013 rfl
        have ws2013_10 : iI s2013 10 = iI s2009 10 := fm_iq Fs2013 rfl
        refine z_add X rfl (z_any (fun y2015 hy2015 => ?_))
        refine z_store X (lv' := [(7, .int (Int32.ofInt y2015)), (0, .ref (A 31)), (1, .long av), (3, .long bv), (6, .int (Int32.ofInt c))]) rfl (by decide) (fun _ h => h) (z_load X (x := y2015) rfl (List.Mem.head _) (z_if_le X (t := 254) rfl rfl hy2015 (fun g2016 => ?_) (fun g2016 => ?_)))
        ·
          refine z_inc X (x := c) (lv' := [(6, .int (Int32.ofInt (c + 1))), (7, .int (Int32.ofInt y2015)), (0, .ref (A 31)), (1, .long av), (3, .long bv)]) rfl (by decide) (List.Mem.tail _ (List.Mem.tail _ (List.Mem.tail _ (List.Mem.tail _ (List.Mem.head _))))) (fun _ h => h) (z_goto X (t := 133) rfl rfl (WS_pq [2, 3, 4, 0] (lv' := [(0, .ref (A 31)), (1, .long av), (3, .long bv), (6, .int (Int32.ofInt (c + 1)))]) rfl ?_))
          exact ih _ av bv (c + 1) Is2013 Gs2013 (by first | exact ⟨oq_54f49eb5 hi.1, oq_319a18a4 g2006 b2005.2, oq_2e1f687c ws2013_23 hi.2.2 ws2009_23⟩ | omega) (by first | exact qk_me hm (by decide) (oq_dd0e9829 g2006 b2005.2) | omega) kx
        ·
          refine z_aload_n X (x := A 31) rfl (List.Mem.tail _ (List.Mem.head _)) (s_getR X 31 rfl (c518_ok rfl) rfl rfl (z_aload_n X (x := A 31) rfl (List.Mem.tail _ (List.Mem.head _)) (z_getI X 31 rfl (c518_ok rfl) rfl rfl ?_)))
          have b2017 := bi_23 Is2013
          refine z_aload_n X (x := A 31) rfl (List.Mem.tail _ (List.Mem.head _)) (s_getR X 31 rfl (c518_ok rfl) rfl rfl (s_getR X 3 rfl (c518_ok rfl) rfl rfl (z_load X (x := c) rfl (List.Mem.tail _ (List.Mem.tail _ (List.Mem.tail _ (List.Mem.tail _ (List.Mem.head _))))) (z_ald X 9 rfl (c518_ok rfl) rfl (by first | exact hi.1 | omega) (show c < 66 by first | exact oq_256e4529 g2006 b2005.2 | omega) (cbig_ok rfl) ?_))))
          have b2018 := bc_6 Is2013 (show (c).toNat < 66 by first | exact oq_d7ff7873 g2006 b2005.2 | omega)
          refine z_bipush X rfl (z_quot X rfl (by first | exact b2018.1 | omega) (rng_to _) (by decide) (by decide) (z_ast X 36 rfl (c518_ok rfl) rfl (by first | exact b2017.1 | omega) (show (iI s2013 23) < 66 by first | exact oq_141bb310 ws2013_23 ws2009_23 hi.2.2 g2006 b2005.2 | omega) (cbig_ok rfl) (wd_gen (fun s2019 hs2019 => ?_))))
          have Is2019 : Bd s2019 := eqB hs2019 (bd_C Is2013 (show (0 : Int) ≤ ((iC s2013 6 (c).toNat) / 12) ∧ ((iC s2013 6 (c).toNat) / 12) ≤ 11 by first | exact ⟨oq_37eb78e0 b2018.1, oq_a03fe580 b2018.2⟩ | omega) ⟨by first | exact oq_e17ab641 b2018.1 | omega, by first | exact oq_c285d9d6 b2018.2 | omega⟩)
          have Fs2019 := eqF hs2019 (fm_C Gs2013 (inl_ok (a := 30) rfl))
          have ws2019_22 : iI s2019 22 = iI s2013 22 := eqI hs2019 rfl
          have ws2019_23 : iI s2019 23 = iI s2013 23 := eqI hs2019 rfl
          have ws2019_9 : iI s2019 9 = iI s2013 9 := eqI hs2019 rfl
          have ws2019_10 : iI s2019 10 = iI s2013 10 := eqI hs2019 rfl
          refine z_aload_n X (x := A 31) rfl (List.Mem.tail _ (List.Mem.head _)) (s_getR X 31 rfl (c518_ok rfl) rfl rfl (z_aload_n X (x := A 31) rfl (List.Mem.tail _ (List.Mem.head _)) (z_getI X 31 rfl (c518_ok rfl) rfl rfl ?_)))
          have b2020 := bi_23 Is2019
          refine z_aload_n X (x := A 31) rfl (List.Mem.tail _ (List.Mem.head _)) (s_getR X 31 rfl (c518_ok rfl) rfl rfl (s_getR X 3 rfl (c518_ok rfl) rfl rfl (z_load X (x := c) rfl (List.Mem.tail _ (List.Mem.tail _ (List.Mem.tail _ (List.Mem.tail _ (List.Mem.head _))))) (z_ald X 9 rfl (c518_ok rfl) rfl (by first | exact hi.1 | omega) (show c < 66 by first | exact oq_256e4529 g2006 b2005.2 | omega) (cbig_ok rfl) ?_))))
          have b2021 := bc_6 Is2019 (show (c).toNat < 66 by first | exact oq_d7ff7873 g2006 b2005.2 | omega)
          refine z_bipush X rfl (z_mod X rfl (by first | exact b2021.1 | omega) (rng_to _) (by decide) (by decide) (z_ast X 37 rfl (c518_ok rfl) rfl (by first | exact b2020.1 | omega) (show (iI s2019 23) < 66 by first | exact oq_47fd6e20 ws2019_23 ws2013_23 ws2009_23 g2006 b2005.2 hi.2.2 | omega) (cbig_ok rfl) (wd_gen (fun s2022 hs2022 => ?_))))
          have Is2022 : Bd s2022 := eqB hs2022 (bd_C Is2019 (show (0 : Int) ≤ ((iC s2019 6 (c).toNat) % 12) ∧ ((iC s2019 6 (c).toNat) % 12) ≤ 11 by first | exact ⟨oq_b83041cc, oq_e286272e⟩ | omega) ⟨by first | exact oq_9d26ea27 | omega, by first | exact oq_6634e3d0 | omega⟩)
          have Fs2022 := eqF hs2022 (fm_C Fs2019 (inl_ok (a := 31) rfl))
          have ws2022_22 : iI s2022 22 = iI s2019 22 := eqI hs2022 rfl
          have ws2022_23 : iI s2022 23 = iI s2019 23 := eqI hs2022 rfl
          have ws2022_9 : iI s2022 9 = iI s2019 9 := eqI hs2022 rfl
          have ws2022_10 : iI s2022 10 = iI s2019 10 := eqI hs2022 rfl
          refine z_aload_n X (x := A 31) rfl (List.Mem.tail _ (List.Mem.head _)) (s_getR X 31 rfl (c518_ok rfl) rfl rfl (z_aload_n X (x := A 31) rfl (List.Mem.tail _ (List.Mem.head _)) (z_getI X 31 rfl (c518_ok rfl) rfl rfl ?_)))
          have b2023 := bi_23 Is2022
          refine z_load X (x := y2015) rfl (List.Mem.head _) (z_ast X 38 rfl (c518_ok rfl) rfl (by first | exact b2023.1 | omega) (show (iI s2022 23) < 66 by first | exact oq_3af0036b ws2022_23 ws2019_23 ws2013_23 ws2009_23 g2006 b2005.2 hi.2.2 | omega) (cbig_ok rfl) (wd_gen (fun s2024 hs2024 => ?_)))
          have Is2024 : Bd s2024 := eqB hs2024 (bd_C Is2022 (show ((-2147483648) : Int) ≤ y2015 ∧ y2015 ≤ 2147483647 by first | exact ⟨hy2015.1, hy2015.2⟩ | omega) hy2015)
          have Fs2024 := eqF hs2024 (fm_C Fs2022 (inl_ok (a := 32) rfl))
          have ws2024_22 : iI s2024 22 = iI s2022 22 := eqI hs2024 rfl
          have ws2024_23 : iI s2024 23 = iI s2022 23 := eqI hs2024 rfl
          have ws2024_9 : iI s2024 9 = iI s2022 9 := eqI hs2024 rfl
          have ws2024_10 : iI s2024 10 = iI s2022 10 := eqI hs2024 rfl
          refine z_aload_n X (x := A 31) rfl (List.Mem.tail _ (List.Mem.head _)) (w_dup X.1 (ax_d X (show cdA 1 245 = some (.dup, 1, 0, 0, 0) from rfl)) rfl (z_getI X 31 rfl (c518_ok rfl) rfl rfl ?_))
          have b2025 := bi_23 Is2024
          refine z_const X rfl (z_add X rfl (s_putI X 31 rfl (c518_ok rfl) rfl rfl (by decide) rfl rfl rfl (wd_gen (fun s2026 hs2026 => ?_))))
          have Is2026 : Bd s2026 := eqB hs2026 (bd_I Is2024 (show (0 : Int) ≤ ((iI s2024 23) + 1) ∧ ((iI s2024 23) + 1) ≤ 66 by first | exact ⟨oq_54f49eb5 b2025.1, oq_d0eb7b2e ws2024_23 ws2022_23 ws2019_23 ws2013_23 ws2009_23 g2006 b2005.2 hi.2.2⟩ | omega) ⟨by first | exact oq_74de1e16 b2025.1 | omega, by first | exact oq_d99c2177 b2025.2 | omega⟩)
          have Fs2026 := eqF hs2026 (fm_I Fs2024 (inl_ok (a := 23) rfl))
          have vs2026 : iI s2026 23 = ((iI s2024 23) + 1) := eqI hs2026 (iI_u ⟨by first | exact oq_74de1e16 b2025.1 | omega, by first | exact oq_d99c2177 b2025.2 | omega⟩)
          have ws2026_22 : iI s2026 22 = iI s2024 22 := eqI hs2026 rfl
          have ws2026_9 : iI s2026 9 = iI s2024 9 := eqI hs2026 rfl
          have ws2026_10 : iI s2026 10 = iI s2024 10 := eqI hs2026 rfl
          refine z_inc X (x := c) (lv' := [(6, .int (Int32.ofInt (c + 1))), (7, .int (Int32.ofInt y2015)), (0, .ref (A 31)), (1, .long av), (3, .long bv)]) rfl (by decide) (List.Mem.tail _ (List.Mem.tail _ (List.Mem.tail _ (List.Mem.tail _ (List.Mem.head _))))) (fun _ h => h) (z_goto X (t := 133) rfl rfl (WS_pq [2, 3, 4, 0] (lv' := [(0, .ref (A 31)), (1, .long av), (3, .long bv), (6, .int (Int32.ofInt (c + 1)))]) rfl ?_))
          exact ih _ av bv (c + 1) Is2026 Fs2026 (by first | exact ⟨oq_54f49eb5 hi.1, oq_319a18a4 g2006 b2005.2, oq_6fc60775 vs2026 ws2024_23 ws2022_23 ws2019_23 ws2013_23 ws2009_23 hi.2.2⟩ | omega) (by first | exact qk_me hm (by decide) (oq_dd0e9829 g2006 b2005.2) | omega) kx
  refine z_aload_n X (x := A 31) rfl (List.Mem.head _) (s_getR X 31 rfl (c518_ok rfl) rfl rfl (z_const X rfl (w_lload_n X.1 (ax_d X (show cdA 1 5 = some (.lload_n 1, 1, 0, 0, 0) from rfl)) (x := aj) (List.Mem.tail _ (List.Mem.head _)) (zcS_i0 X E (As := [.long aj]) (st := [.int (Int32.ofInt 4), .ref (A 39)]) rfl rfl (j_bitL G I ) rfl (Nat.le_of_ble_eq_true rfl) (fun s5 e6 Is5 Fs5 hrs5 hps5 => ?_)))))
  have Gs5 := fm_tq F Fs5 rfl rfl
  have ws5_22 : iI s5 22 = iI s 22 := fm_iq Fs5 rfl
  have ws5_23 : iI s5 23 = iI s 23 := fm_iq Fs5 rfl
  have ws5_9 : iI s5 9 = iI s 9 := fm_iq Fs5 rfl
  have ws5_10 : iI s5 10 = iI s 10 := fm_iq Fs5 rfl
  refine w_lload_n X.1 (ax_d X (show cdA 1 9 = some (.lload_n 3, 1, 0, 0, 0) from rfl)) (x := bj) (List.Mem.tail _ (List.Mem.tail _ (List.Mem.head _))) (zcS_i0 X E (As := [.long bj]) (st := [.int (Int32.ofInt e6), .int (Int32.ofInt 4), .ref (A 39)]) rfl rfl (j_bitL G Is5 ) rfl (Nat.le_of_ble_eq_true rfl) (fun s7 e8 Is7 Fs7 hrs7 hps7 => ?_))
  have Gs7 := fm_tq Gs5 Fs7 rfl rfl
  have ws7_22 : iI s7 22 = iI s5 22 := fm_iq Fs7 rfl
  have ws7_23 : iI s7 23 = iI s5 23 := fm_iq Fs7 rfl
  have ws7_9 : iI s7 9 = iI s5 9 := fm_iq Fs7 rfl
  have ws7_10 : iI s7 10 = iI s5 10 := fm_iq Fs7 rfl
  refine z_add X rfl (z_any (fun y9 hy9 => ?_))
  refine z_ast X 39 rfl (c518_ok rfl) rfl (by decide) (show 4 < 7 by decide) (cbig_ok rfl) (wd_gen (fun s10 hs10 => ?_))
  have Is10 : Bd s10 := eqB hs10 (bd_C Is7 (show ((-2147483648) : Int) ≤ y9 ∧ y9 ≤ 2147483647 by first | exact ⟨hy9.1, hy9.2⟩ | omega) hy9)
  have Fs10 := eqF hs10 (fm_C Gs7 (inl_ok (a := 33) rfl))
  have ws10_22 : iI s10 22 = iI s7 22 := eqI hs10 rfl
  have ws10_23 : iI s10 23 = iI s7 23 := eqI hs10 rfl
  have ws10_9 : iI s10 9 = iI s7 9 := eqI hs10 rfl
  have ws10_10 : iI s10 10 = iI s7 10 := eqI hs10 rfl
  refine z_aload_n X (x := A 31) rfl (List.Mem.head _) (s_getR X 31 rfl (c518_ok rfl) rfl rfl (z_const X rfl (w_lload_n X.1 (ax_d X (show cdA 1 20 = some (.lload_n 1, 1, 0, 0, 0) from rfl)) (x := aj) (List.Mem.tail _ (List.Mem.head _)) (zcS_i0 X E (As := [.long aj]) (st := [.int (Int32.ofInt 5), .ref (A 39)]) rfl rfl (j_bitL G Is10 ) rfl (Nat.le_of_ble_eq_true rfl) (fun s11 e12 Is11 Fs11 hrs11 hps11 => ?_)))))
  have Gs11 := fm_tq Fs10 Fs11 rfl rfl
  have ws11_22 : iI s11 22 = iI s10 22 := fm_iq Fs11 rfl
  have ws11_23 : iI s11 23 = iI s10 23 := fm_iq Fs11 rfl
  have ws11_9 : iI s11 9 = iI s10 9 := fm_iq Fs11 rfl
  have ws11_10 : iI s11 10 = iI s10 10 := fm_iq Fs11 rfl
  refine z_ast X 39 rfl (c518_ok rfl) rfl (by decide) (show 5 < 7 by decide) (cbig_ok rfl) (wd_gen (fun s13 hs13 => ?_))
  have Is13 : Bd s13 := eqB hs13 (bd_C Is11 (show ((-2147483648) : Int) ≤ e12 ∧ e12 ≤ 2147483647 by omega) hrs11)
  have Fs13 := eqF hs13 (fm_C Gs11 (inl_ok (a := 33) rfl))
  have ws13_22 : iI s13 22 = iI s11 22 := eqI hs13 rfl
  have ws13_23 : iI s13 23 = iI s11 23 := eqI hs13 rfl
  have ws13_9 : iI s13 9 = iI s11 9 := eqI hs13 rfl
  have ws13_10 : iI s13 10 = iI s11 10 := eqI hs13 rfl
  refine z_aload_n X (x := A 31) rfl (List.Mem.head _) (s_getR X 31 rfl (c518_ok rfl) rfl rfl (z_bipush X rfl (z_load X (x := x) rfl (List.Mem.tail _ (List.Mem.tail _ (List.Mem.tail _ (List.Mem.head _)))) (z_ast X 39 rfl (c518_ok rfl) rfl (by decide) (show 6 < 7 by decide) (cbig_ok rfl) (wd_gen (fun s14 hs14 => ?_))))))
  have Is14 : Bd s14 := eqB hs14 (bd_C Is13 (show ((-2147483648) : Int) ≤ x ∧ x ≤ 2147483647 by first | exact ⟨p0.1, p0.2⟩ | omega) ⟨by first | exact p0.1 | omega, by first | exact p0.2 | omega⟩)
  have Fs14 := eqF hs14 (fm_C Fs13 (inl_ok (a := 33) rfl))
  have ws14_22 : iI s14 22 = iI s13 22 := eqI hs14 rfl
  have ws14_23 : iI s14 23 = iI s13 23 := eqI hs14 rfl
  have ws14_9 : iI s14 9 = iI s13 9 := eqI hs14 rfl
  have ws14_10 : iI s14 10 = iI s13 10 := eqI hs14 rfl
  refine z_aload_n X (x := A 31) rfl (List.Mem.head _) (z_const X rfl (s_putI X 31 rfl (c518_ok rfl) rfl rfl (by decide) rfl rfl rfl (wd_gen (fun s15 hs15 => ?_))))
  have Is15 : Bd s15 := eqB hs15 (bd_I Is14 (show (0 : Int) ≤ 0 ∧ 0 ≤ 12 by first | exact ⟨by decide, by decide⟩ | omega) (by decide))
  have Fs15 := eqF hs15 (fm_I Fs14 (inl_ok (a := 22) rfl))
  have vs15 : iI s15 22 = 0 := eqI hs15 (iI_u (by decide))
  have ws15_23 : iI s15 23 = iI s14 23 := eqI hs15 rfl
  have ws15_9 : iI s15 9 = iI s14 9 := eqI hs15 rfl
  have ws15_10 : iI s15 10 = iI s14 10 := eqI hs15 rfl
  refine z_const X rfl (z_store X (lv' := [(6, .int (Int32.ofInt 0)), (0, .ref (A 31)), (1, .long aj), (3, .long bj), (5, .int (Int32.ofInt x))]) rfl (by decide) (fun _ h => h) (WS_pq [1, 2, 3, 0] (lv' := [(0, .ref (A 31)), (1, .long aj), (3, .long bj), (6, .int (Int32.ofInt 0))]) rfl (L42 ((12 - 0 : Int).toNat + 1) s15 aj bj 0 Is15 Fs15 (by first | exact ⟨by decide, by decide, oq_1af0b4f8 vs15⟩ | omega) (Nat.lt_succ_self _) ?_)))
  intro s16 x17 Is16 Fs16 hs16
  have b18 := bi_22 Is16
  have b19 := bi_23 Is16
  have b20 := bi_9 Is16
  have b21 := bi_10 Is16
  refine z_aload_n X (x := A 31) rfl (List.Mem.head _) (z_const X rfl (s_putI X 31 rfl (c518_ok rfl) rfl rfl (by decide) rfl rfl rfl (wd_gen (fun s22 hs22 => ?_))))
  have Is22 : Bd s22 := eqB hs22 (bd_I Is16 (show (0 : Int) ≤ 0 ∧ 0 ≤ 66 by first | exact ⟨by decide, by decide⟩ | omega) (by decide))
  have Fs22 := eqF hs22 (fm_I Fs16 (inl_ok (a := 23) rfl))
  have vs22 : iI s22 23 = 0 := eqI hs22 (iI_u (by decide))
  have ws22_22 : iI s22 22 = iI s16 22 := eqI hs22 rfl
  have ws22_9 : iI s22 9 = iI s16 9 := eqI hs22 rfl
  have ws22_10 : iI s22 10 = iI s16 10 := eqI hs22 rfl
  refine z_const X rfl (z_store X (lv' := [(6, .int (Int32.ofInt 0)), (0, .ref (A 31)), (1, .long aj), (3, .long bj)]) rfl (by decide) (fun _ h => h) (WS_pq [1, 2, 3, 0] (lv' := [(0, .ref (A 31)), (1, .long aj), (3, .long bj), (6, .int (Int32.ofInt 0))]) rfl (L133 ((66 - 0 : Int).toNat + 1) s22 aj bj 0 Is22 Fs22 (by first | exact ⟨by decide, by decide, oq_1af0b4f8 vs22⟩ | omega) (Nat.lt_succ_self _) ?_)))
  intro s23 x24 Is23 Fs23 hs23
  have b25 := bi_22 Is23
  have b26 := bi_23 Is23
  have b27 := bi_9 Is23
  have b28 := bi_10 Is23
  exact w_vret X.1 q hRt (ax_d X (show cdA 1 260 = some (.return_, 1, 0, 0, 0) from rfl)) (Nat.zero_le _) (Nat.zero_le _) ⟨_, rfl, Is23, Fs23, rfl, trivial⟩
set_option maxRecDepth 4000 in
theorem c0_hear_31 (G : GX l s0 D tys a0 dT) (I : Bd s) {x y : Int} (p0 : 0 ≤ x ∧ x ≤ 23) (p1 : rng y) : CT l s0 D A dT 3 (rmN 3) [.ref (A 31), .int (Int32.ofInt x), .int (Int32.ofInt y)] s (fun o t => Bd t ∧ Fm [] [33] s t ∧ o = .inl none ∧ (True)) := by
  refine ct_ofX G (by decide) (Nat.le_of_ble_eq_true rfl) (fun k X E ET hRt hXt q => ?_)
  show WS k 0 [(0, .ref (A 31)), (1, .int (Int32.ofInt x)), (2, .int (Int32.ofInt y))] [] _ 0 0
  have F : Fm [] [33] s s := fm_rf _ _ s
  have b1 := bi_22 I
  have b2 := bi_23 I
  have L20 : ∀ (n : Nat) (t : PS) (yv ro wa cr ov cl c : Int), Bd t → Fm [] [33] s t → (rng yv ∧ (0 ≤ ro ∧ ro ≤ 276) ∧ rng wa ∧ rng cr ∧ rng ov ∧ rng cl ∧ 0 ≤ c ∧ c ≤ 12) → (12 - c : Int).toNat < n → (∀ (t' : PS) (wa' cr' ov' cl' c' : Int), Bd t' → Fm [] [33] s t' → (rng yv ∧ (0 ≤ ro ∧ ro ≤ 276) ∧ rng wa' ∧ rng cr' ∧ rng ov' ∧ rng cl' ∧ 0 ≤ c' ∧ c' ≤ 12) → WS k 106 [(0, .ref (A 31)), (2, .int (Int32.ofInt yv)), (3, .int (Int32.ofInt ro)), (4, .int (Int32.ofInt wa')), (5, .int (Int32.ofInt cr')), (6, .int (Int32.ofInt ov')), (7, .int (Int32.ofInt cl')), (8, .int (Int32.ofInt c'))] [] (Wd A dT t') 0 0) → WS k 20 [(0, .ref (A 31)), (2, .int (Int32.ofInt yv)), (3, .int (Int32.ofInt ro)), (4, .int (Int32.ofInt wa)), (5, .int (Int32.ofInt cr)), (6, .int (Int32.ofInt ov)), (7, .int (Int32.ofInt cl)), (8, .int (Int32.ofInt c))] [] (Wd A dT t) 0 0 := by
    intro n
    induction n with
    | zero =>
      intro t yv ro wa cr ov cl c I F hi hm kx
      exact absurd hm (Nat.not_lt_zero _)
    | succ n ih =>
      intro t yv ro wa cr ov cl c I F hi hm kx
      have b1001 := bi_22 I
      have b1002 := bi_23 I
      refine z_load X (x := c) rfl (List.Mem.tail _ (List.Mem.tail _ (List.Mem.tail _ (List.Mem.tail _ (List.Mem.tail _ (List.Mem.tail _ (List.Mem.tail _ (List.Mem.head _)))))))) (z_aload_n X (x := A 31) rfl (List.Mem.head _) (z_getI X 31 rfl (c518_ok rfl) rfl rfl ?_))
      have b1003 := bi_22 I
      refine z_icmp_ge X (t := 106) rfl rfl ⟨by first | exact oq_fa4e5087 hi.2.2.2.2.2.2.1 | omega, by first | exact oq_78843a64 hi.2.2.2.2.2.2.2 | omega⟩ (rng_to _) (fun g1004 => ?_) (fun g1004 => ?_)
      ·
        refine WS_pq [0, 1, 2, 3, 4, 5, 6, 7] (lv' := [(0, .ref (A 31)), (2, .int (Int32.ofInt yv)), (3, .int (Int32.ofInt ro)), (4, .int (Int32.ofInt wa)), (5, .int (Int32.ofInt cr)), (6, .int (Int32.ofInt ov)), (7, .int (Int32.ofInt cl)), (8, .int (Int32.ofInt c))]) rfl ?_
        exact kx _ wa cr ov cl c I F (by first | exact ⟨And.intro (hi.1.1) (hi.1.2), And.intro (hi.2.1.1) (hi.2.1.2), And.intro (hi.2.2.1.1) (hi.2.2.1.2), And.intro (hi.2.2.2.1.1) (hi.2.2.2.1.2), And.intro (hi.2.2.2.2.1.1) (hi.2.2.2.2.1.2), And.intro (hi.2.2.2.2.2.1.1) (hi.2.2.2.2.2.1.2), hi.2.2.2.2.2.2.1, hi.2.2.2.2.2.2.2⟩ | omega)
      ·
        refine z_aload_n X (x := A 31) rfl (List.Mem.head _) (s_getR X 31 rfl (c518_ok rfl) rfl rfl (z_load X (x := c) rfl (List.Mem.tail _ (List.Mem.tail _ (List.Mem.tail _ (List.Mem.tail _ (List.Mem.tail _ (List.Mem.tail _ (List.Mem.tail _ (List.Mem.head _)))))))) (z_ald X 32 rfl (c518_ok rfl) rfl (by first | exact hi.2.2.2.2.2.2.1 | omega) (show c < 12 by first | exact oq_f36e82a8 g1004 b1003.2 | omega) (cbig_ok rfl) ?_)))
        have b1005 := bc_26 I (show (c).toNat < 12 by first | exact oq_2dac6850 g1004 b1003.2 | omega)
        refine z_load_n X (x := yv) rfl (List.Mem.tail _ (List.Mem.head _)) ?_
        have N1006 : ∀ e1007 : Int, ((((iC t 26 (c).toNat) ≠ yv) ∧ ((0 : Int) ≤ iC t 26 (c).toNat ∧ iC t 26 (c).toNat ≤ 11) ∧ ((0 : Int) ≤ iC t 11 ((ro + (iC t 26 (c).toNat))).toNat ∧ iC t 11 ((ro + (iC t 26 (c).toNat))).toNat ≤ 50) ∧ e1007 = (iC t 11 ((ro + (iC t 26 (c).toNat))).toNat)) ∨ (((iC t 26 (c).toNat) = yv) ∧ e1007 = 0)) → WS k 61 [(0, .ref (A 31)), (2, .int (Int32.ofInt yv)), (3, .int (Int32.ofInt ro)), (4, .int (Int32.ofInt wa)), (5, .int (Int32.ofInt cr)), (6, .int (Int32.ofInt ov)), (7, .int (Int32.ofInt cl)), (8, .int (Int32.ofInt c))] [.int (Int32.ofInt e1007)] (Wd A dT t) 0 0 := by
          intro e1007 he1007
          refine z_store X (lv' := [(9, .int (Int32.ofInt e1007)), (0, .ref (A 31)), (2, .int (Int32.ofInt yv)), (3, .int (Int32.ofInt ro)), (4, .int (Int32.ofInt wa)), (5, .int (Int32.ofInt cr)), (6, .int (Int32.ofInt ov)), (7, .int (Int32.ofInt cl)), (8, .int (Int32.ofInt c))]) rfl (by decide) (fun _ h => h) (z_load X (x := wa) rfl (List.Mem.tail _ (List.Mem.tail _ (List.Mem.tail _ (List.Mem.tail _ (List.Mem.head _))))) (z_load X (x := e1007) rfl (List.Mem.head _) (z_add X rfl (z_any (fun y1008 hy1008 => ?_)))))
          refine z_store X (lv' := [(4, .int (Int32.ofInt y1008)), (9, .int (Int32.ofInt e1007)), (0, .ref (A 31)), (2, .int (Int32.ofInt yv)), (3, .int (Int32.ofInt ro)), (5, .int (Int32.ofInt cr)), (6, .int (Int32.ofInt ov)), (7, .int (Int32.ofInt cl)), (8, .int (Int32.ofInt c))]) rfl (by decide) (fun _ h => h) (z_load X (x := ov) rfl (List.Mem.tail _ (List.Mem.tail _ (List.Mem.tail _ (List.Mem.tail _ (List.Mem.tail _ (List.Mem.tail _ (List.Mem.head _))))))) (z_load X (x := e1007) rfl (List.Mem.tail _ (List.Mem.head _)) (z_aload_n X (x := A 31) rfl (List.Mem.tail _ (List.Mem.tail _ (List.Mem.head _))) (s_getR X 31 rfl (c518_ok rfl) rfl rfl (z_load X (x := c) rfl (List.Mem.tail _ (List.Mem.tail _ (List.Mem.tail _ (List.Mem.tail _ (List.Mem.tail _ (List.Mem.tail _ (List.Mem.tail _ (List.Mem.tail _ (List.Mem.head _))))))))) (z_ald X 33 rfl (c518_ok rfl) rfl (by first | exact hi.2.2.2.2.2.2.1 | omega) (show c < 12 by first | exact oq_f36e82a8 g1004 b1003.2 | omega) (cbig_ok rfl) ?_))))))
          have b1009 := bc_27 I (show (c).toNat < 12 by first | exact oq_2dac6850 g1004 b1003.2 | omega)
          refine z_mul X rfl (z_any (fun y1010 hy1010 => ?_))
          refine z_add X rfl (z_any (fun y1011 hy1011 => ?_))
          refine z_store X (lv' := [(6, .int (Int32.ofInt y1011)), (4, .int (Int32.ofInt y1008)), (9, .int (Int32.ofInt e1007)), (0, .ref (A 31)), (2, .int (Int32.ofInt yv)), (3, .int (Int32.ofInt ro)), (5, .int (Int32.ofInt cr)), (7, .int (Int32.ofInt cl)), (8, .int (Int32.ofInt c))]) rfl (by decide) (fun _ h => h) (z_load X (x := cl) rfl (List.Mem.tail _ (List.Mem.tail _ (List.Mem.tail _ (List.Mem.tail _ (List.Mem.tail _ (List.Mem.tail _ (List.Mem.tail _ (List.Mem.head _)))))))) (z_load X (x := e1007) rfl (List.Mem.tail _ (List.Mem.tail _ (List.Mem.head _))) (z_aload_n X (x := A 31) rfl (List.Mem.tail _ (List.Mem.tail _ (List.Mem.tail _ (List.Mem.head _)))) (s_getR X 31 rfl (c518_ok rfl) rfl rfl (z_load X (x := c) rfl (List.Mem.tail _ (List.Mem.tail _ (List.Mem.tail _ (List.Mem.tail _ (List.Mem.tail _ (List.Mem.tail _ (List.Mem.tail _ (List.Mem.tail _ (List.Mem.head _))))))))) (z_ald X 35 rfl (c518_ok rfl) rfl (by first | exact hi.2.2.2.2.2.2.1 | omega) (show c < 12 by first | exact oq_f36e82a8 g1004 b1003.2 | omega) (cbig_ok rfl) ?_))))))
          have b1012 := bc_29 I (show (c).toNat < 12 by first | exact oq_2dac6850 g1004 b1003.2 | omega)
          refine z_mul X rfl (z_any (fun y1013 hy1013 => ?_))
          refine z_add X rfl (z_any (fun y1014 hy1014 => ?_))
          refine z_store X (lv' := [(7, .int (Int32.ofInt y1014)), (6, .int (Int32.ofInt y1011)), (4, .int (Int32.ofInt y1008)), (9, .int (Int32.ofInt e1007)), (0, .ref (A 31)), (2, .int (Int32.ofInt yv)), (3, .int (Int32.ofInt ro)), (5, .int (Int32.ofInt cr)), (8, .int (Int32.ofInt c))]) rfl (by decide) (fun _ h => h) (z_inc X (x := c) (lv' := [(8, .int (Int32.ofInt (c + 1))), (7, .int (Int32.ofInt y1014)), (6, .int (Int32.ofInt y1011)), (4, .int (Int32.ofInt y1008)), (9, .int (Int32.ofInt e1007)), (0, .ref (A 31)), (2, .int (Int32.ofInt yv)), (3, .int (Int32.ofInt ro)), (5, .int (Int32.ofInt cr))]) rfl (by decide) (List.Mem.tail _ (List.Mem.tail _ (List.Mem.tail _ (List.Mem.tail _ (List.Mem.tail _ (List.Mem.tail _ (List.Mem.tail _ (List.Mem.tail _ (List.Mem.head _))))))))) (fun _ h => h) (z_goto X (t := 20) rfl rfl (WS_pq [5, 6, 7, 3, 8, 2, 1, 0] (lv' := [(0, .ref (A 31)), (2, .int (Int32.ofInt yv)), (3, .int (Int32.ofInt ro)), (4, .int (Int32.ofInt y1008)), (5, .int (Int32.ofInt cr)), (6, .int (Int32.ofInt y1011)), (7, .int (Int32.ofInt y1014)), (8, .int (Int32.ofInt (c + 1)))]) rfl ?_)))
          exact ih _ yv ro y1008 cr y1011 y1014 (c + 1) I F (by first | exact ⟨And.intro (hi.1.1) (hi.1.2), And.intro (hi.2.1.1) (hi.2.1.2), And.intro (hy1008.1) (hy1008.2), And.intro (hi.2.2.2.1.1) (hi.2.2.2.1.2), And.intro (hy1011.1) (hy1011.2), And.intro (hy1014.1) (hy1014.2), oq_54f49eb5 hi.2.2.2.2.2.2.1, oq_4dae995e g1004 b1003.2⟩ | omega) (by first | exact qk_me hm (by decide) (oq_b575e8c1 g1004 b1003.2) | omega) kx
        refine z_icmp_ne X (t := 44) rfl rfl (rng_to _) ⟨by first | exact hi.1.1 | omega, by first | exact hi.1.2 | omega⟩ (fun g1015 => ?_) (fun g1015 => ?_)
        ·
          refine z_aload_n X (x := A 31) rfl (List.Mem.head _) (s_getR X 31 rfl (c518_ok rfl) rfl rfl (s_getR X 3 rfl (c518_ok rfl) rfl rfl (z_load_n X (x := ro) rfl (List.Mem.tail _ (List.Mem.tail _ (List.Mem.head _))) (z_aload_n X (x := A 31) rfl (List.Mem.head _) (s_getR X 31 rfl (c518_ok rfl) rfl rfl (z_load X (x := c) rfl (List.Mem.tail _ (List.Mem.tail _ (List.Mem.tail _ (List.Mem.tail _ (List.Mem.tail _ (List.Mem.tail _ (List.Mem.tail _ (List.Mem.head _)))))))) (z_ald X 32 rfl (c518_ok rfl) rfl (by first | exact hi.2.2.2.2.2.2.1 | omega) (show c < 12 by first | exact oq_f36e82a8 g1004 b1003.2 | omega) (cbig_ok rfl) ?_)))))))
          have b1016 := bc_26 I (show (c).toNat < 12 by first | exact oq_2dac6850 g1004 b1003.2 | omega)
          refine z_add X rfl (z_ald X 14 rfl (c518_ok rfl) rfl (by first | exact oq_dd29f52d hi.2.1.1 b1016.1 | omega) (show (ro + (iC t 26 (c).toNat)) < 288 by first | exact oq_f94a0088 hi.2.1.2 b1016.2 | omega) (cbig_ok rfl) ?_)
          have b1017 := bc_11 I (show ((ro + (iC t 26 (c).toNat))).toNat < 288 by first | exact oq_3d7ae1dd hi.2.1.2 b1016.2 | omega)
          exact N1006 _ (Or.inl ⟨g1015, b1016, b1017, rfl⟩)
        ·
          exact z_const X rfl (z_goto X (t := 61) rfl rfl (N1006 _ (Or.inr (⟨g1015, rfl⟩))))
  have L109 : ∀ (n : Nat) (t : PS) (yv ro wa cr ov cl c : Int), Bd t → Fm [] [33] s t → (rng yv ∧ (0 ≤ ro ∧ ro ≤ 276) ∧ rng wa ∧ rng cr ∧ rng ov ∧ rng cl ∧ 0 ≤ c ∧ c ≤ 66) → (66 - c : Int).toNat < n → (∀ (t' : PS) (cr' c' : Int), Bd t' → Fm [] [33] s t' → (rng yv ∧ (0 ≤ ro ∧ ro ≤ 276) ∧ rng wa ∧ rng cr' ∧ rng ov ∧ rng cl ∧ 0 ≤ c' ∧ c' ≤ 66) → WS k 196 [(0, .ref (A 31)), (2, .int (Int32.ofInt yv)), (3, .int (Int32.ofInt ro)), (4, .int (Int32.ofInt wa)), (5, .int (Int32.ofInt cr')), (6, .int (Int32.ofInt ov)), (7, .int (Int32.ofInt cl)), (8, .int (Int32.ofInt c'))] [] (Wd A dT t') 0 0) → WS k 109 [(0, .ref (A 31)), (2, .int (Int32.ofInt yv)), (3, .int (Int32.ofInt ro)), (4, .int (Int32.ofInt wa)), (5, .int (Int32.ofInt cr)), (6, .int (Int32.ofInt ov)), (7, .int (Int32.ofInt cl)), (8, .int (Int32.ofInt c))] [] (Wd A dT t) 0 0 := by
    intro n
    induction n with
    | zero =>
      intro t yv ro wa cr ov cl c I F hi hm kx
      exact absurd hm (Nat.not_lt_zero _)
    | succ n ih =>
      intro t yv ro wa cr ov cl c I F hi hm kx
      have b2001 := bi_22 I
      have b2002 := bi_23 I
      refine z_load X (x := c) rfl (List.Mem.tail _ (List.Mem.tail _ (List.Mem.tail _ (List.Mem.tail _ (List.Mem.tail _ (List.Mem.tail _ (List.Mem.tail _ (List.Mem.head _)))))))) (z_aload_n X (x := A 31) rfl (List.Mem.head _) (z_getI X 31 rfl (c518_ok rfl) rfl rfl ?_))
      have b2003 := bi_23 I
      refine z_icmp_ge X (t := 196) rfl rfl ⟨by first | exact oq_fa4e5087 hi.2.2.2.2.2.2.1 | omega, by first | exact oq_64f2e926 hi.2.2.2.2.2.2.2 | omega⟩ (rng_to _) (fun g2004 => ?_) (fun g2004 => ?_)
      ·
        refine WS_pq [0, 1, 2, 3, 4, 5, 6, 7] (lv' := [(0, .ref (A 31)), (2, .int (Int32.ofInt yv)), (3, .int (Int32.ofInt ro)), (4, .int (Int32.ofInt wa)), (5, .int (Int32.ofInt cr)), (6, .int (Int32.ofInt ov)), (7, .int (Int32.ofInt cl)), (8, .int (Int32.ofInt c))]) rfl ?_
        exact kx _ cr c I F (by first | exact ⟨And.intro (hi.1.1) (hi.1.2), And.intro (hi.2.1.1) (hi.2.1.2), And.intro (hi.2.2.1.1) (hi.2.2.1.2), And.intro (hi.2.2.2.1.1) (hi.2.2.2.1.2), And.intro (hi.2.2.2.2.1.1) (hi.2.2.2.2.1.2), And.intro (hi.2.2.2.2.2.1.1) (hi.2.2.2.2.2.1.2), hi.2.2.2.2.2.2.1, hi.2.2.2.2.2.2.2⟩ | omega)
      ·
        refine z_aload_n X (x := A 31) rfl (List.Mem.head _) (s_getR X 31 rfl (c518_ok rfl) rfl rfl (z_load X (x := c) rfl (List.Mem.tail _ (List.Mem.tail _ (List.Mem.tail _ (List.Mem.tail _ (List.Mem.tail _ (List.Mem.tail _ (List.Mem.tail _ (List.Mem.head _)))))))) (z_ald X 36 rfl (c518_ok rfl) rfl (by first | exact hi.2.2.2.2.2.2.1 | omega) (show c < 66 by first | exact oq_256e4529 g2004 b2003.2 | omega) (cbig_ok rfl) ?_)))
        have b2005 := bc_30 I (show (c).toNat < 66 by first | exact oq_d7ff7873 g2004 b2003.2 | omega)
        refine z_load_n X (x := yv) rfl (List.Mem.tail _ (List.Mem.head _)) (z_icmp_eq X (t := 190) rfl rfl (rng_to _) ⟨by first | exact hi.1.1 | omega, by first | exact hi.1.2 | omega⟩ (fun g2006 => ?_) (fun g2006 => ?_))
        ·
          refine z_inc X (x := c) (lv' := [(8, .int (Int32.ofInt (c + 1))), (0, .ref (A 31)), (2, .int (Int32.ofInt yv)), (3, .int (Int32.ofInt ro)), (4, .int (Int32.ofInt wa)), (5, .int (Int32.ofInt cr)), (6, .int (Int32.ofInt ov)), (7, .int (Int32.ofInt cl))]) rfl (by decide) (List.Mem.tail _ (List.Mem.tail _ (List.Mem.tail _ (List.Mem.tail _ (List.Mem.tail _ (List.Mem.tail _ (List.Mem.tail _ (List.Mem.head _)))))))) (fun _ h => h) (z_goto X (t := 109) rfl rfl (WS_pq [1, 2, 3, 4, 5, 6, 7, 0] (lv' := [(0, .ref (A 31)), (2, .int (Int32.ofInt yv)), (3, .int (Int32.ofInt ro)), (4, .int (Int32.ofInt wa)), (5, .int (Int32.ofInt cr)), (6, .int (Int32.ofInt ov)), (7, .int (Int32.ofInt cl)), (8, .int (Int32.ofInt (c + 1)))]) rfl ?_))
          exact ih _ yv ro wa cr ov cl (c + 1) I F (by first | exact ⟨And.intro (hi.1.1) (hi.1.2), And.intro (hi.2.1.1) (hi.2.1.2), And.intro (hi.2.2.1.1) (hi.2.2.1.2), And.intro (hi.2.2.2.1.1) (hi.2.2.2.1.2), And.intro (hi.2.2.2.2.1.1) (hi.2.2.2.2.1.2), And.intro (hi.2.2.2.2.2.1.1) (hi.2.2.2.2.2.1.2), oq_54f49eb5 hi.2.2.2.2.2.2.1, oq_319a18a4 g2004 b2003.2⟩ | omega) (by first | exact qk_me hm (by decide) (oq_dd0e9829 g2004 b2003.2) | omega) kx
        ·
          refine z_aload_n X (x := A 31) rfl (List.Mem.head _) (s_getR X 31 rfl (c518_ok rfl) rfl rfl (z_load X (x := c) rfl (List.Mem.tail _ (List.Mem.tail _ (List.Mem.tail _ (List.Mem.tail _ (List.Mem.tail _ (List.Mem.tail _ (List.Mem.tail _ (List.Mem.head _)))))))) (z_ald X 37 rfl (c518_ok rfl) rfl (by first | exact hi.2.2.2.2.2.2.1 | omega) (show c < 66 by first | exact oq_256e4529 g2004 b2003.2 | omega) (cbig_ok rfl) ?_)))
          have b2007 := bc_31 I (show (c).toNat < 66 by first | exact oq_d7ff7873 g2004 b2003.2 | omega)
          refine z_load_n X (x := yv) rfl (List.Mem.tail _ (List.Mem.head _)) (z_icmp_eq X (t := 190) rfl rfl (rng_to _) ⟨by first | exact hi.1.1 | omega, by first | exact hi.1.2 | omega⟩ (fun g2008 => ?_) (fun g2008 => ?_))
          ·
            refine z_inc X (x := c) (lv' := [(8, .int (Int32.ofInt (c + 1))), (0, .ref (A 31)), (2, .int (Int32.ofInt yv)), (3, .int (Int32.ofInt ro)), (4, .int (Int32.ofInt wa)), (5, .int (Int32.ofInt cr)), (6, .int (Int32.ofInt ov)), (7, .int (Int32.ofInt cl))]) rfl (by decide) (List.Mem.tail _ (List.Mem.tail _ (List.Mem.tail _ (List.Mem.tail _ (List.Mem.tail _ (List.Mem.tail _ (List.Mem.tail _ (List.Mem.head _)))))))) (fun _ h => h) (z_goto X (t := 109) rfl rfl (WS_pq [1, 2, 3, 4, 5, 6, 7, 0] (lv' := [(0, .ref (A 31)), (2, .int (Int32.ofInt yv)), (3, .int (Int32.ofInt ro)), (4, .int (Int32.ofInt wa)), (5, .int (Int32.ofInt cr)), (6, .int (Int32.ofInt ov)), (7, .int (Int32.ofInt cl)), (8, .int (Int32.ofInt (c + 1)))]) rfl ?_))
            exact ih _ yv ro wa cr ov cl (c + 1) I F (by first | exact ⟨And.intro (hi.1.1) (hi.1.2), And.intro (hi.2.1.1) (hi.2.1.2), And.intro (hi.2.2.1.1) (hi.2.2.1.2), And.intro (hi.2.2.2.1.1) (hi.2.2.2.1.2), And.intro (hi.2.2.2.2.1.1) (hi.2.2.2.2.1.2), And.intro (hi.2.2.2.2.2.1.1) (hi.2.2.2.2.2.1.2), oq_54f49eb5 hi.2.2.2.2.2.2.1, oq_319a18a4 g2004 b2003.2⟩ | omega) (by first | exact qk_me hm (by decide) (oq_dd0e9829 g2004 b2003.2) | omega) kx
          ·
            refine z_load X (x := cr) rfl (List.Mem.tail _ (List.Mem.tail _ (List.Mem.tail _ (List.Mem.tail _ (List.Mem.head _))))) (z_aload_n X (x := A 31) rfl (List.Mem.head _) (s_getR X 31 rfl (c518_ok rfl) rfl rfl (z_load X (x := c) rfl (List.Mem.tail _ (List.Mem.tail _ (List.Mem.tail _ (List.Mem.tail _ (List.Mem.tail _ (List.Mem.tail _ (List.Mem.tail _ (List.Mem.head _)))))))) (z_ald X 38 rfl (c518_ok rfl) rfl (by first | exact hi.2.2.2.2.2.2.1 | omega) (show c < 66 by first | exact oq_256e4529 g2004 b2003.2 | omega) (cbig_ok rfl) ?_))))
            have b2009 := bc_32 I (show (c).toNat < 66 by first | exact oq_d7ff7873 g2004 b2003.2 | omega)
            refine z_aload_n X (x := A 31) rfl (List.Mem.head _) (s_getR X 31 rfl (c518_ok rfl) rfl rfl (s_getR X 3 rfl (c518_ok rfl) rfl rfl (z_load_n X (x := ro) rfl (List.Mem.tail _ (List.Mem.tail _ (List.Mem.head _))) (z_aload_n X (x := A 31) rfl (List.Mem.head _) (s_getR X 31 rfl (c518_ok rfl) rfl rfl (z_load X (x := c) rfl (List.Mem.tail _ (List.Mem.tail _ (List.Mem.tail _ (List.Mem.tail _ (List.Mem.tail _ (List.Mem.tail _ (List.Mem.tail _ (List.Mem.head _)))))))) (z_ald X 36 rfl (c518_ok rfl) rfl (by first | exact hi.2.2.2.2.2.2.1 | omega) (show c < 66 by first | exact oq_256e4529 g2004 b2003.2 | omega) (cbig_ok rfl) ?_)))))))
            have b2010 := bc_30 I (show (c).toNat < 66 by first | exact oq_d7ff7873 g2004 b2003.2 | omega)
            refine z_add X rfl (z_ald X 14 rfl (c518_ok rfl) rfl (by first | exact oq_dd29f52d hi.2.1.1 b2010.1 | omega) (show (ro + (iC t 30 (c).toNat)) < 288 by first | exact oq_f94a0088 hi.2.1.2 b2010.2 | omega) (cbig_ok rfl) ?_)
            have b2011 := bc_11 I (show ((ro + (iC t 30 (c).toNat))).toNat < 288 by first | exact oq_3d7ae1dd hi.2.1.2 b2010.2 | omega)
            refine z_aload_n X (x := A 31) rfl (List.Mem.head _) (s_getR X 31 rfl (c518_ok rfl) rfl rfl (s_getR X 3 rfl (c518_ok rfl) rfl rfl (z_load_n X (x := ro) rfl (List.Mem.tail _ (List.Mem.tail _ (List.Mem.head _))) (z_aload_n X (x := A 31) rfl (List.Mem.head _) (s_getR X 31 rfl (c518_ok rfl) rfl rfl (z_load X (x := c) rfl (List.Mem.tail _ (List.Mem.tail _ (List.Mem.tail _ (List.Mem.tail _ (List.Mem.tail _ (List.Mem.tail _ (List.Mem.tail _ (List.Mem.head _)))))))) (z_ald X 37 rfl (c518_ok rfl) rfl (by first | exact hi.2.2.2.2.2.2.1 | omega) (show c < 66 by first | exact oq_256e4529 g2004 b2003.2 | omega) (cbig_ok rfl) ?_)))))))
            have b2012 := bc_31 I (show (c).toNat < 66 by first | exact oq_d7ff7873 g2004 b2003.2 | omega)
            refine z_add X rfl (z_ald X 14 rfl (c518_ok rfl) rfl (by first | exact oq_dd29f52d hi.2.1.1 b2012.1 | omega) (show (ro + (iC t 31 (c).toNat)) < 288 by first | exact oq_f94a0088 hi.2.1.2 b2012.2 | omega) (cbig_ok rfl) ?_)
            have b2013 := bc_11 I (show ((ro + (iC t 31 (c).toNat))).toNat < 288 by first | exact oq_3d7ae1dd hi.2.1.2 b2012.2 | omega)
            refine z_min X rfl (rng_to _) (rng_to _) (by rw [E.2.2.2]; decide) (by rw [E.2.2.2]; exact Nat.le_of_ble_eq_true rfl) (Nat.zero_le _) (Nat.zero_le _) (fun e2014 he2014 => ?_)
            refine z_mul X rfl (z_any (fun y2015 hy2015 => ?_))
            refine z_add X rfl (z_any (fun y2016 hy2016 => ?_))
            refine z_store X (lv' := [(5, .int (Int32.ofInt y2016)), (0, .ref (A 31)), (2, .int (Int32.ofInt yv)), (3, .int (Int32.ofInt ro)), (4, .int (Int32.ofInt wa)), (6, .int (Int32.ofInt ov)), (7, .int (Int32.ofInt cl)), (8, .int (Int32.ofInt c))]) rfl (by decide) (fun _ h => h) (z_inc X (x := c) (lv' := [(8, .int (Int32.ofInt (c + 1))), (5, .int (Int32.ofInt y2016)), (0, .ref (A 31)), (2, .int (Int32.ofInt yv)), (3, .int (Int32.ofInt ro)), (4, .int (Int32.ofInt wa)), (6, .int (Int32.ofInt ov)), (7, .int (Int32.ofInt cl))]) rfl (by decide) (List.Mem.tail _ (List.Mem.tail _ (List.Mem.tail _ (List.Mem.tail _ (List.Mem.tail _ (List.Mem.tail _ (List.Mem.tail _ (List.Mem.head _)))))))) (fun _ h => h) (z_goto X (t := 109) rfl rfl (WS_pq [2, 3, 4, 5, 1, 6, 7, 0] (lv' := [(0, .ref (A 31)), (2, .int (Int32.ofInt yv)), (3, .int (Int32.ofInt ro)), (4, .int (Int32.ofInt wa)), (5, .int (Int32.ofInt y2016)), (6, .int (Int32.ofInt ov)), (7, .int (Int32.ofInt cl)), (8, .int (Int32.ofInt (c + 1)))]) rfl ?_)))
            exact ih _ yv ro wa y2016 ov cl (c + 1) I F (by first | exact ⟨And.intro (hi.1.1) (hi.1.2), And.intro (hi.2.1.1) (hi.2.1.2), And.intro (hi.2.2.1.1) (hi.2.2.1.2), And.intro (hy2016.1) (hy2016.2), And.intro (hi.2.2.2.2.1.1) (hi.2.2.2.2.1.2), And.intro (hi.2.2.2.2.2.1.1) (hi.2.2.2.2.2.1.2), oq_54f49eb5 hi.2.2.2.2.2.2.1, oq_319a18a4 g2004 b2003.2⟩ | omega) (by first | exact qk_me hm (by decide) (oq_dd0e9829 g2004 b2003.2) | omega) kx
  refine z_load_n X (x := x) rfl (List.Mem.tail _ (List.Mem.head _)) (z_bipush X rfl (z_mul X rfl (z_store_n X (lv' := [(3, .int (Int32.ofInt (x * 12))), (0, .ref (A 31)), (1, .int (Int32.ofInt x)), (2, .int (Int32.ofInt y))]) rfl (by decide) (fun _ h => h) (z_const X rfl (z_store X (lv' := [(4, .int (Int32.ofInt 0)), (3, .int (Int32.ofInt (x * 12))), (0, .ref (A 31)), (1, .int (Int32.ofInt x)), (2, .int (Int32.ofInt y))]) rfl (by decide) (fun _ h => h) (z_const X rfl (z_store X (lv' := [(5, .int (Int32.ofInt 0)), (4, .int (Int32.ofInt 0)), (3, .int (Int32.ofInt (x * 12))), (0, .ref (A 31)), (1, .int (Int32.ofInt x)), (2, .int (Int32.ofInt y))]) rfl (by decide) (fun _ h => h) (z_const X rfl (z_store X (lv' := [(6, .int (Int32.ofInt 0)), (5, .int (Int32.ofInt 0)), (4, .int (Int32.ofInt 0)), (3, .int (Int32.ofInt (x * 12))), (0, .ref (A 31)), (1, .int (Int32.ofInt x)), (2, .int (Int32.ofInt y))]) rfl (by decide) (fun _ h => h) (z_const X rfl (z_store X (lv' := [(7, .int (Int32.ofInt 0)), (6, .int (Int32.ofInt 0)), (5, .int (Int32.ofInt 0)), (4, .int (Int32.ofInt 0)), (3, .int (Int32.ofInt (x * 12))), (0, .ref (A 31)), (1, .int (Int32.ofInt x)), (2, .int (Int32.ofInt y))]) rfl (by decide) (fun _ h => h) ?_)))))))))))
  refine z_const X rfl (z_store X (lv' := [(8, .int (Int32.ofInt 0)), (7, .int (Int32.ofInt 0)), (6, .int (Int32.ofInt 0)), (5, .int (Int32.ofInt 0)), (4, .int (Int32.ofInt 0)), (3, .int (Int32.ofInt (x * 12))), (0, .ref (A 31)), (1, .int (Int32.ofInt x)), (2, .int (Int32.ofInt y))]) rfl (by decide) (fun _ h => h) (WS_pq [6, 8, 5, 4, 3, 2, 1, 0] (lv' := [(0, .ref (A 31)), (2, .int (Int32.ofInt y)), (3, .int (Int32.ofInt (x * 12))), (4, .int (Int32.ofInt 0)), (5, .int (Int32.ofInt 0)), (6, .int (Int32.ofInt 0)), (7, .int (Int32.ofInt 0)), (8, .int (Int32.ofInt 0))]) rfl (L20 ((12 - 0 : Int).toNat + 1) s y (x * 12) 0 0 0 0 0 I F (by first | exact ⟨And.intro (p1.1) (p1.2), And.intro (oq_6b8c39bb p0.1) (oq_70eefe4f p0.2), And.intro (by decide) (by decide), And.intro (by decide) (by decide), And.intro (by decide) (by decide), And.intro (by decide) (by decide), by decide, by decide⟩ | omega) (Nat.lt_succ_self _) ?_)))
  intro s3 x4 x5 x6 x7 x8 Is3 Fs3 hs3
  have b9 := bi_22 Is3
  have b10 := bi_23 Is3
  refine z_const X rfl (z_store X (lv' := [(8, .int (Int32.ofInt 0)), (0, .ref (A 31)), (2, .int (Int32.ofInt y)), (3, .int (Int32.ofInt (x * 12))), (4, .int (Int32.ofInt x4)), (5, .int (Int32.ofInt x5)), (6, .int (Int32.ofInt x6)), (7, .int (Int32.ofInt x7))]) rfl (by decide) (fun _ h => h) (WS_pq [1, 2, 3, 4, 5, 6, 7, 0] (lv' := [(0, .ref (A 31)), (2, .int (Int32.ofInt y)), (3, .int (Int32.ofInt (x * 12))), (4, .int (Int32.ofInt x4)), (5, .int (Int32.ofInt x5)), (6, .int (Int32.ofInt x6)), (7, .int (Int32.ofInt x7)), (8, .int (Int32.ofInt 0))]) rfl (L109 ((66 - 0 : Int).toNat + 1) s3 y (x * 12) x4 x5 x6 x7 0 Is3 Fs3 (by first | exact ⟨And.intro (hs3.1.1) (hs3.1.2), And.intro (hs3.2.1.1) (hs3.2.1.2), And.intro (hs3.2.2.1.1) (hs3.2.2.1.2), And.intro (hs3.2.2.2.1.1) (hs3.2.2.2.1.2), And.intro (hs3.2.2.2.2.1.1) (hs3.2.2.2.2.1.2), And.intro (hs3.2.2.2.2.2.1.1) (hs3.2.2.2.2.2.1.2), by decide, by decide⟩ | omega) (Nat.lt_succ_self _) ?_)))
  intro s11 x12 x13 Is11 Fs11 hs11
  have b14 := bi_22 Is11
  have b15 := bi_23 Is11
  refine z_aload_n X (x := A 31) rfl (List.Mem.head _) (s_getR X 31 rfl (c518_ok rfl) rfl rfl (z_const X rfl (z_load X (x := x4) rfl (List.Mem.tail _ (List.Mem.tail _ (List.Mem.tail _ (List.Mem.head _)))) (z_ast X 39 rfl (c518_ok rfl) rfl (by decide) (show 0 < 7 by decide) (cbig_ok rfl) (wd_gen (fun s16 hs16 => ?_))))))
  have Is16 : Bd s16 := eqB hs16 (bd_C Is11 (show ((-2147483648) : Int) ≤ x4 ∧ x4 ≤ 2147483647 by first | exact ⟨hs11.2.2.1.1, hs11.2.2.1.2⟩ | omega) ⟨by first | exact hs11.2.2.1.1 | omega, by first | exact hs11.2.2.1.2 | omega⟩)
  have Fs16 := eqF hs16 (fm_C Fs11 (inl_ok (a := 33) rfl))
  have ws16_22 : iI s16 22 = iI s11 22 := eqI hs16 rfl
  have ws16_23 : iI s16 23 = iI s11 23 := eqI hs16 rfl
  refine z_aload_n X (x := A 31) rfl (List.Mem.head _) (s_getR X 31 rfl (c518_ok rfl) rfl rfl (z_const X rfl (z_load X (x := x12) rfl (List.Mem.tail _ (List.Mem.tail _ (List.Mem.tail _ (List.Mem.tail _ (List.Mem.head _))))) (z_ast X 39 rfl (c518_ok rfl) rfl (by decide) (show 1 < 7 by decide) (cbig_ok rfl) (wd_gen (fun s17 hs17 => ?_))))))
  have Is17 : Bd s17 := eqB hs17 (bd_C Is16 (show ((-2147483648) : Int) ≤ x12 ∧ x12 ≤ 2147483647 by first | exact ⟨hs11.2.2.2.1.1, hs11.2.2.2.1.2⟩ | omega) ⟨by first | exact hs11.2.2.2.1.1 | omega, by first | exact hs11.2.2.2.1.2 | omega⟩)
  have Fs17 := eqF hs17 (fm_C Fs16 (inl_ok (a := 33) rfl))
  have ws17_22 : iI s17 22 = iI s16 22 := eqI hs17 rfl
  have ws17_23 : iI s17 23 = iI s16 23 := eqI hs17 rfl
  refine z_aload_n X (x := A 31) rfl (List.Mem.head _) (s_getR X 31 rfl (c518_ok rfl) rfl rfl (z_const X rfl (z_load X (x := x6) rfl (List.Mem.tail _ (List.Mem.tail _ (List.Mem.tail _ (List.Mem.tail _ (List.Mem.tail _ (List.Mem.head _)))))) (z_ast X 39 rfl (c518_ok rfl) rfl (by decide) (show 2 < 7 by decide) (cbig_ok rfl) (wd_gen (fun s18 hs18 => ?_))))))
  have Is18 : Bd s18 := eqB hs18 (bd_C Is17 (show ((-2147483648) : Int) ≤ x6 ∧ x6 ≤ 2147483647 by first | exact ⟨hs11.2.2.2.2.1.1, hs11.2.2.2.2.1.2⟩ | omega) ⟨by first | exact hs11.2.2.2.2.1.1 | omega, by first | exact hs11.2.2.2.2.1.2 | omega⟩)
  have Fs18 := eqF hs18 (fm_C Fs17 (inl_ok (a := 33) rfl))
  have ws18_22 : iI s18 22 = iI s17 22 := eqI hs18 rfl
  have ws18_23 : iI s18 23 = iI s17 23 := eqI hs18 rfl
  refine z_aload_n X (x := A 31) rfl (List.Mem.head _) (s_getR X 31 rfl (c518_ok rfl) rfl rfl (z_const X rfl (z_load X (x := x7) rfl (List.Mem.tail _ (List.Mem.tail _ (List.Mem.tail _ (List.Mem.tail _ (List.Mem.tail _ (List.Mem.tail _ (List.Mem.head _))))))) (z_ast X 39 rfl (c518_ok rfl) rfl (by decide) (show 3 < 7 by decide) (cbig_ok rfl) (wd_gen (fun s19 hs19 => ?_))))))
  have Is19 : Bd s19 := eqB hs19 (bd_C Is18 (show ((-2147483648) : Int) ≤ x7 ∧ x7 ≤ 2147483647 by first | exact ⟨hs11.2.2.2.2.2.1.1, hs11.2.2.2.2.2.1.2⟩ | omega) ⟨by first | exact hs11.2.2.2.2.2.1.1 | omega, by first | exact hs11.2.2.2.2.2.1.2 | omega⟩)
  have Fs19 := eqF hs19 (fm_C Fs18 (inl_ok (a := 33) rfl))
  have ws19_22 : iI s19 22 = iI s18 22 := eqI hs19 rfl
  have ws19_23 : iI s19 23 = iI s18 23 := eqI hs19 rfl
  exact w_vret X.1 q hRt (ax_d X (show cdA 3 228 = some (.return_, 1, 0, 0, 0) from rfl)) (Nat.zero_le _) (Nat.zero_le _) ⟨_, rfl, Is19, Fs19, rfl, trivial⟩
set_option maxRecDepth 4000 in
theorem c7_work_31 (G : GX l s0 D tys a0 dT) (I : Bd s) {x : Int} (p0 : -1 ≤ x ∧ x ≤ 7) : CT l s0 D A dT 84 (rmN 84) [.ref (A 19), .int (Int32.ofInt x), .ref (A 39)] s (fun o t => Bd t ∧ Fm [] [20] s t ∧ ∃ e, o = .inl (some (.int (Int32.ofInt e))) ∧ rng e ∧ (True)) := by
  refine ct_ofX G (by decide) (Nat.le_of_ble_eq_true rfl) (fun k X E ET hRt hXt q => ?_)
  show WS k 0 [(0, .ref (A 19)), (1, .int (Int32.ofInt x)), (2, .ref (A 39))] [] _ 0 0
  have F : Fm [] [20] s s := fm_rf _ _ s
  have L28 : ∀ (n : Nat) (t : PS) (xv dp c : Int), Bd t → Fm [] [20] s t → ((0 ≤ xv ∧ xv ≤ 7) ∧ (0 ≤ dp ∧ dp ≤ 200) ∧ 0 ≤ c ∧ c ≤ 200) → (200 - c : Int).toNat < n → (∀ (t' : PS) (dp' c' : Int), Bd t' → Fm [] [20] s t' → ((0 ≤ xv ∧ xv ≤ 7) ∧ (0 ≤ dp' ∧ dp' ≤ 200) ∧ 0 ≤ c' ∧ c' ≤ 200) → WS k 163 [(0, .ref (A 19)), (2, .ref (A 39)), (1, .int (Int32.ofInt xv)), (3, .int (Int32.ofInt dp')), (4, .int (Int32.ofInt c'))] [] (Wd A dT t') 0 0) → WS k 28 [(0, .ref (A 19)), (2, .ref (A 39)), (1, .int (Int32.ofInt xv)), (3, .int (Int32.ofInt dp)), (4, .int (Int32.ofInt c))] [] (Wd A dT t) 0 0 := by
    intro n
    induction n with
    | zero =>
      intro t xv dp c I F hi hm kx
      exact absurd hm (Nat.not_lt_zero _)
    | succ n ih =>
      intro t xv dp c I F hi hm kx
      refine z_load X (x := c) rfl (List.Mem.tail _ (List.Mem.tail _ (List.Mem.tail _ (List.Mem.tail _ (List.Mem.head _))))) (z_aload_n X (x := A 19) rfl (List.Mem.head _) (s_getR X 19 rfl (c518_ok rfl) rfl rfl (z_load_n X (x := xv) rfl (List.Mem.tail _ (List.Mem.tail _ (List.Mem.head _))) (z_ald X 21 rfl (c518_ok rfl) rfl (by first | exact hi.1.1 | omega) (show xv < 8 by first | exact oq_aaea290e hi.1.2 | omega) (cbig_ok rfl) ?_))))
      have b1001 := bc_17 I (show (xv).toNat < 8 by first | exact oq_c19a3aae hi.1.2 | omega)
      refine z_icmp_ge X (t := 163) rfl rfl ⟨by first | exact oq_fa4e5087 hi.2.2.1 | omega, by first | exact oq_52af2b96 hi.2.2.2 | omega⟩ (rng_to _) (fun g1002 => ?_) (fun g1002 => ?_)
      ·
        refine WS_pq [0, 1, 2, 3, 4] (lv' := [(0, .ref (A 19)), (2, .ref (A 39)), (1, .int (Int32.ofInt xv)), (3, .int (Int32.ofInt dp)), (4, .int (Int32.ofInt c))]) rfl ?_
        exact kx _ dp c I F (by first | exact ⟨And.intro (hi.1.1) (hi.1.2), And.intro (hi.2.1.1) (hi.2.1.2), hi.2.2.1, hi.2.2.2⟩ | omega)
      ·
        refine z_aload_n X (x := A 19) rfl (List.Mem.head _) (s_getR X 19 rfl (c518_ok rfl) rfl rfl (z_load X (x := c) rfl (List.Mem.tail _ (List.Mem.tail _ (List.Mem.tail _ (List.Mem.tail _ (List.Mem.head _))))) (z_ald X 20 rfl (c518_ok rfl) rfl (by first | exact hi.2.2.1 | omega) (show c < 200 by first | exact oq_6fca3d72 g1002 b1001.2 | omega) (cbig_ok rfl) ?_)))
        have b1003 := bc_16 I (show (c).toNat < 200 by first | exact oq_b70289d5 g1002 b1001.2 | omega)
        refine z_store X (lv' := [(5, .int (Int32.ofInt (iC t 16 (c).toNat))), (0, .ref (A 19)), (2, .ref (A 39)), (1, .int (Int32.ofInt xv)), (3, .int (Int32.ofInt dp)), (4, .int (Int32.ofInt c))]) rfl (by decide) (fun _ h => h) (z_load X (x := (iC t 16 (c).toNat)) rfl (List.Mem.head _) (z_bipush X rfl (z_icmp_le X (t := 90) rfl rfl (rng_to _) (by decide) (fun g1004 => ?_) (fun g1004 => ?_))))
        ·
          refine z_load X (x := (iC t 16 (c).toNat)) rfl (List.Mem.head _) (z_bipush X rfl (z_icmp_ne X (t := 122) rfl rfl (rng_to _) (by decide) (fun g1005 => ?_) (fun g1005 => ?_)))
          ·
            refine z_load_n X (x := dp) rfl (List.Mem.tail _ (List.Mem.tail _ (List.Mem.tail _ (List.Mem.tail _ (List.Mem.head _))))) (z_const X rfl (z_icmp_le X (t := 157) rfl rfl ⟨by first | exact oq_fa4e5087 hi.2.1.1 | omega, by first | exact oq_52af2b96 hi.2.1.2 | omega⟩ (by decide) (fun g1006 => ?_) (fun g1006 => ?_)))
            ·
              refine z_inc X (x := c) (lv' := [(4, .int (Int32.ofInt (c + 1))), (5, .int (Int32.ofInt (iC t 16 (c).toNat))), (0, .ref (A 19)), (2, .ref (A 39)), (1, .int (Int32.ofInt xv)), (3, .int (Int32.ofInt dp))]) rfl (by decide) (List.Mem.tail _ (List.Mem.tail _ (List.Mem.tail _ (List.Mem.tail _ (List.Mem.tail _ (List.Mem.head _)))))) (fun _ h => h) (z_goto X (t := 28) rfl rfl (WS_pq [2, 3, 4, 5, 0] (lv' := [(0, .ref (A 19)), (2, .ref (A 39)), (1, .int (Int32.ofInt xv)), (3, .int (Int32.ofInt dp)), (4, .int (Int32.ofInt (c + 1)))]) rfl ?_))
              exact ih _ xv dp (c + 1) I F (by first | exact ⟨And.intro (hi.1.1) (hi.1.2), And.intro (hi.2.1.1) (hi.2.1.2), oq_54f49eb5 hi.2.2.1, oq_228270fa g1002 b1001.2⟩ | omega) (by first | exact qk_me hm (by decide) (oq_b0a4f3e2 g1002 b1001.2) | omega) kx
            ·
              refine z_inc X (x := dp) (lv' := [(3, .int (Int32.ofInt (dp + (-1)))), (5, .int (Int32.ofInt (iC t 16 (c).toNat))), (0, .ref (A 19)), (2, .ref (A 39)), (1, .int (Int32.ofInt xv)), (4, .int (Int32.ofInt c))]) rfl (by decide) (List.Mem.tail _ (List.Mem.tail _ (List.Mem.tail _ (List.Mem.tail _ (List.Mem.head _))))) (fun _ h => h) (z_aload_n X (x := A 19) rfl (List.Mem.tail _ (List.Mem.tail _ (List.Mem.head _))) (s_getR X 19 rfl (c518_ok rfl) rfl rfl (z_load_n X (x := (dp + (-1))) rfl (List.Mem.head _) (z_const X rfl (z_sub X rfl (z_load X (x := (iC t 16 (c).toNat)) rfl (List.Mem.tail _ (List.Mem.head _)) (z_aload_n X (x := A 19) rfl (List.Mem.tail _ (List.Mem.tail _ (List.Mem.head _))) (s_getR X 19 rfl (c518_ok rfl) rfl rfl (z_load_n X (x := (dp + (-1))) rfl (List.Mem.head _) (z_const X rfl (z_sub X rfl ?_)))))))))))
              refine z_ald X 24 rfl (c518_ok rfl) rfl (by first | exact oq_d588e9be g1006 | omega) (show ((dp + (-1)) - 1) < 200 by first | exact oq_f9b4958f hi.2.1.2 | omega) (cbig_ok rfl) ?_
              have b1007 := bc_20 I (show (((dp + (-1)) - 1)).toNat < 200 by first | exact oq_ab8c951f hi.2.1.2 | omega)
              refine z_aload_n X (x := A 19) rfl (List.Mem.tail _ (List.Mem.tail _ (List.Mem.head _))) (s_getR X 19 rfl (c518_ok rfl) rfl rfl (z_load_n X (x := (dp + (-1))) rfl (List.Mem.head _) (z_ald X 24 rfl (c518_ok rfl) rfl (by first | exact oq_6c14892a g1006 | omega) (show (dp + (-1)) < 200 by first | exact oq_2dcece94 hi.2.1.2 | omega) (cbig_ok rfl) ?_)))
              have b1008 := bc_20 I (show ((dp + (-1))).toNat < 200 by first | exact oq_323b4624 hi.2.1.2 | omega)
              refine z_callS X (rm := rmN 85) (As := [.int (Int32.ofInt (iC t 16 (c).toNat)), .int (Int32.ofInt (iC t 20 (((dp + (-1)) - 1)).toNat)), .int (Int32.ofInt (iC t 20 ((dp + (-1))).toNat))]) (st := [.int (Int32.ofInt ((dp + (-1)) - 1)), .ref (A 24)]) rfl rfl (by rw [E.1, E.2.1, E.2.2.1]; exact c7_joined G I (by first | exact ⟨b1003.1, b1003.2⟩ | omega) (by first | exact ⟨b1007.1, b1007.2⟩ | omega) (by first | exact ⟨b1008.1, b1008.2⟩ | omega)) ⟨by rw [E.2.2.2]; exact (show (rmN 85).frames + 1 ≤ (rmN 84).frames by decide), by rw [E.2.2.2]; exact (show 8 + (mNL (miB 85) + 11) + (rmN 85).locals ≤ (rmN 84).locals by decide), by rw [E.2.2.2]; exact (show 0 + (rmN 85).cells ≤ (rmN 84).cells by decide), by rw [E.2.2.2]; exact (show 0 + (rmN 85).slots ≤ (rmN 84).slots by decide)⟩ (Nat.le_of_ble_eq_true rfl) (fun vv s1009 hq => ?_) (fun ee s1009 hq => ?_)
              rotate_left
              · obtain ⟨rfl, e1010, hv, hrs1009, hps1009⟩ := hq; cases hv
              obtain ⟨rfl, e1010, hv, hrs1009, hps1009⟩ := hq
              cases hv
              show WS k 156 [(3, .int (Int32.ofInt (dp + (-1)))), (5, .int (Int32.ofInt (iC t 16 (c).toNat))), (0, .ref (A 19)), (2, .ref (A 39)), (1, .int (Int32.ofInt xv)), (4, .int (Int32.ofInt c))] [.int (Int32.ofInt e1010), .int (Int32.ofInt ((dp + (-1)) - 1)), .ref (A 24)] (Wd A dT t) 0 0
              refine z_ast X 24 rfl (c518_ok rfl) rfl (by first | exact oq_d588e9be g1006 | omega) (show ((dp + (-1)) - 1) < 200 by first | exact oq_f9b4958f hi.2.1.2 | omega) (cbig_ok rfl) (wd_gen (fun s1011 hs1011 => ?_))
              have Is1011 : Bd s1011 := eqB hs1011 (bd_C I (show ((-2147483648) : Int) ≤ e1010 ∧ e1010 ≤ 2147483647 by first | exact ⟨hps1009.1, hps1009.2⟩ | omega) hrs1009)
              have Fs1011 := eqF hs1011 (fm_C F (inl_ok (a := 20) rfl))
              refine z_inc X (x := c) (lv' := [(4, .int (Int32.ofInt (c + 1))), (3, .int (Int32.ofInt (dp + (-1)))), (5, .int (Int32.ofInt (iC t 16 (c).toNat))), (0, .ref (A 19)), (2, .ref (A 39)), (1, .int (Int32.ofInt xv))]) rfl (by decide) (List.Mem.tail _ (List.Mem.tail _ (List.Mem.tail _ (List.Mem.tail _ (List.Mem.tail _ (List.Mem.head _)))))) (fun _ h => h) (z_goto X (t := 28) rfl rfl (WS_pq [3, 4, 5, 1, 0] (lv' := [(0, .ref (A 19)), (2, .ref (A 39)), (1, .int (Int32.ofInt xv)), (3, .int (Int32.ofInt (dp + (-1)))), (4, .int (Int32.ofInt (c + 1)))]) rfl ?_))
              exact ih _ xv (dp + (-1)) (c + 1) Is1011 Fs1011 (by first | exact ⟨And.intro (hi.1.1) (hi.1.2), And.intro (oq_6c14892a g1006) (oq_af76c38b hi.2.1.2), oq_54f49eb5 hi.2.2.1, oq_228270fa g1002 b1001.2⟩ | omega) (by first | exact qk_me hm (by decide) (oq_b0a4f3e2 g1002 b1001.2) | omega) kx
          ·
            refine z_load_n X (x := dp) rfl (List.Mem.tail _ (List.Mem.tail _ (List.Mem.tail _ (List.Mem.tail _ (List.Mem.head _))))) (z_if_le X (t := 157) rfl rfl ⟨by first | exact oq_fa4e5087 hi.2.1.1 | omega, by first | exact oq_52af2b96 hi.2.1.2 | omega⟩ (fun g1012 => ?_) (fun g1012 => ?_))
            ·
              refine z_inc X (x := c) (lv' := [(4, .int (Int32.ofInt (c + 1))), (5, .int (Int32.ofInt (iC t 16 (c).toNat))), (0, .ref (A 19)), (2, .ref (A 39)), (1, .int (Int32.ofInt xv)), (3, .int (Int32.ofInt dp))]) rfl (by decide) (List.Mem.tail _ (List.Mem.tail _ (List.Mem.tail _ (List.Mem.tail _ (List.Mem.tail _ (List.Mem.head _)))))) (fun _ h => h) (z_goto X (t := 28) rfl rfl (WS_pq [2, 3, 4, 5, 0] (lv' := [(0, .ref (A 19)), (2, .ref (A 39)), (1, .int (Int32.ofInt xv)), (3, .int (Int32.ofInt dp)), (4, .int (Int32.ofInt (c + 1)))]) rfl ?_))
              exact ih _ xv dp (c + 1) I F (by first | exact ⟨And.intro (hi.1.1) (hi.1.2), And.intro (hi.2.1.1) (hi.2.1.2), oq_54f49eb5 hi.2.2.1, oq_228270fa g1002 b1001.2⟩ | omega) (by first | exact qk_me hm (by decide) (oq_b0a4f3e2 g1002 b1001.2) | omega) kx
            ·
              refine z_aload_n X (x := A 19) rfl (List.Mem.tail _ (List.Mem.head _)) (s_getR X 19 rfl (c518_ok rfl) rfl rfl (z_load_n X (x := dp) rfl (List.Mem.tail _ (List.Mem.tail _ (List.Mem.tail _ (List.Mem.tail _ (List.Mem.head _))))) (z_const X rfl (z_sub X rfl (z_const X rfl (z_aload_n X (x := A 19) rfl (List.Mem.tail _ (List.Mem.head _)) (s_getR X 19 rfl (c518_ok rfl) rfl rfl (z_load_n X (x := dp) rfl (List.Mem.tail _ (List.Mem.tail _ (List.Mem.tail _ (List.Mem.tail _ (List.Mem.head _))))) (z_const X rfl (z_sub X rfl (z_ald X 24 rfl (c518_ok rfl) rfl (by first | exact oq_a4f22177 g1012 | omega) (show (dp - 1) < 200 by first | exact oq_76ad2bb2 hi.2.1.2 | omega) (cbig_ok rfl) ?_)))))))))))
              have b1013 := bc_20 I (show ((dp - 1)).toNat < 200 by first | exact oq_a03494ec hi.2.1.2 | omega)
              refine z_sub X rfl (z_any (fun y1014 hy1014 => ?_))
              refine z_ast X 24 rfl (c518_ok rfl) rfl (by first | exact oq_a4f22177 g1012 | omega) (show (dp - 1) < 200 by first | exact oq_76ad2bb2 hi.2.1.2 | omega) (cbig_ok rfl) (wd_gen (fun s1015 hs1015 => ?_))
              have Is1015 : Bd s1015 := eqB hs1015 (bd_C I (show ((-2147483648) : Int) ≤ y1014 ∧ y1014 ≤ 2147483647 by first | exact ⟨hy1014.1, hy1014.2⟩ | omega) hy1014)
              have Fs1015 := eqF hs1015 (fm_C F (inl_ok (a := 20) rfl))
              refine z_goto X (t := 157) rfl rfl (z_inc X (x := c) (lv' := [(4, .int (Int32.ofInt (c + 1))), (5, .int (Int32.ofInt (iC t 16 (c).toNat))), (0, .ref (A 19)), (2, .ref (A 39)), (1, .int (Int32.ofInt xv)), (3, .int (Int32.ofInt dp))]) rfl (by decide) (List.Mem.tail _ (List.Mem.tail _ (List.Mem.tail _ (List.Mem.tail _ (List.Mem.tail _ (List.Mem.head _)))))) (fun _ h => h) (z_goto X (t := 28) rfl rfl (WS_pq [2, 3, 4, 5, 0] (lv' := [(0, .ref (A 19)), (2, .ref (A 39)), (1, .int (Int32.ofInt xv)), (3, .int (Int32.ofInt dp)), (4, .int (Int32.ofInt (c + 1)))]) rfl ?_)))
              exact ih _ xv dp (c + 1) Is1015 Fs1015 (by first | exact ⟨And.intro (hi.1.1) (hi.1.2), And.intro (hi.2.1.1) (hi.2.1.2), oq_54f49eb5 hi.2.2.1, oq_228270fa g1002 b1001.2⟩ | omega) (by first | exact qk_me hm (by decide) (oq_b0a4f3e2 g1002 b1001.2) | omega) kx
        ·
          refine z_load_n X (x := dp) rfl (List.Mem.tail _ (List.Mem.tail _ (List.Mem.tail _ (List.Mem.tail _ (List.Mem.head _))))) (z_sipush X rfl (z_icmp_ge X (t := 157) rfl rfl ⟨by first | exact oq_fa4e5087 hi.2.1.1 | omega, by first | exact oq_52af2b96 hi.2.1.2 | omega⟩ (by decide) (fun g1016 => ?_) (fun g1016 => ?_)))
          ·
            refine z_inc X (x := c) (lv' := [(4, .int (Int32.ofInt (c + 1))), (5, .int (Int32.ofInt (iC t 16 (c).toNat))), (0, .ref (A 19)), (2, .ref (A 39)), (1, .int (Int32.ofInt xv)), (3, .int (Int32.ofInt dp))]) rfl (by decide) (List.Mem.tail _ (List.Mem.tail _ (List.Mem.tail _ (List.Mem.tail _ (List.Mem.tail _ (List.Mem.head _)))))) (fun _ h => h) (z_goto X (t := 28) rfl rfl (WS_pq [2, 3, 4, 5, 0] (lv' := [(0, .ref (A 19)), (2, .ref (A 39)), (1, .int (Int32.ofInt xv)), (3, .int (Int32.ofInt dp)), (4, .int (Int32.ofInt (c + 1)))]) rfl ?_))
            exact ih _ xv dp (c + 1) I F (by first | exact ⟨And.intro (hi.1.1) (hi.1.2), And.intro (hi.2.1.1) (hi.2.1.2), oq_54f49eb5 hi.2.2.1, oq_228270fa g1002 b1001.2⟩ | omega) (by first | exact qk_me hm (by decide) (oq_b0a4f3e2 g1002 b1001.2) | omega) kx
          ·
            refine z_aload_n X (x := A 19) rfl (List.Mem.tail _ (List.Mem.head _)) (s_getR X 19 rfl (c518_ok rfl) rfl rfl (z_load_n X (x := dp) rfl (List.Mem.tail _ (List.Mem.tail _ (List.Mem.tail _ (List.Mem.tail _ (List.Mem.head _))))) (z_load X (x := (iC t 16 (c).toNat)) rfl (List.Mem.head _) ?_)))
            have N1017 : ∀ e1018 : Int, ((((iC t 16 (c).toNat) < 0) ∧ (((-2147483648) : Int) ≤ iC t 33 (((-1) - (iC t 16 (c).toNat))).toNat ∧ iC t 33 (((-1) - (iC t 16 (c).toNat))).toNat ≤ 2147483647) ∧ e1018 = (iC t 33 (((-1) - (iC t 16 (c).toNat))).toNat)) ∨ ((0 ≤ (iC t 16 (c).toNat)) ∧ e1018 = (iC t 16 (c).toNat))) → WS k 83 [(5, .int (Int32.ofInt (iC t 16 (c).toNat))), (0, .ref (A 19)), (2, .ref (A 39)), (1, .int (Int32.ofInt xv)), (3, .int (Int32.ofInt dp)), (4, .int (Int32.ofInt c))] [.int (Int32.ofInt e1018), .int (Int32.ofInt dp), .ref (A 24)] (Wd A dT t) 0 0 := by
              intro e1018 he1018
              refine z_ast X 24 rfl (c518_ok rfl) rfl (by first | exact hi.2.1.1 | omega) (show dp < 200 by first | exact g1016 | omega) (cbig_ok rfl) (wd_gen (fun s1019 hs1019 => ?_))
              have Is1019 : Bd s1019 := eqB hs1019 (bd_C I (show ((-2147483648) : Int) ≤ e1018 ∧ e1018 ≤ 2147483647 by first | exact ⟨oq_05aece2f he1018, oq_93cedf2b he1018 b1003.2⟩ | omega) ⟨by first | exact oq_05aece2f he1018 | omega, by first | exact oq_93cedf2b he1018 b1003.2 | omega⟩)
              have Fs1019 := eqF hs1019 (fm_C F (inl_ok (a := 20) rfl))
              refine z_inc X (x := dp) (lv' := [(3, .int (Int32.ofInt (dp + 1))), (5, .int (Int32.ofInt (iC t 16 (c).toNat))), (0, .ref (A 19)), (2, .ref (A 39)), (1, .int (Int32.ofInt xv)), (4, .int (Int32.ofInt c))]) rfl (by decide) (List.Mem.tail _ (List.Mem.tail _ (List.Mem.tail _ (List.Mem.tail _ (List.Mem.head _))))) (fun _ h => h) (z_goto X (t := 157) rfl rfl (z_inc X (x := c) (lv' := [(4, .int (Int32.ofInt (c + 1))), (3, .int (Int32.ofInt (dp + 1))), (5, .int (Int32.ofInt (iC t 16 (c).toNat))), (0, .ref (A 19)), (2, .ref (A 39)), (1, .int (Int32.ofInt xv))]) rfl (by decide) (List.Mem.tail _ (List.Mem.tail _ (List.Mem.tail _ (List.Mem.tail _ (List.Mem.tail _ (List.Mem.head _)))))) (fun _ h => h) (z_goto X (t := 28) rfl rfl (WS_pq [3, 4, 5, 1, 0] (lv' := [(0, .ref (A 19)), (2, .ref (A 39)), (1, .int (Int32.ofInt xv)), (3, .int (Int32.ofInt (dp + 1))), (4, .int (Int32.ofInt (c + 1)))]) rfl ?_))))
              exact ih _ xv (dp + 1) (c + 1) Is1019 Fs1019 (by first | exact ⟨And.intro (hi.1.1) (hi.1.2), And.intro (oq_54f49eb5 hi.2.1.1) (oq_0cb6ab8a g1016), oq_54f49eb5 hi.2.2.1, oq_228270fa g1002 b1001.2⟩ | omega) (by first | exact qk_me hm (by decide) (oq_b0a4f3e2 g1002 b1001.2) | omega) kx
            refine z_if_lt X (t := 77) rfl rfl (rng_to _) (fun g1020 => ?_) (fun g1020 => ?_)
            ·
              refine z_aload_n X (x := A 39) rfl (List.Mem.tail _ (List.Mem.tail _ (List.Mem.head _))) (z_const X rfl (z_load X (x := (iC t 16 (c).toNat)) rfl (List.Mem.head _) (z_sub X rfl (z_ald X 39 rfl (c518_ok rfl) rfl (by first | exact oq_c38d07c4 g1020 | omega) (show ((-1) - (iC t 16 (c).toNat)) < 7 by first | exact oq_a1f4cde5 g1004 | omega) (cbig_ok rfl) ?_))))
              have b1021 := bc_33 I (show (((-1) - (iC t 16 (c).toNat))).toNat < 7 by first | exact oq_91b916ba g1004 | omega)
              exact N1017 _ (Or.inl ⟨g1020, b1021, rfl⟩)
            ·
              exact z_load X (x := (iC t 16 (c).toNat)) rfl (List.Mem.head _) (z_goto X (t := 83) rfl rfl (N1017 _ (Or.inr (⟨g1020, rfl⟩))))
  refine z_load_n X (x := x) rfl (List.Mem.tail _ (List.Mem.head _)) (z_const X rfl (z_icmp_ne X (t := 19) rfl rfl ⟨by first | exact oq_97ee2c2a p0.1 | omega, by first | exact oq_0e78ca7d p0.2 | omega⟩ (by decide) (fun g1 => ?_) (fun g1 => ?_)))
  ·
    refine z_const X rfl (z_store_n X (lv' := [(3, .int (Int32.ofInt 0)), (0, .ref (A 19)), (1, .int (Int32.ofInt x)), (2, .ref (A 39))]) rfl (by decide) (fun _ h => h) (z_aload_n X (x := A 19) rfl (List.Mem.tail _ (List.Mem.head _)) (z_load_n X (x := x) rfl (List.Mem.tail _ (List.Mem.tail _ (List.Mem.head _))) (zcV_i0 X E 19 (As := [.int (Int32.ofInt x)]) (st := []) rfl rfl rfl rfl (c7_beginOf_19 G I (by first | exact ⟨oq_7a1025bf g1 p0.1, p0.2⟩ | omega)) rfl (Nat.le_of_ble_eq_true rfl) (fun s2 e3 Is2 Fs2 hrs2 hps2 => ?_)))))
    have Gs2 := fm_tq F Fs2 rfl rfl
    refine z_store X (lv' := [(4, .int (Int32.ofInt e3)), (3, .int (Int32.ofInt 0)), (0, .ref (A 19)), (1, .int (Int32.ofInt x)), (2, .ref (A 39))]) rfl (by decide) (fun _ h => h) (WS_pq [2, 4, 3, 1, 0] (lv' := [(0, .ref (A 19)), (2, .ref (A 39)), (1, .int (Int32.ofInt x)), (3, .int (Int32.ofInt 0)), (4, .int (Int32.ofInt e3))]) rfl (L28 ((200 - e3 : Int).toNat + 1) s2 x 0 e3 Is2 Gs2 (by first | exact ⟨oq_b629d6d6 g1 p0.2 p0.1, And.intro (by decide) (by decide), hps2.1, hps2.2⟩ | omega) (Nat.lt_succ_self _) ?_))
    intro s4 x5 x6 Is4 Fs4 hs4
    refine z_aload_n X (x := A 19) rfl (List.Mem.head _) (s_getR X 19 rfl (c518_ok rfl) rfl rfl (z_const X rfl (z_ald X 24 rfl (c518_ok rfl) rfl (by decide) (show 0 < 200 by decide) (cbig_ok rfl) ?_)))
    have b7 := bc_20 Is4 (show (0 : Int).toNat < 200 by first | exact oq_e7d7c2b9 | omega)
    exact w_iret X.1 q hRt rfl (ax_d X (show cdA 84 169 = some (.ireturn, 1, 0, 0, 0) from rfl)) (Nat.zero_le _) (Nat.zero_le _) ⟨_, rfl, Is4, Fs4, (iC s4 20 (0 : Int).toNat), rfl, (rng_to _), trivial⟩
  ·
    refine z_aload_n X (x := A 39) rfl (List.Mem.tail _ (List.Mem.tail _ (List.Mem.head _))) (z_const X rfl (z_ald X 39 rfl (c518_ok rfl) rfl (by decide) (show 0 < 7 by decide) (cbig_ok rfl) ?_))
    have b8 := bc_33 I (show (0 : Int).toNat < 7 by first | exact oq_e8ec3fa8 | omega)
    refine z_const X rfl (z_aload_n X (x := A 39) rfl (List.Mem.tail _ (List.Mem.tail _ (List.Mem.head _))) (z_const X rfl (z_ald X 39 rfl (c518_ok rfl) rfl (by decide) (show 1 < 7 by decide) (cbig_ok rfl) ?_)))
    have b9 := bc_33 I (show (1 : Int).toNat < 7 by first | exact oq_a32b659c | omega)
    refine z_mul X rfl (z_any (fun y10 hy10 => ?_))
    refine z_add X rfl (z_any (fun y11 hy11 => ?_))
    refine z_aload_n X (x := A 39) rfl (List.Mem.tail _ (List.Mem.tail _ (List.Mem.head _))) (z_const X rfl (z_ald X 39 rfl (c518_ok rfl) rfl (by decide) (show 2 < 7 by decide) (cbig_ok rfl) ?_))
    have b12 := bc_33 I (show (2 : Int).toNat < 7 by first | exact oq_62527c24 | omega)
    refine z_add X rfl (z_any (fun y13 hy13 => ?_))
    exact w_iret X.1 q hRt rfl (ax_d X (show cdA 84 18 = some (.ireturn, 1, 0, 0, 0) from rfl)) (Nat.zero_le _) (Nat.zero_le _) ⟨_, rfl, I, F, y13, rfl, hy13, trivial⟩
set_option maxRecDepth 4000 in
theorem c0_loadAt_31 (G : GX l s0 D tys a0 dT) (I : Bd s) {x y : Int} (p0 : 0 ≤ x ∧ x ≤ 23) (p1 : rng y) : CT l s0 D A dT 4 (rmN 4) [.ref (A 31), .int (Int32.ofInt x), .int (Int32.ofInt y)] s (fun o t => Bd t ∧ Fm [] [33, 20] s t ∧ ∃ e, o = .inl (some (.int (Int32.ofInt e))) ∧ rng e ∧ (True)) := by
  refine ct_ofX G (by decide) (Nat.le_of_ble_eq_true rfl) (fun k X E ET hRt hXt q => ?_)
  show WS k 0 [(0, .ref (A 31)), (1, .int (Int32.ofInt x)), (2, .int (Int32.ofInt y))] [] _ 0 0
  have F : Fm [] [33, 20] s s := fm_rf _ _ s
  refine z_aload_n X (x := A 31) rfl (List.Mem.head _) (z_load_n X (x := x) rfl (List.Mem.tail _ (List.Mem.head _)) (z_load_n X (x := y) rfl (List.Mem.tail _ (List.Mem.tail _ (List.Mem.head _))) (zcV_v0 X E 31 (As := [.int (Int32.ofInt x), .int (Int32.ofInt y)]) (st := []) rfl rfl rfl rfl (c0_hear_31 G I (by first | exact ⟨p0.1, p0.2⟩ | omega) (by first | exact ⟨p1.1, p1.2⟩ | omega)) rfl (Nat.le_of_ble_eq_true rfl) (fun s1 Is1 Fs1 hps1 => ?_))))
  have Gs1 := fm_tq F Fs1 rfl rfl
  refine z_aload_n X (x := A 31) rfl (List.Mem.head _) (s_getR X 31 rfl (c518_ok rfl) rfl rfl (z_aload_n X (x := A 31) rfl (List.Mem.head _) (s_getR X 31 rfl (c518_ok rfl) rfl rfl (z_getI X 19 rfl (c518_ok rfl) rfl rfl ?_))))
  have b3 := bi_13 Is1
  refine z_aload_n X (x := A 31) rfl (List.Mem.head _) (s_getR X 31 rfl (c518_ok rfl) rfl rfl (zcV_i0 X E 19 (As := [.int (Int32.ofInt (iI s1 13)), .ref (A 39)]) (st := []) rfl rfl rfl rfl (c7_work_31 G Is1 (by first | exact ⟨b3.1, b3.2⟩ | omega)) rfl (Nat.le_of_ble_eq_true rfl) (fun s4 e5 Is4 Fs4 hrs4 hps4 => ?_)))
  have Gs4 := fm_tq Gs1 Fs4 rfl rfl
  exact w_iret X.1 q hRt rfl (ax_d X (show cdA 4 24 = some (.ireturn, 1, 0, 0, 0) from rfl)) (Nat.zero_le _) (Nat.zero_le _) ⟨_, rfl, Is4, Gs4, e5, rfl, hrs4, trivial⟩
set_option maxRecDepth 4000 in
theorem c0_findPeak_31 (G : GX l s0 D tys a0 dT) (I : Bd s)  : CT l s0 D A dT 5 (rmN 5) [.ref (A 31)] s (fun o t => Bd t ∧ Fm [24] [33, 20] s t ∧ ∃ e, o = .inl (some (.int (Int32.ofInt e))) ∧ rng e ∧ (True)) := by
  refine ct_ofX G (by decide) (Nat.le_of_ble_eq_true rfl) (fun k X E ET hRt hXt q => ?_)
  show WS k 0 [(0, .ref (A 31))] [] _ 0 0
  have F : Fm [24] [33, 20] s s := fm_rf _ _ s
  have L14 : ∀ (n : Nat) (t : PS) (gr qq : Int), Bd t → Fm [24] [33, 20] s t → (rng gr ∧ 1 ≤ qq ∧ qq ≤ 24) → (24 - qq : Int).toNat < n → (∀ (t' : PS) (gr' qq' : Int), Bd t' → Fm [24] [33, 20] s t' → (rng gr' ∧ 1 ≤ qq' ∧ qq' ≤ 24) → WS k 58 [(0, .ref (A 31)), (1, .int (Int32.ofInt gr')), (2, .int (Int32.ofInt qq'))] [] (Wd A dT t') 0 0) → WS k 14 [(0, .ref (A 31)), (1, .int (Int32.ofInt gr)), (2, .int (Int32.ofInt qq))] [] (Wd A dT t) 0 0 := by
    intro n
    induction n with
    | zero =>
      intro t gr qq I F hi hm kx
      exact absurd hm (Nat.not_lt_zero _)
    | succ n ih =>
      intro t gr qq I F hi hm kx
      refine z_load_n X (x := qq) rfl (List.Mem.tail _ (List.Mem.tail _ (List.Mem.head _))) (z_bipush X rfl (z_icmp_ge X (t := 58) rfl rfl ⟨by first | exact oq_9462313e hi.2.1 | omega, by first | exact oq_5bcd337f hi.2.2 | omega⟩ (by decide) (fun g1001 => ?_) (fun g1001 => ?_)))
      ·
        refine WS_pq [0, 1, 2] (lv' := [(0, .ref (A 31)), (1, .int (Int32.ofInt gr)), (2, .int (Int32.ofInt qq))]) rfl ?_
        exact kx _ gr qq I F (by first | exact ⟨And.intro (hi.1.1) (hi.1.2), hi.2.1, hi.2.2⟩ | omega)
      ·
        refine z_aload_n X (x := A 31) rfl (List.Mem.head _) (s_getR X 31 rfl (c518_ok rfl) rfl rfl (s_getR X 3 rfl (c518_ok rfl) rfl rfl (z_load_n X (x := qq) rfl (List.Mem.tail _ (List.Mem.tail _ (List.Mem.head _))) (z_ald X 17 rfl (c518_ok rfl) rfl (by first | exact oq_2a6e3b50 hi.2.1 | omega) (show qq < 24 by first | exact g1001 | omega) (cbig_ok rfl) ?_))))
        have b1002 := bc_14 I (show (qq).toNat < 24 by first | exact oq_797efae6 g1001 | omega)
        refine z_load_n X (x := qq) rfl (List.Mem.tail _ (List.Mem.tail _ (List.Mem.head _))) (z_icmp_ne X (t := 52) rfl rfl (rng_to _) ⟨by first | exact oq_9462313e hi.2.1 | omega, by first | exact oq_1d70227b g1001 | omega⟩ (fun g1003 => ?_) (fun g1003 => ?_))
        ·
          refine z_inc X (x := qq) (lv' := [(2, .int (Int32.ofInt (qq + 1))), (0, .ref (A 31)), (1, .int (Int32.ofInt gr))]) rfl (by decide) (List.Mem.tail _ (List.Mem.tail _ (List.Mem.head _))) (fun _ h => h) (z_goto X (t := 14) rfl rfl (WS_pq [1, 2, 0] (lv' := [(0, .ref (A 31)), (1, .int (Int32.ofInt gr)), (2, .int (Int32.ofInt (qq + 1)))]) rfl ?_))
          exact ih _ gr (qq + 1) I F (by first | exact ⟨And.intro (hi.1.1) (hi.1.2), oq_1e1a2df6 hi.2.1, oq_cec7cb2e g1001⟩ | omega) (by first | exact qk_me hm (by decide) (oq_ffa8317e g1001) | omega) kx
        ·
          refine z_aload_n X (x := A 31) rfl (List.Mem.head _) (z_load_n X (x := qq) rfl (List.Mem.tail _ (List.Mem.tail _ (List.Mem.head _))) (z_const X rfl (zcV_i0 X E 31 (As := [.int (Int32.ofInt qq), .int (Int32.ofInt (-1))]) (st := []) rfl rfl rfl rfl (c0_loadAt_31 G I (by first | exact ⟨oq_2a6e3b50 hi.2.1, oq_c69fe266 g1001⟩ | omega) (by first | exact ⟨by decide, by decide⟩ | omega)) rfl (Nat.le_of_ble_eq_true rfl) (fun s1004 e1005 Is1004 Fs1004 hrs1004 hps1004 => ?_))))
          have Gs1004 := fm_tq F Fs1004 rfl rfl
          refine z_store_n X (lv' := [(3, .int (Int32.ofInt e1005)), (0, .ref (A 31)), (1, .int (Int32.ofInt gr)), (2, .int (Int32.ofInt qq))]) rfl (by decide) (fun _ h => h) (z_load_n X (x := e1005) rfl (List.Mem.head _) (z_load_n X (x := gr) rfl (List.Mem.tail _ (List.Mem.tail _ (List.Mem.head _))) (z_icmp_le X (t := 52) rfl rfl hrs1004 ⟨by first | exact hi.1.1 | omega, by first | exact hi.1.2 | omega⟩ (fun g1006 => ?_) (fun g1006 => ?_))))
          ·
            refine z_inc X (x := qq) (lv' := [(2, .int (Int32.ofInt (qq + 1))), (3, .int (Int32.ofInt e1005)), (0, .ref (A 31)), (1, .int (Int32.ofInt gr))]) rfl (by decide) (List.Mem.tail _ (List.Mem.tail _ (List.Mem.tail _ (List.Mem.head _)))) (fun _ h => h) (z_goto X (t := 14) rfl rfl (WS_pq [2, 3, 0] (lv' := [(0, .ref (A 31)), (1, .int (Int32.ofInt gr)), (2, .int (Int32.ofInt (qq + 1)))]) rfl ?_))
            exact ih _ gr (qq + 1) Is1004 Gs1004 (by first | exact ⟨And.intro (hi.1.1) (hi.1.2), oq_1e1a2df6 hi.2.1, oq_cec7cb2e g1001⟩ | omega) (by first | exact qk_me hm (by decide) (oq_ffa8317e g1001) | omega) kx
          ·
            refine z_load_n X (x := e1005) rfl (List.Mem.head _) (z_store_n X (lv' := [(1, .int (Int32.ofInt e1005)), (3, .int (Int32.ofInt e1005)), (0, .ref (A 31)), (2, .int (Int32.ofInt qq))]) rfl (by decide) (fun _ h => h) (z_aload_n X (x := A 31) rfl (List.Mem.tail _ (List.Mem.tail _ (List.Mem.head _))) (z_load_n X (x := qq) rfl (List.Mem.tail _ (List.Mem.tail _ (List.Mem.tail _ (List.Mem.head _)))) (s_putI X 31 rfl (c518_ok rfl) rfl rfl (by decide) rfl rfl rfl (wd_gen (fun s1007 hs1007 => ?_))))))
            have Is1007 : Bd s1007 := eqB hs1007 (bd_I Is1004 (show (0 : Int) ≤ qq ∧ qq ≤ 23 by first | exact ⟨oq_2a6e3b50 hi.2.1, oq_c69fe266 g1001⟩ | omega) ⟨by first | exact oq_9462313e hi.2.1 | omega, by first | exact oq_1d70227b g1001 | omega⟩)
            have Fs1007 := eqF hs1007 (fm_I Gs1004 (inl_ok (a := 24) rfl))
            have vs1007 : iI s1007 24 = qq := eqI hs1007 (iI_u ⟨by first | exact oq_9462313e hi.2.1 | omega, by first | exact oq_1d70227b g1001 | omega⟩)
            refine z_inc X (x := qq) (lv' := [(2, .int (Int32.ofInt (qq + 1))), (1, .int (Int32.ofInt e1005)), (3, .int (Int32.ofInt e1005)), (0, .ref (A 31))]) rfl (by decide) (List.Mem.tail _ (List.Mem.tail _ (List.Mem.tail _ (List.Mem.head _)))) (fun _ h => h) (z_goto X (t := 14) rfl rfl (WS_pq [3, 1, 0] (lv' := [(0, .ref (A 31)), (1, .int (Int32.ofInt e1005)), (2, .int (Int32.ofInt (qq + 1)))]) rfl ?_))
            exact ih _ e1005 (qq + 1) Is1007 Fs1007 (by first | exact ⟨by omega, oq_1e1a2df6 hi.2.1, oq_cec7cb2e g1001⟩ | omega) (by first | exact qk_me hm (by decide) (oq_ffa8317e g1001) | omega) kx
  refine z_aload_n X (x := A 31) rfl (List.Mem.head _) (z_const X rfl (z_const X rfl (zcV_i0 X E 31 (As := [.int (Int32.ofInt 0), .int (Int32.ofInt (-1))]) (st := []) rfl rfl rfl rfl (c0_loadAt_31 G I (by first | exact ⟨by decide, by decide⟩ | omega) (by first | exact ⟨by decide, by decide⟩ | omega)) rfl (Nat.le_of_ble_eq_true rfl) (fun s1 e2 Is1 Fs1 hrs1 hps1 => ?_))))
  have Gs1 := fm_tq F Fs1 rfl rfl
  refine z_store_n X (lv' := [(1, .int (Int32.ofInt e2)), (0, .ref (A 31))]) rfl (by decide) (fun _ h => h) (z_aload_n X (x := A 31) rfl (List.Mem.tail _ (List.Mem.head _)) (z_const X rfl (s_putI X 31 rfl (c518_ok rfl) rfl rfl (by decide) rfl rfl rfl (wd_gen (fun s3 hs3 => ?_)))))
  have Is3 : Bd s3 := eqB hs3 (bd_I Is1 (show (0 : Int) ≤ 0 ∧ 0 ≤ 23 by first | exact ⟨by decide, by decide⟩ | omega) (by decide))
  have Fs3 := eqF hs3 (fm_I Gs1 (inl_ok (a := 24) rfl))
  have vs3 : iI s3 24 = 0 := eqI hs3 (iI_u (by decide))
  refine z_const X rfl (z_store_n X (lv' := [(2, .int (Int32.ofInt 1)), (1, .int (Int32.ofInt e2)), (0, .ref (A 31))]) rfl (by decide) (fun _ h => h) (WS_pq [2, 1, 0] (lv' := [(0, .ref (A 31)), (1, .int (Int32.ofInt e2)), (2, .int (Int32.ofInt 1))]) rfl (L14 ((24 - 1 : Int).toNat + 1) s3 e2 1 Is3 Fs3 (by first | exact ⟨by omega, by decide, by decide⟩ | omega) (Nat.lt_succ_self _) ?_)))
  intro s4 x5 x6 Is4 Fs4 hs4
  refine z_load_n X (x := x5) rfl (List.Mem.tail _ (List.Mem.head _)) ?_
  exact w_iret X.1 q hRt rfl (ax_d X (show cdA 5 59 = some (.ireturn, 1, 0, 0, 0) from rfl)) (Nat.zero_le _) (Nat.zero_le _) ⟨_, rfl, Is4, Fs4, x5, rfl, ⟨by first | exact hs4.1.1 | omega, by first | exact hs4.1.2 | omega⟩, trivial⟩
set_option maxRecDepth 4000 in
theorem c0_overInAll_31 (G : GX l s0 D tys a0 dT) (I : Bd s)  : CT l s0 D A dT 7 (rmN 7) [.ref (A 31)] s (fun o t => Bd t ∧ Fm [] [] s t ∧ ∃ e, o = .inl (some (.int (Int32.ofInt e))) ∧ rng e ∧ (True)) := by
  refine ct_ofX G (by decide) (Nat.le_of_ble_eq_true rfl) (fun k X E ET hRt hXt q => ?_)
  show WS k 0 [(0, .ref (A 31))] [] _ 0 0
  have F : Fm [] [] s s := fm_rf _ _ s
  have b1 := bi_22 I
  have L4 : ∀ (n : Nat) (t : PS) (sm0 c : Int), Bd t → Fm [] [] s t → (rng sm0 ∧ 0 ≤ c ∧ c ≤ 12) → (12 - c : Int).toNat < n → (∀ (t' : PS) (sm0' c' : Int), Bd t' → Fm [] [] s t' → (rng sm0' ∧ 0 ≤ c' ∧ c' ≤ 12) → WS k 42 [(0, .ref (A 31)), (1, .int (Int32.ofInt sm0')), (2, .int (Int32.ofInt c'))] [] (Wd A dT t') 0 0) → WS k 4 [(0, .ref (A 31)), (1, .int (Int32.ofInt sm0)), (2, .int (Int32.ofInt c))] [] (Wd A dT t) 0 0 := by
    intro n
    induction n with
    | zero =>
      intro t sm0 c I F hi hm kx
      exact absurd hm (Nat.not_lt_zero _)
    | succ n ih =>
      intro t sm0 c I F hi hm kx
      have b1001 := bi_22 I
      refine z_load_n X (x := c) rfl (List.Mem.tail _ (List.Mem.tail _ (List.Mem.head _))) (z_aload_n X (x := A 31) rfl (List.Mem.head _) (z_getI X 31 rfl (c518_ok rfl) rfl rfl ?_))
      have b1002 := bi_22 I
      refine z_icmp_ge X (t := 42) rfl rfl ⟨by first | exact oq_fa4e5087 hi.2.1 | omega, by first | exact oq_78843a64 hi.2.2 | omega⟩ (rng_to _) (fun g1003 => ?_) (fun g1003 => ?_)
      ·
        refine WS_pq [0, 1, 2] (lv' := [(0, .ref (A 31)), (1, .int (Int32.ofInt sm0)), (2, .int (Int32.ofInt c))]) rfl ?_
        exact kx _ sm0 c I F (by first | exact ⟨And.intro (hi.1.1) (hi.1.2), hi.2.1, hi.2.2⟩ | omega)
      ·
        refine z_load_n X (x := sm0) rfl (List.Mem.tail _ (List.Mem.head _)) (z_aload_n X (x := A 31) rfl (List.Mem.head _) (s_getR X 31 rfl (c518_ok rfl) rfl rfl (s_getR X 3 rfl (c518_ok rfl) rfl rfl (z_aload_n X (x := A 31) rfl (List.Mem.head _) (s_getR X 31 rfl (c518_ok rfl) rfl rfl (z_load_n X (x := c) rfl (List.Mem.tail _ (List.Mem.tail _ (List.Mem.head _))) (z_ald X 32 rfl (c518_ok rfl) rfl (by first | exact hi.2.1 | omega) (show c < 12 by first | exact oq_f36e82a8 g1003 b1002.2 | omega) (cbig_ok rfl) ?_)))))))
        have b1004 := bc_26 I (show (c).toNat < 12 by first | exact oq_2dac6850 g1003 b1002.2 | omega)
        refine z_ald X 16 rfl (c518_ok rfl) rfl (by first | exact b1004.1 | omega) (show (iC t 26 (c).toNat) < 12 by first | exact oq_0ddfcfee b1004.2 | omega) (cbig_ok rfl) ?_
        have b1005 := bc_13 I (show ((iC t 26 (c).toNat)).toNat < 12 by first | exact oq_9c5fa447 b1004.2 | omega)
        refine z_aload_n X (x := A 31) rfl (List.Mem.head _) (s_getR X 31 rfl (c518_ok rfl) rfl rfl (z_load_n X (x := c) rfl (List.Mem.tail _ (List.Mem.tail _ (List.Mem.head _))) (z_ald X 33 rfl (c518_ok rfl) rfl (by first | exact hi.2.1 | omega) (show c < 12 by first | exact oq_f36e82a8 g1003 b1002.2 | omega) (cbig_ok rfl) ?_)))
        have b1006 := bc_27 I (show (c).toNat < 12 by first | exact oq_2dac6850 g1003 b1002.2 | omega)
        refine z_mul X rfl (z_any (fun y1007 hy1007 => ?_))
        refine z_add X rfl (z_any (fun y1008 hy1008 => ?_))
        refine z_store_n X (lv' := [(1, .int (Int32.ofInt y1008)), (0, .ref (A 31)), (2, .int (Int32.ofInt c))]) rfl (by decide) (fun _ h => h) (z_inc X (x := c) (lv' := [(2, .int (Int32.ofInt (c + 1))), (1, .int (Int32.ofInt y1008)), (0, .ref (A 31))]) rfl (by decide) (List.Mem.tail _ (List.Mem.tail _ (List.Mem.head _))) (fun _ h => h) (z_goto X (t := 4) rfl rfl (WS_pq [2, 1, 0] (lv' := [(0, .ref (A 31)), (1, .int (Int32.ofInt y1008)), (2, .int (Int32.ofInt (c + 1)))]) rfl ?_)))
        exact ih _ y1008 (c + 1) I F (by first | exact ⟨And.intro (hy1008.1) (hy1008.2), oq_54f49eb5 hi.2.1, oq_4dae995e g1003 b1002.2⟩ | omega) (by first | exact qk_me hm (by decide) (oq_b575e8c1 g1003 b1002.2) | omega) kx
  refine z_const X rfl (z_store_n X (lv' := [(1, .int (Int32.ofInt 0)), (0, .ref (A 31))]) rfl (by decide) (fun _ h => h) (z_const X rfl (z_store_n X (lv' := [(2, .int (Int32.ofInt 0)), (1, .int (Int32.ofInt 0)), (0, .ref (A 31))]) rfl (by decide) (fun _ h => h) (WS_pq [2, 1, 0] (lv' := [(0, .ref (A 31)), (1, .int (Int32.ofInt 0)), (2, .int (Int32.ofInt 0))]) rfl (L4 ((12 - 0 : Int).toNat + 1) s 0 0 I F (by first | exact ⟨And.intro (by decide) (by decide), by decide, by decide⟩ | omega) (Nat.lt_succ_self _) ?_)))))
  intro s2 x3 x4 Is2 Fs2 hs2
  have b5 := bi_22 Is2
  refine z_load_n X (x := x3) rfl (List.Mem.tail _ (List.Mem.head _)) ?_
  exact w_iret X.1 q hRt rfl (ax_d X (show cdA 7 43 = some (.ireturn, 1, 0, 0, 0) from rfl)) (Nat.zero_le _) (Nat.zero_le _) ⟨_, rfl, Is2, Fs2, x3, rfl, ⟨by first | exact hs2.1.1 | omega, by first | exact hs2.1.2 | omega⟩, trivial⟩
set_option maxRecDepth 4000 in
theorem c0_aheadOf_31 (G : GX l s0 D tys a0 dT) (I : Bd s) {x : Int} (p0 : 0 ≤ x ∧ x ≤ 11) : CT l s0 D A dT 9 (rmN 9) [.ref (A 31), .int (Int32.ofInt x)] s (fun o t => Bd t ∧ Fm [] [] s t ∧ ∃ e, o = .inl (some (.int (Int32.ofInt e))) ∧ rng e ∧ (True)) := by
  refine ct_ofX G (by decide) (Nat.le_of_ble_eq_true rfl) (fun k X E ET hRt hXt q => ?_)
  show WS k 0 [(0, .ref (A 31)), (1, .int (Int32.ofInt x))] [] _ 0 0
  have F : Fm [] [] s s := fm_rf _ _ s
  have b1 := bi_9 I
  have L4 : ∀ (n : Nat) (t : PS) (xv ah c : Int), Bd t → Fm [] [] s t → ((0 ≤ xv ∧ xv ≤ 11) ∧ 0 ≤ ah ∧ ah ≤ c ∧ c ≤ 12) → (12 - c : Int).toNat < n → (∀ (t' : PS) (ah' c' : Int), Bd t' → Fm [] [] s t' → ((0 ≤ xv ∧ xv ≤ 11) ∧ 0 ≤ ah' ∧ ah' ≤ c' ∧ c' ≤ 12) → WS k 68 [(0, .ref (A 31)), (1, .int (Int32.ofInt xv)), (2, .int (Int32.ofInt ah')), (3, .int (Int32.ofInt c'))] [] (Wd A dT t') 0 0) → WS k 4 [(0, .ref (A 31)), (1, .int (Int32.ofInt xv)), (2, .int (Int32.ofInt ah)), (3, .int (Int32.ofInt c))] [] (Wd A dT t) 0 0 := by
    intro n
    induction n with
    | zero =>
      intro t xv ah c I F hi hm kx
      exact absurd hm (Nat.not_lt_zero _)
    | succ n ih =>
      intro t xv ah c I F hi hm kx
      have b1001 := bi_9 I
      refine z_load_n X (x := c) rfl (List.Mem.tail _ (List.Mem.tail _ (List.Mem.tail _ (List.Mem.head _)))) (z_aload_n X (x := A 31) rfl (List.Mem.head _) (s_getR X 31 rfl (c518_ok rfl) rfl rfl (z_getI X 3 rfl (c518_ok rfl) rfl rfl ?_)))
      have b1002 := bi_9 I
      refine z_icmp_ge X (t := 68) rfl rfl ⟨by first | exact oq_e001bc0d hi.2.2.1 hi.2.1 | omega, by first | exact oq_78843a64 hi.2.2.2 | omega⟩ (rng_to _) (fun g1003 => ?_) (fun g1003 => ?_)
      ·
        refine WS_pq [0, 1, 2, 3] (lv' := [(0, .ref (A 31)), (1, .int (Int32.ofInt xv)), (2, .int (Int32.ofInt ah)), (3, .int (Int32.ofInt c))]) rfl ?_
        exact kx _ ah c I F (by first | exact ⟨And.intro (hi.1.1) (hi.1.2), hi.2.1, hi.2.2.1, hi.2.2.2⟩ | omega)
      ·
        refine z_aload_n X (x := A 31) rfl (List.Mem.head _) (s_getR X 31 rfl (c518_ok rfl) rfl rfl (z_load_n X (x := c) rfl (List.Mem.tail _ (List.Mem.tail _ (List.Mem.tail _ (List.Mem.head _)))) (z_ald X 40 rfl (c518_ok rfl) rfl (by first | exact oq_12a1f9e1 hi.2.2.1 hi.2.1 | omega) (show c < 12 by first | exact oq_f36e82a8 g1003 b1002.2 | omega) (cbig_ok rfl) ?_)))
        have b1004 := bc_34 I (show (c).toNat < 12 by first | exact oq_2dac6850 g1003 b1002.2 | omega)
        refine z_if_eq X (t := 62) rfl rfl (rng_to _) (fun g1005 => ?_) (fun g1005 => ?_)
        ·
          refine z_inc X (x := c) (lv' := [(3, .int (Int32.ofInt (c + 1))), (0, .ref (A 31)), (1, .int (Int32.ofInt xv)), (2, .int (Int32.ofInt ah))]) rfl (by decide) (List.Mem.tail _ (List.Mem.tail _ (List.Mem.tail _ (List.Mem.head _)))) (fun _ h => h) (z_goto X (t := 4) rfl rfl (WS_pq [1, 2, 3, 0] (lv' := [(0, .ref (A 31)), (1, .int (Int32.ofInt xv)), (2, .int (Int32.ofInt ah)), (3, .int (Int32.ofInt (c + 1)))]) rfl ?_))
          exact ih _ xv ah (c + 1) I F (by first | exact ⟨And.intro (hi.1.1) (hi.1.2), hi.2.1, oq_03182e9e hi.2.2.1, oq_4dae995e g1003 b1002.2⟩ | omega) (by first | exact qk_me hm (by decide) (oq_b575e8c1 g1003 b1002.2) | omega) kx
        ·
          refine z_aload_n X (x := A 31) rfl (List.Mem.head _) (s_getR X 31 rfl (c518_ok rfl) rfl rfl (z_load_n X (x := c) rfl (List.Mem.tail _ (List.Mem.tail _ (List.Mem.tail _ (List.Mem.head _)))) (z_ald X 40 rfl (c518_ok rfl) rfl (by first | exact oq_12a1f9e1 hi.2.2.1 hi.2.1 | omega) (show c < 12 by first | exact oq_f36e82a8 g1003 b1002.2 | omega) (cbig_ok rfl) ?_)))
          have b1006 := bc_34 I (show (c).toNat < 12 by first | exact oq_2dac6850 g1003 b1002.2 | omega)
          refine z_aload_n X (x := A 31) rfl (List.Mem.head _) (s_getR X 31 rfl (c518_ok rfl) rfl rfl (z_load_n X (x := xv) rfl (List.Mem.tail _ (List.Mem.head _)) (z_ald X 40 rfl (c518_ok rfl) rfl (by first | exact hi.1.1 | omega) (show xv < 12 by first | exact oq_0ddfcfee hi.1.2 | omega) (cbig_ok rfl) ?_)))
          have b1007 := bc_34 I (show (xv).toNat < 12 by first | exact oq_9c5fa447 hi.1.2 | omega)
          refine z_icmp_gt X (t := 59) rfl rfl (rng_to _) (rng_to _) (fun g1008 => ?_) (fun g1008 => ?_)
          ·
            refine z_inc X (x := ah) (lv' := [(2, .int (Int32.ofInt (ah + 1))), (0, .ref (A 31)), (1, .int (Int32.ofInt xv)), (3, .int (Int32.ofInt c))]) rfl (by decide) (List.Mem.tail _ (List.Mem.tail _ (List.Mem.head _))) (fun _ h => h) (z_inc X (x := c) (lv' := [(3, .int (Int32.ofInt (c + 1))), (2, .int (Int32.ofInt (ah + 1))), (0, .ref (A 31)), (1, .int (Int32.ofInt xv))]) rfl (by decide) (List.Mem.tail _ (List.Mem.tail _ (List.Mem.tail _ (List.Mem.head _)))) (fun _ h => h) (z_goto X (t := 4) rfl rfl (WS_pq [2, 3, 1, 0] (lv' := [(0, .ref (A 31)), (1, .int (Int32.ofInt xv)), (2, .int (Int32.ofInt (ah + 1))), (3, .int (Int32.ofInt (c + 1)))]) rfl ?_)))
            exact ih _ xv (ah + 1) (c + 1) I F (by first | exact ⟨And.intro (hi.1.1) (hi.1.2), oq_54f49eb5 hi.2.1, oq_8d48a029 hi.2.2.1, oq_4dae995e g1003 b1002.2⟩ | omega) (by first | exact qk_me hm (by decide) (oq_b575e8c1 g1003 b1002.2) | omega) kx
          ·
            refine z_aload_n X (x := A 31) rfl (List.Mem.head _) (s_getR X 31 rfl (c518_ok rfl) rfl rfl (z_load_n X (x := c) rfl (List.Mem.tail _ (List.Mem.tail _ (List.Mem.tail _ (List.Mem.head _)))) (z_ald X 40 rfl (c518_ok rfl) rfl (by first | exact oq_12a1f9e1 hi.2.2.1 hi.2.1 | omega) (show c < 12 by first | exact oq_f36e82a8 g1003 b1002.2 | omega) (cbig_ok rfl) ?_)))
            have b1009 := bc_34 I (show (c).toNat < 12 by first | exact oq_2dac6850 g1003 b1002.2 | omega)
            refine z_aload_n X (x := A 31) rfl (List.Mem.head _) (s_getR X 31 rfl (c518_ok rfl) rfl rfl (z_load_n X (x := xv) rfl (List.Mem.tail _ (List.Mem.head _)) (z_ald X 40 rfl (c518_ok rfl) rfl (by first | exact hi.1.1 | omega) (show xv < 12 by first | exact oq_0ddfcfee hi.1.2 | omega) (cbig_ok rfl) ?_)))
            have b1010 := bc_34 I (show (xv).toNat < 12 by first | exact oq_9c5fa447 hi.1.2 | omega)
            refine z_icmp_ne X (t := 62) rfl rfl (rng_to _) (rng_to _) (fun g1011 => ?_) (fun g1011 => ?_)
            ·
              refine z_inc X (x := c) (lv' := [(3, .int (Int32.ofInt (c + 1))), (0, .ref (A 31)), (1, .int (Int32.ofInt xv)), (2, .int (Int32.ofInt ah))]) rfl (by decide) (List.Mem.tail _ (List.Mem.tail _ (List.Mem.tail _ (List.Mem.head _)))) (fun _ h => h) (z_goto X (t := 4) rfl rfl (WS_pq [1, 2, 3, 0] (lv' := [(0, .ref (A 31)), (1, .int (Int32.ofInt xv)), (2, .int (Int32.ofInt ah)), (3, .int (Int32.ofInt (c + 1)))]) rfl ?_))
              exact ih _ xv ah (c + 1) I F (by first | exact ⟨And.intro (hi.1.1) (hi.1.2), hi.2.1, oq_03182e9e hi.2.2.1, oq_4dae995e g1003 b1002.2⟩ | omega) (by first | exact qk_me hm (by decide) (oq_b575e8c1 g1003 b1002.2) | omega) kx
            ·
              refine z_load_n X (x := c) rfl (List.Mem.tail _ (List.Mem.tail _ (List.Mem.tail _ (List.Mem.head _)))) (z_load_n X (x := xv) rfl (List.Mem.tail _ (List.Mem.head _)) (z_icmp_ge X (t := 62) rfl rfl ⟨by first | exact oq_e001bc0d hi.2.2.1 hi.2.1 | omega, by first | exact oq_78843a64 hi.2.2.2 | omega⟩ ⟨by first | exact oq_fa4e5087 hi.1.1 | omega, by first | exact oq_36716223 hi.1.2 | omega⟩ (fun g1012 => ?_) (fun g1012 => ?_)))
              ·
                refine z_inc X (x := c) (lv' := [(3, .int (Int32.ofInt (c + 1))), (0, .ref (A 31)), (1, .int (Int32.ofInt xv)), (2, .int (Int32.ofInt ah))]) rfl (by decide) (List.Mem.tail _ (List.Mem.tail _ (List.Mem.tail _ (List.Mem.head _)))) (fun _ h => h) (z_goto X (t := 4) rfl rfl (WS_pq [1, 2, 3, 0] (lv' := [(0, .ref (A 31)), (1, .int (Int32.ofInt xv)), (2, .int (Int32.ofInt ah)), (3, .int (Int32.ofInt (c + 1)))]) rfl ?_))
                exact ih _ xv ah (c + 1) I F (by first | exact ⟨And.intro (hi.1.1) (hi.1.2), hi.2.1, oq_03182e9e hi.2.2.1, oq_4dae995e g1003 b1002.2⟩ | omega) (by first | exact qk_me hm (by decide) (oq_b575e8c1 g1003 b1002.2) | omega) kx
              ·
                refine z_inc X (x := ah) (lv' := [(2, .int (Int32.ofInt (ah + 1))), (0, .ref (A 31)), (1, .int (Int32.ofInt xv)), (3, .int (Int32.ofInt c))]) rfl (by decide) (List.Mem.tail _ (List.Mem.tail _ (List.Mem.head _))) (fun _ h => h) (z_inc X (x := c) (lv' := [(3, .int (Int32.ofInt (c + 1))), (2, .int (Int32.ofInt (ah + 1))), (0, .ref (A 31)), (1, .int (Int32.ofInt xv))]) rfl (by decide) (List.Mem.tail _ (List.Mem.tail _ (List.Mem.tail _ (List.Mem.head _)))) (fun _ h => h) (z_goto X (t := 4) rfl rfl (WS_pq [2, 3, 1, 0] (lv' := [(0, .ref (A 31)), (1, .int (Int32.ofInt xv)), (2, .int (Int32.ofInt (ah + 1))), (3, .int (Int32.ofInt (c + 1)))]) rfl ?_)))
                exact ih _ xv (ah + 1) (c + 1) I F (by first | exact ⟨And.intro (hi.1.1) (hi.1.2), oq_54f49eb5 hi.2.1, oq_8d48a029 hi.2.2.1, oq_55c97650 g1012 hi.1.2⟩ | omega) (by first | exact qk_me hm (by decide) (oq_7e35da2a g1012 hi.1.2) | omega) kx
  refine z_const X rfl (z_store_n X (lv' := [(2, .int (Int32.ofInt 0)), (0, .ref (A 31)), (1, .int (Int32.ofInt x))]) rfl (by decide) (fun _ h => h) (z_const X rfl (z_store_n X (lv' := [(3, .int (Int32.ofInt 0)), (2, .int (Int32.ofInt 0)), (0, .ref (A 31)), (1, .int (Int32.ofInt x))]) rfl (by decide) (fun _ h => h) (WS_pq [2, 3, 1, 0] (lv' := [(0, .ref (A 31)), (1, .int (Int32.ofInt x)), (2, .int (Int32.ofInt 0)), (3, .int (Int32.ofInt 0))]) rfl (L4 ((12 - 0 : Int).toNat + 1) s x 0 0 I F (by first | exact ⟨And.intro (p0.1) (p0.2), by decide, by decide, by decide⟩ | omega) (Nat.lt_succ_self _) ?_)))))
  intro s2 x3 x4 Is2 Fs2 hs2
  have b5 := bi_9 Is2
  refine z_load_n X (x := x3) rfl (List.Mem.tail _ (List.Mem.tail _ (List.Mem.head _))) ?_
  exact w_iret X.1 q hRt rfl (ax_d X (show cdA 9 69 = some (.ireturn, 1, 0, 0, 0) from rfl)) (Nat.zero_le _) (Nat.zero_le _) ⟨_, rfl, Is2, Fs2, x3, rfl, ⟨by first | exact oq_fa4e5087 hs2.2.1 | omega, by first | exact oq_39d2cc6e hs2.2.2.1 hs2.2.2.2 | omega⟩, trivial⟩
set_option maxRecDepth 4000 in
theorem c0_leadAt_31 (G : GX l s0 D tys a0 dT) (I : Bd s) {x y : Int} (p0 : 0 ≤ x ∧ x ≤ 23) (p1 : rng y) : CT l s0 D A dT 8 (rmN 8) [.ref (A 31), .int (Int32.ofInt x), .int (Int32.ofInt y)] s (fun o t => Bd t ∧ Fm [] [33, 20, 34] s t ∧ ∃ e, o = .inl (some (.int (Int32.ofInt e))) ∧ rng e ∧ (-1 ≤ e ∧ e ≤ 11)) := by
  refine ct_ofX G (by decide) (Nat.le_of_ble_eq_true rfl) (fun k X E ET hRt hXt q => ?_)
  show WS k 0 [(0, .ref (A 31)), (1, .int (Int32.ofInt x)), (2, .int (Int32.ofInt y))] [] _ 0 0
  have F : Fm [] [33, 20, 34] s s := fm_rf _ _ s
  have b1 := bi_9 I
  have L10 : ∀ (n : Nat) (t : PS) (xv yv lo c : Int), Bd t → Fm [] [33, 20, 34] s t → ((0 ≤ xv ∧ xv ≤ 23) ∧ rng yv ∧ rng lo ∧ 0 ≤ c ∧ c ≤ 12) → (12 - c : Int).toNat < n → (∀ (t' : PS) (c' : Int), Bd t' → Fm [] [33, 20, 34] s t' → ((0 ≤ xv ∧ xv ≤ 23) ∧ rng yv ∧ rng lo ∧ 0 ≤ c' ∧ c' ≤ 12) → WS k 44 [(0, .ref (A 31)), (1, .int (Int32.ofInt xv)), (2, .int (Int32.ofInt yv)), (3, .int (Int32.ofInt lo)), (4, .int (Int32.ofInt c'))] [] (Wd A dT t') 0 0) → WS k 10 [(0, .ref (A 31)), (1, .int (Int32.ofInt xv)), (2, .int (Int32.ofInt yv)), (3, .int (Int32.ofInt lo)), (4, .int (Int32.ofInt c))] [] (Wd A dT t) 0 0 := by
    intro n
    induction n with
    | zero =>
      intro t xv yv lo c I F hi hm kx
      exact absurd hm (Nat.not_lt_zero _)
    | succ n ih =>
      intro t xv yv lo c I F hi hm kx
      have b1001 := bi_9 I
      refine z_load X (x := c) rfl (List.Mem.tail _ (List.Mem.tail _ (List.Mem.tail _ (List.Mem.tail _ (List.Mem.head _))))) (z_aload_n X (x := A 31) rfl (List.Mem.head _) (s_getR X 31 rfl (c518_ok rfl) rfl rfl (z_getI X 3 rfl (c518_ok rfl) rfl rfl ?_)))
      have b1002 := bi_9 I
      refine z_icmp_ge X (t := 44) rfl rfl ⟨by first | exact oq_fa4e5087 hi.2.2.2.1 | omega, by first | exact oq_78843a64 hi.2.2.2.2 | omega⟩ (rng_to _) (fun g1003 => ?_) (fun g1003 => ?_)
      ·
        refine WS_pq [0, 1, 2, 3, 4] (lv' := [(0, .ref (A 31)), (1, .int (Int32.ofInt xv)), (2, .int (Int32.ofInt yv)), (3, .int (Int32.ofInt lo)), (4, .int (Int32.ofInt c))]) rfl ?_
        exact kx _ c I F (by first | exact ⟨And.intro (hi.1.1) (hi.1.2), And.intro (hi.2.1.1) (hi.2.1.2), And.intro (hi.2.2.1.1) (hi.2.2.1.2), hi.2.2.2.1, hi.2.2.2.2⟩ | omega)
      ·
        refine z_aload_n X (x := A 31) rfl (List.Mem.head _) (s_getR X 31 rfl (c518_ok rfl) rfl rfl (z_load X (x := c) rfl (List.Mem.tail _ (List.Mem.tail _ (List.Mem.tail _ (List.Mem.tail _ (List.Mem.head _))))) (z_load_n X (x := lo) rfl (List.Mem.tail _ (List.Mem.tail _ (List.Mem.tail _ (List.Mem.head _)))) (z_aload_n X (x := A 31) rfl (List.Mem.head _) (z_load_n X (x := xv) rfl (List.Mem.tail _ (List.Mem.head _)) (z_load X (x := c) rfl (List.Mem.tail _ (List.Mem.tail _ (List.Mem.tail _ (List.Mem.tail _ (List.Mem.head _))))) (zcV_i0 X E 31 (As := [.int (Int32.ofInt xv), .int (Int32.ofInt c)]) (st := [.int (Int32.ofInt lo), .int (Int32.ofInt c), .ref (A 40)]) rfl rfl rfl rfl (c0_loadAt_31 G I (by first | exact ⟨hi.1.1, hi.1.2⟩ | omega) (by first | exact ⟨oq_fa4e5087 hi.2.2.2.1, oq_78843a64 hi.2.2.2.2⟩ | omega)) rfl (Nat.le_of_ble_eq_true rfl) (fun s1004 e1005 Is1004 Fs1004 hrs1004 hps1004 => ?_))))))))
        have Gs1004 := fm_tq F Fs1004 rfl rfl
        have ws1004_9 : iI s1004 9 = iI t 9 := fm_iq Fs1004 rfl
        refine z_sub X rfl (z_any (fun y1006 hy1006 => ?_))
        refine z_ast X 40 rfl (c518_ok rfl) rfl (by first | exact hi.2.2.2.1 | omega) (show c < 12 by first | exact oq_f36e82a8 g1003 b1002.2 | omega) (cbig_ok rfl) (wd_gen (fun s1007 hs1007 => ?_))
        have Is1007 : Bd s1007 := eqB hs1007 (bd_C Is1004 (show ((-2147483648) : Int) ≤ y1006 ∧ y1006 ≤ 2147483647 by first | exact ⟨hy1006.1, hy1006.2⟩ | omega) hy1006)
        have Fs1007 := eqF hs1007 (fm_C Gs1004 (inl_ok (a := 34) rfl))
        have ws1007_9 : iI s1007 9 = iI s1004 9 := eqI hs1007 rfl
        refine z_inc X (x := c) (lv' := [(4, .int (Int32.ofInt (c + 1))), (0, .ref (A 31)), (1, .int (Int32.ofInt xv)), (2, .int (Int32.ofInt yv)), (3, .int (Int32.ofInt lo))]) rfl (by decide) (List.Mem.tail _ (List.Mem.tail _ (List.Mem.tail _ (List.Mem.tail _ (List.Mem.head _))))) (fun _ h => h) (z_goto X (t := 10) rfl rfl (WS_pq [1, 2, 3, 4, 0] (lv' := [(0, .ref (A 31)), (1, .int (Int32.ofInt xv)), (2, .int (Int32.ofInt yv)), (3, .int (Int32.ofInt lo)), (4, .int (Int32.ofInt (c + 1)))]) rfl ?_))
        exact ih _ xv yv lo (c + 1) Is1007 Fs1007 (by first | exact ⟨And.intro (hi.1.1) (hi.1.2), And.intro (hi.2.1.1) (hi.2.1.2), And.intro (hi.2.2.1.1) (hi.2.2.1.2), oq_54f49eb5 hi.2.2.2.1, oq_4dae995e g1003 b1002.2⟩ | omega) (by first | exact qk_me hm (by decide) (oq_b575e8c1 g1003 b1002.2) | omega) kx
  have L47 : ∀ (n : Nat) (t : PS) (yv c : Int), Bd t → Fm [] [33, 20, 34] s t → (rng yv ∧ 0 ≤ c ∧ c ≤ 12) → (12 - c : Int).toNat < n → (∀ (t' : PS) (c' : Int), Bd t' → Fm [] [33, 20, 34] s t' → (rng yv ∧ 0 ≤ c' ∧ c' ≤ 12) → WS k 88 [(0, .ref (A 31)), (2, .int (Int32.ofInt yv)), (4, .int (Int32.ofInt c'))] [] (Wd A dT t') 0 0) → WS k 47 [(0, .ref (A 31)), (2, .int (Int32.ofInt yv)), (4, .int (Int32.ofInt c))] [] (Wd A dT t) 0 0 := by
    intro n
    induction n with
    | zero =>
      intro t yv c I F hi hm kx
      exact absurd hm (Nat.not_lt_zero _)
    | succ n ih =>
      intro t yv c I F hi hm kx
      have b2001 := bi_9 I
      refine z_load X (x := c) rfl (List.Mem.tail _ (List.Mem.tail _ (List.Mem.head _))) (z_aload_n X (x := A 31) rfl (List.Mem.head _) (s_getR X 31 rfl (c518_ok rfl) rfl rfl (z_getI X 3 rfl (c518_ok rfl) rfl rfl ?_)))
      have b2002 := bi_9 I
      refine z_icmp_ge X (t := 88) rfl rfl ⟨by first | exact oq_fa4e5087 hi.2.1 | omega, by first | exact oq_78843a64 hi.2.2 | omega⟩ (rng_to _) (fun g2003 => ?_) (fun g2003 => ?_)
      ·
        refine WS_pq [0, 1, 2] (lv' := [(0, .ref (A 31)), (2, .int (Int32.ofInt yv)), (4, .int (Int32.ofInt c))]) rfl ?_
        exact kx _ c I F (by first | exact ⟨And.intro (hi.1.1) (hi.1.2), hi.2.1, hi.2.2⟩ | omega)
      ·
        refine z_aload_n X (x := A 31) rfl (List.Mem.head _) (s_getR X 31 rfl (c518_ok rfl) rfl rfl (z_load X (x := c) rfl (List.Mem.tail _ (List.Mem.tail _ (List.Mem.head _))) (z_ald X 40 rfl (c518_ok rfl) rfl (by first | exact hi.2.1 | omega) (show c < 12 by first | exact oq_f36e82a8 g2003 b2002.2 | omega) (cbig_ok rfl) ?_)))
        have b2004 := bc_34 I (show (c).toNat < 12 by first | exact oq_2dac6850 g2003 b2002.2 | omega)
        refine z_if_eq X (t := 82) rfl rfl (rng_to _) (fun g2005 => ?_) (fun g2005 => ?_)
        ·
          refine z_inc X (x := c) (lv' := [(4, .int (Int32.ofInt (c + 1))), (0, .ref (A 31)), (2, .int (Int32.ofInt yv))]) rfl (by decide) (List.Mem.tail _ (List.Mem.tail _ (List.Mem.head _))) (fun _ h => h) (z_goto X (t := 47) rfl rfl (WS_pq [1, 2, 0] (lv' := [(0, .ref (A 31)), (2, .int (Int32.ofInt yv)), (4, .int (Int32.ofInt (c + 1)))]) rfl ?_))
          exact ih _ yv (c + 1) I F (by first | exact ⟨And.intro (hi.1.1) (hi.1.2), oq_54f49eb5 hi.2.1, oq_4dae995e g2003 b2002.2⟩ | omega) (by first | exact qk_me hm (by decide) (oq_b575e8c1 g2003 b2002.2) | omega) kx
        ·
          refine z_aload_n X (x := A 31) rfl (List.Mem.head _) (z_load X (x := c) rfl (List.Mem.tail _ (List.Mem.tail _ (List.Mem.head _))) (zcV_i0 X E 31 (As := [.int (Int32.ofInt c)]) (st := []) rfl rfl rfl rfl (c0_aheadOf_31 G I (by first | exact ⟨hi.2.1, oq_e4d7f3c5 g2003 b2002.2⟩ | omega)) rfl (Nat.le_of_ble_eq_true rfl) (fun s2006 e2007 Is2006 Fs2006 hrs2006 hps2006 => ?_)))
          have Gs2006 := fm_tq F Fs2006 rfl rfl
          have ws2006_9 : iI s2006 9 = iI t 9 := fm_iq Fs2006 rfl
          refine z_load_n X (x := yv) rfl (List.Mem.tail _ (List.Mem.head _)) (z_icmp_ne X (t := 82) rfl rfl hrs2006 ⟨by first | exact hi.1.1 | omega, by first | exact hi.1.2 | omega⟩ (fun g2008 => ?_) (fun g2008 => ?_))
          ·
            refine z_inc X (x := c) (lv' := [(4, .int (Int32.ofInt (c + 1))), (0, .ref (A 31)), (2, .int (Int32.ofInt yv))]) rfl (by decide) (List.Mem.tail _ (List.Mem.tail _ (List.Mem.head _))) (fun _ h => h) (z_goto X (t := 47) rfl rfl (WS_pq [1, 2, 0] (lv' := [(0, .ref (A 31)), (2, .int (Int32.ofInt yv)), (4, .int (Int32.ofInt (c + 1)))]) rfl ?_))
            exact ih _ yv (c + 1) Is2006 Gs2006 (by first | exact ⟨And.intro (hi.1.1) (hi.1.2), oq_54f49eb5 hi.2.1, oq_4dae995e g2003 b2002.2⟩ | omega) (by first | exact qk_me hm (by decide) (oq_b575e8c1 g2003 b2002.2) | omega) kx
          ·
            refine z_load X (x := c) rfl (List.Mem.tail _ (List.Mem.tail _ (List.Mem.head _))) ?_
            exact w_iret X.1 q hRt rfl (ax_d X (show cdA 8 81 = some (.ireturn, 1, 0, 0, 0) from rfl)) (Nat.zero_le _) (Nat.zero_le _) ⟨_, rfl, Is2006, Gs2006, c, rfl, ⟨by first | exact oq_fa4e5087 hi.2.1 | omega, by first | exact oq_78843a64 hi.2.2 | omega⟩, by first | exact ⟨oq_ca54ea22 hi.2.1, oq_e4d7f3c5 g2003 b2002.2⟩ | omega⟩
  refine z_aload_n X (x := A 31) rfl (List.Mem.head _) (z_load_n X (x := x) rfl (List.Mem.tail _ (List.Mem.head _)) (z_const X rfl (zcV_i0 X E 31 (As := [.int (Int32.ofInt x), .int (Int32.ofInt (-1))]) (st := []) rfl rfl rfl rfl (c0_loadAt_31 G I (by first | exact ⟨p0.1, p0.2⟩ | omega) (by first | exact ⟨by decide, by decide⟩ | omega)) rfl (Nat.le_of_ble_eq_true rfl) (fun s2 e3 Is2 Fs2 hrs2 hps2 => ?_))))
  have Gs2 := fm_tq F Fs2 rfl rfl
  have ws2_9 : iI s2 9 = iI s 9 := fm_iq Fs2 rfl
  refine z_store_n X (lv' := [(3, .int (Int32.ofInt e3)), (0, .ref (A 31)), (1, .int (Int32.ofInt x)), (2, .int (Int32.ofInt y))]) rfl (by decide) (fun _ h => h) (z_const X rfl (z_store X (lv' := [(4, .int (Int32.ofInt 0)), (3, .int (Int32.ofInt e3)), (0, .ref (A 31)), (1, .int (Int32.ofInt x)), (2, .int (Int32.ofInt y))]) rfl (by decide) (fun _ h => h) (WS_pq [2, 3, 4, 1, 0] (lv' := [(0, .ref (A 31)), (1, .int (Int32.ofInt x)), (2, .int (Int32.ofInt y)), (3, .int (Int32.ofInt e3)), (4, .int (Int32.ofInt 0))]) rfl (L10 ((12 - 0 : Int).toNat + 1) s2 x y e3 0 Is2 Gs2 (by first | exact ⟨And.intro (p0.1) (p0.2), And.intro (p1.1) (p1.2), by omega, by decide, by decide⟩ | omega) (Nat.lt_succ_self _) ?_))))
  intro s4 x5 Is4 Fs4 hs4
  have b6 := bi_9 Is4
  refine z_const X rfl (z_store X (lv' := [(4, .int (Int32.ofInt 0)), (0, .ref (A 31)), (1, .int (Int32.ofInt x)), (2, .int (Int32.ofInt y)), (3, .int (Int32.ofInt e3))]) rfl (by decide) (fun _ h => h) (WS_pq [1, 3, 0] (lv' := [(0, .ref (A 31)), (2, .int (Int32.ofInt y)), (4, .int (Int32.ofInt 0))]) rfl (L47 ((12 - 0 : Int).toNat + 1) s4 y 0 Is4 Fs4 (by first | exact ⟨And.intro (hs4.2.1.1) (hs4.2.1.2), by decide, by decide⟩ | omega) (Nat.lt_succ_self _) ?_)))
  intro s7 x8 Is7 Fs7 hs7
  have b9 := bi_9 Is7
  refine z_const X rfl ?_
  exact w_iret X.1 q hRt rfl (ax_d X (show cdA 8 89 = some (.ireturn, 1, 0, 0, 0) from rfl)) (Nat.zero_le _) (Nat.zero_le _) ⟨_, rfl, Is7, Fs7, (-1), rfl, (by decide), by first | exact ⟨by decide, by decide⟩ | omega⟩
end M74
end
section
theorem oq_acf68b34 {a0 a1 : Int} (h0 : a0 = a1) (h1 : a1 < 40) : a0 < 40 := by omega
theorem oq_c57cae74 {a0 a1 a2 : Int} (h0 : a0 = a1) (h1 : a1 = a2) (h2 : a2 < 40) : a0 < 40 := by omega
theorem oq_beb58a95 {a0 a1 a2 a3 : Int} (h0 : a0 = a1) (h1 : a1 = a2) (h2 : a2 = a3) (h3 : a3 < 40) : (a0 + 1) ≤ 40 := by omega
theorem oq_83f8f735 {a0 : Int} (h0 : a0 ≤ 3) : (a0 + (-1)) ≤ 3 := by omega
theorem oq_176f24f4 {a0 : Int} (h0 : a0 < 4) : (a0 + 1) ≤ 2147483647 := by omega
theorem oq_a274733e {a0 : Int} (h0 : a0 < 4) : (a0 : Int).toNat < 4 := by omega
theorem oq_6af04329 {a0 a1 : Int} (h0 : 0 ≤ a0) (h1 : 0 ≤ a1) : 0 ≤ ((a0 * 4) + a1) := by omega
theorem oq_7259ae6f {a0 a1 : Int} (h0 : a0 ≤ 39) (h1 : a1 < 4) : ((a0 * 4) + a1) < 160 := by omega
theorem oq_04b9c373 {a0 a1 : Int} (h0 : a0 ≤ 39) (h1 : a1 < 4) : (((a0 * 4) + a1) : Int).toNat < 160 := by omega
theorem oq_60d647b9 {a0 a1 : Int} (h0 : a0 < a1) (h1 : a1 ≤ 40) : a0 ≤ 39 := by omega
theorem oq_c93233a9 {a0 : Int} (h0 : a0 ≤ 39) : (a0 + 1) ≤ 40 := by omega
theorem oq_3e505acc {a0 : Int} (h0 : a0 ≤ 39) : 0 < (40 - a0) := by omega
theorem oq_996e9f4e {a0 : Int} (h0 : a0 ≤ 16777215) : a0 ≤ 2147483647 := by omega
theorem oq_d8f0483d {a0 a1 : Int} (h0 : a0 = a1) (h1 : a1 < 6) : (a0 + 1) ≤ 6 := by omega
theorem oq_5e19d6ec {a0 a1 a2 : Int} (h0 : a0 = (a1 + 1)) (h1 : a1 = a2) : (a0 - 1) = a2 := by omega
theorem oq_65e1730c {a0 a1 : Int} (h0 : (a0 = 0 ∨ a0 ≤ a1)) (h1 : a1 ≤ 2147483647) : a0 ≤ 2147483647 := by omega
theorem oq_00477806 {a0 a1 : Int} (h0 : 0 ≤ a0) (h1 : 1 ≤ a1) : (-2147483648) ≤ (a0 + a1) := by omega
theorem oq_2a8744a7 {a0 a1 : Int} (h0 : a0 ≤ 23) (h1 : a1 ≤ 8) : (a0 + a1) ≤ 2147483647 := by omega
theorem oq_27fc0cec {a0 a1 a2 : Int} (h0 : a0 ≤ 2147483647) (h1 : ((a1 = a2 ∧ a0 ≤ a2) ∨ (a1 = a0 ∧ a2 < a0))) (h2 : a2 ≤ 2147483647) (h3 : (-2147483648) ≤ a2) : ((-2147483648) ≤ a1 ∧ a1 ≤ 2147483647) := by omega
theorem oq_566e2836 {a0 a1 a2 : Int} (h0 : ((a0 = a1 ∧ a1 ≤ a2) ∨ (a0 = a2 ∧ a2 < a1))) (h1 : (-2147483648) ≤ a2) (h2 : a1 ≤ 2147483647) (h3 : (-2147483648) ≤ a1) : ((-2147483648) ≤ a0 ∧ a0 ≤ 2147483647) := by omega
theorem oq_54ac7134 {a0 a1 : Int} (h0 : a0 ≤ 1) (h1 : 0 ≤ a0) (h2 : ((a1 = 0 ∧ a0 = 0) ∨ (a1 ≠ 0 ∧ a0 = 1))) : (a0 = 0 ∨ a0 = 1) := by omega
/-! The class: fits, rota, regions, moves -/
section ZA
variable {k : kx_T} {mn pc : Nat} {dT : Nat → ClassId} {lv : List (Nat × Value)} {st : List Value} {ws : va_W} {ce sl a b : Nat} {z : Int}
theorem and_lel (y : Int32) {q : Int} (h0 : 0 ≤ q) (hq : q ≤ 2147483647) : 0 ≤ (Int32.ofInt q &&& y).toInt ∧ (Int32.ofInt q &&& y).toInt ≤ q := by
  rw [← ofi_to y, ← z_and]
  have e1 : zN q = q.toNat := by unfold zN; omega
  have e2 : Nat.land (zN q) (zN y.toInt) ≤ q.toNat := by rw [e1]; exact Nat.and_le_left
  have e3 : zOf (Nat.land (zN q) (zN y.toInt)) = (Nat.land (zN q) (zN y.toInt) : Int) := by
    unfold zOf
    rw [if_pos (Nat.ble_eq.mpr (by omega))]
  rw [e3, zi ⟨by omega, by omega⟩]
  omega
theorem z_andl (X : AX k mn dT) {y : Int32} {q : Int} (h : cdA mn pc = some (.iand, 1, a, b, z)) (h0 : 0 ≤ q) (hq : q ≤ 2147483647) (g : ∀ e : Int, 0 ≤ e → e ≤ q → WS k (pc + 1) lv (.int (Int32.ofInt e) :: st) ws ce sl) : WS k pc lv (.int y :: .int (Int32.ofInt q) :: st) ws ce sl := by
  refine w_iand X.1 (ax_d X h) ?_
  have := g _ (and_lel y h0 hq).1 (and_lel y h0 hq).2
  rwa [ofi_to] at this
theorem z_bxor (X : AX k mn dT) {x y : Int} (h : cdA mn pc = some (.ixor, 1, a, b, z)) (g : WS k (pc + 1) lv (.int (Int32.ofInt x ^^^ Int32.ofInt y) :: st) ws ce sl) : WS k pc lv (.int (Int32.ofInt y) :: .int (Int32.ofInt x) :: st) ws ce sl := w_ixor X.1 (ax_d X h) g
end ZA
section M75
variable {l : Launch} {s0 : State} {D : va_G} {tys : List (ClassId × FieldType)} {a0 : Array Value} {A : Nat → Nat} {dT : Nat → ClassId} {s : PS}
set_option maxRecDepth 4000 in
theorem c4_needAt_54 (G : GX l s0 D tys a0 dT) (I : Bd s) {x : Int} (p0 : 0 ≤ x ∧ x ≤ 23) : CT l s0 D A dT 44 (rmN 44) [.ref (A 54), .int (Int32.ofInt x)] s (fun o t => Bd t ∧ Fm [] [] s t ∧ ∃ e, o = .inl (some (.int (Int32.ofInt e))) ∧ rng e ∧ (True)) := by
  refine ct_ofX G (by decide) (Nat.le_of_ble_eq_true rfl) (fun k X E ET hRt hXt q => ?_)
  show WS k 0 [(0, .ref (A 54)), (1, .int (Int32.ofInt x))] [] _ 0 0
  have F : Fm [] [] s s := fm_rf _ _ s
  refine z_aload_n X (x := A 54) rfl (List.Mem.head _) (s_getR X 54 rfl (c518_ok rfl) rfl rfl (z_aload_n X (x := A 54) rfl (List.Mem.head _) (s_getR X 54 rfl (c518_ok rfl) rfl rfl (z_load_n X (x := x) rfl (List.Mem.tail _ (List.Mem.head _)) (z_ald X 60 rfl (c518_ok rfl) rfl (by first | exact p0.1 | omega) (show x < 24 by first | exact oq_7fdb8aa6 p0.2 | omega) (cbig_ok rfl) ?_)))))
  have b1 := bc_51 I (show (x).toNat < 24 by first | exact oq_138251d6 p0.2 | omega)
  refine z_ald X 56 rfl (c518_ok rfl) rfl (by first | exact b1.1 | omega) (show (iC s 51 (x).toNat) < 6 by first | exact oq_9207f8f8 b1.2 | omega) (cbig_ok rfl) ?_
  have b2 := bc_47 I (show ((iC s 51 (x).toNat)).toNat < 6 by first | exact oq_78f9cd89 b1.2 | omega)
  exact w_iret X.1 q hRt rfl (ax_d X (show cdA 44 11 = some (.ireturn, 1, 0, 0, 0) from rfl)) (Nat.zero_le _) (Nat.zero_le _) ⟨_, rfl, I, F, (iC s 47 ((iC s 51 (x).toNat)).toNat), rfl, (rng_to _), trivial⟩
set_option maxRecDepth 4000 in
theorem c4_add_54 (G : GX l s0 D tys a0 dT) (I : Bd s) {x : Int} (p0 : 0 ≤ x ∧ x ≤ 16777215) : CT l s0 D A dT 43 (rmN 43) [.ref (A 54), .int (Int32.ofInt x)] s (fun o t => Bd t ∧ Fm [32] [46] s t ∧ ∃ e, o = .inl (some (.int (Int32.ofInt e))) ∧ rng e ∧ ((iI s 32 ≤ 5 ∧ iI t 32 = iI s 32 + 1 ∧ e = iI s 32) ∨ (iI s 32 = 6 ∧ iI t 32 = 6 ∧ e = -1))) := by
  refine ct_ofX G (by decide) (Nat.le_of_ble_eq_true rfl) (fun k X E ET hRt hXt q => ?_)
  show WS k 0 [(0, .ref (A 54)), (1, .int (Int32.ofInt x))] [] _ 0 0
  have F : Fm [32] [46] s s := fm_rf _ _ s
  have b1 := bi_32 I
  refine z_aload_n X (x := A 54) rfl (List.Mem.head _) (z_getI X 54 rfl (c518_ok rfl) rfl rfl ?_)
  have b2 := bi_32 I
  refine z_bipush X rfl (z_icmp_lt X (t := 11) rfl rfl (rng_to _) (by decide) (fun g3 => ?_) (fun g3 => ?_))
  ·
    refine z_aload_n X (x := A 54) rfl (List.Mem.head _) (s_getR X 54 rfl (c518_ok rfl) rfl rfl (z_aload_n X (x := A 54) rfl (List.Mem.head _) (z_getI X 54 rfl (c518_ok rfl) rfl rfl ?_)))
    have b4 := bi_32 I
    refine z_load_n X (x := x) rfl (List.Mem.tail _ (List.Mem.head _)) (z_ast X 55 rfl (c518_ok rfl) rfl (by first | exact b4.1 | omega) (show (iI s 32) < 6 by first | exact g3 | omega) (cbig_ok rfl) (wd_gen (fun s5 hs5 => ?_)))
    have Is5 : Bd s5 := eqB hs5 (bd_C I (show (0 : Int) ≤ x ∧ x ≤ 16777215 by first | exact ⟨p0.1, p0.2⟩ | omega) ⟨by first | exact oq_fa4e5087 p0.1 | omega, by first | exact oq_996e9f4e p0.2 | omega⟩)
    have Fs5 := eqF hs5 (fm_C F (inl_ok (a := 46) rfl))
    have ws5_32 : iI s5 32 = iI s 32 := eqI hs5 rfl
    refine z_aload_n X (x := A 54) rfl (List.Mem.head _) (w_dup X.1 (ax_d X (show cdA 43 22 = some (.dup, 1, 0, 0, 0) from rfl)) rfl (z_getI X 54 rfl (c518_ok rfl) rfl rfl ?_))
    have b6 := bi_32 Is5
    refine z_const X rfl (z_add X rfl (s_putI X 54 rfl (c518_ok rfl) rfl rfl (by decide) rfl rfl rfl (wd_gen (fun s7 hs7 => ?_))))
    have Is7 : Bd s7 := eqB hs7 (bd_I Is5 (show (0 : Int) ≤ ((iI s5 32) + 1) ∧ ((iI s5 32) + 1) ≤ 6 by first | exact ⟨oq_54f49eb5 b6.1, oq_d8f0483d ws5_32 g3⟩ | omega) ⟨by first | exact oq_74de1e16 b6.1 | omega, by first | exact oq_5fe14c36 b6.2 | omega⟩)
    have Fs7 := eqF hs7 (fm_I Fs5 (inl_ok (a := 32) rfl))
    have vs7 : iI s7 32 = ((iI s5 32) + 1) := eqI hs7 (iI_u ⟨by first | exact oq_74de1e16 b6.1 | omega, by first | exact oq_5fe14c36 b6.2 | omega⟩)
    refine z_aload_n X (x := A 54) rfl (List.Mem.head _) (z_getI X 54 rfl (c518_ok rfl) rfl rfl ?_)
    have b8 := bi_32 Is7
    refine z_const X rfl (z_sub X rfl ?_)
    exact w_iret X.1 q hRt rfl (ax_d X (show cdA 43 37 = some (.ireturn, 1, 0, 0, 0) from rfl)) (Nat.zero_le _) (Nat.zero_le _) ⟨_, rfl, Is7, Fs7, ((iI s7 32) - 1), rfl, ⟨by first | exact oq_c1e961c7 b8.1 | omega, by first | exact oq_b383b26c b8.2 | omega⟩, by first | exact Or.inl (And.intro (oq_a4cef127 g3) (And.intro (oq_665cd23d vs7 ws5_32) (oq_5e19d6ec vs7 ws5_32))) | omega⟩
  ·
    refine z_const X rfl ?_
    exact w_iret X.1 q hRt rfl (ax_d X (show cdA 43 10 = some (.ireturn, 1, 0, 0, 0) from rfl)) (Nat.zero_le _) (Nat.zero_le _) ⟨_, rfl, I, F, (-1), rfl, (by decide), by first | exact Or.inr (And.intro (oq_0dbc568f b2.2 g3) (And.intro (oq_0dbc568f b2.2 g3) (by decide))) | omega⟩
set_option maxRecDepth 4000 in
theorem c6_setWork_61 (G : GX l s0 D tys a0 dT) (I : Bd s) {x : Int} (p0 : 1 ≤ x ∧ x ≤ 24) : CT l s0 D A dT 60 (rmN 60) [.ref (A 61), .int (Int32.ofInt x)] s (fun o t => Bd t ∧ Fm [36] [] s t ∧ ∃ e, o = .inl (some (.int (Int32.ofInt e))) ∧ rng e ∧ (e = iI s 36 ∧ iI t 36 = x)) := by
  refine ct_ofX G (by decide) (Nat.le_of_ble_eq_true rfl) (fun k X E ET hRt hXt q => ?_)
  show WS k 0 [(0, .ref (A 61)), (1, .int (Int32.ofInt x))] [] _ 0 0
  have F : Fm [36] [] s s := fm_rf _ _ s
  have b1 := bi_36 I
  refine z_aload_n X (x := A 61) rfl (List.Mem.head _) (z_getI X 61 rfl (c518_ok rfl) rfl rfl ?_)
  have b2 := bi_36 I
  refine z_store_n X (lv' := [(2, .int (Int32.ofInt (iI s 36))), (0, .ref (A 61)), (1, .int (Int32.ofInt x))]) rfl (by decide) (fun _ h => h) (z_aload_n X (x := A 61) rfl (List.Mem.tail _ (List.Mem.head _)) (z_load_n X (x := x) rfl (List.Mem.tail _ (List.Mem.tail _ (List.Mem.head _))) (s_putI X 61 rfl (c518_ok rfl) rfl rfl (by decide) rfl rfl rfl (wd_gen (fun s3 hs3 => ?_)))))
  have Is3 : Bd s3 := eqB hs3 (bd_I I (show (1 : Int) ≤ x ∧ x ≤ 24 by first | exact ⟨p0.1, p0.2⟩ | omega) ⟨by first | exact oq_9462313e p0.1 | omega, by first | exact oq_5bcd337f p0.2 | omega⟩)
  have Fs3 := eqF hs3 (fm_I F (inl_ok (a := 36) rfl))
  have vs3 : iI s3 36 = x := eqI hs3 (iI_u ⟨by first | exact oq_9462313e p0.1 | omega, by first | exact oq_5bcd337f p0.2 | omega⟩)
  refine z_load_n X (x := (iI s 36)) rfl (List.Mem.head _) ?_
  exact w_iret X.1 q hRt rfl (ax_d X (show cdA 60 11 = some (.ireturn, 1, 0, 0, 0) from rfl)) (Nat.zero_le _) (Nat.zero_le _) ⟨_, rfl, Is3, Fs3, (iI s 36), rfl, (rng_to _), by first | exact ⟨by decide, vs3⟩ | omega⟩
set_option maxRecDepth 4000 in
theorem c6_setRest_61 (G : GX l s0 D tys a0 dT) (I : Bd s) {x : Int} (p0 : 1 ≤ x ∧ x ≤ 8) : CT l s0 D A dT 61 (rmN 61) [.ref (A 61), .int (Int32.ofInt x)] s (fun o t => Bd t ∧ Fm [37] [] s t ∧ ∃ e, o = .inl (some (.int (Int32.ofInt e))) ∧ rng e ∧ (e = iI s 37 ∧ iI t 37 = x)) := by
  refine ct_ofX G (by decide) (Nat.le_of_ble_eq_true rfl) (fun k X E ET hRt hXt q => ?_)
  show WS k 0 [(0, .ref (A 61)), (1, .int (Int32.ofInt x))] [] _ 0 0
  have F : Fm [37] [] s s := fm_rf _ _ s
  have b1 := bi_37 I
  refine z_aload_n X (x := A 61) rfl (List.Mem.head _) (z_getI X 61 rfl (c518_ok rfl) rfl rfl ?_)
  have b2 := bi_37 I
  refine z_store_n X (lv' := [(2, .int (Int32.ofInt (iI s 37))), (0, .ref (A 61)), (1, .int (Int32.ofInt x))]) rfl (by decide) (fun _ h => h) (z_aload_n X (x := A 61) rfl (List.Mem.tail _ (List.Mem.head _)) (z_load_n X (x := x) rfl (List.Mem.tail _ (List.Mem.tail _ (List.Mem.head _))) (s_putI X 61 rfl (c518_ok rfl) rfl rfl (by decide) rfl rfl rfl (wd_gen (fun s3 hs3 => ?_)))))
  have Is3 : Bd s3 := eqB hs3 (bd_I I (show (1 : Int) ≤ x ∧ x ≤ 8 by first | exact ⟨p0.1, p0.2⟩ | omega) ⟨by first | exact oq_9462313e p0.1 | omega, by first | exact oq_d3f5d874 p0.2 | omega⟩)
  have Fs3 := eqF hs3 (fm_I F (inl_ok (a := 37) rfl))
  have vs3 : iI s3 37 = x := eqI hs3 (iI_u ⟨by first | exact oq_9462313e p0.1 | omega, by first | exact oq_d3f5d874 p0.2 | omega⟩)
  refine z_load_n X (x := (iI s 37)) rfl (List.Mem.head _) ?_
  exact w_iret X.1 q hRt rfl (ax_d X (show cdA 61 11 = some (.ireturn, 1, 0, 0, 0) from rfl)) (Nat.zero_le _) (Nat.zero_le _) ⟨_, rfl, Is3, Fs3, (iI s 37), rfl, (rng_to _), by first | exact ⟨by decide, vs3⟩ | omega⟩
set_option maxRecDepth 4000 in
theorem c6_mayGoOn_61 (G : GX l s0 D tys a0 dT) (I : Bd s) {x y : Int} (p0 : 1 ≤ x ∧ x ≤ 8) (p1 : 0 ≤ y ∧ y ≤ 23) : CT l s0 D A dT 63 (rmN 63) [.ref (A 61), .int (Int32.ofInt x), .int (Int32.ofInt y)] s (fun o t => Bd t ∧ Fm [] [] s t ∧ ∃ e, o = .inl (some (.int (Int32.ofInt e))) ∧ rng e ∧ (True)) := by
  refine ct_ofX G (by decide) (Nat.le_of_ble_eq_true rfl) (fun k X E ET hRt hXt q => ?_)
  show WS k 0 [(0, .ref (A 61)), (1, .int (Int32.ofInt x)), (2, .int (Int32.ofInt y))] [] _ 0 0
  have F : Fm [] [] s s := fm_rf _ _ s
  have L5 : ∀ (n : Nat) (t : PS) (xv yv bi p : Int), Bd t → Fm [] [] s t → ((1 ≤ xv ∧ xv ≤ 8) ∧ (0 ≤ yv ∧ yv ≤ 23) ∧ rng bi ∧ 0 ≤ p ∧ p ≤ 8) → (8 - p : Int).toNat < n → (∀ (t' : PS) (bi' p' : Int), Bd t' → Fm [] [] s t' → ((1 ≤ xv ∧ xv ≤ 8) ∧ (0 ≤ yv ∧ yv ≤ 23) ∧ rng bi' ∧ 0 ≤ p' ∧ p' ≤ 8) → WS k 59 [(0, .ref (A 61)), (1, .int (Int32.ofInt xv)), (2, .int (Int32.ofInt yv)), (3, .int (Int32.ofInt bi')), (4, .int (Int32.ofInt p'))] [] (Wd A dT t') 0 0) → WS k 5 [(0, .ref (A 61)), (1, .int (Int32.ofInt xv)), (2, .int (Int32.ofInt yv)), (3, .int (Int32.ofInt bi)), (4, .int (Int32.ofInt p))] [] (Wd A dT t) 0 0 := by
    intro n
    induction n with
    | zero =>
      intro t xv yv bi p I F hi hm kx
      exact absurd hm (Nat.not_lt_zero _)
    | succ n ih =>
      intro t xv yv bi p I F hi hm kx
      refine z_load X (x := p) rfl (List.Mem.tail _ (List.Mem.tail _ (List.Mem.tail _ (List.Mem.tail _ (List.Mem.head _))))) (z_load_n X (x := xv) rfl (List.Mem.tail _ (List.Mem.head _)) (z_icmp_ge X (t := 59) rfl rfl ⟨by first | exact oq_fa4e5087 hi.2.2.2.1 | omega, by first | exact oq_d3f5d874 hi.2.2.2.2 | omega⟩ ⟨by first | exact oq_9462313e hi.1.1 | omega, by first | exact oq_d3f5d874 hi.1.2 | omega⟩ (fun g1001 => ?_) (fun g1001 => ?_)))
      ·
        refine WS_pq [0, 1, 2, 3, 4] (lv' := [(0, .ref (A 61)), (1, .int (Int32.ofInt xv)), (2, .int (Int32.ofInt yv)), (3, .int (Int32.ofInt bi)), (4, .int (Int32.ofInt p))]) rfl ?_
        exact kx _ bi p I F (by first | exact ⟨And.intro (hi.1.1) (hi.1.2), And.intro (hi.2.1.1) (hi.2.1.2), And.intro (hi.2.2.1.1) (hi.2.2.1.2), hi.2.2.2.1, hi.2.2.2.2⟩ | omega)
      ·
        refine z_aload_n X (x := A 61) rfl (List.Mem.head _) (s_getR X 61 rfl (c518_ok rfl) rfl rfl (z_load X (x := p) rfl (List.Mem.tail _ (List.Mem.tail _ (List.Mem.tail _ (List.Mem.tail _ (List.Mem.head _))))) (z_ald X 63 rfl (c518_ok rfl) rfl (by first | exact hi.2.2.2.1 | omega) (show p < 8 by first | exact oq_7f5b2e79 g1001 hi.1.2 | omega) (cbig_ok rfl) ?_)))
        have b1002 := bc_53 I (show (p).toNat < 8 by first | exact oq_67be0351 g1001 hi.1.2 | omega)
        refine z_if_le X (t := 53) rfl rfl (rng_to _) (fun g1003 => ?_) (fun g1003 => ?_)
        ·
          refine z_inc X (x := p) (lv' := [(4, .int (Int32.ofInt (p + 1))), (0, .ref (A 61)), (1, .int (Int32.ofInt xv)), (2, .int (Int32.ofInt yv)), (3, .int (Int32.ofInt bi))]) rfl (by decide) (List.Mem.tail _ (List.Mem.tail _ (List.Mem.tail _ (List.Mem.tail _ (List.Mem.head _))))) (fun _ h => h) (z_goto X (t := 5) rfl rfl (WS_pq [1, 2, 3, 4, 0] (lv' := [(0, .ref (A 61)), (1, .int (Int32.ofInt xv)), (2, .int (Int32.ofInt yv)), (3, .int (Int32.ofInt bi)), (4, .int (Int32.ofInt (p + 1)))]) rfl ?_))
          exact ih _ xv yv bi (p + 1) I F (by first | exact ⟨And.intro (hi.1.1) (hi.1.2), And.intro (hi.2.1.1) (hi.2.1.2), And.intro (hi.2.2.1.1) (hi.2.2.1.2), oq_54f49eb5 hi.2.2.2.1, oq_f6204d84 g1001 hi.1.2⟩ | omega) (by first | exact qk_me hm (by decide) (oq_ccc5e5e0 g1001 hi.1.2) | omega) kx
        ·
          refine z_aload_n X (x := A 61) rfl (List.Mem.head _) (s_getR X 61 rfl (c518_ok rfl) rfl rfl (z_load X (x := p) rfl (List.Mem.tail _ (List.Mem.tail _ (List.Mem.tail _ (List.Mem.tail _ (List.Mem.head _))))) (z_ald X 63 rfl (c518_ok rfl) rfl (by first | exact hi.2.2.2.1 | omega) (show p < 8 by first | exact oq_7f5b2e79 g1001 hi.1.2 | omega) (cbig_ok rfl) ?_)))
          have b1004 := bc_53 I (show (p).toNat < 8 by first | exact oq_67be0351 g1001 hi.1.2 | omega)
          refine z_aload_n X (x := A 61) rfl (List.Mem.head _) (z_getI X 61 rfl (c518_ok rfl) rfl rfl ?_)
          have b1005 := bi_36 I
          refine z_icmp_ge X (t := 53) rfl rfl (rng_to _) (rng_to _) (fun g1006 => ?_) (fun g1006 => ?_)
          ·
            refine z_inc X (x := p) (lv' := [(4, .int (Int32.ofInt (p + 1))), (0, .ref (A 61)), (1, .int (Int32.ofInt xv)), (2, .int (Int32.ofInt yv)), (3, .int (Int32.ofInt bi))]) rfl (by decide) (List.Mem.tail _ (List.Mem.tail _ (List.Mem.tail _ (List.Mem.tail _ (List.Mem.head _))))) (fun _ h => h) (z_goto X (t := 5) rfl rfl (WS_pq [1, 2, 3, 4, 0] (lv' := [(0, .ref (A 61)), (1, .int (Int32.ofInt xv)), (2, .int (Int32.ofInt yv)), (3, .int (Int32.ofInt bi)), (4, .int (Int32.ofInt (p + 1)))]) rfl ?_))
            exact ih _ xv yv bi (p + 1) I F (by first | exact ⟨And.intro (hi.1.1) (hi.1.2), And.intro (hi.2.1.1) (hi.2.1.2), And.intro (hi.2.2.1.1) (hi.2.2.1.2), oq_54f49eb5 hi.2.2.2.1, oq_f6204d84 g1001 hi.1.2⟩ | omega) (by first | exact qk_me hm (by decide) (oq_ccc5e5e0 g1001 hi.1.2) | omega) kx
          ·
            refine z_load_n X (x := yv) rfl (List.Mem.tail _ (List.Mem.tail _ (List.Mem.head _))) (z_aload_n X (x := A 61) rfl (List.Mem.head _) (s_getR X 61 rfl (c518_ok rfl) rfl rfl (z_load X (x := p) rfl (List.Mem.tail _ (List.Mem.tail _ (List.Mem.tail _ (List.Mem.tail _ (List.Mem.head _))))) (z_ald X 62 rfl (c518_ok rfl) rfl (by first | exact hi.2.2.2.1 | omega) (show p < 8 by first | exact oq_7f5b2e79 g1001 hi.1.2 | omega) (cbig_ok rfl) ?_))))
            have b1007 := bc_52 I (show (p).toNat < 8 by first | exact oq_67be0351 g1001 hi.1.2 | omega)
            refine z_icmp_ge X (t := 53) rfl rfl ⟨by first | exact oq_fa4e5087 hi.2.1.1 | omega, by first | exact oq_1a42ef34 hi.2.1.2 | omega⟩ (rng_to _) (fun g1008 => ?_) (fun g1008 => ?_)
            ·
              refine z_inc X (x := p) (lv' := [(4, .int (Int32.ofInt (p + 1))), (0, .ref (A 61)), (1, .int (Int32.ofInt xv)), (2, .int (Int32.ofInt yv)), (3, .int (Int32.ofInt bi))]) rfl (by decide) (List.Mem.tail _ (List.Mem.tail _ (List.Mem.tail _ (List.Mem.tail _ (List.Mem.head _))))) (fun _ h => h) (z_goto X (t := 5) rfl rfl (WS_pq [1, 2, 3, 4, 0] (lv' := [(0, .ref (A 61)), (1, .int (Int32.ofInt xv)), (2, .int (Int32.ofInt yv)), (3, .int (Int32.ofInt bi)), (4, .int (Int32.ofInt (p + 1)))]) rfl ?_))
              exact ih _ xv yv bi (p + 1) I F (by first | exact ⟨And.intro (hi.1.1) (hi.1.2), And.intro (hi.2.1.1) (hi.2.1.2), And.intro (hi.2.2.1.1) (hi.2.2.1.2), oq_54f49eb5 hi.2.2.2.1, oq_f6204d84 g1001 hi.1.2⟩ | omega) (by first | exact qk_me hm (by decide) (oq_ccc5e5e0 g1001 hi.1.2) | omega) kx
            ·
              refine z_load_n X (x := bi) rfl (List.Mem.tail _ (List.Mem.tail _ (List.Mem.tail _ (List.Mem.head _)))) (z_const X rfl (z_load X (x := p) rfl (List.Mem.tail _ (List.Mem.tail _ (List.Mem.tail _ (List.Mem.tail _ (List.Mem.head _))))) (z_bshl X rfl (z_any (fun y1009 hy1009 => ?_)))))
              refine z_bor X rfl (z_any (fun y1010 hy1010 => ?_))
              refine z_store_n X (lv' := [(3, .int (Int32.ofInt y1010)), (0, .ref (A 61)), (1, .int (Int32.ofInt xv)), (2, .int (Int32.ofInt yv)), (4, .int (Int32.ofInt p))]) rfl (by decide) (fun _ h => h) (z_inc X (x := p) (lv' := [(4, .int (Int32.ofInt (p + 1))), (3, .int (Int32.ofInt y1010)), (0, .ref (A 61)), (1, .int (Int32.ofInt xv)), (2, .int (Int32.ofInt yv))]) rfl (by decide) (List.Mem.tail _ (List.Mem.tail _ (List.Mem.tail _ (List.Mem.tail _ (List.Mem.head _))))) (fun _ h => h) (z_goto X (t := 5) rfl rfl (WS_pq [2, 3, 4, 1, 0] (lv' := [(0, .ref (A 61)), (1, .int (Int32.ofInt xv)), (2, .int (Int32.ofInt yv)), (3, .int (Int32.ofInt y1010)), (4, .int (Int32.ofInt (p + 1)))]) rfl ?_)))
              exact ih _ xv yv y1010 (p + 1) I F (by first | exact ⟨And.intro (hi.1.1) (hi.1.2), And.intro (hi.2.1.1) (hi.2.1.2), And.intro (hy1010.1) (hy1010.2), oq_54f49eb5 hi.2.2.2.1, oq_f6204d84 g1001 hi.1.2⟩ | omega) (by first | exact qk_me hm (by decide) (oq_ccc5e5e0 g1001 hi.1.2) | omega) kx
  refine z_const X rfl (z_store_n X (lv' := [(3, .int (Int32.ofInt 0)), (0, .ref (A 61)), (1, .int (Int32.ofInt x)), (2, .int (Int32.ofInt y))]) rfl (by decide) (fun _ h => h) (z_const X rfl (z_store X (lv' := [(4, .int (Int32.ofInt 0)), (3, .int (Int32.ofInt 0)), (0, .ref (A 61)), (1, .int (Int32.ofInt x)), (2, .int (Int32.ofInt y))]) rfl (by decide) (fun _ h => h) (WS_pq [2, 3, 4, 1, 0] (lv' := [(0, .ref (A 61)), (1, .int (Int32.ofInt x)), (2, .int (Int32.ofInt y)), (3, .int (Int32.ofInt 0)), (4, .int (Int32.ofInt 0))]) rfl (L5 ((8 - 0 : Int).toNat + 1) s x y 0 0 I F (by first | exact ⟨And.intro (p0.1) (p0.2), And.intro (p1.1) (p1.2), And.intro (by decide) (by decide), by decide, by decide⟩ | omega) (Nat.lt_succ_self _) ?_)))))
  intro s1 x2 x3 Is1 Fs1 hs1
  refine z_load_n X (x := x2) rfl (List.Mem.tail _ (List.Mem.tail _ (List.Mem.tail _ (List.Mem.head _)))) ?_
  exact w_iret X.1 q hRt rfl (ax_d X (show cdA 63 60 = some (.ireturn, 1, 0, 0, 0) from rfl)) (Nat.zero_le _) (Nat.zero_le _) ⟨_, rfl, Is1, Fs1, x2, rfl, ⟨by first | exact hs1.2.2.1.1 | omega, by first | exact hs1.2.2.1.2 | omega⟩, trivial⟩
set_option maxRecDepth 4000 in
theorem c6_mayBegin_61 (G : GX l s0 D tys a0 dT) (I : Bd s) {x y : Int} (p0 : 1 ≤ x ∧ x ≤ 8) (p1 : 0 ≤ y ∧ y ≤ 23) : CT l s0 D A dT 64 (rmN 64) [.ref (A 61), .int (Int32.ofInt x), .int (Int32.ofInt y)] s (fun o t => Bd t ∧ Fm [] [] s t ∧ ∃ e, o = .inl (some (.int (Int32.ofInt e))) ∧ rng e ∧ (True)) := by
  refine ct_ofX G (by decide) (Nat.le_of_ble_eq_true rfl) (fun k X E ET hRt hXt q => ?_)
  show WS k 0 [(0, .ref (A 61)), (1, .int (Int32.ofInt x)), (2, .int (Int32.ofInt y))] [] _ 0 0
  have F : Fm [] [] s s := fm_rf _ _ s
  have L5 : ∀ (n : Nat) (t : PS) (xv yv bi p : Int), Bd t → Fm [] [] s t → ((1 ≤ xv ∧ xv ≤ 8) ∧ (0 ≤ yv ∧ yv ≤ 23) ∧ rng bi ∧ 0 ≤ p ∧ p ≤ 8) → (8 - p : Int).toNat < n → (∀ (t' : PS) (bi' p' : Int), Bd t' → Fm [] [] s t' → ((1 ≤ xv ∧ xv ≤ 8) ∧ (0 ≤ yv ∧ yv ≤ 23) ∧ rng bi' ∧ 0 ≤ p' ∧ p' ≤ 8) → WS k 56 [(0, .ref (A 61)), (1, .int (Int32.ofInt xv)), (2, .int (Int32.ofInt yv)), (3, .int (Int32.ofInt bi')), (4, .int (Int32.ofInt p'))] [] (Wd A dT t') 0 0) → WS k 5 [(0, .ref (A 61)), (1, .int (Int32.ofInt xv)), (2, .int (Int32.ofInt yv)), (3, .int (Int32.ofInt bi)), (4, .int (Int32.ofInt p))] [] (Wd A dT t) 0 0 := by
    intro n
    induction n with
    | zero =>
      intro t xv yv bi p I F hi hm kx
      exact absurd hm (Nat.not_lt_zero _)
    | succ n ih =>
      intro t xv yv bi p I F hi hm kx
      refine z_load X (x := p) rfl (List.Mem.tail _ (List.Mem.tail _ (List.Mem.tail _ (List.Mem.tail _ (List.Mem.head _))))) (z_load_n X (x := xv) rfl (List.Mem.tail _ (List.Mem.head _)) (z_icmp_ge X (t := 56) rfl rfl ⟨by first | exact oq_fa4e5087 hi.2.2.2.1 | omega, by first | exact oq_d3f5d874 hi.2.2.2.2 | omega⟩ ⟨by first | exact oq_9462313e hi.1.1 | omega, by first | exact oq_d3f5d874 hi.1.2 | omega⟩ (fun g1001 => ?_) (fun g1001 => ?_)))
      ·
        refine WS_pq [0, 1, 2, 3, 4] (lv' := [(0, .ref (A 61)), (1, .int (Int32.ofInt xv)), (2, .int (Int32.ofInt yv)), (3, .int (Int32.ofInt bi)), (4, .int (Int32.ofInt p))]) rfl ?_
        exact kx _ bi p I F (by first | exact ⟨And.intro (hi.1.1) (hi.1.2), And.intro (hi.2.1.1) (hi.2.1.2), And.intro (hi.2.2.1.1) (hi.2.2.1.2), hi.2.2.2.1, hi.2.2.2.2⟩ | omega)
      ·
        refine z_aload_n X (x := A 61) rfl (List.Mem.head _) (s_getR X 61 rfl (c518_ok rfl) rfl rfl (z_load X (x := p) rfl (List.Mem.tail _ (List.Mem.tail _ (List.Mem.tail _ (List.Mem.tail _ (List.Mem.head _))))) (z_ald X 63 rfl (c518_ok rfl) rfl (by first | exact hi.2.2.2.1 | omega) (show p < 8 by first | exact oq_7f5b2e79 g1001 hi.1.2 | omega) (cbig_ok rfl) ?_)))
        have b1002 := bc_53 I (show (p).toNat < 8 by first | exact oq_67be0351 g1001 hi.1.2 | omega)
        refine z_if_ne X (t := 50) rfl rfl (rng_to _) (fun g1003 => ?_) (fun g1003 => ?_)
        ·
          refine z_inc X (x := p) (lv' := [(4, .int (Int32.ofInt (p + 1))), (0, .ref (A 61)), (1, .int (Int32.ofInt xv)), (2, .int (Int32.ofInt yv)), (3, .int (Int32.ofInt bi))]) rfl (by decide) (List.Mem.tail _ (List.Mem.tail _ (List.Mem.tail _ (List.Mem.tail _ (List.Mem.head _))))) (fun _ h => h) (z_goto X (t := 5) rfl rfl (WS_pq [1, 2, 3, 4, 0] (lv' := [(0, .ref (A 61)), (1, .int (Int32.ofInt xv)), (2, .int (Int32.ofInt yv)), (3, .int (Int32.ofInt bi)), (4, .int (Int32.ofInt (p + 1)))]) rfl ?_))
          exact ih _ xv yv bi (p + 1) I F (by first | exact ⟨And.intro (hi.1.1) (hi.1.2), And.intro (hi.2.1.1) (hi.2.1.2), And.intro (hi.2.2.1.1) (hi.2.2.1.2), oq_54f49eb5 hi.2.2.2.1, oq_f6204d84 g1001 hi.1.2⟩ | omega) (by first | exact qk_me hm (by decide) (oq_ccc5e5e0 g1001 hi.1.2) | omega) kx
        ·
          refine z_load_n X (x := yv) rfl (List.Mem.tail _ (List.Mem.tail _ (List.Mem.head _))) (z_aload_n X (x := A 61) rfl (List.Mem.head _) (s_getR X 61 rfl (c518_ok rfl) rfl rfl (z_load X (x := p) rfl (List.Mem.tail _ (List.Mem.tail _ (List.Mem.tail _ (List.Mem.tail _ (List.Mem.head _))))) (z_ald X 64 rfl (c518_ok rfl) rfl (by first | exact hi.2.2.2.1 | omega) (show p < 8 by first | exact oq_7f5b2e79 g1001 hi.1.2 | omega) (cbig_ok rfl) ?_))))
          have b1004 := bc_54 I (show (p).toNat < 8 by first | exact oq_67be0351 g1001 hi.1.2 | omega)
          refine z_icmp_lt X (t := 50) rfl rfl ⟨by first | exact oq_fa4e5087 hi.2.1.1 | omega, by first | exact oq_1a42ef34 hi.2.1.2 | omega⟩ (rng_to _) (fun g1005 => ?_) (fun g1005 => ?_)
          ·
            refine z_inc X (x := p) (lv' := [(4, .int (Int32.ofInt (p + 1))), (0, .ref (A 61)), (1, .int (Int32.ofInt xv)), (2, .int (Int32.ofInt yv)), (3, .int (Int32.ofInt bi))]) rfl (by decide) (List.Mem.tail _ (List.Mem.tail _ (List.Mem.tail _ (List.Mem.tail _ (List.Mem.head _))))) (fun _ h => h) (z_goto X (t := 5) rfl rfl (WS_pq [1, 2, 3, 4, 0] (lv' := [(0, .ref (A 61)), (1, .int (Int32.ofInt xv)), (2, .int (Int32.ofInt yv)), (3, .int (Int32.ofInt bi)), (4, .int (Int32.ofInt (p + 1)))]) rfl ?_))
            exact ih _ xv yv bi (p + 1) I F (by first | exact ⟨And.intro (hi.1.1) (hi.1.2), And.intro (hi.2.1.1) (hi.2.1.2), And.intro (hi.2.2.1.1) (hi.2.2.1.2), oq_54f49eb5 hi.2.2.2.1, oq_f6204d84 g1001 hi.1.2⟩ | omega) (by first | exact qk_me hm (by decide) (oq_ccc5e5e0 g1001 hi.1.2) | omega) kx
          ·
            refine z_load_n X (x := yv) rfl (List.Mem.tail _ (List.Mem.tail _ (List.Mem.head _))) (z_aload_n X (x := A 61) rfl (List.Mem.head _) (s_getR X 61 rfl (c518_ok rfl) rfl rfl (z_load X (x := p) rfl (List.Mem.tail _ (List.Mem.tail _ (List.Mem.tail _ (List.Mem.tail _ (List.Mem.head _))))) (z_ald X 62 rfl (c518_ok rfl) rfl (by first | exact hi.2.2.2.1 | omega) (show p < 8 by first | exact oq_7f5b2e79 g1001 hi.1.2 | omega) (cbig_ok rfl) ?_))))
            have b1006 := bc_52 I (show (p).toNat < 8 by first | exact oq_67be0351 g1001 hi.1.2 | omega)
            refine z_icmp_ge X (t := 50) rfl rfl ⟨by first | exact oq_fa4e5087 hi.2.1.1 | omega, by first | exact oq_1a42ef34 hi.2.1.2 | omega⟩ (rng_to _) (fun g1007 => ?_) (fun g1007 => ?_)
            ·
              refine z_inc X (x := p) (lv' := [(4, .int (Int32.ofInt (p + 1))), (0, .ref (A 61)), (1, .int (Int32.ofInt xv)), (2, .int (Int32.ofInt yv)), (3, .int (Int32.ofInt bi))]) rfl (by decide) (List.Mem.tail _ (List.Mem.tail _ (List.Mem.tail _ (List.Mem.tail _ (List.Mem.head _))))) (fun _ h => h) (z_goto X (t := 5) rfl rfl (WS_pq [1, 2, 3, 4, 0] (lv' := [(0, .ref (A 61)), (1, .int (Int32.ofInt xv)), (2, .int (Int32.ofInt yv)), (3, .int (Int32.ofInt bi)), (4, .int (Int32.ofInt (p + 1)))]) rfl ?_))
              exact ih _ xv yv bi (p + 1) I F (by first | exact ⟨And.intro (hi.1.1) (hi.1.2), And.intro (hi.2.1.1) (hi.2.1.2), And.intro (hi.2.2.1.1) (hi.2.2.1.2), oq_54f49eb5 hi.2.2.2.1, oq_f6204d84 g1001 hi.1.2⟩ | omega) (by first | exact qk_me hm (by decide) (oq_ccc5e5e0 g1001 hi.1.2) | omega) kx
            ·
              refine z_load_n X (x := bi) rfl (List.Mem.tail _ (List.Mem.tail _ (List.Mem.tail _ (List.Mem.head _)))) (z_const X rfl (z_load X (x := p) rfl (List.Mem.tail _ (List.Mem.tail _ (List.Mem.tail _ (List.Mem.tail _ (List.Mem.head _))))) (z_bshl X rfl (z_any (fun y1008 hy1008 => ?_)))))
              refine z_bor X rfl (z_any (fun y1009 hy1009 => ?_))
              refine z_store_n X (lv' := [(3, .int (Int32.ofInt y1009)), (0, .ref (A 61)), (1, .int (Int32.ofInt xv)), (2, .int (Int32.ofInt yv)), (4, .int (Int32.ofInt p))]) rfl (by decide) (fun _ h => h) (z_inc X (x := p) (lv' := [(4, .int (Int32.ofInt (p + 1))), (3, .int (Int32.ofInt y1009)), (0, .ref (A 61)), (1, .int (Int32.ofInt xv)), (2, .int (Int32.ofInt yv))]) rfl (by decide) (List.Mem.tail _ (List.Mem.tail _ (List.Mem.tail _ (List.Mem.tail _ (List.Mem.head _))))) (fun _ h => h) (z_goto X (t := 5) rfl rfl (WS_pq [2, 3, 4, 1, 0] (lv' := [(0, .ref (A 61)), (1, .int (Int32.ofInt xv)), (2, .int (Int32.ofInt yv)), (3, .int (Int32.ofInt y1009)), (4, .int (Int32.ofInt (p + 1)))]) rfl ?_)))
              exact ih _ xv yv y1009 (p + 1) I F (by first | exact ⟨And.intro (hi.1.1) (hi.1.2), And.intro (hi.2.1.1) (hi.2.1.2), And.intro (hy1009.1) (hy1009.2), oq_54f49eb5 hi.2.2.2.1, oq_f6204d84 g1001 hi.1.2⟩ | omega) (by first | exact qk_me hm (by decide) (oq_ccc5e5e0 g1001 hi.1.2) | omega) kx
  refine z_const X rfl (z_store_n X (lv' := [(3, .int (Int32.ofInt 0)), (0, .ref (A 61)), (1, .int (Int32.ofInt x)), (2, .int (Int32.ofInt y))]) rfl (by decide) (fun _ h => h) (z_const X rfl (z_store X (lv' := [(4, .int (Int32.ofInt 0)), (3, .int (Int32.ofInt 0)), (0, .ref (A 61)), (1, .int (Int32.ofInt x)), (2, .int (Int32.ofInt y))]) rfl (by decide) (fun _ h => h) (WS_pq [2, 3, 4, 1, 0] (lv' := [(0, .ref (A 61)), (1, .int (Int32.ofInt x)), (2, .int (Int32.ofInt y)), (3, .int (Int32.ofInt 0)), (4, .int (Int32.ofInt 0))]) rfl (L5 ((8 - 0 : Int).toNat + 1) s x y 0 0 I F (by first | exact ⟨And.intro (p0.1) (p0.2), And.intro (p1.1) (p1.2), And.intro (by decide) (by decide), by decide, by decide⟩ | omega) (Nat.lt_succ_self _) ?_)))))
  intro s1 x2 x3 Is1 Fs1 hs1
  refine z_load_n X (x := x2) rfl (List.Mem.tail _ (List.Mem.tail _ (List.Mem.tail _ (List.Mem.head _)))) ?_
  exact w_iret X.1 q hRt rfl (ax_d X (show cdA 64 57 = some (.ireturn, 1, 0, 0, 0) from rfl)) (Nat.zero_le _) (Nat.zero_le _) ⟨_, rfl, Is1, Fs1, x2, rfl, ⟨by first | exact hs1.2.2.1.1 | omega, by first | exact hs1.2.2.1.2 | omega⟩, trivial⟩
set_option maxRecDepth 4000 in
theorem c6_fewestOf_61 (G : GX l s0 D tys a0 dT) (I : Bd s) {x y : Int} (p0 : rng x) (p1 : rng y) : CT l s0 D A dT 65 (rmN 65) [.ref (A 61), .int (Int32.ofInt x), .int (Int32.ofInt y)] s (fun o t => Bd t ∧ Fm [] [] s t ∧ ∃ e, o = .inl (some (.int (Int32.ofInt e))) ∧ rng e ∧ (True)) := by
  refine ct_ofX G (by decide) (Nat.le_of_ble_eq_true rfl) (fun k X E ET hRt hXt q => ?_)
  show WS k 0 [(0, .ref (A 61)), (1, .int (Int32.ofInt x)), (2, .int (Int32.ofInt y))] [] _ 0 0
  have F : Fm [] [] s s := fm_rf _ _ s
  have L17 : ∀ (n : Nat) (t : PS) (xv yv ch c nx p : Int), Bd t → Fm [] [] s t → (rng xv ∧ rng yv ∧ rng ch ∧ (0 ≤ c ∧ c < yv) ∧ (-1 ≤ nx ∧ nx ≤ 7) ∧ 0 ≤ p ∧ p ≤ 8) → (8 - p : Int).toNat < n → (∀ (t' : PS) (nx' p' : Int), Bd t' → Fm [] [] s t' → (rng xv ∧ rng yv ∧ rng ch ∧ (0 ≤ c ∧ c < yv) ∧ (-1 ≤ nx' ∧ nx' ≤ 7) ∧ 0 ≤ p' ∧ p' ≤ 8) → WS k 82 [(0, .ref (A 61)), (1, .int (Int32.ofInt xv)), (2, .int (Int32.ofInt yv)), (3, .int (Int32.ofInt ch)), (4, .int (Int32.ofInt c)), (5, .int (Int32.ofInt nx')), (6, .int (Int32.ofInt p'))] [] (Wd A dT t') 0 0) → WS k 17 [(0, .ref (A 61)), (1, .int (Int32.ofInt xv)), (2, .int (Int32.ofInt yv)), (3, .int (Int32.ofInt ch)), (4, .int (Int32.ofInt c)), (5, .int (Int32.ofInt nx)), (6, .int (Int32.ofInt p))] [] (Wd A dT t) 0 0 := by
    intro n
    induction n with
    | zero =>
      intro t xv yv ch c nx p I F hi hm kx
      exact absurd hm (Nat.not_lt_zero _)
    | succ n ih =>
      intro t xv yv ch c nx p I F hi hm kx
      refine z_load X (x := p) rfl (List.Mem.tail _ (List.Mem.tail _ (List.Mem.tail _ (List.Mem.tail _ (List.Mem.tail _ (List.Mem.tail _ (List.Mem.head _))))))) (z_bipush X rfl (z_icmp_ge X (t := 82) rfl rfl ⟨by first | exact oq_fa4e5087 hi.2.2.2.2.2.1 | omega, by first | exact oq_d3f5d874 hi.2.2.2.2.2.2 | omega⟩ (by decide) (fun g1001 => ?_) (fun g1001 => ?_)))
      ·
        refine WS_pq [0, 1, 2, 3, 4, 5, 6] (lv' := [(0, .ref (A 61)), (1, .int (Int32.ofInt xv)), (2, .int (Int32.ofInt yv)), (3, .int (Int32.ofInt ch)), (4, .int (Int32.ofInt c)), (5, .int (Int32.ofInt nx)), (6, .int (Int32.ofInt p))]) rfl ?_
        exact kx _ nx p I F (by first | exact ⟨And.intro (hi.1.1) (hi.1.2), And.intro (hi.2.1.1) (hi.2.1.2), And.intro (hi.2.2.1.1) (hi.2.2.1.2), And.intro (hi.2.2.2.1.1) (hi.2.2.2.1.2), And.intro (hi.2.2.2.2.1.1) (hi.2.2.2.2.1.2), hi.2.2.2.2.2.1, hi.2.2.2.2.2.2⟩ | omega)
      ·
        refine z_load_n X (x := xv) rfl (List.Mem.tail _ (List.Mem.head _)) (z_load_n X (x := ch) rfl (List.Mem.tail _ (List.Mem.tail _ (List.Mem.tail _ (List.Mem.head _)))) (z_const X rfl (z_bxor X rfl (z_any (fun y1002 hy1002 => ?_)))))
        refine z_band X rfl (z_any (fun y1003 hy1003 => ?_))
        refine z_load X (x := p) rfl (List.Mem.tail _ (List.Mem.tail _ (List.Mem.tail _ (List.Mem.tail _ (List.Mem.tail _ (List.Mem.tail _ (List.Mem.head _))))))) (z_bshr X rfl (z_any (fun y1004 hy1004 => ?_)))
        refine z_const X rfl (z_andm X rfl (by decide) (by decide) (fun y1005 hy1005 gy1005 => ?_))
        have N1006 : ∀ e1007 : Int, (((y1005 = 0) ∧ e1007 = 0) ∨ ((y1005 ≠ 0) ∧ e1007 = 1)) → WS k 42 [(0, .ref (A 61)), (1, .int (Int32.ofInt xv)), (2, .int (Int32.ofInt yv)), (3, .int (Int32.ofInt ch)), (4, .int (Int32.ofInt c)), (5, .int (Int32.ofInt nx)), (6, .int (Int32.ofInt p))] [.int (Int32.ofInt e1007)] (Wd A dT t) 0 0 := by
          intro e1007 he1007
          have re1007 : 0 ≤ e1007 ∧ e1007 ≤ 1 := by first | (clear he1007; omega) | omega
          refine z_store X (lv' := [(7, .int (Int32.ofInt e1007)), (0, .ref (A 61)), (1, .int (Int32.ofInt xv)), (2, .int (Int32.ofInt yv)), (3, .int (Int32.ofInt ch)), (4, .int (Int32.ofInt c)), (5, .int (Int32.ofInt nx)), (6, .int (Int32.ofInt p))]) rfl (by decide) (fun _ h => h) (z_load X (x := e1007) rfl (List.Mem.head _) (z_if_eq X (t := 76) rfl rfl ⟨by first | exact oq_fa4e5087 re1007.1 | omega, by first | exact oq_22e1e6b0 re1007.2 | omega⟩ (fun g1008 => ?_) (fun g1008 => ?_)))
          ·
            refine z_inc X (x := p) (lv' := [(6, .int (Int32.ofInt (p + 1))), (7, .int (Int32.ofInt e1007)), (0, .ref (A 61)), (1, .int (Int32.ofInt xv)), (2, .int (Int32.ofInt yv)), (3, .int (Int32.ofInt ch)), (4, .int (Int32.ofInt c)), (5, .int (Int32.ofInt nx))]) rfl (by decide) (List.Mem.tail _ (List.Mem.tail _ (List.Mem.tail _ (List.Mem.tail _ (List.Mem.tail _ (List.Mem.tail _ (List.Mem.tail _ (List.Mem.head _)))))))) (fun _ h => h) (z_goto X (t := 17) rfl rfl (WS_pq [2, 3, 4, 5, 6, 7, 0] (lv' := [(0, .ref (A 61)), (1, .int (Int32.ofInt xv)), (2, .int (Int32.ofInt yv)), (3, .int (Int32.ofInt ch)), (4, .int (Int32.ofInt c)), (5, .int (Int32.ofInt nx)), (6, .int (Int32.ofInt (p + 1)))]) rfl ?_))
            exact ih _ xv yv ch c nx (p + 1) I F (by first | exact ⟨And.intro (hi.1.1) (hi.1.2), And.intro (hi.2.1.1) (hi.2.1.2), And.intro (hi.2.2.1.1) (hi.2.2.1.2), And.intro (hi.2.2.2.1.1) (hi.2.2.2.1.2), And.intro (hi.2.2.2.2.1.1) (hi.2.2.2.2.1.2), oq_54f49eb5 hi.2.2.2.2.2.1, oq_0c7b19c3 g1001⟩ | omega) (by first | exact qk_me hm (by decide) (oq_9f368f35 g1001) | omega) kx
          ·
            refine z_load X (x := nx) rfl (List.Mem.tail _ (List.Mem.tail _ (List.Mem.tail _ (List.Mem.tail _ (List.Mem.tail _ (List.Mem.tail _ (List.Mem.head _))))))) (z_const X rfl (z_icmp_eq X (t := 72) rfl rfl ⟨by first | exact oq_97ee2c2a hi.2.2.2.2.1.1 | omega, by first | exact oq_0e78ca7d hi.2.2.2.2.1.2 | omega⟩ (by decide) (fun g1009 => ?_) (fun g1009 => ?_)))
            ·
              refine z_load X (x := p) rfl (List.Mem.tail _ (List.Mem.tail _ (List.Mem.tail _ (List.Mem.tail _ (List.Mem.tail _ (List.Mem.tail _ (List.Mem.tail _ (List.Mem.head _)))))))) (z_store X (lv' := [(5, .int (Int32.ofInt p)), (7, .int (Int32.ofInt e1007)), (0, .ref (A 61)), (1, .int (Int32.ofInt xv)), (2, .int (Int32.ofInt yv)), (3, .int (Int32.ofInt ch)), (4, .int (Int32.ofInt c)), (6, .int (Int32.ofInt p))]) rfl (by decide) (fun _ h => h) (z_inc X (x := p) (lv' := [(6, .int (Int32.ofInt (p + 1))), (5, .int (Int32.ofInt p)), (7, .int (Int32.ofInt e1007)), (0, .ref (A 61)), (1, .int (Int32.ofInt xv)), (2, .int (Int32.ofInt yv)), (3, .int (Int32.ofInt ch)), (4, .int (Int32.ofInt c))]) rfl (by decide) (List.Mem.tail _ (List.Mem.tail _ (List.Mem.tail _ (List.Mem.tail _ (List.Mem.tail _ (List.Mem.tail _ (List.Mem.tail _ (List.Mem.head _)))))))) (fun _ h => h) (z_goto X (t := 17) rfl rfl (WS_pq [3, 4, 5, 6, 7, 1, 0] (lv' := [(0, .ref (A 61)), (1, .int (Int32.ofInt xv)), (2, .int (Int32.ofInt yv)), (3, .int (Int32.ofInt ch)), (4, .int (Int32.ofInt c)), (5, .int (Int32.ofInt p)), (6, .int (Int32.ofInt (p + 1)))]) rfl ?_))))
              exact ih _ xv yv ch c p (p + 1) I F (by first | exact ⟨And.intro (hi.1.1) (hi.1.2), And.intro (hi.2.1.1) (hi.2.1.2), And.intro (hi.2.2.1.1) (hi.2.2.1.2), And.intro (hi.2.2.2.1.1) (hi.2.2.2.1.2), And.intro (oq_ca54ea22 hi.2.2.2.2.2.1) (oq_78c639ed g1001), oq_54f49eb5 hi.2.2.2.2.2.1, oq_0c7b19c3 g1001⟩ | omega) (by first | exact qk_me hm (by decide) (oq_9f368f35 g1001) | omega) kx
            ·
              refine z_aload_n X (x := A 61) rfl (List.Mem.tail _ (List.Mem.head _)) (s_getR X 61 rfl (c518_ok rfl) rfl rfl (z_load X (x := p) rfl (List.Mem.tail _ (List.Mem.tail _ (List.Mem.tail _ (List.Mem.tail _ (List.Mem.tail _ (List.Mem.tail _ (List.Mem.tail _ (List.Mem.head _)))))))) (z_ald X 65 rfl (c518_ok rfl) rfl (by first | exact hi.2.2.2.2.2.1 | omega) (show p < 8 by first | exact g1001 | omega) (cbig_ok rfl) ?_)))
              have b1010 := bc_55 I (show (p).toNat < 8 by first | exact oq_db4b3b8b g1001 | omega)
              refine z_aload_n X (x := A 61) rfl (List.Mem.tail _ (List.Mem.head _)) (s_getR X 61 rfl (c518_ok rfl) rfl rfl (z_load X (x := nx) rfl (List.Mem.tail _ (List.Mem.tail _ (List.Mem.tail _ (List.Mem.tail _ (List.Mem.tail _ (List.Mem.tail _ (List.Mem.head _))))))) (z_ald X 65 rfl (c518_ok rfl) rfl (by first | exact oq_7a1025bf g1009 hi.2.2.2.2.1.1 | omega) (show nx < 8 by first | exact oq_aaea290e hi.2.2.2.2.1.2 | omega) (cbig_ok rfl) ?_)))
              have b1011 := bc_55 I (show (nx).toNat < 8 by first | exact oq_c19a3aae hi.2.2.2.2.1.2 | omega)
              refine z_icmp_ge X (t := 76) rfl rfl (rng_to _) (rng_to _) (fun g1012 => ?_) (fun g1012 => ?_)
              ·
                refine z_inc X (x := p) (lv' := [(6, .int (Int32.ofInt (p + 1))), (7, .int (Int32.ofInt e1007)), (0, .ref (A 61)), (1, .int (Int32.ofInt xv)), (2, .int (Int32.ofInt yv)), (3, .int (Int32.ofInt ch)), (4, .int (Int32.ofInt c)), (5, .int (Int32.ofInt nx))]) rfl (by decide) (List.Mem.tail _ (List.Mem.tail _ (List.Mem.tail _ (List.Mem.tail _ (List.Mem.tail _ (List.Mem.tail _ (List.Mem.tail _ (List.Mem.head _)))))))) (fun _ h => h) (z_goto X (t := 17) rfl rfl (WS_pq [2, 3, 4, 5, 6, 7, 0] (lv' := [(0, .ref (A 61)), (1, .int (Int32.ofInt xv)), (2, .int (Int32.ofInt yv)), (3, .int (Int32.ofInt ch)), (4, .int (Int32.ofInt c)), (5, .int (Int32.ofInt nx)), (6, .int (Int32.ofInt (p + 1)))]) rfl ?_))
                exact ih _ xv yv ch c nx (p + 1) I F (by first | exact ⟨And.intro (hi.1.1) (hi.1.2), And.intro (hi.2.1.1) (hi.2.1.2), And.intro (hi.2.2.1.1) (hi.2.2.1.2), And.intro (hi.2.2.2.1.1) (hi.2.2.2.1.2), And.intro (hi.2.2.2.2.1.1) (hi.2.2.2.2.1.2), oq_54f49eb5 hi.2.2.2.2.2.1, oq_0c7b19c3 g1001⟩ | omega) (by first | exact qk_me hm (by decide) (oq_9f368f35 g1001) | omega) kx
              ·
                refine z_load X (x := p) rfl (List.Mem.tail _ (List.Mem.tail _ (List.Mem.tail _ (List.Mem.tail _ (List.Mem.tail _ (List.Mem.tail _ (List.Mem.tail _ (List.Mem.head _)))))))) (z_store X (lv' := [(5, .int (Int32.ofInt p)), (7, .int (Int32.ofInt e1007)), (0, .ref (A 61)), (1, .int (Int32.ofInt xv)), (2, .int (Int32.ofInt yv)), (3, .int (Int32.ofInt ch)), (4, .int (Int32.ofInt c)), (6, .int (Int32.ofInt p))]) rfl (by decide) (fun _ h => h) (z_inc X (x := p) (lv' := [(6, .int (Int32.ofInt (p + 1))), (5, .int (Int32.ofInt p)), (7, .int (Int32.ofInt e1007)), (0, .ref (A 61)), (1, .int (Int32.ofInt xv)), (2, .int (Int32.ofInt yv)), (3, .int (Int32.ofInt ch)), (4, .int (Int32.ofInt c))]) rfl (by decide) (List.Mem.tail _ (List.Mem.tail _ (List.Mem.tail _ (List.Mem.tail _ (List.Mem.tail _ (List.Mem.tail _ (List.Mem.tail _ (List.Mem.head _)))))))) (fun _ h => h) (z_goto X (t := 17) rfl rfl (WS_pq [3, 4, 5, 6, 7, 1, 0] (lv' := [(0, .ref (A 61)), (1, .int (Int32.ofInt xv)), (2, .int (Int32.ofInt yv)), (3, .int (Int32.ofInt ch)), (4, .int (Int32.ofInt c)), (5, .int (Int32.ofInt p)), (6, .int (Int32.ofInt (p + 1)))]) rfl ?_))))
                exact ih _ xv yv ch c p (p + 1) I F (by first | exact ⟨And.intro (hi.1.1) (hi.1.2), And.intro (hi.2.1.1) (hi.2.1.2), And.intro (hi.2.2.1.1) (hi.2.2.1.2), And.intro (hi.2.2.2.1.1) (hi.2.2.2.1.2), And.intro (oq_ca54ea22 hi.2.2.2.2.2.1) (oq_78c639ed g1001), oq_54f49eb5 hi.2.2.2.2.2.1, oq_0c7b19c3 g1001⟩ | omega) (by first | exact qk_me hm (by decide) (oq_9f368f35 g1001) | omega) kx
        refine z_if_eq X (t := 41) rfl rfl ⟨by first | exact oq_fa4e5087 hy1005 | omega, by first | exact oq_22e1e6b0 gy1005 | omega⟩ (fun g1013 => ?_) (fun g1013 => ?_)
        ·
          exact z_const X rfl (N1006 _ (Or.inl ⟨g1013, rfl⟩))
        ·
          exact z_const X rfl (z_goto X (t := 42) rfl rfl (N1006 _ (Or.inr (⟨g1013, rfl⟩))))
  have L5 : ∀ (n : Nat) (t : PS) (xv yv ch c : Int), Bd t → Fm [] [] s t → (rng xv ∧ rng yv ∧ rng ch ∧ 0 ≤ c ∧ (c = 0 ∨ c ≤ yv)) → (yv - c : Int).toNat < n → (∀ (t' : PS) (ch' c' : Int), Bd t' → Fm [] [] s t' → (rng xv ∧ rng yv ∧ rng ch' ∧ 0 ≤ c' ∧ (c' = 0 ∨ c' ≤ yv)) → WS k 103 [(0, .ref (A 61)), (1, .int (Int32.ofInt xv)), (2, .int (Int32.ofInt yv)), (3, .int (Int32.ofInt ch')), (4, .int (Int32.ofInt c'))] [] (Wd A dT t') 0 0) → WS k 5 [(0, .ref (A 61)), (1, .int (Int32.ofInt xv)), (2, .int (Int32.ofInt yv)), (3, .int (Int32.ofInt ch)), (4, .int (Int32.ofInt c))] [] (Wd A dT t) 0 0 := by
    intro n
    induction n with
    | zero =>
      intro t xv yv ch c I F hi hm kx
      exact absurd hm (Nat.not_lt_zero _)
    | succ n ih =>
      intro t xv yv ch c I F hi hm kx
      refine z_load X (x := c) rfl (List.Mem.tail _ (List.Mem.tail _ (List.Mem.tail _ (List.Mem.tail _ (List.Mem.head _))))) (z_load_n X (x := yv) rfl (List.Mem.tail _ (List.Mem.tail _ (List.Mem.head _))) (z_icmp_ge X (t := 103) rfl rfl ⟨by first | exact oq_fa4e5087 hi.2.2.2.1 | omega, by first | exact oq_65e1730c hi.2.2.2.2 hi.2.1.2 | omega⟩ ⟨by first | exact hi.2.1.1 | omega, by first | exact hi.2.1.2 | omega⟩ (fun g2001 => ?_) (fun g2001 => ?_)))
      ·
        refine WS_pq [0, 1, 2, 3, 4] (lv' := [(0, .ref (A 61)), (1, .int (Int32.ofInt xv)), (2, .int (Int32.ofInt yv)), (3, .int (Int32.ofInt ch)), (4, .int (Int32.ofInt c))]) rfl ?_
        exact kx _ ch c I F (by first | exact ⟨And.intro (hi.1.1) (hi.1.2), And.intro (hi.2.1.1) (hi.2.1.2), And.intro (hi.2.2.1.1) (hi.2.2.1.2), hi.2.2.2.1, hi.2.2.2.2⟩ | omega)
      ·
        refine z_const X rfl (z_store X (lv' := [(5, .int (Int32.ofInt (-1))), (0, .ref (A 61)), (1, .int (Int32.ofInt xv)), (2, .int (Int32.ofInt yv)), (3, .int (Int32.ofInt ch)), (4, .int (Int32.ofInt c))]) rfl (by decide) (fun _ h => h) (z_const X rfl (z_store X (lv' := [(6, .int (Int32.ofInt 0)), (5, .int (Int32.ofInt (-1))), (0, .ref (A 61)), (1, .int (Int32.ofInt xv)), (2, .int (Int32.ofInt yv)), (3, .int (Int32.ofInt ch)), (4, .int (Int32.ofInt c))]) rfl (by decide) (fun _ h => h) (WS_pq [2, 3, 4, 5, 6, 1, 0] (lv' := [(0, .ref (A 61)), (1, .int (Int32.ofInt xv)), (2, .int (Int32.ofInt yv)), (3, .int (Int32.ofInt ch)), (4, .int (Int32.ofInt c)), (5, .int (Int32.ofInt (-1))), (6, .int (Int32.ofInt 0))]) rfl (L17 ((8 - 0 : Int).toNat + 1) t xv yv ch c (-1) 0 I F (by first | exact ⟨And.intro (hi.1.1) (hi.1.2), And.intro (hi.2.1.1) (hi.2.1.2), And.intro (hi.2.2.1.1) (hi.2.2.1.2), And.intro (hi.2.2.2.1) (g2001), And.intro (by decide) (by decide), by decide, by decide⟩ | omega) (Nat.lt_succ_self _) ?_)))))
        intro s2002 x2003 x2004 Is2002 Fs2002 hs2002
        refine z_load X (x := x2003) rfl (List.Mem.tail _ (List.Mem.tail _ (List.Mem.tail _ (List.Mem.tail _ (List.Mem.tail _ (List.Mem.head _)))))) (z_const X rfl (z_icmp_ne X (t := 90) rfl rfl ⟨by first | exact oq_97ee2c2a hs2002.2.2.2.2.1.1 | omega, by first | exact oq_0e78ca7d hs2002.2.2.2.2.1.2 | omega⟩ (by decide) (fun g2005 => ?_) (fun g2005 => ?_)))
        ·
          refine z_load_n X (x := ch) rfl (List.Mem.tail _ (List.Mem.tail _ (List.Mem.tail _ (List.Mem.head _)))) (z_const X rfl (z_load X (x := x2003) rfl (List.Mem.tail _ (List.Mem.tail _ (List.Mem.tail _ (List.Mem.tail _ (List.Mem.tail _ (List.Mem.head _)))))) (z_bshl X rfl (z_any (fun y2006 hy2006 => ?_)))))
          refine z_bor X rfl (z_any (fun y2007 hy2007 => ?_))
          refine z_store_n X (lv' := [(3, .int (Int32.ofInt y2007)), (0, .ref (A 61)), (1, .int (Int32.ofInt xv)), (2, .int (Int32.ofInt yv)), (4, .int (Int32.ofInt c)), (5, .int (Int32.ofInt x2003)), (6, .int (Int32.ofInt x2004))]) rfl (by decide) (fun _ h => h) (z_inc X (x := c) (lv' := [(4, .int (Int32.ofInt (c + 1))), (3, .int (Int32.ofInt y2007)), (0, .ref (A 61)), (1, .int (Int32.ofInt xv)), (2, .int (Int32.ofInt yv)), (5, .int (Int32.ofInt x2003)), (6, .int (Int32.ofInt x2004))]) rfl (by decide) (List.Mem.tail _ (List.Mem.tail _ (List.Mem.tail _ (List.Mem.tail _ (List.Mem.head _))))) (fun _ h => h) (z_goto X (t := 5) rfl rfl (WS_pq [2, 3, 4, 1, 0] (lv' := [(0, .ref (A 61)), (1, .int (Int32.ofInt xv)), (2, .int (Int32.ofInt yv)), (3, .int (Int32.ofInt y2007)), (4, .int (Int32.ofInt (c + 1)))]) rfl ?_)))
          exact ih _ xv yv y2007 (c + 1) Is2002 Fs2002 (by first | exact ⟨And.intro (hs2002.1.1) (hs2002.1.2), And.intro (hs2002.2.1.1) (hs2002.2.1.2), And.intro (hy2007.1) (hy2007.2), oq_54f49eb5 hs2002.2.2.2.1.1, Or.inr (oq_afc84a8d hs2002.2.2.2.1.2)⟩ | omega) (by first | exact qk_me hm (by decide) (oq_901836cd hs2002.2.2.2.1.2) | omega) kx
        ·
          refine z_load_n X (x := ch) rfl (List.Mem.tail _ (List.Mem.tail _ (List.Mem.tail _ (List.Mem.head _)))) ?_
          exact w_iret X.1 q hRt rfl (ax_d X (show cdA 65 89 = some (.ireturn, 1, 0, 0, 0) from rfl)) (Nat.zero_le _) (Nat.zero_le _) ⟨_, rfl, Is2002, Fs2002, ch, rfl, ⟨by first | exact hs2002.2.2.1.1 | omega, by first | exact hs2002.2.2.1.2 | omega⟩, trivial⟩
  refine z_const X rfl (z_store_n X (lv' := [(3, .int (Int32.ofInt 0)), (0, .ref (A 61)), (1, .int (Int32.ofInt x)), (2, .int (Int32.ofInt y))]) rfl (by decide) (fun _ h => h) (z_const X rfl (z_store X (lv' := [(4, .int (Int32.ofInt 0)), (3, .int (Int32.ofInt 0)), (0, .ref (A 61)), (1, .int (Int32.ofInt x)), (2, .int (Int32.ofInt y))]) rfl (by decide) (fun _ h => h) (WS_pq [2, 3, 4, 1, 0] (lv' := [(0, .ref (A 61)), (1, .int (Int32.ofInt x)), (2, .int (Int32.ofInt y)), (3, .int (Int32.ofInt 0)), (4, .int (Int32.ofInt 0))]) rfl (L5 ((y - 0 : Int).toNat + 1) s x y 0 0 I F (by first | exact ⟨And.intro (p0.1) (p0.2), And.intro (p1.1) (p1.2), And.intro (by decide) (by decide), by decide, Or.inl (by decide)⟩ | omega) (Nat.lt_succ_self _) ?_)))))
  intro s1 x2 x3 Is1 Fs1 hs1
  refine z_load_n X (x := x2) rfl (List.Mem.tail _ (List.Mem.tail _ (List.Mem.tail _ (List.Mem.head _)))) ?_
  exact w_iret X.1 q hRt rfl (ax_d X (show cdA 65 104 = some (.ireturn, 1, 0, 0, 0) from rfl)) (Nat.zero_le _) (Nat.zero_le _) ⟨_, rfl, Is1, Fs1, x2, rfl, ⟨by first | exact hs1.2.2.1.1 | omega, by first | exact hs1.2.2.1.2 | omega⟩, trivial⟩
set_option maxRecDepth 4000 in
theorem c6_settle_61 (G : GX l s0 D tys a0 dT) (I : Bd s) {x y z : Int} (p0 : 1 ≤ x ∧ x ≤ 8) (p1 : 0 ≤ y ∧ y ≤ 23) (p2 : rng z) : CT l s0 D A dT 66 (rmN 66) [.ref (A 61), .int (Int32.ofInt x), .int (Int32.ofInt y), .int (Int32.ofInt z)] s (fun o t => Bd t ∧ Fm [] [53, 55, 54] s t ∧ o = .inl none ∧ (True)) := by
  refine ct_ofX G (by decide) (Nat.le_of_ble_eq_true rfl) (fun k X E ET hRt hXt q => ?_)
  show WS k 0 [(0, .ref (A 61)), (1, .int (Int32.ofInt x)), (2, .int (Int32.ofInt y)), (3, .int (Int32.ofInt z))] [] _ 0 0
  have F : Fm [] [53, 55, 54] s s := fm_rf _ _ s
  have L3 : ∀ (n : Nat) (t : PS) (xv yv zv p : Int), Bd t → Fm [] [53, 55, 54] s t → ((1 ≤ xv ∧ xv ≤ 8) ∧ (0 ≤ yv ∧ yv ≤ 23) ∧ rng zv ∧ 0 ≤ p ∧ p ≤ 8) → (8 - p : Int).toNat < n → (∀ (t' : PS) (p' : Int), Bd t' → Fm [] [53, 55, 54] s t' → ((1 ≤ xv ∧ xv ≤ 8) ∧ (0 ≤ yv ∧ yv ≤ 23) ∧ rng zv ∧ 0 ≤ p' ∧ p' ≤ 8) → WS k 80 [(0, .ref (A 61)), (1, .int (Int32.ofInt xv)), (2, .int (Int32.ofInt yv)), (3, .int (Int32.ofInt zv)), (4, .int (Int32.ofInt p'))] [] (Wd A dT t') 0 0) → WS k 3 [(0, .ref (A 61)), (1, .int (Int32.ofInt xv)), (2, .int (Int32.ofInt yv)), (3, .int (Int32.ofInt zv)), (4, .int (Int32.ofInt p))] [] (Wd A dT t) 0 0 := by
    intro n
    induction n with
    | zero =>
      intro t xv yv zv p I F hi hm kx
      exact absurd hm (Nat.not_lt_zero _)
    | succ n ih =>
      intro t xv yv zv p I F hi hm kx
      refine z_load X (x := p) rfl (List.Mem.tail _ (List.Mem.tail _ (List.Mem.tail _ (List.Mem.tail _ (List.Mem.head _))))) (z_load_n X (x := xv) rfl (List.Mem.tail _ (List.Mem.head _)) (z_icmp_ge X (t := 80) rfl rfl ⟨by first | exact oq_fa4e5087 hi.2.2.2.1 | omega, by first | exact oq_d3f5d874 hi.2.2.2.2 | omega⟩ ⟨by first | exact oq_9462313e hi.1.1 | omega, by first | exact oq_d3f5d874 hi.1.2 | omega⟩ (fun g1001 => ?_) (fun g1001 => ?_)))
      ·
        refine WS_pq [0, 1, 2, 3, 4] (lv' := [(0, .ref (A 61)), (1, .int (Int32.ofInt xv)), (2, .int (Int32.ofInt yv)), (3, .int (Int32.ofInt zv)), (4, .int (Int32.ofInt p))]) rfl ?_
        exact kx _ p I F (by first | exact ⟨And.intro (hi.1.1) (hi.1.2), And.intro (hi.2.1.1) (hi.2.1.2), And.intro (hi.2.2.1.1) (hi.2.2.1.2), hi.2.2.2.1, hi.2.2.2.2⟩ | omega)
      ·
        refine z_load_n X (x := zv) rfl (List.Mem.tail _ (List.Mem.tail _ (List.Mem.tail _ (List.Mem.head _)))) (z_load X (x := p) rfl (List.Mem.tail _ (List.Mem.tail _ (List.Mem.tail _ (List.Mem.tail _ (List.Mem.head _))))) (z_bshr X rfl (z_any (fun y1002 hy1002 => ?_))))
        refine z_const X rfl (z_andm X rfl (by decide) (by decide) (fun y1003 hy1003 gy1003 => ?_))
        refine z_if_eq X (t := 43) rfl rfl ⟨by first | exact oq_fa4e5087 hy1003 | omega, by first | exact oq_22e1e6b0 gy1003 | omega⟩ (fun g1004 => ?_) (fun g1004 => ?_)
        ·
          refine z_aload_n X (x := A 61) rfl (List.Mem.head _) (s_getR X 61 rfl (c518_ok rfl) rfl rfl (z_load X (x := p) rfl (List.Mem.tail _ (List.Mem.tail _ (List.Mem.tail _ (List.Mem.tail _ (List.Mem.head _))))) (z_ald X 63 rfl (c518_ok rfl) rfl (by first | exact hi.2.2.2.1 | omega) (show p < 8 by first | exact oq_7f5b2e79 g1001 hi.1.2 | omega) (cbig_ok rfl) ?_)))
          have b1005 := bc_53 I (show (p).toNat < 8 by first | exact oq_67be0351 g1001 hi.1.2 | omega)
          refine z_if_le X (t := 74) rfl rfl (rng_to _) (fun g1006 => ?_) (fun g1006 => ?_)
          ·
            refine z_inc X (x := p) (lv' := [(4, .int (Int32.ofInt (p + 1))), (0, .ref (A 61)), (1, .int (Int32.ofInt xv)), (2, .int (Int32.ofInt yv)), (3, .int (Int32.ofInt zv))]) rfl (by decide) (List.Mem.tail _ (List.Mem.tail _ (List.Mem.tail _ (List.Mem.tail _ (List.Mem.head _))))) (fun _ h => h) (z_goto X (t := 3) rfl rfl (WS_pq [1, 2, 3, 4, 0] (lv' := [(0, .ref (A 61)), (1, .int (Int32.ofInt xv)), (2, .int (Int32.ofInt yv)), (3, .int (Int32.ofInt zv)), (4, .int (Int32.ofInt (p + 1)))]) rfl ?_))
            exact ih _ xv yv zv (p + 1) I F (by first | exact ⟨And.intro (hi.1.1) (hi.1.2), And.intro (hi.2.1.1) (hi.2.1.2), And.intro (hi.2.2.1.1) (hi.2.2.1.2), oq_54f49eb5 hi.2.2.2.1, oq_f6204d84 g1001 hi.1.2⟩ | omega) (by first | exact qk_me hm (by decide) (oq_ccc5e5e0 g1001 hi.1.2) | omega) kx
          ·
            refine z_aload_n X (x := A 61) rfl (List.Mem.head _) (s_getR X 61 rfl (c518_ok rfl) rfl rfl (z_load X (x := p) rfl (List.Mem.tail _ (List.Mem.tail _ (List.Mem.tail _ (List.Mem.tail _ (List.Mem.head _))))) (z_const X rfl (z_ast X 63 rfl (c518_ok rfl) rfl (by first | exact hi.2.2.2.1 | omega) (show p < 8 by first | exact oq_7f5b2e79 g1001 hi.1.2 | omega) (cbig_ok rfl) (wd_gen (fun s1007 hs1007 => ?_))))))
            have Is1007 : Bd s1007 := eqB hs1007 (bd_C I (show ((-2147483648) : Int) ≤ 0 ∧ 0 ≤ 2147483647 by first | exact ⟨by decide, by decide⟩ | omega) (by decide))
            have Fs1007 := eqF hs1007 (fm_C F (inl_ok (a := 53) rfl))
            refine z_aload_n X (x := A 61) rfl (List.Mem.head _) (s_getR X 61 rfl (c518_ok rfl) rfl rfl (z_load X (x := p) rfl (List.Mem.tail _ (List.Mem.tail _ (List.Mem.tail _ (List.Mem.tail _ (List.Mem.head _))))) (z_load_n X (x := yv) rfl (List.Mem.tail _ (List.Mem.tail _ (List.Mem.head _))) (z_aload_n X (x := A 61) rfl (List.Mem.head _) (z_getI X 61 rfl (c518_ok rfl) rfl rfl ?_)))))
            have b1008 := bi_37 Is1007
            refine z_add X rfl (z_ast X 64 rfl (c518_ok rfl) rfl (by first | exact hi.2.2.2.1 | omega) (show p < 8 by first | exact oq_7f5b2e79 g1001 hi.1.2 | omega) (cbig_ok rfl) (wd_gen (fun s1009 hs1009 => ?_)))
            have Is1009 : Bd s1009 := eqB hs1009 (bd_C Is1007 (show ((-2147483648) : Int) ≤ (yv + (iI s1007 37)) ∧ (yv + (iI s1007 37)) ≤ 2147483647 by first | exact ⟨oq_00477806 hi.2.1.1 b1008.1, oq_2a8744a7 hi.2.1.2 b1008.2⟩ | omega) ⟨by first | exact oq_00477806 hi.2.1.1 b1008.1 | omega, by first | exact oq_2a8744a7 hi.2.1.2 b1008.2 | omega⟩)
            have Fs1009 := eqF hs1009 (fm_C Fs1007 (inl_ok (a := 54) rfl))
            refine z_inc X (x := p) (lv' := [(4, .int (Int32.ofInt (p + 1))), (0, .ref (A 61)), (1, .int (Int32.ofInt xv)), (2, .int (Int32.ofInt yv)), (3, .int (Int32.ofInt zv))]) rfl (by decide) (List.Mem.tail _ (List.Mem.tail _ (List.Mem.tail _ (List.Mem.tail _ (List.Mem.head _))))) (fun _ h => h) (z_goto X (t := 3) rfl rfl (WS_pq [1, 2, 3, 4, 0] (lv' := [(0, .ref (A 61)), (1, .int (Int32.ofInt xv)), (2, .int (Int32.ofInt yv)), (3, .int (Int32.ofInt zv)), (4, .int (Int32.ofInt (p + 1)))]) rfl ?_))
            exact ih _ xv yv zv (p + 1) Is1009 Fs1009 (by first | exact ⟨And.intro (hi.1.1) (hi.1.2), And.intro (hi.2.1.1) (hi.2.1.2), And.intro (hi.2.2.1.1) (hi.2.2.1.2), oq_54f49eb5 hi.2.2.2.1, oq_f6204d84 g1001 hi.1.2⟩ | omega) (by first | exact qk_me hm (by decide) (oq_ccc5e5e0 g1001 hi.1.2) | omega) kx
        ·
          refine z_aload_n X (x := A 61) rfl (List.Mem.head _) (s_getR X 61 rfl (c518_ok rfl) rfl rfl (z_load X (x := p) rfl (List.Mem.tail _ (List.Mem.tail _ (List.Mem.tail _ (List.Mem.tail _ (List.Mem.head _))))) (w_dup2_11 X.1 (ax_d X (show cdA 66 24 = some (.dup2, 1, 0, 0, 0) from rfl)) rfl rfl (z_ald X 63 rfl (c518_ok rfl) rfl (by first | exact hi.2.2.2.1 | omega) (show p < 8 by first | exact oq_7f5b2e79 g1001 hi.1.2 | omega) (cbig_ok rfl) ?_))))
          have b1010 := bc_53 I (show (p).toNat < 8 by first | exact oq_67be0351 g1001 hi.1.2 | omega)
          refine z_const X rfl (z_add X rfl (z_any (fun y1011 hy1011 => ?_)))
          refine z_ast X 63 rfl (c518_ok rfl) rfl (by first | exact hi.2.2.2.1 | omega) (show p < 8 by first | exact oq_7f5b2e79 g1001 hi.1.2 | omega) (cbig_ok rfl) (wd_gen (fun s1012 hs1012 => ?_))
          have Is1012 : Bd s1012 := eqB hs1012 (bd_C I (show ((-2147483648) : Int) ≤ y1011 ∧ y1011 ≤ 2147483647 by first | exact ⟨hy1011.1, hy1011.2⟩ | omega) hy1011)
          have Fs1012 := eqF hs1012 (fm_C F (inl_ok (a := 53) rfl))
          refine z_aload_n X (x := A 61) rfl (List.Mem.head _) (s_getR X 61 rfl (c518_ok rfl) rfl rfl (z_load X (x := p) rfl (List.Mem.tail _ (List.Mem.tail _ (List.Mem.tail _ (List.Mem.tail _ (List.Mem.head _))))) (w_dup2_11 X.1 (ax_d X (show cdA 66 35 = some (.dup2, 1, 0, 0, 0) from rfl)) rfl rfl (z_ald X 65 rfl (c518_ok rfl) rfl (by first | exact hi.2.2.2.1 | omega) (show p < 8 by first | exact oq_7f5b2e79 g1001 hi.1.2 | omega) (cbig_ok rfl) ?_))))
          have b1013 := bc_55 Is1012 (show (p).toNat < 8 by first | exact oq_67be0351 g1001 hi.1.2 | omega)
          refine z_const X rfl (z_add X rfl (z_any (fun y1014 hy1014 => ?_)))
          refine z_ast X 65 rfl (c518_ok rfl) rfl (by first | exact hi.2.2.2.1 | omega) (show p < 8 by first | exact oq_7f5b2e79 g1001 hi.1.2 | omega) (cbig_ok rfl) (wd_gen (fun s1015 hs1015 => ?_))
          have Is1015 : Bd s1015 := eqB hs1015 (bd_C Is1012 (show ((-2147483648) : Int) ≤ y1014 ∧ y1014 ≤ 2147483647 by first | exact ⟨hy1014.1, hy1014.2⟩ | omega) hy1014)
          have Fs1015 := eqF hs1015 (fm_C Fs1012 (inl_ok (a := 55) rfl))
          refine z_goto X (t := 74) rfl rfl (z_inc X (x := p) (lv' := [(4, .int (Int32.ofInt (p + 1))), (0, .ref (A 61)), (1, .int (Int32.ofInt xv)), (2, .int (Int32.ofInt yv)), (3, .int (Int32.ofInt zv))]) rfl (by decide) (List.Mem.tail _ (List.Mem.tail _ (List.Mem.tail _ (List.Mem.tail _ (List.Mem.head _))))) (fun _ h => h) (z_goto X (t := 3) rfl rfl (WS_pq [1, 2, 3, 4, 0] (lv' := [(0, .ref (A 61)), (1, .int (Int32.ofInt xv)), (2, .int (Int32.ofInt yv)), (3, .int (Int32.ofInt zv)), (4, .int (Int32.ofInt (p + 1)))]) rfl ?_)))
          exact ih _ xv yv zv (p + 1) Is1015 Fs1015 (by first | exact ⟨And.intro (hi.1.1) (hi.1.2), And.intro (hi.2.1.1) (hi.2.1.2), And.intro (hi.2.2.1.1) (hi.2.2.1.2), oq_54f49eb5 hi.2.2.2.1, oq_f6204d84 g1001 hi.1.2⟩ | omega) (by first | exact qk_me hm (by decide) (oq_ccc5e5e0 g1001 hi.1.2) | omega) kx
  refine z_const X rfl (z_store X (lv' := [(4, .int (Int32.ofInt 0)), (0, .ref (A 61)), (1, .int (Int32.ofInt x)), (2, .int (Int32.ofInt y)), (3, .int (Int32.ofInt z))]) rfl (by decide) (fun _ h => h) (WS_pq [1, 2, 3, 4, 0] (lv' := [(0, .ref (A 61)), (1, .int (Int32.ofInt x)), (2, .int (Int32.ofInt y)), (3, .int (Int32.ofInt z)), (4, .int (Int32.ofInt 0))]) rfl (L3 ((8 - 0 : Int).toNat + 1) s x y z 0 I F (by first | exact ⟨And.intro (p0.1) (p0.2), And.intro (p1.1) (p1.2), And.intro (p2.1) (p2.2), by decide, by decide⟩ | omega) (Nat.lt_succ_self _) ?_)))
  intro s1 x2 Is1 Fs1 hs1
  exact w_vret X.1 q hRt (ax_d X (show cdA 66 80 = some (.return_, 1, 0, 0, 0) from rfl)) (Nat.zero_le _) (Nat.zero_le _) ⟨_, rfl, Is1, Fs1, rfl, trivial⟩
set_option maxRecDepth 4000 in
theorem c6_run_61 (G : GX l s0 D tys a0 dT) (I : Bd s) {x : Int} (p0 : 1 ≤ x ∧ x ≤ 8) : CT l s0 D A dT 62 (rmN 62) [.ref (A 61), .int (Int32.ofInt x)] s (fun o t => Bd t ∧ Fm [38] [53, 54, 55, 56] s t ∧ o = .inl none ∧ (True)) := by
  refine ct_ofX G (by decide) (Nat.le_of_ble_eq_true rfl) (fun k X E ET hRt hXt q => ?_)
  show WS k 0 [(0, .ref (A 61)), (1, .int (Int32.ofInt x))] [] _ 0 0
  have F : Fm [38] [53, 54, 55, 56] s s := fm_rf _ _ s
  have L31 : ∀ (n : Nat) (t : PS) (xv qq : Int), Bd t → Fm [38] [53, 54, 55, 56] s t → ((1 ≤ xv ∧ xv ≤ 8) ∧ 0 ≤ qq ∧ qq ≤ 24) → (24 - qq : Int).toNat < n → (∀ (t' : PS) (qq' : Int), Bd t' → Fm [38] [53, 54, 55, 56] s t' → ((1 ≤ xv ∧ xv ≤ 8) ∧ 0 ≤ qq' ∧ qq' ≤ 24) → WS k 119 [(0, .ref (A 61)), (1, .int (Int32.ofInt xv)), (2, .int (Int32.ofInt qq'))] [] (Wd A dT t') 0 0) → WS k 31 [(0, .ref (A 61)), (1, .int (Int32.ofInt xv)), (2, .int (Int32.ofInt qq))] [] (Wd A dT t) 0 0 := by
    intro n
    induction n with
    | zero =>
      intro t xv qq I F hi hm kx
      exact absurd hm (Nat.not_lt_zero _)
    | succ n ih =>
      intro t xv qq I F hi hm kx
      refine z_load_n X (x := qq) rfl (List.Mem.tail _ (List.Mem.tail _ (List.Mem.head _))) (z_bipush X rfl (z_icmp_ge X (t := 119) rfl rfl ⟨by first | exact oq_fa4e5087 hi.2.1 | omega, by first | exact oq_5bcd337f hi.2.2 | omega⟩ (by decide) (fun g1001 => ?_) (fun g1001 => ?_)))
      ·
        refine WS_pq [0, 1, 2] (lv' := [(0, .ref (A 61)), (1, .int (Int32.ofInt xv)), (2, .int (Int32.ofInt qq))]) rfl ?_
        exact kx _ qq I F (by first | exact ⟨And.intro (hi.1.1) (hi.1.2), hi.2.1, hi.2.2⟩ | omega)
      ·
        refine z_aload_n X (x := A 61) rfl (List.Mem.head _) (s_getR X 61 rfl (c518_ok rfl) rfl rfl (z_load_n X (x := qq) rfl (List.Mem.tail _ (List.Mem.tail _ (List.Mem.head _))) (zcV_i0 X E 54 (As := [.int (Int32.ofInt qq)]) (st := []) rfl rfl rfl rfl (c4_needAt_54 G I (by first | exact ⟨hi.2.1, oq_c69fe266 g1001⟩ | omega)) rfl (Nat.le_of_ble_eq_true rfl) (fun s1002 e1003 Is1002 Fs1002 hrs1002 hps1002 => ?_))))
        have Gs1002 := fm_tq F Fs1002 rfl rfl
        refine z_store_n X (lv' := [(3, .int (Int32.ofInt e1003)), (0, .ref (A 61)), (1, .int (Int32.ofInt xv)), (2, .int (Int32.ofInt qq))]) rfl (by decide) (fun _ h => h) (z_aload_n X (x := A 61) rfl (List.Mem.tail _ (List.Mem.head _)) (z_aload_n X (x := A 61) rfl (List.Mem.tail _ (List.Mem.head _)) (z_load_n X (x := xv) rfl (List.Mem.tail _ (List.Mem.tail _ (List.Mem.head _))) (z_load_n X (x := qq) rfl (List.Mem.tail _ (List.Mem.tail _ (List.Mem.tail _ (List.Mem.head _)))) (zcV_i0 X E 61 (As := [.int (Int32.ofInt xv), .int (Int32.ofInt qq)]) (st := [.ref (A 61)]) rfl rfl rfl rfl (c6_mayGoOn_61 G Is1002 (by first | exact ⟨hi.1.1, hi.1.2⟩ | omega) (by first | exact ⟨hi.2.1, oq_c69fe266 g1001⟩ | omega)) rfl (Nat.le_of_ble_eq_true rfl) (fun s1004 e1005 Is1004 Fs1004 hrs1004 hps1004 => ?_))))))
        have Gs1004 := fm_tq Gs1002 Fs1004 rfl rfl
        refine z_load_n X (x := e1003) rfl (List.Mem.head _) (zcV_i0 X E 61 (As := [.int (Int32.ofInt e1005), .int (Int32.ofInt e1003)]) (st := []) rfl rfl rfl rfl (c6_fewestOf_61 G Is1004 (by omega) (by omega)) rfl (Nat.le_of_ble_eq_true rfl) (fun s1006 e1007 Is1006 Fs1006 hrs1006 hps1006 => ?_))
        have Gs1006 := fm_tq Gs1004 Fs1006 rfl rfl
        refine z_store X (lv' := [(4, .int (Int32.ofInt e1007)), (3, .int (Int32.ofInt e1003)), (0, .ref (A 61)), (1, .int (Int32.ofInt xv)), (2, .int (Int32.ofInt qq))]) rfl (by decide) (fun _ h => h) (z_load X (x := e1007) rfl (List.Mem.head _) (z_aload_n X (x := A 61) rfl (List.Mem.tail _ (List.Mem.tail _ (List.Mem.head _))) (z_aload_n X (x := A 61) rfl (List.Mem.tail _ (List.Mem.tail _ (List.Mem.head _))) (z_load_n X (x := xv) rfl (List.Mem.tail _ (List.Mem.tail _ (List.Mem.tail _ (List.Mem.head _)))) (z_load_n X (x := qq) rfl (List.Mem.tail _ (List.Mem.tail _ (List.Mem.tail _ (List.Mem.tail _ (List.Mem.head _))))) (zcV_i0 X E 61 (As := [.int (Int32.ofInt xv), .int (Int32.ofInt qq)]) (st := [.ref (A 61), .int (Int32.ofInt e1007)]) rfl rfl rfl rfl (c6_mayBegin_61 G Is1006 (by first | exact ⟨hi.1.1, hi.1.2⟩ | omega) (by first | exact ⟨hi.2.1, oq_c69fe266 g1001⟩ | omega)) rfl (Nat.le_of_ble_eq_true rfl) (fun s1008 e1009 Is1008 Fs1008 hrs1008 hps1008 => ?_)))))))
        have Gs1008 := fm_tq Gs1006 Fs1008 rfl rfl
        refine z_load_n X (x := e1003) rfl (List.Mem.tail _ (List.Mem.head _)) (z_load X (x := e1007) rfl (List.Mem.head _) (zcS_i0 X E (As := [.int (Int32.ofInt e1007)]) (st := [.int (Int32.ofInt e1003), .int (Int32.ofInt e1009), .ref (A 61), .int (Int32.ofInt e1007)]) rfl rfl (j_bitI G Is1008 (by omega)) rfl (Nat.le_of_ble_eq_true rfl) (fun s1010 e1011 Is1010 Fs1010 hrs1010 hps1010 => ?_)))
        have Gs1010 := fm_tq Gs1008 Fs1010 rfl rfl
        refine z_sub X rfl (z_any (fun y1012 hy1012 => ?_))
        refine zcV_i0 X E 61 (As := [.int (Int32.ofInt e1009), .int (Int32.ofInt y1012)]) (st := [.int (Int32.ofInt e1007)]) rfl rfl rfl rfl (c6_fewestOf_61 G Is1010 (by omega) (by first | exact ⟨hy1012.1, hy1012.2⟩ | omega)) rfl (Nat.le_of_ble_eq_true rfl) (fun s1013 e1014 Is1013 Fs1013 hrs1013 hps1013 => ?_)
        have Gs1013 := fm_tq Gs1010 Fs1013 rfl rfl
        refine z_bor X rfl (z_any (fun y1015 hy1015 => ?_))
        refine z_store X (lv' := [(4, .int (Int32.ofInt y1015)), (3, .int (Int32.ofInt e1003)), (0, .ref (A 61)), (1, .int (Int32.ofInt xv)), (2, .int (Int32.ofInt qq))]) rfl (by decide) (fun _ h => h) (z_aload_n X (x := A 61) rfl (List.Mem.tail _ (List.Mem.tail _ (List.Mem.head _))) (w_dup X.1 (ax_d X (show cdA 62 82 = some (.dup, 1, 0, 0, 0) from rfl)) rfl (z_getI X 61 rfl (c518_ok rfl) rfl rfl ?_)))
        have b1016 := bi_38 Is1013
        refine z_load_n X (x := e1003) rfl (List.Mem.tail _ (List.Mem.head _)) (z_load X (x := y1015) rfl (List.Mem.head _) (zcS_i0 X E (As := [.int (Int32.ofInt y1015)]) (st := [.int (Int32.ofInt e1003), .int (Int32.ofInt (iI s1013 38)), .ref (A 61)]) rfl rfl (j_bitI G Is1013 (by first | exact ⟨hy1015.1, hy1015.2⟩ | omega)) rfl (Nat.le_of_ble_eq_true rfl) (fun s1017 e1018 Is1017 Fs1017 hrs1017 hps1017 => ?_)))
        have Gs1017 := fm_tq Gs1013 Fs1017 rfl rfl
        refine z_sub X rfl (z_any (fun y1019 hy1019 => ?_))
        refine z_add X rfl (z_any (fun y1020 hy1020 => ?_))
        refine s_putI X 61 rfl (c518_ok rfl) rfl rfl (by decide) rfl rfl rfl (wd_gen (fun s1021 hs1021 => ?_))
        have Is1021 : Bd s1021 := eqB hs1021 (bd_I Is1017 (show ((-2147483648) : Int) ≤ y1020 ∧ y1020 ≤ 2147483647 by first | exact ⟨hy1020.1, hy1020.2⟩ | omega) hy1020)
        have Fs1021 := eqF hs1021 (fm_I Gs1017 (inl_ok (a := 38) rfl))
        have vs1021 : iI s1021 38 = y1020 := eqI hs1021 (iI_u hy1020)
        refine z_aload_n X (x := A 61) rfl (List.Mem.tail _ (List.Mem.tail _ (List.Mem.head _))) (s_getR X 61 rfl (c518_ok rfl) rfl rfl (z_load_n X (x := qq) rfl (List.Mem.tail _ (List.Mem.tail _ (List.Mem.tail _ (List.Mem.tail _ (List.Mem.head _))))) (z_load X (x := y1015) rfl (List.Mem.head _) (z_ast X 66 rfl (c518_ok rfl) rfl (by first | exact hi.2.1 | omega) (show qq < 24 by first | exact g1001 | omega) (cbig_ok rfl) (wd_gen (fun s1022 hs1022 => ?_))))))
        have Is1022 : Bd s1022 := eqB hs1022 (bd_C Is1021 (show ((-2147483648) : Int) ≤ y1015 ∧ y1015 ≤ 2147483647 by first | exact ⟨hy1015.1, hy1015.2⟩ | omega) hy1015)
        have Fs1022 := eqF hs1022 (fm_C Fs1021 (inl_ok (a := 56) rfl))
        refine z_aload_n X (x := A 61) rfl (List.Mem.tail _ (List.Mem.tail _ (List.Mem.head _))) (z_load_n X (x := xv) rfl (List.Mem.tail _ (List.Mem.tail _ (List.Mem.tail _ (List.Mem.head _)))) (z_load_n X (x := qq) rfl (List.Mem.tail _ (List.Mem.tail _ (List.Mem.tail _ (List.Mem.tail _ (List.Mem.head _))))) (z_load X (x := y1015) rfl (List.Mem.head _) (zcV_v0 X E 61 (As := [.int (Int32.ofInt xv), .int (Int32.ofInt qq), .int (Int32.ofInt y1015)]) (st := []) rfl rfl rfl rfl (c6_settle_61 G Is1022 (by first | exact ⟨hi.1.1, hi.1.2⟩ | omega) (by first | exact ⟨hi.2.1, oq_c69fe266 g1001⟩ | omega) (by first | exact ⟨hy1015.1, hy1015.2⟩ | omega)) rfl (Nat.le_of_ble_eq_true rfl) (fun s1023 Is1023 Fs1023 hps1023 => ?_)))))
        have Gs1023 := fm_tq Fs1022 Fs1023 rfl rfl
        refine z_inc X (x := qq) (lv' := [(2, .int (Int32.ofInt (qq + 1))), (4, .int (Int32.ofInt y1015)), (3, .int (Int32.ofInt e1003)), (0, .ref (A 61)), (1, .int (Int32.ofInt xv))]) rfl (by decide) (List.Mem.tail _ (List.Mem.tail _ (List.Mem.tail _ (List.Mem.tail _ (List.Mem.head _))))) (fun _ h => h) (z_goto X (t := 31) rfl rfl (WS_pq [3, 4, 0] (lv' := [(0, .ref (A 61)), (1, .int (Int32.ofInt xv)), (2, .int (Int32.ofInt (qq + 1)))]) rfl ?_))
        exact ih _ xv (qq + 1) Is1023 Gs1023 (by first | exact ⟨And.intro (hi.1.1) (hi.1.2), oq_54f49eb5 hi.2.1, oq_cec7cb2e g1001⟩ | omega) (by first | exact qk_me hm (by decide) (oq_ffa8317e g1001) | omega) kx
  refine z_aload_n X (x := A 61) rfl (List.Mem.head _) (s_getR X 61 rfl (c518_ok rfl) rfl rfl (z_const X rfl (zcS_v0 X E (As := [.ref (A 63), .int (Int32.ofInt 0)]) (st := []) rfl rfl (j_fill_63 G I (by first | exact ⟨by decide, by decide⟩ | omega)) rfl (Nat.le_of_ble_eq_true rfl) (fun s1 Is1 Fs1 hps1 => ?_))))
  have Gs1 := fm_tq F Fs1 rfl rfl
  refine z_aload_n X (x := A 61) rfl (List.Mem.head _) (s_getR X 61 rfl (c518_ok rfl) rfl rfl (z_const X rfl (zcS_v0 X E (As := [.ref (A 64), .int (Int32.ofInt 0)]) (st := []) rfl rfl (j_fill_64 G Is1 (by first | exact ⟨by decide, by decide⟩ | omega)) rfl (Nat.le_of_ble_eq_true rfl) (fun s3 Is3 Fs3 hps3 => ?_))))
  have Gs3 := fm_tq Gs1 Fs3 rfl rfl
  refine z_aload_n X (x := A 61) rfl (List.Mem.head _) (s_getR X 61 rfl (c518_ok rfl) rfl rfl (z_const X rfl (zcS_v0 X E (As := [.ref (A 65), .int (Int32.ofInt 0)]) (st := []) rfl rfl (j_fill_65 G Is3 (by first | exact ⟨by decide, by decide⟩ | omega)) rfl (Nat.le_of_ble_eq_true rfl) (fun s5 Is5 Fs5 hps5 => ?_))))
  have Gs5 := fm_tq Gs3 Fs5 rfl rfl
  refine z_aload_n X (x := A 61) rfl (List.Mem.head _) (z_const X rfl (s_putI X 61 rfl (c518_ok rfl) rfl rfl (by decide) rfl rfl rfl (wd_gen (fun s7 hs7 => ?_))))
  have Is7 : Bd s7 := eqB hs7 (bd_I Is5 (show ((-2147483648) : Int) ≤ 0 ∧ 0 ≤ 2147483647 by first | exact ⟨by decide, by decide⟩ | omega) (by decide))
  have Fs7 := eqF hs7 (fm_I Gs5 (inl_ok (a := 38) rfl))
  have vs7 : iI s7 38 = 0 := eqI hs7 (iI_u (by decide))
  refine z_const X rfl (z_store_n X (lv' := [(2, .int (Int32.ofInt 0)), (0, .ref (A 61)), (1, .int (Int32.ofInt x))]) rfl (by decide) (fun _ h => h) (WS_pq [1, 2, 0] (lv' := [(0, .ref (A 61)), (1, .int (Int32.ofInt x)), (2, .int (Int32.ofInt 0))]) rfl (L31 ((24 - 0 : Int).toNat + 1) s7 x 0 Is7 Fs7 (by first | exact ⟨And.intro (p0.1) (p0.2), by decide, by decide⟩ | omega) (Nat.lt_succ_self _) ?_)))
  intro s8 x9 Is8 Fs8 hs8
  exact w_vret X.1 q hRt (ax_d X (show cdA 62 119 = some (.return_, 1, 0, 0, 0) from rfl)) (Nat.zero_le _) (Nat.zero_le _) ⟨_, rfl, Is8, Fs8, rfl, trivial⟩
end M75
end
