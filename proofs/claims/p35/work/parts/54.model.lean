/-! The model: rules -/
section M54
variable {l : Launch} {s0 : State} {D : va_G} {tys : List (ClassId × FieldType)} {a0 : Array Value} {A : Nat → Nat} {dT : Nat → ClassId} {s : PS}
theorem k_clause (G : GX l s0 D tys a0 dT) (I : Bd s) (p0 : iI s 79 = 0) (p1 : iI s 78 = 0) (p2 : iI s 77 ≤ iI s 75) (p3 : iI s 87 ≤ iI s 86) : CT l s0 D A dT 213 (rmN 213) [.ref (A 179)] s (fun o t => Bd t ∧ Fm [77, 79, 80, 78, 86, 87, 88] [160] s t ∧ o = .inl none ∧ (iI t 78 = 0 ∧ iI s 77 ≤ iI t 77 ∧ iI t 77 ≤ 203 ∧ (iI t 79 = 0 → iI s 77 < iI t 77 ∧ iI t 77 ≤ iI s 75) ∧ iI t 87 ≤ iI t 86)) := by
  refine ct_of G (by decide) (Nat.le_of_ble_eq_true rfl) (fun k X E hRt hXt q => ?_)
  show WS k 0 [(0, .ref (A 179))] [] _ 0 0
  have F : Fm [77, 79, 80, 78, 86, 87, 88] [160] s s := fm_rf _ _ s
  have b1 : (0 : Int) ≤ iI s 77 ∧ iI s 77 ≤ 400 := I.1 77
  have b2 : (0 : Int) ≤ iI s 75 ∧ iI s 75 ≤ 200 := I.1 75
  have b3 : (0 : Int) ≤ iI s 79 ∧ iI s 79 ≤ 9 := I.1 79
  have b4 : (0 : Int) ≤ iI s 78 ∧ iI s 78 ≤ 8 := I.1 78
  have b5 : (0 : Int) ≤ iI s 86 ∧ iI s 86 ≤ 8 := I.1 86
  have b6 : (0 : Int) ≤ iI s 87 ∧ iI s 87 ≤ 8 := I.1 87
  have b7 : ((-1) : Int) ≤ iI s 88 ∧ iI s 88 ≤ 200 := I.1 88
  refine z_aload_n X (x := A 179) (show cdA 213 0 = some (.aload_n 0, 1, 0, 0, 0) from rfl) (List.Mem.head _) ?_
  refine z_callV X 179 (rm := rmN 201) (As := []) (st := []) (show cdA 213 1 = some (.invokevirtual 243, 3, 201, 0, 0) from rfl) rfl (by decide) rfl (by rw [E.1, E.2.1, E.2.2.1]; exact k_wordHere G I (by first | exact oq_8bddf595 p2 b2.2 | omega)) ⟨by rw [E.2.2.2]; exact (show (rmN 201).frames + 1 ≤ (rmN 213).frames by decide), by rw [E.2.2.2]; exact (show 8 + (mNL (miB 201) + 11) + (rmN 201).locals ≤ (rmN 213).locals by decide), by rw [E.2.2.2]; exact (show 0 + (rmN 201).cells ≤ (rmN 213).cells by decide), by rw [E.2.2.2]; exact (show 0 + (rmN 201).slots ≤ (rmN 213).slots by decide)⟩ (Nat.le_of_ble_eq_true rfl) (fun vv s8 hq => ?_) (fun ee s8 hq => ?_)
  rotate_left
  · obtain ⟨Is8, Fs8, e9, hv, hrs8, hps8⟩ := hq; cases hv
  obtain ⟨Is8, Fs8, e9, hv, hrs8, hps8⟩ := hq
  cases hv
  have Gs8 := fm_ts F Fs8 (by decide) (by decide)
  have b10 : (0 : Int) ≤ iI s8 77 ∧ iI s8 77 ≤ 400 := Is8.1 77
  have ws8_75 : iI s8 75 = iI s 75 := fm_i Fs8 (by decide)
  have ws8_79 : iI s8 79 = iI s 79 := fm_i Fs8 (by decide)
  have ws8_78 : iI s8 78 = iI s 78 := fm_i Fs8 (by decide)
  have ws8_86 : iI s8 86 = iI s 86 := fm_i Fs8 (by decide)
  have ws8_87 : iI s8 87 = iI s 87 := fm_i Fs8 (by decide)
  have ws8_88 : iI s8 88 = iI s 88 := fm_i Fs8 (by decide)
  show WS k 4 [(0, .ref (A 179))] [.int (Int32.ofInt e9)] (Wd A dT s8) 0 0
  refine z_store_n X (lv' := [(1, .int (Int32.ofInt e9)), (0, .ref (A 179))]) (show cdA 213 4 = some (.istore_n 1, 1, 0, 0, 0) from rfl) (by decide) (fun _ h => h) ?_
  refine z_load_n X (x := e9) (show cdA 213 5 = some (.iload_n 1, 1, 0, 0, 0) from rfl) (List.Mem.head _) ?_
  refine z_bipush X (show cdA 213 6 = some (.bipush 12, 2, 0, 0, 12) from rfl) ?_
  refine z_bipush X (show cdA 213 8 = some (.bipush 15, 2, 0, 0, 15) from rfl) ?_
  refine z_const X (show cdA 213 10 = some (.iconst 1, 1, 0, 0, 0) from rfl) ?_
  refine z_const X (show cdA 213 11 = some (.iconst 4, 1, 0, 0, 0) from rfl) ?_
  refine z_const X (show cdA 213 12 = some (.iconst 0, 1, 0, 0, 0) from rfl) ?_
  refine z_const X (show cdA 213 13 = some (.iconst 0, 1, 0, 0, 0) from rfl) ?_
  refine z_callS X (rm := rmN 202) (As := [.int (Int32.ofInt 12), .int (Int32.ofInt 15), .int (Int32.ofInt 1), .int (Int32.ofInt 4), .int (Int32.ofInt 0), .int (Int32.ofInt 0)]) (st := [.int (Int32.ofInt e9)]) (show cdA 213 14 = some (.invokestatic 247, 3, 202, 1, 0) from rfl) rfl (by rw [E.1, E.2.1, E.2.2.1]; exact k_word G Is8 (by first | exact ⟨by decide, by decide⟩ | omega) (by first | exact ⟨by decide, by decide⟩ | omega) (by first | exact ⟨by decide, by decide⟩ | omega) (by first | exact ⟨by decide, by decide⟩ | omega) (by first | exact ⟨by decide, by decide⟩ | omega) (by first | exact ⟨by decide, by decide⟩ | omega)) ⟨by rw [E.2.2.2]; exact (show (rmN 202).frames + 1 ≤ (rmN 213).frames by decide), by rw [E.2.2.2]; exact (show 8 + (mNL (miB 202) + 11) + (rmN 202).locals ≤ (rmN 213).locals by decide), by rw [E.2.2.2]; exact (show 0 + (rmN 202).cells ≤ (rmN 213).cells by decide), by rw [E.2.2.2]; exact (show 0 + (rmN 202).slots ≤ (rmN 213).slots by decide)⟩ (Nat.le_of_ble_eq_true rfl) (fun vv s11 hq => ?_) (fun ee s11 hq => ?_)
  rotate_left
  · obtain ⟨Is11, Fs11, e12, hv, hrs11, hps11⟩ := hq; cases hv
  obtain ⟨Is11, Fs11, e12, hv, hrs11, hps11⟩ := hq
  cases hv
  have Gs11 := fm_ts Gs8 Fs11 (by decide) (by decide)
  have ws11_77 : iI s11 77 = iI s8 77 := fm_i Fs11 (by decide)
  have ws11_75 : iI s11 75 = iI s8 75 := fm_i Fs11 (by decide)
  have ws11_79 : iI s11 79 = iI s8 79 := fm_i Fs11 (by decide)
  have ws11_78 : iI s11 78 = iI s8 78 := fm_i Fs11 (by decide)
  have ws11_86 : iI s11 86 = iI s8 86 := fm_i Fs11 (by decide)
  have ws11_87 : iI s11 87 = iI s8 87 := fm_i Fs11 (by decide)
  have ws11_88 : iI s11 88 = iI s8 88 := fm_i Fs11 (by decide)
  show WS k 17 [(1, .int (Int32.ofInt e9)), (0, .ref (A 179))] [.int (Int32.ofInt e12), .int (Int32.ofInt e9)] (Wd A dT s11) 0 0
  have N13 : ∀ e14 : Int, (((e9 ≠ e12) ∧ e14 = 0) ∨ ((e9 = e12) ∧ e14 = 1)) → WS k 25 [(1, .int (Int32.ofInt e9)), (0, .ref (A 179))] [.int (Int32.ofInt e14)] (Wd A dT s11) 0 0 := by
    intro e14 he14
    have re14 : 0 ≤ e14 ∧ e14 ≤ 1 := by omega
    refine z_store_n X (lv' := [(2, .int (Int32.ofInt e14)), (1, .int (Int32.ofInt e9)), (0, .ref (A 179))]) (show cdA 213 25 = some (.istore_n 2, 1, 0, 0, 0) from rfl) (by decide) (fun _ h => h) ?_
    refine z_load_n X (x := e9) (show cdA 213 26 = some (.iload_n 1, 1, 0, 0, 0) from rfl) (List.Mem.tail _ (List.Mem.head _)) ?_
    refine z_bipush X (show cdA 213 27 = some (.bipush 10, 2, 0, 0, 10) from rfl) ?_
    refine z_bipush X (show cdA 213 29 = some (.bipush 15, 2, 0, 0, 15) from rfl) ?_
    refine z_bipush X (show cdA 213 31 = some (.bipush 9, 2, 0, 0, 9) from rfl) ?_
    refine z_bipush X (show cdA 213 33 = some (.bipush 14, 2, 0, 0, 14) from rfl) ?_
    refine z_const X (show cdA 213 35 = some (.iconst 0, 1, 0, 0, 0) from rfl) ?_
    refine z_const X (show cdA 213 36 = some (.iconst 0, 1, 0, 0, 0) from rfl) ?_
    refine z_callS X (rm := rmN 202) (As := [.int (Int32.ofInt 10), .int (Int32.ofInt 15), .int (Int32.ofInt 9), .int (Int32.ofInt 14), .int (Int32.ofInt 0), .int (Int32.ofInt 0)]) (st := [.int (Int32.ofInt e9)]) (show cdA 213 37 = some (.invokestatic 247, 3, 202, 1, 0) from rfl) rfl (by rw [E.1, E.2.1, E.2.2.1]; exact k_word G Is11 (by first | exact ⟨by decide, by decide⟩ | omega) (by first | exact ⟨by decide, by decide⟩ | omega) (by first | exact ⟨by decide, by decide⟩ | omega) (by first | exact ⟨by decide, by decide⟩ | omega) (by first | exact ⟨by decide, by decide⟩ | omega) (by first | exact ⟨by decide, by decide⟩ | omega)) ⟨by rw [E.2.2.2]; exact (show (rmN 202).frames + 1 ≤ (rmN 213).frames by decide), by rw [E.2.2.2]; exact (show 8 + (mNL (miB 202) + 11) + (rmN 202).locals ≤ (rmN 213).locals by decide), by rw [E.2.2.2]; exact (show 0 + (rmN 202).cells ≤ (rmN 213).cells by decide), by rw [E.2.2.2]; exact (show 0 + (rmN 202).slots ≤ (rmN 213).slots by decide)⟩ (Nat.le_of_ble_eq_true rfl) (fun vv s15 hq => ?_) (fun ee s15 hq => ?_)
    rotate_left
    · obtain ⟨Is15, Fs15, e16, hv, hrs15, hps15⟩ := hq; cases hv
    obtain ⟨Is15, Fs15, e16, hv, hrs15, hps15⟩ := hq
    cases hv
    have Gs15 := fm_ts Gs11 Fs15 (by decide) (by decide)
    have ws15_77 : iI s15 77 = iI s11 77 := fm_i Fs15 (by decide)
    have ws15_75 : iI s15 75 = iI s11 75 := fm_i Fs15 (by decide)
    have ws15_79 : iI s15 79 = iI s11 79 := fm_i Fs15 (by decide)
    have ws15_78 : iI s15 78 = iI s11 78 := fm_i Fs15 (by decide)
    have ws15_86 : iI s15 86 = iI s11 86 := fm_i Fs15 (by decide)
    have ws15_87 : iI s15 87 = iI s11 87 := fm_i Fs15 (by decide)
    have ws15_88 : iI s15 88 = iI s11 88 := fm_i Fs15 (by decide)
    show WS k 40 [(2, .int (Int32.ofInt e14)), (1, .int (Int32.ofInt e9)), (0, .ref (A 179))] [.int (Int32.ofInt e16), .int (Int32.ofInt e9)] (Wd A dT s15) 0 0
    have N17 : ∀ e18 : Int, (((e9 ≠ e16) ∧ e18 = 0) ∨ ((e9 = e16) ∧ e18 = 1)) → WS k 48 [(2, .int (Int32.ofInt e14)), (1, .int (Int32.ofInt e9)), (0, .ref (A 179))] [.int (Int32.ofInt e18)] (Wd A dT s15) 0 0 := by
      intro e18 he18
      have re18 : 0 ≤ e18 ∧ e18 ≤ 1 := by omega
      refine z_store_n X (lv' := [(3, .int (Int32.ofInt e18)), (2, .int (Int32.ofInt e14)), (1, .int (Int32.ofInt e9)), (0, .ref (A 179))]) (show cdA 213 48 = some (.istore_n 3, 1, 0, 0, 0) from rfl) (by decide) (fun _ h => h) ?_
      refine z_load_n X (x := e14) (show cdA 213 49 = some (.iload_n 2, 1, 0, 0, 0) from rfl) (List.Mem.tail _ (List.Mem.head _)) ?_
      refine z_if_ne X (t := 69) (show cdA 213 50 = some (.ifCond .ne 19, 3, 1, 0, 0) from rfl) (by decide) ⟨by first | exact oq_fa4e5087 re14.1 | omega, by first | exact oq_22e1e6b0 re14.2 | omega⟩ (fun g19 => ?_) (fun g19 => ?_)
      ·
        refine z_aload_n X (x := A 179) (show cdA 213 69 = some (.aload_n 0, 1, 0, 0, 0) from rfl) (List.Mem.tail _ (List.Mem.tail _ (List.Mem.tail _ (List.Mem.head _)))) ?_
        refine z_getI X 179 (show cdA 213 70 = some (.getfield 282, 3, 12, 16, 0) from rfl) (by decide) rfl rfl ?_
        have b20 : (0 : Int) ≤ iI s15 86 ∧ iI s15 86 ≤ 8 := Is15.1 86
        refine z_bipush X (show cdA 213 73 = some (.bipush 8, 2, 0, 0, 8) from rfl) ?_
        refine z_icmp_ne X (t := 87) (show cdA 213 75 = some (.if_icmp .ne 12, 3, 1, 0, 0) from rfl) (by decide) (rng_to _) (by decide) (fun g21 => ?_) (fun g21 => ?_)
        ·
          refine z_aload_n X (x := A 179) (show cdA 213 87 = some (.aload_n 0, 1, 0, 0, 0) from rfl) (List.Mem.tail _ (List.Mem.tail _ (List.Mem.tail _ (List.Mem.head _)))) ?_
          refine z_getI X 179 (show cdA 213 88 = some (.getfield 191, 3, 12, 6, 0) from rfl) (by decide) rfl rfl ?_
          have b22 : (0 : Int) ≤ iI s15 79 ∧ iI s15 79 ≤ 9 := Is15.1 79
          refine z_if_eq X (t := 95) (show cdA 213 91 = some (.ifCond .eq 4, 3, 0, 0, 0) from rfl) (by decide) (rng_to _) (fun g23 => ?_) (fun g23 => ?_)
          ·
            refine z_aload_n X (x := A 179) (show cdA 213 95 = some (.aload_n 0, 1, 0, 0, 0) from rfl) (List.Mem.tail _ (List.Mem.tail _ (List.Mem.tail _ (List.Mem.head _)))) ?_
            refine z_callV X 179 (rm := rmN 203) (As := []) (st := []) (show cdA 213 96 = some (.invokevirtual 254, 3, 203, 0, 0) from rfl) rfl (by decide) rfl (by rw [E.1, E.2.1, E.2.2.1]; exact k_skipWord G Is15 (by first | exact oq_0b450759 g19 ws15_77 re14.1 he14 ws11_77 hps11 hps8.2.2 b2.2 | omega)) ⟨by rw [E.2.2.2]; exact (show (rmN 203).frames + 1 ≤ (rmN 213).frames by decide), by rw [E.2.2.2]; exact (show 8 + (mNL (miB 203) + 11) + (rmN 203).locals ≤ (rmN 213).locals by decide), by rw [E.2.2.2]; exact (show 0 + (rmN 203).cells ≤ (rmN 213).cells by decide), by rw [E.2.2.2]; exact (show 0 + (rmN 203).slots ≤ (rmN 213).slots by decide)⟩ (Nat.le_of_ble_eq_true rfl) (fun vv s24 hq => ?_) (fun ee s24 hq => ?_)
            rotate_left
            · obtain ⟨Is24, Fs24, hv, hps24⟩ := hq; cases hv
            obtain ⟨Is24, Fs24, hv, hps24⟩ := hq
            cases hv
            have Gs24 := fm_ts Gs15 Fs24 (by decide) (by decide)
            have b26 : (0 : Int) ≤ iI s24 77 ∧ iI s24 77 ≤ 400 := Is24.1 77
            have ws24_75 : iI s24 75 = iI s15 75 := fm_i Fs24 (by decide)
            have ws24_79 : iI s24 79 = iI s15 79 := fm_i Fs24 (by decide)
            have ws24_78 : iI s24 78 = iI s15 78 := fm_i Fs24 (by decide)
            have ws24_86 : iI s24 86 = iI s15 86 := fm_i Fs24 (by decide)
            have ws24_87 : iI s24 87 = iI s15 87 := fm_i Fs24 (by decide)
            have ws24_88 : iI s24 88 = iI s15 88 := fm_i Fs24 (by decide)
            show WS k 99 [(3, .int (Int32.ofInt e18)), (2, .int (Int32.ofInt e14)), (1, .int (Int32.ofInt e9)), (0, .ref (A 179))] [] (Wd A dT s24) 0 0
            refine z_load_n X (x := e14) (show cdA 213 99 = some (.iload_n 2, 1, 0, 0, 0) from rfl) (List.Mem.tail _ (List.Mem.head _)) ?_
            refine z_if_eq X (t := 119) (show cdA 213 100 = some (.ifCond .eq 19, 3, 0, 0, 0) from rfl) (by decide) ⟨by first | exact oq_fa4e5087 re14.1 | omega, by first | exact oq_22e1e6b0 re14.2 | omega⟩ (fun g27 => ?_) (fun g27 => ?_)
            ·
              refine z_aload_n X (x := A 179) (show cdA 213 119 = some (.aload_n 0, 1, 0, 0, 0) from rfl) (List.Mem.tail _ (List.Mem.tail _ (List.Mem.tail _ (List.Mem.head _)))) ?_
              refine s_getR X 179 (show cdA 213 120 = some (.getfield 29, 3, 12, 20, 0) from rfl) (by decide) rfl rfl ?_
              refine z_aload_n X (x := A 179) (show cdA 213 123 = some (.aload_n 0, 1, 0, 0, 0) from rfl) (List.Mem.tail _ (List.Mem.tail _ (List.Mem.tail _ (List.Mem.head _)))) ?_
              refine z_getI X 179 (show cdA 213 124 = some (.getfield 288, 3, 12, 17, 0) from rfl) (by decide) rfl rfl ?_
              have b28 : (0 : Int) ≤ iI s24 87 ∧ iI s24 87 ≤ 8 := Is24.1 87
              refine z_aload_n X (x := A 179) (show cdA 213 127 = some (.aload_n 0, 1, 0, 0, 0) from rfl) (List.Mem.tail _ (List.Mem.tail _ (List.Mem.tail _ (List.Mem.head _)))) ?_
              refine z_getI X 179 (show cdA 213 128 = some (.getfield 184, 3, 12, 4, 0) from rfl) (by decide) rfl rfl ?_
              have b29 : (0 : Int) ≤ iI s24 77 ∧ iI s24 77 ≤ 400 := Is24.1 77
              refine z_ast X 183 (show cdA 213 131 = some (.iastore, 1, 0, 0, 0) from rfl) (by decide) rfl (by first | exact b28.1 | omega) (show (iI s24 87) < 8 by first | exact oq_bcb93356 ws24_87 g21 b20.2 ws15_87 ws15_86 ws11_87 ws11_86 ws8_87 ws8_86 p3 | omega) (by decide) ?_
              obtain ⟨s30, hs30⟩ : ∃ x0, x0 = uC s24 160 ((iI s24 87)).toNat (Int32.ofInt (iI s24 77)) := ⟨_, rfl⟩
              rw [← hs30]
              have Is30 : Bd s30 := by rw [hs30]; exact bd_C Is24 (show (0 : Int) ≤ (iI s24 77) ∧ (iI s24 77) ≤ 200 by first | exact ⟨b29.1, oq_ca61092c g27 g19⟩ | omega) (rng_to _)
              have Fs30 := fm_C (i := ((iI s24 87)).toNat) (x := Int32.ofInt (iI s24 77)) Gs24 (show 160 ∈ _ by decide)
              rw [← hs30] at Fs30
              have ws30_77 : iI s30 77 = iI s24 77 := by rw [hs30]; rfl
              have ws30_75 : iI s30 75 = iI s24 75 := by rw [hs30]; rfl
              have ws30_79 : iI s30 79 = iI s24 79 := by rw [hs30]; rfl
              have ws30_78 : iI s30 78 = iI s24 78 := by rw [hs30]; rfl
              have ws30_86 : iI s30 86 = iI s24 86 := by rw [hs30]; rfl
              have ws30_87 : iI s30 87 = iI s24 87 := by rw [hs30]; rfl
              have ws30_88 : iI s30 88 = iI s24 88 := by rw [hs30]; rfl
              refine z_aload_n X (x := A 179) (show cdA 213 132 = some (.aload_n 0, 1, 0, 0, 0) from rfl) (List.Mem.tail _ (List.Mem.tail _ (List.Mem.tail _ (List.Mem.head _)))) ?_
              refine w_dup X.1 (ax_d X (show cdA 213 133 = some (.dup, 1, 0, 0, 0) from rfl)) rfl ?_
              refine z_getI X 179 (show cdA 213 134 = some (.getfield 288, 3, 12, 17, 0) from rfl) (by decide) rfl rfl ?_
              have b31 : (0 : Int) ≤ iI s30 87 ∧ iI s30 87 ≤ 8 := Is30.1 87
              refine z_const X (show cdA 213 137 = some (.iconst 1, 1, 0, 0, 0) from rfl) ?_
              refine z_add X (show cdA 213 138 = some (.iadd, 1, 0, 0, 0) from rfl) ?_
              refine s_putI X 179 (show cdA 213 139 = some (.putfield 288, 3, 12, 17, 0) from rfl) (by decide) rfl rfl (by decide) rfl rfl rfl ?_
              obtain ⟨s32, hs32⟩ : ∃ x0, x0 = uI s30 87 (Int32.ofInt ((iI s30 87) + 1)) := ⟨_, rfl⟩
              rw [← hs32]
              have Is32 : Bd s32 := by rw [hs32]; exact bd_I Is30 (show (0 : Int) ≤ ((iI s30 87) + 1) ∧ ((iI s30 87) + 1) ≤ 8 by first | exact ⟨oq_54f49eb5 b31.1, oq_b692c601 ws30_87 ws24_87 g21 b20.2 ws15_87 ws15_86 ws11_87 ws11_86 ws8_87 ws8_86 p3⟩ | omega) ⟨by first | exact oq_74de1e16 b31.1 | omega, by first | exact oq_3762dfb5 b31.2 | omega⟩
              have Fs32 := fm_I (x := Int32.ofInt ((iI s30 87) + 1)) Fs30 (show 87 ∈ _ by decide)
              rw [← hs32] at Fs32
              have vs32 : iI s32 87 = ((iI s30 87) + 1) := by rw [hs32]; exact iI_u ⟨by first | exact oq_74de1e16 b31.1 | omega, by first | exact oq_3762dfb5 b31.2 | omega⟩
              have ws32_77 : iI s32 77 = iI s30 77 := by rw [hs32]; rfl
              have ws32_75 : iI s32 75 = iI s30 75 := by rw [hs32]; rfl
              have ws32_79 : iI s32 79 = iI s30 79 := by rw [hs32]; rfl
              have ws32_78 : iI s32 78 = iI s30 78 := by rw [hs32]; rfl
              have ws32_86 : iI s32 86 = iI s30 86 := by rw [hs32]; rfl
              have ws32_88 : iI s32 88 = iI s30 88 := by rw [hs32]; rfl
              refine z_aload_n X (x := A 179) (show cdA 213 142 = some (.aload_n 0, 1, 0, 0, 0) from rfl) (List.Mem.tail _ (List.Mem.tail _ (List.Mem.tail _ (List.Mem.head _)))) ?_
              refine z_callV X 179 (rm := rmN 212) (As := []) (st := []) (show cdA 213 143 = some (.invokevirtual 276, 3, 212, 0, 0) from rfl) rfl (by decide) rfl (by rw [E.1, E.2.1, E.2.2.1]; exact k_ors G Is32 (by first | exact oq_4322fef3 g27 g19 | omega) (by first | exact oq_02f5ae4d g27 g19 | omega) (by first | exact oq_5e64b0f9 ws32_78 ws30_78 ws24_78 ws15_78 ws11_78 ws8_78 p1 | omega) (by first | exact oq_05144e14 g27 g19 | omega)) ⟨by rw [E.2.2.2]; exact (show (rmN 212).frames + 1 ≤ (rmN 213).frames by decide), by rw [E.2.2.2]; exact (show 8 + (mNL (miB 212) + 11) + (rmN 212).locals ≤ (rmN 213).locals by decide), by rw [E.2.2.2]; exact (show 0 + (rmN 212).cells ≤ (rmN 213).cells by decide), by rw [E.2.2.2]; exact (show 0 + (rmN 212).slots ≤ (rmN 213).slots by decide)⟩ (Nat.le_of_ble_eq_true rfl) (fun vv s33 hq => ?_) (fun ee s33 hq => ?_)
              rotate_left
              · obtain ⟨Is33, Fs33, e34, hv, hrs33, hps33⟩ := hq; cases hv
              obtain ⟨Is33, Fs33, e34, hv, hrs33, hps33⟩ := hq
              cases hv
              have Gs33 := fm_ts Fs32 Fs33 (by decide) (by decide)
              have b35 : (0 : Int) ≤ iI s33 77 ∧ iI s33 77 ≤ 400 := Is33.1 77
              have ws33_75 : iI s33 75 = iI s32 75 := fm_i Fs33 (by decide)
              have b36 : (0 : Int) ≤ iI s33 79 ∧ iI s33 79 ≤ 9 := Is33.1 79
              have b37 : (0 : Int) ≤ iI s33 78 ∧ iI s33 78 ≤ 8 := Is33.1 78
              have ws33_86 : iI s33 86 = iI s32 86 := fm_i Fs33 (by decide)
              have ws33_87 : iI s33 87 = iI s32 87 := fm_i Fs33 (by decide)
              have ws33_88 : iI s33 88 = iI s32 88 := fm_i Fs33 (by decide)
              show WS k 146 [(3, .int (Int32.ofInt e18)), (2, .int (Int32.ofInt e14)), (1, .int (Int32.ofInt e9)), (0, .ref (A 179))] [.int (Int32.ofInt e34)] (Wd A dT s33) 0 0
              refine w_pop X.1 (ax_d X (show cdA 213 146 = some (.pop, 1, 0, 0, 0) from rfl)) rfl ?_
              refine z_aload_n X (x := A 179) (show cdA 213 147 = some (.aload_n 0, 1, 0, 0, 0) from rfl) (List.Mem.tail _ (List.Mem.tail _ (List.Mem.tail _ (List.Mem.head _)))) ?_
              refine z_getI X 179 (show cdA 213 148 = some (.getfield 191, 3, 12, 6, 0) from rfl) (by decide) rfl rfl ?_
              have b38 : (0 : Int) ≤ iI s33 79 ∧ iI s33 79 ≤ 9 := Is33.1 79
              refine z_if_ne X (t := 160) (show cdA 213 151 = some (.ifCond .ne 9, 3, 1, 0, 0) from rfl) (by decide) (rng_to _) (fun g39 => ?_) (fun g39 => ?_)
              ·
                refine z_aload_n X (x := A 179) (show cdA 213 160 = some (.aload_n 0, 1, 0, 0, 0) from rfl) (List.Mem.tail _ (List.Mem.tail _ (List.Mem.tail _ (List.Mem.head _)))) ?_
                refine w_dup X.1 (ax_d X (show cdA 213 161 = some (.dup, 1, 0, 0, 0) from rfl)) rfl ?_
                refine z_getI X 179 (show cdA 213 162 = some (.getfield 282, 3, 12, 16, 0) from rfl) (by decide) rfl rfl ?_
                have b40 : (0 : Int) ≤ iI s33 86 ∧ iI s33 86 ≤ 8 := Is33.1 86
                refine z_const X (show cdA 213 165 = some (.iconst 1, 1, 0, 0, 0) from rfl) ?_
                refine z_add X (show cdA 213 166 = some (.iadd, 1, 0, 0, 0) from rfl) ?_
                refine s_putI X 179 (show cdA 213 167 = some (.putfield 282, 3, 12, 16, 0) from rfl) (by decide) rfl rfl (by decide) rfl rfl rfl ?_
                obtain ⟨s41, hs41⟩ : ∃ x0, x0 = uI s33 86 (Int32.ofInt ((iI s33 86) + 1)) := ⟨_, rfl⟩
                rw [← hs41]
                have Is41 : Bd s41 := by rw [hs41]; exact bd_I Is33 (show (0 : Int) ≤ ((iI s33 86) + 1) ∧ ((iI s33 86) + 1) ≤ 8 by first | exact ⟨oq_54f49eb5 b40.1, oq_36461835 ws33_86 ws32_86 ws30_86 ws24_86 g21 b20.2⟩ | omega) ⟨by first | exact oq_74de1e16 b40.1 | omega, by first | exact oq_3762dfb5 b40.2 | omega⟩
                have Fs41 := fm_I (x := Int32.ofInt ((iI s33 86) + 1)) Gs33 (show 86 ∈ _ by decide)
                rw [← hs41] at Fs41
                have vs41 : iI s41 86 = ((iI s33 86) + 1) := by rw [hs41]; exact iI_u ⟨by first | exact oq_74de1e16 b40.1 | omega, by first | exact oq_3762dfb5 b40.2 | omega⟩
                have ws41_77 : iI s41 77 = iI s33 77 := by rw [hs41]; rfl
                have ws41_75 : iI s41 75 = iI s33 75 := by rw [hs41]; rfl
                have ws41_79 : iI s41 79 = iI s33 79 := by rw [hs41]; rfl
                have ws41_78 : iI s41 78 = iI s33 78 := by rw [hs41]; rfl
                have ws41_87 : iI s41 87 = iI s33 87 := by rw [hs41]; rfl
                have ws41_88 : iI s41 88 = iI s33 88 := by rw [hs41]; rfl
                exact w_vret X.1 q hRt (ax_d X (show cdA 213 170 = some (.return_, 1, 0, 0, 0) from rfl)) (Nat.zero_le _) (Nat.zero_le _) ⟨_, rfl, Is41, Fs41, rfl, by first | exact ⟨oq_a5b19105 g27 g19, oq_6a8ceb7b ws41_77 hps33.2.1 ws32_77 ws30_77 hps24.1 ws15_77 ws11_77 hps8.1, oq_4322fef3 g27 g19, oq_971796bb ws41_79 g39 b38.1, oq_07428765 ws41_87 vs41 ws33_87 ws33_86 ws32_86 vs32 ws30_87 ws30_86 ws24_87 ws24_86 ws15_87 ws15_86 ws11_87 ws11_86 ws8_87 ws8_86 p3⟩ | omega⟩
              ·
                refine z_aload_n X (x := A 179) (show cdA 213 154 = some (.aload_n 0, 1, 0, 0, 0) from rfl) (List.Mem.tail _ (List.Mem.tail _ (List.Mem.tail _ (List.Mem.head _)))) ?_
                refine z_bipush X (show cdA 213 155 = some (.bipush 59, 2, 0, 0, 59) from rfl) ?_
                refine z_callV X 179 (rm := rmN 204) (As := [.int (Int32.ofInt 59)]) (st := []) (show cdA 213 157 = some (.invokevirtual 263, 3, 204, 0, 0) from rfl) rfl (by decide) rfl (by rw [E.1, E.2.1, E.2.2.1]; exact k_sign G Is33 (by first | exact ⟨by decide, by decide⟩ | omega) (by first | exact oq_6db829a8 g27 g19 | omega)) ⟨by rw [E.2.2.2]; exact (show (rmN 204).frames + 1 ≤ (rmN 213).frames by decide), by rw [E.2.2.2]; exact (show 8 + (mNL (miB 204) + 11) + (rmN 204).locals ≤ (rmN 213).locals by decide), by rw [E.2.2.2]; exact (show 0 + (rmN 204).cells ≤ (rmN 213).cells by decide), by rw [E.2.2.2]; exact (show 0 + (rmN 204).slots ≤ (rmN 213).slots by decide)⟩ (Nat.le_of_ble_eq_true rfl) (fun vv s42 hq => ?_) (fun ee s42 hq => ?_)
                rotate_left
                · obtain ⟨Is42, Fs42, hv, hps42⟩ := hq; cases hv
                obtain ⟨Is42, Fs42, hv, hps42⟩ := hq
                cases hv
                have Gs42 := fm_ts Gs33 Fs42 (by decide) (by decide)
                have b44 : (0 : Int) ≤ iI s42 77 ∧ iI s42 77 ≤ 400 := Is42.1 77
                have ws42_75 : iI s42 75 = iI s33 75 := fm_i Fs42 (by decide)
                have b45 : (0 : Int) ≤ iI s42 79 ∧ iI s42 79 ≤ 9 := Is42.1 79
                have ws42_78 : iI s42 78 = iI s33 78 := fm_i Fs42 (by decide)
                have ws42_86 : iI s42 86 = iI s33 86 := fm_i Fs42 (by decide)
                have ws42_87 : iI s42 87 = iI s33 87 := fm_i Fs42 (by decide)
                have ws42_88 : iI s42 88 = iI s33 88 := fm_i Fs42 (by decide)
                show WS k 160 [(3, .int (Int32.ofInt e18)), (2, .int (Int32.ofInt e14)), (1, .int (Int32.ofInt e9)), (0, .ref (A 179))] [] (Wd A dT s42) 0 0
                refine z_aload_n X (x := A 179) (show cdA 213 160 = some (.aload_n 0, 1, 0, 0, 0) from rfl) (List.Mem.tail _ (List.Mem.tail _ (List.Mem.tail _ (List.Mem.head _)))) ?_
                refine w_dup X.1 (ax_d X (show cdA 213 161 = some (.dup, 1, 0, 0, 0) from rfl)) rfl ?_
                refine z_getI X 179 (show cdA 213 162 = some (.getfield 282, 3, 12, 16, 0) from rfl) (by decide) rfl rfl ?_
                have b46 : (0 : Int) ≤ iI s42 86 ∧ iI s42 86 ≤ 8 := Is42.1 86
                refine z_const X (show cdA 213 165 = some (.iconst 1, 1, 0, 0, 0) from rfl) ?_
                refine z_add X (show cdA 213 166 = some (.iadd, 1, 0, 0, 0) from rfl) ?_
                refine s_putI X 179 (show cdA 213 167 = some (.putfield 282, 3, 12, 16, 0) from rfl) (by decide) rfl rfl (by decide) rfl rfl rfl ?_
                obtain ⟨s47, hs47⟩ : ∃ x0, x0 = uI s42 86 (Int32.ofInt ((iI s42 86) + 1)) := ⟨_, rfl⟩
                rw [← hs47]
                have Is47 : Bd s47 := by rw [hs47]; exact bd_I Is42 (show (0 : Int) ≤ ((iI s42 86) + 1) ∧ ((iI s42 86) + 1) ≤ 8 by first | exact ⟨oq_54f49eb5 b46.1, oq_56cdf1d3 ws42_86 ws33_86 ws32_86 ws30_86 ws24_86 g21 b20.2⟩ | omega) ⟨by first | exact oq_74de1e16 b46.1 | omega, by first | exact oq_3762dfb5 b46.2 | omega⟩
                have Fs47 := fm_I (x := Int32.ofInt ((iI s42 86) + 1)) Gs42 (show 86 ∈ _ by decide)
                rw [← hs47] at Fs47
                have vs47 : iI s47 86 = ((iI s42 86) + 1) := by rw [hs47]; exact iI_u ⟨by first | exact oq_74de1e16 b46.1 | omega, by first | exact oq_3762dfb5 b46.2 | omega⟩
                have ws47_77 : iI s47 77 = iI s42 77 := by rw [hs47]; rfl
                have ws47_75 : iI s47 75 = iI s42 75 := by rw [hs47]; rfl
                have ws47_79 : iI s47 79 = iI s42 79 := by rw [hs47]; rfl
                have ws47_78 : iI s47 78 = iI s42 78 := by rw [hs47]; rfl
                have ws47_87 : iI s47 87 = iI s42 87 := by rw [hs47]; rfl
                have ws47_88 : iI s47 88 = iI s42 88 := by rw [hs47]; rfl
                exact w_vret X.1 q hRt (ax_d X (show cdA 213 170 = some (.return_, 1, 0, 0, 0) from rfl)) (Nat.zero_le _) (Nat.zero_le _) ⟨_, rfl, Is47, Fs47, rfl, by first | exact ⟨oq_a5b19105 g27 g19, oq_5c2efc3f ws47_77 hps42.1 hps33.2.1 ws32_77 ws30_77 hps24.1 ws15_77 ws11_77 hps8.1, oq_4322fef3 g27 g19, oq_243ee8ff g27 g19, oq_14de5e60 ws47_87 vs47 ws42_87 ws42_86 ws33_87 ws33_86 ws32_86 vs32 ws30_87 ws30_86 ws24_87 ws24_86 ws15_87 ws15_86 ws11_87 ws11_86 ws8_87 ws8_86 p3⟩ | omega⟩
            ·
              refine z_aload_n X (x := A 179) (show cdA 213 103 = some (.aload_n 0, 1, 0, 0, 0) from rfl) (List.Mem.tail _ (List.Mem.tail _ (List.Mem.tail _ (List.Mem.head _)))) ?_
              refine z_aload_n X (x := A 179) (show cdA 213 104 = some (.aload_n 0, 1, 0, 0, 0) from rfl) (List.Mem.tail _ (List.Mem.tail _ (List.Mem.tail _ (List.Mem.head _)))) ?_
              refine z_getI X 179 (show cdA 213 105 = some (.getfield 184, 3, 12, 4, 0) from rfl) (by decide) rfl rfl ?_
              have b48 : (0 : Int) ≤ iI s24 77 ∧ iI s24 77 ≤ 400 := Is24.1 77
              refine s_putI X 179 (show cdA 213 108 = some (.putfield 285, 3, 12, 18, 0) from rfl) (by decide) rfl rfl (by decide) rfl rfl rfl ?_
              obtain ⟨s49, hs49⟩ : ∃ x0, x0 = uI s24 88 (Int32.ofInt (iI s24 77)) := ⟨_, rfl⟩
              rw [← hs49]
              have Is49 : Bd s49 := by rw [hs49]; exact bd_I Is24 (show ((-1) : Int) ≤ (iI s24 77) ∧ (iI s24 77) ≤ 200 by first | exact ⟨oq_ca54ea22 b48.1, oq_cae1c890 g27 hps24.2 ws15_75 ws15_77 re14.1 he14 ws11_75 ws11_77 hps11 ws8_75 hps8.2.2 b2.2⟩ | omega) (rng_to _)
              have Fs49 := fm_I (x := Int32.ofInt (iI s24 77)) Gs24 (show 88 ∈ _ by decide)
              rw [← hs49] at Fs49
              have vs49 : iI s49 88 = (iI s24 77) := by rw [hs49]; exact iI_u (rng_to _)
              have ws49_77 : iI s49 77 = iI s24 77 := by rw [hs49]; rfl
              have ws49_75 : iI s49 75 = iI s24 75 := by rw [hs49]; rfl
              have ws49_79 : iI s49 79 = iI s24 79 := by rw [hs49]; rfl
              have ws49_78 : iI s49 78 = iI s24 78 := by rw [hs49]; rfl
              have ws49_86 : iI s49 86 = iI s24 86 := by rw [hs49]; rfl
              have ws49_87 : iI s49 87 = iI s24 87 := by rw [hs49]; rfl
              refine z_aload_n X (x := A 179) (show cdA 213 111 = some (.aload_n 0, 1, 0, 0, 0) from rfl) (List.Mem.tail _ (List.Mem.tail _ (List.Mem.tail _ (List.Mem.head _)))) ?_
              refine z_callV X 179 (rm := rmN 209) (As := []) (st := []) (show cdA 213 112 = some (.invokevirtual 260, 3, 209, 0, 0) from rfl) rfl (by decide) rfl (by rw [E.1, E.2.1, E.2.2.1]; exact k_sum G Is49 (by first | exact oq_09fe36a6 ws49_77 g27 hps24.2 ws15_75 ws15_77 re14.1 he14 ws11_75 ws11_77 hps11 ws8_75 hps8.2.2 b2.2 | omega) (by omega) (by first | exact oq_3ce50407 ws49_78 ws24_78 ws15_78 ws11_78 ws8_78 p1 | omega)) ⟨by rw [E.2.2.2]; exact (show (rmN 209).frames + 1 ≤ (rmN 213).frames by decide), by rw [E.2.2.2]; exact (show 8 + (mNL (miB 209) + 11) + (rmN 209).locals ≤ (rmN 213).locals by decide), by rw [E.2.2.2]; exact (show 0 + (rmN 209).cells ≤ (rmN 213).cells by decide), by rw [E.2.2.2]; exact (show 0 + (rmN 209).slots ≤ (rmN 213).slots by decide)⟩ (Nat.le_of_ble_eq_true rfl) (fun vv s50 hq => ?_) (fun ee s50 hq => ?_)
              rotate_left
              · obtain ⟨Is50, Fs50, e51, hv, hrs50, hps50⟩ := hq; cases hv
              obtain ⟨Is50, Fs50, e51, hv, hrs50, hps50⟩ := hq
              cases hv
              have Gs50 := fm_ts Fs49 Fs50 (by decide) (by decide)
              have b52 : (0 : Int) ≤ iI s50 77 ∧ iI s50 77 ≤ 400 := Is50.1 77
              have ws50_75 : iI s50 75 = iI s49 75 := fm_i Fs50 (by decide)
              have b53 : (0 : Int) ≤ iI s50 79 ∧ iI s50 79 ≤ 9 := Is50.1 79
              have b54 : (0 : Int) ≤ iI s50 78 ∧ iI s50 78 ≤ 8 := Is50.1 78
              have ws50_86 : iI s50 86 = iI s49 86 := fm_i Fs50 (by decide)
              have ws50_87 : iI s50 87 = iI s49 87 := fm_i Fs50 (by decide)
              have ws50_88 : iI s50 88 = iI s49 88 := fm_i Fs50 (by decide)
              show WS k 115 [(3, .int (Int32.ofInt e18)), (2, .int (Int32.ofInt e14)), (1, .int (Int32.ofInt e9)), (0, .ref (A 179))] [.int (Int32.ofInt e51)] (Wd A dT s50) 0 0
              refine w_pop X.1 (ax_d X (show cdA 213 115 = some (.pop, 1, 0, 0, 0) from rfl)) rfl ?_
              refine z_goto X (t := 147) (show cdA 213 116 = some (.goto 31, 3, 0, 0, 0) from rfl) (by decide) ?_
              refine z_aload_n X (x := A 179) (show cdA 213 147 = some (.aload_n 0, 1, 0, 0, 0) from rfl) (List.Mem.tail _ (List.Mem.tail _ (List.Mem.tail _ (List.Mem.head _)))) ?_
              refine z_getI X 179 (show cdA 213 148 = some (.getfield 191, 3, 12, 6, 0) from rfl) (by decide) rfl rfl ?_
              have b55 : (0 : Int) ≤ iI s50 79 ∧ iI s50 79 ≤ 9 := Is50.1 79
              refine z_if_ne X (t := 160) (show cdA 213 151 = some (.ifCond .ne 9, 3, 1, 0, 0) from rfl) (by decide) (rng_to _) (fun g56 => ?_) (fun g56 => ?_)
              ·
                refine z_aload_n X (x := A 179) (show cdA 213 160 = some (.aload_n 0, 1, 0, 0, 0) from rfl) (List.Mem.tail _ (List.Mem.tail _ (List.Mem.tail _ (List.Mem.head _)))) ?_
                refine w_dup X.1 (ax_d X (show cdA 213 161 = some (.dup, 1, 0, 0, 0) from rfl)) rfl ?_
                refine z_getI X 179 (show cdA 213 162 = some (.getfield 282, 3, 12, 16, 0) from rfl) (by decide) rfl rfl ?_
                have b57 : (0 : Int) ≤ iI s50 86 ∧ iI s50 86 ≤ 8 := Is50.1 86
                refine z_const X (show cdA 213 165 = some (.iconst 1, 1, 0, 0, 0) from rfl) ?_
                refine z_add X (show cdA 213 166 = some (.iadd, 1, 0, 0, 0) from rfl) ?_
                refine s_putI X 179 (show cdA 213 167 = some (.putfield 282, 3, 12, 16, 0) from rfl) (by decide) rfl rfl (by decide) rfl rfl rfl ?_
                obtain ⟨s58, hs58⟩ : ∃ x0, x0 = uI s50 86 (Int32.ofInt ((iI s50 86) + 1)) := ⟨_, rfl⟩
                rw [← hs58]
                have Is58 : Bd s58 := by rw [hs58]; exact bd_I Is50 (show (0 : Int) ≤ ((iI s50 86) + 1) ∧ ((iI s50 86) + 1) ≤ 8 by first | exact ⟨oq_54f49eb5 b57.1, oq_fa715ff6 ws50_86 ws49_86 ws24_86 g21 b20.2⟩ | omega) ⟨by first | exact oq_74de1e16 b57.1 | omega, by first | exact oq_3762dfb5 b57.2 | omega⟩
                have Fs58 := fm_I (x := Int32.ofInt ((iI s50 86) + 1)) Gs50 (show 86 ∈ _ by decide)
                rw [← hs58] at Fs58
                have vs58 : iI s58 86 = ((iI s50 86) + 1) := by rw [hs58]; exact iI_u ⟨by first | exact oq_74de1e16 b57.1 | omega, by first | exact oq_3762dfb5 b57.2 | omega⟩
                have ws58_77 : iI s58 77 = iI s50 77 := by rw [hs58]; rfl
                have ws58_75 : iI s58 75 = iI s50 75 := by rw [hs58]; rfl
                have ws58_79 : iI s58 79 = iI s50 79 := by rw [hs58]; rfl
                have ws58_78 : iI s58 78 = iI s50 78 := by rw [hs58]; rfl
                have ws58_87 : iI s58 87 = iI s50 87 := by rw [hs58]; rfl
                have ws58_88 : iI s58 88 = iI s50 88 := by rw [hs58]; rfl
                exact w_vret X.1 q hRt (ax_d X (show cdA 213 170 = some (.return_, 1, 0, 0, 0) from rfl)) (Nat.zero_le _) (Nat.zero_le _) ⟨_, rfl, Is58, Fs58, rfl, by first | exact ⟨oq_09c04f1e ws58_78 b54.1 hps50.1 ws49_78 ws24_78 ws15_78 ws11_78 ws8_78 p1, oq_a39082a4 ws58_77 hps50.2.1 ws49_77 hps24.1 ws15_77 ws11_77 hps8.1, oq_f01a7dd9 ws58_77 hps50.2.2.1 ws49_77 g27 hps24.2 ws15_75 ws15_77 re14.1 he14 ws11_75 ws11_77 hps11 ws8_75 hps8.2.2 b2.2, oq_971796bb ws58_79 g56 b55.1, oq_31a90a69 ws58_87 vs58 ws50_87 ws50_86 ws49_87 ws49_86 ws24_87 ws24_86 ws15_87 ws15_86 ws11_87 ws11_86 ws8_87 ws8_86 p3⟩ | omega⟩
              ·
                refine z_aload_n X (x := A 179) (show cdA 213 154 = some (.aload_n 0, 1, 0, 0, 0) from rfl) (List.Mem.tail _ (List.Mem.tail _ (List.Mem.tail _ (List.Mem.head _)))) ?_
                refine z_bipush X (show cdA 213 155 = some (.bipush 59, 2, 0, 0, 59) from rfl) ?_
                refine z_callV X 179 (rm := rmN 204) (As := [.int (Int32.ofInt 59)]) (st := []) (show cdA 213 157 = some (.invokevirtual 263, 3, 204, 0, 0) from rfl) rfl (by decide) rfl (by rw [E.1, E.2.1, E.2.2.1]; exact k_sign G Is50 (by first | exact ⟨by decide, by decide⟩ | omega) (by first | exact oq_f37bb96e hps50.2.2.1 ws49_77 g27 hps24.2 ws15_75 ws15_77 re14.1 he14 ws11_75 ws11_77 hps11 ws8_75 hps8.2.2 b2.2 | omega)) ⟨by rw [E.2.2.2]; exact (show (rmN 204).frames + 1 ≤ (rmN 213).frames by decide), by rw [E.2.2.2]; exact (show 8 + (mNL (miB 204) + 11) + (rmN 204).locals ≤ (rmN 213).locals by decide), by rw [E.2.2.2]; exact (show 0 + (rmN 204).cells ≤ (rmN 213).cells by decide), by rw [E.2.2.2]; exact (show 0 + (rmN 204).slots ≤ (rmN 213).slots by decide)⟩ (Nat.le_of_ble_eq_true rfl) (fun vv s59 hq => ?_) (fun ee s59 hq => ?_)
                rotate_left
                · obtain ⟨Is59, Fs59, hv, hps59⟩ := hq; cases hv
                obtain ⟨Is59, Fs59, hv, hps59⟩ := hq
                cases hv
                have Gs59 := fm_ts Gs50 Fs59 (by decide) (by decide)
                have b61 : (0 : Int) ≤ iI s59 77 ∧ iI s59 77 ≤ 400 := Is59.1 77
                have ws59_75 : iI s59 75 = iI s50 75 := fm_i Fs59 (by decide)
                have b62 : (0 : Int) ≤ iI s59 79 ∧ iI s59 79 ≤ 9 := Is59.1 79
                have ws59_78 : iI s59 78 = iI s50 78 := fm_i Fs59 (by decide)
                have ws59_86 : iI s59 86 = iI s50 86 := fm_i Fs59 (by decide)
                have ws59_87 : iI s59 87 = iI s50 87 := fm_i Fs59 (by decide)
                have ws59_88 : iI s59 88 = iI s50 88 := fm_i Fs59 (by decide)
                show WS k 160 [(3, .int (Int32.ofInt e18)), (2, .int (Int32.ofInt e14)), (1, .int (Int32.ofInt e9)), (0, .ref (A 179))] [] (Wd A dT s59) 0 0
                refine z_aload_n X (x := A 179) (show cdA 213 160 = some (.aload_n 0, 1, 0, 0, 0) from rfl) (List.Mem.tail _ (List.Mem.tail _ (List.Mem.tail _ (List.Mem.head _)))) ?_
                refine w_dup X.1 (ax_d X (show cdA 213 161 = some (.dup, 1, 0, 0, 0) from rfl)) rfl ?_
                refine z_getI X 179 (show cdA 213 162 = some (.getfield 282, 3, 12, 16, 0) from rfl) (by decide) rfl rfl ?_
                have b63 : (0 : Int) ≤ iI s59 86 ∧ iI s59 86 ≤ 8 := Is59.1 86
                refine z_const X (show cdA 213 165 = some (.iconst 1, 1, 0, 0, 0) from rfl) ?_
                refine z_add X (show cdA 213 166 = some (.iadd, 1, 0, 0, 0) from rfl) ?_
                refine s_putI X 179 (show cdA 213 167 = some (.putfield 282, 3, 12, 16, 0) from rfl) (by decide) rfl rfl (by decide) rfl rfl rfl ?_
                obtain ⟨s64, hs64⟩ : ∃ x0, x0 = uI s59 86 (Int32.ofInt ((iI s59 86) + 1)) := ⟨_, rfl⟩
                rw [← hs64]
                have Is64 : Bd s64 := by rw [hs64]; exact bd_I Is59 (show (0 : Int) ≤ ((iI s59 86) + 1) ∧ ((iI s59 86) + 1) ≤ 8 by first | exact ⟨oq_54f49eb5 b63.1, oq_36461835 ws59_86 ws50_86 ws49_86 ws24_86 g21 b20.2⟩ | omega) ⟨by first | exact oq_74de1e16 b63.1 | omega, by first | exact oq_3762dfb5 b63.2 | omega⟩
                have Fs64 := fm_I (x := Int32.ofInt ((iI s59 86) + 1)) Gs59 (show 86 ∈ _ by decide)
                rw [← hs64] at Fs64
                have vs64 : iI s64 86 = ((iI s59 86) + 1) := by rw [hs64]; exact iI_u ⟨by first | exact oq_74de1e16 b63.1 | omega, by first | exact oq_3762dfb5 b63.2 | omega⟩
                have ws64_77 : iI s64 77 = iI s59 77 := by rw [hs64]; rfl
                have ws64_75 : iI s64 75 = iI s59 75 := by rw [hs64]; rfl
                have ws64_79 : iI s64 79 = iI s59 79 := by rw [hs64]; rfl
                have ws64_78 : iI s64 78 = iI s59 78 := by rw [hs64]; rfl
                have ws64_87 : iI s64 87 = iI s59 87 := by rw [hs64]; rfl
                have ws64_88 : iI s64 88 = iI s59 88 := by rw [hs64]; rfl
                exact w_vret X.1 q hRt (ax_d X (show cdA 213 170 = some (.return_, 1, 0, 0, 0) from rfl)) (Nat.zero_le _) (Nat.zero_le _) ⟨_, rfl, Is64, Fs64, rfl, by first | exact ⟨oq_a232ee13 ws64_78 ws59_78 b54.1 hps50.1 ws49_78 ws24_78 ws15_78 ws11_78 ws8_78 p1, oq_ab675376 ws64_77 hps59.1 hps50.2.1 ws49_77 hps24.1 ws15_77 ws11_77 hps8.1, oq_629d975c ws64_77 hps59.2.1 ws50_75 hps50.2.2.1 ws49_75 ws49_77 g27 ws24_75 hps24.2 ws15_75 ws15_77 re14.1 he14 ws11_75 ws11_77 hps11 ws8_75 hps8.2.2 b2.2, oq_34976221 ws64_79 ws64_77 b62.1 hps59.2.2.2 hps59.2.1 ws50_75 hps50.2.1 ws49_75 ws49_77 ws24_75 hps24.1 ws15_75 ws15_77 ws11_75 ws11_77 ws8_75 hps8.1, oq_a4ea2c38 ws64_87 vs64 ws59_87 ws59_86 ws50_87 ws50_86 ws49_87 ws49_86 ws24_87 ws24_86 ws15_87 ws15_86 ws11_87 ws11_86 ws8_87 ws8_86 p3⟩ | omega⟩
          ·
            exact w_vret X.1 q hRt (ax_d X (show cdA 213 94 = some (.return_, 1, 0, 0, 0) from rfl)) (Nat.zero_le _) (Nat.zero_le _) ⟨_, rfl, Is15, Gs15, rfl, by first | exact ⟨oq_0f72f93b ws15_78 ws11_78 ws8_78 p1 b4.1, oq_2954f754 ws15_77 ws11_77 hps8.1, oq_6d2c2237 g23 b22.1 ws15_79 ws11_79 ws8_79 p0, oq_f7664523 g23 b22.1, oq_7f1a346e ws15_87 ws15_86 ws11_87 ws11_86 ws8_87 ws8_86 p3⟩ | omega⟩
        ·
          refine z_aload_n X (x := A 179) (show cdA 213 78 = some (.aload_n 0, 1, 0, 0, 0) from rfl) (List.Mem.tail _ (List.Mem.tail _ (List.Mem.tail _ (List.Mem.head _)))) ?_
          refine z_const X (show cdA 213 79 = some (.iconst 3, 1, 0, 0, 0) from rfl) ?_
          refine z_aload_n X (x := A 179) (show cdA 213 80 = some (.aload_n 0, 1, 0, 0, 0) from rfl) (List.Mem.tail _ (List.Mem.tail _ (List.Mem.tail _ (List.Mem.head _)))) ?_
          refine z_getI X 179 (show cdA 213 81 = some (.getfield 184, 3, 12, 4, 0) from rfl) (by decide) rfl rfl ?_
          have b65 : (0 : Int) ≤ iI s15 77 ∧ iI s15 77 ≤ 400 := Is15.1 77
          refine z_callV X 179 (rm := rmN 194) (As := [.int (Int32.ofInt 3), .int (Int32.ofInt (iI s15 77))]) (st := []) (show cdA 213 84 = some (.invokevirtual 204, 3, 194, 0, 0) from rfl) rfl (by decide) rfl (by rw [E.1, E.2.1, E.2.2.1]; exact k_wrong G Is15 (by first | exact ⟨by decide, by decide⟩ | omega) (by first | exact ⟨oq_ca54ea22 b65.1, b65.2⟩ | omega)) ⟨by rw [E.2.2.2]; exact (show (rmN 194).frames + 1 ≤ (rmN 213).frames by decide), by rw [E.2.2.2]; exact (show 8 + (mNL (miB 194) + 11) + (rmN 194).locals ≤ (rmN 213).locals by decide), by rw [E.2.2.2]; exact (show 0 + (rmN 194).cells ≤ (rmN 213).cells by decide), by rw [E.2.2.2]; exact (show 0 + (rmN 194).slots ≤ (rmN 213).slots by decide)⟩ (Nat.le_of_ble_eq_true rfl) (fun vv s66 hq => ?_) (fun ee s66 hq => ?_)
          rotate_left
          · obtain ⟨Is66, Fs66, hv, hps66⟩ := hq; cases hv
          obtain ⟨Is66, Fs66, hv, hps66⟩ := hq
          cases hv
          have Gs66 := fm_ts Gs15 Fs66 (by decide) (by decide)
          have ws66_77 : iI s66 77 = iI s15 77 := fm_i Fs66 (by decide)
          have ws66_75 : iI s66 75 = iI s15 75 := fm_i Fs66 (by decide)
          have b68 : (0 : Int) ≤ iI s66 79 ∧ iI s66 79 ≤ 9 := Is66.1 79
          have ws66_78 : iI s66 78 = iI s15 78 := fm_i Fs66 (by decide)
          have ws66_86 : iI s66 86 = iI s15 86 := fm_i Fs66 (by decide)
          have ws66_87 : iI s66 87 = iI s15 87 := fm_i Fs66 (by decide)
          have ws66_88 : iI s66 88 = iI s15 88 := fm_i Fs66 (by decide)
          show WS k 87 [(3, .int (Int32.ofInt e18)), (2, .int (Int32.ofInt e14)), (1, .int (Int32.ofInt e9)), (0, .ref (A 179))] [] (Wd A dT s66) 0 0
          refine z_aload_n X (x := A 179) (show cdA 213 87 = some (.aload_n 0, 1, 0, 0, 0) from rfl) (List.Mem.tail _ (List.Mem.tail _ (List.Mem.tail _ (List.Mem.head _)))) ?_
          refine z_getI X 179 (show cdA 213 88 = some (.getfield 191, 3, 12, 6, 0) from rfl) (by decide) rfl rfl ?_
          have b69 : (0 : Int) ≤ iI s66 79 ∧ iI s66 79 ≤ 9 := Is66.1 79
          refine z_if_eq X (t := 95) (show cdA 213 91 = some (.ifCond .eq 4, 3, 0, 0, 0) from rfl) (by decide) (rng_to _) (fun g70 => ?_) (fun g70 => ?_)
          ·
            refine z_aload_n X (x := A 179) (show cdA 213 95 = some (.aload_n 0, 1, 0, 0, 0) from rfl) (List.Mem.tail _ (List.Mem.tail _ (List.Mem.tail _ (List.Mem.head _)))) ?_
            refine z_callV X 179 (rm := rmN 203) (As := []) (st := []) (show cdA 213 96 = some (.invokevirtual 254, 3, 203, 0, 0) from rfl) rfl (by decide) rfl (by rw [E.1, E.2.1, E.2.2.1]; exact k_skipWord G Is66 (by first | exact oq_fe813e1a g70 hps66 | omega)) ⟨by rw [E.2.2.2]; exact (show (rmN 203).frames + 1 ≤ (rmN 213).frames by decide), by rw [E.2.2.2]; exact (show 8 + (mNL (miB 203) + 11) + (rmN 203).locals ≤ (rmN 213).locals by decide), by rw [E.2.2.2]; exact (show 0 + (rmN 203).cells ≤ (rmN 213).cells by decide), by rw [E.2.2.2]; exact (show 0 + (rmN 203).slots ≤ (rmN 213).slots by decide)⟩ (Nat.le_of_ble_eq_true rfl) (fun vv s71 hq => ?_) (fun ee s71 hq => ?_)
            rotate_left
            · obtain ⟨Is71, Fs71, hv, hps71⟩ := hq; cases hv
            obtain ⟨Is71, Fs71, hv, hps71⟩ := hq
            cases hv
            have Gs71 := fm_ts Gs66 Fs71 (by decide) (by decide)
            have b73 : (0 : Int) ≤ iI s71 77 ∧ iI s71 77 ≤ 400 := Is71.1 77
            have ws71_75 : iI s71 75 = iI s66 75 := fm_i Fs71 (by decide)
            have ws71_79 : iI s71 79 = iI s66 79 := fm_i Fs71 (by decide)
            have ws71_78 : iI s71 78 = iI s66 78 := fm_i Fs71 (by decide)
            have ws71_86 : iI s71 86 = iI s66 86 := fm_i Fs71 (by decide)
            have ws71_87 : iI s71 87 = iI s66 87 := fm_i Fs71 (by decide)
            have ws71_88 : iI s71 88 = iI s66 88 := fm_i Fs71 (by decide)
            show WS k 99 [(3, .int (Int32.ofInt e18)), (2, .int (Int32.ofInt e14)), (1, .int (Int32.ofInt e9)), (0, .ref (A 179))] [] (Wd A dT s71) 0 0
            refine z_load_n X (x := e14) (show cdA 213 99 = some (.iload_n 2, 1, 0, 0, 0) from rfl) (List.Mem.tail _ (List.Mem.head _)) ?_
            refine z_if_eq X (t := 119) (show cdA 213 100 = some (.ifCond .eq 19, 3, 0, 0, 0) from rfl) (by decide) ⟨by first | exact oq_fa4e5087 re14.1 | omega, by first | exact oq_22e1e6b0 re14.2 | omega⟩ (fun g74 => ?_) (fun g74 => ?_)
            ·
              refine z_aload_n X (x := A 179) (show cdA 213 119 = some (.aload_n 0, 1, 0, 0, 0) from rfl) (List.Mem.tail _ (List.Mem.tail _ (List.Mem.tail _ (List.Mem.head _)))) ?_
              refine s_getR X 179 (show cdA 213 120 = some (.getfield 29, 3, 12, 20, 0) from rfl) (by decide) rfl rfl ?_
              refine z_aload_n X (x := A 179) (show cdA 213 123 = some (.aload_n 0, 1, 0, 0, 0) from rfl) (List.Mem.tail _ (List.Mem.tail _ (List.Mem.tail _ (List.Mem.head _)))) ?_
              refine z_getI X 179 (show cdA 213 124 = some (.getfield 288, 3, 12, 17, 0) from rfl) (by decide) rfl rfl ?_
              have b75 : (0 : Int) ≤ iI s71 87 ∧ iI s71 87 ≤ 8 := Is71.1 87
              refine z_aload_n X (x := A 179) (show cdA 213 127 = some (.aload_n 0, 1, 0, 0, 0) from rfl) (List.Mem.tail _ (List.Mem.tail _ (List.Mem.tail _ (List.Mem.head _)))) ?_
              refine z_getI X 179 (show cdA 213 128 = some (.getfield 184, 3, 12, 4, 0) from rfl) (by decide) rfl rfl ?_
              have b76 : (0 : Int) ≤ iI s71 77 ∧ iI s71 77 ≤ 400 := Is71.1 77
              refine z_ast X 183 (show cdA 213 131 = some (.iastore, 1, 0, 0, 0) from rfl) (by decide) rfl (by first | exact b75.1 | omega) (show (iI s71 87) < 8 by first | exact oq_115b8e31 g70 hps66 | omega) (by decide) ?_
              obtain ⟨s77, hs77⟩ : ∃ x0, x0 = uC s71 160 ((iI s71 87)).toNat (Int32.ofInt (iI s71 77)) := ⟨_, rfl⟩
              rw [← hs77]
              have Is77 : Bd s77 := by rw [hs77]; exact bd_C Is71 (show (0 : Int) ≤ (iI s71 77) ∧ (iI s71 77) ≤ 200 by first | exact ⟨b76.1, oq_ca61092c g70 hps66⟩ | omega) (rng_to _)
              have Fs77 := fm_C (i := ((iI s71 87)).toNat) (x := Int32.ofInt (iI s71 77)) Gs71 (show 160 ∈ _ by decide)
              rw [← hs77] at Fs77
              have ws77_77 : iI s77 77 = iI s71 77 := by rw [hs77]; rfl
              have ws77_75 : iI s77 75 = iI s71 75 := by rw [hs77]; rfl
              have ws77_79 : iI s77 79 = iI s71 79 := by rw [hs77]; rfl
              have ws77_78 : iI s77 78 = iI s71 78 := by rw [hs77]; rfl
              have ws77_86 : iI s77 86 = iI s71 86 := by rw [hs77]; rfl
              have ws77_87 : iI s77 87 = iI s71 87 := by rw [hs77]; rfl
              have ws77_88 : iI s77 88 = iI s71 88 := by rw [hs77]; rfl
              refine z_aload_n X (x := A 179) (show cdA 213 132 = some (.aload_n 0, 1, 0, 0, 0) from rfl) (List.Mem.tail _ (List.Mem.tail _ (List.Mem.tail _ (List.Mem.head _)))) ?_
              refine w_dup X.1 (ax_d X (show cdA 213 133 = some (.dup, 1, 0, 0, 0) from rfl)) rfl ?_
              refine z_getI X 179 (show cdA 213 134 = some (.getfield 288, 3, 12, 17, 0) from rfl) (by decide) rfl rfl ?_
              have b78 : (0 : Int) ≤ iI s77 87 ∧ iI s77 87 ≤ 8 := Is77.1 87
              refine z_const X (show cdA 213 137 = some (.iconst 1, 1, 0, 0, 0) from rfl) ?_
              refine z_add X (show cdA 213 138 = some (.iadd, 1, 0, 0, 0) from rfl) ?_
              refine s_putI X 179 (show cdA 213 139 = some (.putfield 288, 3, 12, 17, 0) from rfl) (by decide) rfl rfl (by decide) rfl rfl rfl ?_
              obtain ⟨s79, hs79⟩ : ∃ x0, x0 = uI s77 87 (Int32.ofInt ((iI s77 87) + 1)) := ⟨_, rfl⟩
              rw [← hs79]
              have Is79 : Bd s79 := by rw [hs79]; exact bd_I Is77 (show (0 : Int) ≤ ((iI s77 87) + 1) ∧ ((iI s77 87) + 1) ≤ 8 by first | exact ⟨oq_54f49eb5 b78.1, oq_519a4a1d g70 hps66⟩ | omega) ⟨by first | exact oq_74de1e16 b78.1 | omega, by first | exact oq_3762dfb5 b78.2 | omega⟩
              have Fs79 := fm_I (x := Int32.ofInt ((iI s77 87) + 1)) Fs77 (show 87 ∈ _ by decide)
              rw [← hs79] at Fs79
              have vs79 : iI s79 87 = ((iI s77 87) + 1) := by rw [hs79]; exact iI_u ⟨by first | exact oq_74de1e16 b78.1 | omega, by first | exact oq_3762dfb5 b78.2 | omega⟩
              have ws79_77 : iI s79 77 = iI s77 77 := by rw [hs79]; rfl
              have ws79_75 : iI s79 75 = iI s77 75 := by rw [hs79]; rfl
              have ws79_79 : iI s79 79 = iI s77 79 := by rw [hs79]; rfl
              have ws79_78 : iI s79 78 = iI s77 78 := by rw [hs79]; rfl
              have ws79_86 : iI s79 86 = iI s77 86 := by rw [hs79]; rfl
              have ws79_88 : iI s79 88 = iI s77 88 := by rw [hs79]; rfl
              refine z_aload_n X (x := A 179) (show cdA 213 142 = some (.aload_n 0, 1, 0, 0, 0) from rfl) (List.Mem.tail _ (List.Mem.tail _ (List.Mem.tail _ (List.Mem.head _)))) ?_
              refine z_callV X 179 (rm := rmN 212) (As := []) (st := []) (show cdA 213 143 = some (.invokevirtual 276, 3, 212, 0, 0) from rfl) rfl (by decide) rfl (by rw [E.1, E.2.1, E.2.2.1]; exact k_ors G Is79 (by first | exact oq_4322fef3 g70 hps66 | omega) (by first | exact oq_02f5ae4d g70 hps66 | omega) (by first | exact oq_8bd23233 ws79_78 ws77_78 ws71_78 ws66_78 ws15_78 ws11_78 ws8_78 p1 | omega) (by first | exact oq_05144e14 g70 hps66 | omega)) ⟨by rw [E.2.2.2]; exact (show (rmN 212).frames + 1 ≤ (rmN 213).frames by decide), by rw [E.2.2.2]; exact (show 8 + (mNL (miB 212) + 11) + (rmN 212).locals ≤ (rmN 213).locals by decide), by rw [E.2.2.2]; exact (show 0 + (rmN 212).cells ≤ (rmN 213).cells by decide), by rw [E.2.2.2]; exact (show 0 + (rmN 212).slots ≤ (rmN 213).slots by decide)⟩ (Nat.le_of_ble_eq_true rfl) (fun vv s80 hq => ?_) (fun ee s80 hq => ?_)
              rotate_left
              · obtain ⟨Is80, Fs80, e81, hv, hrs80, hps80⟩ := hq; cases hv
              obtain ⟨Is80, Fs80, e81, hv, hrs80, hps80⟩ := hq
              cases hv
              have Gs80 := fm_ts Fs79 Fs80 (by decide) (by decide)
              have b82 : (0 : Int) ≤ iI s80 77 ∧ iI s80 77 ≤ 400 := Is80.1 77
              have ws80_75 : iI s80 75 = iI s79 75 := fm_i Fs80 (by decide)
              have b83 : (0 : Int) ≤ iI s80 79 ∧ iI s80 79 ≤ 9 := Is80.1 79
              have b84 : (0 : Int) ≤ iI s80 78 ∧ iI s80 78 ≤ 8 := Is80.1 78
              have ws80_86 : iI s80 86 = iI s79 86 := fm_i Fs80 (by decide)
              have ws80_87 : iI s80 87 = iI s79 87 := fm_i Fs80 (by decide)
              have ws80_88 : iI s80 88 = iI s79 88 := fm_i Fs80 (by decide)
              show WS k 146 [(3, .int (Int32.ofInt e18)), (2, .int (Int32.ofInt e14)), (1, .int (Int32.ofInt e9)), (0, .ref (A 179))] [.int (Int32.ofInt e81)] (Wd A dT s80) 0 0
              refine w_pop X.1 (ax_d X (show cdA 213 146 = some (.pop, 1, 0, 0, 0) from rfl)) rfl ?_
              refine z_aload_n X (x := A 179) (show cdA 213 147 = some (.aload_n 0, 1, 0, 0, 0) from rfl) (List.Mem.tail _ (List.Mem.tail _ (List.Mem.tail _ (List.Mem.head _)))) ?_
              refine z_getI X 179 (show cdA 213 148 = some (.getfield 191, 3, 12, 6, 0) from rfl) (by decide) rfl rfl ?_
              have b85 : (0 : Int) ≤ iI s80 79 ∧ iI s80 79 ≤ 9 := Is80.1 79
              refine z_if_ne X (t := 160) (show cdA 213 151 = some (.ifCond .ne 9, 3, 1, 0, 0) from rfl) (by decide) (rng_to _) (fun g86 => ?_) (fun g86 => ?_)
              ·
                refine z_aload_n X (x := A 179) (show cdA 213 160 = some (.aload_n 0, 1, 0, 0, 0) from rfl) (List.Mem.tail _ (List.Mem.tail _ (List.Mem.tail _ (List.Mem.head _)))) ?_
                refine w_dup X.1 (ax_d X (show cdA 213 161 = some (.dup, 1, 0, 0, 0) from rfl)) rfl ?_
                refine z_getI X 179 (show cdA 213 162 = some (.getfield 282, 3, 12, 16, 0) from rfl) (by decide) rfl rfl ?_
                have b87 : (0 : Int) ≤ iI s80 86 ∧ iI s80 86 ≤ 8 := Is80.1 86
                refine z_const X (show cdA 213 165 = some (.iconst 1, 1, 0, 0, 0) from rfl) ?_
                refine z_add X (show cdA 213 166 = some (.iadd, 1, 0, 0, 0) from rfl) ?_
                refine s_putI X 179 (show cdA 213 167 = some (.putfield 282, 3, 12, 16, 0) from rfl) (by decide) rfl rfl (by decide) rfl rfl rfl ?_
                obtain ⟨s88, hs88⟩ : ∃ x0, x0 = uI s80 86 (Int32.ofInt ((iI s80 86) + 1)) := ⟨_, rfl⟩
                rw [← hs88]
                have Is88 : Bd s88 := by rw [hs88]; exact bd_I Is80 (show (0 : Int) ≤ ((iI s80 86) + 1) ∧ ((iI s80 86) + 1) ≤ 8 by first | exact ⟨oq_54f49eb5 b87.1, oq_519a4a1d g70 hps66⟩ | omega) ⟨by first | exact oq_74de1e16 b87.1 | omega, by first | exact oq_3762dfb5 b87.2 | omega⟩
                have Fs88 := fm_I (x := Int32.ofInt ((iI s80 86) + 1)) Gs80 (show 86 ∈ _ by decide)
                rw [← hs88] at Fs88
                have vs88 : iI s88 86 = ((iI s80 86) + 1) := by rw [hs88]; exact iI_u ⟨by first | exact oq_74de1e16 b87.1 | omega, by first | exact oq_3762dfb5 b87.2 | omega⟩
                have ws88_77 : iI s88 77 = iI s80 77 := by rw [hs88]; rfl
                have ws88_75 : iI s88 75 = iI s80 75 := by rw [hs88]; rfl
                have ws88_79 : iI s88 79 = iI s80 79 := by rw [hs88]; rfl
                have ws88_78 : iI s88 78 = iI s80 78 := by rw [hs88]; rfl
                have ws88_87 : iI s88 87 = iI s80 87 := by rw [hs88]; rfl
                have ws88_88 : iI s88 88 = iI s80 88 := by rw [hs88]; rfl
                exact w_vret X.1 q hRt (ax_d X (show cdA 213 170 = some (.return_, 1, 0, 0, 0) from rfl)) (Nat.zero_le _) (Nat.zero_le _) ⟨_, rfl, Is88, Fs88, rfl, by first | exact ⟨oq_a5b19105 g70 hps66, oq_f6078872 ws88_77 hps80.2.1 ws79_77 ws77_77 hps71.1 ws66_77 ws15_77 ws11_77 hps8.1, oq_4322fef3 g70 hps66, oq_971796bb ws88_79 g86 b85.1, oq_9a49b549 ws88_87 vs88 ws80_87 ws80_86 ws79_86 vs79 b78.2 ws77_86 ws71_86 ws66_86 g21⟩ | omega⟩
              ·
                refine z_aload_n X (x := A 179) (show cdA 213 154 = some (.aload_n 0, 1, 0, 0, 0) from rfl) (List.Mem.tail _ (List.Mem.tail _ (List.Mem.tail _ (List.Mem.head _)))) ?_
                refine z_bipush X (show cdA 213 155 = some (.bipush 59, 2, 0, 0, 59) from rfl) ?_
                refine z_callV X 179 (rm := rmN 204) (As := [.int (Int32.ofInt 59)]) (st := []) (show cdA 213 157 = some (.invokevirtual 263, 3, 204, 0, 0) from rfl) rfl (by decide) rfl (by rw [E.1, E.2.1, E.2.2.1]; exact k_sign G Is80 (by first | exact ⟨by decide, by decide⟩ | omega) (by first | exact oq_6db829a8 g70 hps66 | omega)) ⟨by rw [E.2.2.2]; exact (show (rmN 204).frames + 1 ≤ (rmN 213).frames by decide), by rw [E.2.2.2]; exact (show 8 + (mNL (miB 204) + 11) + (rmN 204).locals ≤ (rmN 213).locals by decide), by rw [E.2.2.2]; exact (show 0 + (rmN 204).cells ≤ (rmN 213).cells by decide), by rw [E.2.2.2]; exact (show 0 + (rmN 204).slots ≤ (rmN 213).slots by decide)⟩ (Nat.le_of_ble_eq_true rfl) (fun vv s89 hq => ?_) (fun ee s89 hq => ?_)
                rotate_left
                · obtain ⟨Is89, Fs89, hv, hps89⟩ := hq; cases hv
                obtain ⟨Is89, Fs89, hv, hps89⟩ := hq
                cases hv
                have Gs89 := fm_ts Gs80 Fs89 (by decide) (by decide)
                have b91 : (0 : Int) ≤ iI s89 77 ∧ iI s89 77 ≤ 400 := Is89.1 77
                have ws89_75 : iI s89 75 = iI s80 75 := fm_i Fs89 (by decide)
                have b92 : (0 : Int) ≤ iI s89 79 ∧ iI s89 79 ≤ 9 := Is89.1 79
                have ws89_78 : iI s89 78 = iI s80 78 := fm_i Fs89 (by decide)
                have ws89_86 : iI s89 86 = iI s80 86 := fm_i Fs89 (by decide)
                have ws89_87 : iI s89 87 = iI s80 87 := fm_i Fs89 (by decide)
                have ws89_88 : iI s89 88 = iI s80 88 := fm_i Fs89 (by decide)
                show WS k 160 [(3, .int (Int32.ofInt e18)), (2, .int (Int32.ofInt e14)), (1, .int (Int32.ofInt e9)), (0, .ref (A 179))] [] (Wd A dT s89) 0 0
                refine z_aload_n X (x := A 179) (show cdA 213 160 = some (.aload_n 0, 1, 0, 0, 0) from rfl) (List.Mem.tail _ (List.Mem.tail _ (List.Mem.tail _ (List.Mem.head _)))) ?_
                refine w_dup X.1 (ax_d X (show cdA 213 161 = some (.dup, 1, 0, 0, 0) from rfl)) rfl ?_
                refine z_getI X 179 (show cdA 213 162 = some (.getfield 282, 3, 12, 16, 0) from rfl) (by decide) rfl rfl ?_
                have b93 : (0 : Int) ≤ iI s89 86 ∧ iI s89 86 ≤ 8 := Is89.1 86
                refine z_const X (show cdA 213 165 = some (.iconst 1, 1, 0, 0, 0) from rfl) ?_
                refine z_add X (show cdA 213 166 = some (.iadd, 1, 0, 0, 0) from rfl) ?_
                refine s_putI X 179 (show cdA 213 167 = some (.putfield 282, 3, 12, 16, 0) from rfl) (by decide) rfl rfl (by decide) rfl rfl rfl ?_
                obtain ⟨s94, hs94⟩ : ∃ x0, x0 = uI s89 86 (Int32.ofInt ((iI s89 86) + 1)) := ⟨_, rfl⟩
                rw [← hs94]
                have Is94 : Bd s94 := by rw [hs94]; exact bd_I Is89 (show (0 : Int) ≤ ((iI s89 86) + 1) ∧ ((iI s89 86) + 1) ≤ 8 by first | exact ⟨oq_54f49eb5 b93.1, oq_519a4a1d g70 hps66⟩ | omega) ⟨by first | exact oq_74de1e16 b93.1 | omega, by first | exact oq_3762dfb5 b93.2 | omega⟩
                have Fs94 := fm_I (x := Int32.ofInt ((iI s89 86) + 1)) Gs89 (show 86 ∈ _ by decide)
                rw [← hs94] at Fs94
                have vs94 : iI s94 86 = ((iI s89 86) + 1) := by rw [hs94]; exact iI_u ⟨by first | exact oq_74de1e16 b93.1 | omega, by first | exact oq_3762dfb5 b93.2 | omega⟩
                have ws94_77 : iI s94 77 = iI s89 77 := by rw [hs94]; rfl
                have ws94_75 : iI s94 75 = iI s89 75 := by rw [hs94]; rfl
                have ws94_79 : iI s94 79 = iI s89 79 := by rw [hs94]; rfl
                have ws94_78 : iI s94 78 = iI s89 78 := by rw [hs94]; rfl
                have ws94_87 : iI s94 87 = iI s89 87 := by rw [hs94]; rfl
                have ws94_88 : iI s94 88 = iI s89 88 := by rw [hs94]; rfl
                exact w_vret X.1 q hRt (ax_d X (show cdA 213 170 = some (.return_, 1, 0, 0, 0) from rfl)) (Nat.zero_le _) (Nat.zero_le _) ⟨_, rfl, Is94, Fs94, rfl, by first | exact ⟨oq_a5b19105 g70 hps66, oq_7153c7f3 ws94_77 hps89.1 hps80.2.1 ws79_77 ws77_77 hps71.1 ws66_77 ws15_77 ws11_77 hps8.1, oq_4322fef3 g70 hps66, oq_243ee8ff g70 hps66, oq_99f5ad6f ws94_87 vs94 ws89_87 ws89_86 ws80_87 ws80_86 ws79_86 vs79 b78.2 ws77_86 ws71_86 ws66_86 g21⟩ | omega⟩
            ·
              refine z_aload_n X (x := A 179) (show cdA 213 103 = some (.aload_n 0, 1, 0, 0, 0) from rfl) (List.Mem.tail _ (List.Mem.tail _ (List.Mem.tail _ (List.Mem.head _)))) ?_
              refine z_aload_n X (x := A 179) (show cdA 213 104 = some (.aload_n 0, 1, 0, 0, 0) from rfl) (List.Mem.tail _ (List.Mem.tail _ (List.Mem.tail _ (List.Mem.head _)))) ?_
              refine z_getI X 179 (show cdA 213 105 = some (.getfield 184, 3, 12, 4, 0) from rfl) (by decide) rfl rfl ?_
              have b95 : (0 : Int) ≤ iI s71 77 ∧ iI s71 77 ≤ 400 := Is71.1 77
              refine s_putI X 179 (show cdA 213 108 = some (.putfield 285, 3, 12, 18, 0) from rfl) (by decide) rfl rfl (by decide) rfl rfl rfl ?_
              obtain ⟨s96, hs96⟩ : ∃ x0, x0 = uI s71 88 (Int32.ofInt (iI s71 77)) := ⟨_, rfl⟩
              rw [← hs96]
              have Is96 : Bd s96 := by rw [hs96]; exact bd_I Is71 (show ((-1) : Int) ≤ (iI s71 77) ∧ (iI s71 77) ≤ 200 by first | exact ⟨oq_ca54ea22 b95.1, oq_ca61092c g70 hps66⟩ | omega) (rng_to _)
              have Fs96 := fm_I (x := Int32.ofInt (iI s71 77)) Gs71 (show 88 ∈ _ by decide)
              rw [← hs96] at Fs96
              have vs96 : iI s96 88 = (iI s71 77) := by rw [hs96]; exact iI_u (rng_to _)
              have ws96_77 : iI s96 77 = iI s71 77 := by rw [hs96]; rfl
              have ws96_75 : iI s96 75 = iI s71 75 := by rw [hs96]; rfl
              have ws96_79 : iI s96 79 = iI s71 79 := by rw [hs96]; rfl
              have ws96_78 : iI s96 78 = iI s71 78 := by rw [hs96]; rfl
              have ws96_86 : iI s96 86 = iI s71 86 := by rw [hs96]; rfl
              have ws96_87 : iI s96 87 = iI s71 87 := by rw [hs96]; rfl
              refine z_aload_n X (x := A 179) (show cdA 213 111 = some (.aload_n 0, 1, 0, 0, 0) from rfl) (List.Mem.tail _ (List.Mem.tail _ (List.Mem.tail _ (List.Mem.head _)))) ?_
              refine z_callV X 179 (rm := rmN 209) (As := []) (st := []) (show cdA 213 112 = some (.invokevirtual 260, 3, 209, 0, 0) from rfl) rfl (by decide) rfl (by rw [E.1, E.2.1, E.2.2.1]; exact k_sum G Is96 (by first | exact oq_4322fef3 g70 hps66 | omega) (by first | exact oq_02f5ae4d g70 hps66 | omega) (by first | exact oq_5e64b0f9 ws96_78 ws71_78 ws66_78 ws15_78 ws11_78 ws8_78 p1 | omega)) ⟨by rw [E.2.2.2]; exact (show (rmN 209).frames + 1 ≤ (rmN 213).frames by decide), by rw [E.2.2.2]; exact (show 8 + (mNL (miB 209) + 11) + (rmN 209).locals ≤ (rmN 213).locals by decide), by rw [E.2.2.2]; exact (show 0 + (rmN 209).cells ≤ (rmN 213).cells by decide), by rw [E.2.2.2]; exact (show 0 + (rmN 209).slots ≤ (rmN 213).slots by decide)⟩ (Nat.le_of_ble_eq_true rfl) (fun vv s97 hq => ?_) (fun ee s97 hq => ?_)
              rotate_left
              · obtain ⟨Is97, Fs97, e98, hv, hrs97, hps97⟩ := hq; cases hv
              obtain ⟨Is97, Fs97, e98, hv, hrs97, hps97⟩ := hq
              cases hv
              have Gs97 := fm_ts Fs96 Fs97 (by decide) (by decide)
              have b99 : (0 : Int) ≤ iI s97 77 ∧ iI s97 77 ≤ 400 := Is97.1 77
              have ws97_75 : iI s97 75 = iI s96 75 := fm_i Fs97 (by decide)
              have b100 : (0 : Int) ≤ iI s97 79 ∧ iI s97 79 ≤ 9 := Is97.1 79
              have b101 : (0 : Int) ≤ iI s97 78 ∧ iI s97 78 ≤ 8 := Is97.1 78
              have ws97_86 : iI s97 86 = iI s96 86 := fm_i Fs97 (by decide)
              have ws97_87 : iI s97 87 = iI s96 87 := fm_i Fs97 (by decide)
              have ws97_88 : iI s97 88 = iI s96 88 := fm_i Fs97 (by decide)
              show WS k 115 [(3, .int (Int32.ofInt e18)), (2, .int (Int32.ofInt e14)), (1, .int (Int32.ofInt e9)), (0, .ref (A 179))] [.int (Int32.ofInt e98)] (Wd A dT s97) 0 0
              refine w_pop X.1 (ax_d X (show cdA 213 115 = some (.pop, 1, 0, 0, 0) from rfl)) rfl ?_
              refine z_goto X (t := 147) (show cdA 213 116 = some (.goto 31, 3, 0, 0, 0) from rfl) (by decide) ?_
              refine z_aload_n X (x := A 179) (show cdA 213 147 = some (.aload_n 0, 1, 0, 0, 0) from rfl) (List.Mem.tail _ (List.Mem.tail _ (List.Mem.tail _ (List.Mem.head _)))) ?_
              refine z_getI X 179 (show cdA 213 148 = some (.getfield 191, 3, 12, 6, 0) from rfl) (by decide) rfl rfl ?_
              have b102 : (0 : Int) ≤ iI s97 79 ∧ iI s97 79 ≤ 9 := Is97.1 79
              refine z_if_ne X (t := 160) (show cdA 213 151 = some (.ifCond .ne 9, 3, 1, 0, 0) from rfl) (by decide) (rng_to _) (fun g103 => ?_) (fun g103 => ?_)
              ·
                refine z_aload_n X (x := A 179) (show cdA 213 160 = some (.aload_n 0, 1, 0, 0, 0) from rfl) (List.Mem.tail _ (List.Mem.tail _ (List.Mem.tail _ (List.Mem.head _)))) ?_
                refine w_dup X.1 (ax_d X (show cdA 213 161 = some (.dup, 1, 0, 0, 0) from rfl)) rfl ?_
                refine z_getI X 179 (show cdA 213 162 = some (.getfield 282, 3, 12, 16, 0) from rfl) (by decide) rfl rfl ?_
                have b104 : (0 : Int) ≤ iI s97 86 ∧ iI s97 86 ≤ 8 := Is97.1 86
                refine z_const X (show cdA 213 165 = some (.iconst 1, 1, 0, 0, 0) from rfl) ?_
                refine z_add X (show cdA 213 166 = some (.iadd, 1, 0, 0, 0) from rfl) ?_
                refine s_putI X 179 (show cdA 213 167 = some (.putfield 282, 3, 12, 16, 0) from rfl) (by decide) rfl rfl (by decide) rfl rfl rfl ?_
                obtain ⟨s105, hs105⟩ : ∃ x0, x0 = uI s97 86 (Int32.ofInt ((iI s97 86) + 1)) := ⟨_, rfl⟩
                rw [← hs105]
                have Is105 : Bd s105 := by rw [hs105]; exact bd_I Is97 (show (0 : Int) ≤ ((iI s97 86) + 1) ∧ ((iI s97 86) + 1) ≤ 8 by first | exact ⟨oq_54f49eb5 b104.1, oq_519a4a1d g70 hps66⟩ | omega) ⟨by first | exact oq_74de1e16 b104.1 | omega, by first | exact oq_3762dfb5 b104.2 | omega⟩
                have Fs105 := fm_I (x := Int32.ofInt ((iI s97 86) + 1)) Gs97 (show 86 ∈ _ by decide)
                rw [← hs105] at Fs105
                have vs105 : iI s105 86 = ((iI s97 86) + 1) := by rw [hs105]; exact iI_u ⟨by first | exact oq_74de1e16 b104.1 | omega, by first | exact oq_3762dfb5 b104.2 | omega⟩
                have ws105_77 : iI s105 77 = iI s97 77 := by rw [hs105]; rfl
                have ws105_75 : iI s105 75 = iI s97 75 := by rw [hs105]; rfl
                have ws105_79 : iI s105 79 = iI s97 79 := by rw [hs105]; rfl
                have ws105_78 : iI s105 78 = iI s97 78 := by rw [hs105]; rfl
                have ws105_87 : iI s105 87 = iI s97 87 := by rw [hs105]; rfl
                have ws105_88 : iI s105 88 = iI s97 88 := by rw [hs105]; rfl
                exact w_vret X.1 q hRt (ax_d X (show cdA 213 170 = some (.return_, 1, 0, 0, 0) from rfl)) (Nat.zero_le _) (Nat.zero_le _) ⟨_, rfl, Is105, Fs105, rfl, by first | exact ⟨oq_a5b19105 g70 hps66, oq_3d9f5183 ws105_77 hps97.2.1 ws96_77 hps71.1 ws66_77 ws15_77 ws11_77 hps8.1, oq_4322fef3 g70 hps66, oq_971796bb ws105_79 g103 b102.1, oq_e1d63144 ws105_87 vs105 ws97_87 ws97_86 ws96_87 ws96_86 ws71_87 ws71_86 ws66_87 ws66_86 g21 ws15_87 ws11_87 ws8_87 b6.2⟩ | omega⟩
              ·
                refine z_aload_n X (x := A 179) (show cdA 213 154 = some (.aload_n 0, 1, 0, 0, 0) from rfl) (List.Mem.tail _ (List.Mem.tail _ (List.Mem.tail _ (List.Mem.head _)))) ?_
                refine z_bipush X (show cdA 213 155 = some (.bipush 59, 2, 0, 0, 59) from rfl) ?_
                refine z_callV X 179 (rm := rmN 204) (As := [.int (Int32.ofInt 59)]) (st := []) (show cdA 213 157 = some (.invokevirtual 263, 3, 204, 0, 0) from rfl) rfl (by decide) rfl (by rw [E.1, E.2.1, E.2.2.1]; exact k_sign G Is97 (by first | exact ⟨by decide, by decide⟩ | omega) (by first | exact oq_6db829a8 g70 hps66 | omega)) ⟨by rw [E.2.2.2]; exact (show (rmN 204).frames + 1 ≤ (rmN 213).frames by decide), by rw [E.2.2.2]; exact (show 8 + (mNL (miB 204) + 11) + (rmN 204).locals ≤ (rmN 213).locals by decide), by rw [E.2.2.2]; exact (show 0 + (rmN 204).cells ≤ (rmN 213).cells by decide), by rw [E.2.2.2]; exact (show 0 + (rmN 204).slots ≤ (rmN 213).slots by decide)⟩ (Nat.le_of_ble_eq_true rfl) (fun vv s106 hq => ?_) (fun ee s106 hq => ?_)
                rotate_left
                · obtain ⟨Is106, Fs106, hv, hps106⟩ := hq; cases hv
                obtain ⟨Is106, Fs106, hv, hps106⟩ := hq
                cases hv
                have Gs106 := fm_ts Gs97 Fs106 (by decide) (by decide)
                have b108 : (0 : Int) ≤ iI s106 77 ∧ iI s106 77 ≤ 400 := Is106.1 77
                have ws106_75 : iI s106 75 = iI s97 75 := fm_i Fs106 (by decide)
                have b109 : (0 : Int) ≤ iI s106 79 ∧ iI s106 79 ≤ 9 := Is106.1 79
                have ws106_78 : iI s106 78 = iI s97 78 := fm_i Fs106 (by decide)
                have ws106_86 : iI s106 86 = iI s97 86 := fm_i Fs106 (by decide)
                have ws106_87 : iI s106 87 = iI s97 87 := fm_i Fs106 (by decide)
                have ws106_88 : iI s106 88 = iI s97 88 := fm_i Fs106 (by decide)
                show WS k 160 [(3, .int (Int32.ofInt e18)), (2, .int (Int32.ofInt e14)), (1, .int (Int32.ofInt e9)), (0, .ref (A 179))] [] (Wd A dT s106) 0 0
                refine z_aload_n X (x := A 179) (show cdA 213 160 = some (.aload_n 0, 1, 0, 0, 0) from rfl) (List.Mem.tail _ (List.Mem.tail _ (List.Mem.tail _ (List.Mem.head _)))) ?_
                refine w_dup X.1 (ax_d X (show cdA 213 161 = some (.dup, 1, 0, 0, 0) from rfl)) rfl ?_
                refine z_getI X 179 (show cdA 213 162 = some (.getfield 282, 3, 12, 16, 0) from rfl) (by decide) rfl rfl ?_
                have b110 : (0 : Int) ≤ iI s106 86 ∧ iI s106 86 ≤ 8 := Is106.1 86
                refine z_const X (show cdA 213 165 = some (.iconst 1, 1, 0, 0, 0) from rfl) ?_
                refine z_add X (show cdA 213 166 = some (.iadd, 1, 0, 0, 0) from rfl) ?_
                refine s_putI X 179 (show cdA 213 167 = some (.putfield 282, 3, 12, 16, 0) from rfl) (by decide) rfl rfl (by decide) rfl rfl rfl ?_
                obtain ⟨s111, hs111⟩ : ∃ x0, x0 = uI s106 86 (Int32.ofInt ((iI s106 86) + 1)) := ⟨_, rfl⟩
                rw [← hs111]
                have Is111 : Bd s111 := by rw [hs111]; exact bd_I Is106 (show (0 : Int) ≤ ((iI s106 86) + 1) ∧ ((iI s106 86) + 1) ≤ 8 by first | exact ⟨oq_54f49eb5 b110.1, oq_519a4a1d g70 hps66⟩ | omega) ⟨by first | exact oq_74de1e16 b110.1 | omega, by first | exact oq_3762dfb5 b110.2 | omega⟩
                have Fs111 := fm_I (x := Int32.ofInt ((iI s106 86) + 1)) Gs106 (show 86 ∈ _ by decide)
                rw [← hs111] at Fs111
                have vs111 : iI s111 86 = ((iI s106 86) + 1) := by rw [hs111]; exact iI_u ⟨by first | exact oq_74de1e16 b110.1 | omega, by first | exact oq_3762dfb5 b110.2 | omega⟩
                have ws111_77 : iI s111 77 = iI s106 77 := by rw [hs111]; rfl
                have ws111_75 : iI s111 75 = iI s106 75 := by rw [hs111]; rfl
                have ws111_79 : iI s111 79 = iI s106 79 := by rw [hs111]; rfl
                have ws111_78 : iI s111 78 = iI s106 78 := by rw [hs111]; rfl
                have ws111_87 : iI s111 87 = iI s106 87 := by rw [hs111]; rfl
                have ws111_88 : iI s111 88 = iI s106 88 := by rw [hs111]; rfl
                exact w_vret X.1 q hRt (ax_d X (show cdA 213 170 = some (.return_, 1, 0, 0, 0) from rfl)) (Nat.zero_le _) (Nat.zero_le _) ⟨_, rfl, Is111, Fs111, rfl, by first | exact ⟨oq_a5b19105 g70 hps66, oq_fac99100 ws111_77 hps106.1 hps97.2.1 ws96_77 hps71.1 ws66_77 ws15_77 ws11_77 hps8.1, oq_4322fef3 g70 hps66, oq_243ee8ff g70 hps66, oq_27685c07 ws111_87 vs111 ws106_87 ws106_86 ws97_87 ws97_86 ws96_87 ws96_86 ws71_87 ws71_86 ws66_87 ws66_86 g21 ws15_87 ws11_87 ws8_87 b6.2⟩ | omega⟩
          ·
            exact w_vret X.1 q hRt (ax_d X (show cdA 213 94 = some (.return_, 1, 0, 0, 0) from rfl)) (Nat.zero_le _) (Nat.zero_le _) ⟨_, rfl, Is66, Gs66, rfl, by first | exact ⟨oq_d0299403 ws66_78 ws15_78 ws11_78 ws8_78 p1 b4.1, oq_3b5dd946 ws66_77 hps8.1 ws11_77 ws15_77, oq_130b47e8 ws66_77 g19 ws15_77 re14.1 he14 ws11_77 hps11 hps8.2.2 b2.2, oq_f7664523 g70 b69.1, oq_641a7aee ws66_87 ws66_86 g21 ws15_87 ws11_87 ws8_87 b6.2⟩ | omega⟩
      ·
        refine z_load_n X (x := e18) (show cdA 213 53 = some (.iload_n 3, 1, 0, 0, 0) from rfl) (List.Mem.head _) ?_
        refine z_if_ne X (t := 69) (show cdA 213 54 = some (.ifCond .ne 15, 3, 1, 0, 0) from rfl) (by decide) ⟨by first | exact oq_fa4e5087 re18.1 | omega, by first | exact oq_22e1e6b0 re18.2 | omega⟩ (fun g112 => ?_) (fun g112 => ?_)
        ·
          refine z_aload_n X (x := A 179) (show cdA 213 69 = some (.aload_n 0, 1, 0, 0, 0) from rfl) (List.Mem.tail _ (List.Mem.tail _ (List.Mem.tail _ (List.Mem.head _)))) ?_
          refine z_getI X 179 (show cdA 213 70 = some (.getfield 282, 3, 12, 16, 0) from rfl) (by decide) rfl rfl ?_
          have b113 : (0 : Int) ≤ iI s15 86 ∧ iI s15 86 ≤ 8 := Is15.1 86
          refine z_bipush X (show cdA 213 73 = some (.bipush 8, 2, 0, 0, 8) from rfl) ?_
          refine z_icmp_ne X (t := 87) (show cdA 213 75 = some (.if_icmp .ne 12, 3, 1, 0, 0) from rfl) (by decide) (rng_to _) (by decide) (fun g114 => ?_) (fun g114 => ?_)
          ·
            refine z_aload_n X (x := A 179) (show cdA 213 87 = some (.aload_n 0, 1, 0, 0, 0) from rfl) (List.Mem.tail _ (List.Mem.tail _ (List.Mem.tail _ (List.Mem.head _)))) ?_
            refine z_getI X 179 (show cdA 213 88 = some (.getfield 191, 3, 12, 6, 0) from rfl) (by decide) rfl rfl ?_
            have b115 : (0 : Int) ≤ iI s15 79 ∧ iI s15 79 ≤ 9 := Is15.1 79
            refine z_if_eq X (t := 95) (show cdA 213 91 = some (.ifCond .eq 4, 3, 0, 0, 0) from rfl) (by decide) (rng_to _) (fun g116 => ?_) (fun g116 => ?_)
            ·
              refine z_aload_n X (x := A 179) (show cdA 213 95 = some (.aload_n 0, 1, 0, 0, 0) from rfl) (List.Mem.tail _ (List.Mem.tail _ (List.Mem.tail _ (List.Mem.head _)))) ?_
              refine z_callV X 179 (rm := rmN 203) (As := []) (st := []) (show cdA 213 96 = some (.invokevirtual 254, 3, 203, 0, 0) from rfl) rfl (by decide) rfl (by rw [E.1, E.2.1, E.2.2.1]; exact k_skipWord G Is15 (by first | exact oq_4059ac16 g112 re18.1 he18 ws15_77 hps15 ws11_77 hps8.2.2 b2.2 | omega)) ⟨by rw [E.2.2.2]; exact (show (rmN 203).frames + 1 ≤ (rmN 213).frames by decide), by rw [E.2.2.2]; exact (show 8 + (mNL (miB 203) + 11) + (rmN 203).locals ≤ (rmN 213).locals by decide), by rw [E.2.2.2]; exact (show 0 + (rmN 203).cells ≤ (rmN 213).cells by decide), by rw [E.2.2.2]; exact (show 0 + (rmN 203).slots ≤ (rmN 213).slots by decide)⟩ (Nat.le_of_ble_eq_true rfl) (fun vv s117 hq => ?_) (fun ee s117 hq => ?_)
              rotate_left
              · obtain ⟨Is117, Fs117, hv, hps117⟩ := hq; cases hv
              obtain ⟨Is117, Fs117, hv, hps117⟩ := hq
              cases hv
              have Gs117 := fm_ts Gs15 Fs117 (by decide) (by decide)
              have b119 : (0 : Int) ≤ iI s117 77 ∧ iI s117 77 ≤ 400 := Is117.1 77
              have ws117_75 : iI s117 75 = iI s15 75 := fm_i Fs117 (by decide)
              have ws117_79 : iI s117 79 = iI s15 79 := fm_i Fs117 (by decide)
              have ws117_78 : iI s117 78 = iI s15 78 := fm_i Fs117 (by decide)
              have ws117_86 : iI s117 86 = iI s15 86 := fm_i Fs117 (by decide)
              have ws117_87 : iI s117 87 = iI s15 87 := fm_i Fs117 (by decide)
              have ws117_88 : iI s117 88 = iI s15 88 := fm_i Fs117 (by decide)
              show WS k 99 [(3, .int (Int32.ofInt e18)), (2, .int (Int32.ofInt e14)), (1, .int (Int32.ofInt e9)), (0, .ref (A 179))] [] (Wd A dT s117) 0 0
              refine z_load_n X (x := e14) (show cdA 213 99 = some (.iload_n 2, 1, 0, 0, 0) from rfl) (List.Mem.tail _ (List.Mem.head _)) ?_
              refine z_if_eq X (t := 119) (show cdA 213 100 = some (.ifCond .eq 19, 3, 0, 0, 0) from rfl) (by decide) ⟨by first | exact oq_6ab4c69f g19 | omega, by first | exact oq_3b8a080c g19 | omega⟩ (fun g120 => ?_) (fun g120 => ?_)
              ·
                refine z_aload_n X (x := A 179) (show cdA 213 119 = some (.aload_n 0, 1, 0, 0, 0) from rfl) (List.Mem.tail _ (List.Mem.tail _ (List.Mem.tail _ (List.Mem.head _)))) ?_
                refine s_getR X 179 (show cdA 213 120 = some (.getfield 29, 3, 12, 20, 0) from rfl) (by decide) rfl rfl ?_
                refine z_aload_n X (x := A 179) (show cdA 213 123 = some (.aload_n 0, 1, 0, 0, 0) from rfl) (List.Mem.tail _ (List.Mem.tail _ (List.Mem.tail _ (List.Mem.head _)))) ?_
                refine z_getI X 179 (show cdA 213 124 = some (.getfield 288, 3, 12, 17, 0) from rfl) (by decide) rfl rfl ?_
                have b121 : (0 : Int) ≤ iI s117 87 ∧ iI s117 87 ≤ 8 := Is117.1 87
                refine z_aload_n X (x := A 179) (show cdA 213 127 = some (.aload_n 0, 1, 0, 0, 0) from rfl) (List.Mem.tail _ (List.Mem.tail _ (List.Mem.tail _ (List.Mem.head _)))) ?_
                refine z_getI X 179 (show cdA 213 128 = some (.getfield 184, 3, 12, 4, 0) from rfl) (by decide) rfl rfl ?_
                have b122 : (0 : Int) ≤ iI s117 77 ∧ iI s117 77 ≤ 400 := Is117.1 77
                refine z_ast X 183 (show cdA 213 131 = some (.iastore, 1, 0, 0, 0) from rfl) (by decide) rfl (by first | exact b121.1 | omega) (show (iI s117 87) < 8 by first | exact oq_bcb93356 ws117_87 g114 b113.2 ws15_87 ws15_86 ws11_87 ws11_86 ws8_87 ws8_86 p3 | omega) (by decide) ?_
                obtain ⟨s123, hs123⟩ : ∃ x0, x0 = uC s117 160 ((iI s117 87)).toNat (Int32.ofInt (iI s117 77)) := ⟨_, rfl⟩
                rw [← hs123]
                have Is123 : Bd s123 := by rw [hs123]; exact bd_C Is117 (show (0 : Int) ≤ (iI s117 77) ∧ (iI s117 77) ≤ 200 by first | exact ⟨b122.1, oq_a1d11eb1 hps117.2 g112 re18.1 he18 ws15_75 ws15_77 hps15 ws11_75 ws11_77 ws8_75 hps8.2.2 b2.2⟩ | omega) (rng_to _)
                have Fs123 := fm_C (i := ((iI s117 87)).toNat) (x := Int32.ofInt (iI s117 77)) Gs117 (show 160 ∈ _ by decide)
                rw [← hs123] at Fs123
                have ws123_77 : iI s123 77 = iI s117 77 := by rw [hs123]; rfl
                have ws123_75 : iI s123 75 = iI s117 75 := by rw [hs123]; rfl
                have ws123_79 : iI s123 79 = iI s117 79 := by rw [hs123]; rfl
                have ws123_78 : iI s123 78 = iI s117 78 := by rw [hs123]; rfl
                have ws123_86 : iI s123 86 = iI s117 86 := by rw [hs123]; rfl
                have ws123_87 : iI s123 87 = iI s117 87 := by rw [hs123]; rfl
                have ws123_88 : iI s123 88 = iI s117 88 := by rw [hs123]; rfl
                refine z_aload_n X (x := A 179) (show cdA 213 132 = some (.aload_n 0, 1, 0, 0, 0) from rfl) (List.Mem.tail _ (List.Mem.tail _ (List.Mem.tail _ (List.Mem.head _)))) ?_
                refine w_dup X.1 (ax_d X (show cdA 213 133 = some (.dup, 1, 0, 0, 0) from rfl)) rfl ?_
                refine z_getI X 179 (show cdA 213 134 = some (.getfield 288, 3, 12, 17, 0) from rfl) (by decide) rfl rfl ?_
                have b124 : (0 : Int) ≤ iI s123 87 ∧ iI s123 87 ≤ 8 := Is123.1 87
                refine z_const X (show cdA 213 137 = some (.iconst 1, 1, 0, 0, 0) from rfl) ?_
                refine z_add X (show cdA 213 138 = some (.iadd, 1, 0, 0, 0) from rfl) ?_
                refine s_putI X 179 (show cdA 213 139 = some (.putfield 288, 3, 12, 17, 0) from rfl) (by decide) rfl rfl (by decide) rfl rfl rfl ?_
                obtain ⟨s125, hs125⟩ : ∃ x0, x0 = uI s123 87 (Int32.ofInt ((iI s123 87) + 1)) := ⟨_, rfl⟩
                rw [← hs125]
                have Is125 : Bd s125 := by rw [hs125]; exact bd_I Is123 (show (0 : Int) ≤ ((iI s123 87) + 1) ∧ ((iI s123 87) + 1) ≤ 8 by first | exact ⟨oq_54f49eb5 b124.1, oq_b692c601 ws123_87 ws117_87 g114 b113.2 ws15_87 ws15_86 ws11_87 ws11_86 ws8_87 ws8_86 p3⟩ | omega) ⟨by first | exact oq_74de1e16 b124.1 | omega, by first | exact oq_3762dfb5 b124.2 | omega⟩
                have Fs125 := fm_I (x := Int32.ofInt ((iI s123 87) + 1)) Fs123 (show 87 ∈ _ by decide)
                rw [← hs125] at Fs125
                have vs125 : iI s125 87 = ((iI s123 87) + 1) := by rw [hs125]; exact iI_u ⟨by first | exact oq_74de1e16 b124.1 | omega, by first | exact oq_3762dfb5 b124.2 | omega⟩
                have ws125_77 : iI s125 77 = iI s123 77 := by rw [hs125]; rfl
                have ws125_75 : iI s125 75 = iI s123 75 := by rw [hs125]; rfl
                have ws125_79 : iI s125 79 = iI s123 79 := by rw [hs125]; rfl
                have ws125_78 : iI s125 78 = iI s123 78 := by rw [hs125]; rfl
                have ws125_86 : iI s125 86 = iI s123 86 := by rw [hs125]; rfl
                have ws125_88 : iI s125 88 = iI s123 88 := by rw [hs125]; rfl
                refine z_aload_n X (x := A 179) (show cdA 213 142 = some (.aload_n 0, 1, 0, 0, 0) from rfl) (List.Mem.tail _ (List.Mem.tail _ (List.Mem.tail _ (List.Mem.head _)))) ?_
                refine z_callV X 179 (rm := rmN 212) (As := []) (st := []) (show cdA 213 143 = some (.invokevirtual 276, 3, 212, 0, 0) from rfl) rfl (by decide) rfl (by rw [E.1, E.2.1, E.2.2.1]; exact k_ors G Is125 (by first | exact oq_cd23130a ws125_77 ws123_77 hps117.2 g112 re18.1 he18 ws15_75 ws15_77 hps15 ws11_75 ws11_77 ws8_75 hps8.2.2 b2.2 | omega) (by omega) (by first | exact oq_5e64b0f9 ws125_78 ws123_78 ws117_78 ws15_78 ws11_78 ws8_78 p1 | omega) (by first | exact oq_aeed1cd5 ws125_77 ws123_77 hps117.2 g112 re18.1 he18 ws15_75 ws15_77 hps15 ws11_75 ws11_77 ws8_75 hps8.2.2 b2.2 | omega)) ⟨by rw [E.2.2.2]; exact (show (rmN 212).frames + 1 ≤ (rmN 213).frames by decide), by rw [E.2.2.2]; exact (show 8 + (mNL (miB 212) + 11) + (rmN 212).locals ≤ (rmN 213).locals by decide), by rw [E.2.2.2]; exact (show 0 + (rmN 212).cells ≤ (rmN 213).cells by decide), by rw [E.2.2.2]; exact (show 0 + (rmN 212).slots ≤ (rmN 213).slots by decide)⟩ (Nat.le_of_ble_eq_true rfl) (fun vv s126 hq => ?_) (fun ee s126 hq => ?_)
                rotate_left
                · obtain ⟨Is126, Fs126, e127, hv, hrs126, hps126⟩ := hq; cases hv
                obtain ⟨Is126, Fs126, e127, hv, hrs126, hps126⟩ := hq
                cases hv
                have Gs126 := fm_ts Fs125 Fs126 (by decide) (by decide)
                have b128 : (0 : Int) ≤ iI s126 77 ∧ iI s126 77 ≤ 400 := Is126.1 77
                have ws126_75 : iI s126 75 = iI s125 75 := fm_i Fs126 (by decide)
                have b129 : (0 : Int) ≤ iI s126 79 ∧ iI s126 79 ≤ 9 := Is126.1 79
                have b130 : (0 : Int) ≤ iI s126 78 ∧ iI s126 78 ≤ 8 := Is126.1 78
                have ws126_86 : iI s126 86 = iI s125 86 := fm_i Fs126 (by decide)
                have ws126_87 : iI s126 87 = iI s125 87 := fm_i Fs126 (by decide)
                have ws126_88 : iI s126 88 = iI s125 88 := fm_i Fs126 (by decide)
                show WS k 146 [(3, .int (Int32.ofInt e18)), (2, .int (Int32.ofInt e14)), (1, .int (Int32.ofInt e9)), (0, .ref (A 179))] [.int (Int32.ofInt e127)] (Wd A dT s126) 0 0
                refine w_pop X.1 (ax_d X (show cdA 213 146 = some (.pop, 1, 0, 0, 0) from rfl)) rfl ?_
                refine z_aload_n X (x := A 179) (show cdA 213 147 = some (.aload_n 0, 1, 0, 0, 0) from rfl) (List.Mem.tail _ (List.Mem.tail _ (List.Mem.tail _ (List.Mem.head _)))) ?_
                refine z_getI X 179 (show cdA 213 148 = some (.getfield 191, 3, 12, 6, 0) from rfl) (by decide) rfl rfl ?_
                have b131 : (0 : Int) ≤ iI s126 79 ∧ iI s126 79 ≤ 9 := Is126.1 79
                refine z_if_ne X (t := 160) (show cdA 213 151 = some (.ifCond .ne 9, 3, 1, 0, 0) from rfl) (by decide) (rng_to _) (fun g132 => ?_) (fun g132 => ?_)
                ·
                  refine z_aload_n X (x := A 179) (show cdA 213 160 = some (.aload_n 0, 1, 0, 0, 0) from rfl) (List.Mem.tail _ (List.Mem.tail _ (List.Mem.tail _ (List.Mem.head _)))) ?_
                  refine w_dup X.1 (ax_d X (show cdA 213 161 = some (.dup, 1, 0, 0, 0) from rfl)) rfl ?_
                  refine z_getI X 179 (show cdA 213 162 = some (.getfield 282, 3, 12, 16, 0) from rfl) (by decide) rfl rfl ?_
                  have b133 : (0 : Int) ≤ iI s126 86 ∧ iI s126 86 ≤ 8 := Is126.1 86
                  refine z_const X (show cdA 213 165 = some (.iconst 1, 1, 0, 0, 0) from rfl) ?_
                  refine z_add X (show cdA 213 166 = some (.iadd, 1, 0, 0, 0) from rfl) ?_
                  refine s_putI X 179 (show cdA 213 167 = some (.putfield 282, 3, 12, 16, 0) from rfl) (by decide) rfl rfl (by decide) rfl rfl rfl ?_
                  obtain ⟨s134, hs134⟩ : ∃ x0, x0 = uI s126 86 (Int32.ofInt ((iI s126 86) + 1)) := ⟨_, rfl⟩
                  rw [← hs134]
                  have Is134 : Bd s134 := by rw [hs134]; exact bd_I Is126 (show (0 : Int) ≤ ((iI s126 86) + 1) ∧ ((iI s126 86) + 1) ≤ 8 by first | exact ⟨oq_54f49eb5 b133.1, oq_36461835 ws126_86 ws125_86 ws123_86 ws117_86 g114 b113.2⟩ | omega) ⟨by first | exact oq_74de1e16 b133.1 | omega, by first | exact oq_3762dfb5 b133.2 | omega⟩
                  have Fs134 := fm_I (x := Int32.ofInt ((iI s126 86) + 1)) Gs126 (show 86 ∈ _ by decide)
                  rw [← hs134] at Fs134
                  have vs134 : iI s134 86 = ((iI s126 86) + 1) := by rw [hs134]; exact iI_u ⟨by first | exact oq_74de1e16 b133.1 | omega, by first | exact oq_3762dfb5 b133.2 | omega⟩
                  have ws134_77 : iI s134 77 = iI s126 77 := by rw [hs134]; rfl
                  have ws134_75 : iI s134 75 = iI s126 75 := by rw [hs134]; rfl
                  have ws134_79 : iI s134 79 = iI s126 79 := by rw [hs134]; rfl
                  have ws134_78 : iI s134 78 = iI s126 78 := by rw [hs134]; rfl
                  have ws134_87 : iI s134 87 = iI s126 87 := by rw [hs134]; rfl
                  have ws134_88 : iI s134 88 = iI s126 88 := by rw [hs134]; rfl
                  exact w_vret X.1 q hRt (ax_d X (show cdA 213 170 = some (.return_, 1, 0, 0, 0) from rfl)) (Nat.zero_le _) (Nat.zero_le _) ⟨_, rfl, Is134, Fs134, rfl, by first | exact ⟨oq_3db77ff9 ws134_78 b130.1 hps126.1 ws125_78 ws123_78 ws117_78 ws15_78 ws11_78 ws8_78 p1, oq_6a8ceb7b ws134_77 hps126.2.1 ws125_77 ws123_77 hps117.1 ws15_77 ws11_77 hps8.1, oq_93b88a81 ws134_77 hps126.2.2.1 ws125_77 ws123_77 hps117.2 g112 re18.1 he18 ws15_75 ws15_77 hps15 ws11_75 ws11_77 ws8_75 hps8.2.2 b2.2, oq_971796bb ws134_79 g132 b131.1, oq_07428765 ws134_87 vs134 ws126_87 ws126_86 ws125_86 vs125 ws123_87 ws123_86 ws117_87 ws117_86 ws15_87 ws15_86 ws11_87 ws11_86 ws8_87 ws8_86 p3⟩ | omega⟩
                ·
                  refine z_aload_n X (x := A 179) (show cdA 213 154 = some (.aload_n 0, 1, 0, 0, 0) from rfl) (List.Mem.tail _ (List.Mem.tail _ (List.Mem.tail _ (List.Mem.head _)))) ?_
                  refine z_bipush X (show cdA 213 155 = some (.bipush 59, 2, 0, 0, 59) from rfl) ?_
                  refine z_callV X 179 (rm := rmN 204) (As := [.int (Int32.ofInt 59)]) (st := []) (show cdA 213 157 = some (.invokevirtual 263, 3, 204, 0, 0) from rfl) rfl (by decide) rfl (by rw [E.1, E.2.1, E.2.2.1]; exact k_sign G Is126 (by first | exact ⟨by decide, by decide⟩ | omega) (by first | exact oq_12dc81b8 hps126.2.2.1 ws125_77 ws123_77 hps117.2 g112 re18.1 he18 ws15_75 ws15_77 hps15 ws11_75 ws11_77 ws8_75 hps8.2.2 b2.2 | omega)) ⟨by rw [E.2.2.2]; exact (show (rmN 204).frames + 1 ≤ (rmN 213).frames by decide), by rw [E.2.2.2]; exact (show 8 + (mNL (miB 204) + 11) + (rmN 204).locals ≤ (rmN 213).locals by decide), by rw [E.2.2.2]; exact (show 0 + (rmN 204).cells ≤ (rmN 213).cells by decide), by rw [E.2.2.2]; exact (show 0 + (rmN 204).slots ≤ (rmN 213).slots by decide)⟩ (Nat.le_of_ble_eq_true rfl) (fun vv s135 hq => ?_) (fun ee s135 hq => ?_)
                  rotate_left
                  · obtain ⟨Is135, Fs135, hv, hps135⟩ := hq; cases hv
                  obtain ⟨Is135, Fs135, hv, hps135⟩ := hq
                  cases hv
                  have Gs135 := fm_ts Gs126 Fs135 (by decide) (by decide)
                  have b137 : (0 : Int) ≤ iI s135 77 ∧ iI s135 77 ≤ 400 := Is135.1 77
                  have ws135_75 : iI s135 75 = iI s126 75 := fm_i Fs135 (by decide)
                  have b138 : (0 : Int) ≤ iI s135 79 ∧ iI s135 79 ≤ 9 := Is135.1 79
                  have ws135_78 : iI s135 78 = iI s126 78 := fm_i Fs135 (by decide)
                  have ws135_86 : iI s135 86 = iI s126 86 := fm_i Fs135 (by decide)
                  have ws135_87 : iI s135 87 = iI s126 87 := fm_i Fs135 (by decide)
                  have ws135_88 : iI s135 88 = iI s126 88 := fm_i Fs135 (by decide)
                  show WS k 160 [(3, .int (Int32.ofInt e18)), (2, .int (Int32.ofInt e14)), (1, .int (Int32.ofInt e9)), (0, .ref (A 179))] [] (Wd A dT s135) 0 0
                  refine z_aload_n X (x := A 179) (show cdA 213 160 = some (.aload_n 0, 1, 0, 0, 0) from rfl) (List.Mem.tail _ (List.Mem.tail _ (List.Mem.tail _ (List.Mem.head _)))) ?_
                  refine w_dup X.1 (ax_d X (show cdA 213 161 = some (.dup, 1, 0, 0, 0) from rfl)) rfl ?_
                  refine z_getI X 179 (show cdA 213 162 = some (.getfield 282, 3, 12, 16, 0) from rfl) (by decide) rfl rfl ?_
                  have b139 : (0 : Int) ≤ iI s135 86 ∧ iI s135 86 ≤ 8 := Is135.1 86
                  refine z_const X (show cdA 213 165 = some (.iconst 1, 1, 0, 0, 0) from rfl) ?_
                  refine z_add X (show cdA 213 166 = some (.iadd, 1, 0, 0, 0) from rfl) ?_
                  refine s_putI X 179 (show cdA 213 167 = some (.putfield 282, 3, 12, 16, 0) from rfl) (by decide) rfl rfl (by decide) rfl rfl rfl ?_
                  obtain ⟨s140, hs140⟩ : ∃ x0, x0 = uI s135 86 (Int32.ofInt ((iI s135 86) + 1)) := ⟨_, rfl⟩
                  rw [← hs140]
                  have Is140 : Bd s140 := by rw [hs140]; exact bd_I Is135 (show (0 : Int) ≤ ((iI s135 86) + 1) ∧ ((iI s135 86) + 1) ≤ 8 by first | exact ⟨oq_54f49eb5 b139.1, oq_56cdf1d3 ws135_86 ws126_86 ws125_86 ws123_86 ws117_86 g114 b113.2⟩ | omega) ⟨by first | exact oq_74de1e16 b139.1 | omega, by first | exact oq_3762dfb5 b139.2 | omega⟩
                  have Fs140 := fm_I (x := Int32.ofInt ((iI s135 86) + 1)) Gs135 (show 86 ∈ _ by decide)
                  rw [← hs140] at Fs140
                  have vs140 : iI s140 86 = ((iI s135 86) + 1) := by rw [hs140]; exact iI_u ⟨by first | exact oq_74de1e16 b139.1 | omega, by first | exact oq_3762dfb5 b139.2 | omega⟩
                  have ws140_77 : iI s140 77 = iI s135 77 := by rw [hs140]; rfl
                  have ws140_75 : iI s140 75 = iI s135 75 := by rw [hs140]; rfl
                  have ws140_79 : iI s140 79 = iI s135 79 := by rw [hs140]; rfl
                  have ws140_78 : iI s140 78 = iI s135 78 := by rw [hs140]; rfl
                  have ws140_87 : iI s140 87 = iI s135 87 := by rw [hs140]; rfl
                  have ws140_88 : iI s140 88 = iI s135 88 := by rw [hs140]; rfl
                  exact w_vret X.1 q hRt (ax_d X (show cdA 213 170 = some (.return_, 1, 0, 0, 0) from rfl)) (Nat.zero_le _) (Nat.zero_le _) ⟨_, rfl, Is140, Fs140, rfl, by first | exact ⟨oq_f0f4d0db ws140_78 ws135_78 b130.1 hps126.1 ws125_78 ws123_78 ws117_78 ws15_78 ws11_78 ws8_78 p1, oq_5c2efc3f ws140_77 hps135.1 hps126.2.1 ws125_77 ws123_77 hps117.1 ws15_77 ws11_77 hps8.1, oq_03beb927 ws140_77 hps135.2.1 ws126_75 hps126.2.2.1 ws125_75 ws125_77 ws123_75 ws123_77 ws117_75 hps117.2 g112 re18.1 he18 ws15_75 ws15_77 hps15 ws11_75 ws11_77 ws8_75 hps8.2.2 b2.2, oq_9edaf74e ws140_79 ws140_77 b138.1 hps135.2.2.2 hps135.2.1 ws126_75 hps126.2.1 ws125_75 ws125_77 ws123_75 ws123_77 ws117_75 hps117.1 ws15_75 ws15_77 ws11_75 ws11_77 ws8_75 hps8.1, oq_14de5e60 ws140_87 vs140 ws135_87 ws135_86 ws126_87 ws126_86 ws125_86 vs125 ws123_87 ws123_86 ws117_87 ws117_86 ws15_87 ws15_86 ws11_87 ws11_86 ws8_87 ws8_86 p3⟩ | omega⟩
              ·
                refine z_aload_n X (x := A 179) (show cdA 213 103 = some (.aload_n 0, 1, 0, 0, 0) from rfl) (List.Mem.tail _ (List.Mem.tail _ (List.Mem.tail _ (List.Mem.head _)))) ?_
                refine z_aload_n X (x := A 179) (show cdA 213 104 = some (.aload_n 0, 1, 0, 0, 0) from rfl) (List.Mem.tail _ (List.Mem.tail _ (List.Mem.tail _ (List.Mem.head _)))) ?_
                refine z_getI X 179 (show cdA 213 105 = some (.getfield 184, 3, 12, 4, 0) from rfl) (by decide) rfl rfl ?_
                have b141 : (0 : Int) ≤ iI s117 77 ∧ iI s117 77 ≤ 400 := Is117.1 77
                refine s_putI X 179 (show cdA 213 108 = some (.putfield 285, 3, 12, 18, 0) from rfl) (by decide) rfl rfl (by decide) rfl rfl rfl ?_
                obtain ⟨s142, hs142⟩ : ∃ x0, x0 = uI s117 88 (Int32.ofInt (iI s117 77)) := ⟨_, rfl⟩
                rw [← hs142]
                have Is142 : Bd s142 := by rw [hs142]; exact bd_I Is117 (show ((-1) : Int) ≤ (iI s117 77) ∧ (iI s117 77) ≤ 200 by first | exact ⟨oq_ca54ea22 b141.1, oq_56becbdc g120 g19⟩ | omega) (rng_to _)
                have Fs142 := fm_I (x := Int32.ofInt (iI s117 77)) Gs117 (show 88 ∈ _ by decide)
                rw [← hs142] at Fs142
                have vs142 : iI s142 88 = (iI s117 77) := by rw [hs142]; exact iI_u (rng_to _)
                have ws142_77 : iI s142 77 = iI s117 77 := by rw [hs142]; rfl
                have ws142_75 : iI s142 75 = iI s117 75 := by rw [hs142]; rfl
                have ws142_79 : iI s142 79 = iI s117 79 := by rw [hs142]; rfl
                have ws142_78 : iI s142 78 = iI s117 78 := by rw [hs142]; rfl
                have ws142_86 : iI s142 86 = iI s117 86 := by rw [hs142]; rfl
                have ws142_87 : iI s142 87 = iI s117 87 := by rw [hs142]; rfl
                refine z_aload_n X (x := A 179) (show cdA 213 111 = some (.aload_n 0, 1, 0, 0, 0) from rfl) (List.Mem.tail _ (List.Mem.tail _ (List.Mem.tail _ (List.Mem.head _)))) ?_
                refine z_callV X 179 (rm := rmN 209) (As := []) (st := []) (show cdA 213 112 = some (.invokevirtual 260, 3, 209, 0, 0) from rfl) rfl (by decide) rfl (by rw [E.1, E.2.1, E.2.2.1]; exact k_sum G Is142 (by first | exact oq_3fd14443 g120 g19 | omega) (by first | exact oq_222d1dad g120 g19 | omega) (by first | exact oq_3ce50407 ws142_78 ws117_78 ws15_78 ws11_78 ws8_78 p1 | omega)) ⟨by rw [E.2.2.2]; exact (show (rmN 209).frames + 1 ≤ (rmN 213).frames by decide), by rw [E.2.2.2]; exact (show 8 + (mNL (miB 209) + 11) + (rmN 209).locals ≤ (rmN 213).locals by decide), by rw [E.2.2.2]; exact (show 0 + (rmN 209).cells ≤ (rmN 213).cells by decide), by rw [E.2.2.2]; exact (show 0 + (rmN 209).slots ≤ (rmN 213).slots by decide)⟩ (Nat.le_of_ble_eq_true rfl) (fun vv s143 hq => ?_) (fun ee s143 hq => ?_)
                rotate_left
                · obtain ⟨Is143, Fs143, e144, hv, hrs143, hps143⟩ := hq; cases hv
                obtain ⟨Is143, Fs143, e144, hv, hrs143, hps143⟩ := hq
                cases hv
                have Gs143 := fm_ts Fs142 Fs143 (by decide) (by decide)
                have b145 : (0 : Int) ≤ iI s143 77 ∧ iI s143 77 ≤ 400 := Is143.1 77
                have ws143_75 : iI s143 75 = iI s142 75 := fm_i Fs143 (by decide)
                have b146 : (0 : Int) ≤ iI s143 79 ∧ iI s143 79 ≤ 9 := Is143.1 79
                have b147 : (0 : Int) ≤ iI s143 78 ∧ iI s143 78 ≤ 8 := Is143.1 78
                have ws143_86 : iI s143 86 = iI s142 86 := fm_i Fs143 (by decide)
                have ws143_87 : iI s143 87 = iI s142 87 := fm_i Fs143 (by decide)
                have ws143_88 : iI s143 88 = iI s142 88 := fm_i Fs143 (by decide)
                show WS k 115 [(3, .int (Int32.ofInt e18)), (2, .int (Int32.ofInt e14)), (1, .int (Int32.ofInt e9)), (0, .ref (A 179))] [.int (Int32.ofInt e144)] (Wd A dT s143) 0 0
                refine w_pop X.1 (ax_d X (show cdA 213 115 = some (.pop, 1, 0, 0, 0) from rfl)) rfl ?_
                refine z_goto X (t := 147) (show cdA 213 116 = some (.goto 31, 3, 0, 0, 0) from rfl) (by decide) ?_
                refine z_aload_n X (x := A 179) (show cdA 213 147 = some (.aload_n 0, 1, 0, 0, 0) from rfl) (List.Mem.tail _ (List.Mem.tail _ (List.Mem.tail _ (List.Mem.head _)))) ?_
                refine z_getI X 179 (show cdA 213 148 = some (.getfield 191, 3, 12, 6, 0) from rfl) (by decide) rfl rfl ?_
                have b148 : (0 : Int) ≤ iI s143 79 ∧ iI s143 79 ≤ 9 := Is143.1 79
                refine z_if_ne X (t := 160) (show cdA 213 151 = some (.ifCond .ne 9, 3, 1, 0, 0) from rfl) (by decide) (rng_to _) (fun g149 => ?_) (fun g149 => ?_)
                ·
                  refine z_aload_n X (x := A 179) (show cdA 213 160 = some (.aload_n 0, 1, 0, 0, 0) from rfl) (List.Mem.tail _ (List.Mem.tail _ (List.Mem.tail _ (List.Mem.head _)))) ?_
                  refine w_dup X.1 (ax_d X (show cdA 213 161 = some (.dup, 1, 0, 0, 0) from rfl)) rfl ?_
                  refine z_getI X 179 (show cdA 213 162 = some (.getfield 282, 3, 12, 16, 0) from rfl) (by decide) rfl rfl ?_
                  have b150 : (0 : Int) ≤ iI s143 86 ∧ iI s143 86 ≤ 8 := Is143.1 86
                  refine z_const X (show cdA 213 165 = some (.iconst 1, 1, 0, 0, 0) from rfl) ?_
                  refine z_add X (show cdA 213 166 = some (.iadd, 1, 0, 0, 0) from rfl) ?_
                  refine s_putI X 179 (show cdA 213 167 = some (.putfield 282, 3, 12, 16, 0) from rfl) (by decide) rfl rfl (by decide) rfl rfl rfl ?_
                  obtain ⟨s151, hs151⟩ : ∃ x0, x0 = uI s143 86 (Int32.ofInt ((iI s143 86) + 1)) := ⟨_, rfl⟩
                  rw [← hs151]
                  have Is151 : Bd s151 := by rw [hs151]; exact bd_I Is143 (show (0 : Int) ≤ ((iI s143 86) + 1) ∧ ((iI s143 86) + 1) ≤ 8 by first | exact ⟨oq_54f49eb5 b150.1, oq_d8928268 g120 g19⟩ | omega) ⟨by first | exact oq_74de1e16 b150.1 | omega, by first | exact oq_3762dfb5 b150.2 | omega⟩
                  have Fs151 := fm_I (x := Int32.ofInt ((iI s143 86) + 1)) Gs143 (show 86 ∈ _ by decide)
                  rw [← hs151] at Fs151
                  have vs151 : iI s151 86 = ((iI s143 86) + 1) := by rw [hs151]; exact iI_u ⟨by first | exact oq_74de1e16 b150.1 | omega, by first | exact oq_3762dfb5 b150.2 | omega⟩
                  have ws151_77 : iI s151 77 = iI s143 77 := by rw [hs151]; rfl
                  have ws151_75 : iI s151 75 = iI s143 75 := by rw [hs151]; rfl
                  have ws151_79 : iI s151 79 = iI s143 79 := by rw [hs151]; rfl
                  have ws151_78 : iI s151 78 = iI s143 78 := by rw [hs151]; rfl
                  have ws151_87 : iI s151 87 = iI s143 87 := by rw [hs151]; rfl
                  have ws151_88 : iI s151 88 = iI s143 88 := by rw [hs151]; rfl
                  exact w_vret X.1 q hRt (ax_d X (show cdA 213 170 = some (.return_, 1, 0, 0, 0) from rfl)) (Nat.zero_le _) (Nat.zero_le _) ⟨_, rfl, Is151, Fs151, rfl, by first | exact ⟨oq_fe04bf4e g120 g19, oq_a39082a4 ws151_77 hps143.2.1 ws142_77 hps117.1 ws15_77 ws11_77 hps8.1, oq_3fd14443 g120 g19, oq_971796bb ws151_79 g149 b148.1, oq_31a90a69 ws151_87 vs151 ws143_87 ws143_86 ws142_87 ws142_86 ws117_87 ws117_86 ws15_87 ws15_86 ws11_87 ws11_86 ws8_87 ws8_86 p3⟩ | omega⟩
                ·
                  refine z_aload_n X (x := A 179) (show cdA 213 154 = some (.aload_n 0, 1, 0, 0, 0) from rfl) (List.Mem.tail _ (List.Mem.tail _ (List.Mem.tail _ (List.Mem.head _)))) ?_
                  refine z_bipush X (show cdA 213 155 = some (.bipush 59, 2, 0, 0, 59) from rfl) ?_
                  refine z_callV X 179 (rm := rmN 204) (As := [.int (Int32.ofInt 59)]) (st := []) (show cdA 213 157 = some (.invokevirtual 263, 3, 204, 0, 0) from rfl) rfl (by decide) rfl (by rw [E.1, E.2.1, E.2.2.1]; exact k_sign G Is143 (by first | exact ⟨by decide, by decide⟩ | omega) (by first | exact oq_1594de10 g120 g19 | omega)) ⟨by rw [E.2.2.2]; exact (show (rmN 204).frames + 1 ≤ (rmN 213).frames by decide), by rw [E.2.2.2]; exact (show 8 + (mNL (miB 204) + 11) + (rmN 204).locals ≤ (rmN 213).locals by decide), by rw [E.2.2.2]; exact (show 0 + (rmN 204).cells ≤ (rmN 213).cells by decide), by rw [E.2.2.2]; exact (show 0 + (rmN 204).slots ≤ (rmN 213).slots by decide)⟩ (Nat.le_of_ble_eq_true rfl) (fun vv s152 hq => ?_) (fun ee s152 hq => ?_)
                  rotate_left
                  · obtain ⟨Is152, Fs152, hv, hps152⟩ := hq; cases hv
                  obtain ⟨Is152, Fs152, hv, hps152⟩ := hq
                  cases hv
                  have Gs152 := fm_ts Gs143 Fs152 (by decide) (by decide)
                  have b154 : (0 : Int) ≤ iI s152 77 ∧ iI s152 77 ≤ 400 := Is152.1 77
                  have ws152_75 : iI s152 75 = iI s143 75 := fm_i Fs152 (by decide)
                  have b155 : (0 : Int) ≤ iI s152 79 ∧ iI s152 79 ≤ 9 := Is152.1 79
                  have ws152_78 : iI s152 78 = iI s143 78 := fm_i Fs152 (by decide)
                  have ws152_86 : iI s152 86 = iI s143 86 := fm_i Fs152 (by decide)
                  have ws152_87 : iI s152 87 = iI s143 87 := fm_i Fs152 (by decide)
                  have ws152_88 : iI s152 88 = iI s143 88 := fm_i Fs152 (by decide)
                  show WS k 160 [(3, .int (Int32.ofInt e18)), (2, .int (Int32.ofInt e14)), (1, .int (Int32.ofInt e9)), (0, .ref (A 179))] [] (Wd A dT s152) 0 0
                  refine z_aload_n X (x := A 179) (show cdA 213 160 = some (.aload_n 0, 1, 0, 0, 0) from rfl) (List.Mem.tail _ (List.Mem.tail _ (List.Mem.tail _ (List.Mem.head _)))) ?_
                  refine w_dup X.1 (ax_d X (show cdA 213 161 = some (.dup, 1, 0, 0, 0) from rfl)) rfl ?_
                  refine z_getI X 179 (show cdA 213 162 = some (.getfield 282, 3, 12, 16, 0) from rfl) (by decide) rfl rfl ?_
                  have b156 : (0 : Int) ≤ iI s152 86 ∧ iI s152 86 ≤ 8 := Is152.1 86
                  refine z_const X (show cdA 213 165 = some (.iconst 1, 1, 0, 0, 0) from rfl) ?_
                  refine z_add X (show cdA 213 166 = some (.iadd, 1, 0, 0, 0) from rfl) ?_
                  refine s_putI X 179 (show cdA 213 167 = some (.putfield 282, 3, 12, 16, 0) from rfl) (by decide) rfl rfl (by decide) rfl rfl rfl ?_
                  obtain ⟨s157, hs157⟩ : ∃ x0, x0 = uI s152 86 (Int32.ofInt ((iI s152 86) + 1)) := ⟨_, rfl⟩
                  rw [← hs157]
                  have Is157 : Bd s157 := by rw [hs157]; exact bd_I Is152 (show (0 : Int) ≤ ((iI s152 86) + 1) ∧ ((iI s152 86) + 1) ≤ 8 by first | exact ⟨oq_54f49eb5 b156.1, oq_d8928268 g120 g19⟩ | omega) ⟨by first | exact oq_74de1e16 b156.1 | omega, by first | exact oq_3762dfb5 b156.2 | omega⟩
                  have Fs157 := fm_I (x := Int32.ofInt ((iI s152 86) + 1)) Gs152 (show 86 ∈ _ by decide)
                  rw [← hs157] at Fs157
                  have vs157 : iI s157 86 = ((iI s152 86) + 1) := by rw [hs157]; exact iI_u ⟨by first | exact oq_74de1e16 b156.1 | omega, by first | exact oq_3762dfb5 b156.2 | omega⟩
                  have ws157_77 : iI s157 77 = iI s152 77 := by rw [hs157]; rfl
                  have ws157_75 : iI s157 75 = iI s152 75 := by rw [hs157]; rfl
                  have ws157_79 : iI s157 79 = iI s152 79 := by rw [hs157]; rfl
                  have ws157_78 : iI s157 78 = iI s152 78 := by rw [hs157]; rfl
                  have ws157_87 : iI s157 87 = iI s152 87 := by rw [hs157]; rfl
                  have ws157_88 : iI s157 88 = iI s152 88 := by rw [hs157]; rfl
                  exact w_vret X.1 q hRt (ax_d X (show cdA 213 170 = some (.return_, 1, 0, 0, 0) from rfl)) (Nat.zero_le _) (Nat.zero_le _) ⟨_, rfl, Is157, Fs157, rfl, by first | exact ⟨oq_fe04bf4e g120 g19, oq_ab675376 ws157_77 hps152.1 hps143.2.1 ws142_77 hps117.1 ws15_77 ws11_77 hps8.1, oq_3fd14443 g120 g19, oq_3e825001 g120 g19, oq_a4ea2c38 ws157_87 vs157 ws152_87 ws152_86 ws143_87 ws143_86 ws142_87 ws142_86 ws117_87 ws117_86 ws15_87 ws15_86 ws11_87 ws11_86 ws8_87 ws8_86 p3⟩ | omega⟩
            ·
              exact w_vret X.1 q hRt (ax_d X (show cdA 213 94 = some (.return_, 1, 0, 0, 0) from rfl)) (Nat.zero_le _) (Nat.zero_le _) ⟨_, rfl, Is15, Gs15, rfl, by first | exact ⟨oq_0f72f93b ws15_78 ws11_78 ws8_78 p1 b4.1, oq_2954f754 ws15_77 ws11_77 hps8.1, oq_6d2c2237 g116 b115.1 ws15_79 ws11_79 ws8_79 p0, oq_f7664523 g116 b115.1, oq_7f1a346e ws15_87 ws15_86 ws11_87 ws11_86 ws8_87 ws8_86 p3⟩ | omega⟩
          ·
            refine z_aload_n X (x := A 179) (show cdA 213 78 = some (.aload_n 0, 1, 0, 0, 0) from rfl) (List.Mem.tail _ (List.Mem.tail _ (List.Mem.tail _ (List.Mem.head _)))) ?_
            refine z_const X (show cdA 213 79 = some (.iconst 3, 1, 0, 0, 0) from rfl) ?_
            refine z_aload_n X (x := A 179) (show cdA 213 80 = some (.aload_n 0, 1, 0, 0, 0) from rfl) (List.Mem.tail _ (List.Mem.tail _ (List.Mem.tail _ (List.Mem.head _)))) ?_
            refine z_getI X 179 (show cdA 213 81 = some (.getfield 184, 3, 12, 4, 0) from rfl) (by decide) rfl rfl ?_
            have b158 : (0 : Int) ≤ iI s15 77 ∧ iI s15 77 ≤ 400 := Is15.1 77
            refine z_callV X 179 (rm := rmN 194) (As := [.int (Int32.ofInt 3), .int (Int32.ofInt (iI s15 77))]) (st := []) (show cdA 213 84 = some (.invokevirtual 204, 3, 194, 0, 0) from rfl) rfl (by decide) rfl (by rw [E.1, E.2.1, E.2.2.1]; exact k_wrong G Is15 (by first | exact ⟨by decide, by decide⟩ | omega) (by first | exact ⟨oq_ca54ea22 b158.1, b158.2⟩ | omega)) ⟨by rw [E.2.2.2]; exact (show (rmN 194).frames + 1 ≤ (rmN 213).frames by decide), by rw [E.2.2.2]; exact (show 8 + (mNL (miB 194) + 11) + (rmN 194).locals ≤ (rmN 213).locals by decide), by rw [E.2.2.2]; exact (show 0 + (rmN 194).cells ≤ (rmN 213).cells by decide), by rw [E.2.2.2]; exact (show 0 + (rmN 194).slots ≤ (rmN 213).slots by decide)⟩ (Nat.le_of_ble_eq_true rfl) (fun vv s159 hq => ?_) (fun ee s159 hq => ?_)
            rotate_left
            · obtain ⟨Is159, Fs159, hv, hps159⟩ := hq; cases hv
            obtain ⟨Is159, Fs159, hv, hps159⟩ := hq
            cases hv
            have Gs159 := fm_ts Gs15 Fs159 (by decide) (by decide)
            have ws159_77 : iI s159 77 = iI s15 77 := fm_i Fs159 (by decide)
            have ws159_75 : iI s159 75 = iI s15 75 := fm_i Fs159 (by decide)
            have b161 : (0 : Int) ≤ iI s159 79 ∧ iI s159 79 ≤ 9 := Is159.1 79
            have ws159_78 : iI s159 78 = iI s15 78 := fm_i Fs159 (by decide)
            have ws159_86 : iI s159 86 = iI s15 86 := fm_i Fs159 (by decide)
            have ws159_87 : iI s159 87 = iI s15 87 := fm_i Fs159 (by decide)
            have ws159_88 : iI s159 88 = iI s15 88 := fm_i Fs159 (by decide)
            show WS k 87 [(3, .int (Int32.ofInt e18)), (2, .int (Int32.ofInt e14)), (1, .int (Int32.ofInt e9)), (0, .ref (A 179))] [] (Wd A dT s159) 0 0
            refine z_aload_n X (x := A 179) (show cdA 213 87 = some (.aload_n 0, 1, 0, 0, 0) from rfl) (List.Mem.tail _ (List.Mem.tail _ (List.Mem.tail _ (List.Mem.head _)))) ?_
            refine z_getI X 179 (show cdA 213 88 = some (.getfield 191, 3, 12, 6, 0) from rfl) (by decide) rfl rfl ?_
            have b162 : (0 : Int) ≤ iI s159 79 ∧ iI s159 79 ≤ 9 := Is159.1 79
            refine z_if_eq X (t := 95) (show cdA 213 91 = some (.ifCond .eq 4, 3, 0, 0, 0) from rfl) (by decide) (rng_to _) (fun g163 => ?_) (fun g163 => ?_)
            ·
              refine z_aload_n X (x := A 179) (show cdA 213 95 = some (.aload_n 0, 1, 0, 0, 0) from rfl) (List.Mem.tail _ (List.Mem.tail _ (List.Mem.tail _ (List.Mem.head _)))) ?_
              refine z_callV X 179 (rm := rmN 203) (As := []) (st := []) (show cdA 213 96 = some (.invokevirtual 254, 3, 203, 0, 0) from rfl) rfl (by decide) rfl (by rw [E.1, E.2.1, E.2.2.1]; exact k_skipWord G Is159 (by first | exact oq_fe813e1a g163 hps159 | omega)) ⟨by rw [E.2.2.2]; exact (show (rmN 203).frames + 1 ≤ (rmN 213).frames by decide), by rw [E.2.2.2]; exact (show 8 + (mNL (miB 203) + 11) + (rmN 203).locals ≤ (rmN 213).locals by decide), by rw [E.2.2.2]; exact (show 0 + (rmN 203).cells ≤ (rmN 213).cells by decide), by rw [E.2.2.2]; exact (show 0 + (rmN 203).slots ≤ (rmN 213).slots by decide)⟩ (Nat.le_of_ble_eq_true rfl) (fun vv s164 hq => ?_) (fun ee s164 hq => ?_)
              rotate_left
              · obtain ⟨Is164, Fs164, hv, hps164⟩ := hq; cases hv
              obtain ⟨Is164, Fs164, hv, hps164⟩ := hq
              cases hv
              have Gs164 := fm_ts Gs159 Fs164 (by decide) (by decide)
              have b166 : (0 : Int) ≤ iI s164 77 ∧ iI s164 77 ≤ 400 := Is164.1 77
              have ws164_75 : iI s164 75 = iI s159 75 := fm_i Fs164 (by decide)
              have ws164_79 : iI s164 79 = iI s159 79 := fm_i Fs164 (by decide)
              have ws164_78 : iI s164 78 = iI s159 78 := fm_i Fs164 (by decide)
              have ws164_86 : iI s164 86 = iI s159 86 := fm_i Fs164 (by decide)
              have ws164_87 : iI s164 87 = iI s159 87 := fm_i Fs164 (by decide)
              have ws164_88 : iI s164 88 = iI s159 88 := fm_i Fs164 (by decide)
              show WS k 99 [(3, .int (Int32.ofInt e18)), (2, .int (Int32.ofInt e14)), (1, .int (Int32.ofInt e9)), (0, .ref (A 179))] [] (Wd A dT s164) 0 0
              refine z_load_n X (x := e14) (show cdA 213 99 = some (.iload_n 2, 1, 0, 0, 0) from rfl) (List.Mem.tail _ (List.Mem.head _)) ?_
              refine z_if_eq X (t := 119) (show cdA 213 100 = some (.ifCond .eq 19, 3, 0, 0, 0) from rfl) (by decide) ⟨by first | exact oq_6ab4c69f g19 | omega, by first | exact oq_3b8a080c g19 | omega⟩ (fun g167 => ?_) (fun g167 => ?_)
              ·
                refine z_aload_n X (x := A 179) (show cdA 213 119 = some (.aload_n 0, 1, 0, 0, 0) from rfl) (List.Mem.tail _ (List.Mem.tail _ (List.Mem.tail _ (List.Mem.head _)))) ?_
                refine s_getR X 179 (show cdA 213 120 = some (.getfield 29, 3, 12, 20, 0) from rfl) (by decide) rfl rfl ?_
                refine z_aload_n X (x := A 179) (show cdA 213 123 = some (.aload_n 0, 1, 0, 0, 0) from rfl) (List.Mem.tail _ (List.Mem.tail _ (List.Mem.tail _ (List.Mem.head _)))) ?_
                refine z_getI X 179 (show cdA 213 124 = some (.getfield 288, 3, 12, 17, 0) from rfl) (by decide) rfl rfl ?_
                have b168 : (0 : Int) ≤ iI s164 87 ∧ iI s164 87 ≤ 8 := Is164.1 87
                refine z_aload_n X (x := A 179) (show cdA 213 127 = some (.aload_n 0, 1, 0, 0, 0) from rfl) (List.Mem.tail _ (List.Mem.tail _ (List.Mem.tail _ (List.Mem.head _)))) ?_
                refine z_getI X 179 (show cdA 213 128 = some (.getfield 184, 3, 12, 4, 0) from rfl) (by decide) rfl rfl ?_
                have b169 : (0 : Int) ≤ iI s164 77 ∧ iI s164 77 ≤ 400 := Is164.1 77
                refine z_ast X 183 (show cdA 213 131 = some (.iastore, 1, 0, 0, 0) from rfl) (by decide) rfl (by first | exact b168.1 | omega) (show (iI s164 87) < 8 by first | exact oq_115b8e31 g163 hps159 | omega) (by decide) ?_
                obtain ⟨s170, hs170⟩ : ∃ x0, x0 = uC s164 160 ((iI s164 87)).toNat (Int32.ofInt (iI s164 77)) := ⟨_, rfl⟩
                rw [← hs170]
                have Is170 : Bd s170 := by rw [hs170]; exact bd_C Is164 (show (0 : Int) ≤ (iI s164 77) ∧ (iI s164 77) ≤ 200 by first | exact ⟨b169.1, oq_ca61092c g163 hps159⟩ | omega) (rng_to _)
                have Fs170 := fm_C (i := ((iI s164 87)).toNat) (x := Int32.ofInt (iI s164 77)) Gs164 (show 160 ∈ _ by decide)
                rw [← hs170] at Fs170
                have ws170_77 : iI s170 77 = iI s164 77 := by rw [hs170]; rfl
                have ws170_75 : iI s170 75 = iI s164 75 := by rw [hs170]; rfl
                have ws170_79 : iI s170 79 = iI s164 79 := by rw [hs170]; rfl
                have ws170_78 : iI s170 78 = iI s164 78 := by rw [hs170]; rfl
                have ws170_86 : iI s170 86 = iI s164 86 := by rw [hs170]; rfl
                have ws170_87 : iI s170 87 = iI s164 87 := by rw [hs170]; rfl
                have ws170_88 : iI s170 88 = iI s164 88 := by rw [hs170]; rfl
                refine z_aload_n X (x := A 179) (show cdA 213 132 = some (.aload_n 0, 1, 0, 0, 0) from rfl) (List.Mem.tail _ (List.Mem.tail _ (List.Mem.tail _ (List.Mem.head _)))) ?_
                refine w_dup X.1 (ax_d X (show cdA 213 133 = some (.dup, 1, 0, 0, 0) from rfl)) rfl ?_
                refine z_getI X 179 (show cdA 213 134 = some (.getfield 288, 3, 12, 17, 0) from rfl) (by decide) rfl rfl ?_
                have b171 : (0 : Int) ≤ iI s170 87 ∧ iI s170 87 ≤ 8 := Is170.1 87
                refine z_const X (show cdA 213 137 = some (.iconst 1, 1, 0, 0, 0) from rfl) ?_
                refine z_add X (show cdA 213 138 = some (.iadd, 1, 0, 0, 0) from rfl) ?_
                refine s_putI X 179 (show cdA 213 139 = some (.putfield 288, 3, 12, 17, 0) from rfl) (by decide) rfl rfl (by decide) rfl rfl rfl ?_
                obtain ⟨s172, hs172⟩ : ∃ x0, x0 = uI s170 87 (Int32.ofInt ((iI s170 87) + 1)) := ⟨_, rfl⟩
                rw [← hs172]
                have Is172 : Bd s172 := by rw [hs172]; exact bd_I Is170 (show (0 : Int) ≤ ((iI s170 87) + 1) ∧ ((iI s170 87) + 1) ≤ 8 by first | exact ⟨oq_54f49eb5 b171.1, oq_519a4a1d g163 hps159⟩ | omega) ⟨by first | exact oq_74de1e16 b171.1 | omega, by first | exact oq_3762dfb5 b171.2 | omega⟩
                have Fs172 := fm_I (x := Int32.ofInt ((iI s170 87) + 1)) Fs170 (show 87 ∈ _ by decide)
                rw [← hs172] at Fs172
                have vs172 : iI s172 87 = ((iI s170 87) + 1) := by rw [hs172]; exact iI_u ⟨by first | exact oq_74de1e16 b171.1 | omega, by first | exact oq_3762dfb5 b171.2 | omega⟩
                have ws172_77 : iI s172 77 = iI s170 77 := by rw [hs172]; rfl
                have ws172_75 : iI s172 75 = iI s170 75 := by rw [hs172]; rfl
                have ws172_79 : iI s172 79 = iI s170 79 := by rw [hs172]; rfl
                have ws172_78 : iI s172 78 = iI s170 78 := by rw [hs172]; rfl
                have ws172_86 : iI s172 86 = iI s170 86 := by rw [hs172]; rfl
                have ws172_88 : iI s172 88 = iI s170 88 := by rw [hs172]; rfl
                refine z_aload_n X (x := A 179) (show cdA 213 142 = some (.aload_n 0, 1, 0, 0, 0) from rfl) (List.Mem.tail _ (List.Mem.tail _ (List.Mem.tail _ (List.Mem.head _)))) ?_
                refine z_callV X 179 (rm := rmN 212) (As := []) (st := []) (show cdA 213 143 = some (.invokevirtual 276, 3, 212, 0, 0) from rfl) rfl (by decide) rfl (by rw [E.1, E.2.1, E.2.2.1]; exact k_ors G Is172 (by first | exact oq_4322fef3 g163 hps159 | omega) (by first | exact oq_02f5ae4d g163 hps159 | omega) (by first | exact oq_8bd23233 ws172_78 ws170_78 ws164_78 ws159_78 ws15_78 ws11_78 ws8_78 p1 | omega) (by first | exact oq_05144e14 g163 hps159 | omega)) ⟨by rw [E.2.2.2]; exact (show (rmN 212).frames + 1 ≤ (rmN 213).frames by decide), by rw [E.2.2.2]; exact (show 8 + (mNL (miB 212) + 11) + (rmN 212).locals ≤ (rmN 213).locals by decide), by rw [E.2.2.2]; exact (show 0 + (rmN 212).cells ≤ (rmN 213).cells by decide), by rw [E.2.2.2]; exact (show 0 + (rmN 212).slots ≤ (rmN 213).slots by decide)⟩ (Nat.le_of_ble_eq_true rfl) (fun vv s173 hq => ?_) (fun ee s173 hq => ?_)
                rotate_left
                · obtain ⟨Is173, Fs173, e174, hv, hrs173, hps173⟩ := hq; cases hv
                obtain ⟨Is173, Fs173, e174, hv, hrs173, hps173⟩ := hq
                cases hv
                have Gs173 := fm_ts Fs172 Fs173 (by decide) (by decide)
                have b175 : (0 : Int) ≤ iI s173 77 ∧ iI s173 77 ≤ 400 := Is173.1 77
                have ws173_75 : iI s173 75 = iI s172 75 := fm_i Fs173 (by decide)
                have b176 : (0 : Int) ≤ iI s173 79 ∧ iI s173 79 ≤ 9 := Is173.1 79
                have b177 : (0 : Int) ≤ iI s173 78 ∧ iI s173 78 ≤ 8 := Is173.1 78
                have ws173_86 : iI s173 86 = iI s172 86 := fm_i Fs173 (by decide)
                have ws173_87 : iI s173 87 = iI s172 87 := fm_i Fs173 (by decide)
                have ws173_88 : iI s173 88 = iI s172 88 := fm_i Fs173 (by decide)
                show WS k 146 [(3, .int (Int32.ofInt e18)), (2, .int (Int32.ofInt e14)), (1, .int (Int32.ofInt e9)), (0, .ref (A 179))] [.int (Int32.ofInt e174)] (Wd A dT s173) 0 0
                refine w_pop X.1 (ax_d X (show cdA 213 146 = some (.pop, 1, 0, 0, 0) from rfl)) rfl ?_
                refine z_aload_n X (x := A 179) (show cdA 213 147 = some (.aload_n 0, 1, 0, 0, 0) from rfl) (List.Mem.tail _ (List.Mem.tail _ (List.Mem.tail _ (List.Mem.head _)))) ?_
                refine z_getI X 179 (show cdA 213 148 = some (.getfield 191, 3, 12, 6, 0) from rfl) (by decide) rfl rfl ?_
                have b178 : (0 : Int) ≤ iI s173 79 ∧ iI s173 79 ≤ 9 := Is173.1 79
                refine z_if_ne X (t := 160) (show cdA 213 151 = some (.ifCond .ne 9, 3, 1, 0, 0) from rfl) (by decide) (rng_to _) (fun g179 => ?_) (fun g179 => ?_)
                ·
                  refine z_aload_n X (x := A 179) (show cdA 213 160 = some (.aload_n 0, 1, 0, 0, 0) from rfl) (List.Mem.tail _ (List.Mem.tail _ (List.Mem.tail _ (List.Mem.head _)))) ?_
                  refine w_dup X.1 (ax_d X (show cdA 213 161 = some (.dup, 1, 0, 0, 0) from rfl)) rfl ?_
                  refine z_getI X 179 (show cdA 213 162 = some (.getfield 282, 3, 12, 16, 0) from rfl) (by decide) rfl rfl ?_
                  have b180 : (0 : Int) ≤ iI s173 86 ∧ iI s173 86 ≤ 8 := Is173.1 86
                  refine z_const X (show cdA 213 165 = some (.iconst 1, 1, 0, 0, 0) from rfl) ?_
                  refine z_add X (show cdA 213 166 = some (.iadd, 1, 0, 0, 0) from rfl) ?_
                  refine s_putI X 179 (show cdA 213 167 = some (.putfield 282, 3, 12, 16, 0) from rfl) (by decide) rfl rfl (by decide) rfl rfl rfl ?_
                  obtain ⟨s181, hs181⟩ : ∃ x0, x0 = uI s173 86 (Int32.ofInt ((iI s173 86) + 1)) := ⟨_, rfl⟩
                  rw [← hs181]
                  have Is181 : Bd s181 := by rw [hs181]; exact bd_I Is173 (show (0 : Int) ≤ ((iI s173 86) + 1) ∧ ((iI s173 86) + 1) ≤ 8 by first | exact ⟨oq_54f49eb5 b180.1, oq_519a4a1d g163 hps159⟩ | omega) ⟨by first | exact oq_74de1e16 b180.1 | omega, by first | exact oq_3762dfb5 b180.2 | omega⟩
                  have Fs181 := fm_I (x := Int32.ofInt ((iI s173 86) + 1)) Gs173 (show 86 ∈ _ by decide)
                  rw [← hs181] at Fs181
                  have vs181 : iI s181 86 = ((iI s173 86) + 1) := by rw [hs181]; exact iI_u ⟨by first | exact oq_74de1e16 b180.1 | omega, by first | exact oq_3762dfb5 b180.2 | omega⟩
                  have ws181_77 : iI s181 77 = iI s173 77 := by rw [hs181]; rfl
                  have ws181_75 : iI s181 75 = iI s173 75 := by rw [hs181]; rfl
                  have ws181_79 : iI s181 79 = iI s173 79 := by rw [hs181]; rfl
                  have ws181_78 : iI s181 78 = iI s173 78 := by rw [hs181]; rfl
                  have ws181_87 : iI s181 87 = iI s173 87 := by rw [hs181]; rfl
                  have ws181_88 : iI s181 88 = iI s173 88 := by rw [hs181]; rfl
                  exact w_vret X.1 q hRt (ax_d X (show cdA 213 170 = some (.return_, 1, 0, 0, 0) from rfl)) (Nat.zero_le _) (Nat.zero_le _) ⟨_, rfl, Is181, Fs181, rfl, by first | exact ⟨oq_a5b19105 g163 hps159, oq_f6078872 ws181_77 hps173.2.1 ws172_77 ws170_77 hps164.1 ws159_77 ws15_77 ws11_77 hps8.1, oq_4322fef3 g163 hps159, oq_971796bb ws181_79 g179 b178.1, oq_9a49b549 ws181_87 vs181 ws173_87 ws173_86 ws172_86 vs172 b171.2 ws170_86 ws164_86 ws159_86 g114⟩ | omega⟩
                ·
                  refine z_aload_n X (x := A 179) (show cdA 213 154 = some (.aload_n 0, 1, 0, 0, 0) from rfl) (List.Mem.tail _ (List.Mem.tail _ (List.Mem.tail _ (List.Mem.head _)))) ?_
                  refine z_bipush X (show cdA 213 155 = some (.bipush 59, 2, 0, 0, 59) from rfl) ?_
                  refine z_callV X 179 (rm := rmN 204) (As := [.int (Int32.ofInt 59)]) (st := []) (show cdA 213 157 = some (.invokevirtual 263, 3, 204, 0, 0) from rfl) rfl (by decide) rfl (by rw [E.1, E.2.1, E.2.2.1]; exact k_sign G Is173 (by first | exact ⟨by decide, by decide⟩ | omega) (by first | exact oq_6db829a8 g163 hps159 | omega)) ⟨by rw [E.2.2.2]; exact (show (rmN 204).frames + 1 ≤ (rmN 213).frames by decide), by rw [E.2.2.2]; exact (show 8 + (mNL (miB 204) + 11) + (rmN 204).locals ≤ (rmN 213).locals by decide), by rw [E.2.2.2]; exact (show 0 + (rmN 204).cells ≤ (rmN 213).cells by decide), by rw [E.2.2.2]; exact (show 0 + (rmN 204).slots ≤ (rmN 213).slots by decide)⟩ (Nat.le_of_ble_eq_true rfl) (fun vv s182 hq => ?_) (fun ee s182 hq => ?_)
                  rotate_left
                  · obtain ⟨Is182, Fs182, hv, hps182⟩ := hq; cases hv
                  obtain ⟨Is182, Fs182, hv, hps182⟩ := hq
                  cases hv
                  have Gs182 := fm_ts Gs173 Fs182 (by decide) (by decide)
                  have b184 : (0 : Int) ≤ iI s182 77 ∧ iI s182 77 ≤ 400 := Is182.1 77
                  have ws182_75 : iI s182 75 = iI s173 75 := fm_i Fs182 (by decide)
                  have b185 : (0 : Int) ≤ iI s182 79 ∧ iI s182 79 ≤ 9 := Is182.1 79
                  have ws182_78 : iI s182 78 = iI s173 78 := fm_i Fs182 (by decide)
                  have ws182_86 : iI s182 86 = iI s173 86 := fm_i Fs182 (by decide)
                  have ws182_87 : iI s182 87 = iI s173 87 := fm_i Fs182 (by decide)
                  have ws182_88 : iI s182 88 = iI s173 88 := fm_i Fs182 (by decide)
                  show WS k 160 [(3, .int (Int32.ofInt e18)), (2, .int (Int32.ofInt e14)), (1, .int (Int32.ofInt e9)), (0, .ref (A 179))] [] (Wd A dT s182) 0 0
                  refine z_aload_n X (x := A 179) (show cdA 213 160 = some (.aload_n 0, 1, 0, 0, 0) from rfl) (List.Mem.tail _ (List.Mem.tail _ (List.Mem.tail _ (List.Mem.head _)))) ?_
                  refine w_dup X.1 (ax_d X (show cdA 213 161 = some (.dup, 1, 0, 0, 0) from rfl)) rfl ?_
                  refine z_getI X 179 (show cdA 213 162 = some (.getfield 282, 3, 12, 16, 0) from rfl) (by decide) rfl rfl ?_
                  have b186 : (0 : Int) ≤ iI s182 86 ∧ iI s182 86 ≤ 8 := Is182.1 86
                  refine z_const X (show cdA 213 165 = some (.iconst 1, 1, 0, 0, 0) from rfl) ?_
                  refine z_add X (show cdA 213 166 = some (.iadd, 1, 0, 0, 0) from rfl) ?_
                  refine s_putI X 179 (show cdA 213 167 = some (.putfield 282, 3, 12, 16, 0) from rfl) (by decide) rfl rfl (by decide) rfl rfl rfl ?_
                  obtain ⟨s187, hs187⟩ : ∃ x0, x0 = uI s182 86 (Int32.ofInt ((iI s182 86) + 1)) := ⟨_, rfl⟩
                  rw [← hs187]
                  have Is187 : Bd s187 := by rw [hs187]; exact bd_I Is182 (show (0 : Int) ≤ ((iI s182 86) + 1) ∧ ((iI s182 86) + 1) ≤ 8 by first | exact ⟨oq_54f49eb5 b186.1, oq_519a4a1d g163 hps159⟩ | omega) ⟨by first | exact oq_74de1e16 b186.1 | omega, by first | exact oq_3762dfb5 b186.2 | omega⟩
                  have Fs187 := fm_I (x := Int32.ofInt ((iI s182 86) + 1)) Gs182 (show 86 ∈ _ by decide)
                  rw [← hs187] at Fs187
                  have vs187 : iI s187 86 = ((iI s182 86) + 1) := by rw [hs187]; exact iI_u ⟨by first | exact oq_74de1e16 b186.1 | omega, by first | exact oq_3762dfb5 b186.2 | omega⟩
                  have ws187_77 : iI s187 77 = iI s182 77 := by rw [hs187]; rfl
                  have ws187_75 : iI s187 75 = iI s182 75 := by rw [hs187]; rfl
                  have ws187_79 : iI s187 79 = iI s182 79 := by rw [hs187]; rfl
                  have ws187_78 : iI s187 78 = iI s182 78 := by rw [hs187]; rfl
                  have ws187_87 : iI s187 87 = iI s182 87 := by rw [hs187]; rfl
                  have ws187_88 : iI s187 88 = iI s182 88 := by rw [hs187]; rfl
                  exact w_vret X.1 q hRt (ax_d X (show cdA 213 170 = some (.return_, 1, 0, 0, 0) from rfl)) (Nat.zero_le _) (Nat.zero_le _) ⟨_, rfl, Is187, Fs187, rfl, by first | exact ⟨oq_a5b19105 g163 hps159, oq_7153c7f3 ws187_77 hps182.1 hps173.2.1 ws172_77 ws170_77 hps164.1 ws159_77 ws15_77 ws11_77 hps8.1, oq_4322fef3 g163 hps159, oq_243ee8ff g163 hps159, oq_99f5ad6f ws187_87 vs187 ws182_87 ws182_86 ws173_87 ws173_86 ws172_86 vs172 b171.2 ws170_86 ws164_86 ws159_86 g114⟩ | omega⟩
              ·
                refine z_aload_n X (x := A 179) (show cdA 213 103 = some (.aload_n 0, 1, 0, 0, 0) from rfl) (List.Mem.tail _ (List.Mem.tail _ (List.Mem.tail _ (List.Mem.head _)))) ?_
                refine z_aload_n X (x := A 179) (show cdA 213 104 = some (.aload_n 0, 1, 0, 0, 0) from rfl) (List.Mem.tail _ (List.Mem.tail _ (List.Mem.tail _ (List.Mem.head _)))) ?_
                refine z_getI X 179 (show cdA 213 105 = some (.getfield 184, 3, 12, 4, 0) from rfl) (by decide) rfl rfl ?_
                have b188 : (0 : Int) ≤ iI s164 77 ∧ iI s164 77 ≤ 400 := Is164.1 77
                refine s_putI X 179 (show cdA 213 108 = some (.putfield 285, 3, 12, 18, 0) from rfl) (by decide) rfl rfl (by decide) rfl rfl rfl ?_
                obtain ⟨s189, hs189⟩ : ∃ x0, x0 = uI s164 88 (Int32.ofInt (iI s164 77)) := ⟨_, rfl⟩
                rw [← hs189]
                have Is189 : Bd s189 := by rw [hs189]; exact bd_I Is164 (show ((-1) : Int) ≤ (iI s164 77) ∧ (iI s164 77) ≤ 200 by first | exact ⟨oq_ca54ea22 b188.1, oq_56becbdc g167 g19⟩ | omega) (rng_to _)
                have Fs189 := fm_I (x := Int32.ofInt (iI s164 77)) Gs164 (show 88 ∈ _ by decide)
                rw [← hs189] at Fs189
                have vs189 : iI s189 88 = (iI s164 77) := by rw [hs189]; exact iI_u (rng_to _)
                have ws189_77 : iI s189 77 = iI s164 77 := by rw [hs189]; rfl
                have ws189_75 : iI s189 75 = iI s164 75 := by rw [hs189]; rfl
                have ws189_79 : iI s189 79 = iI s164 79 := by rw [hs189]; rfl
                have ws189_78 : iI s189 78 = iI s164 78 := by rw [hs189]; rfl
                have ws189_86 : iI s189 86 = iI s164 86 := by rw [hs189]; rfl
                have ws189_87 : iI s189 87 = iI s164 87 := by rw [hs189]; rfl
                refine z_aload_n X (x := A 179) (show cdA 213 111 = some (.aload_n 0, 1, 0, 0, 0) from rfl) (List.Mem.tail _ (List.Mem.tail _ (List.Mem.tail _ (List.Mem.head _)))) ?_
                refine z_callV X 179 (rm := rmN 209) (As := []) (st := []) (show cdA 213 112 = some (.invokevirtual 260, 3, 209, 0, 0) from rfl) rfl (by decide) rfl (by rw [E.1, E.2.1, E.2.2.1]; exact k_sum G Is189 (by first | exact oq_3fd14443 g167 g19 | omega) (by first | exact oq_222d1dad g167 g19 | omega) (by first | exact oq_5e64b0f9 ws189_78 ws164_78 ws159_78 ws15_78 ws11_78 ws8_78 p1 | omega)) ⟨by rw [E.2.2.2]; exact (show (rmN 209).frames + 1 ≤ (rmN 213).frames by decide), by rw [E.2.2.2]; exact (show 8 + (mNL (miB 209) + 11) + (rmN 209).locals ≤ (rmN 213).locals by decide), by rw [E.2.2.2]; exact (show 0 + (rmN 209).cells ≤ (rmN 213).cells by decide), by rw [E.2.2.2]; exact (show 0 + (rmN 209).slots ≤ (rmN 213).slots by decide)⟩ (Nat.le_of_ble_eq_true rfl) (fun vv s190 hq => ?_) (fun ee s190 hq => ?_)
                rotate_left
                · obtain ⟨Is190, Fs190, e191, hv, hrs190, hps190⟩ := hq; cases hv
                obtain ⟨Is190, Fs190, e191, hv, hrs190, hps190⟩ := hq
                cases hv
                have Gs190 := fm_ts Fs189 Fs190 (by decide) (by decide)
                have b192 : (0 : Int) ≤ iI s190 77 ∧ iI s190 77 ≤ 400 := Is190.1 77
                have ws190_75 : iI s190 75 = iI s189 75 := fm_i Fs190 (by decide)
                have b193 : (0 : Int) ≤ iI s190 79 ∧ iI s190 79 ≤ 9 := Is190.1 79
                have b194 : (0 : Int) ≤ iI s190 78 ∧ iI s190 78 ≤ 8 := Is190.1 78
                have ws190_86 : iI s190 86 = iI s189 86 := fm_i Fs190 (by decide)
                have ws190_87 : iI s190 87 = iI s189 87 := fm_i Fs190 (by decide)
                have ws190_88 : iI s190 88 = iI s189 88 := fm_i Fs190 (by decide)
                show WS k 115 [(3, .int (Int32.ofInt e18)), (2, .int (Int32.ofInt e14)), (1, .int (Int32.ofInt e9)), (0, .ref (A 179))] [.int (Int32.ofInt e191)] (Wd A dT s190) 0 0
                refine w_pop X.1 (ax_d X (show cdA 213 115 = some (.pop, 1, 0, 0, 0) from rfl)) rfl ?_
                refine z_goto X (t := 147) (show cdA 213 116 = some (.goto 31, 3, 0, 0, 0) from rfl) (by decide) ?_
                refine z_aload_n X (x := A 179) (show cdA 213 147 = some (.aload_n 0, 1, 0, 0, 0) from rfl) (List.Mem.tail _ (List.Mem.tail _ (List.Mem.tail _ (List.Mem.head _)))) ?_
                refine z_getI X 179 (show cdA 213 148 = some (.getfield 191, 3, 12, 6, 0) from rfl) (by decide) rfl rfl ?_
                have b195 : (0 : Int) ≤ iI s190 79 ∧ iI s190 79 ≤ 9 := Is190.1 79
                refine z_if_ne X (t := 160) (show cdA 213 151 = some (.ifCond .ne 9, 3, 1, 0, 0) from rfl) (by decide) (rng_to _) (fun g196 => ?_) (fun g196 => ?_)
                ·
                  refine z_aload_n X (x := A 179) (show cdA 213 160 = some (.aload_n 0, 1, 0, 0, 0) from rfl) (List.Mem.tail _ (List.Mem.tail _ (List.Mem.tail _ (List.Mem.head _)))) ?_
                  refine w_dup X.1 (ax_d X (show cdA 213 161 = some (.dup, 1, 0, 0, 0) from rfl)) rfl ?_
                  refine z_getI X 179 (show cdA 213 162 = some (.getfield 282, 3, 12, 16, 0) from rfl) (by decide) rfl rfl ?_
                  have b197 : (0 : Int) ≤ iI s190 86 ∧ iI s190 86 ≤ 8 := Is190.1 86
                  refine z_const X (show cdA 213 165 = some (.iconst 1, 1, 0, 0, 0) from rfl) ?_
                  refine z_add X (show cdA 213 166 = some (.iadd, 1, 0, 0, 0) from rfl) ?_
                  refine s_putI X 179 (show cdA 213 167 = some (.putfield 282, 3, 12, 16, 0) from rfl) (by decide) rfl rfl (by decide) rfl rfl rfl ?_
                  obtain ⟨s198, hs198⟩ : ∃ x0, x0 = uI s190 86 (Int32.ofInt ((iI s190 86) + 1)) := ⟨_, rfl⟩
                  rw [← hs198]
                  have Is198 : Bd s198 := by rw [hs198]; exact bd_I Is190 (show (0 : Int) ≤ ((iI s190 86) + 1) ∧ ((iI s190 86) + 1) ≤ 8 by first | exact ⟨oq_54f49eb5 b197.1, oq_d8928268 g167 g19⟩ | omega) ⟨by first | exact oq_74de1e16 b197.1 | omega, by first | exact oq_3762dfb5 b197.2 | omega⟩
                  have Fs198 := fm_I (x := Int32.ofInt ((iI s190 86) + 1)) Gs190 (show 86 ∈ _ by decide)
                  rw [← hs198] at Fs198
                  have vs198 : iI s198 86 = ((iI s190 86) + 1) := by rw [hs198]; exact iI_u ⟨by first | exact oq_74de1e16 b197.1 | omega, by first | exact oq_3762dfb5 b197.2 | omega⟩
                  have ws198_77 : iI s198 77 = iI s190 77 := by rw [hs198]; rfl
                  have ws198_75 : iI s198 75 = iI s190 75 := by rw [hs198]; rfl
                  have ws198_79 : iI s198 79 = iI s190 79 := by rw [hs198]; rfl
                  have ws198_78 : iI s198 78 = iI s190 78 := by rw [hs198]; rfl
                  have ws198_87 : iI s198 87 = iI s190 87 := by rw [hs198]; rfl
                  have ws198_88 : iI s198 88 = iI s190 88 := by rw [hs198]; rfl
                  exact w_vret X.1 q hRt (ax_d X (show cdA 213 170 = some (.return_, 1, 0, 0, 0) from rfl)) (Nat.zero_le _) (Nat.zero_le _) ⟨_, rfl, Is198, Fs198, rfl, by first | exact ⟨oq_fe04bf4e g167 g19, oq_3d9f5183 ws198_77 hps190.2.1 ws189_77 hps164.1 ws159_77 ws15_77 ws11_77 hps8.1, oq_3fd14443 g167 g19, oq_971796bb ws198_79 g196 b195.1, oq_e1d63144 ws198_87 vs198 ws190_87 ws190_86 ws189_87 ws189_86 ws164_87 ws164_86 ws159_87 ws159_86 g114 ws15_87 ws11_87 ws8_87 b6.2⟩ | omega⟩
                ·
                  refine z_aload_n X (x := A 179) (show cdA 213 154 = some (.aload_n 0, 1, 0, 0, 0) from rfl) (List.Mem.tail _ (List.Mem.tail _ (List.Mem.tail _ (List.Mem.head _)))) ?_
                  refine z_bipush X (show cdA 213 155 = some (.bipush 59, 2, 0, 0, 59) from rfl) ?_
                  refine z_callV X 179 (rm := rmN 204) (As := [.int (Int32.ofInt 59)]) (st := []) (show cdA 213 157 = some (.invokevirtual 263, 3, 204, 0, 0) from rfl) rfl (by decide) rfl (by rw [E.1, E.2.1, E.2.2.1]; exact k_sign G Is190 (by first | exact ⟨by decide, by decide⟩ | omega) (by first | exact oq_1594de10 g167 g19 | omega)) ⟨by rw [E.2.2.2]; exact (show (rmN 204).frames + 1 ≤ (rmN 213).frames by decide), by rw [E.2.2.2]; exact (show 8 + (mNL (miB 204) + 11) + (rmN 204).locals ≤ (rmN 213).locals by decide), by rw [E.2.2.2]; exact (show 0 + (rmN 204).cells ≤ (rmN 213).cells by decide), by rw [E.2.2.2]; exact (show 0 + (rmN 204).slots ≤ (rmN 213).slots by decide)⟩ (Nat.le_of_ble_eq_true rfl) (fun vv s199 hq => ?_) (fun ee s199 hq => ?_)
                  rotate_left
                  · obtain ⟨Is199, Fs199, hv, hps199⟩ := hq; cases hv
                  obtain ⟨Is199, Fs199, hv, hps199⟩ := hq
                  cases hv
                  have Gs199 := fm_ts Gs190 Fs199 (by decide) (by decide)
                  have b201 : (0 : Int) ≤ iI s199 77 ∧ iI s199 77 ≤ 400 := Is199.1 77
                  have ws199_75 : iI s199 75 = iI s190 75 := fm_i Fs199 (by decide)
                  have b202 : (0 : Int) ≤ iI s199 79 ∧ iI s199 79 ≤ 9 := Is199.1 79
                  have ws199_78 : iI s199 78 = iI s190 78 := fm_i Fs199 (by decide)
                  have ws199_86 : iI s199 86 = iI s190 86 := fm_i Fs199 (by decide)
                  have ws199_87 : iI s199 87 = iI s190 87 := fm_i Fs199 (by decide)
                  have ws199_88 : iI s199 88 = iI s190 88 := fm_i Fs199 (by decide)
                  show WS k 160 [(3, .int (Int32.ofInt e18)), (2, .int (Int32.ofInt e14)), (1, .int (Int32.ofInt e9)), (0, .ref (A 179))] [] (Wd A dT s199) 0 0
                  refine z_aload_n X (x := A 179) (show cdA 213 160 = some (.aload_n 0, 1, 0, 0, 0) from rfl) (List.Mem.tail _ (List.Mem.tail _ (List.Mem.tail _ (List.Mem.head _)))) ?_
                  refine w_dup X.1 (ax_d X (show cdA 213 161 = some (.dup, 1, 0, 0, 0) from rfl)) rfl ?_
                  refine z_getI X 179 (show cdA 213 162 = some (.getfield 282, 3, 12, 16, 0) from rfl) (by decide) rfl rfl ?_
                  have b203 : (0 : Int) ≤ iI s199 86 ∧ iI s199 86 ≤ 8 := Is199.1 86
                  refine z_const X (show cdA 213 165 = some (.iconst 1, 1, 0, 0, 0) from rfl) ?_
                  refine z_add X (show cdA 213 166 = some (.iadd, 1, 0, 0, 0) from rfl) ?_
                  refine s_putI X 179 (show cdA 213 167 = some (.putfield 282, 3, 12, 16, 0) from rfl) (by decide) rfl rfl (by decide) rfl rfl rfl ?_
                  obtain ⟨s204, hs204⟩ : ∃ x0, x0 = uI s199 86 (Int32.ofInt ((iI s199 86) + 1)) := ⟨_, rfl⟩
                  rw [← hs204]
                  have Is204 : Bd s204 := by rw [hs204]; exact bd_I Is199 (show (0 : Int) ≤ ((iI s199 86) + 1) ∧ ((iI s199 86) + 1) ≤ 8 by first | exact ⟨oq_54f49eb5 b203.1, oq_d8928268 g167 g19⟩ | omega) ⟨by first | exact oq_74de1e16 b203.1 | omega, by first | exact oq_3762dfb5 b203.2 | omega⟩
                  have Fs204 := fm_I (x := Int32.ofInt ((iI s199 86) + 1)) Gs199 (show 86 ∈ _ by decide)
                  rw [← hs204] at Fs204
                  have vs204 : iI s204 86 = ((iI s199 86) + 1) := by rw [hs204]; exact iI_u ⟨by first | exact oq_74de1e16 b203.1 | omega, by first | exact oq_3762dfb5 b203.2 | omega⟩
                  have ws204_77 : iI s204 77 = iI s199 77 := by rw [hs204]; rfl
                  have ws204_75 : iI s204 75 = iI s199 75 := by rw [hs204]; rfl
                  have ws204_79 : iI s204 79 = iI s199 79 := by rw [hs204]; rfl
                  have ws204_78 : iI s204 78 = iI s199 78 := by rw [hs204]; rfl
                  have ws204_87 : iI s204 87 = iI s199 87 := by rw [hs204]; rfl
                  have ws204_88 : iI s204 88 = iI s199 88 := by rw [hs204]; rfl
                  exact w_vret X.1 q hRt (ax_d X (show cdA 213 170 = some (.return_, 1, 0, 0, 0) from rfl)) (Nat.zero_le _) (Nat.zero_le _) ⟨_, rfl, Is204, Fs204, rfl, by first | exact ⟨oq_fe04bf4e g167 g19, oq_fac99100 ws204_77 hps199.1 hps190.2.1 ws189_77 hps164.1 ws159_77 ws15_77 ws11_77 hps8.1, oq_3fd14443 g167 g19, oq_3e825001 g167 g19, oq_27685c07 ws204_87 vs204 ws199_87 ws199_86 ws190_87 ws190_86 ws189_87 ws189_86 ws164_87 ws164_86 ws159_87 ws159_86 g114 ws15_87 ws11_87 ws8_87 b6.2⟩ | omega⟩
            ·
              exact w_vret X.1 q hRt (ax_d X (show cdA 213 94 = some (.return_, 1, 0, 0, 0) from rfl)) (Nat.zero_le _) (Nat.zero_le _) ⟨_, rfl, Is159, Gs159, rfl, by first | exact ⟨oq_d0299403 ws159_78 ws15_78 ws11_78 ws8_78 p1 b4.1, oq_3b5dd946 ws159_77 hps8.1 ws11_77 ws15_77, oq_1acd77f7 ws159_77 g112 re18.1 he18 ws15_77 hps15 ws11_77 hps8.2.2 b2.2, oq_f7664523 g163 b162.1, oq_641a7aee ws159_87 ws159_86 g114 ws15_87 ws11_87 ws8_87 b6.2⟩ | omega⟩
        ·
          refine z_aload_n X (x := A 179) (show cdA 213 57 = some (.aload_n 0, 1, 0, 0, 0) from rfl) (List.Mem.tail _ (List.Mem.tail _ (List.Mem.tail _ (List.Mem.head _)))) ?_
          refine z_const X (show cdA 213 58 = some (.iconst 1, 1, 0, 0, 0) from rfl) ?_
          refine z_aload_n X (x := A 179) (show cdA 213 59 = some (.aload_n 0, 1, 0, 0, 0) from rfl) (List.Mem.tail _ (List.Mem.tail _ (List.Mem.tail _ (List.Mem.head _)))) ?_
          refine z_getI X 179 (show cdA 213 60 = some (.getfield 184, 3, 12, 4, 0) from rfl) (by decide) rfl rfl ?_
          have b205 : (0 : Int) ≤ iI s15 77 ∧ iI s15 77 ≤ 400 := Is15.1 77
          refine z_callV X 179 (rm := rmN 194) (As := [.int (Int32.ofInt 1), .int (Int32.ofInt (iI s15 77))]) (st := []) (show cdA 213 63 = some (.invokevirtual 204, 3, 194, 0, 0) from rfl) rfl (by decide) rfl (by rw [E.1, E.2.1, E.2.2.1]; exact k_wrong G Is15 (by first | exact ⟨by decide, by decide⟩ | omega) (by first | exact ⟨oq_ca54ea22 b205.1, b205.2⟩ | omega)) ⟨by rw [E.2.2.2]; exact (show (rmN 194).frames + 1 ≤ (rmN 213).frames by decide), by rw [E.2.2.2]; exact (show 8 + (mNL (miB 194) + 11) + (rmN 194).locals ≤ (rmN 213).locals by decide), by rw [E.2.2.2]; exact (show 0 + (rmN 194).cells ≤ (rmN 213).cells by decide), by rw [E.2.2.2]; exact (show 0 + (rmN 194).slots ≤ (rmN 213).slots by decide)⟩ (Nat.le_of_ble_eq_true rfl) (fun vv s206 hq => ?_) (fun ee s206 hq => ?_)
          rotate_left
          · obtain ⟨Is206, Fs206, hv, hps206⟩ := hq; cases hv
          obtain ⟨Is206, Fs206, hv, hps206⟩ := hq
          cases hv
          have Gs206 := fm_ts Gs15 Fs206 (by decide) (by decide)
          have ws206_77 : iI s206 77 = iI s15 77 := fm_i Fs206 (by decide)
          have ws206_75 : iI s206 75 = iI s15 75 := fm_i Fs206 (by decide)
          have b208 : (0 : Int) ≤ iI s206 79 ∧ iI s206 79 ≤ 9 := Is206.1 79
          have ws206_78 : iI s206 78 = iI s15 78 := fm_i Fs206 (by decide)
          have ws206_86 : iI s206 86 = iI s15 86 := fm_i Fs206 (by decide)
          have ws206_87 : iI s206 87 = iI s15 87 := fm_i Fs206 (by decide)
          have ws206_88 : iI s206 88 = iI s15 88 := fm_i Fs206 (by decide)
          show WS k 66 [(3, .int (Int32.ofInt e18)), (2, .int (Int32.ofInt e14)), (1, .int (Int32.ofInt e9)), (0, .ref (A 179))] [] (Wd A dT s206) 0 0
          refine z_goto X (t := 87) (show cdA 213 66 = some (.goto 21, 3, 0, 0, 0) from rfl) (by decide) ?_
          refine z_aload_n X (x := A 179) (show cdA 213 87 = some (.aload_n 0, 1, 0, 0, 0) from rfl) (List.Mem.tail _ (List.Mem.tail _ (List.Mem.tail _ (List.Mem.head _)))) ?_
          refine z_getI X 179 (show cdA 213 88 = some (.getfield 191, 3, 12, 6, 0) from rfl) (by decide) rfl rfl ?_
          have b209 : (0 : Int) ≤ iI s206 79 ∧ iI s206 79 ≤ 9 := Is206.1 79
          refine z_if_eq X (t := 95) (show cdA 213 91 = some (.ifCond .eq 4, 3, 0, 0, 0) from rfl) (by decide) (rng_to _) (fun g210 => ?_) (fun g210 => ?_)
          ·
            refine z_aload_n X (x := A 179) (show cdA 213 95 = some (.aload_n 0, 1, 0, 0, 0) from rfl) (List.Mem.tail _ (List.Mem.tail _ (List.Mem.tail _ (List.Mem.head _)))) ?_
            refine z_callV X 179 (rm := rmN 203) (As := []) (st := []) (show cdA 213 96 = some (.invokevirtual 254, 3, 203, 0, 0) from rfl) rfl (by decide) rfl (by rw [E.1, E.2.1, E.2.2.1]; exact k_skipWord G Is206 (by first | exact oq_fe813e1a g210 hps206 | omega)) ⟨by rw [E.2.2.2]; exact (show (rmN 203).frames + 1 ≤ (rmN 213).frames by decide), by rw [E.2.2.2]; exact (show 8 + (mNL (miB 203) + 11) + (rmN 203).locals ≤ (rmN 213).locals by decide), by rw [E.2.2.2]; exact (show 0 + (rmN 203).cells ≤ (rmN 213).cells by decide), by rw [E.2.2.2]; exact (show 0 + (rmN 203).slots ≤ (rmN 213).slots by decide)⟩ (Nat.le_of_ble_eq_true rfl) (fun vv s211 hq => ?_) (fun ee s211 hq => ?_)
            rotate_left
            · obtain ⟨Is211, Fs211, hv, hps211⟩ := hq; cases hv
            obtain ⟨Is211, Fs211, hv, hps211⟩ := hq
            cases hv
            have Gs211 := fm_ts Gs206 Fs211 (by decide) (by decide)
            have b213 : (0 : Int) ≤ iI s211 77 ∧ iI s211 77 ≤ 400 := Is211.1 77
            have ws211_75 : iI s211 75 = iI s206 75 := fm_i Fs211 (by decide)
            have ws211_79 : iI s211 79 = iI s206 79 := fm_i Fs211 (by decide)
            have ws211_78 : iI s211 78 = iI s206 78 := fm_i Fs211 (by decide)
            have ws211_86 : iI s211 86 = iI s206 86 := fm_i Fs211 (by decide)
            have ws211_87 : iI s211 87 = iI s206 87 := fm_i Fs211 (by decide)
            have ws211_88 : iI s211 88 = iI s206 88 := fm_i Fs211 (by decide)
            show WS k 99 [(3, .int (Int32.ofInt e18)), (2, .int (Int32.ofInt e14)), (1, .int (Int32.ofInt e9)), (0, .ref (A 179))] [] (Wd A dT s211) 0 0
            refine z_load_n X (x := e14) (show cdA 213 99 = some (.iload_n 2, 1, 0, 0, 0) from rfl) (List.Mem.tail _ (List.Mem.head _)) ?_
            refine z_if_eq X (t := 119) (show cdA 213 100 = some (.ifCond .eq 19, 3, 0, 0, 0) from rfl) (by decide) ⟨by first | exact oq_6ab4c69f g19 | omega, by first | exact oq_3b8a080c g19 | omega⟩ (fun g214 => ?_) (fun g214 => ?_)
            ·
              refine z_aload_n X (x := A 179) (show cdA 213 119 = some (.aload_n 0, 1, 0, 0, 0) from rfl) (List.Mem.tail _ (List.Mem.tail _ (List.Mem.tail _ (List.Mem.head _)))) ?_
              refine s_getR X 179 (show cdA 213 120 = some (.getfield 29, 3, 12, 20, 0) from rfl) (by decide) rfl rfl ?_
              refine z_aload_n X (x := A 179) (show cdA 213 123 = some (.aload_n 0, 1, 0, 0, 0) from rfl) (List.Mem.tail _ (List.Mem.tail _ (List.Mem.tail _ (List.Mem.head _)))) ?_
              refine z_getI X 179 (show cdA 213 124 = some (.getfield 288, 3, 12, 17, 0) from rfl) (by decide) rfl rfl ?_
              have b215 : (0 : Int) ≤ iI s211 87 ∧ iI s211 87 ≤ 8 := Is211.1 87
              refine z_aload_n X (x := A 179) (show cdA 213 127 = some (.aload_n 0, 1, 0, 0, 0) from rfl) (List.Mem.tail _ (List.Mem.tail _ (List.Mem.tail _ (List.Mem.head _)))) ?_
              refine z_getI X 179 (show cdA 213 128 = some (.getfield 184, 3, 12, 4, 0) from rfl) (by decide) rfl rfl ?_
              have b216 : (0 : Int) ≤ iI s211 77 ∧ iI s211 77 ≤ 400 := Is211.1 77
              refine z_ast X 183 (show cdA 213 131 = some (.iastore, 1, 0, 0, 0) from rfl) (by decide) rfl (by first | exact b215.1 | omega) (show (iI s211 87) < 8 by first | exact oq_115b8e31 g210 hps206 | omega) (by decide) ?_
              obtain ⟨s217, hs217⟩ : ∃ x0, x0 = uC s211 160 ((iI s211 87)).toNat (Int32.ofInt (iI s211 77)) := ⟨_, rfl⟩
              rw [← hs217]
              have Is217 : Bd s217 := by rw [hs217]; exact bd_C Is211 (show (0 : Int) ≤ (iI s211 77) ∧ (iI s211 77) ≤ 200 by first | exact ⟨b216.1, oq_ca61092c g210 hps206⟩ | omega) (rng_to _)
              have Fs217 := fm_C (i := ((iI s211 87)).toNat) (x := Int32.ofInt (iI s211 77)) Gs211 (show 160 ∈ _ by decide)
              rw [← hs217] at Fs217
              have ws217_77 : iI s217 77 = iI s211 77 := by rw [hs217]; rfl
              have ws217_75 : iI s217 75 = iI s211 75 := by rw [hs217]; rfl
              have ws217_79 : iI s217 79 = iI s211 79 := by rw [hs217]; rfl
              have ws217_78 : iI s217 78 = iI s211 78 := by rw [hs217]; rfl
              have ws217_86 : iI s217 86 = iI s211 86 := by rw [hs217]; rfl
              have ws217_87 : iI s217 87 = iI s211 87 := by rw [hs217]; rfl
              have ws217_88 : iI s217 88 = iI s211 88 := by rw [hs217]; rfl
              refine z_aload_n X (x := A 179) (show cdA 213 132 = some (.aload_n 0, 1, 0, 0, 0) from rfl) (List.Mem.tail _ (List.Mem.tail _ (List.Mem.tail _ (List.Mem.head _)))) ?_
              refine w_dup X.1 (ax_d X (show cdA 213 133 = some (.dup, 1, 0, 0, 0) from rfl)) rfl ?_
              refine z_getI X 179 (show cdA 213 134 = some (.getfield 288, 3, 12, 17, 0) from rfl) (by decide) rfl rfl ?_
              have b218 : (0 : Int) ≤ iI s217 87 ∧ iI s217 87 ≤ 8 := Is217.1 87
              refine z_const X (show cdA 213 137 = some (.iconst 1, 1, 0, 0, 0) from rfl) ?_
              refine z_add X (show cdA 213 138 = some (.iadd, 1, 0, 0, 0) from rfl) ?_
              refine s_putI X 179 (show cdA 213 139 = some (.putfield 288, 3, 12, 17, 0) from rfl) (by decide) rfl rfl (by decide) rfl rfl rfl ?_
              obtain ⟨s219, hs219⟩ : ∃ x0, x0 = uI s217 87 (Int32.ofInt ((iI s217 87) + 1)) := ⟨_, rfl⟩
              rw [← hs219]
              have Is219 : Bd s219 := by rw [hs219]; exact bd_I Is217 (show (0 : Int) ≤ ((iI s217 87) + 1) ∧ ((iI s217 87) + 1) ≤ 8 by first | exact ⟨oq_54f49eb5 b218.1, oq_519a4a1d g210 hps206⟩ | omega) ⟨by first | exact oq_74de1e16 b218.1 | omega, by first | exact oq_3762dfb5 b218.2 | omega⟩
              have Fs219 := fm_I (x := Int32.ofInt ((iI s217 87) + 1)) Fs217 (show 87 ∈ _ by decide)
              rw [← hs219] at Fs219
              have vs219 : iI s219 87 = ((iI s217 87) + 1) := by rw [hs219]; exact iI_u ⟨by first | exact oq_74de1e16 b218.1 | omega, by first | exact oq_3762dfb5 b218.2 | omega⟩
              have ws219_77 : iI s219 77 = iI s217 77 := by rw [hs219]; rfl
              have ws219_75 : iI s219 75 = iI s217 75 := by rw [hs219]; rfl
              have ws219_79 : iI s219 79 = iI s217 79 := by rw [hs219]; rfl
              have ws219_78 : iI s219 78 = iI s217 78 := by rw [hs219]; rfl
              have ws219_86 : iI s219 86 = iI s217 86 := by rw [hs219]; rfl
              have ws219_88 : iI s219 88 = iI s217 88 := by rw [hs219]; rfl
              refine z_aload_n X (x := A 179) (show cdA 213 142 = some (.aload_n 0, 1, 0, 0, 0) from rfl) (List.Mem.tail _ (List.Mem.tail _ (List.Mem.tail _ (List.Mem.head _)))) ?_
              refine z_callV X 179 (rm := rmN 212) (As := []) (st := []) (show cdA 213 143 = some (.invokevirtual 276, 3, 212, 0, 0) from rfl) rfl (by decide) rfl (by rw [E.1, E.2.1, E.2.2.1]; exact k_ors G Is219 (by first | exact oq_4322fef3 g210 hps206 | omega) (by first | exact oq_02f5ae4d g210 hps206 | omega) (by first | exact oq_8bd23233 ws219_78 ws217_78 ws211_78 ws206_78 ws15_78 ws11_78 ws8_78 p1 | omega) (by first | exact oq_05144e14 g210 hps206 | omega)) ⟨by rw [E.2.2.2]; exact (show (rmN 212).frames + 1 ≤ (rmN 213).frames by decide), by rw [E.2.2.2]; exact (show 8 + (mNL (miB 212) + 11) + (rmN 212).locals ≤ (rmN 213).locals by decide), by rw [E.2.2.2]; exact (show 0 + (rmN 212).cells ≤ (rmN 213).cells by decide), by rw [E.2.2.2]; exact (show 0 + (rmN 212).slots ≤ (rmN 213).slots by decide)⟩ (Nat.le_of_ble_eq_true rfl) (fun vv s220 hq => ?_) (fun ee s220 hq => ?_)
              rotate_left
              · obtain ⟨Is220, Fs220, e221, hv, hrs220, hps220⟩ := hq; cases hv
              obtain ⟨Is220, Fs220, e221, hv, hrs220, hps220⟩ := hq
              cases hv
              have Gs220 := fm_ts Fs219 Fs220 (by decide) (by decide)
              have b222 : (0 : Int) ≤ iI s220 77 ∧ iI s220 77 ≤ 400 := Is220.1 77
              have ws220_75 : iI s220 75 = iI s219 75 := fm_i Fs220 (by decide)
              have b223 : (0 : Int) ≤ iI s220 79 ∧ iI s220 79 ≤ 9 := Is220.1 79
              have b224 : (0 : Int) ≤ iI s220 78 ∧ iI s220 78 ≤ 8 := Is220.1 78
              have ws220_86 : iI s220 86 = iI s219 86 := fm_i Fs220 (by decide)
              have ws220_87 : iI s220 87 = iI s219 87 := fm_i Fs220 (by decide)
              have ws220_88 : iI s220 88 = iI s219 88 := fm_i Fs220 (by decide)
              show WS k 146 [(3, .int (Int32.ofInt e18)), (2, .int (Int32.ofInt e14)), (1, .int (Int32.ofInt e9)), (0, .ref (A 179))] [.int (Int32.ofInt e221)] (Wd A dT s220) 0 0
              refine w_pop X.1 (ax_d X (show cdA 213 146 = some (.pop, 1, 0, 0, 0) from rfl)) rfl ?_
              refine z_aload_n X (x := A 179) (show cdA 213 147 = some (.aload_n 0, 1, 0, 0, 0) from rfl) (List.Mem.tail _ (List.Mem.tail _ (List.Mem.tail _ (List.Mem.head _)))) ?_
              refine z_getI X 179 (show cdA 213 148 = some (.getfield 191, 3, 12, 6, 0) from rfl) (by decide) rfl rfl ?_
              have b225 : (0 : Int) ≤ iI s220 79 ∧ iI s220 79 ≤ 9 := Is220.1 79
              refine z_if_ne X (t := 160) (show cdA 213 151 = some (.ifCond .ne 9, 3, 1, 0, 0) from rfl) (by decide) (rng_to _) (fun g226 => ?_) (fun g226 => ?_)
              ·
                refine z_aload_n X (x := A 179) (show cdA 213 160 = some (.aload_n 0, 1, 0, 0, 0) from rfl) (List.Mem.tail _ (List.Mem.tail _ (List.Mem.tail _ (List.Mem.head _)))) ?_
                refine w_dup X.1 (ax_d X (show cdA 213 161 = some (.dup, 1, 0, 0, 0) from rfl)) rfl ?_
                refine z_getI X 179 (show cdA 213 162 = some (.getfield 282, 3, 12, 16, 0) from rfl) (by decide) rfl rfl ?_
                have b227 : (0 : Int) ≤ iI s220 86 ∧ iI s220 86 ≤ 8 := Is220.1 86
                refine z_const X (show cdA 213 165 = some (.iconst 1, 1, 0, 0, 0) from rfl) ?_
                refine z_add X (show cdA 213 166 = some (.iadd, 1, 0, 0, 0) from rfl) ?_
                refine s_putI X 179 (show cdA 213 167 = some (.putfield 282, 3, 12, 16, 0) from rfl) (by decide) rfl rfl (by decide) rfl rfl rfl ?_
                obtain ⟨s228, hs228⟩ : ∃ x0, x0 = uI s220 86 (Int32.ofInt ((iI s220 86) + 1)) := ⟨_, rfl⟩
                rw [← hs228]
                have Is228 : Bd s228 := by rw [hs228]; exact bd_I Is220 (show (0 : Int) ≤ ((iI s220 86) + 1) ∧ ((iI s220 86) + 1) ≤ 8 by first | exact ⟨oq_54f49eb5 b227.1, oq_519a4a1d g210 hps206⟩ | omega) ⟨by first | exact oq_74de1e16 b227.1 | omega, by first | exact oq_3762dfb5 b227.2 | omega⟩
                have Fs228 := fm_I (x := Int32.ofInt ((iI s220 86) + 1)) Gs220 (show 86 ∈ _ by decide)
                rw [← hs228] at Fs228
                have vs228 : iI s228 86 = ((iI s220 86) + 1) := by rw [hs228]; exact iI_u ⟨by first | exact oq_74de1e16 b227.1 | omega, by first | exact oq_3762dfb5 b227.2 | omega⟩
                have ws228_77 : iI s228 77 = iI s220 77 := by rw [hs228]; rfl
                have ws228_75 : iI s228 75 = iI s220 75 := by rw [hs228]; rfl
                have ws228_79 : iI s228 79 = iI s220 79 := by rw [hs228]; rfl
                have ws228_78 : iI s228 78 = iI s220 78 := by rw [hs228]; rfl
                have ws228_87 : iI s228 87 = iI s220 87 := by rw [hs228]; rfl
                have ws228_88 : iI s228 88 = iI s220 88 := by rw [hs228]; rfl
                exact w_vret X.1 q hRt (ax_d X (show cdA 213 170 = some (.return_, 1, 0, 0, 0) from rfl)) (Nat.zero_le _) (Nat.zero_le _) ⟨_, rfl, Is228, Fs228, rfl, by first | exact ⟨oq_a5b19105 g210 hps206, oq_f6078872 ws228_77 hps220.2.1 ws219_77 ws217_77 hps211.1 ws206_77 ws15_77 ws11_77 hps8.1, oq_4322fef3 g210 hps206, oq_971796bb ws228_79 g226 b225.1, oq_4297ca08 ws228_87 vs228 ws220_87 ws220_86 ws219_86 vs219 ws217_87 ws217_86 ws211_87 ws211_86 ws206_87 ws206_86 ws15_87 ws15_86 ws11_87 ws11_86 ws8_87 ws8_86 p3⟩ | omega⟩
              ·
                refine z_aload_n X (x := A 179) (show cdA 213 154 = some (.aload_n 0, 1, 0, 0, 0) from rfl) (List.Mem.tail _ (List.Mem.tail _ (List.Mem.tail _ (List.Mem.head _)))) ?_
                refine z_bipush X (show cdA 213 155 = some (.bipush 59, 2, 0, 0, 59) from rfl) ?_
                refine z_callV X 179 (rm := rmN 204) (As := [.int (Int32.ofInt 59)]) (st := []) (show cdA 213 157 = some (.invokevirtual 263, 3, 204, 0, 0) from rfl) rfl (by decide) rfl (by rw [E.1, E.2.1, E.2.2.1]; exact k_sign G Is220 (by first | exact ⟨by decide, by decide⟩ | omega) (by first | exact oq_6db829a8 g210 hps206 | omega)) ⟨by rw [E.2.2.2]; exact (show (rmN 204).frames + 1 ≤ (rmN 213).frames by decide), by rw [E.2.2.2]; exact (show 8 + (mNL (miB 204) + 11) + (rmN 204).locals ≤ (rmN 213).locals by decide), by rw [E.2.2.2]; exact (show 0 + (rmN 204).cells ≤ (rmN 213).cells by decide), by rw [E.2.2.2]; exact (show 0 + (rmN 204).slots ≤ (rmN 213).slots by decide)⟩ (Nat.le_of_ble_eq_true rfl) (fun vv s229 hq => ?_) (fun ee s229 hq => ?_)
                rotate_left
                · obtain ⟨Is229, Fs229, hv, hps229⟩ := hq; cases hv
                obtain ⟨Is229, Fs229, hv, hps229⟩ := hq
                cases hv
                have Gs229 := fm_ts Gs220 Fs229 (by decide) (by decide)
                have b231 : (0 : Int) ≤ iI s229 77 ∧ iI s229 77 ≤ 400 := Is229.1 77
                have ws229_75 : iI s229 75 = iI s220 75 := fm_i Fs229 (by decide)
                have b232 : (0 : Int) ≤ iI s229 79 ∧ iI s229 79 ≤ 9 := Is229.1 79
                have ws229_78 : iI s229 78 = iI s220 78 := fm_i Fs229 (by decide)
                have ws229_86 : iI s229 86 = iI s220 86 := fm_i Fs229 (by decide)
                have ws229_87 : iI s229 87 = iI s220 87 := fm_i Fs229 (by decide)
                have ws229_88 : iI s229 88 = iI s220 88 := fm_i Fs229 (by decide)
                show WS k 160 [(3, .int (Int32.ofInt e18)), (2, .int (Int32.ofInt e14)), (1, .int (Int32.ofInt e9)), (0, .ref (A 179))] [] (Wd A dT s229) 0 0
                refine z_aload_n X (x := A 179) (show cdA 213 160 = some (.aload_n 0, 1, 0, 0, 0) from rfl) (List.Mem.tail _ (List.Mem.tail _ (List.Mem.tail _ (List.Mem.head _)))) ?_
                refine w_dup X.1 (ax_d X (show cdA 213 161 = some (.dup, 1, 0, 0, 0) from rfl)) rfl ?_
                refine z_getI X 179 (show cdA 213 162 = some (.getfield 282, 3, 12, 16, 0) from rfl) (by decide) rfl rfl ?_
                have b233 : (0 : Int) ≤ iI s229 86 ∧ iI s229 86 ≤ 8 := Is229.1 86
                refine z_const X (show cdA 213 165 = some (.iconst 1, 1, 0, 0, 0) from rfl) ?_
                refine z_add X (show cdA 213 166 = some (.iadd, 1, 0, 0, 0) from rfl) ?_
                refine s_putI X 179 (show cdA 213 167 = some (.putfield 282, 3, 12, 16, 0) from rfl) (by decide) rfl rfl (by decide) rfl rfl rfl ?_
                obtain ⟨s234, hs234⟩ : ∃ x0, x0 = uI s229 86 (Int32.ofInt ((iI s229 86) + 1)) := ⟨_, rfl⟩
                rw [← hs234]
                have Is234 : Bd s234 := by rw [hs234]; exact bd_I Is229 (show (0 : Int) ≤ ((iI s229 86) + 1) ∧ ((iI s229 86) + 1) ≤ 8 by first | exact ⟨oq_54f49eb5 b233.1, oq_519a4a1d g210 hps206⟩ | omega) ⟨by first | exact oq_74de1e16 b233.1 | omega, by first | exact oq_3762dfb5 b233.2 | omega⟩
                have Fs234 := fm_I (x := Int32.ofInt ((iI s229 86) + 1)) Gs229 (show 86 ∈ _ by decide)
                rw [← hs234] at Fs234
                have vs234 : iI s234 86 = ((iI s229 86) + 1) := by rw [hs234]; exact iI_u ⟨by first | exact oq_74de1e16 b233.1 | omega, by first | exact oq_3762dfb5 b233.2 | omega⟩
                have ws234_77 : iI s234 77 = iI s229 77 := by rw [hs234]; rfl
                have ws234_75 : iI s234 75 = iI s229 75 := by rw [hs234]; rfl
                have ws234_79 : iI s234 79 = iI s229 79 := by rw [hs234]; rfl
                have ws234_78 : iI s234 78 = iI s229 78 := by rw [hs234]; rfl
                have ws234_87 : iI s234 87 = iI s229 87 := by rw [hs234]; rfl
                have ws234_88 : iI s234 88 = iI s229 88 := by rw [hs234]; rfl
                exact w_vret X.1 q hRt (ax_d X (show cdA 213 170 = some (.return_, 1, 0, 0, 0) from rfl)) (Nat.zero_le _) (Nat.zero_le _) ⟨_, rfl, Is234, Fs234, rfl, by first | exact ⟨oq_a5b19105 g210 hps206, oq_7153c7f3 ws234_77 hps229.1 hps220.2.1 ws219_77 ws217_77 hps211.1 ws206_77 ws15_77 ws11_77 hps8.1, oq_4322fef3 g210 hps206, oq_243ee8ff g210 hps206, oq_ba81b00c ws234_87 vs234 ws229_87 ws229_86 ws220_87 ws220_86 ws219_86 vs219 ws217_87 ws217_86 ws211_87 ws211_86 ws206_87 ws206_86 ws15_87 ws15_86 ws11_87 ws11_86 ws8_87 ws8_86 p3⟩ | omega⟩
            ·
              refine z_aload_n X (x := A 179) (show cdA 213 103 = some (.aload_n 0, 1, 0, 0, 0) from rfl) (List.Mem.tail _ (List.Mem.tail _ (List.Mem.tail _ (List.Mem.head _)))) ?_
              refine z_aload_n X (x := A 179) (show cdA 213 104 = some (.aload_n 0, 1, 0, 0, 0) from rfl) (List.Mem.tail _ (List.Mem.tail _ (List.Mem.tail _ (List.Mem.head _)))) ?_
              refine z_getI X 179 (show cdA 213 105 = some (.getfield 184, 3, 12, 4, 0) from rfl) (by decide) rfl rfl ?_
              have b235 : (0 : Int) ≤ iI s211 77 ∧ iI s211 77 ≤ 400 := Is211.1 77
              refine s_putI X 179 (show cdA 213 108 = some (.putfield 285, 3, 12, 18, 0) from rfl) (by decide) rfl rfl (by decide) rfl rfl rfl ?_
              obtain ⟨s236, hs236⟩ : ∃ x0, x0 = uI s211 88 (Int32.ofInt (iI s211 77)) := ⟨_, rfl⟩
              rw [← hs236]
              have Is236 : Bd s236 := by rw [hs236]; exact bd_I Is211 (show ((-1) : Int) ≤ (iI s211 77) ∧ (iI s211 77) ≤ 200 by first | exact ⟨oq_ca54ea22 b235.1, oq_56becbdc g214 g19⟩ | omega) (rng_to _)
              have Fs236 := fm_I (x := Int32.ofInt (iI s211 77)) Gs211 (show 88 ∈ _ by decide)
              rw [← hs236] at Fs236
              have vs236 : iI s236 88 = (iI s211 77) := by rw [hs236]; exact iI_u (rng_to _)
              have ws236_77 : iI s236 77 = iI s211 77 := by rw [hs236]; rfl
              have ws236_75 : iI s236 75 = iI s211 75 := by rw [hs236]; rfl
              have ws236_79 : iI s236 79 = iI s211 79 := by rw [hs236]; rfl
              have ws236_78 : iI s236 78 = iI s211 78 := by rw [hs236]; rfl
              have ws236_86 : iI s236 86 = iI s211 86 := by rw [hs236]; rfl
              have ws236_87 : iI s236 87 = iI s211 87 := by rw [hs236]; rfl
              refine z_aload_n X (x := A 179) (show cdA 213 111 = some (.aload_n 0, 1, 0, 0, 0) from rfl) (List.Mem.tail _ (List.Mem.tail _ (List.Mem.tail _ (List.Mem.head _)))) ?_
              refine z_callV X 179 (rm := rmN 209) (As := []) (st := []) (show cdA 213 112 = some (.invokevirtual 260, 3, 209, 0, 0) from rfl) rfl (by decide) rfl (by rw [E.1, E.2.1, E.2.2.1]; exact k_sum G Is236 (by first | exact oq_3fd14443 g214 g19 | omega) (by first | exact oq_222d1dad g214 g19 | omega) (by first | exact oq_5e64b0f9 ws236_78 ws211_78 ws206_78 ws15_78 ws11_78 ws8_78 p1 | omega)) ⟨by rw [E.2.2.2]; exact (show (rmN 209).frames + 1 ≤ (rmN 213).frames by decide), by rw [E.2.2.2]; exact (show 8 + (mNL (miB 209) + 11) + (rmN 209).locals ≤ (rmN 213).locals by decide), by rw [E.2.2.2]; exact (show 0 + (rmN 209).cells ≤ (rmN 213).cells by decide), by rw [E.2.2.2]; exact (show 0 + (rmN 209).slots ≤ (rmN 213).slots by decide)⟩ (Nat.le_of_ble_eq_true rfl) (fun vv s237 hq => ?_) (fun ee s237 hq => ?_)
              rotate_left
              · obtain ⟨Is237, Fs237, e238, hv, hrs237, hps237⟩ := hq; cases hv
              obtain ⟨Is237, Fs237, e238, hv, hrs237, hps237⟩ := hq
              cases hv
              have Gs237 := fm_ts Fs236 Fs237 (by decide) (by decide)
              have b239 : (0 : Int) ≤ iI s237 77 ∧ iI s237 77 ≤ 400 := Is237.1 77
              have ws237_75 : iI s237 75 = iI s236 75 := fm_i Fs237 (by decide)
              have b240 : (0 : Int) ≤ iI s237 79 ∧ iI s237 79 ≤ 9 := Is237.1 79
              have b241 : (0 : Int) ≤ iI s237 78 ∧ iI s237 78 ≤ 8 := Is237.1 78
              have ws237_86 : iI s237 86 = iI s236 86 := fm_i Fs237 (by decide)
              have ws237_87 : iI s237 87 = iI s236 87 := fm_i Fs237 (by decide)
              have ws237_88 : iI s237 88 = iI s236 88 := fm_i Fs237 (by decide)
              show WS k 115 [(3, .int (Int32.ofInt e18)), (2, .int (Int32.ofInt e14)), (1, .int (Int32.ofInt e9)), (0, .ref (A 179))] [.int (Int32.ofInt e238)] (Wd A dT s237) 0 0
              refine w_pop X.1 (ax_d X (show cdA 213 115 = some (.pop, 1, 0, 0, 0) from rfl)) rfl ?_
              refine z_goto X (t := 147) (show cdA 213 116 = some (.goto 31, 3, 0, 0, 0) from rfl) (by decide) ?_
              refine z_aload_n X (x := A 179) (show cdA 213 147 = some (.aload_n 0, 1, 0, 0, 0) from rfl) (List.Mem.tail _ (List.Mem.tail _ (List.Mem.tail _ (List.Mem.head _)))) ?_
              refine z_getI X 179 (show cdA 213 148 = some (.getfield 191, 3, 12, 6, 0) from rfl) (by decide) rfl rfl ?_
              have b242 : (0 : Int) ≤ iI s237 79 ∧ iI s237 79 ≤ 9 := Is237.1 79
              refine z_if_ne X (t := 160) (show cdA 213 151 = some (.ifCond .ne 9, 3, 1, 0, 0) from rfl) (by decide) (rng_to _) (fun g243 => ?_) (fun g243 => ?_)
              ·
                refine z_aload_n X (x := A 179) (show cdA 213 160 = some (.aload_n 0, 1, 0, 0, 0) from rfl) (List.Mem.tail _ (List.Mem.tail _ (List.Mem.tail _ (List.Mem.head _)))) ?_
                refine w_dup X.1 (ax_d X (show cdA 213 161 = some (.dup, 1, 0, 0, 0) from rfl)) rfl ?_
                refine z_getI X 179 (show cdA 213 162 = some (.getfield 282, 3, 12, 16, 0) from rfl) (by decide) rfl rfl ?_
                have b244 : (0 : Int) ≤ iI s237 86 ∧ iI s237 86 ≤ 8 := Is237.1 86
                refine z_const X (show cdA 213 165 = some (.iconst 1, 1, 0, 0, 0) from rfl) ?_
                refine z_add X (show cdA 213 166 = some (.iadd, 1, 0, 0, 0) from rfl) ?_
                refine s_putI X 179 (show cdA 213 167 = some (.putfield 282, 3, 12, 16, 0) from rfl) (by decide) rfl rfl (by decide) rfl rfl rfl ?_
                obtain ⟨s245, hs245⟩ : ∃ x0, x0 = uI s237 86 (Int32.ofInt ((iI s237 86) + 1)) := ⟨_, rfl⟩
                rw [← hs245]
                have Is245 : Bd s245 := by rw [hs245]; exact bd_I Is237 (show (0 : Int) ≤ ((iI s237 86) + 1) ∧ ((iI s237 86) + 1) ≤ 8 by first | exact ⟨oq_54f49eb5 b244.1, oq_d8928268 g214 g19⟩ | omega) ⟨by first | exact oq_74de1e16 b244.1 | omega, by first | exact oq_3762dfb5 b244.2 | omega⟩
                have Fs245 := fm_I (x := Int32.ofInt ((iI s237 86) + 1)) Gs237 (show 86 ∈ _ by decide)
                rw [← hs245] at Fs245
                have vs245 : iI s245 86 = ((iI s237 86) + 1) := by rw [hs245]; exact iI_u ⟨by first | exact oq_74de1e16 b244.1 | omega, by first | exact oq_3762dfb5 b244.2 | omega⟩
                have ws245_77 : iI s245 77 = iI s237 77 := by rw [hs245]; rfl
                have ws245_75 : iI s245 75 = iI s237 75 := by rw [hs245]; rfl
                have ws245_79 : iI s245 79 = iI s237 79 := by rw [hs245]; rfl
                have ws245_78 : iI s245 78 = iI s237 78 := by rw [hs245]; rfl
                have ws245_87 : iI s245 87 = iI s237 87 := by rw [hs245]; rfl
                have ws245_88 : iI s245 88 = iI s237 88 := by rw [hs245]; rfl
                exact w_vret X.1 q hRt (ax_d X (show cdA 213 170 = some (.return_, 1, 0, 0, 0) from rfl)) (Nat.zero_le _) (Nat.zero_le _) ⟨_, rfl, Is245, Fs245, rfl, by first | exact ⟨oq_fe04bf4e g214 g19, oq_3d9f5183 ws245_77 hps237.2.1 ws236_77 hps211.1 ws206_77 ws15_77 ws11_77 hps8.1, oq_3fd14443 g214 g19, oq_971796bb ws245_79 g243 b242.1, oq_a4ea2c38 ws245_87 vs245 ws237_87 ws237_86 ws236_87 ws236_86 ws211_87 ws211_86 ws206_87 ws206_86 ws15_87 ws15_86 ws11_87 ws11_86 ws8_87 ws8_86 p3⟩ | omega⟩
              ·
                refine z_aload_n X (x := A 179) (show cdA 213 154 = some (.aload_n 0, 1, 0, 0, 0) from rfl) (List.Mem.tail _ (List.Mem.tail _ (List.Mem.tail _ (List.Mem.head _)))) ?_
                refine z_bipush X (show cdA 213 155 = some (.bipush 59, 2, 0, 0, 59) from rfl) ?_
                refine z_callV X 179 (rm := rmN 204) (As := [.int (Int32.ofInt 59)]) (st := []) (show cdA 213 157 = some (.invokevirtual 263, 3, 204, 0, 0) from rfl) rfl (by decide) rfl (by rw [E.1, E.2.1, E.2.2.1]; exact k_sign G Is237 (by first | exact ⟨by decide, by decide⟩ | omega) (by first | exact oq_1594de10 g214 g19 | omega)) ⟨by rw [E.2.2.2]; exact (show (rmN 204).frames + 1 ≤ (rmN 213).frames by decide), by rw [E.2.2.2]; exact (show 8 + (mNL (miB 204) + 11) + (rmN 204).locals ≤ (rmN 213).locals by decide), by rw [E.2.2.2]; exact (show 0 + (rmN 204).cells ≤ (rmN 213).cells by decide), by rw [E.2.2.2]; exact (show 0 + (rmN 204).slots ≤ (rmN 213).slots by decide)⟩ (Nat.le_of_ble_eq_true rfl) (fun vv s246 hq => ?_) (fun ee s246 hq => ?_)
                rotate_left
                · obtain ⟨Is246, Fs246, hv, hps246⟩ := hq; cases hv
                obtain ⟨Is246, Fs246, hv, hps246⟩ := hq
                cases hv
                have Gs246 := fm_ts Gs237 Fs246 (by decide) (by decide)
                have b248 : (0 : Int) ≤ iI s246 77 ∧ iI s246 77 ≤ 400 := Is246.1 77
                have ws246_75 : iI s246 75 = iI s237 75 := fm_i Fs246 (by decide)
                have b249 : (0 : Int) ≤ iI s246 79 ∧ iI s246 79 ≤ 9 := Is246.1 79
                have ws246_78 : iI s246 78 = iI s237 78 := fm_i Fs246 (by decide)
                have ws246_86 : iI s246 86 = iI s237 86 := fm_i Fs246 (by decide)
                have ws246_87 : iI s246 87 = iI s237 87 := fm_i Fs246 (by decide)
                have ws246_88 : iI s246 88 = iI s237 88 := fm_i Fs246 (by decide)
                show WS k 160 [(3, .int (Int32.ofInt e18)), (2, .int (Int32.ofInt e14)), (1, .int (Int32.ofInt e9)), (0, .ref (A 179))] [] (Wd A dT s246) 0 0
                refine z_aload_n X (x := A 179) (show cdA 213 160 = some (.aload_n 0, 1, 0, 0, 0) from rfl) (List.Mem.tail _ (List.Mem.tail _ (List.Mem.tail _ (List.Mem.head _)))) ?_
                refine w_dup X.1 (ax_d X (show cdA 213 161 = some (.dup, 1, 0, 0, 0) from rfl)) rfl ?_
                refine z_getI X 179 (show cdA 213 162 = some (.getfield 282, 3, 12, 16, 0) from rfl) (by decide) rfl rfl ?_
                have b250 : (0 : Int) ≤ iI s246 86 ∧ iI s246 86 ≤ 8 := Is246.1 86
                refine z_const X (show cdA 213 165 = some (.iconst 1, 1, 0, 0, 0) from rfl) ?_
                refine z_add X (show cdA 213 166 = some (.iadd, 1, 0, 0, 0) from rfl) ?_
                refine s_putI X 179 (show cdA 213 167 = some (.putfield 282, 3, 12, 16, 0) from rfl) (by decide) rfl rfl (by decide) rfl rfl rfl ?_
                obtain ⟨s251, hs251⟩ : ∃ x0, x0 = uI s246 86 (Int32.ofInt ((iI s246 86) + 1)) := ⟨_, rfl⟩
                rw [← hs251]
                have Is251 : Bd s251 := by rw [hs251]; exact bd_I Is246 (show (0 : Int) ≤ ((iI s246 86) + 1) ∧ ((iI s246 86) + 1) ≤ 8 by first | exact ⟨oq_54f49eb5 b250.1, oq_d8928268 g214 g19⟩ | omega) ⟨by first | exact oq_74de1e16 b250.1 | omega, by first | exact oq_3762dfb5 b250.2 | omega⟩
                have Fs251 := fm_I (x := Int32.ofInt ((iI s246 86) + 1)) Gs246 (show 86 ∈ _ by decide)
                rw [← hs251] at Fs251
                have vs251 : iI s251 86 = ((iI s246 86) + 1) := by rw [hs251]; exact iI_u ⟨by first | exact oq_74de1e16 b250.1 | omega, by first | exact oq_3762dfb5 b250.2 | omega⟩
                have ws251_77 : iI s251 77 = iI s246 77 := by rw [hs251]; rfl
                have ws251_75 : iI s251 75 = iI s246 75 := by rw [hs251]; rfl
                have ws251_79 : iI s251 79 = iI s246 79 := by rw [hs251]; rfl
                have ws251_78 : iI s251 78 = iI s246 78 := by rw [hs251]; rfl
                have ws251_87 : iI s251 87 = iI s246 87 := by rw [hs251]; rfl
                have ws251_88 : iI s251 88 = iI s246 88 := by rw [hs251]; rfl
                exact w_vret X.1 q hRt (ax_d X (show cdA 213 170 = some (.return_, 1, 0, 0, 0) from rfl)) (Nat.zero_le _) (Nat.zero_le _) ⟨_, rfl, Is251, Fs251, rfl, by first | exact ⟨oq_fe04bf4e g214 g19, oq_fac99100 ws251_77 hps246.1 hps237.2.1 ws236_77 hps211.1 ws206_77 ws15_77 ws11_77 hps8.1, oq_3fd14443 g214 g19, oq_3e825001 g214 g19, oq_ed925733 ws251_87 vs251 ws246_87 ws246_86 ws237_87 ws237_86 ws236_87 ws236_86 ws211_87 ws211_86 ws206_87 ws206_86 ws15_87 ws15_86 ws11_87 ws11_86 ws8_87 ws8_86 p3⟩ | omega⟩
          ·
            exact w_vret X.1 q hRt (ax_d X (show cdA 213 94 = some (.return_, 1, 0, 0, 0) from rfl)) (Nat.zero_le _) (Nat.zero_le _) ⟨_, rfl, Is206, Gs206, rfl, by first | exact ⟨oq_d0299403 ws206_78 ws15_78 ws11_78 ws8_78 p1 b4.1, oq_3b5dd946 ws206_77 hps8.1 ws11_77 ws15_77, oq_03163c14 ws206_77 ws15_77 ws11_77 hps8.2.1 b2.2 p2, oq_f7664523 g210 b209.1, oq_969cff60 ws206_87 ws206_86 ws15_87 ws15_86 ws11_87 ws11_86 ws8_87 ws8_86 p3⟩ | omega⟩
    refine z_icmp_ne X (t := 47) (show cdA 213 40 = some (.if_icmp .ne 7, 3, 1, 0, 0) from rfl) (by decide) hrs8 hrs15 (fun g252 => ?_) (fun g252 => ?_)
    ·
      refine z_const X (show cdA 213 47 = some (.iconst 0, 1, 0, 0, 0) from rfl) ?_
      exact N17 _ (Or.inl ⟨g252, rfl⟩)
    ·
      refine z_const X (show cdA 213 43 = some (.iconst 1, 1, 0, 0, 0) from rfl) ?_
      refine z_goto X (t := 48) (show cdA 213 44 = some (.goto 4, 3, 0, 0, 0) from rfl) (by decide) ?_
      exact N17 _ (Or.inr (⟨g252, rfl⟩))
  refine z_icmp_ne X (t := 24) (show cdA 213 17 = some (.if_icmp .ne 7, 3, 1, 0, 0) from rfl) (by decide) hrs8 hrs11 (fun g253 => ?_) (fun g253 => ?_)
  ·
    refine z_const X (show cdA 213 24 = some (.iconst 0, 1, 0, 0, 0) from rfl) ?_
    exact N13 _ (Or.inl ⟨g253, rfl⟩)
  ·
    refine z_const X (show cdA 213 20 = some (.iconst 1, 1, 0, 0, 0) from rfl) ?_
    refine z_goto X (t := 25) (show cdA 213 21 = some (.goto 4, 3, 0, 0, 0) from rfl) (by decide) ?_
    exact N13 _ (Or.inr (⟨g253, rfl⟩))
theorem k_rules (G : GX l s0 D tys a0 dT) (I : Bd s) {x : Int} (p0 : rng x) : CT l s0 D A dT 214 (rmN 214) [.ref (A 179), .int (Int32.ofInt x)] s (fun o t => Bd t ∧ Fm [73, 74, 76, 82, 83, 84, 85, 77, 75, 78, 79, 80, 81, 86, 87, 88] [160, 159, 158] s t ∧ ∃ e, o = .inl (some (.int (Int32.ofInt e))) ∧ rng e ∧ ((0 ≤ x ∧ x ≤ iI s 74 ∧ iI t 74 = 0) ∨ ((x < 0 ∨ iI s 74 < x) ∧ iI t 74 = iI s 74))) := by
  refine ct_of G (by decide) (Nat.le_of_ble_eq_true rfl) (fun k X E hRt hXt q => ?_)
  show WS k 0 [(0, .ref (A 179)), (1, .int (Int32.ofInt x))] [] _ 0 0
  have F : Fm [73, 74, 76, 82, 83, 84, 85, 77, 75, 78, 79, 80, 81, 86, 87, 88] [160, 159, 158] s s := fm_rf _ _ s
  have b1 : (0 : Int) ≤ iI s 73 ∧ iI s 73 ≤ 3 := I.1 73
  have b2 : (0 : Int) ≤ iI s 74 ∧ iI s 74 ≤ 200 := I.1 74
  have b3 : (0 : Int) ≤ iI s 77 ∧ iI s 77 ≤ 400 := I.1 77
  have b4 : (0 : Int) ≤ iI s 75 ∧ iI s 75 ≤ 200 := I.1 75
  have b5 : (0 : Int) ≤ iI s 79 ∧ iI s 79 ≤ 9 := I.1 79
  have b6 : (0 : Int) ≤ iI s 78 ∧ iI s 78 ≤ 8 := I.1 78
  have b7 : (0 : Int) ≤ iI s 86 ∧ iI s 86 ≤ 8 := I.1 86
  have b8 : (0 : Int) ≤ iI s 87 ∧ iI s 87 ≤ 8 := I.1 87
  have b9 : ((-1) : Int) ≤ iI s 88 ∧ iI s 88 ≤ 200 := I.1 88
  have L61 : ∀ (n : Nat) (t : PS) (xv : Int), Bd t → Fm [73, 74, 76, 82, 83, 84, 85, 77, 75, 78, 79, 80, 81, 86, 87, 88] [160, 159, 158] s t → (xv = x ∧ (0 ≤ x ∧ x ≤ iI s 74) ∧ iI t 74 = 0 ∧ iI t 75 = x ∧ iI t 78 = 0 ∧ iI t 77 ≤ 203 ∧ (iI t 79 = 0 → iI t 77 ≤ iI t 75) ∧ iI t 87 ≤ iI t 86) → (400 - iI t 77 + (9 - iI t 79) : Int).toNat < n → (∀ (t' : PS), Bd t' → Fm [73, 74, 76, 82, 83, 84, 85, 77, 75, 78, 79, 80, 81, 86, 87, 88] [160, 159, 158] s t' → (xv = x ∧ (0 ≤ x ∧ x ≤ iI s 74) ∧ iI t' 74 = 0 ∧ iI t' 75 = x ∧ iI t' 78 = 0 ∧ iI t' 77 ≤ 203 ∧ (iI t' 79 = 0 → iI t' 77 ≤ iI t' 75) ∧ iI t' 87 ≤ iI t' 86) → WS k 90 [(0, .ref (A 179)), (1, .int (Int32.ofInt xv))] [] (Wd A dT t') 0 0) → WS k 61 [(0, .ref (A 179)), (1, .int (Int32.ofInt xv))] [] (Wd A dT t) 0 0 := by
    intro n
    induction n with
    | zero =>
      intro t xv I F hi hm kx
      exact absurd hm (Nat.not_lt_zero _)
    | succ n ih =>
      intro t xv I F hi hm kx
      have b1001 : (0 : Int) ≤ iI t 73 ∧ iI t 73 ≤ 3 := I.1 73
      have b1002 : (0 : Int) ≤ iI t 74 ∧ iI t 74 ≤ 200 := I.1 74
      have b1003 : (0 : Int) ≤ iI t 77 ∧ iI t 77 ≤ 400 := I.1 77
      have b1004 : (0 : Int) ≤ iI t 75 ∧ iI t 75 ≤ 200 := I.1 75
      have b1005 : (0 : Int) ≤ iI t 79 ∧ iI t 79 ≤ 9 := I.1 79
      have b1006 : (0 : Int) ≤ iI t 78 ∧ iI t 78 ≤ 8 := I.1 78
      have b1007 : (0 : Int) ≤ iI t 86 ∧ iI t 86 ≤ 8 := I.1 86
      have b1008 : (0 : Int) ≤ iI t 87 ∧ iI t 87 ≤ 8 := I.1 87
      have b1009 : ((-1) : Int) ≤ iI t 88 ∧ iI t 88 ≤ 200 := I.1 88
      refine z_aload_n X (x := A 179) (show cdA 214 61 = some (.aload_n 0, 1, 0, 0, 0) from rfl) (List.Mem.head _) ?_
      refine z_getI X 179 (show cdA 214 62 = some (.getfield 191, 3, 12, 6, 0) from rfl) (by decide) rfl rfl ?_
      have b1010 : (0 : Int) ≤ iI t 79 ∧ iI t 79 ≤ 9 := I.1 79
      refine z_if_ne X (t := 90) (show cdA 214 65 = some (.ifCond .ne 25, 3, 1, 0, 0) from rfl) (by decide) (rng_to _) (fun g1011 => ?_) (fun g1011 => ?_)
      ·
        refine WS_lv (lv := [(0, .ref (A 179)), (1, .int (Int32.ofInt xv))]) (List.forall_mem_cons.mpr ⟨(List.Mem.head _), (List.forall_mem_cons.mpr ⟨(List.Mem.tail _ (List.Mem.head _)), (fun q h => absurd h List.not_mem_nil)⟩)⟩) ?_
        exact kx _  I F (by first | exact ⟨hi.1, And.intro (hi.2.1.1) (hi.2.1.2), hi.2.2.1, hi.2.2.2.1, hi.2.2.2.2.1, hi.2.2.2.2.2.1, hi.2.2.2.2.2.2.1, hi.2.2.2.2.2.2.2⟩ | omega)
      ·
        refine z_aload_n X (x := A 179) (show cdA 214 68 = some (.aload_n 0, 1, 0, 0, 0) from rfl) (List.Mem.head _) ?_
        refine z_getI X 179 (show cdA 214 69 = some (.getfield 184, 3, 12, 4, 0) from rfl) (by decide) rfl rfl ?_
        have b1012 : (0 : Int) ≤ iI t 77 ∧ iI t 77 ≤ 400 := I.1 77
        refine z_aload_n X (x := A 179) (show cdA 214 72 = some (.aload_n 0, 1, 0, 0, 0) from rfl) (List.Mem.head _) ?_
        refine z_getI X 179 (show cdA 214 73 = some (.getfield 178, 3, 12, 2, 0) from rfl) (by decide) rfl rfl ?_
        have b1013 : (0 : Int) ≤ iI t 75 ∧ iI t 75 ≤ 200 := I.1 75
        refine z_icmp_ge X (t := 90) (show cdA 214 76 = some (.if_icmp .ge 14, 3, 3, 0, 0) from rfl) (by decide) (rng_to _) (rng_to _) (fun g1014 => ?_) (fun g1014 => ?_)
        ·
          refine WS_lv (lv := [(0, .ref (A 179)), (1, .int (Int32.ofInt xv))]) (List.forall_mem_cons.mpr ⟨(List.Mem.head _), (List.forall_mem_cons.mpr ⟨(List.Mem.tail _ (List.Mem.head _)), (fun q h => absurd h List.not_mem_nil)⟩)⟩) ?_
          exact kx _  I F (by first | exact ⟨hi.1, And.intro (hi.2.1.1) (hi.2.1.2), hi.2.2.1, hi.2.2.2.1, hi.2.2.2.2.1, hi.2.2.2.2.2.1, hi.2.2.2.2.2.2.1, hi.2.2.2.2.2.2.2⟩ | omega)
        ·
          refine z_aload_n X (x := A 179) (show cdA 214 79 = some (.aload_n 0, 1, 0, 0, 0) from rfl) (List.Mem.head _) ?_
          refine z_callV X 179 (rm := rmN 213) (As := []) (st := []) (show cdA 214 80 = some (.invokevirtual 291, 3, 213, 0, 0) from rfl) rfl (by decide) rfl (by rw [E.1, E.2.1, E.2.2.1]; exact k_clause G I (by first | exact g1011 | omega) (by first | exact hi.2.2.2.2.1 | omega) (by first | exact oq_161a6600 g1014 | omega) (by first | exact hi.2.2.2.2.2.2.2 | omega)) ⟨by rw [E.2.2.2]; exact (show (rmN 213).frames + 1 ≤ (rmN 214).frames by decide), by rw [E.2.2.2]; exact (show 8 + (mNL (miB 213) + 11) + (rmN 213).locals ≤ (rmN 214).locals by decide), by rw [E.2.2.2]; exact (show 0 + (rmN 213).cells ≤ (rmN 214).cells by decide), by rw [E.2.2.2]; exact (show 0 + (rmN 213).slots ≤ (rmN 214).slots by decide)⟩ (Nat.le_of_ble_eq_true rfl) (fun vv s1015 hq => ?_) (fun ee s1015 hq => ?_)
          rotate_left
          · obtain ⟨Is1015, Fs1015, hv, hps1015⟩ := hq; cases hv
          obtain ⟨Is1015, Fs1015, hv, hps1015⟩ := hq
          cases hv
          have Gs1015 := fm_ts F Fs1015 (by decide) (by decide)
          have ws1015_73 : iI s1015 73 = iI t 73 := fm_i Fs1015 (by decide)
          have ws1015_74 : iI s1015 74 = iI t 74 := fm_i Fs1015 (by decide)
          have b1017 : (0 : Int) ≤ iI s1015 77 ∧ iI s1015 77 ≤ 400 := Is1015.1 77
          have ws1015_75 : iI s1015 75 = iI t 75 := fm_i Fs1015 (by decide)
          have b1018 : (0 : Int) ≤ iI s1015 79 ∧ iI s1015 79 ≤ 9 := Is1015.1 79
          have b1019 : (0 : Int) ≤ iI s1015 78 ∧ iI s1015 78 ≤ 8 := Is1015.1 78
          have b1020 : (0 : Int) ≤ iI s1015 86 ∧ iI s1015 86 ≤ 8 := Is1015.1 86
          have b1021 : (0 : Int) ≤ iI s1015 87 ∧ iI s1015 87 ≤ 8 := Is1015.1 87
          have b1022 : ((-1) : Int) ≤ iI s1015 88 ∧ iI s1015 88 ≤ 200 := Is1015.1 88
          show WS k 83 [(0, .ref (A 179)), (1, .int (Int32.ofInt xv))] [] (Wd A dT s1015) 0 0
          refine z_aload_n X (x := A 179) (show cdA 214 83 = some (.aload_n 0, 1, 0, 0, 0) from rfl) (List.Mem.head _) ?_
          refine z_callV X 179 (rm := rmN 193) (As := []) (st := []) (show cdA 214 84 = some (.invokevirtual 197, 3, 193, 0, 0) from rfl) rfl (by decide) rfl (by rw [E.1, E.2.1, E.2.2.1]; exact k_blanks G Is1015 (by first | exact oq_2ebc9f52 hps1015.2.2.1 | omega)) ⟨by rw [E.2.2.2]; exact (show (rmN 193).frames + 1 ≤ (rmN 214).frames by decide), by rw [E.2.2.2]; exact (show 8 + (mNL (miB 193) + 11) + (rmN 193).locals ≤ (rmN 214).locals by decide), by rw [E.2.2.2]; exact (show 0 + (rmN 193).cells ≤ (rmN 214).cells by decide), by rw [E.2.2.2]; exact (show 0 + (rmN 193).slots ≤ (rmN 214).slots by decide)⟩ (Nat.le_of_ble_eq_true rfl) (fun vv s1023 hq => ?_) (fun ee s1023 hq => ?_)
          rotate_left
          · obtain ⟨Is1023, Fs1023, hv, hps1023⟩ := hq; cases hv
          obtain ⟨Is1023, Fs1023, hv, hps1023⟩ := hq
          cases hv
          have Gs1023 := fm_ts Gs1015 Fs1023 (by decide) (by decide)
          have ws1023_73 : iI s1023 73 = iI s1015 73 := fm_i Fs1023 (by decide)
          have ws1023_74 : iI s1023 74 = iI s1015 74 := fm_i Fs1023 (by decide)
          have b1025 : (0 : Int) ≤ iI s1023 77 ∧ iI s1023 77 ≤ 400 := Is1023.1 77
          have ws1023_75 : iI s1023 75 = iI s1015 75 := fm_i Fs1023 (by decide)
          have ws1023_79 : iI s1023 79 = iI s1015 79 := fm_i Fs1023 (by decide)
          have ws1023_78 : iI s1023 78 = iI s1015 78 := fm_i Fs1023 (by decide)
          have ws1023_86 : iI s1023 86 = iI s1015 86 := fm_i Fs1023 (by decide)
          have ws1023_87 : iI s1023 87 = iI s1015 87 := fm_i Fs1023 (by decide)
          have ws1023_88 : iI s1023 88 = iI s1015 88 := fm_i Fs1023 (by decide)
          show WS k 87 [(0, .ref (A 179)), (1, .int (Int32.ofInt xv))] [] (Wd A dT s1023) 0 0
          refine z_goto X (t := 61) (show cdA 214 87 = some (.goto (-26), 3, 0, 0, 0) from rfl) (by decide) ?_
          refine WS_lv (lv := [(0, .ref (A 179)), (1, .int (Int32.ofInt xv))]) (List.forall_mem_cons.mpr ⟨(List.Mem.head _), (List.forall_mem_cons.mpr ⟨(List.Mem.tail _ (List.Mem.head _)), (fun q h => absurd h List.not_mem_nil)⟩)⟩) ?_
          exact ih _ xv Is1023 Gs1023 (by first | exact ⟨hi.1, And.intro (hi.2.1.1) (hi.2.1.2), oq_7fe879e0 ws1023_74 ws1015_74 hi.2.2.1 b1002.1, oq_878618b1 ws1023_75 ws1015_75 hi.2.2.2.1, oq_333640b7 ws1023_78 hps1015.1 b1019.1, oq_208ad85f hps1023.2 ws1015_75 hps1015.2.2.1 b1013.2, oq_722b4cb2 ws1023_79 ws1023_75 hps1023.2 b1018.1 ws1015_75 hps1015.2.2.2.1, oq_e7b9ecab ws1023_86 ws1023_87 hps1015.2.2.2.2⟩ | omega) (by first | exact qk_me hm (oq_5b7b6df3 ws1023_79 hps1023.1 b1018.1 hps1015.2.2.2.1 hps1015.2.1 g1011) (oq_faaf1092 g1011 b1012.2) | omega) kx
  have L115 : ∀ (n : Nat) (t : PS) (xv c : Int), Bd t → Fm [73, 74, 76, 82, 83, 84, 85, 77, 75, 78, 79, 80, 81, 86, 87, 88] [160, 159, 158] s t → (xv = x ∧ (0 ≤ x ∧ x ≤ iI s 74) ∧ iI t 74 = 0 ∧ 0 ≤ c ∧ c ≤ 200 ∧ iI t 87 ≤ iI t 86 ∧ iI t 75 ≤ 200) → (200 - c : Int).toNat < n → (∀ (t' : PS) (c' : Int), Bd t' → Fm [73, 74, 76, 82, 83, 84, 85, 77, 75, 78, 79, 80, 81, 86, 87, 88] [160, 159, 158] s t' → (xv = x ∧ (0 ≤ x ∧ x ≤ iI s 74) ∧ iI t' 74 = 0 ∧ 0 ≤ c' ∧ c' ≤ 200 ∧ iI t' 87 ≤ iI t' 86 ∧ iI t' 75 ≤ 200) → WS k 138 [(0, .ref (A 179)), (1, .int (Int32.ofInt xv)), (2, .int (Int32.ofInt c'))] [] (Wd A dT t') 0 0) → WS k 115 [(0, .ref (A 179)), (1, .int (Int32.ofInt xv)), (2, .int (Int32.ofInt c))] [] (Wd A dT t) 0 0 := by
    intro n
    induction n with
    | zero =>
      intro t xv c I F hi hm kx
      exact absurd hm (Nat.not_lt_zero _)
    | succ n ih =>
      intro t xv c I F hi hm kx
      have b2001 : (0 : Int) ≤ iI t 73 ∧ iI t 73 ≤ 3 := I.1 73
      have b2002 : (0 : Int) ≤ iI t 74 ∧ iI t 74 ≤ 200 := I.1 74
      have b2003 : (0 : Int) ≤ iI t 77 ∧ iI t 77 ≤ 400 := I.1 77
      have b2004 : (0 : Int) ≤ iI t 75 ∧ iI t 75 ≤ 200 := I.1 75
      have b2005 : (0 : Int) ≤ iI t 79 ∧ iI t 79 ≤ 9 := I.1 79
      have b2006 : (0 : Int) ≤ iI t 78 ∧ iI t 78 ≤ 8 := I.1 78
      have b2007 : (0 : Int) ≤ iI t 86 ∧ iI t 86 ≤ 8 := I.1 86
      have b2008 : (0 : Int) ≤ iI t 87 ∧ iI t 87 ≤ 8 := I.1 87
      have b2009 : ((-1) : Int) ≤ iI t 88 ∧ iI t 88 ≤ 200 := I.1 88
      refine z_load_n X (x := c) (show cdA 214 115 = some (.iload_n 2, 1, 0, 0, 0) from rfl) (List.Mem.tail _ (List.Mem.tail _ (List.Mem.head _))) ?_
      refine z_load_n X (x := xv) (show cdA 214 116 = some (.iload_n 1, 1, 0, 0, 0) from rfl) (List.Mem.tail _ (List.Mem.head _)) ?_
      refine z_icmp_ge X (t := 138) (show cdA 214 117 = some (.if_icmp .ge 21, 3, 3, 0, 0) from rfl) (by decide) ⟨by first | exact oq_fa4e5087 hi.2.2.2.1 | omega, by first | exact oq_52af2b96 hi.2.2.2.2.1 | omega⟩ ⟨by first | exact oq_b3df2c6f hi.1 hi.2.1.1 | omega, by first | exact oq_60a194f9 hi.1 p0.2 | omega⟩ (fun g2010 => ?_) (fun g2010 => ?_)
      ·
        refine WS_lv (lv := [(0, .ref (A 179)), (1, .int (Int32.ofInt xv)), (2, .int (Int32.ofInt c))]) (List.forall_mem_cons.mpr ⟨(List.Mem.head _), (List.forall_mem_cons.mpr ⟨(List.Mem.tail _ (List.Mem.head _)), (List.forall_mem_cons.mpr ⟨(List.Mem.tail _ (List.Mem.tail _ (List.Mem.head _))), (fun q h => absurd h List.not_mem_nil)⟩)⟩)⟩) ?_
        exact kx _ c I F (by first | exact ⟨hi.1, And.intro (hi.2.1.1) (hi.2.1.2), hi.2.2.1, hi.2.2.2.1, hi.2.2.2.2.1, hi.2.2.2.2.2.1, b2004.2⟩ | omega)
      ·
        refine z_aload_n X (x := A 179) (show cdA 214 120 = some (.aload_n 0, 1, 0, 0, 0) from rfl) (List.Mem.head _) ?_
        refine s_getR X 179 (show cdA 214 121 = some (.getfield 17, 3, 12, 10, 0) from rfl) (by decide) rfl rfl ?_
        refine z_load_n X (x := c) (show cdA 214 124 = some (.iload_n 2, 1, 0, 0, 0) from rfl) (List.Mem.tail _ (List.Mem.tail _ (List.Mem.head _))) ?_
        refine z_aload_n X (x := A 179) (show cdA 214 125 = some (.aload_n 0, 1, 0, 0, 0) from rfl) (List.Mem.head _) ?_
        refine s_getR X 179 (show cdA 214 126 = some (.getfield 13, 3, 12, 9, 0) from rfl) (by decide) rfl rfl ?_
        refine z_load_n X (x := c) (show cdA 214 129 = some (.iload_n 2, 1, 0, 0, 0) from rfl) (List.Mem.tail _ (List.Mem.tail _ (List.Mem.head _))) ?_
        refine z_ald X 180 (show cdA 214 130 = some (.iaload, 1, 0, 0, 0) from rfl) (by decide) rfl (by first | exact hi.2.2.2.1 | omega) (show c < 200 by first | exact oq_aa587420 g2010 hi.1 hi.2.1.2 b2.2 | omega) (by decide) ?_
        have b2011 : (0 : Int) ≤ iC t 157 (c).toNat ∧ iC t 157 (c).toNat ≤ 255 := I.2 157 _ (show (c).toNat < 200 by first | exact oq_379144f0 g2010 hi.1 hi.2.1.2 b2.2 | omega)
        refine z_ast X 181 (show cdA 214 131 = some (.iastore, 1, 0, 0, 0) from rfl) (by decide) rfl (by first | exact hi.2.2.2.1 | omega) (show c < 200 by first | exact oq_aa587420 g2010 hi.1 hi.2.1.2 b2.2 | omega) (by decide) ?_
        obtain ⟨s2012, hs2012⟩ : ∃ x0, x0 = uC t 158 (c).toNat (Int32.ofInt (iC t 157 (c).toNat)) := ⟨_, rfl⟩
        rw [← hs2012]
        have Is2012 : Bd s2012 := by rw [hs2012]; exact bd_C I (show (0 : Int) ≤ (iC t 157 (c).toNat) ∧ (iC t 157 (c).toNat) ≤ 255 by first | exact ⟨b2011.1, b2011.2⟩ | omega) (rng_to _)
        have Fs2012 := fm_C (i := (c).toNat) (x := Int32.ofInt (iC t 157 (c).toNat)) F (show 158 ∈ _ by decide)
        rw [← hs2012] at Fs2012
        have ws2012_73 : iI s2012 73 = iI t 73 := by rw [hs2012]; rfl
        have ws2012_74 : iI s2012 74 = iI t 74 := by rw [hs2012]; rfl
        have ws2012_77 : iI s2012 77 = iI t 77 := by rw [hs2012]; rfl
        have ws2012_75 : iI s2012 75 = iI t 75 := by rw [hs2012]; rfl
        have ws2012_79 : iI s2012 79 = iI t 79 := by rw [hs2012]; rfl
        have ws2012_78 : iI s2012 78 = iI t 78 := by rw [hs2012]; rfl
        have ws2012_86 : iI s2012 86 = iI t 86 := by rw [hs2012]; rfl
        have ws2012_87 : iI s2012 87 = iI t 87 := by rw [hs2012]; rfl
        have ws2012_88 : iI s2012 88 = iI t 88 := by rw [hs2012]; rfl
        refine z_inc X (x := c) (lv' := [(2, .int (Int32.ofInt (c + 1))), (0, .ref (A 179)), (1, .int (Int32.ofInt xv))]) (show cdA 214 132 = some (.iinc 2 1, 3, 0, 0, 0) from rfl) (by decide) (List.Mem.tail _ (List.Mem.tail _ (List.Mem.head _))) (fun _ h => h) ?_
        refine z_goto X (t := 115) (show cdA 214 135 = some (.goto (-20), 3, 0, 0, 0) from rfl) (by decide) ?_
        refine WS_lv (lv := [(0, .ref (A 179)), (1, .int (Int32.ofInt xv)), (2, .int (Int32.ofInt (c + 1)))]) (List.forall_mem_cons.mpr ⟨(List.Mem.tail _ (List.Mem.head _)), (List.forall_mem_cons.mpr ⟨(List.Mem.tail _ (List.Mem.tail _ (List.Mem.head _))), (List.forall_mem_cons.mpr ⟨(List.Mem.head _), (fun q h => absurd h List.not_mem_nil)⟩)⟩)⟩) ?_
        exact ih _ xv (c + 1) Is2012 Fs2012 (by first | exact ⟨hi.1, And.intro (hi.2.1.1) (hi.2.1.2), oq_333640b7 ws2012_74 hi.2.2.1 b2002.1, oq_54f49eb5 hi.2.2.2.1, oq_ab052403 g2010 hi.1 hi.2.1.2 b2.2, oq_e7b9ecab ws2012_86 ws2012_87 hi.2.2.2.2.2.1, oq_b1fe1193 ws2012_75 b2004.2⟩ | omega) (by first | exact qk_me hm (by decide) (oq_6d25f473 g2010 hi.1 hi.2.1.2 b2.2) | omega) kx
  have L169 : ∀ (n : Nat) (t : PS) (xv c : Int), Bd t → Fm [73, 74, 76, 82, 83, 84, 85, 77, 75, 78, 79, 80, 81, 86, 87, 88] [160, 159, 158] s t → (xv = x ∧ (0 ≤ x ∧ x ≤ iI s 74) ∧ iI t 74 = 0 ∧ 0 ≤ c ∧ c ≤ 8) → (8 - c : Int).toNat < n → (∀ (t' : PS) (c' : Int), Bd t' → Fm [73, 74, 76, 82, 83, 84, 85, 77, 75, 78, 79, 80, 81, 86, 87, 88] [160, 159, 158] s t' → (xv = x ∧ (0 ≤ x ∧ x ≤ iI s 74) ∧ iI t' 74 = 0 ∧ 0 ≤ c' ∧ c' ≤ 8) → WS k 195 [(0, .ref (A 179)), (1, .int (Int32.ofInt xv)), (2, .int (Int32.ofInt c'))] [] (Wd A dT t') 0 0) → WS k 169 [(0, .ref (A 179)), (1, .int (Int32.ofInt xv)), (2, .int (Int32.ofInt c))] [] (Wd A dT t) 0 0 := by
    intro n
    induction n with
    | zero =>
      intro t xv c I F hi hm kx
      exact absurd hm (Nat.not_lt_zero _)
    | succ n ih =>
      intro t xv c I F hi hm kx
      have b3001 : (0 : Int) ≤ iI t 73 ∧ iI t 73 ≤ 3 := I.1 73
      have b3002 : (0 : Int) ≤ iI t 74 ∧ iI t 74 ≤ 200 := I.1 74
      have b3003 : (0 : Int) ≤ iI t 77 ∧ iI t 77 ≤ 400 := I.1 77
      have b3004 : (0 : Int) ≤ iI t 75 ∧ iI t 75 ≤ 200 := I.1 75
      have b3005 : (0 : Int) ≤ iI t 79 ∧ iI t 79 ≤ 9 := I.1 79
      have b3006 : (0 : Int) ≤ iI t 78 ∧ iI t 78 ≤ 8 := I.1 78
      have b3007 : (0 : Int) ≤ iI t 86 ∧ iI t 86 ≤ 8 := I.1 86
      have b3008 : (0 : Int) ≤ iI t 87 ∧ iI t 87 ≤ 8 := I.1 87
      have b3009 : ((-1) : Int) ≤ iI t 88 ∧ iI t 88 ≤ 200 := I.1 88
      refine z_load_n X (x := c) (show cdA 214 169 = some (.iload_n 2, 1, 0, 0, 0) from rfl) (List.Mem.tail _ (List.Mem.tail _ (List.Mem.head _))) ?_
      refine z_aload_n X (x := A 179) (show cdA 214 170 = some (.aload_n 0, 1, 0, 0, 0) from rfl) (List.Mem.head _) ?_
      refine z_getI X 179 (show cdA 214 171 = some (.getfield 300, 3, 12, 13, 0) from rfl) (by decide) rfl rfl ?_
      have b3010 : (0 : Int) ≤ iI t 84 ∧ iI t 84 ≤ 8 := I.1 84
      refine z_icmp_ge X (t := 195) (show cdA 214 174 = some (.if_icmp .ge 21, 3, 3, 0, 0) from rfl) (by decide) ⟨by first | exact oq_fa4e5087 hi.2.2.2.1 | omega, by first | exact oq_d3f5d874 hi.2.2.2.2 | omega⟩ (rng_to _) (fun g3011 => ?_) (fun g3011 => ?_)
      ·
        refine WS_lv (lv := [(0, .ref (A 179)), (1, .int (Int32.ofInt xv)), (2, .int (Int32.ofInt c))]) (List.forall_mem_cons.mpr ⟨(List.Mem.head _), (List.forall_mem_cons.mpr ⟨(List.Mem.tail _ (List.Mem.head _)), (List.forall_mem_cons.mpr ⟨(List.Mem.tail _ (List.Mem.tail _ (List.Mem.head _))), (fun q h => absurd h List.not_mem_nil)⟩)⟩)⟩) ?_
        exact kx _ c I F (by first | exact ⟨hi.1, And.intro (hi.2.1.1) (hi.2.1.2), hi.2.2.1, hi.2.2.2.1, hi.2.2.2.2⟩ | omega)
      ·
        refine z_aload_n X (x := A 179) (show cdA 214 177 = some (.aload_n 0, 1, 0, 0, 0) from rfl) (List.Mem.head _) ?_
        refine s_getR X 179 (show cdA 214 178 = some (.getfield 23, 3, 12, 15, 0) from rfl) (by decide) rfl rfl ?_
        refine z_load_n X (x := c) (show cdA 214 181 = some (.iload_n 2, 1, 0, 0, 0) from rfl) (List.Mem.tail _ (List.Mem.tail _ (List.Mem.head _))) ?_
        refine z_aload_n X (x := A 179) (show cdA 214 182 = some (.aload_n 0, 1, 0, 0, 0) from rfl) (List.Mem.head _) ?_
        refine s_getR X 179 (show cdA 214 183 = some (.getfield 29, 3, 12, 20, 0) from rfl) (by decide) rfl rfl ?_
        refine z_load_n X (x := c) (show cdA 214 186 = some (.iload_n 2, 1, 0, 0, 0) from rfl) (List.Mem.tail _ (List.Mem.tail _ (List.Mem.head _))) ?_
        refine z_ald X 183 (show cdA 214 187 = some (.iaload, 1, 0, 0, 0) from rfl) (by decide) rfl (by first | exact hi.2.2.2.1 | omega) (show c < 8 by first | exact oq_7f5b2e79 g3011 b3010.2 | omega) (by decide) ?_
        have b3012 : (0 : Int) ≤ iC t 160 (c).toNat ∧ iC t 160 (c).toNat ≤ 200 := I.2 160 _ (show (c).toNat < 8 by first | exact oq_67be0351 g3011 b3010.2 | omega)
        refine z_ast X 182 (show cdA 214 188 = some (.iastore, 1, 0, 0, 0) from rfl) (by decide) rfl (by first | exact hi.2.2.2.1 | omega) (show c < 8 by first | exact oq_7f5b2e79 g3011 b3010.2 | omega) (by decide) ?_
        obtain ⟨s3013, hs3013⟩ : ∃ x0, x0 = uC t 159 (c).toNat (Int32.ofInt (iC t 160 (c).toNat)) := ⟨_, rfl⟩
        rw [← hs3013]
        have Is3013 : Bd s3013 := by rw [hs3013]; exact bd_C I (show (0 : Int) ≤ (iC t 160 (c).toNat) ∧ (iC t 160 (c).toNat) ≤ 200 by first | exact ⟨b3012.1, b3012.2⟩ | omega) (rng_to _)
        have Fs3013 := fm_C (i := (c).toNat) (x := Int32.ofInt (iC t 160 (c).toNat)) F (show 159 ∈ _ by decide)
        rw [← hs3013] at Fs3013
        have ws3013_73 : iI s3013 73 = iI t 73 := by rw [hs3013]; rfl
        have ws3013_74 : iI s3013 74 = iI t 74 := by rw [hs3013]; rfl
        have ws3013_77 : iI s3013 77 = iI t 77 := by rw [hs3013]; rfl
        have ws3013_75 : iI s3013 75 = iI t 75 := by rw [hs3013]; rfl
        have ws3013_79 : iI s3013 79 = iI t 79 := by rw [hs3013]; rfl
        have ws3013_78 : iI s3013 78 = iI t 78 := by rw [hs3013]; rfl
        have ws3013_86 : iI s3013 86 = iI t 86 := by rw [hs3013]; rfl
        have ws3013_87 : iI s3013 87 = iI t 87 := by rw [hs3013]; rfl
        have ws3013_88 : iI s3013 88 = iI t 88 := by rw [hs3013]; rfl
        refine z_inc X (x := c) (lv' := [(2, .int (Int32.ofInt (c + 1))), (0, .ref (A 179)), (1, .int (Int32.ofInt xv))]) (show cdA 214 189 = some (.iinc 2 1, 3, 0, 0, 0) from rfl) (by decide) (List.Mem.tail _ (List.Mem.tail _ (List.Mem.head _))) (fun _ h => h) ?_
        refine z_goto X (t := 169) (show cdA 214 192 = some (.goto (-23), 3, 0, 0, 0) from rfl) (by decide) ?_
        refine WS_lv (lv := [(0, .ref (A 179)), (1, .int (Int32.ofInt xv)), (2, .int (Int32.ofInt (c + 1)))]) (List.forall_mem_cons.mpr ⟨(List.Mem.tail _ (List.Mem.head _)), (List.forall_mem_cons.mpr ⟨(List.Mem.tail _ (List.Mem.tail _ (List.Mem.head _))), (List.forall_mem_cons.mpr ⟨(List.Mem.head _), (fun q h => absurd h List.not_mem_nil)⟩)⟩)⟩) ?_
        exact ih _ xv (c + 1) Is3013 Fs3013 (by first | exact ⟨hi.1, And.intro (hi.2.1.1) (hi.2.1.2), oq_333640b7 ws3013_74 hi.2.2.1 b3002.1, oq_54f49eb5 hi.2.2.2.1, oq_f6204d84 g3011 b3010.2⟩ | omega) (by first | exact qk_me hm (by decide) (oq_ccc5e5e0 g3011 b3010.2) | omega) kx
  refine z_aload_n X (x := A 179) (show cdA 214 0 = some (.aload_n 0, 1, 0, 0, 0) from rfl) (List.Mem.head _) ?_
  refine z_const X (show cdA 214 1 = some (.iconst 0, 1, 0, 0, 0) from rfl) ?_
  refine s_putI X 179 (show cdA 214 2 = some (.putfield 172, 3, 12, 0, 0) from rfl) (by decide) rfl rfl (by decide) rfl rfl rfl ?_
  obtain ⟨s10, hs10⟩ : ∃ x0, x0 = uI s 73 (Int32.ofInt 0) := ⟨_, rfl⟩
  rw [← hs10]
  have Is10 : Bd s10 := by rw [hs10]; exact bd_I I (show (0 : Int) ≤ 0 ∧ 0 ≤ 3 by first | exact ⟨by decide, by decide⟩ | omega) (by decide)
  have Fs10 := fm_I (x := Int32.ofInt 0) F (show 73 ∈ _ by decide)
  rw [← hs10] at Fs10
  have vs10 : iI s10 73 = 0 := by rw [hs10]; exact iI_u (by decide)
  have ws10_74 : iI s10 74 = iI s 74 := by rw [hs10]; rfl
  have ws10_77 : iI s10 77 = iI s 77 := by rw [hs10]; rfl
  have ws10_75 : iI s10 75 = iI s 75 := by rw [hs10]; rfl
  have ws10_79 : iI s10 79 = iI s 79 := by rw [hs10]; rfl
  have ws10_78 : iI s10 78 = iI s 78 := by rw [hs10]; rfl
  have ws10_86 : iI s10 86 = iI s 86 := by rw [hs10]; rfl
  have ws10_87 : iI s10 87 = iI s 87 := by rw [hs10]; rfl
  have ws10_88 : iI s10 88 = iI s 88 := by rw [hs10]; rfl
  refine z_aload_n X (x := A 179) (show cdA 214 5 = some (.aload_n 0, 1, 0, 0, 0) from rfl) (List.Mem.head _) ?_
  refine z_load_n X (x := x) (show cdA 214 6 = some (.iload_n 1, 1, 0, 0, 0) from rfl) (List.Mem.tail _ (List.Mem.head _)) ?_
  refine z_const X (show cdA 214 7 = some (.iconst 0, 1, 0, 0, 0) from rfl) ?_
  refine z_aload_n X (x := A 179) (show cdA 214 8 = some (.aload_n 0, 1, 0, 0, 0) from rfl) (List.Mem.head _) ?_
  refine z_getI X 179 (show cdA 214 9 = some (.getfield 175, 3, 12, 1, 0) from rfl) (by decide) rfl rfl ?_
  have b11 : (0 : Int) ≤ iI s10 74 ∧ iI s10 74 ≤ 200 := Is10.1 74
  refine z_callS X (rm := rmN 188) (As := [.int (Int32.ofInt x), .int (Int32.ofInt 0), .int (Int32.ofInt (iI s10 74))]) (st := [.ref (A 179)]) (show cdA 214 12 = some (.invokestatic 209, 3, 188, 1, 0) from rfl) rfl (by rw [E.1, E.2.1, E.2.2.1]; exact k_in G Is10 (by first | exact ⟨p0.1, p0.2⟩ | omega) (by first | exact ⟨by decide, by decide⟩ | omega) (by first | exact ⟨oq_fa4e5087 b11.1, oq_52af2b96 b11.2⟩ | omega)) ⟨by rw [E.2.2.2]; exact (show (rmN 188).frames + 1 ≤ (rmN 214).frames by decide), by rw [E.2.2.2]; exact (show 8 + (mNL (miB 188) + 11) + (rmN 188).locals ≤ (rmN 214).locals by decide), by rw [E.2.2.2]; exact (show 0 + (rmN 188).cells ≤ (rmN 214).cells by decide), by rw [E.2.2.2]; exact (show 0 + (rmN 188).slots ≤ (rmN 214).slots by decide)⟩ (Nat.le_of_ble_eq_true rfl) (fun vv s12 hq => ?_) (fun ee s12 hq => ?_)
  rotate_left
  · obtain ⟨Is12, Fs12, e13, hv, hrs12, hps12⟩ := hq; cases hv
  obtain ⟨Is12, Fs12, e13, hv, hrs12, hps12⟩ := hq
  cases hv
  have Gs12 := fm_ts Fs10 Fs12 (by decide) (by decide)
  have ws12_73 : iI s12 73 = iI s10 73 := fm_i Fs12 (by decide)
  have ws12_74 : iI s12 74 = iI s10 74 := fm_i Fs12 (by decide)
  have ws12_77 : iI s12 77 = iI s10 77 := fm_i Fs12 (by decide)
  have ws12_75 : iI s12 75 = iI s10 75 := fm_i Fs12 (by decide)
  have ws12_79 : iI s12 79 = iI s10 79 := fm_i Fs12 (by decide)
  have ws12_78 : iI s12 78 = iI s10 78 := fm_i Fs12 (by decide)
  have ws12_86 : iI s12 86 = iI s10 86 := fm_i Fs12 (by decide)
  have ws12_87 : iI s12 87 = iI s10 87 := fm_i Fs12 (by decide)
  have ws12_88 : iI s12 88 = iI s10 88 := fm_i Fs12 (by decide)
  show WS k 15 [(0, .ref (A 179)), (1, .int (Int32.ofInt x))] [.int (Int32.ofInt e13), .ref (A 179)] (Wd A dT s12) 0 0
  have N14 : ∀ e15 : Int, (((e13 ≠ 0) ∧ e15 = 0) ∨ ((e13 = 0) ∧ e15 = 1)) → WS k 23 [(0, .ref (A 179)), (1, .int (Int32.ofInt x))] [.int (Int32.ofInt e15), .ref (A 179)] (Wd A dT s12) 0 0 := by
    intro e15 he15
    have re15 : 0 ≤ e15 ∧ e15 ≤ 1 := by omega
    refine z_const X (show cdA 214 23 = some (.iconst 1, 1, 0, 0, 0) from rfl) ?_
    refine z_callV X 179 (rm := rmN 187) (As := [.int (Int32.ofInt e15), .int (Int32.ofInt 1)]) (st := []) (show cdA 214 24 = some (.invokevirtual 229, 3, 187, 0, 0) from rfl) rfl (by decide) rfl (by rw [E.1, E.2.1, E.2.2.1]; exact k_bad G Is12 (by first | exact oq_31e518ae re15.2 re15.1 | omega) (by first | exact ⟨by decide, by decide⟩ | omega)) ⟨by rw [E.2.2.2]; exact (show (rmN 187).frames + 1 ≤ (rmN 214).frames by decide), by rw [E.2.2.2]; exact (show 8 + (mNL (miB 187) + 11) + (rmN 187).locals ≤ (rmN 214).locals by decide), by rw [E.2.2.2]; exact (show 0 + (rmN 187).cells ≤ (rmN 214).cells by decide), by rw [E.2.2.2]; exact (show 0 + (rmN 187).slots ≤ (rmN 214).slots by decide)⟩ (Nat.le_of_ble_eq_true rfl) (fun vv s16 hq => ?_) (fun ee s16 hq => ?_)
    rotate_left
    · obtain ⟨Is16, Fs16, e17, hv, hrs16, hps16⟩ := hq; cases hv
    obtain ⟨Is16, Fs16, e17, hv, hrs16, hps16⟩ := hq
    cases hv
    have Gs16 := fm_ts Gs12 Fs16 (by decide) (by decide)
    have b18 : (0 : Int) ≤ iI s16 73 ∧ iI s16 73 ≤ 3 := Is16.1 73
    have ws16_74 : iI s16 74 = iI s12 74 := fm_i Fs16 (by decide)
    have ws16_77 : iI s16 77 = iI s12 77 := fm_i Fs16 (by decide)
    have ws16_75 : iI s16 75 = iI s12 75 := fm_i Fs16 (by decide)
    have ws16_79 : iI s16 79 = iI s12 79 := fm_i Fs16 (by decide)
    have ws16_78 : iI s16 78 = iI s12 78 := fm_i Fs16 (by decide)
    have ws16_86 : iI s16 86 = iI s12 86 := fm_i Fs16 (by decide)
    have ws16_87 : iI s16 87 = iI s12 87 := fm_i Fs16 (by decide)
    have ws16_88 : iI s16 88 = iI s12 88 := fm_i Fs16 (by decide)
    show WS k 27 [(0, .ref (A 179)), (1, .int (Int32.ofInt x))] [.int (Int32.ofInt e17)] (Wd A dT s16) 0 0
    refine z_if_eq X (t := 32) (show cdA 214 27 = some (.ifCond .eq 5, 3, 0, 0, 0) from rfl) (by decide) hrs16 (fun g19 => ?_) (fun g19 => ?_)
    ·
      refine z_aload_n X (x := A 179) (show cdA 214 32 = some (.aload_n 0, 1, 0, 0, 0) from rfl) (List.Mem.head _) ?_
      refine z_const X (show cdA 214 33 = some (.iconst 0, 1, 0, 0, 0) from rfl) ?_
      refine s_putI X 179 (show cdA 214 34 = some (.putfield 175, 3, 12, 1, 0) from rfl) (by decide) rfl rfl (by decide) rfl rfl rfl ?_
      obtain ⟨s20, hs20⟩ : ∃ x0, x0 = uI s16 74 (Int32.ofInt 0) := ⟨_, rfl⟩
      rw [← hs20]
      have Is20 : Bd s20 := by rw [hs20]; exact bd_I Is16 (show (0 : Int) ≤ 0 ∧ 0 ≤ 200 by first | exact ⟨by decide, by decide⟩ | omega) (by decide)
      have Fs20 := fm_I (x := Int32.ofInt 0) Gs16 (show 74 ∈ _ by decide)
      rw [← hs20] at Fs20
      have vs20 : iI s20 74 = 0 := by rw [hs20]; exact iI_u (by decide)
      have ws20_73 : iI s20 73 = iI s16 73 := by rw [hs20]; rfl
      have ws20_77 : iI s20 77 = iI s16 77 := by rw [hs20]; rfl
      have ws20_75 : iI s20 75 = iI s16 75 := by rw [hs20]; rfl
      have ws20_79 : iI s20 79 = iI s16 79 := by rw [hs20]; rfl
      have ws20_78 : iI s20 78 = iI s16 78 := by rw [hs20]; rfl
      have ws20_86 : iI s20 86 = iI s16 86 := by rw [hs20]; rfl
      have ws20_87 : iI s20 87 = iI s16 87 := by rw [hs20]; rfl
      have ws20_88 : iI s20 88 = iI s16 88 := by rw [hs20]; rfl
      refine z_aload_n X (x := A 179) (show cdA 214 37 = some (.aload_n 0, 1, 0, 0, 0) from rfl) (List.Mem.head _) ?_
      refine z_load_n X (x := x) (show cdA 214 38 = some (.iload_n 1, 1, 0, 0, 0) from rfl) (List.Mem.tail _ (List.Mem.head _)) ?_
      refine z_callV X 179 (rm := rmN 197) (As := [.int (Int32.ofInt x)]) (st := []) (show cdA 214 39 = some (.invokevirtual 236, 3, 197, 0, 0) from rfl) rfl (by decide) rfl (by rw [E.1, E.2.1, E.2.2.1]; exact k_beginText G Is20 (by first | exact ⟨oq_802cfd8b g19 hps16.2.1 re15.2 he15 hps12, oq_1dd7f250 g19 hps16.2.1 re15.2 he15 hps12 b11.2⟩ | omega)) ⟨by rw [E.2.2.2]; exact (show (rmN 197).frames + 1 ≤ (rmN 214).frames by decide), by rw [E.2.2.2]; exact (show 8 + (mNL (miB 197) + 11) + (rmN 197).locals ≤ (rmN 214).locals by decide), by rw [E.2.2.2]; exact (show 0 + (rmN 197).cells ≤ (rmN 214).cells by decide), by rw [E.2.2.2]; exact (show 0 + (rmN 197).slots ≤ (rmN 214).slots by decide)⟩ (Nat.le_of_ble_eq_true rfl) (fun vv s21 hq => ?_) (fun ee s21 hq => ?_)
      rotate_left
      · obtain ⟨Is21, Fs21, hv, hps21⟩ := hq; cases hv
      obtain ⟨Is21, Fs21, hv, hps21⟩ := hq
      cases hv
      have Gs21 := fm_ts Fs20 Fs21 (by decide) (by decide)
      have ws21_73 : iI s21 73 = iI s20 73 := fm_i Fs21 (by decide)
      have ws21_74 : iI s21 74 = iI s20 74 := fm_i Fs21 (by decide)
      have b23 : (0 : Int) ≤ iI s21 77 ∧ iI s21 77 ≤ 400 := Is21.1 77
      have b24 : (0 : Int) ≤ iI s21 75 ∧ iI s21 75 ≤ 200 := Is21.1 75
      have b25 : (0 : Int) ≤ iI s21 79 ∧ iI s21 79 ≤ 9 := Is21.1 79
      have b26 : (0 : Int) ≤ iI s21 78 ∧ iI s21 78 ≤ 8 := Is21.1 78
      have ws21_86 : iI s21 86 = iI s20 86 := fm_i Fs21 (by decide)
      have ws21_87 : iI s21 87 = iI s20 87 := fm_i Fs21 (by decide)
      have ws21_88 : iI s21 88 = iI s20 88 := fm_i Fs21 (by decide)
      show WS k 42 [(0, .ref (A 179)), (1, .int (Int32.ofInt x))] [] (Wd A dT s21) 0 0
      refine z_aload_n X (x := A 179) (show cdA 214 42 = some (.aload_n 0, 1, 0, 0, 0) from rfl) (List.Mem.head _) ?_
      refine z_const X (show cdA 214 43 = some (.iconst 0, 1, 0, 0, 0) from rfl) ?_
      refine s_putI X 179 (show cdA 214 44 = some (.putfield 282, 3, 12, 16, 0) from rfl) (by decide) rfl rfl (by decide) rfl rfl rfl ?_
      obtain ⟨s27, hs27⟩ : ∃ x0, x0 = uI s21 86 (Int32.ofInt 0) := ⟨_, rfl⟩
      rw [← hs27]
      have Is27 : Bd s27 := by rw [hs27]; exact bd_I Is21 (show (0 : Int) ≤ 0 ∧ 0 ≤ 8 by first | exact ⟨by decide, by decide⟩ | omega) (by decide)
      have Fs27 := fm_I (x := Int32.ofInt 0) Gs21 (show 86 ∈ _ by decide)
      rw [← hs27] at Fs27
      have vs27 : iI s27 86 = 0 := by rw [hs27]; exact iI_u (by decide)
      have ws27_73 : iI s27 73 = iI s21 73 := by rw [hs27]; rfl
      have ws27_74 : iI s27 74 = iI s21 74 := by rw [hs27]; rfl
      have ws27_77 : iI s27 77 = iI s21 77 := by rw [hs27]; rfl
      have ws27_75 : iI s27 75 = iI s21 75 := by rw [hs27]; rfl
      have ws27_79 : iI s27 79 = iI s21 79 := by rw [hs27]; rfl
      have ws27_78 : iI s27 78 = iI s21 78 := by rw [hs27]; rfl
      have ws27_87 : iI s27 87 = iI s21 87 := by rw [hs27]; rfl
      have ws27_88 : iI s27 88 = iI s21 88 := by rw [hs27]; rfl
      refine z_aload_n X (x := A 179) (show cdA 214 47 = some (.aload_n 0, 1, 0, 0, 0) from rfl) (List.Mem.head _) ?_
      refine z_const X (show cdA 214 48 = some (.iconst 0, 1, 0, 0, 0) from rfl) ?_
      refine s_putI X 179 (show cdA 214 49 = some (.putfield 288, 3, 12, 17, 0) from rfl) (by decide) rfl rfl (by decide) rfl rfl rfl ?_
      obtain ⟨s28, hs28⟩ : ∃ x0, x0 = uI s27 87 (Int32.ofInt 0) := ⟨_, rfl⟩
      rw [← hs28]
      have Is28 : Bd s28 := by rw [hs28]; exact bd_I Is27 (show (0 : Int) ≤ 0 ∧ 0 ≤ 8 by first | exact ⟨by decide, by decide⟩ | omega) (by decide)
      have Fs28 := fm_I (x := Int32.ofInt 0) Fs27 (show 87 ∈ _ by decide)
      rw [← hs28] at Fs28
      have vs28 : iI s28 87 = 0 := by rw [hs28]; exact iI_u (by decide)
      have ws28_73 : iI s28 73 = iI s27 73 := by rw [hs28]; rfl
      have ws28_74 : iI s28 74 = iI s27 74 := by rw [hs28]; rfl
      have ws28_77 : iI s28 77 = iI s27 77 := by rw [hs28]; rfl
      have ws28_75 : iI s28 75 = iI s27 75 := by rw [hs28]; rfl
      have ws28_79 : iI s28 79 = iI s27 79 := by rw [hs28]; rfl
      have ws28_78 : iI s28 78 = iI s27 78 := by rw [hs28]; rfl
      have ws28_86 : iI s28 86 = iI s27 86 := by rw [hs28]; rfl
      have ws28_88 : iI s28 88 = iI s27 88 := by rw [hs28]; rfl
      refine z_aload_n X (x := A 179) (show cdA 214 52 = some (.aload_n 0, 1, 0, 0, 0) from rfl) (List.Mem.head _) ?_
      refine z_const X (show cdA 214 53 = some (.iconst (-1), 1, 0, 0, 0) from rfl) ?_
      refine s_putI X 179 (show cdA 214 54 = some (.putfield 285, 3, 12, 18, 0) from rfl) (by decide) rfl rfl (by decide) rfl rfl rfl ?_
      obtain ⟨s29, hs29⟩ : ∃ x0, x0 = uI s28 88 (Int32.ofInt (-1)) := ⟨_, rfl⟩
      rw [← hs29]
      have Is29 : Bd s29 := by rw [hs29]; exact bd_I Is28 (show ((-1) : Int) ≤ (-1) ∧ (-1) ≤ 200 by first | exact ⟨by decide, by decide⟩ | omega) (by decide)
      have Fs29 := fm_I (x := Int32.ofInt (-1)) Fs28 (show 88 ∈ _ by decide)
      rw [← hs29] at Fs29
      have vs29 : iI s29 88 = (-1) := by rw [hs29]; exact iI_u (by decide)
      have ws29_73 : iI s29 73 = iI s28 73 := by rw [hs29]; rfl
      have ws29_74 : iI s29 74 = iI s28 74 := by rw [hs29]; rfl
      have ws29_77 : iI s29 77 = iI s28 77 := by rw [hs29]; rfl
      have ws29_75 : iI s29 75 = iI s28 75 := by rw [hs29]; rfl
      have ws29_79 : iI s29 79 = iI s28 79 := by rw [hs29]; rfl
      have ws29_78 : iI s29 78 = iI s28 78 := by rw [hs29]; rfl
      have ws29_86 : iI s29 86 = iI s28 86 := by rw [hs29]; rfl
      have ws29_87 : iI s29 87 = iI s28 87 := by rw [hs29]; rfl
      refine z_aload_n X (x := A 179) (show cdA 214 57 = some (.aload_n 0, 1, 0, 0, 0) from rfl) (List.Mem.head _) ?_
      refine z_callV X 179 (rm := rmN 193) (As := []) (st := []) (show cdA 214 58 = some (.invokevirtual 197, 3, 193, 0, 0) from rfl) rfl (by decide) rfl (by rw [E.1, E.2.1, E.2.2.1]; exact k_blanks G Is29 (by first | exact oq_1cee15ac ws29_77 ws28_77 ws27_77 hps21.2.1 | omega)) ⟨by rw [E.2.2.2]; exact (show (rmN 193).frames + 1 ≤ (rmN 214).frames by decide), by rw [E.2.2.2]; exact (show 8 + (mNL (miB 193) + 11) + (rmN 193).locals ≤ (rmN 214).locals by decide), by rw [E.2.2.2]; exact (show 0 + (rmN 193).cells ≤ (rmN 214).cells by decide), by rw [E.2.2.2]; exact (show 0 + (rmN 193).slots ≤ (rmN 214).slots by decide)⟩ (Nat.le_of_ble_eq_true rfl) (fun vv s30 hq => ?_) (fun ee s30 hq => ?_)
      rotate_left
      · obtain ⟨Is30, Fs30, hv, hps30⟩ := hq; cases hv
      obtain ⟨Is30, Fs30, hv, hps30⟩ := hq
      cases hv
      have Gs30 := fm_ts Fs29 Fs30 (by decide) (by decide)
      have ws30_73 : iI s30 73 = iI s29 73 := fm_i Fs30 (by decide)
      have ws30_74 : iI s30 74 = iI s29 74 := fm_i Fs30 (by decide)
      have b32 : (0 : Int) ≤ iI s30 77 ∧ iI s30 77 ≤ 400 := Is30.1 77
      have ws30_75 : iI s30 75 = iI s29 75 := fm_i Fs30 (by decide)
      have ws30_79 : iI s30 79 = iI s29 79 := fm_i Fs30 (by decide)
      have ws30_78 : iI s30 78 = iI s29 78 := fm_i Fs30 (by decide)
      have ws30_86 : iI s30 86 = iI s29 86 := fm_i Fs30 (by decide)
      have ws30_87 : iI s30 87 = iI s29 87 := fm_i Fs30 (by decide)
      have ws30_88 : iI s30 88 = iI s29 88 := fm_i Fs30 (by decide)
      show WS k 61 [(0, .ref (A 179)), (1, .int (Int32.ofInt x))] [] (Wd A dT s30) 0 0
      refine WS_lv (lv := [(0, .ref (A 179)), (1, .int (Int32.ofInt x))]) (List.forall_mem_cons.mpr ⟨(List.Mem.head _), (List.forall_mem_cons.mpr ⟨(List.Mem.tail _ (List.Mem.head _)), (fun q h => absurd h List.not_mem_nil)⟩)⟩) ?_
      refine L61 ((400 - iI s30 77 + (9 - iI s30 79) : Int).toNat + 1) s30 x Is30 Gs30 (by first | exact ⟨by decide, oq_891312a5 g19 hps16.2.1 re15.2 he15 hps12 ws10_74, oq_d9a35dd1 ws30_74 ws29_74 ws28_74 ws27_74 ws21_74 vs20, oq_b4d295d9 ws30_75 hps21.1 ws29_75 ws28_75 ws27_75, oq_d0299403 ws30_78 ws29_78 ws28_78 ws27_78 hps21.2.2.1 b26.1, oq_d2a9c83d hps30.2 ws29_75 ws29_77 ws28_75 ws28_77 ws27_75 ws27_77 b24.2 hps21.2.1, oq_0fb212fc ws30_75 hps30.2 ws29_75 ws29_77 ws28_75 ws28_77 ws27_75 ws27_77 b24.1 hps21.2.1, oq_606f3a06 ws30_87 ws30_86 ws29_87 ws29_86 ws28_86 vs28 vs27⟩ | omega) (Nat.lt_succ_self _) ?_
      intro s33  Is33 Fs33 hs33
      have b34 : (0 : Int) ≤ iI s33 73 ∧ iI s33 73 ≤ 3 := Is33.1 73
      have b35 : (0 : Int) ≤ iI s33 74 ∧ iI s33 74 ≤ 200 := Is33.1 74
      have b36 : (0 : Int) ≤ iI s33 77 ∧ iI s33 77 ≤ 400 := Is33.1 77
      have b37 : (0 : Int) ≤ iI s33 75 ∧ iI s33 75 ≤ 200 := Is33.1 75
      have b38 : (0 : Int) ≤ iI s33 79 ∧ iI s33 79 ≤ 9 := Is33.1 79
      have b39 : (0 : Int) ≤ iI s33 78 ∧ iI s33 78 ≤ 8 := Is33.1 78
      have b40 : (0 : Int) ≤ iI s33 86 ∧ iI s33 86 ≤ 8 := Is33.1 86
      have b41 : (0 : Int) ≤ iI s33 87 ∧ iI s33 87 ≤ 8 := Is33.1 87
      have b42 : ((-1) : Int) ≤ iI s33 88 ∧ iI s33 88 ≤ 200 := Is33.1 88
      refine z_aload_n X (x := A 179) (show cdA 214 90 = some (.aload_n 0, 1, 0, 0, 0) from rfl) (List.Mem.head _) ?_
      refine z_aload_n X (x := A 179) (show cdA 214 91 = some (.aload_n 0, 1, 0, 0, 0) from rfl) (List.Mem.head _) ?_
      refine z_getI X 179 (show cdA 214 92 = some (.getfield 194, 3, 12, 7, 0) from rfl) (by decide) rfl rfl ?_
      have b43 : ((-1) : Int) ≤ iI s33 80 ∧ iI s33 80 ≤ 400 := Is33.1 80
      refine s_putI X 179 (show cdA 214 95 = some (.putfield 9, 3, 12, 3, 0) from rfl) (by decide) rfl rfl (by decide) rfl rfl rfl ?_
      obtain ⟨s44, hs44⟩ : ∃ x0, x0 = uI s33 76 (Int32.ofInt (iI s33 80)) := ⟨_, rfl⟩
      rw [← hs44]
      have Is44 : Bd s44 := by rw [hs44]; exact bd_I Is33 (show ((-1) : Int) ≤ (iI s33 80) ∧ (iI s33 80) ≤ 400 by first | exact ⟨b43.1, b43.2⟩ | omega) (rng_to _)
      have Fs44 := fm_I (x := Int32.ofInt (iI s33 80)) Fs33 (show 76 ∈ _ by decide)
      rw [← hs44] at Fs44
      have vs44 : iI s44 76 = (iI s33 80) := by rw [hs44]; exact iI_u (rng_to _)
      have ws44_73 : iI s44 73 = iI s33 73 := by rw [hs44]; rfl
      have ws44_74 : iI s44 74 = iI s33 74 := by rw [hs44]; rfl
      have ws44_77 : iI s44 77 = iI s33 77 := by rw [hs44]; rfl
      have ws44_75 : iI s44 75 = iI s33 75 := by rw [hs44]; rfl
      have ws44_79 : iI s44 79 = iI s33 79 := by rw [hs44]; rfl
      have ws44_78 : iI s44 78 = iI s33 78 := by rw [hs44]; rfl
      have ws44_86 : iI s44 86 = iI s33 86 := by rw [hs44]; rfl
      have ws44_87 : iI s44 87 = iI s33 87 := by rw [hs44]; rfl
      have ws44_88 : iI s44 88 = iI s33 88 := by rw [hs44]; rfl
      refine z_aload_n X (x := A 179) (show cdA 214 98 = some (.aload_n 0, 1, 0, 0, 0) from rfl) (List.Mem.head _) ?_
      refine z_getI X 179 (show cdA 214 99 = some (.getfield 191, 3, 12, 6, 0) from rfl) (by decide) rfl rfl ?_
      have b45 : (0 : Int) ≤ iI s44 79 ∧ iI s44 79 ≤ 9 := Is44.1 79
      refine z_if_eq X (t := 113) (show cdA 214 102 = some (.ifCond .eq 11, 3, 0, 0, 0) from rfl) (by decide) (rng_to _) (fun g46 => ?_) (fun g46 => ?_)
      ·
        refine z_const X (show cdA 214 113 = some (.iconst 0, 1, 0, 0, 0) from rfl) ?_
        refine z_store_n X (lv' := [(2, .int (Int32.ofInt 0)), (0, .ref (A 179)), (1, .int (Int32.ofInt x))]) (show cdA 214 114 = some (.istore_n 2, 1, 0, 0, 0) from rfl) (by decide) (fun _ h => h) ?_
        refine WS_lv (lv := [(0, .ref (A 179)), (1, .int (Int32.ofInt x)), (2, .int (Int32.ofInt 0))]) (List.forall_mem_cons.mpr ⟨(List.Mem.tail _ (List.Mem.head _)), (List.forall_mem_cons.mpr ⟨(List.Mem.tail _ (List.Mem.tail _ (List.Mem.head _))), (List.forall_mem_cons.mpr ⟨(List.Mem.head _), (fun q h => absurd h List.not_mem_nil)⟩)⟩)⟩) ?_
        refine L115 ((200 - 0 : Int).toNat + 1) s44 x 0 Is44 Fs44 (by first | exact ⟨by decide, And.intro (hs33.2.1.1) (hs33.2.1.2), oq_333640b7 ws44_74 hs33.2.2.1 b35.1, by decide, by decide, oq_e7b9ecab ws44_86 ws44_87 hs33.2.2.2.2.2.2.2, oq_b1fe1193 ws44_75 b37.2⟩ | omega) (Nat.lt_succ_self _) ?_
        intro s47 x48 Is47 Fs47 hs47
        have b49 : (0 : Int) ≤ iI s47 73 ∧ iI s47 73 ≤ 3 := Is47.1 73
        have b50 : (0 : Int) ≤ iI s47 74 ∧ iI s47 74 ≤ 200 := Is47.1 74
        have b51 : (0 : Int) ≤ iI s47 77 ∧ iI s47 77 ≤ 400 := Is47.1 77
        have b52 : (0 : Int) ≤ iI s47 75 ∧ iI s47 75 ≤ 200 := Is47.1 75
        have b53 : (0 : Int) ≤ iI s47 79 ∧ iI s47 79 ≤ 9 := Is47.1 79
        have b54 : (0 : Int) ≤ iI s47 78 ∧ iI s47 78 ≤ 8 := Is47.1 78
        have b55 : (0 : Int) ≤ iI s47 86 ∧ iI s47 86 ≤ 8 := Is47.1 86
        have b56 : (0 : Int) ≤ iI s47 87 ∧ iI s47 87 ≤ 8 := Is47.1 87
        have b57 : ((-1) : Int) ≤ iI s47 88 ∧ iI s47 88 ≤ 200 := Is47.1 88
        refine z_aload_n X (x := A 179) (show cdA 214 138 = some (.aload_n 0, 1, 0, 0, 0) from rfl) (List.Mem.head _) ?_
        refine z_load_n X (x := x) (show cdA 214 139 = some (.iload_n 1, 1, 0, 0, 0) from rfl) (List.Mem.tail _ (List.Mem.head _)) ?_
        refine s_putI X 179 (show cdA 214 140 = some (.putfield 294, 3, 12, 11, 0) from rfl) (by decide) rfl rfl (by decide) rfl rfl rfl ?_
        obtain ⟨s58, hs58⟩ : ∃ x0, x0 = uI s47 82 (Int32.ofInt x) := ⟨_, rfl⟩
        rw [← hs58]
        have Is58 : Bd s58 := by rw [hs58]; exact bd_I Is47 (show (0 : Int) ≤ x ∧ x ≤ 200 by first | exact ⟨hs47.2.1.1, oq_9a94ea72 hs47.2.1.2 b2.2⟩ | omega) ⟨by first | exact p0.1 | omega, by first | exact p0.2 | omega⟩
        have Fs58 := fm_I (x := Int32.ofInt x) Fs47 (show 82 ∈ _ by decide)
        rw [← hs58] at Fs58
        have vs58 : iI s58 82 = x := by rw [hs58]; exact iI_u ⟨by first | exact p0.1 | omega, by first | exact p0.2 | omega⟩
        have ws58_73 : iI s58 73 = iI s47 73 := by rw [hs58]; rfl
        have ws58_74 : iI s58 74 = iI s47 74 := by rw [hs58]; rfl
        have ws58_77 : iI s58 77 = iI s47 77 := by rw [hs58]; rfl
        have ws58_75 : iI s58 75 = iI s47 75 := by rw [hs58]; rfl
        have ws58_79 : iI s58 79 = iI s47 79 := by rw [hs58]; rfl
        have ws58_78 : iI s58 78 = iI s47 78 := by rw [hs58]; rfl
        have ws58_86 : iI s58 86 = iI s47 86 := by rw [hs58]; rfl
        have ws58_87 : iI s58 87 = iI s47 87 := by rw [hs58]; rfl
        have ws58_88 : iI s58 88 = iI s47 88 := by rw [hs58]; rfl
        refine z_aload_n X (x := A 179) (show cdA 214 143 = some (.aload_n 0, 1, 0, 0, 0) from rfl) (List.Mem.head _) ?_
        refine z_aload_n X (x := A 179) (show cdA 214 144 = some (.aload_n 0, 1, 0, 0, 0) from rfl) (List.Mem.head _) ?_
        refine z_getI X 179 (show cdA 214 145 = some (.getfield 282, 3, 12, 16, 0) from rfl) (by decide) rfl rfl ?_
        have b59 : (0 : Int) ≤ iI s58 86 ∧ iI s58 86 ≤ 8 := Is58.1 86
        refine s_putI X 179 (show cdA 214 148 = some (.putfield 297, 3, 12, 12, 0) from rfl) (by decide) rfl rfl (by decide) rfl rfl rfl ?_
        obtain ⟨s60, hs60⟩ : ∃ x0, x0 = uI s58 83 (Int32.ofInt (iI s58 86)) := ⟨_, rfl⟩
        rw [← hs60]
        have Is60 : Bd s60 := by rw [hs60]; exact bd_I Is58 (show (0 : Int) ≤ (iI s58 86) ∧ (iI s58 86) ≤ 8 by first | exact ⟨b59.1, b59.2⟩ | omega) (rng_to _)
        have Fs60 := fm_I (x := Int32.ofInt (iI s58 86)) Fs58 (show 83 ∈ _ by decide)
        rw [← hs60] at Fs60
        have vs60 : iI s60 83 = (iI s58 86) := by rw [hs60]; exact iI_u (rng_to _)
        have ws60_73 : iI s60 73 = iI s58 73 := by rw [hs60]; rfl
        have ws60_74 : iI s60 74 = iI s58 74 := by rw [hs60]; rfl
        have ws60_77 : iI s60 77 = iI s58 77 := by rw [hs60]; rfl
        have ws60_75 : iI s60 75 = iI s58 75 := by rw [hs60]; rfl
        have ws60_79 : iI s60 79 = iI s58 79 := by rw [hs60]; rfl
        have ws60_78 : iI s60 78 = iI s58 78 := by rw [hs60]; rfl
        have ws60_86 : iI s60 86 = iI s58 86 := by rw [hs60]; rfl
        have ws60_87 : iI s60 87 = iI s58 87 := by rw [hs60]; rfl
        have ws60_88 : iI s60 88 = iI s58 88 := by rw [hs60]; rfl
        refine z_aload_n X (x := A 179) (show cdA 214 151 = some (.aload_n 0, 1, 0, 0, 0) from rfl) (List.Mem.head _) ?_
        refine z_aload_n X (x := A 179) (show cdA 214 152 = some (.aload_n 0, 1, 0, 0, 0) from rfl) (List.Mem.head _) ?_
        refine z_getI X 179 (show cdA 214 153 = some (.getfield 288, 3, 12, 17, 0) from rfl) (by decide) rfl rfl ?_
        have b61 : (0 : Int) ≤ iI s60 87 ∧ iI s60 87 ≤ 8 := Is60.1 87
        refine s_putI X 179 (show cdA 214 156 = some (.putfield 300, 3, 12, 13, 0) from rfl) (by decide) rfl rfl (by decide) rfl rfl rfl ?_
        obtain ⟨s62, hs62⟩ : ∃ x0, x0 = uI s60 84 (Int32.ofInt (iI s60 87)) := ⟨_, rfl⟩
        rw [← hs62]
        have Is62 : Bd s62 := by rw [hs62]; exact bd_I Is60 (show (0 : Int) ≤ (iI s60 87) ∧ (iI s60 87) ≤ 8 by first | exact ⟨b61.1, b61.2⟩ | omega) (rng_to _)
        have Fs62 := fm_I (x := Int32.ofInt (iI s60 87)) Fs60 (show 84 ∈ _ by decide)
        rw [← hs62] at Fs62
        have vs62 : iI s62 84 = (iI s60 87) := by rw [hs62]; exact iI_u (rng_to _)
        have ws62_73 : iI s62 73 = iI s60 73 := by rw [hs62]; rfl
        have ws62_74 : iI s62 74 = iI s60 74 := by rw [hs62]; rfl
        have ws62_77 : iI s62 77 = iI s60 77 := by rw [hs62]; rfl
        have ws62_75 : iI s62 75 = iI s60 75 := by rw [hs62]; rfl
        have ws62_79 : iI s62 79 = iI s60 79 := by rw [hs62]; rfl
        have ws62_78 : iI s62 78 = iI s60 78 := by rw [hs62]; rfl
        have ws62_86 : iI s62 86 = iI s60 86 := by rw [hs62]; rfl
        have ws62_87 : iI s62 87 = iI s60 87 := by rw [hs62]; rfl
        have ws62_88 : iI s62 88 = iI s60 88 := by rw [hs62]; rfl
        refine z_aload_n X (x := A 179) (show cdA 214 159 = some (.aload_n 0, 1, 0, 0, 0) from rfl) (List.Mem.head _) ?_
        refine z_aload_n X (x := A 179) (show cdA 214 160 = some (.aload_n 0, 1, 0, 0, 0) from rfl) (List.Mem.head _) ?_
        refine z_getI X 179 (show cdA 214 161 = some (.getfield 285, 3, 12, 18, 0) from rfl) (by decide) rfl rfl ?_
        have b63 : ((-1) : Int) ≤ iI s62 88 ∧ iI s62 88 ≤ 200 := Is62.1 88
        refine s_putI X 179 (show cdA 214 164 = some (.putfield 20, 3, 12, 14, 0) from rfl) (by decide) rfl rfl (by decide) rfl rfl rfl ?_
        obtain ⟨s64, hs64⟩ : ∃ x0, x0 = uI s62 85 (Int32.ofInt (iI s62 88)) := ⟨_, rfl⟩
        rw [← hs64]
        have Is64 : Bd s64 := by rw [hs64]; exact bd_I Is62 (show ((-1) : Int) ≤ (iI s62 88) ∧ (iI s62 88) ≤ 200 by first | exact ⟨b63.1, b63.2⟩ | omega) (rng_to _)
        have Fs64 := fm_I (x := Int32.ofInt (iI s62 88)) Fs62 (show 85 ∈ _ by decide)
        rw [← hs64] at Fs64
        have vs64 : iI s64 85 = (iI s62 88) := by rw [hs64]; exact iI_u (rng_to _)
        have ws64_73 : iI s64 73 = iI s62 73 := by rw [hs64]; rfl
        have ws64_74 : iI s64 74 = iI s62 74 := by rw [hs64]; rfl
        have ws64_77 : iI s64 77 = iI s62 77 := by rw [hs64]; rfl
        have ws64_75 : iI s64 75 = iI s62 75 := by rw [hs64]; rfl
        have ws64_79 : iI s64 79 = iI s62 79 := by rw [hs64]; rfl
        have ws64_78 : iI s64 78 = iI s62 78 := by rw [hs64]; rfl
        have ws64_86 : iI s64 86 = iI s62 86 := by rw [hs64]; rfl
        have ws64_87 : iI s64 87 = iI s62 87 := by rw [hs64]; rfl
        have ws64_88 : iI s64 88 = iI s62 88 := by rw [hs64]; rfl
        refine z_const X (show cdA 214 167 = some (.iconst 0, 1, 0, 0, 0) from rfl) ?_
        refine z_store_n X (lv' := [(2, .int (Int32.ofInt 0)), (0, .ref (A 179)), (1, .int (Int32.ofInt x))]) (show cdA 214 168 = some (.istore_n 2, 1, 0, 0, 0) from rfl) (by decide) (fun _ h => h) ?_
        refine WS_lv (lv := [(0, .ref (A 179)), (1, .int (Int32.ofInt x)), (2, .int (Int32.ofInt 0))]) (List.forall_mem_cons.mpr ⟨(List.Mem.tail _ (List.Mem.head _)), (List.forall_mem_cons.mpr ⟨(List.Mem.tail _ (List.Mem.tail _ (List.Mem.head _))), (List.forall_mem_cons.mpr ⟨(List.Mem.head _), (fun q h => absurd h List.not_mem_nil)⟩)⟩)⟩) ?_
        refine L169 ((8 - 0 : Int).toNat + 1) s64 x 0 Is64 Fs64 (by first | exact ⟨by decide, And.intro (hs47.2.1.1) (hs47.2.1.2), oq_d0299403 ws64_74 ws62_74 ws60_74 ws58_74 hs47.2.2.1 b50.1, by decide, by decide⟩ | omega) (Nat.lt_succ_self _) ?_
        intro s65 x66 Is65 Fs65 hs65
        have b67 : (0 : Int) ≤ iI s65 73 ∧ iI s65 73 ≤ 3 := Is65.1 73
        have b68 : (0 : Int) ≤ iI s65 74 ∧ iI s65 74 ≤ 200 := Is65.1 74
        have b69 : (0 : Int) ≤ iI s65 77 ∧ iI s65 77 ≤ 400 := Is65.1 77
        have b70 : (0 : Int) ≤ iI s65 75 ∧ iI s65 75 ≤ 200 := Is65.1 75
        have b71 : (0 : Int) ≤ iI s65 79 ∧ iI s65 79 ≤ 9 := Is65.1 79
        have b72 : (0 : Int) ≤ iI s65 78 ∧ iI s65 78 ≤ 8 := Is65.1 78
        have b73 : (0 : Int) ≤ iI s65 86 ∧ iI s65 86 ≤ 8 := Is65.1 86
        have b74 : (0 : Int) ≤ iI s65 87 ∧ iI s65 87 ≤ 8 := Is65.1 87
        have b75 : ((-1) : Int) ≤ iI s65 88 ∧ iI s65 88 ≤ 200 := Is65.1 88
        refine z_aload_n X (x := A 179) (show cdA 214 195 = some (.aload_n 0, 1, 0, 0, 0) from rfl) (List.Mem.head _) ?_
        refine z_getI X 179 (show cdA 214 196 = some (.getfield 297, 3, 12, 12, 0) from rfl) (by decide) rfl rfl ?_
        have b76 : (0 : Int) ≤ iI s65 83 ∧ iI s65 83 ≤ 8 := Is65.1 83
        exact w_iret X.1 q hRt rfl (ax_d X (show cdA 214 199 = some (.ireturn, 1, 0, 0, 0) from rfl)) (Nat.zero_le _) (Nat.zero_le _) ⟨_, rfl, Is65, Fs65, (iI s65 83), rfl, (rng_to _), by first | exact Or.inl (And.intro (hs65.2.1.1) (And.intro (hs65.2.1.2) (hs65.2.2.1))) | omega⟩
      ·
        refine z_aload_n X (x := A 179) (show cdA 214 105 = some (.aload_n 0, 1, 0, 0, 0) from rfl) (List.Mem.head _) ?_
        refine z_getI X 179 (show cdA 214 106 = some (.getfield 191, 3, 12, 6, 0) from rfl) (by decide) rfl rfl ?_
        have b77 : (0 : Int) ≤ iI s44 79 ∧ iI s44 79 ≤ 9 := Is44.1 79
        refine z_bipush X (show cdA 214 109 = some (.bipush 10, 2, 0, 0, 10) from rfl) ?_
        refine z_sub X (show cdA 214 111 = some (.isub, 1, 0, 0, 0) from rfl) ?_
        exact w_iret X.1 q hRt rfl (ax_d X (show cdA 214 112 = some (.ireturn, 1, 0, 0, 0) from rfl)) (Nat.zero_le _) (Nat.zero_le _) ⟨_, rfl, Is44, Fs44, ((iI s44 79) - 10), rfl, ⟨by first | exact oq_d3c9ade5 b77.1 | omega, by first | exact oq_71609f9f b77.2 | omega⟩, by first | exact Or.inl (And.intro (hs33.2.1.1) (And.intro (hs33.2.1.2) (oq_333640b7 ws44_74 hs33.2.2.1 b35.1))) | omega⟩
    ·
      refine z_const X (show cdA 214 30 = some (.iconst 0, 1, 0, 0, 0) from rfl) ?_
      exact w_iret X.1 q hRt rfl (ax_d X (show cdA 214 31 = some (.ireturn, 1, 0, 0, 0) from rfl)) (Nat.zero_le _) (Nat.zero_le _) ⟨_, rfl, Is16, Gs16, 0, rfl, (by decide), by first | exact oq_9bde5726 g19 ws16_74 b18.1 hps16.2.2 hps16.1 re15.1 he15 ws12_74 ws12_73 hps12 ws10_74 vs10 | omega⟩
  refine z_if_ne X (t := 22) (show cdA 214 15 = some (.ifCond .ne 7, 3, 1, 0, 0) from rfl) (by decide) hrs12 (fun g78 => ?_) (fun g78 => ?_)
  ·
    refine z_const X (show cdA 214 22 = some (.iconst 0, 1, 0, 0, 0) from rfl) ?_
    exact N14 _ (Or.inl ⟨g78, rfl⟩)
  ·
    refine z_const X (show cdA 214 18 = some (.iconst 1, 1, 0, 0, 0) from rfl) ?_
    refine z_goto X (t := 23) (show cdA 214 19 = some (.goto 4, 3, 0, 0, 0) from rfl) (by decide) ?_
    exact N14 _ (Or.inr (⟨g78, rfl⟩))
end M54
