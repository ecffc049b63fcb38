/-! The model: rules -/
section M54
variable {l : Launch} {s0 : State} {D : va_G} {tys : List (ClassId × FieldType)} {a0 : Array Value} {A : Nat → Nat} {dT : Nat → ClassId} {s : PS}
theorem k_clause (G : GX l s0 D tys a0 dT) (I : Bd s) (p0 : iI s 79 = 0) (p1 : iI s 78 = 0) (p2 : iI s 77 ≤ iI s 75) (p3 : iI s 87 ≤ iI s 86) : CT l s0 D A dT 213 (rmN 213) [.ref (A 179)] s (fun o t => Bd t ∧ Fm [77, 79, 80, 78, 86, 87, 88] [160] s t ∧ o = .inl none ∧ (iI t 78 = 0 ∧ iI s 77 ≤ iI t 77 ∧ iI t 77 ≤ 203 ∧ (iI t 79 = 0 → iI s 77 < iI t 77 ∧ iI t 77 ≤ iI s 75) ∧ iI t 87 ≤ iI t 86)) := by
  refine ct_of G (by decide) (Nat.le_of_ble_eq_true rfl) (fun k X E hRt hXt q => ?_)
  show WS k 0 [(0, .ref (A 179))] [] _ 0 0
  have F : Fm [77, 79, 80, 78, 86, 87, 88] [160] s s := fm_rf _ _ s
  have b1 : (0 : Int) ≤ iI s 77 ∧ iI s 77 ≤ 400 := I.1 77
  have b2 : (0 : Int) ≤ iI s 75 ∧ iI s 75 ≤ 200 := I.1 75
  have b3 : (0 : Int) ≤ iI s 79 ∧ iI s 79 ≤ 9 := I.1 79
  have b4 : (0 : Int) ≤ iI s 78 ∧ iI s 78 ≤ 8 := I.1 78
  have b5 : (0 : Int) ≤ iI s 86 ∧ iI s 86 ≤ 8 := I.1 86
  have b6 : (0 : Int) ≤ iI s 87 ∧ iI s 87 ≤ 8 := I.1 87
  have b7 : ((-1) : Int) ≤ iI s 88 ∧ iI s 88 ≤ 200 := I.1 88
  refine z_aload_n X (x := A 179) (show cdA 213 0 = some (.aload_n 0, 1, 0, 0, 0) from rfl) (List.Mem.head _) ?_
  refine z_callV X 179 (rm := rmN 201) (As := []) (st := []) (show cdA 213 1 = some (.invokevirtual 243, 3, 201, 0, 0) from rfl) rfl (by decide) rfl (by rw [E.1, E.2.1, E.2.2.1]; exact k_wordHere G I (by omega)) ⟨by rw [E.2.2.2]; exact (show (rmN 201).frames + 1 ≤ (rmN 213).frames by decide), by rw [E.2.2.2]; exact (show 8 + (mNL (miB 201) + 11) + (rmN 201).locals ≤ (rmN 213).locals by decide), by rw [E.2.2.2]; exact (show 0 + (rmN 201).cells ≤ (rmN 213).cells by decide), by rw [E.2.2.2]; exact (show 0 + (rmN 201).slots ≤ (rmN 213).slots by decide)⟩ (Nat.le_of_ble_eq_true rfl) (fun vv s8 hq => ?_) (fun ee s8 hq => ?_)
  rotate_left
  · obtain ⟨Is8, Fs8, e9, hv, hrs8, hps8⟩ := hq; cases hv
  obtain ⟨Is8, Fs8, e9, hv, hrs8, hps8⟩ := hq
  cases hv
  have Gs8 := fm_ts F Fs8 (by decide) (by decide)
  have b10 : (0 : Int) ≤ iI s8 77 ∧ iI s8 77 ≤ 400 := Is8.1 77
  have ws8_75 : iI s8 75 = iI s 75 := fm_i Fs8 (by decide)
  have ws8_79 : iI s8 79 = iI s 79 := fm_i Fs8 (by decide)
  have ws8_78 : iI s8 78 = iI s 78 := fm_i Fs8 (by decide)
  have ws8_86 : iI s8 86 = iI s 86 := fm_i Fs8 (by decide)
  have ws8_87 : iI s8 87 = iI s 87 := fm_i Fs8 (by decide)
  have ws8_88 : iI s8 88 = iI s 88 := fm_i Fs8 (by decide)
  show WS k 4 [(0, .ref (A 179))] [.int (Int32.ofInt e9)] (Wd A dT s8) 0 0
  refine z_store_n X (lv' := [(1, .int (Int32.ofInt e9)), (0, .ref (A 179))]) (show cdA 213 4 = some (.istore_n 1, 1, 0, 0, 0) from rfl) (by decide) (fun _ h => h) ?_
  refine z_load_n X (x := e9) (show cdA 213 5 = some (.iload_n 1, 1, 0, 0, 0) from rfl) (List.Mem.head _) ?_
  refine z_bipush X (show cdA 213 6 = some (.bipush 12, 2, 0, 0, 12) from rfl) ?_
  refine z_bipush X (show cdA 213 8 = some (.bipush 15, 2, 0, 0, 15) from rfl) ?_
  refine z_const X (show cdA 213 10 = some (.iconst 1, 1, 0, 0, 0) from rfl) ?_
  refine z_const X (show cdA 213 11 = some (.iconst 4, 1, 0, 0, 0) from rfl) ?_
  refine z_const X (show cdA 213 12 = some (.iconst 0, 1, 0, 0, 0) from rfl) ?_
  refine z_const X (show cdA 213 13 = some (.iconst 0, 1, 0, 0, 0) from rfl) ?_
  refine z_callS X (rm := rmN 202) (As := [.int (Int32.ofInt 12), .int (Int32.ofInt 15), .int (Int32.ofInt 1), .int (Int32.ofInt 4), .int (Int32.ofInt 0), .int (Int32.ofInt 0)]) (st := [.int (Int32.ofInt e9)]) (show cdA 213 14 = some (.invokestatic 247, 3, 202, 1, 0) from rfl) rfl (by rw [E.1, E.2.1, E.2.2.1]; exact k_word G Is8 (by omega) (by omega) (by omega) (by omega) (by omega) (by omega)) ⟨by rw [E.2.2.2]; exact (show (rmN 202).frames + 1 ≤ (rmN 213).frames by decide), by rw [E.2.2.2]; exact (show 8 + (mNL (miB 202) + 11) + (rmN 202).locals ≤ (rmN 213).locals by decide), by rw [E.2.2.2]; exact (show 0 + (rmN 202).cells ≤ (rmN 213).cells by decide), by rw [E.2.2.2]; exact (show 0 + (rmN 202).slots ≤ (rmN 213).slots by decide)⟩ (Nat.le_of_ble_eq_true rfl) (fun vv s11 hq => ?_) (fun ee s11 hq => ?_)
  rotate_left
  · obtain ⟨Is11, Fs11, e12, hv, hrs11, hps11⟩ := hq; cases hv
  obtain ⟨Is11, Fs11, e12, hv, hrs11, hps11⟩ := hq
  cases hv
  have Gs11 := fm_ts Gs8 Fs11 (by decide) (by decide)
  have ws11_77 : iI s11 77 = iI s8 77 := fm_i Fs11 (by decide)
  have ws11_75 : iI s11 75 = iI s8 75 := fm_i Fs11 (by decide)
  have ws11_79 : iI s11 79 = iI s8 79 := fm_i Fs11 (by decide)
  have ws11_78 : iI s11 78 = iI s8 78 := fm_i Fs11 (by decide)
  have ws11_86 : iI s11 86 = iI s8 86 := fm_i Fs11 (by decide)
  have ws11_87 : iI s11 87 = iI s8 87 := fm_i Fs11 (by decide)
  have ws11_88 : iI s11 88 = iI s8 88 := fm_i Fs11 (by decide)
  show WS k 17 [(1, .int (Int32.ofInt e9)), (0, .ref (A 179))] [.int (Int32.ofInt e12), .int (Int32.ofInt e9)] (Wd A dT s11) 0 0
  refine z_icmp_ne X (t := 24) (show cdA 213 17 = some (.if_icmp .ne 7, 3, 1, 0, 0) from rfl) (by decide) ⟨by omega, by omega⟩ ⟨by omega, by omega⟩ (fun g13 => ?_) (fun g13 => ?_)
  ·
    refine z_const X (show cdA 213 24 = some (.iconst 0, 1, 0, 0, 0) from rfl) ?_
    refine z_store_n X (lv' := [(2, .int (Int32.ofInt 0)), (1, .int (Int32.ofInt e9)), (0, .ref (A 179))]) (show cdA 213 25 = some (.istore_n 2, 1, 0, 0, 0) from rfl) (by decide) (fun _ h => h) ?_
    refine z_load_n X (x := e9) (show cdA 213 26 = some (.iload_n 1, 1, 0, 0, 0) from rfl) (List.Mem.tail _ (List.Mem.head _)) ?_
    refine z_bipush X (show cdA 213 27 = some (.bipush 10, 2, 0, 0, 10) from rfl) ?_
    refine z_bipush X (show cdA 213 29 = some (.bipush 15, 2, 0, 0, 15) from rfl) ?_
    refine z_bipush X (show cdA 213 31 = some (.bipush 9, 2, 0, 0, 9) from rfl) ?_
    refine z_bipush X (show cdA 213 33 = some (.bipush 14, 2, 0, 0, 14) from rfl) ?_
    refine z_const X (show cdA 213 35 = some (.iconst 0, 1, 0, 0, 0) from rfl) ?_
    refine z_const X (show cdA 213 36 = some (.iconst 0, 1, 0, 0, 0) from rfl) ?_
    refine z_callS X (rm := rmN 202) (As := [.int (Int32.ofInt 10), .int (Int32.ofInt 15), .int (Int32.ofInt 9), .int (Int32.ofInt 14), .int (Int32.ofInt 0), .int (Int32.ofInt 0)]) (st := [.int (Int32.ofInt e9)]) (show cdA 213 37 = some (.invokestatic 247, 3, 202, 1, 0) from rfl) rfl (by rw [E.1, E.2.1, E.2.2.1]; exact k_word G Is11 (by omega) (by omega) (by omega) (by omega) (by omega) (by omega)) ⟨by rw [E.2.2.2]; exact (show (rmN 202).frames + 1 ≤ (rmN 213).frames by decide), by rw [E.2.2.2]; exact (show 8 + (mNL (miB 202) + 11) + (rmN 202).locals ≤ (rmN 213).locals by decide), by rw [E.2.2.2]; exact (show 0 + (rmN 202).cells ≤ (rmN 213).cells by decide), by rw [E.2.2.2]; exact (show 0 + (rmN 202).slots ≤ (rmN 213).slots by decide)⟩ (Nat.le_of_ble_eq_true rfl) (fun vv s14 hq => ?_) (fun ee s14 hq => ?_)
    rotate_left
    · obtain ⟨Is14, Fs14, e15, hv, hrs14, hps14⟩ := hq; cases hv
    obtain ⟨Is14, Fs14, e15, hv, hrs14, hps14⟩ := hq
    cases hv
    have Gs14 := fm_ts Gs11 Fs14 (by decide) (by decide)
    have ws14_77 : iI s14 77 = iI s11 77 := fm_i Fs14 (by decide)
    have ws14_75 : iI s14 75 = iI s11 75 := fm_i Fs14 (by decide)
    have ws14_79 : iI s14 79 = iI s11 79 := fm_i Fs14 (by decide)
    have ws14_78 : iI s14 78 = iI s11 78 := fm_i Fs14 (by decide)
    have ws14_86 : iI s14 86 = iI s11 86 := fm_i Fs14 (by decide)
    have ws14_87 : iI s14 87 = iI s11 87 := fm_i Fs14 (by decide)
    have ws14_88 : iI s14 88 = iI s11 88 := fm_i Fs14 (by decide)
    show WS k 40 [(2, .int (Int32.ofInt 0)), (1, .int (Int32.ofInt e9)), (0, .ref (A 179))] [.int (Int32.ofInt e15), .int (Int32.ofInt e9)] (Wd A dT s14) 0 0
    refine z_icmp_ne X (t := 47) (show cdA 213 40 = some (.if_icmp .ne 7, 3, 1, 0, 0) from rfl) (by decide) ⟨by omega, by omega⟩ ⟨by omega, by omega⟩ (fun g16 => ?_) (fun g16 => ?_)
    ·
      refine z_const X (show cdA 213 47 = some (.iconst 0, 1, 0, 0, 0) from rfl) ?_
      refine z_store_n X (lv' := [(3, .int (Int32.ofInt 0)), (2, .int (Int32.ofInt 0)), (1, .int (Int32.ofInt e9)), (0, .ref (A 179))]) (show cdA 213 48 = some (.istore_n 3, 1, 0, 0, 0) from rfl) (by decide) (fun _ h => h) ?_
      refine z_load_n X (x := 0) (show cdA 213 49 = some (.iload_n 2, 1, 0, 0, 0) from rfl) (List.Mem.tail _ (List.Mem.head _)) ?_
      refine z_if_ne X (t := 69) (show cdA 213 50 = some (.ifCond .ne 19, 3, 1, 0, 0) from rfl) (by decide) ⟨by omega, by omega⟩ (fun g17 => ?_) (fun g17 => ?_)
      ·
        refine z_aload_n X (x := A 179) (show cdA 213 69 = some (.aload_n 0, 1, 0, 0, 0) from rfl) (List.Mem.tail _ (List.Mem.tail _ (List.Mem.tail _ (List.Mem.head _)))) ?_
        refine z_getI X 179 (show cdA 213 70 = some (.getfield 282, 3, 12, 16, 0) from rfl) (by decide) rfl rfl ?_
        have b18 : (0 : Int) ≤ iI s14 86 ∧ iI s14 86 ≤ 8 := Is14.1 86
        refine z_bipush X (show cdA 213 73 = some (.bipush 8, 2, 0, 0, 8) from rfl) ?_
        refine z_icmp_ne X (t := 87) (show cdA 213 75 = some (.if_icmp .ne 12, 3, 1, 0, 0) from rfl) (by decide) ⟨by omega, by omega⟩ ⟨by omega, by omega⟩ (fun g19 => ?_) (fun g19 => ?_)
        ·
          refine z_aload_n X (x := A 179) (show cdA 213 87 = some (.aload_n 0, 1, 0, 0, 0) from rfl) (List.Mem.tail _ (List.Mem.tail _ (List.Mem.tail _ (List.Mem.head _)))) ?_
          refine z_getI X 179 (show cdA 213 88 = some (.getfield 191, 3, 12, 6, 0) from rfl) (by decide) rfl rfl ?_
          have b20 : (0 : Int) ≤ iI s14 79 ∧ iI s14 79 ≤ 9 := Is14.1 79
          refine z_if_eq X (t := 95) (show cdA 213 91 = some (.ifCond .eq 4, 3, 0, 0, 0) from rfl) (by decide) ⟨by omega, by omega⟩ (fun g21 => ?_) (fun g21 => ?_)
          ·
            refine z_aload_n X (x := A 179) (show cdA 213 95 = some (.aload_n 0, 1, 0, 0, 0) from rfl) (List.Mem.tail _ (List.Mem.tail _ (List.Mem.tail _ (List.Mem.head _)))) ?_
            refine z_callV X 179 (rm := rmN 203) (As := []) (st := []) (show cdA 213 96 = some (.invokevirtual 254, 3, 203, 0, 0) from rfl) rfl (by decide) rfl (by rw [E.1, E.2.1, E.2.2.1]; exact k_skipWord G Is14 (by omega)) ⟨by rw [E.2.2.2]; exact (show (rmN 203).frames + 1 ≤ (rmN 213).frames by decide), by rw [E.2.2.2]; exact (show 8 + (mNL (miB 203) + 11) + (rmN 203).locals ≤ (rmN 213).locals by decide), by rw [E.2.2.2]; exact (show 0 + (rmN 203).cells ≤ (rmN 213).cells by decide), by rw [E.2.2.2]; exact (show 0 + (rmN 203).slots ≤ (rmN 213).slots by decide)⟩ (Nat.le_of_ble_eq_true rfl) (fun vv s22 hq => ?_) (fun ee s22 hq => ?_)
            rotate_left
            · obtain ⟨Is22, Fs22, hv, hps22⟩ := hq; cases hv
            obtain ⟨Is22, Fs22, hv, hps22⟩ := hq
            cases hv
            have Gs22 := fm_ts Gs14 Fs22 (by decide) (by decide)
            have b24 : (0 : Int) ≤ iI s22 77 ∧ iI s22 77 ≤ 400 := Is22.1 77
            have ws22_75 : iI s22 75 = iI s14 75 := fm_i Fs22 (by decide)
            have ws22_79 : iI s22 79 = iI s14 79 := fm_i Fs22 (by decide)
            have ws22_78 : iI s22 78 = iI s14 78 := fm_i Fs22 (by decide)
            have ws22_86 : iI s22 86 = iI s14 86 := fm_i Fs22 (by decide)
            have ws22_87 : iI s22 87 = iI s14 87 := fm_i Fs22 (by decide)
            have ws22_88 : iI s22 88 = iI s14 88 := fm_i Fs22 (by decide)
            show WS k 99 [(3, .int (Int32.ofInt 0)), (2, .int (Int32.ofInt 0)), (1, .int (Int32.ofInt e9)), (0, .ref (A 179))] [] (Wd A dT s22) 0 0
            refine z_load_n X (x := 0) (show cdA 213 99 = some (.iload_n 2, 1, 0, 0, 0) from rfl) (List.Mem.tail _ (List.Mem.head _)) ?_
            refine z_if_eq X (t := 119) (show cdA 213 100 = some (.ifCond .eq 19, 3, 0, 0, 0) from rfl) (by decide) ⟨by omega, by omega⟩ (fun g25 => ?_) (fun g25 => ?_)
            ·
              refine z_aload_n X (x := A 179) (show cdA 213 119 = some (.aload_n 0, 1, 0, 0, 0) from rfl) (List.Mem.tail _ (List.Mem.tail _ (List.Mem.tail _ (List.Mem.head _)))) ?_
              refine s_getR X 179 (show cdA 213 120 = some (.getfield 29, 3, 12, 20, 0) from rfl) (by decide) rfl rfl ?_
              refine z_aload_n X (x := A 179) (show cdA 213 123 = some (.aload_n 0, 1, 0, 0, 0) from rfl) (List.Mem.tail _ (List.Mem.tail _ (List.Mem.tail _ (List.Mem.head _)))) ?_
              refine z_getI X 179 (show cdA 213 124 = some (.getfield 288, 3, 12, 17, 0) from rfl) (by decide) rfl rfl ?_
              have b26 : (0 : Int) ≤ iI s22 87 ∧ iI s22 87 ≤ 8 := Is22.1 87
              refine z_aload_n X (x := A 179) (show cdA 213 127 = some (.aload_n 0, 1, 0, 0, 0) from rfl) (List.Mem.tail _ (List.Mem.tail _ (List.Mem.tail _ (List.Mem.head _)))) ?_
              refine z_getI X 179 (show cdA 213 128 = some (.getfield 184, 3, 12, 4, 0) from rfl) (by decide) rfl rfl ?_
              have b27 : (0 : Int) ≤ iI s22 77 ∧ iI s22 77 ≤ 400 := Is22.1 77
              refine z_ast X 183 (show cdA 213 131 = some (.iastore, 1, 0, 0, 0) from rfl) (by decide) rfl (by omega) (show (iI s22 87) < 8 by omega) (by decide) ?_
              obtain ⟨s28, hs28⟩ : ∃ x0, x0 = uC s22 160 ((iI s22 87)).toNat (Int32.ofInt (iI s22 77)) := ⟨_, rfl⟩
              rw [← hs28]
              have Is28 : Bd s28 := by rw [hs28]; exact bd_C Is22 (show (0 : Int) ≤ (iI s22 77) ∧ (iI s22 77) ≤ 200 by omega) ⟨by omega, by omega⟩
              have Fs28 := fm_C (i := ((iI s22 87)).toNat) (x := Int32.ofInt (iI s22 77)) Gs22 (show 160 ∈ _ by decide)
              rw [← hs28] at Fs28
              have ws28_77 : iI s28 77 = iI s22 77 := by rw [hs28]; rfl
              have ws28_75 : iI s28 75 = iI s22 75 := by rw [hs28]; rfl
              have ws28_79 : iI s28 79 = iI s22 79 := by rw [hs28]; rfl
              have ws28_78 : iI s28 78 = iI s22 78 := by rw [hs28]; rfl
              have ws28_86 : iI s28 86 = iI s22 86 := by rw [hs28]; rfl
              have ws28_87 : iI s28 87 = iI s22 87 := by rw [hs28]; rfl
              have ws28_88 : iI s28 88 = iI s22 88 := by rw [hs28]; rfl
              refine z_aload_n X (x := A 179) (show cdA 213 132 = some (.aload_n 0, 1, 0, 0, 0) from rfl) (List.Mem.tail _ (List.Mem.tail _ (List.Mem.tail _ (List.Mem.head _)))) ?_
              refine w_dup X.1 (ax_d X (show cdA 213 133 = some (.dup, 1, 0, 0, 0) from rfl)) rfl ?_
              refine z_getI X 179 (show cdA 213 134 = some (.getfield 288, 3, 12, 17, 0) from rfl) (by decide) rfl rfl ?_
              have b29 : (0 : Int) ≤ iI s28 87 ∧ iI s28 87 ≤ 8 := Is28.1 87
              refine z_const X (show cdA 213 137 = some (.iconst 1, 1, 0, 0, 0) from rfl) ?_
              refine z_add X (show cdA 213 138 = some (.iadd, 1, 0, 0, 0) from rfl) ?_
              refine s_putI X 179 (show cdA 213 139 = some (.putfield 288, 3, 12, 17, 0) from rfl) (by decide) rfl rfl (by decide) rfl rfl rfl ?_
              obtain ⟨s30, hs30⟩ : ∃ x0, x0 = uI s28 87 (Int32.ofInt ((iI s28 87) + 1)) := ⟨_, rfl⟩
              rw [← hs30]
              have Is30 : Bd s30 := by rw [hs30]; exact bd_I Is28 (show (0 : Int) ≤ ((iI s28 87) + 1) ∧ ((iI s28 87) + 1) ≤ 8 by omega) ⟨by omega, by omega⟩
              have Fs30 := fm_I (x := Int32.ofInt ((iI s28 87) + 1)) Fs28 (show 87 ∈ _ by decide)
              rw [← hs30] at Fs30
              have vs30 : iI s30 87 = ((iI s28 87) + 1) := by rw [hs30]; exact iI_u ⟨by omega, by omega⟩
              have ws30_77 : iI s30 77 = iI s28 77 := by rw [hs30]; rfl
              have ws30_75 : iI s30 75 = iI s28 75 := by rw [hs30]; rfl
              have ws30_79 : iI s30 79 = iI s28 79 := by rw [hs30]; rfl
              have ws30_78 : iI s30 78 = iI s28 78 := by rw [hs30]; rfl
              have ws30_86 : iI s30 86 = iI s28 86 := by rw [hs30]; rfl
              have ws30_88 : iI s30 88 = iI s28 88 := by rw [hs30]; rfl
              refine z_aload_n X (x := A 179) (show cdA 213 142 = some (.aload_n 0, 1, 0, 0, 0) from rfl) (List.Mem.tail _ (List.Mem.tail _ (List.Mem.tail _ (List.Mem.head _)))) ?_
              refine z_callV X 179 (rm := rmN 212) (As := []) (st := []) (show cdA 213 143 = some (.invokevirtual 276, 3, 212, 0, 0) from rfl) rfl (by decide) rfl (by rw [E.1, E.2.1, E.2.2.1]; exact k_ors G Is30 (by omega) (by omega) (by omega) (by omega)) ⟨by rw [E.2.2.2]; exact (show (rmN 212).frames + 1 ≤ (rmN 213).frames by decide), by rw [E.2.2.2]; exact (show 8 + (mNL (miB 212) + 11) + (rmN 212).locals ≤ (rmN 213).locals by decide), by rw [E.2.2.2]; exact (show 0 + (rmN 212).cells ≤ (rmN 213).cells by decide), by rw [E.2.2.2]; exact (show 0 + (rmN 212).slots ≤ (rmN 213).slots by decide)⟩ (Nat.le_of_ble_eq_true rfl) (fun vv s31 hq => ?_) (fun ee s31 hq => ?_)
              rotate_left
              · obtain ⟨Is31, Fs31, e32, hv, hrs31, hps31⟩ := hq; cases hv
              obtain ⟨Is31, Fs31, e32, hv, hrs31, hps31⟩ := hq
              cases hv
              have Gs31 := fm_ts Fs30 Fs31 (by decide) (by decide)
              have b33 : (0 : Int) ≤ iI s31 77 ∧ iI s31 77 ≤ 400 := Is31.1 77
              have ws31_75 : iI s31 75 = iI s30 75 := fm_i Fs31 (by decide)
              have b34 : (0 : Int) ≤ iI s31 79 ∧ iI s31 79 ≤ 9 := Is31.1 79
              have b35 : (0 : Int) ≤ iI s31 78 ∧ iI s31 78 ≤ 8 := Is31.1 78
              have ws31_86 : iI s31 86 = iI s30 86 := fm_i Fs31 (by decide)
              have ws31_87 : iI s31 87 = iI s30 87 := fm_i Fs31 (by decide)
              have ws31_88 : iI s31 88 = iI s30 88 := fm_i Fs31 (by decide)
              show WS k 146 [(3, .int (Int32.ofInt 0)), (2, .int (Int32.ofInt 0)), (1, .int (Int32.ofInt e9)), (0, .ref (A 179))] [.int (Int32.ofInt e32)] (Wd A dT s31) 0 0
              refine w_pop X.1 (ax_d X (show cdA 213 146 = some (.pop, 1, 0, 0, 0) from rfl)) rfl ?_
              refine z_aload_n X (x := A 179) (show cdA 213 147 = some (.aload_n 0, 1, 0, 0, 0) from rfl) (List.Mem.tail _ (List.Mem.tail _ (List.Mem.tail _ (List.Mem.head _)))) ?_
              refine z_getI X 179 (show cdA 213 148 = some (.getfield 191, 3, 12, 6, 0) from rfl) (by decide) rfl rfl ?_
              have b36 : (0 : Int) ≤ iI s31 79 ∧ iI s31 79 ≤ 9 := Is31.1 79
              refine z_if_ne X (t := 160) (show cdA 213 151 = some (.ifCond .ne 9, 3, 1, 0, 0) from rfl) (by decide) ⟨by omega, by omega⟩ (fun g37 => ?_) (fun g37 => ?_)
              ·
                refine z_aload_n X (x := A 179) (show cdA 213 160 = some (.aload_n 0, 1, 0, 0, 0) from rfl) (List.Mem.tail _ (List.Mem.tail _ (List.Mem.tail _ (List.Mem.head _)))) ?_
                refine w_dup X.1 (ax_d X (show cdA 213 161 = some (.dup, 1, 0, 0, 0) from rfl)) rfl ?_
                refine z_getI X 179 (show cdA 213 162 = some (.getfield 282, 3, 12, 16, 0) from rfl) (by decide) rfl rfl ?_
                have b38 : (0 : Int) ≤ iI s31 86 ∧ iI s31 86 ≤ 8 := Is31.1 86
                refine z_const X (show cdA 213 165 = some (.iconst 1, 1, 0, 0, 0) from rfl) ?_
                refine z_add X (show cdA 213 166 = some (.iadd, 1, 0, 0, 0) from rfl) ?_
                refine s_putI X 179 (show cdA 213 167 = some (.putfield 282, 3, 12, 16, 0) from rfl) (by decide) rfl rfl (by decide) rfl rfl rfl ?_
                obtain ⟨s39, hs39⟩ : ∃ x0, x0 = uI s31 86 (Int32.ofInt ((iI s31 86) + 1)) := ⟨_, rfl⟩
                rw [← hs39]
                have Is39 : Bd s39 := by rw [hs39]; exact bd_I Is31 (show (0 : Int) ≤ ((iI s31 86) + 1) ∧ ((iI s31 86) + 1) ≤ 8 by omega) ⟨by omega, by omega⟩
                have Fs39 := fm_I (x := Int32.ofInt ((iI s31 86) + 1)) Gs31 (show 86 ∈ _ by decide)
                rw [← hs39] at Fs39
                have vs39 : iI s39 86 = ((iI s31 86) + 1) := by rw [hs39]; exact iI_u ⟨by omega, by omega⟩
                have ws39_77 : iI s39 77 = iI s31 77 := by rw [hs39]; rfl
                have ws39_75 : iI s39 75 = iI s31 75 := by rw [hs39]; rfl
                have ws39_79 : iI s39 79 = iI s31 79 := by rw [hs39]; rfl
                have ws39_78 : iI s39 78 = iI s31 78 := by rw [hs39]; rfl
                have ws39_87 : iI s39 87 = iI s31 87 := by rw [hs39]; rfl
                have ws39_88 : iI s39 88 = iI s31 88 := by rw [hs39]; rfl
                exact w_vret X.1 q hRt (ax_d X (show cdA 213 170 = some (.return_, 1, 0, 0, 0) from rfl)) (Nat.zero_le _) (Nat.zero_le _) ⟨_, rfl, Is39, Fs39, rfl, by omega⟩
              ·
                refine z_aload_n X (x := A 179) (show cdA 213 154 = some (.aload_n 0, 1, 0, 0, 0) from rfl) (List.Mem.tail _ (List.Mem.tail _ (List.Mem.tail _ (List.Mem.head _)))) ?_
                refine z_bipush X (show cdA 213 155 = some (.bipush 59, 2, 0, 0, 59) from rfl) ?_
                refine z_callV X 179 (rm := rmN 204) (As := [.int (Int32.ofInt 59)]) (st := []) (show cdA 213 157 = some (.invokevirtual 263, 3, 204, 0, 0) from rfl) rfl (by decide) rfl (by rw [E.1, E.2.1, E.2.2.1]; exact k_sign G Is31 (by omega) (by omega)) ⟨by rw [E.2.2.2]; exact (show (rmN 204).frames + 1 ≤ (rmN 213).frames by decide), by rw [E.2.2.2]; exact (show 8 + (mNL (miB 204) + 11) + (rmN 204).locals ≤ (rmN 213).locals by decide), by rw [E.2.2.2]; exact (show 0 + (rmN 204).cells ≤ (rmN 213).cells by decide), by rw [E.2.2.2]; exact (show 0 + (rmN 204).slots ≤ (rmN 213).slots by decide)⟩ (Nat.le_of_ble_eq_true rfl) (fun vv s40 hq => ?_) (fun ee s40 hq => ?_)
                rotate_left
                · obtain ⟨Is40, Fs40, hv, hps40⟩ := hq; cases hv
                obtain ⟨Is40, Fs40, hv, hps40⟩ := hq
                cases hv
                have Gs40 := fm_ts Gs31 Fs40 (by decide) (by decide)
                have b42 : (0 : Int) ≤ iI s40 77 ∧ iI s40 77 ≤ 400 := Is40.1 77
                have ws40_75 : iI s40 75 = iI s31 75 := fm_i Fs40 (by decide)
                have b43 : (0 : Int) ≤ iI s40 79 ∧ iI s40 79 ≤ 9 := Is40.1 79
                have ws40_78 : iI s40 78 = iI s31 78 := fm_i Fs40 (by decide)
                have ws40_86 : iI s40 86 = iI s31 86 := fm_i Fs40 (by decide)
                have ws40_87 : iI s40 87 = iI s31 87 := fm_i Fs40 (by decide)
                have ws40_88 : iI s40 88 = iI s31 88 := fm_i Fs40 (by decide)
                show WS k 160 [(3, .int (Int32.ofInt 0)), (2, .int (Int32.ofInt 0)), (1, .int (Int32.ofInt e9)), (0, .ref (A 179))] [] (Wd A dT s40) 0 0
                refine z_aload_n X (x := A 179) (show cdA 213 160 = some (.aload_n 0, 1, 0, 0, 0) from rfl) (List.Mem.tail _ (List.Mem.tail _ (List.Mem.tail _ (List.Mem.head _)))) ?_
                refine w_dup X.1 (ax_d X (show cdA 213 161 = some (.dup, 1, 0, 0, 0) from rfl)) rfl ?_
                refine z_getI X 179 (show cdA 213 162 = some (.getfield 282, 3, 12, 16, 0) from rfl) (by decide) rfl rfl ?_
                have b44 : (0 : Int) ≤ iI s40 86 ∧ iI s40 86 ≤ 8 := Is40.1 86
                refine z_const X (show cdA 213 165 = some (.iconst 1, 1, 0, 0, 0) from rfl) ?_
                refine z_add X (show cdA 213 166 = some (.iadd, 1, 0, 0, 0) from rfl) ?_
                refine s_putI X 179 (show cdA 213 167 = some (.putfield 282, 3, 12, 16, 0) from rfl) (by decide) rfl rfl (by decide) rfl rfl rfl ?_
                obtain ⟨s45, hs45⟩ : ∃ x0, x0 = uI s40 86 (Int32.ofInt ((iI s40 86) + 1)) := ⟨_, rfl⟩
                rw [← hs45]
                have Is45 : Bd s45 := by rw [hs45]; exact bd_I Is40 (show (0 : Int) ≤ ((iI s40 86) + 1) ∧ ((iI s40 86) + 1) ≤ 8 by omega) ⟨by omega, by omega⟩
                have Fs45 := fm_I (x := Int32.ofInt ((iI s40 86) + 1)) Gs40 (show 86 ∈ _ by decide)
                rw [← hs45] at Fs45
                have vs45 : iI s45 86 = ((iI s40 86) + 1) := by rw [hs45]; exact iI_u ⟨by omega, by omega⟩
                have ws45_77 : iI s45 77 = iI s40 77 := by rw [hs45]; rfl
                have ws45_75 : iI s45 75 = iI s40 75 := by rw [hs45]; rfl
                have ws45_79 : iI s45 79 = iI s40 79 := by rw [hs45]; rfl
                have ws45_78 : iI s45 78 = iI s40 78 := by rw [hs45]; rfl
                have ws45_87 : iI s45 87 = iI s40 87 := by rw [hs45]; rfl
                have ws45_88 : iI s45 88 = iI s40 88 := by rw [hs45]; rfl
                exact w_vret X.1 q hRt (ax_d X (show cdA 213 170 = some (.return_, 1, 0, 0, 0) from rfl)) (Nat.zero_le _) (Nat.zero_le _) ⟨_, rfl, Is45, Fs45, rfl, by omega⟩
            ·
              refine z_aload_n X (x := A 179) (show cdA 213 103 = some (.aload_n 0, 1, 0, 0, 0) from rfl) (List.Mem.tail _ (List.Mem.tail _ (List.Mem.tail _ (List.Mem.head _)))) ?_
              refine z_aload_n X (x := A 179) (show cdA 213 104 = some (.aload_n 0, 1, 0, 0, 0) from rfl) (List.Mem.tail _ (List.Mem.tail _ (List.Mem.tail _ (List.Mem.head _)))) ?_
              refine z_getI X 179 (show cdA 213 105 = some (.getfield 184, 3, 12, 4, 0) from rfl) (by decide) rfl rfl ?_
              have b46 : (0 : Int) ≤ iI s22 77 ∧ iI s22 77 ≤ 400 := Is22.1 77
              refine s_putI X 179 (show cdA 213 108 = some (.putfield 285, 3, 12, 18, 0) from rfl) (by decide) rfl rfl (by decide) rfl rfl rfl ?_
              obtain ⟨s47, hs47⟩ : ∃ x0, x0 = uI s22 88 (Int32.ofInt (iI s22 77)) := ⟨_, rfl⟩
              rw [← hs47]
              have Is47 : Bd s47 := by rw [hs47]; exact bd_I Is22 (show ((-1) : Int) ≤ (iI s22 77) ∧ (iI s22 77) ≤ 200 by omega) ⟨by omega, by omega⟩
              have Fs47 := fm_I (x := Int32.ofInt (iI s22 77)) Gs22 (show 88 ∈ _ by decide)
              rw [← hs47] at Fs47
              have vs47 : iI s47 88 = (iI s22 77) := by rw [hs47]; exact iI_u ⟨by omega, by omega⟩
              have ws47_77 : iI s47 77 = iI s22 77 := by rw [hs47]; rfl
              have ws47_75 : iI s47 75 = iI s22 75 := by rw [hs47]; rfl
              have ws47_79 : iI s47 79 = iI s22 79 := by rw [hs47]; rfl
              have ws47_78 : iI s47 78 = iI s22 78 := by rw [hs47]; rfl
              have ws47_86 : iI s47 86 = iI s22 86 := by rw [hs47]; rfl
              have ws47_87 : iI s47 87 = iI s22 87 := by rw [hs47]; rfl
              refine z_aload_n X (x := A 179) (show cdA 213 111 = some (.aload_n 0, 1, 0, 0, 0) from rfl) (List.Mem.tail _ (List.Mem.tail _ (List.Mem.tail _ (List.Mem.head _)))) ?_
              refine z_callV X 179 (rm := rmN 209) (As := []) (st := []) (show cdA 213 112 = some (.invokevirtual 260, 3, 209, 0, 0) from rfl) rfl (by decide) rfl (by rw [E.1, E.2.1, E.2.2.1]; exact k_sum G Is47 (by omega) (by omega) (by omega)) ⟨by rw [E.2.2.2]; exact (show (rmN 209).frames + 1 ≤ (rmN 213).frames by decide), by rw [E.2.2.2]; exact (show 8 + (mNL (miB 209) + 11) + (rmN 209).locals ≤ (rmN 213).locals by decide), by rw [E.2.2.2]; exact (show 0 + (rmN 209).cells ≤ (rmN 213).cells by decide), by rw [E.2.2.2]; exact (show 0 + (rmN 209).slots ≤ (rmN 213).slots by decide)⟩ (Nat.le_of_ble_eq_true rfl) (fun vv s48 hq => ?_) (fun ee s48 hq => ?_)
              rotate_left
              · obtain ⟨Is48, Fs48, e49, hv, hrs48, hps48⟩ := hq; cases hv
              obtain ⟨Is48, Fs48, e49, hv, hrs48, hps48⟩ := hq
              cases hv
              have Gs48 := fm_ts Fs47 Fs48 (by decide) (by decide)
              have b50 : (0 : Int) ≤ iI s48 77 ∧ iI s48 77 ≤ 400 := Is48.1 77
              have ws48_75 : iI s48 75 = iI s47 75 := fm_i Fs48 (by decide)
              have b51 : (0 : Int) ≤ iI s48 79 ∧ iI s48 79 ≤ 9 := Is48.1 79
              have b52 : (0 : Int) ≤ iI s48 78 ∧ iI s48 78 ≤ 8 := Is48.1 78
              have ws48_86 : iI s48 86 = iI s47 86 := fm_i Fs48 (by decide)
              have ws48_87 : iI s48 87 = iI s47 87 := fm_i Fs48 (by decide)
              have ws48_88 : iI s48 88 = iI s47 88 := fm_i Fs48 (by decide)
              show WS k 115 [(3, .int (Int32.ofInt 0)), (2, .int (Int32.ofInt 0)), (1, .int (Int32.ofInt e9)), (0, .ref (A 179))] [.int (Int32.ofInt e49)] (Wd A dT s48) 0 0
              refine w_pop X.1 (ax_d X (show cdA 213 115 = some (.pop, 1, 0, 0, 0) from rfl)) rfl ?_
              refine z_goto X (t := 147) (show cdA 213 116 = some (.goto 31, 3, 0, 0, 0) from rfl) (by decide) ?_
              refine z_aload_n X (x := A 179) (show cdA 213 147 = some (.aload_n 0, 1, 0, 0, 0) from rfl) (List.Mem.tail _ (List.Mem.tail _ (List.Mem.tail _ (List.Mem.head _)))) ?_
              refine z_getI X 179 (show cdA 213 148 = some (.getfield 191, 3, 12, 6, 0) from rfl) (by decide) rfl rfl ?_
              have b53 : (0 : Int) ≤ iI s48 79 ∧ iI s48 79 ≤ 9 := Is48.1 79
              refine z_if_ne X (t := 160) (show cdA 213 151 = some (.ifCond .ne 9, 3, 1, 0, 0) from rfl) (by decide) ⟨by omega, by omega⟩ (fun g54 => ?_) (fun g54 => ?_)
              ·
                refine z_aload_n X (x := A 179) (show cdA 213 160 = some (.aload_n 0, 1, 0, 0, 0) from rfl) (List.Mem.tail _ (List.Mem.tail _ (List.Mem.tail _ (List.Mem.head _)))) ?_
                refine w_dup X.1 (ax_d X (show cdA 213 161 = some (.dup, 1, 0, 0, 0) from rfl)) rfl ?_
                refine z_getI X 179 (show cdA 213 162 = some (.getfield 282, 3, 12, 16, 0) from rfl) (by decide) rfl rfl ?_
                have b55 : (0 : Int) ≤ iI s48 86 ∧ iI s48 86 ≤ 8 := Is48.1 86
                refine z_const X (show cdA 213 165 = some (.iconst 1, 1, 0, 0, 0) from rfl) ?_
                refine z_add X (show cdA 213 166 = some (.iadd, 1, 0, 0, 0) from rfl) ?_
                refine s_putI X 179 (show cdA 213 167 = some (.putfield 282, 3, 12, 16, 0) from rfl) (by decide) rfl rfl (by decide) rfl rfl rfl ?_
                obtain ⟨s56, hs56⟩ : ∃ x0, x0 = uI s48 86 (Int32.ofInt ((iI s48 86) + 1)) := ⟨_, rfl⟩
                rw [← hs56]
                have Is56 : Bd s56 := by rw [hs56]; exact bd_I Is48 (show (0 : Int) ≤ ((iI s48 86) + 1) ∧ ((iI s48 86) + 1) ≤ 8 by omega) ⟨by omega, by omega⟩
                have Fs56 := fm_I (x := Int32.ofInt ((iI s48 86) + 1)) Gs48 (show 86 ∈ _ by decide)
                rw [← hs56] at Fs56
                have vs56 : iI s56 86 = ((iI s48 86) + 1) := by rw [hs56]; exact iI_u ⟨by omega, by omega⟩
                have ws56_77 : iI s56 77 = iI s48 77 := by rw [hs56]; rfl
                have ws56_75 : iI s56 75 = iI s48 75 := by rw [hs56]; rfl
                have ws56_79 : iI s56 79 = iI s48 79 := by rw [hs56]; rfl
                have ws56_78 : iI s56 78 = iI s48 78 := by rw [hs56]; rfl
                have ws56_87 : iI s56 87 = iI s48 87 := by rw [hs56]; rfl
                have ws56_88 : iI s56 88 = iI s48 88 := by rw [hs56]; rfl
                exact w_vret X.1 q hRt (ax_d X (show cdA 213 170 = some (.return_, 1, 0, 0, 0) from rfl)) (Nat.zero_le _) (Nat.zero_le _) ⟨_, rfl, Is56, Fs56, rfl, by omega⟩
              ·
                refine z_aload_n X (x := A 179) (show cdA 213 154 = some (.aload_n 0, 1, 0, 0, 0) from rfl) (List.Mem.tail _ (List.Mem.tail _ (List.Mem.tail _ (List.Mem.head _)))) ?_
                refine z_bipush X (show cdA 213 155 = some (.bipush 59, 2, 0, 0, 59) from rfl) ?_
                refine z_callV X 179 (rm := rmN 204) (As := [.int (Int32.ofInt 59)]) (st := []) (show cdA 213 157 = some (.invokevirtual 263, 3, 204, 0, 0) from rfl) rfl (by decide) rfl (by rw [E.1, E.2.1, E.2.2.1]; exact k_sign G Is48 (by omega) (by omega)) ⟨by rw [E.2.2.2]; exact (show (rmN 204).frames + 1 ≤ (rmN 213).frames by decide), by rw [E.2.2.2]; exact (show 8 + (mNL (miB 204) + 11) + (rmN 204).locals ≤ (rmN 213).locals by decide), by rw [E.2.2.2]; exact (show 0 + (rmN 204).cells ≤ (rmN 213).cells by decide), by rw [E.2.2.2]; exact (show 0 + (rmN 204).slots ≤ (rmN 213).slots by decide)⟩ (Nat.le_of_ble_eq_true rfl) (fun vv s57 hq => ?_) (fun ee s57 hq => ?_)
                rotate_left
                · obtain ⟨Is57, Fs57, hv, hps57⟩ := hq; cases hv
                obtain ⟨Is57, Fs57, hv, hps57⟩ := hq
                cases hv
                have Gs57 := fm_ts Gs48 Fs57 (by decide) (by decide)
                have b59 : (0 : Int) ≤ iI s57 77 ∧ iI s57 77 ≤ 400 := Is57.1 77
                have ws57_75 : iI s57 75 = iI s48 75 := fm_i Fs57 (by decide)
                have b60 : (0 : Int) ≤ iI s57 79 ∧ iI s57 79 ≤ 9 := Is57.1 79
                have ws57_78 : iI s57 78 = iI s48 78 := fm_i Fs57 (by decide)
                have ws57_86 : iI s57 86 = iI s48 86 := fm_i Fs57 (by decide)
                have ws57_87 : iI s57 87 = iI s48 87 := fm_i Fs57 (by decide)
                have ws57_88 : iI s57 88 = iI s48 88 := fm_i Fs57 (by decide)
                show WS k 160 [(3, .int (Int32.ofInt 0)), (2, .int (Int32.ofInt 0)), (1, .int (Int32.ofInt e9)), (0, .ref (A 179))] [] (Wd A dT s57) 0 0
                refine z_aload_n X (x := A 179) (show cdA 213 160 = some (.aload_n 0, 1, 0, 0, 0) from rfl) (List.Mem.tail _ (List.Mem.tail _ (List.Mem.tail _ (List.Mem.head _)))) ?_
                refine w_dup X.1 (ax_d X (show cdA 213 161 = some (.dup, 1, 0, 0, 0) from rfl)) rfl ?_
                refine z_getI X 179 (show cdA 213 162 = some (.getfield 282, 3, 12, 16, 0) from rfl) (by decide) rfl rfl ?_
                have b61 : (0 : Int) ≤ iI s57 86 ∧ iI s57 86 ≤ 8 := Is57.1 86
                refine z_const X (show cdA 213 165 = some (.iconst 1, 1, 0, 0, 0) from rfl) ?_
                refine z_add X (show cdA 213 166 = some (.iadd, 1, 0, 0, 0) from rfl) ?_
                refine s_putI X 179 (show cdA 213 167 = some (.putfield 282, 3, 12, 16, 0) from rfl) (by decide) rfl rfl (by decide) rfl rfl rfl ?_
                obtain ⟨s62, hs62⟩ : ∃ x0, x0 = uI s57 86 (Int32.ofInt ((iI s57 86) + 1)) := ⟨_, rfl⟩
                rw [← hs62]
                have Is62 : Bd s62 := by rw [hs62]; exact bd_I Is57 (show (0 : Int) ≤ ((iI s57 86) + 1) ∧ ((iI s57 86) + 1) ≤ 8 by omega) ⟨by omega, by omega⟩
                have Fs62 := fm_I (x := Int32.ofInt ((iI s57 86) + 1)) Gs57 (show 86 ∈ _ by decide)
                rw [← hs62] at Fs62
                have vs62 : iI s62 86 = ((iI s57 86) + 1) := by rw [hs62]; exact iI_u ⟨by omega, by omega⟩
                have ws62_77 : iI s62 77 = iI s57 77 := by rw [hs62]; rfl
                have ws62_75 : iI s62 75 = iI s57 75 := by rw [hs62]; rfl
                have ws62_79 : iI s62 79 = iI s57 79 := by rw [hs62]; rfl
                have ws62_78 : iI s62 78 = iI s57 78 := by rw [hs62]; rfl
                have ws62_87 : iI s62 87 = iI s57 87 := by rw [hs62]; rfl
                have ws62_88 : iI s62 88 = iI s57 88 := by rw [hs62]; rfl
                exact w_vret X.1 q hRt (ax_d X (show cdA 213 170 = some (.return_, 1, 0, 0, 0) from rfl)) (Nat.zero_le _) (Nat.zero_le _) ⟨_, rfl, Is62, Fs62, rfl, by omega⟩
          ·
            exact w_vret X.1 q hRt (ax_d X (show cdA 213 94 = some (.return_, 1, 0, 0, 0) from rfl)) (Nat.zero_le _) (Nat.zero_le _) ⟨_, rfl, Is14, Gs14, rfl, by omega⟩
        ·
          refine z_aload_n X (x := A 179) (show cdA 213 78 = some (.aload_n 0, 1, 0, 0, 0) from rfl) (List.Mem.tail _ (List.Mem.tail _ (List.Mem.tail _ (List.Mem.head _)))) ?_
          refine z_const X (show cdA 213 79 = some (.iconst 3, 1, 0, 0, 0) from rfl) ?_
          refine z_aload_n X (x := A 179) (show cdA 213 80 = some (.aload_n 0, 1, 0, 0, 0) from rfl) (List.Mem.tail _ (List.Mem.tail _ (List.Mem.tail _ (List.Mem.head _)))) ?_
          refine z_getI X 179 (show cdA 213 81 = some (.getfield 184, 3, 12, 4, 0) from rfl) (by decide) rfl rfl ?_
          have b63 : (0 : Int) ≤ iI s14 77 ∧ iI s14 77 ≤ 400 := Is14.1 77
          refine z_callV X 179 (rm := rmN 194) (As := [.int (Int32.ofInt 3), .int (Int32.ofInt (iI s14 77))]) (st := []) (show cdA 213 84 = some (.invokevirtual 204, 3, 194, 0, 0) from rfl) rfl (by decide) rfl (by rw [E.1, E.2.1, E.2.2.1]; exact k_wrong G Is14 (by omega) (by omega)) ⟨by rw [E.2.2.2]; exact (show (rmN 194).frames + 1 ≤ (rmN 213).frames by decide), by rw [E.2.2.2]; exact (show 8 + (mNL (miB 194) + 11) + (rmN 194).locals ≤ (rmN 213).locals by decide), by rw [E.2.2.2]; exact (show 0 + (rmN 194).cells ≤ (rmN 213).cells by decide), by rw [E.2.2.2]; exact (show 0 + (rmN 194).slots ≤ (rmN 213).slots by decide)⟩ (Nat.le_of_ble_eq_true rfl) (fun vv s64 hq => ?_) (fun ee s64 hq => ?_)
          rotate_left
          · obtain ⟨Is64, Fs64, hv, hps64⟩ := hq; cases hv
          obtain ⟨Is64, Fs64, hv, hps64⟩ := hq
          cases hv
          have Gs64 := fm_ts Gs14 Fs64 (by decide) (by decide)
          have ws64_77 : iI s64 77 = iI s14 77 := fm_i Fs64 (by decide)
          have ws64_75 : iI s64 75 = iI s14 75 := fm_i Fs64 (by decide)
          have b66 : (0 : Int) ≤ iI s64 79 ∧ iI s64 79 ≤ 9 := Is64.1 79
          have ws64_78 : iI s64 78 = iI s14 78 := fm_i Fs64 (by decide)
          have ws64_86 : iI s64 86 = iI s14 86 := fm_i Fs64 (by decide)
          have ws64_87 : iI s64 87 = iI s14 87 := fm_i Fs64 (by decide)
          have ws64_88 : iI s64 88 = iI s14 88 := fm_i Fs64 (by decide)
          show WS k 87 [(3, .int (Int32.ofInt 0)), (2, .int (Int32.ofInt 0)), (1, .int (Int32.ofInt e9)), (0, .ref (A 179))] [] (Wd A dT s64) 0 0
          refine z_aload_n X (x := A 179) (show cdA 213 87 = some (.aload_n 0, 1, 0, 0, 0) from rfl) (List.Mem.tail _ (List.Mem.tail _ (List.Mem.tail _ (List.Mem.head _)))) ?_
          refine z_getI X 179 (show cdA 213 88 = some (.getfield 191, 3, 12, 6, 0) from rfl) (by decide) rfl rfl ?_
          have b67 : (0 : Int) ≤ iI s64 79 ∧ iI s64 79 ≤ 9 := Is64.1 79
          refine z_if_eq X (t := 95) (show cdA 213 91 = some (.ifCond .eq 4, 3, 0, 0, 0) from rfl) (by decide) ⟨by omega, by omega⟩ (fun g68 => ?_) (fun g68 => ?_)
          ·
            refine z_aload_n X (x := A 179) (show cdA 213 95 = some (.aload_n 0, 1, 0, 0, 0) from rfl) (List.Mem.tail _ (List.Mem.tail _ (List.Mem.tail _ (List.Mem.head _)))) ?_
            refine z_callV X 179 (rm := rmN 203) (As := []) (st := []) (show cdA 213 96 = some (.invokevirtual 254, 3, 203, 0, 0) from rfl) rfl (by decide) rfl (by rw [E.1, E.2.1, E.2.2.1]; exact k_skipWord G Is64 (by omega)) ⟨by rw [E.2.2.2]; exact (show (rmN 203).frames + 1 ≤ (rmN 213).frames by decide), by rw [E.2.2.2]; exact (show 8 + (mNL (miB 203) + 11) + (rmN 203).locals ≤ (rmN 213).locals by decide), by rw [E.2.2.2]; exact (show 0 + (rmN 203).cells ≤ (rmN 213).cells by decide), by rw [E.2.2.2]; exact (show 0 + (rmN 203).slots ≤ (rmN 213).slots by decide)⟩ (Nat.le_of_ble_eq_true rfl) (fun vv s69 hq => ?_) (fun ee s69 hq => ?_)
            rotate_left
            · obtain ⟨Is69, Fs69, hv, hps69⟩ := hq; cases hv
            obtain ⟨Is69, Fs69, hv, hps69⟩ := hq
            cases hv
            have Gs69 := fm_ts Gs64 Fs69 (by decide) (by decide)
            have b71 : (0 : Int) ≤ iI s69 77 ∧ iI s69 77 ≤ 400 := Is69.1 77
            have ws69_75 : iI s69 75 = iI s64 75 := fm_i Fs69 (by decide)
            have ws69_79 : iI s69 79 = iI s64 79 := fm_i Fs69 (by decide)
            have ws69_78 : iI s69 78 = iI s64 78 := fm_i Fs69 (by decide)
            have ws69_86 : iI s69 86 = iI s64 86 := fm_i Fs69 (by decide)
            have ws69_87 : iI s69 87 = iI s64 87 := fm_i Fs69 (by decide)
            have ws69_88 : iI s69 88 = iI s64 88 := fm_i Fs69 (by decide)
            show WS k 99 [(3, .int (Int32.ofInt 0)), (2, .int (Int32.ofInt 0)), (1, .int (Int32.ofInt e9)), (0, .ref (A 179))] [] (Wd A dT s69) 0 0
            refine z_load_n X (x := 0) (show cdA 213 99 = some (.iload_n 2, 1, 0, 0, 0) from rfl) (List.Mem.tail _ (List.Mem.head _)) ?_
            refine z_if_eq X (t := 119) (show cdA 213 100 = some (.ifCond .eq 19, 3, 0, 0, 0) from rfl) (by decide) ⟨by omega, by omega⟩ (fun g72 => ?_) (fun g72 => ?_)
            ·
              refine z_aload_n X (x := A 179) (show cdA 213 119 = some (.aload_n 0, 1, 0, 0, 0) from rfl) (List.Mem.tail _ (List.Mem.tail _ (List.Mem.tail _ (List.Mem.head _)))) ?_
              refine s_getR X 179 (show cdA 213 120 = some (.getfield 29, 3, 12, 20, 0) from rfl) (by decide) rfl rfl ?_
              refine z_aload_n X (x := A 179) (show cdA 213 123 = some (.aload_n 0, 1, 0, 0, 0) from rfl) (List.Mem.tail _ (List.Mem.tail _ (List.Mem.tail _ (List.Mem.head _)))) ?_
              refine z_getI X 179 (show cdA 213 124 = some (.getfield 288, 3, 12, 17, 0) from rfl) (by decide) rfl rfl ?_
              have b73 : (0 : Int) ≤ iI s69 87 ∧ iI s69 87 ≤ 8 := Is69.1 87
              refine z_aload_n X (x := A 179) (show cdA 213 127 = some (.aload_n 0, 1, 0, 0, 0) from rfl) (List.Mem.tail _ (List.Mem.tail _ (List.Mem.tail _ (List.Mem.head _)))) ?_
              refine z_getI X 179 (show cdA 213 128 = some (.getfield 184, 3, 12, 4, 0) from rfl) (by decide) rfl rfl ?_
              have b74 : (0 : Int) ≤ iI s69 77 ∧ iI s69 77 ≤ 400 := Is69.1 77
              refine z_ast X 183 (show cdA 213 131 = some (.iastore, 1, 0, 0, 0) from rfl) (by decide) rfl (by omega) (show (iI s69 87) < 8 by omega) (by decide) ?_
              obtain ⟨s75, hs75⟩ : ∃ x0, x0 = uC s69 160 ((iI s69 87)).toNat (Int32.ofInt (iI s69 77)) := ⟨_, rfl⟩
              rw [← hs75]
              have Is75 : Bd s75 := by rw [hs75]; exact bd_C Is69 (show (0 : Int) ≤ (iI s69 77) ∧ (iI s69 77) ≤ 200 by omega) ⟨by omega, by omega⟩
              have Fs75 := fm_C (i := ((iI s69 87)).toNat) (x := Int32.ofInt (iI s69 77)) Gs69 (show 160 ∈ _ by decide)
              rw [← hs75] at Fs75
              have ws75_77 : iI s75 77 = iI s69 77 := by rw [hs75]; rfl
              have ws75_75 : iI s75 75 = iI s69 75 := by rw [hs75]; rfl
              have ws75_79 : iI s75 79 = iI s69 79 := by rw [hs75]; rfl
              have ws75_78 : iI s75 78 = iI s69 78 := by rw [hs75]; rfl
              have ws75_86 : iI s75 86 = iI s69 86 := by rw [hs75]; rfl
              have ws75_87 : iI s75 87 = iI s69 87 := by rw [hs75]; rfl
              have ws75_88 : iI s75 88 = iI s69 88 := by rw [hs75]; rfl
              refine z_aload_n X (x := A 179) (show cdA 213 132 = some (.aload_n 0, 1, 0, 0, 0) from rfl) (List.Mem.tail _ (List.Mem.tail _ (List.Mem.tail _ (List.Mem.head _)))) ?_
              refine w_dup X.1 (ax_d X (show cdA 213 133 = some (.dup, 1, 0, 0, 0) from rfl)) rfl ?_
              refine z_getI X 179 (show cdA 213 134 = some (.getfield 288, 3, 12, 17, 0) from rfl) (by decide) rfl rfl ?_
              have b76 : (0 : Int) ≤ iI s75 87 ∧ iI s75 87 ≤ 8 := Is75.1 87
              refine z_const X (show cdA 213 137 = some (.iconst 1, 1, 0, 0, 0) from rfl) ?_
              refine z_add X (show cdA 213 138 = some (.iadd, 1, 0, 0, 0) from rfl) ?_
              refine s_putI X 179 (show cdA 213 139 = some (.putfield 288, 3, 12, 17, 0) from rfl) (by decide) rfl rfl (by decide) rfl rfl rfl ?_
              obtain ⟨s77, hs77⟩ : ∃ x0, x0 = uI s75 87 (Int32.ofInt ((iI s75 87) + 1)) := ⟨_, rfl⟩
              rw [← hs77]
              have Is77 : Bd s77 := by rw [hs77]; exact bd_I Is75 (show (0 : Int) ≤ ((iI s75 87) + 1) ∧ ((iI s75 87) + 1) ≤ 8 by omega) ⟨by omega, by omega⟩
              have Fs77 := fm_I (x := Int32.ofInt ((iI s75 87) + 1)) Fs75 (show 87 ∈ _ by decide)
              rw [← hs77] at Fs77
              have vs77 : iI s77 87 = ((iI s75 87) + 1) := by rw [hs77]; exact iI_u ⟨by omega, by omega⟩
              have ws77_77 : iI s77 77 = iI s75 77 := by rw [hs77]; rfl
              have ws77_75 : iI s77 75 = iI s75 75 := by rw [hs77]; rfl
              have ws77_79 : iI s77 79 = iI s75 79 := by rw [hs77]; rfl
              have ws77_78 : iI s77 78 = iI s75 78 := by rw [hs77]; rfl
              have ws77_86 : iI s77 86 = iI s75 86 := by rw [hs77]; rfl
              have ws77_88 : iI s77 88 = iI s75 88 := by rw [hs77]; rfl
              refine z_aload_n X (x := A 179) (show cdA 213 142 = some (.aload_n 0, 1, 0, 0, 0) from rfl) (List.Mem.tail _ (List.Mem.tail _ (List.Mem.tail _ (List.Mem.head _)))) ?_
              refine z_callV X 179 (rm := rmN 212) (As := []) (st := []) (show cdA 213 143 = some (.invokevirtual 276, 3, 212, 0, 0) from rfl) rfl (by decide) rfl (by rw [E.1, E.2.1, E.2.2.1]; exact k_ors G Is77 (by omega) (by omega) (by omega) (by omega)) ⟨by rw [E.2.2.2]; exact (show (rmN 212).frames + 1 ≤ (rmN 213).frames by decide), by rw [E.2.2.2]; exact (show 8 + (mNL (miB 212) + 11) + (rmN 212).locals ≤ (rmN 213).locals by decide), by rw [E.2.2.2]; exact (show 0 + (rmN 212).cells ≤ (rmN 213).cells by decide), by rw [E.2.2.2]; exact (show 0 + (rmN 212).slots ≤ (rmN 213).slots by decide)⟩ (Nat.le_of_ble_eq_true rfl) (fun vv s78 hq => ?_) (fun ee s78 hq => ?_)
              rotate_left
              · obtain ⟨Is78, Fs78, e79, hv, hrs78, hps78⟩ := hq; cases hv
              obtain ⟨Is78, Fs78, e79, hv, hrs78, hps78⟩ := hq
              cases hv
              have Gs78 := fm_ts Fs77 Fs78 (by decide) (by decide)
              have b80 : (0 : Int) ≤ iI s78 77 ∧ iI s78 77 ≤ 400 := Is78.1 77
              have ws78_75 : iI s78 75 = iI s77 75 := fm_i Fs78 (by decide)
              have b81 : (0 : Int) ≤ iI s78 79 ∧ iI s78 79 ≤ 9 := Is78.1 79
              have b82 : (0 : Int) ≤ iI s78 78 ∧ iI s78 78 ≤ 8 := Is78.1 78
              have ws78_86 : iI s78 86 = iI s77 86 := fm_i Fs78 (by decide)
              have ws78_87 : iI s78 87 = iI s77 87 := fm_i Fs78 (by decide)
              have ws78_88 : iI s78 88 = iI s77 88 := fm_i Fs78 (by decide)
              show WS k 146 [(3, .int (Int32.ofInt 0)), (2, .int (Int32.ofInt 0)), (1, .int (Int32.ofInt e9)), (0, .ref (A 179))] [.int (Int32.ofInt e79)] (Wd A dT s78) 0 0
              refine w_pop X.1 (ax_d X (show cdA 213 146 = some (.pop, 1, 0, 0, 0) from rfl)) rfl ?_
              refine z_aload_n X (x := A 179) (show cdA 213 147 = some (.aload_n 0, 1, 0, 0, 0) from rfl) (List.Mem.tail _ (List.Mem.tail _ (List.Mem.tail _ (List.Mem.head _)))) ?_
              refine z_getI X 179 (show cdA 213 148 = some (.getfield 191, 3, 12, 6, 0) from rfl) (by decide) rfl rfl ?_
              have b83 : (0 : Int) ≤ iI s78 79 ∧ iI s78 79 ≤ 9 := Is78.1 79
              refine z_if_ne X (t := 160) (show cdA 213 151 = some (.ifCond .ne 9, 3, 1, 0, 0) from rfl) (by decide) ⟨by omega, by omega⟩ (fun g84 => ?_) (fun g84 => ?_)
              ·
                refine z_aload_n X (x := A 179) (show cdA 213 160 = some (.aload_n 0, 1, 0, 0, 0) from rfl) (List.Mem.tail _ (List.Mem.tail _ (List.Mem.tail _ (List.Mem.head _)))) ?_
                refine w_dup X.1 (ax_d X (show cdA 213 161 = some (.dup, 1, 0, 0, 0) from rfl)) rfl ?_
                refine z_getI X 179 (show cdA 213 162 = some (.getfield 282, 3, 12, 16, 0) from rfl) (by decide) rfl rfl ?_
                have b85 : (0 : Int) ≤ iI s78 86 ∧ iI s78 86 ≤ 8 := Is78.1 86
                refine z_const X (show cdA 213 165 = some (.iconst 1, 1, 0, 0, 0) from rfl) ?_
                refine z_add X (show cdA 213 166 = some (.iadd, 1, 0, 0, 0) from rfl) ?_
                refine s_putI X 179 (show cdA 213 167 = some (.putfield 282, 3, 12, 16, 0) from rfl) (by decide) rfl rfl (by decide) rfl rfl rfl ?_
                obtain ⟨s86, hs86⟩ : ∃ x0, x0 = uI s78 86 (Int32.ofInt ((iI s78 86) + 1)) := ⟨_, rfl⟩
                rw [← hs86]
                have Is86 : Bd s86 := by rw [hs86]; exact bd_I Is78 (show (0 : Int) ≤ ((iI s78 86) + 1) ∧ ((iI s78 86) + 1) ≤ 8 by omega) ⟨by omega, by omega⟩
                have Fs86 := fm_I (x := Int32.ofInt ((iI s78 86) + 1)) Gs78 (show 86 ∈ _ by decide)
                rw [← hs86] at Fs86
                have vs86 : iI s86 86 = ((iI s78 86) + 1) := by rw [hs86]; exact iI_u ⟨by omega, by omega⟩
                have ws86_77 : iI s86 77 = iI s78 77 := by rw [hs86]; rfl
                have ws86_75 : iI s86 75 = iI s78 75 := by rw [hs86]; rfl
                have ws86_79 : iI s86 79 = iI s78 79 := by rw [hs86]; rfl
                have ws86_78 : iI s86 78 = iI s78 78 := by rw [hs86]; rfl
                have ws86_87 : iI s86 87 = iI s78 87 := by rw [hs86]; rfl
                have ws86_88 : iI s86 88 = iI s78 88 := by rw [hs86]; rfl
                exact w_vret X.1 q hRt (ax_d X (show cdA 213 170 = some (.return_, 1, 0, 0, 0) from rfl)) (Nat.zero_le _) (Nat.zero_le _) ⟨_, rfl, Is86, Fs86, rfl, by omega⟩
              ·
                refine z_aload_n X (x := A 179) (show cdA 213 154 = some (.aload_n 0, 1, 0, 0, 0) from rfl) (List.Mem.tail _ (List.Mem.tail _ (List.Mem.tail _ (List.Mem.head _)))) ?_
                refine z_bipush X (show cdA 213 155 = some (.bipush 59, 2, 0, 0, 59) from rfl) ?_
                refine z_callV X 179 (rm := rmN 204) (As := [.int (Int32.ofInt 59)]) (st := []) (show cdA 213 157 = some (.invokevirtual 263, 3, 204, 0, 0) from rfl) rfl (by decide) rfl (by rw [E.1, E.2.1, E.2.2.1]; exact k_sign G Is78 (by omega) (by omega)) ⟨by rw [E.2.2.2]; exact (show (rmN 204).frames + 1 ≤ (rmN 213).frames by decide), by rw [E.2.2.2]; exact (show 8 + (mNL (miB 204) + 11) + (rmN 204).locals ≤ (rmN 213).locals by decide), by rw [E.2.2.2]; exact (show 0 + (rmN 204).cells ≤ (rmN 213).cells by decide), by rw [E.2.2.2]; exact (show 0 + (rmN 204).slots ≤ (rmN 213).slots by decide)⟩ (Nat.le_of_ble_eq_true rfl) (fun vv s87 hq => ?_) (fun ee s87 hq => ?_)
                rotate_left
                · obtain ⟨Is87, Fs87, hv, hps87⟩ := hq; cases hv
                obtain ⟨Is87, Fs87, hv, hps87⟩ := hq
                cases hv
                have Gs87 := fm_ts Gs78 Fs87 (by decide) (by decide)
                have b89 : (0 : Int) ≤ iI s87 77 ∧ iI s87 77 ≤ 400 := Is87.1 77
                have ws87_75 : iI s87 75 = iI s78 75 := fm_i Fs87 (by decide)
                have b90 : (0 : Int) ≤ iI s87 79 ∧ iI s87 79 ≤ 9 := Is87.1 79
                have ws87_78 : iI s87 78 = iI s78 78 := fm_i Fs87 (by decide)
                have ws87_86 : iI s87 86 = iI s78 86 := fm_i Fs87 (by decide)
                have ws87_87 : iI s87 87 = iI s78 87 := fm_i Fs87 (by decide)
                have ws87_88 : iI s87 88 = iI s78 88 := fm_i Fs87 (by decide)
                show WS k 160 [(3, .int (Int32.ofInt 0)), (2, .int (Int32.ofInt 0)), (1, .int (Int32.ofInt e9)), (0, .ref (A 179))] [] (Wd A dT s87) 0 0
                refine z_aload_n X (x := A 179) (show cdA 213 160 = some (.aload_n 0, 1, 0, 0, 0) from rfl) (List.Mem.tail _ (List.Mem.tail _ (List.Mem.tail _ (List.Mem.head _)))) ?_
                refine w_dup X.1 (ax_d X (show cdA 213 161 = some (.dup, 1, 0, 0, 0) from rfl)) rfl ?_
                refine z_getI X 179 (show cdA 213 162 = some (.getfield 282, 3, 12, 16, 0) from rfl) (by decide) rfl rfl ?_
                have b91 : (0 : Int) ≤ iI s87 86 ∧ iI s87 86 ≤ 8 := Is87.1 86
                refine z_const X (show cdA 213 165 = some (.iconst 1, 1, 0, 0, 0) from rfl) ?_
                refine z_add X (show cdA 213 166 = some (.iadd, 1, 0, 0, 0) from rfl) ?_
                refine s_putI X 179 (show cdA 213 167 = some (.putfield 282, 3, 12, 16, 0) from rfl) (by decide) rfl rfl (by decide) rfl rfl rfl ?_
                obtain ⟨s92, hs92⟩ : ∃ x0, x0 = uI s87 86 (Int32.ofInt ((iI s87 86) + 1)) := ⟨_, rfl⟩
                rw [← hs92]
                have Is92 : Bd s92 := by rw [hs92]; exact bd_I Is87 (show (0 : Int) ≤ ((iI s87 86) + 1) ∧ ((iI s87 86) + 1) ≤ 8 by omega) ⟨by omega, by omega⟩
                have Fs92 := fm_I (x := Int32.ofInt ((iI s87 86) + 1)) Gs87 (show 86 ∈ _ by decide)
                rw [← hs92] at Fs92
                have vs92 : iI s92 86 = ((iI s87 86) + 1) := by rw [hs92]; exact iI_u ⟨by omega, by omega⟩
                have ws92_77 : iI s92 77 = iI s87 77 := by rw [hs92]; rfl
                have ws92_75 : iI s92 75 = iI s87 75 := by rw [hs92]; rfl
                have ws92_79 : iI s92 79 = iI s87 79 := by rw [hs92]; rfl
                have ws92_78 : iI s92 78 = iI s87 78 := by rw [hs92]; rfl
                have ws92_87 : iI s92 87 = iI s87 87 := by rw [hs92]; rfl
                have ws92_88 : iI s92 88 = iI s87 88 := by rw [hs92]; rfl
                exact w_vret X.1 q hRt (ax_d X (show cdA 213 170 = some (.return_, 1, 0, 0, 0) from rfl)) (Nat.zero_le _) (Nat.zero_le _) ⟨_, rfl, Is92, Fs92, rfl, by omega⟩
            ·
              refine z_aload_n X (x := A 179) (show cdA 213 103 = some (.aload_n 0, 1, 0, 0, 0) from rfl) (List.Mem.tail _ (List.Mem.tail _ (List.Mem.tail _ (List.Mem.head _)))) ?_
              refine z_aload_n X (x := A 179) (show cdA 213 104 = some (.aload_n 0, 1, 0, 0, 0) from rfl) (List.Mem.tail _ (List.Mem.tail _ (List.Mem.tail _ (List.Mem.head _)))) ?_
              refine z_getI X 179 (show cdA 213 105 = some (.getfield 184, 3, 12, 4, 0) from rfl) (by decide) rfl rfl ?_
              have b93 : (0 : Int) ≤ iI s69 77 ∧ iI s69 77 ≤ 400 := Is69.1 77
              refine s_putI X 179 (show cdA 213 108 = some (.putfield 285, 3, 12, 18, 0) from rfl) (by decide) rfl rfl (by decide) rfl rfl rfl ?_
              obtain ⟨s94, hs94⟩ : ∃ x0, x0 = uI s69 88 (Int32.ofInt (iI s69 77)) := ⟨_, rfl⟩
              rw [← hs94]
              have Is94 : Bd s94 := by rw [hs94]; exact bd_I Is69 (show ((-1) : Int) ≤ (iI s69 77) ∧ (iI s69 77) ≤ 200 by omega) ⟨by omega, by omega⟩
              have Fs94 := fm_I (x := Int32.ofInt (iI s69 77)) Gs69 (show 88 ∈ _ by decide)
              rw [← hs94] at Fs94
              have vs94 : iI s94 88 = (iI s69 77) := by rw [hs94]; exact iI_u ⟨by omega, by omega⟩
              have ws94_77 : iI s94 77 = iI s69 77 := by rw [hs94]; rfl
              have ws94_75 : iI s94 75 = iI s69 75 := by rw [hs94]; rfl
              have ws94_79 : iI s94 79 = iI s69 79 := by rw [hs94]; rfl
              have ws94_78 : iI s94 78 = iI s69 78 := by rw [hs94]; rfl
              have ws94_86 : iI s94 86 = iI s69 86 := by rw [hs94]; rfl
              have ws94_87 : iI s94 87 = iI s69 87 := by rw [hs94]; rfl
              refine z_aload_n X (x := A 179) (show cdA 213 111 = some (.aload_n 0, 1, 0, 0, 0) from rfl) (List.Mem.tail _ (List.Mem.tail _ (List.Mem.tail _ (List.Mem.head _)))) ?_
              refine z_callV X 179 (rm := rmN 209) (As := []) (st := []) (show cdA 213 112 = some (.invokevirtual 260, 3, 209, 0, 0) from rfl) rfl (by decide) rfl (by rw [E.1, E.2.1, E.2.2.1]; exact k_sum G Is94 (by omega) (by omega) (by omega)) ⟨by rw [E.2.2.2]; exact (show (rmN 209).frames + 1 ≤ (rmN 213).frames by decide), by rw [E.2.2.2]; exact (show 8 + (mNL (miB 209) + 11) + (rmN 209).locals ≤ (rmN 213).locals by decide), by rw [E.2.2.2]; exact (show 0 + (rmN 209).cells ≤ (rmN 213).cells by decide), by rw [E.2.2.2]; exact (show 0 + (rmN 209).slots ≤ (rmN 213).slots by decide)⟩ (Nat.le_of_ble_eq_true rfl) (fun vv s95 hq => ?_) (fun ee s95 hq => ?_)
              rotate_left
              · obtain ⟨Is95, Fs95, e96, hv, hrs95, hps95⟩ := hq; cases hv
              obtain ⟨Is95, Fs95, e96, hv, hrs95, hps95⟩ := hq
              cases hv
              have Gs95 := fm_ts Fs94 Fs95 (by decide) (by decide)
              have b97 : (0 : Int) ≤ iI s95 77 ∧ iI s95 77 ≤ 400 := Is95.1 77
              have ws95_75 : iI s95 75 = iI s94 75 := fm_i Fs95 (by decide)
              have b98 : (0 : Int) ≤ iI s95 79 ∧ iI s95 79 ≤ 9 := Is95.1 79
              have b99 : (0 : Int) ≤ iI s95 78 ∧ iI s95 78 ≤ 8 := Is95.1 78
              have ws95_86 : iI s95 86 = iI s94 86 := fm_i Fs95 (by decide)
              have ws95_87 : iI s95 87 = iI s94 87 := fm_i Fs95 (by decide)
              have ws95_88 : iI s95 88 = iI s94 88 := fm_i Fs95 (by decide)
              show WS k 115 [(3, .int (Int32.ofInt 0)), (2, .int (Int32.ofInt 0)), (1, .int (Int32.ofInt e9)), (0, .ref (A 179))] [.int (Int32.ofInt e96)] (Wd A dT s95) 0 0
              refine w_pop X.1 (ax_d X (show cdA 213 115 = some (.pop, 1, 0, 0, 0) from rfl)) rfl ?_
              refine z_goto X (t := 147) (show cdA 213 116 = some (.goto 31, 3, 0, 0, 0) from rfl) (by decide) ?_
              refine z_aload_n X (x := A 179) (show cdA 213 147 = some (.aload_n 0, 1, 0, 0, 0) from rfl) (List.Mem.tail _ (List.Mem.tail _ (List.Mem.tail _ (List.Mem.head _)))) ?_
              refine z_getI X 179 (show cdA 213 148 = some (.getfield 191, 3, 12, 6, 0) from rfl) (by decide) rfl rfl ?_
              have b100 : (0 : Int) ≤ iI s95 79 ∧ iI s95 79 ≤ 9 := Is95.1 79
              refine z_if_ne X (t := 160) (show cdA 213 151 = some (.ifCond .ne 9, 3, 1, 0, 0) from rfl) (by decide) ⟨by omega, by omega⟩ (fun g101 => ?_) (fun g101 => ?_)
              ·
                refine z_aload_n X (x := A 179) (show cdA 213 160 = some (.aload_n 0, 1, 0, 0, 0) from rfl) (List.Mem.tail _ (List.Mem.tail _ (List.Mem.tail _ (List.Mem.head _)))) ?_
                refine w_dup X.1 (ax_d X (show cdA 213 161 = some (.dup, 1, 0, 0, 0) from rfl)) rfl ?_
                refine z_getI X 179 (show cdA 213 162 = some (.getfield 282, 3, 12, 16, 0) from rfl) (by decide) rfl rfl ?_
                have b102 : (0 : Int) ≤ iI s95 86 ∧ iI s95 86 ≤ 8 := Is95.1 86
                refine z_const X (show cdA 213 165 = some (.iconst 1, 1, 0, 0, 0) from rfl) ?_
                refine z_add X (show cdA 213 166 = some (.iadd, 1, 0, 0, 0) from rfl) ?_
                refine s_putI X 179 (show cdA 213 167 = some (.putfield 282, 3, 12, 16, 0) from rfl) (by decide) rfl rfl (by decide) rfl rfl rfl ?_
                obtain ⟨s103, hs103⟩ : ∃ x0, x0 = uI s95 86 (Int32.ofInt ((iI s95 86) + 1)) := ⟨_, rfl⟩
                rw [← hs103]
                have Is103 : Bd s103 := by rw [hs103]; exact bd_I Is95 (show (0 : Int) ≤ ((iI s95 86) + 1) ∧ ((iI s95 86) + 1) ≤ 8 by omega) ⟨by omega, by omega⟩
                have Fs103 := fm_I (x := Int32.ofInt ((iI s95 86) + 1)) Gs95 (show 86 ∈ _ by decide)
                rw [← hs103] at Fs103
                have vs103 : iI s103 86 = ((iI s95 86) + 1) := by rw [hs103]; exact iI_u ⟨by omega, by omega⟩
                have ws103_77 : iI s103 77 = iI s95 77 := by rw [hs103]; rfl
                have ws103_75 : iI s103 75 = iI s95 75 := by rw [hs103]; rfl
                have ws103_79 : iI s103 79 = iI s95 79 := by rw [hs103]; rfl
                have ws103_78 : iI s103 78 = iI s95 78 := by rw [hs103]; rfl
                have ws103_87 : iI s103 87 = iI s95 87 := by rw [hs103]; rfl
                have ws103_88 : iI s103 88 = iI s95 88 := by rw [hs103]; rfl
                exact w_vret X.1 q hRt (ax_d X (show cdA 213 170 = some (.return_, 1, 0, 0, 0) from rfl)) (Nat.zero_le _) (Nat.zero_le _) ⟨_, rfl, Is103, Fs103, rfl, by omega⟩
              ·
                refine z_aload_n X (x := A 179) (show cdA 213 154 = some (.aload_n 0, 1, 0, 0, 0) from rfl) (List.Mem.tail _ (List.Mem.tail _ (List.Mem.tail _ (List.Mem.head _)))) ?_
                refine z_bipush X (show cdA 213 155 = some (.bipush 59, 2, 0, 0, 59) from rfl) ?_
                refine z_callV X 179 (rm := rmN 204) (As := [.int (Int32.ofInt 59)]) (st := []) (show cdA 213 157 = some (.invokevirtual 263, 3, 204, 0, 0) from rfl) rfl (by decide) rfl (by rw [E.1, E.2.1, E.2.2.1]; exact k_sign G Is95 (by omega) (by omega)) ⟨by rw [E.2.2.2]; exact (show (rmN 204).frames + 1 ≤ (rmN 213).frames by decide), by rw [E.2.2.2]; exact (show 8 + (mNL (miB 204) + 11) + (rmN 204).locals ≤ (rmN 213).locals by decide), by rw [E.2.2.2]; exact (show 0 + (rmN 204).cells ≤ (rmN 213).cells by decide), by rw [E.2.2.2]; exact (show 0 + (rmN 204).slots ≤ (rmN 213).slots by decide)⟩ (Nat.le_of_ble_eq_true rfl) (fun vv s104 hq => ?_) (fun ee s104 hq => ?_)
                rotate_left
                · obtain ⟨Is104, Fs104, hv, hps104⟩ := hq; cases hv
                obtain ⟨Is104, Fs104, hv, hps104⟩ := hq
                cases hv
                have Gs104 := fm_ts Gs95 Fs104 (by decide) (by decide)
                have b106 : (0 : Int) ≤ iI s104 77 ∧ iI s104 77 ≤ 400 := Is104.1 77
                have ws104_75 : iI s104 75 = iI s95 75 := fm_i Fs104 (by decide)
                have b107 : (0 : Int) ≤ iI s104 79 ∧ iI s104 79 ≤ 9 := Is104.1 79
                have ws104_78 : iI s104 78 = iI s95 78 := fm_i Fs104 (by decide)
                have ws104_86 : iI s104 86 = iI s95 86 := fm_i Fs104 (by decide)
                have ws104_87 : iI s104 87 = iI s95 87 := fm_i Fs104 (by decide)
                have ws104_88 : iI s104 88 = iI s95 88 := fm_i Fs104 (by decide)
                show WS k 160 [(3, .int (Int32.ofInt 0)), (2, .int (Int32.ofInt 0)), (1, .int (Int32.ofInt e9)), (0, .ref (A 179))] [] (Wd A dT s104) 0 0
                refine z_aload_n X (x := A 179) (show cdA 213 160 = some (.aload_n 0, 1, 0, 0, 0) from rfl) (List.Mem.tail _ (List.Mem.tail _ (List.Mem.tail _ (List.Mem.head _)))) ?_
                refine w_dup X.1 (ax_d X (show cdA 213 161 = some (.dup, 1, 0, 0, 0) from rfl)) rfl ?_
                refine z_getI X 179 (show cdA 213 162 = some (.getfield 282, 3, 12, 16, 0) from rfl) (by decide) rfl rfl ?_
                have b108 : (0 : Int) ≤ iI s104 86 ∧ iI s104 86 ≤ 8 := Is104.1 86
                refine z_const X (show cdA 213 165 = some (.iconst 1, 1, 0, 0, 0) from rfl) ?_
                refine z_add X (show cdA 213 166 = some (.iadd, 1, 0, 0, 0) from rfl) ?_
                refine s_putI X 179 (show cdA 213 167 = some (.putfield 282, 3, 12, 16, 0) from rfl) (by decide) rfl rfl (by decide) rfl rfl rfl ?_
                obtain ⟨s109, hs109⟩ : ∃ x0, x0 = uI s104 86 (Int32.ofInt ((iI s104 86) + 1)) := ⟨_, rfl⟩
                rw [← hs109]
                have Is109 : Bd s109 := by rw [hs109]; exact bd_I Is104 (show (0 : Int) ≤ ((iI s104 86) + 1) ∧ ((iI s104 86) + 1) ≤ 8 by omega) ⟨by omega, by omega⟩
                have Fs109 := fm_I (x := Int32.ofInt ((iI s104 86) + 1)) Gs104 (show 86 ∈ _ by decide)
                rw [← hs109] at Fs109
                have vs109 : iI s109 86 = ((iI s104 86) + 1) := by rw [hs109]; exact iI_u ⟨by omega, by omega⟩
                have ws109_77 : iI s109 77 = iI s104 77 := by rw [hs109]; rfl
                have ws109_75 : iI s109 75 = iI s104 75 := by rw [hs109]; rfl
                have ws109_79 : iI s109 79 = iI s104 79 := by rw [hs109]; rfl
                have ws109_78 : iI s109 78 = iI s104 78 := by rw [hs109]; rfl
                have ws109_87 : iI s109 87 = iI s104 87 := by rw [hs109]; rfl
                have ws109_88 : iI s109 88 = iI s104 88 := by rw [hs109]; rfl
                exact w_vret X.1 q hRt (ax_d X (show cdA 213 170 = some (.return_, 1, 0, 0, 0) from rfl)) (Nat.zero_le _) (Nat.zero_le _) ⟨_, rfl, Is109, Fs109, rfl, by omega⟩
          ·
            exact w_vret X.1 q hRt (ax_d X (show cdA 213 94 = some (.return_, 1, 0, 0, 0) from rfl)) (Nat.zero_le _) (Nat.zero_le _) ⟨_, rfl, Is64, Gs64, rfl, by omega⟩
      ·
        refine z_load_n X (x := 0) (show cdA 213 53 = some (.iload_n 3, 1, 0, 0, 0) from rfl) (List.Mem.head _) ?_
        refine z_if_ne X (t := 69) (show cdA 213 54 = some (.ifCond .ne 15, 3, 1, 0, 0) from rfl) (by decide) ⟨by omega, by omega⟩ (fun g110 => ?_) (fun g110 => ?_)
        ·
          refine z_aload_n X (x := A 179) (show cdA 213 69 = some (.aload_n 0, 1, 0, 0, 0) from rfl) (List.Mem.tail _ (List.Mem.tail _ (List.Mem.tail _ (List.Mem.head _)))) ?_
          refine z_getI X 179 (show cdA 213 70 = some (.getfield 282, 3, 12, 16, 0) from rfl) (by decide) rfl rfl ?_
          have b111 : (0 : Int) ≤ iI s14 86 ∧ iI s14 86 ≤ 8 := Is14.1 86
          refine z_bipush X (show cdA 213 73 = some (.bipush 8, 2, 0, 0, 8) from rfl) ?_
          refine z_icmp_ne X (t := 87) (show cdA 213 75 = some (.if_icmp .ne 12, 3, 1, 0, 0) from rfl) (by decide) ⟨by omega, by omega⟩ ⟨by omega, by omega⟩ (fun g112 => ?_) (fun g112 => ?_)
          ·
            refine z_aload_n X (x := A 179) (show cdA 213 87 = some (.aload_n 0, 1, 0, 0, 0) from rfl) (List.Mem.tail _ (List.Mem.tail _ (List.Mem.tail _ (List.Mem.head _)))) ?_
            refine z_getI X 179 (show cdA 213 88 = some (.getfield 191, 3, 12, 6, 0) from rfl) (by decide) rfl rfl ?_
            have b113 : (0 : Int) ≤ iI s14 79 ∧ iI s14 79 ≤ 9 := Is14.1 79
            refine z_if_eq X (t := 95) (show cdA 213 91 = some (.ifCond .eq 4, 3, 0, 0, 0) from rfl) (by decide) ⟨by omega, by omega⟩ (fun g114 => ?_) (fun g114 => ?_)
            ·
              refine z_aload_n X (x := A 179) (show cdA 213 95 = some (.aload_n 0, 1, 0, 0, 0) from rfl) (List.Mem.tail _ (List.Mem.tail _ (List.Mem.tail _ (List.Mem.head _)))) ?_
              refine z_callV X 179 (rm := rmN 203) (As := []) (st := []) (show cdA 213 96 = some (.invokevirtual 254, 3, 203, 0, 0) from rfl) rfl (by decide) rfl (by rw [E.1, E.2.1, E.2.2.1]; exact k_skipWord G Is14 (by omega)) ⟨by rw [E.2.2.2]; exact (show (rmN 203).frames + 1 ≤ (rmN 213).frames by decide), by rw [E.2.2.2]; exact (show 8 + (mNL (miB 203) + 11) + (rmN 203).locals ≤ (rmN 213).locals by decide), by rw [E.2.2.2]; exact (show 0 + (rmN 203).cells ≤ (rmN 213).cells by decide), by rw [E.2.2.2]; exact (show 0 + (rmN 203).slots ≤ (rmN 213).slots by decide)⟩ (Nat.le_of_ble_eq_true rfl) (fun vv s115 hq => ?_) (fun ee s115 hq => ?_)
              rotate_left
              · obtain ⟨Is115, Fs115, hv, hps115⟩ := hq; cases hv
              obtain ⟨Is115, Fs115, hv, hps115⟩ := hq
              cases hv
              have Gs115 := fm_ts Gs14 Fs115 (by decide) (by decide)
              have b117 : (0 : Int) ≤ iI s115 77 ∧ iI s115 77 ≤ 400 := Is115.1 77
              have ws115_75 : iI s115 75 = iI s14 75 := fm_i Fs115 (by decide)
              have ws115_79 : iI s115 79 = iI s14 79 := fm_i Fs115 (by decide)
              have ws115_78 : iI s115 78 = iI s14 78 := fm_i Fs115 (by decide)
              have ws115_86 : iI s115 86 = iI s14 86 := fm_i Fs115 (by decide)
              have ws115_87 : iI s115 87 = iI s14 87 := fm_i Fs115 (by decide)
              have ws115_88 : iI s115 88 = iI s14 88 := fm_i Fs115 (by decide)
              show WS k 99 [(3, .int (Int32.ofInt 0)), (2, .int (Int32.ofInt 0)), (1, .int (Int32.ofInt e9)), (0, .ref (A 179))] [] (Wd A dT s115) 0 0
              refine z_load_n X (x := 0) (show cdA 213 99 = some (.iload_n 2, 1, 0, 0, 0) from rfl) (List.Mem.tail _ (List.Mem.head _)) ?_
              refine z_if_eq X (t := 119) (show cdA 213 100 = some (.ifCond .eq 19, 3, 0, 0, 0) from rfl) (by decide) ⟨by omega, by omega⟩ (fun g118 => ?_) (fun g118 => ?_)
              ·
                refine z_aload_n X (x := A 179) (show cdA 213 119 = some (.aload_n 0, 1, 0, 0, 0) from rfl) (List.Mem.tail _ (List.Mem.tail _ (List.Mem.tail _ (List.Mem.head _)))) ?_
                refine s_getR X 179 (show cdA 213 120 = some (.getfield 29, 3, 12, 20, 0) from rfl) (by decide) rfl rfl ?_
                refine z_aload_n X (x := A 179) (show cdA 213 123 = some (.aload_n 0, 1, 0, 0, 0) from rfl) (List.Mem.tail _ (List.Mem.tail _ (List.Mem.tail _ (List.Mem.head _)))) ?_
                refine z_getI X 179 (show cdA 213 124 = some (.getfield 288, 3, 12, 17, 0) from rfl) (by decide) rfl rfl ?_
                have b119 : (0 : Int) ≤ iI s115 87 ∧ iI s115 87 ≤ 8 := Is115.1 87
                refine z_aload_n X (x := A 179) (show cdA 213 127 = some (.aload_n 0, 1, 0, 0, 0) from rfl) (List.Mem.tail _ (List.Mem.tail _ (List.Mem.tail _ (List.Mem.head _)))) ?_
                refine z_getI X 179 (show cdA 213 128 = some (.getfield 184, 3, 12, 4, 0) from rfl) (by decide) rfl rfl ?_
                have b120 : (0 : Int) ≤ iI s115 77 ∧ iI s115 77 ≤ 400 := Is115.1 77
                refine z_ast X 183 (show cdA 213 131 = some (.iastore, 1, 0, 0, 0) from rfl) (by decide) rfl (by omega) (show (iI s115 87) < 8 by omega) (by decide) ?_
                obtain ⟨s121, hs121⟩ : ∃ x0, x0 = uC s115 160 ((iI s115 87)).toNat (Int32.ofInt (iI s115 77)) := ⟨_, rfl⟩
                rw [← hs121]
                have Is121 : Bd s121 := by rw [hs121]; exact bd_C Is115 (show (0 : Int) ≤ (iI s115 77) ∧ (iI s115 77) ≤ 200 by omega) ⟨by omega, by omega⟩
                have Fs121 := fm_C (i := ((iI s115 87)).toNat) (x := Int32.ofInt (iI s115 77)) Gs115 (show 160 ∈ _ by decide)
                rw [← hs121] at Fs121
                have ws121_77 : iI s121 77 = iI s115 77 := by rw [hs121]; rfl
                have ws121_75 : iI s121 75 = iI s115 75 := by rw [hs121]; rfl
                have ws121_79 : iI s121 79 = iI s115 79 := by rw [hs121]; rfl
                have ws121_78 : iI s121 78 = iI s115 78 := by rw [hs121]; rfl
                have ws121_86 : iI s121 86 = iI s115 86 := by rw [hs121]; rfl
                have ws121_87 : iI s121 87 = iI s115 87 := by rw [hs121]; rfl
                have ws121_88 : iI s121 88 = iI s115 88 := by rw [hs121]; rfl
                refine z_aload_n X (x := A 179) (show cdA 213 132 = some (.aload_n 0, 1, 0, 0, 0) from rfl) (List.Mem.tail _ (List.Mem.tail _ (List.Mem.tail _ (List.Mem.head _)))) ?_
                refine w_dup X.1 (ax_d X (show cdA 213 133 = some (.dup, 1, 0, 0, 0) from rfl)) rfl ?_
                refine z_getI X 179 (show cdA 213 134 = some (.getfield 288, 3, 12, 17, 0) from rfl) (by decide) rfl rfl ?_
                have b122 : (0 : Int) ≤ iI s121 87 ∧ iI s121 87 ≤ 8 := Is121.1 87
                refine z_const X (show cdA 213 137 = some (.iconst 1, 1, 0, 0, 0) from rfl) ?_
                refine z_add X (show cdA 213 138 = some (.iadd, 1, 0, 0, 0) from rfl) ?_
                refine s_putI X 179 (show cdA 213 139 = some (.putfield 288, 3, 12, 17, 0) from rfl) (by decide) rfl rfl (by decide) rfl rfl rfl ?_
                obtain ⟨s123, hs123⟩ : ∃ x0, x0 = uI s121 87 (Int32.ofInt ((iI s121 87) + 1)) := ⟨_, rfl⟩
                rw [← hs123]
                have Is123 : Bd s123 := by rw [hs123]; exact bd_I Is121 (show (0 : Int) ≤ ((iI s121 87) + 1) ∧ ((iI s121 87) + 1) ≤ 8 by omega) ⟨by omega, by omega⟩
                have Fs123 := fm_I (x := Int32.ofInt ((iI s121 87) + 1)) Fs121 (show 87 ∈ _ by decide)
                rw [← hs123] at Fs123
                have vs123 : iI s123 87 = ((iI s121 87) + 1) := by rw [hs123]; exact iI_u ⟨by omega, by omega⟩
                have ws123_77 : iI s123 77 = iI s121 77 := by rw [hs123]; rfl
                have ws123_75 : iI s123 75 = iI s121 75 := by rw [hs123]; rfl
                have ws123_79 : iI s123 79 = iI s121 79 := by rw [hs123]; rfl
                have ws123_78 : iI s123 78 = iI s121 78 := by rw [hs123]; rfl
                have ws123_86 : iI s123 86 = iI s121 86 := by rw [hs123]; rfl
                have ws123_88 : iI s123 88 = iI s121 88 := by rw [hs123]; rfl
                refine z_aload_n X (x := A 179) (show cdA 213 142 = some (.aload_n 0, 1, 0, 0, 0) from rfl) (List.Mem.tail _ (List.Mem.tail _ (List.Mem.tail _ (List.Mem.head _)))) ?_
                refine z_callV X 179 (rm := rmN 212) (As := []) (st := []) (show cdA 213 143 = some (.invokevirtual 276, 3, 212, 0, 0) from rfl) rfl (by decide) rfl (by rw [E.1, E.2.1, E.2.2.1]; exact k_ors G Is123 (by omega) (by omega) (by omega) (by omega)) ⟨by rw [E.2.2.2]; exact (show (rmN 212).frames + 1 ≤ (rmN 213).frames by decide), by rw [E.2.2.2]; exact (show 8 + (mNL (miB 212) + 11) + (rmN 212).locals ≤ (rmN 213).locals by decide), by rw [E.2.2.2]; exact (show 0 + (rmN 212).cells ≤ (rmN 213).cells by decide), by rw [E.2.2.2]; exact (show 0 + (rmN 212).slots ≤ (rmN 213).slots by decide)⟩ (Nat.le_of_ble_eq_true rfl) (fun vv s124 hq => ?_) (fun ee s124 hq => ?_)
                rotate_left
                · obtain ⟨Is124, Fs124, e125, hv, hrs124, hps124⟩ := hq; cases hv
                obtain ⟨Is124, Fs124, e125, hv, hrs124, hps124⟩ := hq
                cases hv
                have Gs124 := fm_ts Fs123 Fs124 (by decide) (by decide)
                have b126 : (0 : Int) ≤ iI s124 77 ∧ iI s124 77 ≤ 400 := Is124.1 77
                have ws124_75 : iI s124 75 = iI s123 75 := fm_i Fs124 (by decide)
                have b127 : (0 : Int) ≤ iI s124 79 ∧ iI s124 79 ≤ 9 := Is124.1 79
                have b128 : (0 : Int) ≤ iI s124 78 ∧ iI s124 78 ≤ 8 := Is124.1 78
                have ws124_86 : iI s124 86 = iI s123 86 := fm_i Fs124 (by decide)
                have ws124_87 : iI s124 87 = iI s123 87 := fm_i Fs124 (by decide)
                have ws124_88 : iI s124 88 = iI s123 88 := fm_i Fs124 (by decide)
                show WS k 146 [(3, .int (Int32.ofInt 0)), (2, .int (Int32.ofInt 0)), (1, .int (Int32.ofInt e9)), (0, .ref (A 179))] [.int (Int32.ofInt e125)] (Wd A dT s124) 0 0
                refine w_pop X.1 (ax_d X (show cdA 213 146 = some (.pop, 1, 0, 0, 0) from rfl)) rfl ?_
                refine z_aload_n X (x := A 179) (show cdA 213 147 = some (.aload_n 0, 1, 0, 0, 0) from rfl) (List.Mem.tail _ (List.Mem.tail _ (List.Mem.tail _ (List.Mem.head _)))) ?_
                refine z_getI X 179 (show cdA 213 148 = some (.getfield 191, 3, 12, 6, 0) from rfl) (by decide) rfl rfl ?_
                have b129 : (0 : Int) ≤ iI s124 79 ∧ iI s124 79 ≤ 9 := Is124.1 79
                refine z_if_ne X (t := 160) (show cdA 213 151 = some (.ifCond .ne 9, 3, 1, 0, 0) from rfl) (by decide) ⟨by omega, by omega⟩ (fun g130 => ?_) (fun g130 => ?_)
                ·
                  refine z_aload_n X (x := A 179) (show cdA 213 160 = some (.aload_n 0, 1, 0, 0, 0) from rfl) (List.Mem.tail _ (List.Mem.tail _ (List.Mem.tail _ (List.Mem.head _)))) ?_
                  refine w_dup X.1 (ax_d X (show cdA 213 161 = some (.dup, 1, 0, 0, 0) from rfl)) rfl ?_
                  refine z_getI X 179 (show cdA 213 162 = some (.getfield 282, 3, 12, 16, 0) from rfl) (by decide) rfl rfl ?_
                  have b131 : (0 : Int) ≤ iI s124 86 ∧ iI s124 86 ≤ 8 := Is124.1 86
                  refine z_const X (show cdA 213 165 = some (.iconst 1, 1, 0, 0, 0) from rfl) ?_
                  refine z_add X (show cdA 213 166 = some (.iadd, 1, 0, 0, 0) from rfl) ?_
                  refine s_putI X 179 (show cdA 213 167 = some (.putfield 282, 3, 12, 16, 0) from rfl) (by decide) rfl rfl (by decide) rfl rfl rfl ?_
                  obtain ⟨s132, hs132⟩ : ∃ x0, x0 = uI s124 86 (Int32.ofInt ((iI s124 86) + 1)) := ⟨_, rfl⟩
                  rw [← hs132]
                  have Is132 : Bd s132 := by rw [hs132]; exact bd_I Is124 (show (0 : Int) ≤ ((iI s124 86) + 1) ∧ ((iI s124 86) + 1) ≤ 8 by omega) ⟨by omega, by omega⟩
                  have Fs132 := fm_I (x := Int32.ofInt ((iI s124 86) + 1)) Gs124 (show 86 ∈ _ by decide)
                  rw [← hs132] at Fs132
                  have vs132 : iI s132 86 = ((iI s124 86) + 1) := by rw [hs132]; exact iI_u ⟨by omega, by omega⟩
                  have ws132_77 : iI s132 77 = iI s124 77 := by rw [hs132]; rfl
                  have ws132_75 : iI s132 75 = iI s124 75 := by rw [hs132]; rfl
                  have ws132_79 : iI s132 79 = iI s124 79 := by rw [hs132]; rfl
                  have ws132_78 : iI s132 78 = iI s124 78 := by rw [hs132]; rfl
                  have ws132_87 : iI s132 87 = iI s124 87 := by rw [hs132]; rfl
                  have ws132_88 : iI s132 88 = iI s124 88 := by rw [hs132]; rfl
                  exact w_vret X.1 q hRt (ax_d X (show cdA 213 170 = some (.return_, 1, 0, 0, 0) from rfl)) (Nat.zero_le _) (Nat.zero_le _) ⟨_, rfl, Is132, Fs132, rfl, by omega⟩
                ·
                  refine z_aload_n X (x := A 179) (show cdA 213 154 = some (.aload_n 0, 1, 0, 0, 0) from rfl) (List.Mem.tail _ (List.Mem.tail _ (List.Mem.tail _ (List.Mem.head _)))) ?_
                  refine z_bipush X (show cdA 213 155 = some (.bipush 59, 2, 0, 0, 59) from rfl) ?_
                  refine z_callV X 179 (rm := rmN 204) (As := [.int (Int32.ofInt 59)]) (st := []) (show cdA 213 157 = some (.invokevirtual 263, 3, 204, 0, 0) from rfl) rfl (by decide) rfl (by rw [E.1, E.2.1, E.2.2.1]; exact k_sign G Is124 (by omega) (by omega)) ⟨by rw [E.2.2.2]; exact (show (rmN 204).frames + 1 ≤ (rmN 213).frames by decide), by rw [E.2.2.2]; exact (show 8 + (mNL (miB 204) + 11) + (rmN 204).locals ≤ (rmN 213).locals by decide), by rw [E.2.2.2]; exact (show 0 + (rmN 204).cells ≤ (rmN 213).cells by decide), by rw [E.2.2.2]; exact (show 0 + (rmN 204).slots ≤ (rmN 213).slots by decide)⟩ (Nat.le_of_ble_eq_true rfl) (fun vv s133 hq => ?_) (fun ee s133 hq => ?_)
                  rotate_left
                  · obtain ⟨Is133, Fs133, hv, hps133⟩ := hq; cases hv
                  obtain ⟨Is133, Fs133, hv, hps133⟩ := hq
                  cases hv
                  have Gs133 := fm_ts Gs124 Fs133 (by decide) (by decide)
                  have b135 : (0 : Int) ≤ iI s133 77 ∧ iI s133 77 ≤ 400 := Is133.1 77
                  have ws133_75 : iI s133 75 = iI s124 75 := fm_i Fs133 (by decide)
                  have b136 : (0 : Int) ≤ iI s133 79 ∧ iI s133 79 ≤ 9 := Is133.1 79
                  have ws133_78 : iI s133 78 = iI s124 78 := fm_i Fs133 (by decide)
                  have ws133_86 : iI s133 86 = iI s124 86 := fm_i Fs133 (by decide)
                  have ws133_87 : iI s133 87 = iI s124 87 := fm_i Fs133 (by decide)
                  have ws133_88 : iI s133 88 = iI s124 88 := fm_i Fs133 (by decide)
                  show WS k 160 [(3, .int (Int32.ofInt 0)), (2, .int (Int32.ofInt 0)), (1, .int (Int32.ofInt e9)), (0, .ref (A 179))] [] (Wd A dT s133) 0 0
                  refine z_aload_n X (x := A 179) (show cdA 213 160 = some (.aload_n 0, 1, 0, 0, 0) from rfl) (List.Mem.tail _ (List.Mem.tail _ (List.Mem.tail _ (List.Mem.head _)))) ?_
                  refine w_dup X.1 (ax_d X (show cdA 213 161 = some (.dup, 1, 0, 0, 0) from rfl)) rfl ?_
                  refine z_getI X 179 (show cdA 213 162 = some (.getfield 282, 3, 12, 16, 0) from rfl) (by decide) rfl rfl ?_
                  have b137 : (0 : Int) ≤ iI s133 86 ∧ iI s133 86 ≤ 8 := Is133.1 86
                  refine z_const X (show cdA 213 165 = some (.iconst 1, 1, 0, 0, 0) from rfl) ?_
                  refine z_add X (show cdA 213 166 = some (.iadd, 1, 0, 0, 0) from rfl) ?_
                  refine s_putI X 179 (show cdA 213 167 = some (.putfield 282, 3, 12, 16, 0) from rfl) (by decide) rfl rfl (by decide) rfl rfl rfl ?_
                  obtain ⟨s138, hs138⟩ : ∃ x0, x0 = uI s133 86 (Int32.ofInt ((iI s133 86) + 1)) := ⟨_, rfl⟩
                  rw [← hs138]
                  have Is138 : Bd s138 := by rw [hs138]; exact bd_I Is133 (show (0 : Int) ≤ ((iI s133 86) + 1) ∧ ((iI s133 86) + 1) ≤ 8 by omega) ⟨by omega, by omega⟩
                  have Fs138 := fm_I (x := Int32.ofInt ((iI s133 86) + 1)) Gs133 (show 86 ∈ _ by decide)
                  rw [← hs138] at Fs138
                  have vs138 : iI s138 86 = ((iI s133 86) + 1) := by rw [hs138]; exact iI_u ⟨by omega, by omega⟩
                  have ws138_77 : iI s138 77 = iI s133 77 := by rw [hs138]; rfl
                  have ws138_75 : iI s138 75 = iI s133 75 := by rw [hs138]; rfl
                  have ws138_79 : iI s138 79 = iI s133 79 := by rw [hs138]; rfl
                  have ws138_78 : iI s138 78 = iI s133 78 := by rw [hs138]; rfl
                  have ws138_87 : iI s138 87 = iI s133 87 := by rw [hs138]; rfl
                  have ws138_88 : iI s138 88 = iI s133 88 := by rw [hs138]; rfl
                  exact w_vret X.1 q hRt (ax_d X (show cdA 213 170 = some (.return_, 1, 0, 0, 0) from rfl)) (Nat.zero_le _) (Nat.zero_le _) ⟨_, rfl, Is138, Fs138, rfl, by omega⟩
              ·
                refine z_aload_n X (x := A 179) (show cdA 213 103 = some (.aload_n 0, 1, 0, 0, 0) from rfl) (List.Mem.tail _ (List.Mem.tail _ (List.Mem.tail _ (List.Mem.head _)))) ?_
                refine z_aload_n X (x := A 179) (show cdA 213 104 = some (.aload_n 0, 1, 0, 0, 0) from rfl) (List.Mem.tail _ (List.Mem.tail _ (List.Mem.tail _ (List.Mem.head _)))) ?_
                refine z_getI X 179 (show cdA 213 105 = some (.getfield 184, 3, 12, 4, 0) from rfl) (by decide) rfl rfl ?_
                have b139 : (0 : Int) ≤ iI s115 77 ∧ iI s115 77 ≤ 400 := Is115.1 77
                refine s_putI X 179 (show cdA 213 108 = some (.putfield 285, 3, 12, 18, 0) from rfl) (by decide) rfl rfl (by decide) rfl rfl rfl ?_
                obtain ⟨s140, hs140⟩ : ∃ x0, x0 = uI s115 88 (Int32.ofInt (iI s115 77)) := ⟨_, rfl⟩
                rw [← hs140]
                have Is140 : Bd s140 := by rw [hs140]; exact bd_I Is115 (show ((-1) : Int) ≤ (iI s115 77) ∧ (iI s115 77) ≤ 200 by omega) ⟨by omega, by omega⟩
                have Fs140 := fm_I (x := Int32.ofInt (iI s115 77)) Gs115 (show 88 ∈ _ by decide)
                rw [← hs140] at Fs140
                have vs140 : iI s140 88 = (iI s115 77) := by rw [hs140]; exact iI_u ⟨by omega, by omega⟩
                have ws140_77 : iI s140 77 = iI s115 77 := by rw [hs140]; rfl
                have ws140_75 : iI s140 75 = iI s115 75 := by rw [hs140]; rfl
                have ws140_79 : iI s140 79 = iI s115 79 := by rw [hs140]; rfl
                have ws140_78 : iI s140 78 = iI s115 78 := by rw [hs140]; rfl
                have ws140_86 : iI s140 86 = iI s115 86 := by rw [hs140]; rfl
                have ws140_87 : iI s140 87 = iI s115 87 := by rw [hs140]; rfl
                refine z_aload_n X (x := A 179) (show cdA 213 111 = some (.aload_n 0, 1, 0, 0, 0) from rfl) (List.Mem.tail _ (List.Mem.tail _ (List.Mem.tail _ (List.Mem.head _)))) ?_
                refine z_callV X 179 (rm := rmN 209) (As := []) (st := []) (show cdA 213 112 = some (.invokevirtual 260, 3, 209, 0, 0) from rfl) rfl (by decide) rfl (by rw [E.1, E.2.1, E.2.2.1]; exact k_sum G Is140 (by omega) (by omega) (by omega)) ⟨by rw [E.2.2.2]; exact (show (rmN 209).frames + 1 ≤ (rmN 213).frames by decide), by rw [E.2.2.2]; exact (show 8 + (mNL (miB 209) + 11) + (rmN 209).locals ≤ (rmN 213).locals by decide), by rw [E.2.2.2]; exact (show 0 + (rmN 209).cells ≤ (rmN 213).cells by decide), by rw [E.2.2.2]; exact (show 0 + (rmN 209).slots ≤ (rmN 213).slots by decide)⟩ (Nat.le_of_ble_eq_true rfl) (fun vv s141 hq => ?_) (fun ee s141 hq => ?_)
                rotate_left
                · obtain ⟨Is141, Fs141, e142, hv, hrs141, hps141⟩ := hq; cases hv
                obtain ⟨Is141, Fs141, e142, hv, hrs141, hps141⟩ := hq
                cases hv
                have Gs141 := fm_ts Fs140 Fs141 (by decide) (by decide)
                have b143 : (0 : Int) ≤ iI s141 77 ∧ iI s141 77 ≤ 400 := Is141.1 77
                have ws141_75 : iI s141 75 = iI s140 75 := fm_i Fs141 (by decide)
                have b144 : (0 : Int) ≤ iI s141 79 ∧ iI s141 79 ≤ 9 := Is141.1 79
                have b145 : (0 : Int) ≤ iI s141 78 ∧ iI s141 78 ≤ 8 := Is141.1 78
                have ws141_86 : iI s141 86 = iI s140 86 := fm_i Fs141 (by decide)
                have ws141_87 : iI s141 87 = iI s140 87 := fm_i Fs141 (by decide)
                have ws141_88 : iI s141 88 = iI s140 88 := fm_i Fs141 (by decide)
                show WS k 115 [(3, .int (Int32.ofInt 0)), (2, .int (Int32.ofInt 0)), (1, .int (Int32.ofInt e9)), (0, .ref (A 179))] [.int (Int32.ofInt e142)] (Wd A dT s141) 0 0
                refine w_pop X.1 (ax_d X (show cdA 213 115 = some (.pop, 1, 0, 0, 0) from rfl)) rfl ?_
                refine z_goto X (t := 147) (show cdA 213 116 = some (.goto 31, 3, 0, 0, 0) from rfl) (by decide) ?_
                refine z_aload_n X (x := A 179) (show cdA 213 147 = some (.aload_n 0, 1, 0, 0, 0) from rfl) (List.Mem.tail _ (List.Mem.tail _ (List.Mem.tail _ (List.Mem.head _)))) ?_
                refine z_getI X 179 (show cdA 213 148 = some (.getfield 191, 3, 12, 6, 0) from rfl) (by decide) rfl rfl ?_
                have b146 : (0 : Int) ≤ iI s141 79 ∧ iI s141 79 ≤ 9 := Is141.1 79
                refine z_if_ne X (t := 160) (show cdA 213 151 = some (.ifCond .ne 9, 3, 1, 0, 0) from rfl) (by decide) ⟨by omega, by omega⟩ (fun g147 => ?_) (fun g147 => ?_)
                ·
                  refine z_aload_n X (x := A 179) (show cdA 213 160 = some (.aload_n 0, 1, 0, 0, 0) from rfl) (List.Mem.tail _ (List.Mem.tail _ (List.Mem.tail _ (List.Mem.head _)))) ?_
                  refine w_dup X.1 (ax_d X (show cdA 213 161 = some (.dup, 1, 0, 0, 0) from rfl)) rfl ?_
                  refine z_getI X 179 (show cdA 213 162 = some (.getfield 282, 3, 12, 16, 0) from rfl) (by decide) rfl rfl ?_
                  have b148 : (0 : Int) ≤ iI s141 86 ∧ iI s141 86 ≤ 8 := Is141.1 86
                  refine z_const X (show cdA 213 165 = some (.iconst 1, 1, 0, 0, 0) from rfl) ?_
                  refine z_add X (show cdA 213 166 = some (.iadd, 1, 0, 0, 0) from rfl) ?_
                  refine s_putI X 179 (show cdA 213 167 = some (.putfield 282, 3, 12, 16, 0) from rfl) (by decide) rfl rfl (by decide) rfl rfl rfl ?_
                  obtain ⟨s149, hs149⟩ : ∃ x0, x0 = uI s141 86 (Int32.ofInt ((iI s141 86) + 1)) := ⟨_, rfl⟩
                  rw [← hs149]
                  have Is149 : Bd s149 := by rw [hs149]; exact bd_I Is141 (show (0 : Int) ≤ ((iI s141 86) + 1) ∧ ((iI s141 86) + 1) ≤ 8 by omega) ⟨by omega, by omega⟩
                  have Fs149 := fm_I (x := Int32.ofInt ((iI s141 86) + 1)) Gs141 (show 86 ∈ _ by decide)
                  rw [← hs149] at Fs149
                  have vs149 : iI s149 86 = ((iI s141 86) + 1) := by rw [hs149]; exact iI_u ⟨by omega, by omega⟩
                  have ws149_77 : iI s149 77 = iI s141 77 := by rw [hs149]; rfl
                  have ws149_75 : iI s149 75 = iI s141 75 := by rw [hs149]; rfl
                  have ws149_79 : iI s149 79 = iI s141 79 := by rw [hs149]; rfl
                  have ws149_78 : iI s149 78 = iI s141 78 := by rw [hs149]; rfl
                  have ws149_87 : iI s149 87 = iI s141 87 := by rw [hs149]; rfl
                  have ws149_88 : iI s149 88 = iI s141 88 := by rw [hs149]; rfl
                  exact w_vret X.1 q hRt (ax_d X (show cdA 213 170 = some (.return_, 1, 0, 0, 0) from rfl)) (Nat.zero_le _) (Nat.zero_le _) ⟨_, rfl, Is149, Fs149, rfl, by omega⟩
                ·
                  refine z_aload_n X (x := A 179) (show cdA 213 154 = some (.aload_n 0, 1, 0, 0, 0) from rfl) (List.Mem.tail _ (List.Mem.tail _ (List.Mem.tail _ (List.Mem.head _)))) ?_
                  refine z_bipush X (show cdA 213 155 = some (.bipush 59, 2, 0, 0, 59) from rfl) ?_
                  refine z_callV X 179 (rm := rmN 204) (As := [.int (Int32.ofInt 59)]) (st := []) (show cdA 213 157 = some (.invokevirtual 263, 3, 204, 0, 0) from rfl) rfl (by decide) rfl (by rw [E.1, E.2.1, E.2.2.1]; exact k_sign G Is141 (by omega) (by omega)) ⟨by rw [E.2.2.2]; exact (show (rmN 204).frames + 1 ≤ (rmN 213).frames by decide), by rw [E.2.2.2]; exact (show 8 + (mNL (miB 204) + 11) + (rmN 204).locals ≤ (rmN 213).locals by decide), by rw [E.2.2.2]; exact (show 0 + (rmN 204).cells ≤ (rmN 213).cells by decide), by rw [E.2.2.2]; exact (show 0 + (rmN 204).slots ≤ (rmN 213).slots by decide)⟩ (Nat.le_of_ble_eq_true rfl) (fun vv s150 hq => ?_) (fun ee s150 hq => ?_)
                  rotate_left
                  · obtain ⟨Is150, Fs150, hv, hps150⟩ := hq; cases hv
                  obtain ⟨Is150, Fs150, hv, hps150⟩ := hq
                  cases hv
                  have Gs150 := fm_ts Gs141 Fs150 (by decide) (by decide)
                  have b152 : (0 : Int) ≤ iI s150 77 ∧ iI s150 77 ≤ 400 := Is150.1 77
                  have ws150_75 : iI s150 75 = iI s141 75 := fm_i Fs150 (by decide)
                  have b153 : (0 : Int) ≤ iI s150 79 ∧ iI s150 79 ≤ 9 := Is150.1 79
                  have ws150_78 : iI s150 78 = iI s141 78 := fm_i Fs150 (by decide)
                  have ws150_86 : iI s150 86 = iI s141 86 := fm_i Fs150 (by decide)
                  have ws150_87 : iI s150 87 = iI s141 87 := fm_i Fs150 (by decide)
                  have ws150_88 : iI s150 88 = iI s141 88 := fm_i Fs150 (by decide)
                  show WS k 160 [(3, .int (Int32.ofInt 0)), (2, .int (Int32.ofInt 0)), (1, .int (Int32.ofInt e9)), (0, .ref (A 179))] [] (Wd A dT s150) 0 0
                  refine z_aload_n X (x := A 179) (show cdA 213 160 = some (.aload_n 0, 1, 0, 0, 0) from rfl) (List.Mem.tail _ (List.Mem.tail _ (List.Mem.tail _ (List.Mem.head _)))) ?_
                  refine w_dup X.1 (ax_d X (show cdA 213 161 = some (.dup, 1, 0, 0, 0) from rfl)) rfl ?_
                  refine z_getI X 179 (show cdA 213 162 = some (.getfield 282, 3, 12, 16, 0) from rfl) (by decide) rfl rfl ?_
                  have b154 : (0 : Int) ≤ iI s150 86 ∧ iI s150 86 ≤ 8 := Is150.1 86
                  refine z_const X (show cdA 213 165 = some (.iconst 1, 1, 0, 0, 0) from rfl) ?_
                  refine z_add X (show cdA 213 166 = some (.iadd, 1, 0, 0, 0) from rfl) ?_
                  refine s_putI X 179 (show cdA 213 167 = some (.putfield 282, 3, 12, 16, 0) from rfl) (by decide) rfl rfl (by decide) rfl rfl rfl ?_
                  obtain ⟨s155, hs155⟩ : ∃ x0, x0 = uI s150 86 (Int32.ofInt ((iI s150 86) + 1)) := ⟨_, rfl⟩
                  rw [← hs155]
                  have Is155 : Bd s155 := by rw [hs155]; exact bd_I Is150 (show (0 : Int) ≤ ((iI s150 86) + 1) ∧ ((iI s150 86) + 1) ≤ 8 by omega) ⟨by omega, by omega⟩
                  have Fs155 := fm_I (x := Int32.ofInt ((iI s150 86) + 1)) Gs150 (show 86 ∈ _ by decide)
                  rw [← hs155] at Fs155
                  have vs155 : iI s155 86 = ((iI s150 86) + 1) := by rw [hs155]; exact iI_u ⟨by omega, by omega⟩
                  have ws155_77 : iI s155 77 = iI s150 77 := by rw [hs155]; rfl
                  have ws155_75 : iI s155 75 = iI s150 75 := by rw [hs155]; rfl
                  have ws155_79 : iI s155 79 = iI s150 79 := by rw [hs155]; rfl
                  have ws155_78 : iI s155 78 = iI s150 78 := by rw [hs155]; rfl
                  have ws155_87 : iI s155 87 = iI s150 87 := by rw [hs155]; rfl
                  have ws155_88 : iI s155 88 = iI s150 88 := by rw [hs155]; rfl
                  exact w_vret X.1 q hRt (ax_d X (show cdA 213 170 = some (.return_, 1, 0, 0, 0) from rfl)) (Nat.zero_le _) (Nat.zero_le _) ⟨_, rfl, Is155, Fs155, rfl, by omega⟩
            ·
              exact w_vret X.1 q hRt (ax_d X (show cdA 213 94 = some (.return_, 1, 0, 0, 0) from rfl)) (Nat.zero_le _) (Nat.zero_le _) ⟨_, rfl, Is14, Gs14, rfl, by omega⟩
          ·
            refine z_aload_n X (x := A 179) (show cdA 213 78 = some (.aload_n 0, 1, 0, 0, 0) from rfl) (List.Mem.tail _ (List.Mem.tail _ (List.Mem.tail _ (List.Mem.head _)))) ?_
            refine z_const X (show cdA 213 79 = some (.iconst 3, 1, 0, 0, 0) from rfl) ?_
            refine z_aload_n X (x := A 179) (show cdA 213 80 = some (.aload_n 0, 1, 0, 0, 0) from rfl) (List.Mem.tail _ (List.Mem.tail _ (List.Mem.tail _ (List.Mem.head _)))) ?_
            refine z_getI X 179 (show cdA 213 81 = some (.getfield 184, 3, 12, 4, 0) from rfl) (by decide) rfl rfl ?_
            have b156 : (0 : Int) ≤ iI s14 77 ∧ iI s14 77 ≤ 400 := Is14.1 77
            refine z_callV X 179 (rm := rmN 194) (As := [.int (Int32.ofInt 3), .int (Int32.ofInt (iI s14 77))]) (st := []) (show cdA 213 84 = some (.invokevirtual 204, 3, 194, 0, 0) from rfl) rfl (by decide) rfl (by rw [E.1, E.2.1, E.2.2.1]; exact k_wrong G Is14 (by omega) (by omega)) ⟨by rw [E.2.2.2]; exact (show (rmN 194).frames + 1 ≤ (rmN 213).frames by decide), by rw [E.2.2.2]; exact (show 8 + (mNL (miB 194) + 11) + (rmN 194).locals ≤ (rmN 213).locals by decide), by rw [E.2.2.2]; exact (show 0 + (rmN 194).cells ≤ (rmN 213).cells by decide), by rw [E.2.2.2]; exact (show 0 + (rmN 194).slots ≤ (rmN 213).slots by decide)⟩ (Nat.le_of_ble_eq_true rfl) (fun vv s157 hq => ?_) (fun ee s157 hq => ?_)
            rotate_left
            · obtain ⟨Is157, Fs157, hv, hps157⟩ := hq; cases hv
            obtain ⟨Is157, Fs157, hv, hps157⟩ := hq
            cases hv
            have Gs157 := fm_ts Gs14 Fs157 (by decide) (by decide)
            have ws157_77 : iI s157 77 = iI s14 77 := fm_i Fs157 (by decide)
            have ws157_75 : iI s157 75 = iI s14 75 := fm_i Fs157 (by decide)
            have b159 : (0 : Int) ≤ iI s157 79 ∧ iI s157 79 ≤ 9 := Is157.1 79
            have ws157_78 : iI s157 78 = iI s14 78 := fm_i Fs157 (by decide)
            have ws157_86 : iI s157 86 = iI s14 86 := fm_i Fs157 (by decide)
            have ws157_87 : iI s157 87 = iI s14 87 := fm_i Fs157 (by decide)
            have ws157_88 : iI s157 88 = iI s14 88 := fm_i Fs157 (by decide)
            show WS k 87 [(3, .int (Int32.ofInt 0)), (2, .int (Int32.ofInt 0)), (1, .int (Int32.ofInt e9)), (0, .ref (A 179))] [] (Wd A dT s157) 0 0
            refine z_aload_n X (x := A 179) (show cdA 213 87 = some (.aload_n 0, 1, 0, 0, 0) from rfl) (List.Mem.tail _ (List.Mem.tail _ (List.Mem.tail _ (List.Mem.head _)))) ?_
            refine z_getI X 179 (show cdA 213 88 = some (.getfield 191, 3, 12, 6, 0) from rfl) (by decide) rfl rfl ?_
            have b160 : (0 : Int) ≤ iI s157 79 ∧ iI s157 79 ≤ 9 := Is157.1 79
            refine z_if_eq X (t := 95) (show cdA 213 91 = some (.ifCond .eq 4, 3, 0, 0, 0) from rfl) (by decide) ⟨by omega, by omega⟩ (fun g161 => ?_) (fun g161 => ?_)
            ·
              refine z_aload_n X (x := A 179) (show cdA 213 95 = some (.aload_n 0, 1, 0, 0, 0) from rfl) (List.Mem.tail _ (List.Mem.tail _ (List.Mem.tail _ (List.Mem.head _)))) ?_
              refine z_callV X 179 (rm := rmN 203) (As := []) (st := []) (show cdA 213 96 = some (.invokevirtual 254, 3, 203, 0, 0) from rfl) rfl (by decide) rfl (by rw [E.1, E.2.1, E.2.2.1]; exact k_skipWord G Is157 (by omega)) ⟨by rw [E.2.2.2]; exact (show (rmN 203).frames + 1 ≤ (rmN 213).frames by decide), by rw [E.2.2.2]; exact (show 8 + (mNL (miB 203) + 11) + (rmN 203).locals ≤ (rmN 213).locals by decide), by rw [E.2.2.2]; exact (show 0 + (rmN 203).cells ≤ (rmN 213).cells by decide), by rw [E.2.2.2]; exact (show 0 + (rmN 203).slots ≤ (rmN 213).slots by decide)⟩ (Nat.le_of_ble_eq_true rfl) (fun vv s162 hq => ?_) (fun ee s162 hq => ?_)
              rotate_left
              · obtain ⟨Is162, Fs162, hv, hps162⟩ := hq; cases hv
              obtain ⟨Is162, Fs162, hv, hps162⟩ := hq
              cases hv
              have Gs162 := fm_ts Gs157 Fs162 (by decide) (by decide)
              have b164 : (0 : Int) ≤ iI s162 77 ∧ iI s162 77 ≤ 400 := Is162.1 77
              have ws162_75 : iI s162 75 = iI s157 75 := fm_i Fs162 (by decide)
              have ws162_79 : iI s162 79 = iI s157 79 := fm_i Fs162 (by decide)
              have ws162_78 : iI s162 78 = iI s157 78 := fm_i Fs162 (by decide)
              have ws162_86 : iI s162 86 = iI s157 86 := fm_i Fs162 (by decide)
              have ws162_87 : iI s162 87 = iI s157 87 := fm_i Fs162 (by decide)
              have ws162_88 : iI s162 88 = iI s157 88 := fm_i Fs162 (by decide)
              show WS k 99 [(3, .int (Int32.ofInt 0)), (2, .int (Int32.ofInt 0)), (1, .int (Int32.ofInt e9)), (0, .ref (A 179))] [] (Wd A dT s162) 0 0
              refine z_load_n X (x := 0) (show cdA 213 99 = some (.iload_n 2, 1, 0, 0, 0) from rfl) (List.Mem.tail _ (List.Mem.head _)) ?_
              refine z_if_eq X (t := 119) (show cdA 213 100 = some (.ifCond .eq 19, 3, 0, 0, 0) from rfl) (by decide) ⟨by omega, by omega⟩ (fun g165 => ?_) (fun g165 => ?_)
              ·
                refine z_aload_n X (x := A 179) (show cdA 213 119 = some (.aload_n 0, 1, 0, 0, 0) from rfl) (List.Mem.tail _ (List.Mem.tail _ (List.Mem.tail _ (List.Mem.head _)))) ?_
                refine s_getR X 179 (show cdA 213 120 = some (.getfield 29, 3, 12, 20, 0) from rfl) (by decide) rfl rfl ?_
                refine z_aload_n X (x := A 179) (show cdA 213 123 = some (.aload_n 0, 1, 0, 0, 0) from rfl) (List.Mem.tail _ (List.Mem.tail _ (List.Mem.tail _ (List.Mem.head _)))) ?_
                refine z_getI X 179 (show cdA 213 124 = some (.getfield 288, 3, 12, 17, 0) from rfl) (by decide) rfl rfl ?_
                have b166 : (0 : Int) ≤ iI s162 87 ∧ iI s162 87 ≤ 8 := Is162.1 87
                refine z_aload_n X (x := A 179) (show cdA 213 127 = some (.aload_n 0, 1, 0, 0, 0) from rfl) (List.Mem.tail _ (List.Mem.tail _ (List.Mem.tail _ (List.Mem.head _)))) ?_
                refine z_getI X 179 (show cdA 213 128 = some (.getfield 184, 3, 12, 4, 0) from rfl) (by decide) rfl rfl ?_
                have b167 : (0 : Int) ≤ iI s162 77 ∧ iI s162 77 ≤ 400 := Is162.1 77
                refine z_ast X 183 (show cdA 213 131 = some (.iastore, 1, 0, 0, 0) from rfl) (by decide) rfl (by omega) (show (iI s162 87) < 8 by omega) (by decide) ?_
                obtain ⟨s168, hs168⟩ : ∃ x0, x0 = uC s162 160 ((iI s162 87)).toNat (Int32.ofInt (iI s162 77)) := ⟨_, rfl⟩
                rw [← hs168]
                have Is168 : Bd s168 := by rw [hs168]; exact bd_C Is162 (show (0 : Int) ≤ (iI s162 77) ∧ (iI s162 77) ≤ 200 by omega) ⟨by omega, by omega⟩
                have Fs168 := fm_C (i := ((iI s162 87)).toNat) (x := Int32.ofInt (iI s162 77)) Gs162 (show 160 ∈ _ by decide)
                rw [← hs168] at Fs168
                have ws168_77 : iI s168 77 = iI s162 77 := by rw [hs168]; rfl
                have ws168_75 : iI s168 75 = iI s162 75 := by rw [hs168]; rfl
                have ws168_79 : iI s168 79 = iI s162 79 := by rw [hs168]; rfl
                have ws168_78 : iI s168 78 = iI s162 78 := by rw [hs168]; rfl
                have ws168_86 : iI s168 86 = iI s162 86 := by rw [hs168]; rfl
                have ws168_87 : iI s168 87 = iI s162 87 := by rw [hs168]; rfl
                have ws168_88 : iI s168 88 = iI s162 88 := by rw [hs168]; rfl
                refine z_aload_n X (x := A 179) (show cdA 213 132 = some (.aload_n 0, 1, 0, 0, 0) from rfl) (List.Mem.tail _ (List.Mem.tail _ (List.Mem.tail _ (List.Mem.head _)))) ?_
                refine w_dup X.1 (ax_d X (show cdA 213 133 = some (.dup, 1, 0, 0, 0) from rfl)) rfl ?_
                refine z_getI X 179 (show cdA 213 134 = some (.getfield 288, 3, 12, 17, 0) from rfl) (by decide) rfl rfl ?_
                have b169 : (0 : Int) ≤ iI s168 87 ∧ iI s168 87 ≤ 8 := Is168.1 87
                refine z_const X (show cdA 213 137 = some (.iconst 1, 1, 0, 0, 0) from rfl) ?_
                refine z_add X (show cdA 213 138 = some (.iadd, 1, 0, 0, 0) from rfl) ?_
                refine s_putI X 179 (show cdA 213 139 = some (.putfield 288, 3, 12, 17, 0) from rfl) (by decide) rfl rfl (by decide) rfl rfl rfl ?_
                obtain ⟨s170, hs170⟩ : ∃ x0, x0 = uI s168 87 (Int32.ofInt ((iI s168 87) + 1)) := ⟨_, rfl⟩
                rw [← hs170]
                have Is170 : Bd s170 := by rw [hs170]; exact bd_I Is168 (show (0 : Int) ≤ ((iI s168 87) + 1) ∧ ((iI s168 87) + 1) ≤ 8 by omega) ⟨by omega, by omega⟩
                have Fs170 := fm_I (x := Int32.ofInt ((iI s168 87) + 1)) Fs168 (show 87 ∈ _ by decide)
                rw [← hs170] at Fs170
                have vs170 : iI s170 87 = ((iI s168 87) + 1) := by rw [hs170]; exact iI_u ⟨by omega, by omega⟩
                have ws170_77 : iI s170 77 = iI s168 77 := by rw [hs170]; rfl
                have ws170_75 : iI s170 75 = iI s168 75 := by rw [hs170]; rfl
                have ws170_79 : iI s170 79 = iI s168 79 := by rw [hs170]; rfl
                have ws170_78 : iI s170 78 = iI s168 78 := by rw [hs170]; rfl
                have ws170_86 : iI s170 86 = iI s168 86 := by rw [hs170]; rfl
                have ws170_88 : iI s170 88 = iI s168 88 := by rw [hs170]; rfl
                refine z_aload_n X (x := A 179) (show cdA 213 142 = some (.aload_n 0, 1, 0, 0, 0) from rfl) (List.Mem.tail _ (List.Mem.tail _ (List.Mem.tail _ (List.Mem.head _)))) ?_
                refine z_callV X 179 (rm := rmN 212) (As := []) (st := []) (show cdA 213 143 = some (.invokevirtual 276, 3, 212, 0, 0) from rfl) rfl (by decide) rfl (by rw [E.1, E.2.1, E.2.2.1]; exact k_ors G Is170 (by omega) (by omega) (by omega) (by omega)) ⟨by rw [E.2.2.2]; exact (show (rmN 212).frames + 1 ≤ (rmN 213).frames by decide), by rw [E.2.2.2]; exact (show 8 + (mNL (miB 212) + 11) + (rmN 212).locals ≤ (rmN 213).locals by decide), by rw [E.2.2.2]; exact (show 0 + (rmN 212).cells ≤ (rmN 213).cells by decide), by rw [E.2.2.2]; exact (show 0 + (rmN 212).slots ≤ (rmN 213).slots by decide)⟩ (Nat.le_of_ble_eq_true rfl) (fun vv s171 hq => ?_) (fun ee s171 hq => ?_)
                rotate_left
                · obtain ⟨Is171, Fs171, e172, hv, hrs171, hps171⟩ := hq; cases hv
                obtain ⟨Is171, Fs171, e172, hv, hrs171, hps171⟩ := hq
                cases hv
                have Gs171 := fm_ts Fs170 Fs171 (by decide) (by decide)
                have b173 : (0 : Int) ≤ iI s171 77 ∧ iI s171 77 ≤ 400 := Is171.1 77
                have ws171_75 : iI s171 75 = iI s170 75 := fm_i Fs171 (by decide)
                have b174 : (0 : Int) ≤ iI s171 79 ∧ iI s171 79 ≤ 9 := Is171.1 79
                have b175 : (0 : Int) ≤ iI s171 78 ∧ iI s171 78 ≤ 8 := Is171.1 78
                have ws171_86 : iI s171 86 = iI s170 86 := fm_i Fs171 (by decide)
                have ws171_87 : iI s171 87 = iI s170 87 := fm_i Fs171 (by decide)
                have ws171_88 : iI s171 88 = iI s170 88 := fm_i Fs171 (by decide)
                show WS k 146 [(3, .int (Int32.ofInt 0)), (2, .int (Int32.ofInt 0)), (1, .int (Int32.ofInt e9)), (0, .ref (A 179))] [.int (Int32.ofInt e172)] (Wd A dT s171) 0 0
                refine w_pop X.1 (ax_d X (show cdA 213 146 = some (.pop, 1, 0, 0, 0) from rfl)) rfl ?_
                refine z_aload_n X (x := A 179) (show cdA 213 147 = some (.aload_n 0, 1, 0, 0, 0) from rfl) (List.Mem.tail _ (List.Mem.tail _ (List.Mem.tail _ (List.Mem.head _)))) ?_
                refine z_getI X 179 (show cdA 213 148 = some (.getfield 191, 3, 12, 6, 0) from rfl) (by decide) rfl rfl ?_
                have b176 : (0 : Int) ≤ iI s171 79 ∧ iI s171 79 ≤ 9 := Is171.1 79
                refine z_if_ne X (t := 160) (show cdA 213 151 = some (.ifCond .ne 9, 3, 1, 0, 0) from rfl) (by decide) ⟨by omega, by omega⟩ (fun g177 => ?_) (fun g177 => ?_)
                ·
                  refine z_aload_n X (x := A 179) (show cdA 213 160 = some (.aload_n 0, 1, 0, 0, 0) from rfl) (List.Mem.tail _ (List.Mem.tail _ (List.Mem.tail _ (List.Mem.head _)))) ?_
                  refine w_dup X.1 (ax_d X (show cdA 213 161 = some (.dup, 1, 0, 0, 0) from rfl)) rfl ?_
                  refine z_getI X 179 (show cdA 213 162 = some (.getfield 282, 3, 12, 16, 0) from rfl) (by decide) rfl rfl ?_
                  have b178 : (0 : Int) ≤ iI s171 86 ∧ iI s171 86 ≤ 8 := Is171.1 86
                  refine z_const X (show cdA 213 165 = some (.iconst 1, 1, 0, 0, 0) from rfl) ?_
                  refine z_add X (show cdA 213 166 = some (.iadd, 1, 0, 0, 0) from rfl) ?_
                  refine s_putI X 179 (show cdA 213 167 = some (.putfield 282, 3, 12, 16, 0) from rfl) (by decide) rfl rfl (by decide) rfl rfl rfl ?_
                  obtain ⟨s179, hs179⟩ : ∃ x0, x0 = uI s171 86 (Int32.ofInt ((iI s171 86) + 1)) := ⟨_, rfl⟩
                  rw [← hs179]
                  have Is179 : Bd s179 := by rw [hs179]; exact bd_I Is171 (show (0 : Int) ≤ ((iI s171 86) + 1) ∧ ((iI s171 86) + 1) ≤ 8 by omega) ⟨by omega, by omega⟩
                  have Fs179 := fm_I (x := Int32.ofInt ((iI s171 86) + 1)) Gs171 (show 86 ∈ _ by decide)
                  rw [← hs179] at Fs179
                  have vs179 : iI s179 86 = ((iI s171 86) + 1) := by rw [hs179]; exact iI_u ⟨by omega, by omega⟩
                  have ws179_77 : iI s179 77 = iI s171 77 := by rw [hs179]; rfl
                  have ws179_75 : iI s179 75 = iI s171 75 := by rw [hs179]; rfl
                  have ws179_79 : iI s179 79 = iI s171 79 := by rw [hs179]; rfl
                  have ws179_78 : iI s179 78 = iI s171 78 := by rw [hs179]; rfl
                  have ws179_87 : iI s179 87 = iI s171 87 := by rw [hs179]; rfl
                  have ws179_88 : iI s179 88 = iI s171 88 := by rw [hs179]; rfl
                  exact w_vret X.1 q hRt (ax_d X (show cdA 213 170 = some (.return_, 1, 0, 0, 0) from rfl)) (Nat.zero_le _) (Nat.zero_le _) ⟨_, rfl, Is179, Fs179, rfl, by omega⟩
                ·
                  refine z_aload_n X (x := A 179) (show cdA 213 154 = some (.aload_n 0, 1, 0, 0, 0) from rfl) (List.Mem.tail _ (List.Mem.tail _ (List.Mem.tail _ (List.Mem.head _)))) ?_
                  refine z_bipush X (show cdA 213 155 = some (.bipush 59, 2, 0, 0, 59) from rfl) ?_
                  refine z_callV X 179 (rm := rmN 204) (As := [.int (Int32.ofInt 59)]) (st := []) (show cdA 213 157 = some (.invokevirtual 263, 3, 204, 0, 0) from rfl) rfl (by decide) rfl (by rw [E.1, E.2.1, E.2.2.1]; exact k_sign G Is171 (by omega) (by omega)) ⟨by rw [E.2.2.2]; exact (show (rmN 204).frames + 1 ≤ (rmN 213).frames by decide), by rw [E.2.2.2]; exact (show 8 + (mNL (miB 204) + 11) + (rmN 204).locals ≤ (rmN 213).locals by decide), by rw [E.2.2.2]; exact (show 0 + (rmN 204).cells ≤ (rmN 213).cells by decide), by rw [E.2.2.2]; exact (show 0 + (rmN 204).slots ≤ (rmN 213).slots by decide)⟩ (Nat.le_of_ble_eq_true rfl) (fun vv s180 hq => ?_) (fun ee s180 hq => ?_)
                  rotate_left
                  · obtain ⟨Is180, Fs180, hv, hps180⟩ := hq; cases hv
                  obtain ⟨Is180, Fs180, hv, hps180⟩ := hq
                  cases hv
                  have Gs180 := fm_ts Gs171 Fs180 (by decide) (by decide)
                  have b182 : (0 : Int) ≤ iI s180 77 ∧ iI s180 77 ≤ 400 := Is180.1 77
                  have ws180_75 : iI s180 75 = iI s171 75 := fm_i Fs180 (by decide)
                  have b183 : (0 : Int) ≤ iI s180 79 ∧ iI s180 79 ≤ 9 := Is180.1 79
                  have ws180_78 : iI s180 78 = iI s171 78 := fm_i Fs180 (by decide)
                  have ws180_86 : iI s180 86 = iI s171 86 := fm_i Fs180 (by decide)
                  have ws180_87 : iI s180 87 = iI s171 87 := fm_i Fs180 (by decide)
                  have ws180_88 : iI s180 88 = iI s171 88 := fm_i Fs180 (by decide)
                  show WS k 160 [(3, .int (Int32.ofInt 0)), (2, .int (Int32.ofInt 0)), (1, .int (Int32.ofInt e9)), (0, .ref (A 179))] [] (Wd A dT s180) 0 0
                  refine z_aload_n X (x := A 179) (show cdA 213 160 = some (.aload_n 0, 1, 0, 0, 0) from rfl) (List.Mem.tail _ (List.Mem.tail _ (List.Mem.tail _ (List.Mem.head _)))) ?_
                  refine w_dup X.1 (ax_d X (show cdA 213 161 = some (.dup, 1, 0, 0, 0) from rfl)) rfl ?_
                  refine z_getI X 179 (show cdA 213 162 = some (.getfield 282, 3, 12, 16, 0) from rfl) (by decide) rfl rfl ?_
                  have b184 : (0 : Int) ≤ iI s180 86 ∧ iI s180 86 ≤ 8 := Is180.1 86
                  refine z_const X (show cdA 213 165 = some (.iconst 1, 1, 0, 0, 0) from rfl) ?_
                  refine z_add X (show cdA 213 166 = some (.iadd, 1, 0, 0, 0) from rfl) ?_
                  refine s_putI X 179 (show cdA 213 167 = some (.putfield 282, 3, 12, 16, 0) from rfl) (by decide) rfl rfl (by decide) rfl rfl rfl ?_
                  obtain ⟨s185, hs185⟩ : ∃ x0, x0 = uI s180 86 (Int32.ofInt ((iI s180 86) + 1)) := ⟨_, rfl⟩
                  rw [← hs185]
                  have Is185 : Bd s185 := by rw [hs185]; exact bd_I Is180 (show (0 : Int) ≤ ((iI s180 86) + 1) ∧ ((iI s180 86) + 1) ≤ 8 by omega) ⟨by omega, by omega⟩
                  have Fs185 := fm_I (x := Int32.ofInt ((iI s180 86) + 1)) Gs180 (show 86 ∈ _ by decide)
                  rw [← hs185] at Fs185
                  have vs185 : iI s185 86 = ((iI s180 86) + 1) := by rw [hs185]; exact iI_u ⟨by omega, by omega⟩
                  have ws185_77 : iI s185 77 = iI s180 77 := by rw [hs185]; rfl
                  have ws185_75 : iI s185 75 = iI s180 75 := by rw [hs185]; rfl
                  have ws185_79 : iI s185 79 = iI s180 79 := by rw [hs185]; rfl
                  have ws185_78 : iI s185 78 = iI s180 78 := by rw [hs185]; rfl
                  have ws185_87 : iI s185 87 = iI s180 87 := by rw [hs185]; rfl
                  have ws185_88 : iI s185 88 = iI s180 88 := by rw [hs185]; rfl
                  exact w_vret X.1 q hRt (ax_d X (show cdA 213 170 = some (.return_, 1, 0, 0, 0) from rfl)) (Nat.zero_le _) (Nat.zero_le _) ⟨_, rfl, Is185, Fs185, rfl, by omega⟩
              ·
                refine z_aload_n X (x := A 179) (show cdA 213 103 = some (.aload_n 0, 1, 0, 0, 0) from rfl) (List.Mem.tail _ (List.Mem.tail _ (List.Mem.tail _ (List.Mem.head _)))) ?_
                refine z_aload_n X (x := A 179) (show cdA 213 104 = some (.aload_n 0, 1, 0, 0, 0) from rfl) (List.Mem.tail _ (List.Mem.tail _ (List.Mem.tail _ (List.Mem.head _)))) ?_
                refine z_getI X 179 (show cdA 213 105 = some (.getfield 184, 3, 12, 4, 0) from rfl) (by decide) rfl rfl ?_
                have b186 : (0 : Int) ≤ iI s162 77 ∧ iI s162 77 ≤ 400 := Is162.1 77
                refine s_putI X 179 (show cdA 213 108 = some (.putfield 285, 3, 12, 18, 0) from rfl) (by decide) rfl rfl (by decide) rfl rfl rfl ?_
                obtain ⟨s187, hs187⟩ : ∃ x0, x0 = uI s162 88 (Int32.ofInt (iI s162 77)) := ⟨_, rfl⟩
                rw [← hs187]
                have Is187 : Bd s187 := by rw [hs187]; exact bd_I Is162 (show ((-1) : Int) ≤ (iI s162 77) ∧ (iI s162 77) ≤ 200 by omega) ⟨by omega, by omega⟩
                have Fs187 := fm_I (x := Int32.ofInt (iI s162 77)) Gs162 (show 88 ∈ _ by decide)
                rw [← hs187] at Fs187
                have vs187 : iI s187 88 = (iI s162 77) := by rw [hs187]; exact iI_u ⟨by omega, by omega⟩
                have ws187_77 : iI s187 77 = iI s162 77 := by rw [hs187]; rfl
                have ws187_75 : iI s187 75 = iI s162 75 := by rw [hs187]; rfl
                have ws187_79 : iI s187 79 = iI s162 79 := by rw [hs187]; rfl
                have ws187_78 : iI s187 78 = iI s162 78 := by rw [hs187]; rfl
                have ws187_86 : iI s187 86 = iI s162 86 := by rw [hs187]; rfl
                have ws187_87 : iI s187 87 = iI s162 87 := by rw [hs187]; rfl
                refine z_aload_n X (x := A 179) (show cdA 213 111 = some (.aload_n 0, 1, 0, 0, 0) from rfl) (List.Mem.tail _ (List.Mem.tail _ (List.Mem.tail _ (List.Mem.head _)))) ?_
                refine z_callV X 179 (rm := rmN 209) (As := []) (st := []) (show cdA 213 112 = some (.invokevirtual 260, 3, 209, 0, 0) from rfl) rfl (by decide) rfl (by rw [E.1, E.2.1, E.2.2.1]; exact k_sum G Is187 (by omega) (by omega) (by omega)) ⟨by rw [E.2.2.2]; exact (show (rmN 209).frames + 1 ≤ (rmN 213).frames by decide), by rw [E.2.2.2]; exact (show 8 + (mNL (miB 209) + 11) + (rmN 209).locals ≤ (rmN 213).locals by decide), by rw [E.2.2.2]; exact (show 0 + (rmN 209).cells ≤ (rmN 213).cells by decide), by rw [E.2.2.2]; exact (show 0 + (rmN 209).slots ≤ (rmN 213).slots by decide)⟩ (Nat.le_of_ble_eq_true rfl) (fun vv s188 hq => ?_) (fun ee s188 hq => ?_)
                rotate_left
                · obtain ⟨Is188, Fs188, e189, hv, hrs188, hps188⟩ := hq; cases hv
                obtain ⟨Is188, Fs188, e189, hv, hrs188, hps188⟩ := hq
                cases hv
                have Gs188 := fm_ts Fs187 Fs188 (by decide) (by decide)
                have b190 : (0 : Int) ≤ iI s188 77 ∧ iI s188 77 ≤ 400 := Is188.1 77
                have ws188_75 : iI s188 75 = iI s187 75 := fm_i Fs188 (by decide)
                have b191 : (0 : Int) ≤ iI s188 79 ∧ iI s188 79 ≤ 9 := Is188.1 79
                have b192 : (0 : Int) ≤ iI s188 78 ∧ iI s188 78 ≤ 8 := Is188.1 78
                have ws188_86 : iI s188 86 = iI s187 86 := fm_i Fs188 (by decide)
                have ws188_87 : iI s188 87 = iI s187 87 := fm_i Fs188 (by decide)
                have ws188_88 : iI s188 88 = iI s187 88 := fm_i Fs188 (by decide)
                show WS k 115 [(3, .int (Int32.ofInt 0)), (2, .int (Int32.ofInt 0)), (1, .int (Int32.ofInt e9)), (0, .ref (A 179))] [.int (Int32.ofInt e189)] (Wd A dT s188) 0 0
                refine w_pop X.1 (ax_d X (show cdA 213 115 = some (.pop, 1, 0, 0, 0) from rfl)) rfl ?_
                refine z_goto X (t := 147) (show cdA 213 116 = some (.goto 31, 3, 0, 0, 0) from rfl) (by decide) ?_
                refine z_aload_n X (x := A 179) (show cdA 213 147 = some (.aload_n 0, 1, 0, 0, 0) from rfl) (List.Mem.tail _ (List.Mem.tail _ (List.Mem.tail _ (List.Mem.head _)))) ?_
                refine z_getI X 179 (show cdA 213 148 = some (.getfield 191, 3, 12, 6, 0) from rfl) (by decide) rfl rfl ?_
                have b193 : (0 : Int) ≤ iI s188 79 ∧ iI s188 79 ≤ 9 := Is188.1 79
                refine z_if_ne X (t := 160) (show cdA 213 151 = some (.ifCond .ne 9, 3, 1, 0, 0) from rfl) (by decide) ⟨by omega, by omega⟩ (fun g194 => ?_) (fun g194 => ?_)
                ·
                  refine z_aload_n X (x := A 179) (show cdA 213 160 = some (.aload_n 0, 1, 0, 0, 0) from rfl) (List.Mem.tail _ (List.Mem.tail _ (List.Mem.tail _ (List.Mem.head _)))) ?_
                  refine w_dup X.1 (ax_d X (show cdA 213 161 = some (.dup, 1, 0, 0, 0) from rfl)) rfl ?_
                  refine z_getI X 179 (show cdA 213 162 = some (.getfield 282, 3, 12, 16, 0) from rfl) (by decide) rfl rfl ?_
                  have b195 : (0 : Int) ≤ iI s188 86 ∧ iI s188 86 ≤ 8 := Is188.1 86
                  refine z_const X (show cdA 213 165 = some (.iconst 1, 1, 0, 0, 0) from rfl) ?_
                  refine z_add X (show cdA 213 166 = some (.iadd, 1, 0, 0, 0) from rfl) ?_
                  refine s_putI X 179 (show cdA 213 167 = some (.putfield 282, 3, 12, 16, 0) from rfl) (by decide) rfl rfl (by decide) rfl rfl rfl ?_
                  obtain ⟨s196, hs196⟩ : ∃ x0, x0 = uI s188 86 (Int32.ofInt ((iI s188 86) + 1)) := ⟨_, rfl⟩
                  rw [← hs196]
                  have Is196 : Bd s196 := by rw [hs196]; exact bd_I Is188 (show (0 : Int) ≤ ((iI s188 86) + 1) ∧ ((iI s188 86) + 1) ≤ 8 by omega) ⟨by omega, by omega⟩
                  have Fs196 := fm_I (x := Int32.ofInt ((iI s188 86) + 1)) Gs188 (show 86 ∈ _ by decide)
                  rw [← hs196] at Fs196
                  have vs196 : iI s196 86 = ((iI s188 86) + 1) := by rw [hs196]; exact iI_u ⟨by omega, by omega⟩
                  have ws196_77 : iI s196 77 = iI s188 77 := by rw [hs196]; rfl
                  have ws196_75 : iI s196 75 = iI s188 75 := by rw [hs196]; rfl
                  have ws196_79 : iI s196 79 = iI s188 79 := by rw [hs196]; rfl
                  have ws196_78 : iI s196 78 = iI s188 78 := by rw [hs196]; rfl
                  have ws196_87 : iI s196 87 = iI s188 87 := by rw [hs196]; rfl
                  have ws196_88 : iI s196 88 = iI s188 88 := by rw [hs196]; rfl
                  exact w_vret X.1 q hRt (ax_d X (show cdA 213 170 = some (.return_, 1, 0, 0, 0) from rfl)) (Nat.zero_le _) (Nat.zero_le _) ⟨_, rfl, Is196, Fs196, rfl, by omega⟩
                ·
                  refine z_aload_n X (x := A 179) (show cdA 213 154 = some (.aload_n 0, 1, 0, 0, 0) from rfl) (List.Mem.tail _ (List.Mem.tail _ (List.Mem.tail _ (List.Mem.head _)))) ?_
                  refine z_bipush X (show cdA 213 155 = some (.bipush 59, 2, 0, 0, 59) from rfl) ?_
                  refine z_callV X 179 (rm := rmN 204) (As := [.int (Int32.ofInt 59)]) (st := []) (show cdA 213 157 = some (.invokevirtual 263, 3, 204, 0, 0) from rfl) rfl (by decide) rfl (by rw [E.1, E.2.1, E.2.2.1]; exact k_sign G Is188 (by omega) (by omega)) ⟨by rw [E.2.2.2]; exact (show (rmN 204).frames + 1 ≤ (rmN 213).frames by decide), by rw [E.2.2.2]; exact (show 8 + (mNL (miB 204) + 11) + (rmN 204).locals ≤ (rmN 213).locals by decide), by rw [E.2.2.2]; exact (show 0 + (rmN 204).cells ≤ (rmN 213).cells by decide), by rw [E.2.2.2]; exact (show 0 + (rmN 204).slots ≤ (rmN 213).slots by decide)⟩ (Nat.le_of_ble_eq_true rfl) (fun vv s197 hq => ?_) (fun ee s197 hq => ?_)
                  rotate_left
                  · obtain ⟨Is197, Fs197, hv, hps197⟩ := hq; cases hv
                  obtain ⟨Is197, Fs197, hv, hps197⟩ := hq
                  cases hv
                  have Gs197 := fm_ts Gs188 Fs197 (by decide) (by decide)
                  have b199 : (0 : Int) ≤ iI s197 77 ∧ iI s197 77 ≤ 400 := Is197.1 77
                  have ws197_75 : iI s197 75 = iI s188 75 := fm_i Fs197 (by decide)
                  have b200 : (0 : Int) ≤ iI s197 79 ∧ iI s197 79 ≤ 9 := Is197.1 79
                  have ws197_78 : iI s197 78 = iI s188 78 := fm_i Fs197 (by decide)
                  have ws197_86 : iI s197 86 = iI s188 86 := fm_i Fs197 (by decide)
                  have ws197_87 : iI s197 87 = iI s188 87 := fm_i Fs197 (by decide)
                  have ws197_88 : iI s197 88 = iI s188 88 := fm_i Fs197 (by decide)
                  show WS k 160 [(3, .int (Int32.ofInt 0)), (2, .int (Int32.ofInt 0)), (1, .int (Int32.ofInt e9)), (0, .ref (A 179))] [] (Wd A dT s197) 0 0
                  refine z_aload_n X (x := A 179) (show cdA 213 160 = some (.aload_n 0, 1, 0, 0, 0) from rfl) (List.Mem.tail _ (List.Mem.tail _ (List.Mem.tail _ (List.Mem.head _)))) ?_
                  refine w_dup X.1 (ax_d X (show cdA 213 161 = some (.dup, 1, 0, 0, 0) from rfl)) rfl ?_
                  refine z_getI X 179 (show cdA 213 162 = some (.getfield 282, 3, 12, 16, 0) from rfl) (by decide) rfl rfl ?_
                  have b201 : (0 : Int) ≤ iI s197 86 ∧ iI s197 86 ≤ 8 := Is197.1 86
                  refine z_const X (show cdA 213 165 = some (.iconst 1, 1, 0, 0, 0) from rfl) ?_
                  refine z_add X (show cdA 213 166 = some (.iadd, 1, 0, 0, 0) from rfl) ?_
                  refine s_putI X 179 (show cdA 213 167 = some (.putfield 282, 3, 12, 16, 0) from rfl) (by decide) rfl rfl (by decide) rfl rfl rfl ?_
                  obtain ⟨s202, hs202⟩ : ∃ x0, x0 = uI s197 86 (Int32.ofInt ((iI s197 86) + 1)) := ⟨_, rfl⟩
                  rw [← hs202]
                  have Is202 : Bd s202 := by rw [hs202]; exact bd_I Is197 (show (0 : Int) ≤ ((iI s197 86) + 1) ∧ ((iI s197 86) + 1) ≤ 8 by omega) ⟨by omega, by omega⟩
                  have Fs202 := fm_I (x := Int32.ofInt ((iI s197 86) + 1)) Gs197 (show 86 ∈ _ by decide)
                  rw [← hs202] at Fs202
                  have vs202 : iI s202 86 = ((iI s197 86) + 1) := by rw [hs202]; exact iI_u ⟨by omega, by omega⟩
                  have ws202_77 : iI s202 77 = iI s197 77 := by rw [hs202]; rfl
                  have ws202_75 : iI s202 75 = iI s197 75 := by rw [hs202]; rfl
                  have ws202_79 : iI s202 79 = iI s197 79 := by rw [hs202]; rfl
                  have ws202_78 : iI s202 78 = iI s197 78 := by rw [hs202]; rfl
                  have ws202_87 : iI s202 87 = iI s197 87 := by rw [hs202]; rfl
                  have ws202_88 : iI s202 88 = iI s197 88 := by rw [hs202]; rfl
                  exact w_vret X.1 q hRt (ax_d X (show cdA 213 170 = some (.return_, 1, 0, 0, 0) from rfl)) (Nat.zero_le _) (Nat.zero_le _) ⟨_, rfl, Is202, Fs202, rfl, by omega⟩
            ·
              exact w_vret X.1 q hRt (ax_d X (show cdA 213 94 = some (.return_, 1, 0, 0, 0) from rfl)) (Nat.zero_le _) (Nat.zero_le _) ⟨_, rfl, Is157, Gs157, rfl, by omega⟩
        ·
          refine z_aload_n X (x := A 179) (show cdA 213 57 = some (.aload_n 0, 1, 0, 0, 0) from rfl) (List.Mem.tail _ (List.Mem.tail _ (List.Mem.tail _ (List.Mem.head _)))) ?_
          refine z_const X (show cdA 213 58 = some (.iconst 1, 1, 0, 0, 0) from rfl) ?_
          refine z_aload_n X (x := A 179) (show cdA 213 59 = some (.aload_n 0, 1, 0, 0, 0) from rfl) (List.Mem.tail _ (List.Mem.tail _ (List.Mem.tail _ (List.Mem.head _)))) ?_
          refine z_getI X 179 (show cdA 213 60 = some (.getfield 184, 3, 12, 4, 0) from rfl) (by decide) rfl rfl ?_
          have b203 : (0 : Int) ≤ iI s14 77 ∧ iI s14 77 ≤ 400 := Is14.1 77
          refine z_callV X 179 (rm := rmN 194) (As := [.int (Int32.ofInt 1), .int (Int32.ofInt (iI s14 77))]) (st := []) (show cdA 213 63 = some (.invokevirtual 204, 3, 194, 0, 0) from rfl) rfl (by decide) rfl (by rw [E.1, E.2.1, E.2.2.1]; exact k_wrong G Is14 (by omega) (by omega)) ⟨by rw [E.2.2.2]; exact (show (rmN 194).frames + 1 ≤ (rmN 213).frames by decide), by rw [E.2.2.2]; exact (show 8 + (mNL (miB 194) + 11) + (rmN 194).locals ≤ (rmN 213).locals by decide), by rw [E.2.2.2]; exact (show 0 + (rmN 194).cells ≤ (rmN 213).cells by decide), by rw [E.2.2.2]; exact (show 0 + (rmN 194).slots ≤ (rmN 213).slots by decide)⟩ (Nat.le_of_ble_eq_true rfl) (fun vv s204 hq => ?_) (fun ee s204 hq => ?_)
          rotate_left
          · obtain ⟨Is204, Fs204, hv, hps204⟩ := hq; cases hv
          obtain ⟨Is204, Fs204, hv, hps204⟩ := hq
          cases hv
          have Gs204 := fm_ts Gs14 Fs204 (by decide) (by decide)
          have ws204_77 : iI s204 77 = iI s14 77 := fm_i Fs204 (by decide)
          have ws204_75 : iI s204 75 = iI s14 75 := fm_i Fs204 (by decide)
          have b206 : (0 : Int) ≤ iI s204 79 ∧ iI s204 79 ≤ 9 := Is204.1 79
          have ws204_78 : iI s204 78 = iI s14 78 := fm_i Fs204 (by decide)
          have ws204_86 : iI s204 86 = iI s14 86 := fm_i Fs204 (by decide)
          have ws204_87 : iI s204 87 = iI s14 87 := fm_i Fs204 (by decide)
          have ws204_88 : iI s204 88 = iI s14 88 := fm_i Fs204 (by decide)
          show WS k 66 [(3, .int (Int32.ofInt 0)), (2, .int (Int32.ofInt 0)), (1, .int (Int32.ofInt e9)), (0, .ref (A 179))] [] (Wd A dT s204) 0 0
          refine z_goto X (t := 87) (show cdA 213 66 = some (.goto 21, 3, 0, 0, 0) from rfl) (by decide) ?_
          refine z_aload_n X (x := A 179) (show cdA 213 87 = some (.aload_n 0, 1, 0, 0, 0) from rfl) (List.Mem.tail _ (List.Mem.tail _ (List.Mem.tail _ (List.Mem.head _)))) ?_
          refine z_getI X 179 (show cdA 213 88 = some (.getfield 191, 3, 12, 6, 0) from rfl) (by decide) rfl rfl ?_
          have b207 : (0 : Int) ≤ iI s204 79 ∧ iI s204 79 ≤ 9 := Is204.1 79
          refine z_if_eq X (t := 95) (show cdA 213 91 = some (.ifCond .eq 4, 3, 0, 0, 0) from rfl) (by decide) ⟨by omega, by omega⟩ (fun g208 => ?_) (fun g208 => ?_)
          ·
            refine z_aload_n X (x := A 179) (show cdA 213 95 = some (.aload_n 0, 1, 0, 0, 0) from rfl) (List.Mem.tail _ (List.Mem.tail _ (List.Mem.tail _ (List.Mem.head _)))) ?_
            refine z_callV X 179 (rm := rmN 203) (As := []) (st := []) (show cdA 213 96 = some (.invokevirtual 254, 3, 203, 0, 0) from rfl) rfl (by decide) rfl (by rw [E.1, E.2.1, E.2.2.1]; exact k_skipWord G Is204 (by omega)) ⟨by rw [E.2.2.2]; exact (show (rmN 203).frames + 1 ≤ (rmN 213).frames by decide), by rw [E.2.2.2]; exact (show 8 + (mNL (miB 203) + 11) + (rmN 203).locals ≤ (rmN 213).locals by decide), by rw [E.2.2.2]; exact (show 0 + (rmN 203).cells ≤ (rmN 213).cells by decide), by rw [E.2.2.2]; exact (show 0 + (rmN 203).slots ≤ (rmN 213).slots by decide)⟩ (Nat.le_of_ble_eq_true rfl) (fun vv s209 hq => ?_) (fun ee s209 hq => ?_)
            rotate_left
            · obtain ⟨Is209, Fs209, hv, hps209⟩ := hq; cases hv
            obtain ⟨Is209, Fs209, hv, hps209⟩ := hq
            cases hv
            have Gs209 := fm_ts Gs204 Fs209 (by decide) (by decide)
            have b211 : (0 : Int) ≤ iI s209 77 ∧ iI s209 77 ≤ 400 := Is209.1 77
            have ws209_75 : iI s209 75 = iI s204 75 := fm_i Fs209 (by decide)
            have ws209_79 : iI s209 79 = iI s204 79 := fm_i Fs209 (by decide)
            have ws209_78 : iI s209 78 = iI s204 78 := fm_i Fs209 (by decide)
            have ws209_86 : iI s209 86 = iI s204 86 := fm_i Fs209 (by decide)
            have ws209_87 : iI s209 87 = iI s204 87 := fm_i Fs209 (by decide)
            have ws209_88 : iI s209 88 = iI s204 88 := fm_i Fs209 (by decide)
            show WS k 99 [(3, .int (Int32.ofInt 0)), (2, .int (Int32.ofInt 0)), (1, .int (Int32.ofInt e9)), (0, .ref (A 179))] [] (Wd A dT s209) 0 0
            refine z_load_n X (x := 0) (show cdA 213 99 = some (.iload_n 2, 1, 0, 0, 0) from rfl) (List.Mem.tail _ (List.Mem.head _)) ?_
            refine z_if_eq X (t := 119) (show cdA 213 100 = some (.ifCond .eq 19, 3, 0, 0, 0) from rfl) (by decide) ⟨by omega, by omega⟩ (fun g212 => ?_) (fun g212 => ?_)
            ·
              refine z_aload_n X (x := A 179) (show cdA 213 119 = some (.aload_n 0, 1, 0, 0, 0) from rfl) (List.Mem.tail _ (List.Mem.tail _ (List.Mem.tail _ (List.Mem.head _)))) ?_
              refine s_getR X 179 (show cdA 213 120 = some (.getfield 29, 3, 12, 20, 0) from rfl) (by decide) rfl rfl ?_
              refine z_aload_n X (x := A 179) (show cdA 213 123 = some (.aload_n 0, 1, 0, 0, 0) from rfl) (List.Mem.tail _ (List.Mem.tail _ (List.Mem.tail _ (List.Mem.head _)))) ?_
              refine z_getI X 179 (show cdA 213 124 = some (.getfield 288, 3, 12, 17, 0) from rfl) (by decide) rfl rfl ?_
              have b213 : (0 : Int) ≤ iI s209 87 ∧ iI s209 87 ≤ 8 := Is209.1 87
              refine z_aload_n X (x := A 179) (show cdA 213 127 = some (.aload_n 0, 1, 0, 0, 0) from rfl) (List.Mem.tail _ (List.Mem.tail _ (List.Mem.tail _ (List.Mem.head _)))) ?_
              refine z_getI X 179 (show cdA 213 128 = some (.getfield 184, 3, 12, 4, 0) from rfl) (by decide) rfl rfl ?_
              have b214 : (0 : Int) ≤ iI s209 77 ∧ iI s209 77 ≤ 400 := Is209.1 77
              refine z_ast X 183 (show cdA 213 131 = some (.iastore, 1, 0, 0, 0) from rfl) (by decide) rfl (by omega) (show (iI s209 87) < 8 by omega) (by decide) ?_
              obtain ⟨s215, hs215⟩ : ∃ x0, x0 = uC s209 160 ((iI s209 87)).toNat (Int32.ofInt (iI s209 77)) := ⟨_, rfl⟩
              rw [← hs215]
              have Is215 : Bd s215 := by rw [hs215]; exact bd_C Is209 (show (0 : Int) ≤ (iI s209 77) ∧ (iI s209 77) ≤ 200 by omega) ⟨by omega, by omega⟩
              have Fs215 := fm_C (i := ((iI s209 87)).toNat) (x := Int32.ofInt (iI s209 77)) Gs209 (show 160 ∈ _ by decide)
              rw [← hs215] at Fs215
              have ws215_77 : iI s215 77 = iI s209 77 := by rw [hs215]; rfl
              have ws215_75 : iI s215 75 = iI s209 75 := by rw [hs215]; rfl
              have ws215_79 : iI s215 79 = iI s209 79 := by rw [hs215]; rfl
              have ws215_78 : iI s215 78 = iI s209 78 := by rw [hs215]; rfl
              have ws215_86 : iI s215 86 = iI s209 86 := by rw [hs215]; rfl
              have ws215_87 : iI s215 87 = iI s209 87 := by rw [hs215]; rfl
              have ws215_88 : iI s215 88 = iI s209 88 := by rw [hs215]; rfl
              refine z_aload_n X (x := A 179) (show cdA 213 132 = some (.aload_n 0, 1, 0, 0, 0) from rfl) (List.Mem.tail _ (List.Mem.tail _ (List.Mem.tail _ (List.Mem.head _)))) ?_
              refine w_dup X.1 (ax_d X (show cdA 213 133 = some (.dup, 1, 0, 0, 0) from rfl)) rfl ?_
              refine z_getI X 179 (show cdA 213 134 = some (.getfield 288, 3, 12, 17, 0) from rfl) (by decide) rfl rfl ?_
              have b216 : (0 : Int) ≤ iI s215 87 ∧ iI s215 87 ≤ 8 := Is215.1 87
              refine z_const X (show cdA 213 137 = some (.iconst 1, 1, 0, 0, 0) from rfl) ?_
              refine z_add X (show cdA 213 138 = some (.iadd, 1, 0, 0, 0) from rfl) ?_
              refine s_putI X 179 (show cdA 213 139 = some (.putfield 288, 3, 12, 17, 0) from rfl) (by decide) rfl rfl (by decide) rfl rfl rfl ?_
              obtain ⟨s217, hs217⟩ : ∃ x0, x0 = uI s215 87 (Int32.ofInt ((iI s215 87) + 1)) := ⟨_, rfl⟩
              rw [← hs217]
              have Is217 : Bd s217 := by rw [hs217]; exact bd_I Is215 (show (0 : Int) ≤ ((iI s215 87) + 1) ∧ ((iI s215 87) + 1) ≤ 8 by omega) ⟨by omega, by omega⟩
              have Fs217 := fm_I (x := Int32.ofInt ((iI s215 87) + 1)) Fs215 (show 87 ∈ _ by decide)
              rw [← hs217] at Fs217
              have vs217 : iI s217 87 = ((iI s215 87) + 1) := by rw [hs217]; exact iI_u ⟨by omega, by omega⟩
              have ws217_77 : iI s217 77 = iI s215 77 := by rw [hs217]; rfl
              have ws217_75 : iI s217 75 = iI s215 75 := by rw [hs217]; rfl
              have ws217_79 : iI s217 79 = iI s215 79 := by rw [hs217]; rfl
              have ws217_78 : iI s217 78 = iI s215 78 := by rw [hs217]; rfl
              have ws217_86 : iI s217 86 = iI s215 86 := by rw [hs217]; rfl
              have ws217_88 : iI s217 88 = iI s215 88 := by rw [hs217]; rfl
              refine z_aload_n X (x := A 179) (show cdA 213 142 = some (.aload_n 0, 1, 0, 0, 0) from rfl) (List.Mem.tail _ (List.Mem.tail _ (List.Mem.tail _ (List.Mem.head _)))) ?_
              refine z_callV X 179 (rm := rmN 212) (As := []) (st := []) (show cdA 213 143 = some (.invokevirtual 276, 3, 212, 0, 0) from rfl) rfl (by decide) rfl (by rw [E.1, E.2.1, E.2.2.1]; exact k_ors G Is217 (by omega) (by omega) (by omega) (by omega)) ⟨by rw [E.2.2.2]; exact (show (rmN 212).frames + 1 ≤ (rmN 213).frames by decide), by rw [E.2.2.2]; exact (show 8 + (mNL (miB 212) + 11) + (rmN 212).locals ≤ (rmN 213).locals by decide), by rw [E.2.2.2]; exact (show 0 + (rmN 212).cells ≤ (rmN 213).cells by decide), by rw [E.2.2.2]; exact (show 0 + (rmN 212).slots ≤ (rmN 213).slots by decide)⟩ (Nat.le_of_ble_eq_true rfl) (fun vv s218 hq => ?_) (fun ee s218 hq => ?_)
              rotate_left
              · obtain ⟨Is218, Fs218, e219, hv, hrs218, hps218⟩ := hq; cases hv
              obtain ⟨Is218, Fs218, e219, hv, hrs218, hps218⟩ := hq
              cases hv
              have Gs218 := fm_ts Fs217 Fs218 (by decide) (by decide)
              have b220 : (0 : Int) ≤ iI s218 77 ∧ iI s218 77 ≤ 400 := Is218.1 77
              have ws218_75 : iI s218 75 = iI s217 75 := fm_i Fs218 (by decide)
              have b221 : (0 : Int) ≤ iI s218 79 ∧ iI s218 79 ≤ 9 := Is218.1 79
              have b222 : (0 : Int) ≤ iI s218 78 ∧ iI s218 78 ≤ 8 := Is218.1 78
              have ws218_86 : iI s218 86 = iI s217 86 := fm_i Fs218 (by decide)
              have ws218_87 : iI s218 87 = iI s217 87 := fm_i Fs218 (by decide)
              have ws218_88 : iI s218 88 = iI s217 88 := fm_i Fs218 (by decide)
              show WS k 146 [(3, .int (Int32.ofInt 0)), (2, .int (Int32.ofInt 0)), (1, .int (Int32.ofInt e9)), (0, .ref (A 179))] [.int (Int32.ofInt e219)] (Wd A dT s218) 0 0
              refine w_pop X.1 (ax_d X (show cdA 213 146 = some (.pop, 1, 0, 0, 0) from rfl)) rfl ?_
              refine z_aload_n X (x := A 179) (show cdA 213 147 = some (.aload_n 0, 1, 0, 0, 0) from rfl) (List.Mem.tail _ (List.Mem.tail _ (List.Mem.tail _ (List.Mem.head _)))) ?_
              refine z_getI X 179 (show cdA 213 148 = some (.getfield 191, 3, 12, 6, 0) from rfl) (by decide) rfl rfl ?_
              have b223 : (0 : Int) ≤ iI s218 79 ∧ iI s218 79 ≤ 9 := Is218.1 79
              refine z_if_ne X (t := 160) (show cdA 213 151 = some (.ifCond .ne 9, 3, 1, 0, 0) from rfl) (by decide) ⟨by omega, by omega⟩ (fun g224 => ?_) (fun g224 => ?_)
              ·
                refine z_aload_n X (x := A 179) (show cdA 213 160 = some (.aload_n 0, 1, 0, 0, 0) from rfl) (List.Mem.tail _ (List.Mem.tail _ (List.Mem.tail _ (List.Mem.head _)))) ?_
                refine w_dup X.1 (ax_d X (show cdA 213 161 = some (.dup, 1, 0, 0, 0) from rfl)) rfl ?_
                refine z_getI X 179 (show cdA 213 162 = some (.getfield 282, 3, 12, 16, 0) from rfl) (by decide) rfl rfl ?_
                have b225 : (0 : Int) ≤ iI s218 86 ∧ iI s218 86 ≤ 8 := Is218.1 86
                refine z_const X (show cdA 213 165 = some (.iconst 1, 1, 0, 0, 0) from rfl) ?_
                refine z_add X (show cdA 213 166 = some (.iadd, 1, 0, 0, 0) from rfl) ?_
                refine s_putI X 179 (show cdA 213 167 = some (.putfield 282, 3, 12, 16, 0) from rfl) (by decide) rfl rfl (by decide) rfl rfl rfl ?_
                obtain ⟨s226, hs226⟩ : ∃ x0, x0 = uI s218 86 (Int32.ofInt ((iI s218 86) + 1)) := ⟨_, rfl⟩
                rw [← hs226]
                have Is226 : Bd s226 := by rw [hs226]; exact bd_I Is218 (show (0 : Int) ≤ ((iI s218 86) + 1) ∧ ((iI s218 86) + 1) ≤ 8 by omega) ⟨by omega, by omega⟩
                have Fs226 := fm_I (x := Int32.ofInt ((iI s218 86) + 1)) Gs218 (show 86 ∈ _ by decide)
                rw [← hs226] at Fs226
                have vs226 : iI s226 86 = ((iI s218 86) + 1) := by rw [hs226]; exact iI_u ⟨by omega, by omega⟩
                have ws226_77 : iI s226 77 = iI s218 77 := by rw [hs226]; rfl
                have ws226_75 : iI s226 75 = iI s218 75 := by rw [hs226]; rfl
                have ws226_79 : iI s226 79 = iI s218 79 := by rw [hs226]; rfl
                have ws226_78 : iI s226 78 = iI s218 78 := by rw [hs226]; rfl
                have ws226_87 : iI s226 87 = iI s218 87 := by rw [hs226]; rfl
                have ws226_88 : iI s226 88 = iI s218 88 := by rw [hs226]; rfl
                exact w_vret X.1 q hRt (ax_d X (show cdA 213 170 = some (.return_, 1, 0, 0, 0) from rfl)) (Nat.zero_le _) (Nat.zero_le _) ⟨_, rfl, Is226, Fs226, rfl, by omega⟩
              ·
                refine z_aload_n X (x := A 179) (show cdA 213 154 = some (.aload_n 0, 1, 0, 0, 0) from rfl) (List.Mem.tail _ (List.Mem.tail _ (List.Mem.tail _ (List.Mem.head _)))) ?_
                refine z_bipush X (show cdA 213 155 = some (.bipush 59, 2, 0, 0, 59) from rfl) ?_
                refine z_callV X 179 (rm := rmN 204) (As := [.int (Int32.ofInt 59)]) (st := []) (show cdA 213 157 = some (.invokevirtual 263, 3, 204, 0, 0) from rfl) rfl (by decide) rfl (by rw [E.1, E.2.1, E.2.2.1]; exact k_sign G Is218 (by omega) (by omega)) ⟨by rw [E.2.2.2]; exact (show (rmN 204).frames + 1 ≤ (rmN 213).frames by decide), by rw [E.2.2.2]; exact (show 8 + (mNL (miB 204) + 11) + (rmN 204).locals ≤ (rmN 213).locals by decide), by rw [E.2.2.2]; exact (show 0 + (rmN 204).cells ≤ (rmN 213).cells by decide), by rw [E.2.2.2]; exact (show 0 + (rmN 204).slots ≤ (rmN 213).slots by decide)⟩ (Nat.le_of_ble_eq_true rfl) (fun vv s227 hq => ?_) (fun ee s227 hq => ?_)
                rotate_left
                · obtain ⟨Is227, Fs227, hv, hps227⟩ := hq; cases hv
                obtain ⟨Is227, Fs227, hv, hps227⟩ := hq
                cases hv
                have Gs227 := fm_ts Gs218 Fs227 (by decide) (by decide)
                have b229 : (0 : Int) ≤ iI s227 77 ∧ iI s227 77 ≤ 400 := Is227.1 77
                have ws227_75 : iI s227 75 = iI s218 75 := fm_i Fs227 (by decide)
                have b230 : (0 : Int) ≤ iI s227 79 ∧ iI s227 79 ≤ 9 := Is227.1 79
                have ws227_78 : iI s227 78 = iI s218 78 := fm_i Fs227 (by decide)
                have ws227_86 : iI s227 86 = iI s218 86 := fm_i Fs227 (by decide)
                have ws227_87 : iI s227 87 = iI s218 87 := fm_i Fs227 (by decide)
                have ws227_88 : iI s227 88 = iI s218 88 := fm_i Fs227 (by decide)
                show WS k 160 [(3, .int (Int32.ofInt 0)), (2, .int (Int32.ofInt 0)), (1, .int (Int32.ofInt e9)), (0, .ref (A 179))] [] (Wd A dT s227) 0 0
                refine z_aload_n X (x := A 179) (show cdA 213 160 = some (.aload_n 0, 1, 0, 0, 0) from rfl) (List.Mem.tail _ (List.Mem.tail _ (List.Mem.tail _ (List.Mem.head _)))) ?_
                refine w_dup X.1 (ax_d X (show cdA 213 161 = some (.dup, 1, 0, 0, 0) from rfl)) rfl ?_
                refine z_getI X 179 (show cdA 213 162 = some (.getfield 282, 3, 12, 16, 0) from rfl) (by decide) rfl rfl ?_
                have b231 : (0 : Int) ≤ iI s227 86 ∧ iI s227 86 ≤ 8 := Is227.1 86
                refine z_const X (show cdA 213 165 = some (.iconst 1, 1, 0, 0, 0) from rfl) ?_
                refine z_add X (show cdA 213 166 = some (.iadd, 1, 0, 0, 0) from rfl) ?_
                refine s_putI X 179 (show cdA 213 167 = some (.putfield 282, 3, 12, 16, 0) from rfl) (by decide) rfl rfl (by decide) rfl rfl rfl ?_
                obtain ⟨s232, hs232⟩ : ∃ x0, x0 = uI s227 86 (Int32.ofInt ((iI s227 86) + 1)) := ⟨_, rfl⟩
                rw [← hs232]
                have Is232 : Bd s232 := by rw [hs232]; exact bd_I Is227 (show (0 : Int) ≤ ((iI s227 86) + 1) ∧ ((iI s227 86) + 1) ≤ 8 by omega) ⟨by omega, by omega⟩
                have Fs232 := fm_I (x := Int32.ofInt ((iI s227 86) + 1)) Gs227 (show 86 ∈ _ by decide)
                rw [← hs232] at Fs232
                have vs232 : iI s232 86 = ((iI s227 86) + 1) := by rw [hs232]; exact iI_u ⟨by omega, by omega⟩
                have ws232_77 : iI s232 77 = iI s227 77 := by rw [hs232]; rfl
                have ws232_75 : iI s232 75 = iI s227 75 := by rw [hs232]; rfl
                have ws232_79 : iI s232 79 = iI s227 79 := by rw [hs232]; rfl
                have ws232_78 : iI s232 78 = iI s227 78 := by rw [hs232]; rfl
                have ws232_87 : iI s232 87 = iI s227 87 := by rw [hs232]; rfl
                have ws232_88 : iI s232 88 = iI s227 88 := by rw [hs232]; rfl
                exact w_vret X.1 q hRt (ax_d X (show cdA 213 170 = some (.return_, 1, 0, 0, 0) from rfl)) (Nat.zero_le _) (Nat.zero_le _) ⟨_, rfl, Is232, Fs232, rfl, by omega⟩
            ·
              refine z_aload_n X (x := A 179) (show cdA 213 103 = some (.aload_n 0, 1, 0, 0, 0) from rfl) (List.Mem.tail _ (List.Mem.tail _ (List.Mem.tail _ (List.Mem.head _)))) ?_
              refine z_aload_n X (x := A 179) (show cdA 213 104 = some (.aload_n 0, 1, 0, 0, 0) from rfl) (List.Mem.tail _ (List.Mem.tail _ (List.Mem.tail _ (List.Mem.head _)))) ?_
              refine z_getI X 179 (show cdA 213 105 = some (.getfield 184, 3, 12, 4, 0) from rfl) (by decide) rfl rfl ?_
              have b233 : (0 : Int) ≤ iI s209 77 ∧ iI s209 77 ≤ 400 := Is209.1 77
              refine s_putI X 179 (show cdA 213 108 = some (.putfield 285, 3, 12, 18, 0) from rfl) (by decide) rfl rfl (by decide) rfl rfl rfl ?_
              obtain ⟨s234, hs234⟩ : ∃ x0, x0 = uI s209 88 (Int32.ofInt (iI s209 77)) := ⟨_, rfl⟩
              rw [← hs234]
              have Is234 : Bd s234 := by rw [hs234]; exact bd_I Is209 (show ((-1) : Int) ≤ (iI s209 77) ∧ (iI s209 77) ≤ 200 by omega) ⟨by omega, by omega⟩
              have Fs234 := fm_I (x := Int32.ofInt (iI s209 77)) Gs209 (show 88 ∈ _ by decide)
              rw [← hs234] at Fs234
              have vs234 : iI s234 88 = (iI s209 77) := by rw [hs234]; exact iI_u ⟨by omega, by omega⟩
              have ws234_77 : iI s234 77 = iI s209 77 := by rw [hs234]; rfl
              have ws234_75 : iI s234 75 = iI s209 75 := by rw [hs234]; rfl
              have ws234_79 : iI s234 79 = iI s209 79 := by rw [hs234]; rfl
              have ws234_78 : iI s234 78 = iI s209 78 := by rw [hs234]; rfl
              have ws234_86 : iI s234 86 = iI s209 86 := by rw [hs234]; rfl
              have ws234_87 : iI s234 87 = iI s209 87 := by rw [hs234]; rfl
              refine z_aload_n X (x := A 179) (show cdA 213 111 = some (.aload_n 0, 1, 0, 0, 0) from rfl) (List.Mem.tail _ (List.Mem.tail _ (List.Mem.tail _ (List.Mem.head _)))) ?_
              refine z_callV X 179 (rm := rmN 209) (As := []) (st := []) (show cdA 213 112 = some (.invokevirtual 260, 3, 209, 0, 0) from rfl) rfl (by decide) rfl (by rw [E.1, E.2.1, E.2.2.1]; exact k_sum G Is234 (by omega) (by omega) (by omega)) ⟨by rw [E.2.2.2]; exact (show (rmN 209).frames + 1 ≤ (rmN 213).frames by decide), by rw [E.2.2.2]; exact (show 8 + (mNL (miB 209) + 11) + (rmN 209).locals ≤ (rmN 213).locals by decide), by rw [E.2.2.2]; exact (show 0 + (rmN 209).cells ≤ (rmN 213).cells by decide), by rw [E.2.2.2]; exact (show 0 + (rmN 209).slots ≤ (rmN 213).slots by decide)⟩ (Nat.le_of_ble_eq_true rfl) (fun vv s235 hq => ?_) (fun ee s235 hq => ?_)
              rotate_left
              · obtain ⟨Is235, Fs235, e236, hv, hrs235, hps235⟩ := hq; cases hv
              obtain ⟨Is235, Fs235, e236, hv, hrs235, hps235⟩ := hq
              cases hv
              have Gs235 := fm_ts Fs234 Fs235 (by decide) (by decide)
              have b237 : (0 : Int) ≤ iI s235 77 ∧ iI s235 77 ≤ 400 := Is235.1 77
              have ws235_75 : iI s235 75 = iI s234 75 := fm_i Fs235 (by decide)
              have b238 : (0 : Int) ≤ iI s235 79 ∧ iI s235 79 ≤ 9 := Is235.1 79
              have b239 : (0 : Int) ≤ iI s235 78 ∧ iI s235 78 ≤ 8 := Is235.1 78
              have ws235_86 : iI s235 86 = iI s234 86 := fm_i Fs235 (by decide)
              have ws235_87 : iI s235 87 = iI s234 87 := fm_i Fs235 (by decide)
              have ws235_88 : iI s235 88 = iI s234 88 := fm_i Fs235 (by decide)
              show WS k 115 [(3, .int (Int32.ofInt 0)), (2, .int (Int32.ofInt 0)), (1, .int (Int32.ofInt e9)), (0, .ref (A 179))] [.int (Int32.ofInt e236)] (Wd A dT s235) 0 0
              refine w_pop X.1 (ax_d X (show cdA 213 115 = some (.pop, 1, 0, 0, 0) from rfl)) rfl ?_
              refine z_goto X (t := 147) (show cdA 213 116 = some (.goto 31, 3, 0, 0, 0) from rfl) (by decide) ?_
              refine z_aload_n X (x := A 179) (show cdA 213 147 = some (.aload_n 0, 1, 0, 0, 0) from rfl) (List.Mem.tail _ (List.Mem.tail _ (List.Mem.tail _ (List.Mem.head _)))) ?_
              refine z_getI X 179 (show cdA 213 148 = some (.getfield 191, 3, 12, 6, 0) from rfl) (by decide) rfl rfl ?_
              have b240 : (0 : Int) ≤ iI s235 79 ∧ iI s235 79 ≤ 9 := Is235.1 79
              refine z_if_ne X (t := 160) (show cdA 213 151 = some (.ifCond .ne 9, 3, 1, 0, 0) from rfl) (by decide) ⟨by omega, by omega⟩ (fun g241 => ?_) (fun g241 => ?_)
              ·
                refine z_aload_n X (x := A 179) (show cdA 213 160 = some (.aload_n 0, 1, 0, 0, 0) from rfl) (List.Mem.tail _ (List.Mem.tail _ (List.Mem.tail _ (List.Mem.head _)))) ?_
                refine w_dup X.1 (ax_d X (show cdA 213 161 = some (.dup, 1, 0, 0, 0) from rfl)) rfl ?_
                refine z_getI X 179 (show cdA 213 162 = some (.getfield 282, 3, 12, 16, 0) from rfl) (by decide) rfl rfl ?_
                have b242 : (0 : Int) ≤ iI s235 86 ∧ iI s235 86 ≤ 8 := Is235.1 86
                refine z_const X (show cdA 213 165 = some (.iconst 1, 1, 0, 0, 0) from rfl) ?_
                refine z_add X (show cdA 213 166 = some (.iadd, 1, 0, 0, 0) from rfl) ?_
                refine s_putI X 179 (show cdA 213 167 = some (.putfield 282, 3, 12, 16, 0) from rfl) (by decide) rfl rfl (by decide) rfl rfl rfl ?_
                obtain ⟨s243, hs243⟩ : ∃ x0, x0 = uI s235 86 (Int32.ofInt ((iI s235 86) + 1)) := ⟨_, rfl⟩
                rw [← hs243]
                have Is243 : Bd s243 := by rw [hs243]; exact bd_I Is235 (show (0 : Int) ≤ ((iI s235 86) + 1) ∧ ((iI s235 86) + 1) ≤ 8 by omega) ⟨by omega, by omega⟩
                have Fs243 := fm_I (x := Int32.ofInt ((iI s235 86) + 1)) Gs235 (show 86 ∈ _ by decide)
                rw [← hs243] at Fs243
                have vs243 : iI s243 86 = ((iI s235 86) + 1) := by rw [hs243]; exact iI_u ⟨by omega, by omega⟩
                have ws243_77 : iI s243 77 = iI s235 77 := by rw [hs243]; rfl
                have ws243_75 : iI s243 75 = iI s235 75 := by rw [hs243]; rfl
                have ws243_79 : iI s243 79 = iI s235 79 := by rw [hs243]; rfl
                have ws243_78 : iI s243 78 = iI s235 78 := by rw [hs243]; rfl
                have ws243_87 : iI s243 87 = iI s235 87 := by rw [hs243]; rfl
                have ws243_88 : iI s243 88 = iI s235 88 := by rw [hs243]; rfl
                exact w_vret X.1 q hRt (ax_d X (show cdA 213 170 = some (.return_, 1, 0, 0, 0) from rfl)) (Nat.zero_le _) (Nat.zero_le _) ⟨_, rfl, Is243, Fs243, rfl, by omega⟩
              ·
                refine z_aload_n X (x := A 179) (show cdA 213 154 = some (.aload_n 0, 1, 0, 0, 0) from rfl) (List.Mem.tail _ (List.Mem.tail _ (List.Mem.tail _ (List.Mem.head _)))) ?_
                refine z_bipush X (show cdA 213 155 = some (.bipush 59, 2, 0, 0, 59) from rfl) ?_
                refine z_callV X 179 (rm := rmN 204) (As := [.int (Int32.ofInt 59)]) (st := []) (show cdA 213 157 = some (.invokevirtual 263, 3, 204, 0, 0) from rfl) rfl (by decide) rfl (by rw [E.1, E.2.1, E.2.2.1]; exact k_sign G Is235 (by omega) (by omega)) ⟨by rw [E.2.2.2]; exact (show (rmN 204).frames + 1 ≤ (rmN 213).frames by decide), by rw [E.2.2.2]; exact (show 8 + (mNL (miB 204) + 11) + (rmN 204).locals ≤ (rmN 213).locals by decide), by rw [E.2.2.2]; exact (show 0 + (rmN 204).cells ≤ (rmN 213).cells by decide), by rw [E.2.2.2]; exact (show 0 + (rmN 204).slots ≤ (rmN 213).slots by decide)⟩ (Nat.le_of_ble_eq_true rfl) (fun vv s244 hq => ?_) (fun ee s244 hq => ?_)
                rotate_left
                · obtain ⟨Is244, Fs244, hv, hps244⟩ := hq; cases hv
                obtain ⟨Is244, Fs244, hv, hps244⟩ := hq
                cases hv
                have Gs244 := fm_ts Gs235 Fs244 (by decide) (by decide)
                have b246 : (0 : Int) ≤ iI s244 77 ∧ iI s244 77 ≤ 400 := Is244.1 77
                have ws244_75 : iI s244 75 = iI s235 75 := fm_i Fs244 (by decide)
                have b247 : (0 : Int) ≤ iI s244 79 ∧ iI s244 79 ≤ 9 := Is244.1 79
                have ws244_78 : iI s244 78 = iI s235 78 := fm_i Fs244 (by decide)
                have ws244_86 : iI s244 86 = iI s235 86 := fm_i Fs244 (by decide)
                have ws244_87 : iI s244 87 = iI s235 87 := fm_i Fs244 (by decide)
                have ws244_88 : iI s244 88 = iI s235 88 := fm_i Fs244 (by decide)
                show WS k 160 [(3, .int (Int32.ofInt 0)), (2, .int (Int32.ofInt 0)), (1, .int (Int32.ofInt e9)), (0, .ref (A 179))] [] (Wd A dT s244) 0 0
                refine z_aload_n X (x := A 179) (show cdA 213 160 = some (.aload_n 0, 1, 0, 0, 0) from rfl) (List.Mem.tail _ (List.Mem.tail _ (List.Mem.tail _ (List.Mem.head _)))) ?_
                refine w_dup X.1 (ax_d X (show cdA 213 161 = some (.dup, 1, 0, 0, 0) from rfl)) rfl ?_
                refine z_getI X 179 (show cdA 213 162 = some (.getfield 282, 3, 12, 16, 0) from rfl) (by decide) rfl rfl ?_
                have b248 : (0 : Int) ≤ iI s244 86 ∧ iI s244 86 ≤ 8 := Is244.1 86
                refine z_const X (show cdA 213 165 = some (.iconst 1, 1, 0, 0, 0) from rfl) ?_
                refine z_add X (show cdA 213 166 = some (.iadd, 1, 0, 0, 0) from rfl) ?_
                refine s_putI X 179 (show cdA 213 167 = some (.putfield 282, 3, 12, 16, 0) from rfl) (by decide) rfl rfl (by decide) rfl rfl rfl ?_
                obtain ⟨s249, hs249⟩ : ∃ x0, x0 = uI s244 86 (Int32.ofInt ((iI s244 86) + 1)) := ⟨_, rfl⟩
                rw [← hs249]
                have Is249 : Bd s249 := by rw [hs249]; exact bd_I Is244 (show (0 : Int) ≤ ((iI s244 86) + 1) ∧ ((iI s244 86) + 1) ≤ 8 by omega) ⟨by omega, by omega⟩
                have Fs249 := fm_I (x := Int32.ofInt ((iI s244 86) + 1)) Gs244 (show 86 ∈ _ by decide)
                rw [← hs249] at Fs249
                have vs249 : iI s249 86 = ((iI s244 86) + 1) := by rw [hs249]; exact iI_u ⟨by omega, by omega⟩
                have ws249_77 : iI s249 77 = iI s244 77 := by rw [hs249]; rfl
                have ws249_75 : iI s249 75 = iI s244 75 := by rw [hs249]; rfl
                have ws249_79 : iI s249 79 = iI s244 79 := by rw [hs249]; rfl
                have ws249_78 : iI s249 78 = iI s244 78 := by rw [hs249]; rfl
                have ws249_87 : iI s249 87 = iI s244 87 := by rw [hs249]; rfl
                have ws249_88 : iI s249 88 = iI s244 88 := by rw [hs249]; rfl
                exact w_vret X.1 q hRt (ax_d X (show cdA 213 170 = some (.return_, 1, 0, 0, 0) from rfl)) (Nat.zero_le _) (Nat.zero_le _) ⟨_, rfl, Is249, Fs249, rfl, by omega⟩
          ·
            exact w_vret X.1 q hRt (ax_d X (show cdA 213 94 = some (.return_, 1, 0, 0, 0) from rfl)) (Nat.zero_le _) (Nat.zero_le _) ⟨_, rfl, Is204, Gs204, rfl, by omega⟩
    ·
      refine z_const X (show cdA 213 43 = some (.iconst 1, 1, 0, 0, 0) from rfl) ?_
      refine z_goto X (t := 48) (show cdA 213 44 = some (.goto 4, 3, 0, 0, 0) from rfl) (by decide) ?_
      refine z_store_n X (lv' := [(3, .int (Int32.ofInt 1)), (2, .int (Int32.ofInt 0)), (1, .int (Int32.ofInt e9)), (0, .ref (A 179))]) (show cdA 213 48 = some (.istore_n 3, 1, 0, 0, 0) from rfl) (by decide) (fun _ h => h) ?_
      refine z_load_n X (x := 0) (show cdA 213 49 = some (.iload_n 2, 1, 0, 0, 0) from rfl) (List.Mem.tail _ (List.Mem.head _)) ?_
      refine z_if_ne X (t := 69) (show cdA 213 50 = some (.ifCond .ne 19, 3, 1, 0, 0) from rfl) (by decide) ⟨by omega, by omega⟩ (fun g250 => ?_) (fun g250 => ?_)
      ·
        refine z_aload_n X (x := A 179) (show cdA 213 69 = some (.aload_n 0, 1, 0, 0, 0) from rfl) (List.Mem.tail _ (List.Mem.tail _ (List.Mem.tail _ (List.Mem.head _)))) ?_
        refine z_getI X 179 (show cdA 213 70 = some (.getfield 282, 3, 12, 16, 0) from rfl) (by decide) rfl rfl ?_
        have b251 : (0 : Int) ≤ iI s14 86 ∧ iI s14 86 ≤ 8 := Is14.1 86
        refine z_bipush X (show cdA 213 73 = some (.bipush 8, 2, 0, 0, 8) from rfl) ?_
        refine z_icmp_ne X (t := 87) (show cdA 213 75 = some (.if_icmp .ne 12, 3, 1, 0, 0) from rfl) (by decide) ⟨by omega, by omega⟩ ⟨by omega, by omega⟩ (fun g252 => ?_) (fun g252 => ?_)
        ·
          refine z_aload_n X (x := A 179) (show cdA 213 87 = some (.aload_n 0, 1, 0, 0, 0) from rfl) (List.Mem.tail _ (List.Mem.tail _ (List.Mem.tail _ (List.Mem.head _)))) ?_
          refine z_getI X 179 (show cdA 213 88 = some (.getfield 191, 3, 12, 6, 0) from rfl) (by decide) rfl rfl ?_
          have b253 : (0 : Int) ≤ iI s14 79 ∧ iI s14 79 ≤ 9 := Is14.1 79
          refine z_if_eq X (t := 95) (show cdA 213 91 = some (.ifCond .eq 4, 3, 0, 0, 0) from rfl) (by decide) ⟨by omega, by omega⟩ (fun g254 => ?_) (fun g254 => ?_)
          ·
            refine z_aload_n X (x := A 179) (show cdA 213 95 = some (.aload_n 0, 1, 0, 0, 0) from rfl) (List.Mem.tail _ (List.Mem.tail _ (List.Mem.tail _ (List.Mem.head _)))) ?_
            refine z_callV X 179 (rm := rmN 203) (As := []) (st := []) (show cdA 213 96 = some (.invokevirtual 254, 3, 203, 0, 0) from rfl) rfl (by decide) rfl (by rw [E.1, E.2.1, E.2.2.1]; exact k_skipWord G Is14 (by omega)) ⟨by rw [E.2.2.2]; exact (show (rmN 203).frames + 1 ≤ (rmN 213).frames by decide), by rw [E.2.2.2]; exact (show 8 + (mNL (miB 203) + 11) + (rmN 203).locals ≤ (rmN 213).locals by decide), by rw [E.2.2.2]; exact (show 0 + (rmN 203).cells ≤ (rmN 213).cells by decide), by rw [E.2.2.2]; exact (show 0 + (rmN 203).slots ≤ (rmN 213).slots by decide)⟩ (Nat.le_of_ble_eq_true rfl) (fun vv s255 hq => ?_) (fun ee s255 hq => ?_)
            rotate_left
            · obtain ⟨Is255, Fs255, hv, hps255⟩ := hq; cases hv
            obtain ⟨Is255, Fs255, hv, hps255⟩ := hq
            cases hv
            have Gs255 := fm_ts Gs14 Fs255 (by decide) (by decide)
            have b257 : (0 : Int) ≤ iI s255 77 ∧ iI s255 77 ≤ 400 := Is255.1 77
            have ws255_75 : iI s255 75 = iI s14 75 := fm_i Fs255 (by decide)
            have ws255_79 : iI s255 79 = iI s14 79 := fm_i Fs255 (by decide)
            have ws255_78 : iI s255 78 = iI s14 78 := fm_i Fs255 (by decide)
            have ws255_86 : iI s255 86 = iI s14 86 := fm_i Fs255 (by decide)
            have ws255_87 : iI s255 87 = iI s14 87 := fm_i Fs255 (by decide)
            have ws255_88 : iI s255 88 = iI s14 88 := fm_i Fs255 (by decide)
            show WS k 99 [(3, .int (Int32.ofInt 1)), (2, .int (Int32.ofInt 0)), (1, .int (Int32.ofInt e9)), (0, .ref (A 179))] [] (Wd A dT s255) 0 0
            refine z_load_n X (x := 0) (show cdA 213 99 = some (.iload_n 2, 1, 0, 0, 0) from rfl) (List.Mem.tail _ (List.Mem.head _)) ?_
            refine z_if_eq X (t := 119) (show cdA 213 100 = some (.ifCond .eq 19, 3, 0, 0, 0) from rfl) (by decide) ⟨by omega, by omega⟩ (fun g258 => ?_) (fun g258 => ?_)
            ·
              refine z_aload_n X (x := A 179) (show cdA 213 119 = some (.aload_n 0, 1, 0, 0, 0) from rfl) (List.Mem.tail _ (List.Mem.tail _ (List.Mem.tail _ (List.Mem.head _)))) ?_
              refine s_getR X 179 (show cdA 213 120 = some (.getfield 29, 3, 12, 20, 0) from rfl) (by decide) rfl rfl ?_
              refine z_aload_n X (x := A 179) (show cdA 213 123 = some (.aload_n 0, 1, 0, 0, 0) from rfl) (List.Mem.tail _ (List.Mem.tail _ (List.Mem.tail _ (List.Mem.head _)))) ?_
              refine z_getI X 179 (show cdA 213 124 = some (.getfield 288, 3, 12, 17, 0) from rfl) (by decide) rfl rfl ?_
              have b259 : (0 : Int) ≤ iI s255 87 ∧ iI s255 87 ≤ 8 := Is255.1 87
              refine z_aload_n X (x := A 179) (show cdA 213 127 = some (.aload_n 0, 1, 0, 0, 0) from rfl) (List.Mem.tail _ (List.Mem.tail _ (List.Mem.tail _ (List.Mem.head _)))) ?_
              refine z_getI X 179 (show cdA 213 128 = some (.getfield 184, 3, 12, 4, 0) from rfl) (by decide) rfl rfl ?_
              have b260 : (0 : Int) ≤ iI s255 77 ∧ iI s255 77 ≤ 400 := Is255.1 77
              refine z_ast X 183 (show cdA 213 131 = some (.iastore, 1, 0, 0, 0) from rfl) (by decide) rfl (by omega) (show (iI s255 87) < 8 by omega) (by decide) ?_
              obtain ⟨s261, hs261⟩ : ∃ x0, x0 = uC s255 160 ((iI s255 87)).toNat (Int32.ofInt (iI s255 77)) := ⟨_, rfl⟩
              rw [← hs261]
              have Is261 : Bd s261 := by rw [hs261]; exact bd_C Is255 (show (0 : Int) ≤ (iI s255 77) ∧ (iI s255 77) ≤ 200 by omega) ⟨by omega, by omega⟩
              have Fs261 := fm_C (i := ((iI s255 87)).toNat) (x := Int32.ofInt (iI s255 77)) Gs255 (show 160 ∈ _ by decide)
              rw [← hs261] at Fs261
              have ws261_77 : iI s261 77 = iI s255 77 := by rw [hs261]; rfl
              have ws261_75 : iI s261 75 = iI s255 75 := by rw [hs261]; rfl
              have ws261_79 : iI s261 79 = iI s255 79 := by rw [hs261]; rfl
              have ws261_78 : iI s261 78 = iI s255 78 := by rw [hs261]; rfl
              have ws261_86 : iI s261 86 = iI s255 86 := by rw [hs261]; rfl
              have ws261_87 : iI s261 87 = iI s255 87 := by rw [hs261]; rfl
              have ws261_88 : iI s261 88 = iI s255 88 := by rw [hs261]; rfl
              refine z_aload_n X (x := A 179) (show cdA 213 132 = some (.aload_n 0, 1, 0, 0, 0) from rfl) (List.Mem.tail _ (List.Mem.tail _ (List.Mem.tail _ (List.Mem.head _)))) ?_
              refine w_dup X.1 (ax_d X (show cdA 213 133 = some (.dup, 1, 0, 0, 0) from rfl)) rfl ?_
              refine z_getI X 179 (show cdA 213 134 = some (.getfield 288, 3, 12, 17, 0) from rfl) (by decide) rfl rfl ?_
              have b262 : (0 : Int) ≤ iI s261 87 ∧ iI s261 87 ≤ 8 := Is261.1 87
              refine z_const X (show cdA 213 137 = some (.iconst 1, 1, 0, 0, 0) from rfl) ?_
              refine z_add X (show cdA 213 138 = some (.iadd, 1, 0, 0, 0) from rfl) ?_
              refine s_putI X 179 (show cdA 213 139 = some (.putfield 288, 3, 12, 17, 0) from rfl) (by decide) rfl rfl (by decide) rfl rfl rfl ?_
              obtain ⟨s263, hs263⟩ : ∃ x0, x0 = uI s261 87 (Int32.ofInt ((iI s261 87) + 1)) := ⟨_, rfl⟩
              rw [← hs263]
              have Is263 : Bd s263 := by rw [hs263]; exact bd_I Is261 (show (0 : Int) ≤ ((iI s261 87) + 1) ∧ ((iI s261 87) + 1) ≤ 8 by omega) ⟨by omega, by omega⟩
              have Fs263 := fm_I (x := Int32.ofInt ((iI s261 87) + 1)) Fs261 (show 87 ∈ _ by decide)
              rw [← hs263] at Fs263
              have vs263 : iI s263 87 = ((iI s261 87) + 1) := by rw [hs263]; exact iI_u ⟨by omega, by omega⟩
              have ws263_77 : iI s263 77 = iI s261 77 := by rw [hs263]; rfl
              have ws263_75 : iI s263 75 = iI s261 75 := by rw [hs263]; rfl
              have ws263_79 : iI s263 79 = iI s261 79 := by rw [hs263]; rfl
              have ws263_78 : iI s263 78 = iI s261 78 := by rw [hs263]; rfl
              have ws263_86 : iI s263 86 = iI s261 86 := by rw [hs263]; rfl
              have ws263_88 : iI s263 88 = iI s261 88 := by rw [hs263]; rfl
              refine z_aload_n X (x := A 179) (show cdA 213 142 = some (.aload_n 0, 1, 0, 0, 0) from rfl) (List.Mem.tail _ (List.Mem.tail _ (List.Mem.tail _ (List.Mem.head _)))) ?_
              refine z_callV X 179 (rm := rmN 212) (As := []) (st := []) (show cdA 213 143 = some (.invokevirtual 276, 3, 212, 0, 0) from rfl) rfl (by decide) rfl (by rw [E.1, E.2.1, E.2.2.1]; exact k_ors G Is263 (by omega) (by omega) (by omega) (by omega)) ⟨by rw [E.2.2.2]; exact (show (rmN 212).frames + 1 ≤ (rmN 213).frames by decide), by rw [E.2.2.2]; exact (show 8 + (mNL (miB 212) + 11) + (rmN 212).locals ≤ (rmN 213).locals by decide), by rw [E.2.2.2]; exact (show 0 + (rmN 212).cells ≤ (rmN 213).cells by decide), by rw [E.2.2.2]; exact (show 0 + (rmN 212).slots ≤ (rmN 213).slots by decide)⟩ (Nat.le_of_ble_eq_true rfl) (fun vv s264 hq => ?_) (fun ee s264 hq => ?_)
              rotate_left
              · obtain ⟨Is264, Fs264, e265, hv, hrs264, hps264⟩ := hq; cases hv
              obtain ⟨Is264, Fs264, e265, hv, hrs264, hps264⟩ := hq
              cases hv
              have Gs264 := fm_ts Fs263 Fs264 (by decide) (by decide)
              have b266 : (0 : Int) ≤ iI s264 77 ∧ iI s264 77 ≤ 400 := Is264.1 77
              have ws264_75 : iI s264 75 = iI s263 75 := fm_i Fs264 (by decide)
              have b267 : (0 : Int) ≤ iI s264 79 ∧ iI s264 79 ≤ 9 := Is264.1 79
              have b268 : (0 : Int) ≤ iI s264 78 ∧ iI s264 78 ≤ 8 := Is264.1 78
              have ws264_86 : iI s264 86 = iI s263 86 := fm_i Fs264 (by decide)
              have ws264_87 : iI s264 87 = iI s263 87 := fm_i Fs264 (by decide)
              have ws264_88 : iI s264 88 = iI s263 88 := fm_i Fs264 (by decide)
              show WS k 146 [(3, .int (Int32.ofInt 1)), (2, .int (Int32.ofInt 0)), (1, .int (Int32.ofInt e9)), (0, .ref (A 179))] [.int (Int32.ofInt e265)] (Wd A dT s264) 0 0
              refine w_pop X.1 (ax_d X (show cdA 213 146 = some (.pop, 1, 0, 0, 0) from rfl)) rfl ?_
              refine z_aload_n X (x := A 179) (show cdA 213 147 = some (.aload_n 0, 1, 0, 0, 0) from rfl) (List.Mem.tail _ (List.Mem.tail _ (List.Mem.tail _ (List.Mem.head _)))) ?_
              refine z_getI X 179 (show cdA 213 148 = some (.getfield 191, 3, 12, 6, 0) from rfl) (by decide) rfl rfl ?_
              have b269 : (0 : Int) ≤ iI s264 79 ∧ iI s264 79 ≤ 9 := Is264.1 79
              refine z_if_ne X (t := 160) (show cdA 213 151 = some (.ifCond .ne 9, 3, 1, 0, 0) from rfl) (by decide) ⟨by omega, by omega⟩ (fun g270 => ?_) (fun g270 => ?_)
              ·
                refine z_aload_n X (x := A 179) (show cdA 213 160 = some (.aload_n 0, 1, 0, 0, 0) from rfl) (List.Mem.tail _ (List.Mem.tail _ (List.Mem.tail _ (List.Mem.head _)))) ?_
                refine w_dup X.1 (ax_d X (show cdA 213 161 = some (.dup, 1, 0, 0, 0) from rfl)) rfl ?_
                refine z_getI X 179 (show cdA 213 162 = some (.getfield 282, 3, 12, 16, 0) from rfl) (by decide) rfl rfl ?_
                have b271 : (0 : Int) ≤ iI s264 86 ∧ iI s264 86 ≤ 8 := Is264.1 86
                refine z_const X (show cdA 213 165 = some (.iconst 1, 1, 0, 0, 0) from rfl) ?_
                refine z_add X (show cdA 213 166 = some (.iadd, 1, 0, 0, 0) from rfl) ?_
                refine s_putI X 179 (show cdA 213 167 = some (.putfield 282, 3, 12, 16, 0) from rfl) (by decide) rfl rfl (by decide) rfl rfl rfl ?_
                obtain ⟨s272, hs272⟩ : ∃ x0, x0 = uI s264 86 (Int32.ofInt ((iI s264 86) + 1)) := ⟨_, rfl⟩
                rw [← hs272]
                have Is272 : Bd s272 := by rw [hs272]; exact bd_I Is264 (show (0 : Int) ≤ ((iI s264 86) + 1) ∧ ((iI s264 86) + 1) ≤ 8 by omega) ⟨by omega, by omega⟩
                have Fs272 := fm_I (x := Int32.ofInt ((iI s264 86) + 1)) Gs264 (show 86 ∈ _ by decide)
                rw [← hs272] at Fs272
                have vs272 : iI s272 86 = ((iI s264 86) + 1) := by rw [hs272]; exact iI_u ⟨by omega, by omega⟩
                have ws272_77 : iI s272 77 = iI s264 77 := by rw [hs272]; rfl
                have ws272_75 : iI s272 75 = iI s264 75 := by rw [hs272]; rfl
                have ws272_79 : iI s272 79 = iI s264 79 := by rw [hs272]; rfl
                have ws272_78 : iI s272 78 = iI s264 78 := by rw [hs272]; rfl
                have ws272_87 : iI s272 87 = iI s264 87 := by rw [hs272]; rfl
                have ws272_88 : iI s272 88 = iI s264 88 := by rw [hs272]; rfl
                exact w_vret X.1 q hRt (ax_d X (show cdA 213 170 = some (.return_, 1, 0, 0, 0) from rfl)) (Nat.zero_le _) (Nat.zero_le _) ⟨_, rfl, Is272, Fs272, rfl, by omega⟩
              ·
                refine z_aload_n X (x := A 179) (show cdA 213 154 = some (.aload_n 0, 1, 0, 0, 0) from rfl) (List.Mem.tail _ (List.Mem.tail _ (List.Mem.tail _ (List.Mem.head _)))) ?_
                refine z_bipush X (show cdA 213 155 = some (.bipush 59, 2, 0, 0, 59) from rfl) ?_
                refine z_callV X 179 (rm := rmN 204) (As := [.int (Int32.ofInt 59)]) (st := []) (show cdA 213 157 = some (.invokevirtual 263, 3, 204, 0, 0) from rfl) rfl (by decide) rfl (by rw [E.1, E.2.1, E.2.2.1]; exact k_sign G Is264 (by omega) (by omega)) ⟨by rw [E.2.2.2]; exact (show (rmN 204).frames + 1 ≤ (rmN 213).frames by decide), by rw [E.2.2.2]; exact (show 8 + (mNL (miB 204) + 11) + (rmN 204).locals ≤ (rmN 213).locals by decide), by rw [E.2.2.2]; exact (show 0 + (rmN 204).cells ≤ (rmN 213).cells by decide), by rw [E.2.2.2]; exact (show 0 + (rmN 204).slots ≤ (rmN 213).slots by decide)⟩ (Nat.le_of_ble_eq_true rfl) (fun vv s273 hq => ?_) (fun ee s273 hq => ?_)
                rotate_left
                · obtain ⟨Is273, Fs273, hv, hps273⟩ := hq; cases hv
                obtain ⟨Is273, Fs273, hv, hps273⟩ := hq
                cases hv
                have Gs273 := fm_ts Gs264 Fs273 (by decide) (by decide)
                have b275 : (0 : Int) ≤ iI s273 77 ∧ iI s273 77 ≤ 400 := Is273.1 77
                have ws273_75 : iI s273 75 = iI s264 75 := fm_i Fs273 (by decide)
                have b276 : (0 : Int) ≤ iI s273 79 ∧ iI s273 79 ≤ 9 := Is273.1 79
                have ws273_78 : iI s273 78 = iI s264 78 := fm_i Fs273 (by decide)
                have ws273_86 : iI s273 86 = iI s264 86 := fm_i Fs273 (by decide)
                have ws273_87 : iI s273 87 = iI s264 87 := fm_i Fs273 (by decide)
                have ws273_88 : iI s273 88 = iI s264 88 := fm_i Fs273 (by decide)
                show WS k 160 [(3, .int (Int32.ofInt 1)), (2, .int (Int32.ofInt 0)), (1, .int (Int32.ofInt e9)), (0, .ref (A 179))] [] (Wd A dT s273) 0 0
                refine z_aload_n X (x := A 179) (show cdA 213 160 = some (.aload_n 0, 1, 0, 0, 0) from rfl) (List.Mem.tail _ (List.Mem.tail _ (List.Mem.tail _ (List.Mem.head _)))) ?_
                refine w_dup X.1 (ax_d X (show cdA 213 161 = some (.dup, 1, 0, 0, 0) from rfl)) rfl ?_
                refine z_getI X 179 (show cdA 213 162 = some (.getfield 282, 3, 12, 16, 0) from rfl) (by decide) rfl rfl ?_
                have b277 : (0 : Int) ≤ iI s273 86 ∧ iI s273 86 ≤ 8 := Is273.1 86
                refine z_const X (show cdA 213 165 = some (.iconst 1, 1, 0, 0, 0) from rfl) ?_
                refine z_add X (show cdA 213 166 = some (.iadd, 1, 0, 0, 0) from rfl) ?_
                refine s_putI X 179 (show cdA 213 167 = some (.putfield 282, 3, 12, 16, 0) from rfl) (by decide) rfl rfl (by decide) rfl rfl rfl ?_
                obtain ⟨s278, hs278⟩ : ∃ x0, x0 = uI s273 86 (Int32.ofInt ((iI s273 86) + 1)) := ⟨_, rfl⟩
                rw [← hs278]
                have Is278 : Bd s278 := by rw [hs278]; exact bd_I Is273 (show (0 : Int) ≤ ((iI s273 86) + 1) ∧ ((iI s273 86) + 1) ≤ 8 by omega) ⟨by omega, by omega⟩
                have Fs278 := fm_I (x := Int32.ofInt ((iI s273 86) + 1)) Gs273 (show 86 ∈ _ by decide)
                rw [← hs278] at Fs278
                have vs278 : iI s278 86 = ((iI s273 86) + 1) := by rw [hs278]; exact iI_u ⟨by omega, by omega⟩
                have ws278_77 : iI s278 77 = iI s273 77 := by rw [hs278]; rfl
                have ws278_75 : iI s278 75 = iI s273 75 := by rw [hs278]; rfl
                have ws278_79 : iI s278 79 = iI s273 79 := by rw [hs278]; rfl
                have ws278_78 : iI s278 78 = iI s273 78 := by rw [hs278]; rfl
                have ws278_87 : iI s278 87 = iI s273 87 := by rw [hs278]; rfl
                have ws278_88 : iI s278 88 = iI s273 88 := by rw [hs278]; rfl
                exact w_vret X.1 q hRt (ax_d X (show cdA 213 170 = some (.return_, 1, 0, 0, 0) from rfl)) (Nat.zero_le _) (Nat.zero_le _) ⟨_, rfl, Is278, Fs278, rfl, by omega⟩
            ·
              refine z_aload_n X (x := A 179) (show cdA 213 103 = some (.aload_n 0, 1, 0, 0, 0) from rfl) (List.Mem.tail _ (List.Mem.tail _ (List.Mem.tail _ (List.Mem.head _)))) ?_
              refine z_aload_n X (x := A 179) (show cdA 213 104 = some (.aload_n 0, 1, 0, 0, 0) from rfl) (List.Mem.tail _ (List.Mem.tail _ (List.Mem.tail _ (List.Mem.head _)))) ?_
              refine z_getI X 179 (show cdA 213 105 = some (.getfield 184, 3, 12, 4, 0) from rfl) (by decide) rfl rfl ?_
              have b279 : (0 : Int) ≤ iI s255 77 ∧ iI s255 77 ≤ 400 := Is255.1 77
              refine s_putI X 179 (show cdA 213 108 = some (.putfield 285, 3, 12, 18, 0) from rfl) (by decide) rfl rfl (by decide) rfl rfl rfl ?_
              obtain ⟨s280, hs280⟩ : ∃ x0, x0 = uI s255 88 (Int32.ofInt (iI s255 77)) := ⟨_, rfl⟩
              rw [← hs280]
              have Is280 : Bd s280 := by rw [hs280]; exact bd_I Is255 (show ((-1) : Int) ≤ (iI s255 77) ∧ (iI s255 77) ≤ 200 by omega) ⟨by omega, by omega⟩
              have Fs280 := fm_I (x := Int32.ofInt (iI s255 77)) Gs255 (show 88 ∈ _ by decide)
              rw [← hs280] at Fs280
              have vs280 : iI s280 88 = (iI s255 77) := by rw [hs280]; exact iI_u ⟨by omega, by omega⟩
              have ws280_77 : iI s280 77 = iI s255 77 := by rw [hs280]; rfl
              have ws280_75 : iI s280 75 = iI s255 75 := by rw [hs280]; rfl
              have ws280_79 : iI s280 79 = iI s255 79 := by rw [hs280]; rfl
              have ws280_78 : iI s280 78 = iI s255 78 := by rw [hs280]; rfl
              have ws280_86 : iI s280 86 = iI s255 86 := by rw [hs280]; rfl
              have ws280_87 : iI s280 87 = iI s255 87 := by rw [hs280]; rfl
              refine z_aload_n X (x := A 179) (show cdA 213 111 = some (.aload_n 0, 1, 0, 0, 0) from rfl) (List.Mem.tail _ (List.Mem.tail _ (List.Mem.tail _ (List.Mem.head _)))) ?_
              refine z_callV X 179 (rm := rmN 209) (As := []) (st := []) (show cdA 213 112 = some (.invokevirtual 260, 3, 209, 0, 0) from rfl) rfl (by decide) rfl (by rw [E.1, E.2.1, E.2.2.1]; exact k_sum G Is280 (by omega) (by omega) (by omega)) ⟨by rw [E.2.2.2]; exact (show (rmN 209).frames + 1 ≤ (rmN 213).frames by decide), by rw [E.2.2.2]; exact (show 8 + (mNL (miB 209) + 11) + (rmN 209).locals ≤ (rmN 213).locals by decide), by rw [E.2.2.2]; exact (show 0 + (rmN 209).cells ≤ (rmN 213).cells by decide), by rw [E.2.2.2]; exact (show 0 + (rmN 209).slots ≤ (rmN 213).slots by decide)⟩ (Nat.le_of_ble_eq_true rfl) (fun vv s281 hq => ?_) (fun ee s281 hq => ?_)
              rotate_left
              · obtain ⟨Is281, Fs281, e282, hv, hrs281, hps281⟩ := hq; cases hv
              obtain ⟨Is281, Fs281, e282, hv, hrs281, hps281⟩ := hq
              cases hv
              have Gs281 := fm_ts Fs280 Fs281 (by decide) (by decide)
              have b283 : (0 : Int) ≤ iI s281 77 ∧ iI s281 77 ≤ 400 := Is281.1 77
              have ws281_75 : iI s281 75 = iI s280 75 := fm_i Fs281 (by decide)
              have b284 : (0 : Int) ≤ iI s281 79 ∧ iI s281 79 ≤ 9 := Is281.1 79
              have b285 : (0 : Int) ≤ iI s281 78 ∧ iI s281 78 ≤ 8 := Is281.1 78
              have ws281_86 : iI s281 86 = iI s280 86 := fm_i Fs281 (by decide)
              have ws281_87 : iI s281 87 = iI s280 87 := fm_i Fs281 (by decide)
              have ws281_88 : iI s281 88 = iI s280 88 := fm_i Fs281 (by decide)
              show WS k 115 [(3, .int (Int32.ofInt 1)), (2, .int (Int32.ofInt 0)), (1, .int (Int32.ofInt e9)), (0, .ref (A 179))] [.int (Int32.ofInt e282)] (Wd A dT s281) 0 0
              refine w_pop X.1 (ax_d X (show cdA 213 115 = some (.pop, 1, 0, 0, 0) from rfl)) rfl ?_
              refine z_goto X (t := 147) (show cdA 213 116 = some (.goto 31, 3, 0, 0, 0) from rfl) (by decide) ?_
              refine z_aload_n X (x := A 179) (show cdA 213 147 = some (.aload_n 0, 1, 0, 0, 0) from rfl) (List.Mem.tail _ (List.Mem.tail _ (List.Mem.tail _ (List.Mem.head _)))) ?_
              refine z_getI X 179 (show cdA 213 148 = some (.getfield 191, 3, 12, 6, 0) from rfl) (by decide) rfl rfl ?_
              have b286 : (0 : Int) ≤ iI s281 79 ∧ iI s281 79 ≤ 9 := Is281.1 79
              refine z_if_ne X (t := 160) (show cdA 213 151 = some (.ifCond .ne 9, 3, 1, 0, 0) from rfl) (by decide) ⟨by omega, by omega⟩ (fun g287 => ?_) (fun g287 => ?_)
              ·
                refine z_aload_n X (x := A 179) (show cdA 213 160 = some (.aload_n 0, 1, 0, 0, 0) from rfl) (List.Mem.tail _ (List.Mem.tail _ (List.Mem.tail _ (List.Mem.head _)))) ?_
                refine w_dup X.1 (ax_d X (show cdA 213 161 = some (.dup, 1, 0, 0, 0) from rfl)) rfl ?_
                refine z_getI X 179 (show cdA 213 162 = some (.getfield 282, 3, 12, 16, 0) from rfl) (by decide) rfl rfl ?_
                have b288 : (0 : Int) ≤ iI s281 86 ∧ iI s281 86 ≤ 8 := Is281.1 86
                refine z_const X (show cdA 213 165 = some (.iconst 1, 1, 0, 0, 0) from rfl) ?_
                refine z_add X (show cdA 213 166 = some (.iadd, 1, 0, 0, 0) from rfl) ?_
                refine s_putI X 179 (show cdA 213 167 = some (.putfield 282, 3, 12, 16, 0) from rfl) (by decide) rfl rfl (by decide) rfl rfl rfl ?_
                obtain ⟨s289, hs289⟩ : ∃ x0, x0 = uI s281 86 (Int32.ofInt ((iI s281 86) + 1)) := ⟨_, rfl⟩
                rw [← hs289]
                have Is289 : Bd s289 := by rw [hs289]; exact bd_I Is281 (show (0 : Int) ≤ ((iI s281 86) + 1) ∧ ((iI s281 86) + 1) ≤ 8 by omega) ⟨by omega, by omega⟩
                have Fs289 := fm_I (x := Int32.ofInt ((iI s281 86) + 1)) Gs281 (show 86 ∈ _ by decide)
                rw [← hs289] at Fs289
                have vs289 : iI s289 86 = ((iI s281 86) + 1) := by rw [hs289]; exact iI_u ⟨by omega, by omega⟩
                have ws289_77 : iI s289 77 = iI s281 77 := by rw [hs289]; rfl
                have ws289_75 : iI s289 75 = iI s281 75 := by rw [hs289]; rfl
                have ws289_79 : iI s289 79 = iI s281 79 := by rw [hs289]; rfl
                have ws289_78 : iI s289 78 = iI s281 78 := by rw [hs289]; rfl
                have ws289_87 : iI s289 87 = iI s281 87 := by rw [hs289]; rfl
                have ws289_88 : iI s289 88 = iI s281 88 := by rw [hs289]; rfl
                exact w_vret X.1 q hRt (ax_d X (show cdA 213 170 = some (.return_, 1, 0, 0, 0) from rfl)) (Nat.zero_le _) (Nat.zero_le _) ⟨_, rfl, Is289, Fs289, rfl, by omega⟩
              ·
                refine z_aload_n X (x := A 179) (show cdA 213 154 = some (.aload_n 0, 1, 0, 0, 0) from rfl) (List.Mem.tail _ (List.Mem.tail _ (List.Mem.tail _ (List.Mem.head _)))) ?_
                refine z_bipush X (show cdA 213 155 = some (.bipush 59, 2, 0, 0, 59) from rfl) ?_
                refine z_callV X 179 (rm := rmN 204) (As := [.int (Int32.ofInt 59)]) (st := []) (show cdA 213 157 = some (.invokevirtual 263, 3, 204, 0, 0) from rfl) rfl (by decide) rfl (by rw [E.1, E.2.1, E.2.2.1]; exact k_sign G Is281 (by omega) (by omega)) ⟨by rw [E.2.2.2]; exact (show (rmN 204).frames + 1 ≤ (rmN 213).frames by decide), by rw [E.2.2.2]; exact (show 8 + (mNL (miB 204) + 11) + (rmN 204).locals ≤ (rmN 213).locals by decide), by rw [E.2.2.2]; exact (show 0 + (rmN 204).cells ≤ (rmN 213).cells by decide), by rw [E.2.2.2]; exact (show 0 + (rmN 204).slots ≤ (rmN 213).slots by decide)⟩ (Nat.le_of_ble_eq_true rfl) (fun vv s290 hq => ?_) (fun ee s290 hq => ?_)
                rotate_left
                · obtain ⟨Is290, Fs290, hv, hps290⟩ := hq; cases hv
                obtain ⟨Is290, Fs290, hv, hps290⟩ := hq
                cases hv
                have Gs290 := fm_ts Gs281 Fs290 (by decide) (by decide)
                have b292 : (0 : Int) ≤ iI s290 77 ∧ iI s290 77 ≤ 400 := Is290.1 77
                have ws290_75 : iI s290 75 = iI s281 75 := fm_i Fs290 (by decide)
                have b293 : (0 : Int) ≤ iI s290 79 ∧ iI s290 79 ≤ 9 := Is290.1 79
                have ws290_78 : iI s290 78 = iI s281 78 := fm_i Fs290 (by decide)
                have ws290_86 : iI s290 86 = iI s281 86 := fm_i Fs290 (by decide)
                have ws290_87 : iI s290 87 = iI s281 87 := fm_i Fs290 (by decide)
                have ws290_88 : iI s290 88 = iI s281 88 := fm_i Fs290 (by decide)
                show WS k 160 [(3, .int (Int32.ofInt 1)), (2, .int (Int32.ofInt 0)), (1, .int (Int32.ofInt e9)), (0, .ref (A 179))] [] (Wd A dT s290) 0 0
                refine z_aload_n X (x := A 179) (show cdA 213 160 = some (.aload_n 0, 1, 0, 0, 0) from rfl) (List.Mem.tail _ (List.Mem.tail _ (List.Mem.tail _ (List.Mem.head _)))) ?_
                refine w_dup X.1 (ax_d X (show cdA 213 161 = some (.dup, 1, 0, 0, 0) from rfl)) rfl ?_
                refine z_getI X 179 (show cdA 213 162 = some (.getfield 282, 3, 12, 16, 0) from rfl) (by decide) rfl rfl ?_
                have b294 : (0 : Int) ≤ iI s290 86 ∧ iI s290 86 ≤ 8 := Is290.1 86
                refine z_const X (show cdA 213 165 = some (.iconst 1, 1, 0, 0, 0) from rfl) ?_
                refine z_add X (show cdA 213 166 = some (.iadd, 1, 0, 0, 0) from rfl) ?_
                refine s_putI X 179 (show cdA 213 167 = some (.putfield 282, 3, 12, 16, 0) from rfl) (by decide) rfl rfl (by decide) rfl rfl rfl ?_
                obtain ⟨s295, hs295⟩ : ∃ x0, x0 = uI s290 86 (Int32.ofInt ((iI s290 86) + 1)) := ⟨_, rfl⟩
                rw [← hs295]
                have Is295 : Bd s295 := by rw [hs295]; exact bd_I Is290 (show (0 : Int) ≤ ((iI s290 86) + 1) ∧ ((iI s290 86) + 1) ≤ 8 by omega) ⟨by omega, by omega⟩
                have Fs295 := fm_I (x := Int32.ofInt ((iI s290 86) + 1)) Gs290 (show 86 ∈ _ by decide)
                rw [← hs295] at Fs295
                have vs295 : iI s295 86 = ((iI s290 86) + 1) := by rw [hs295]; exact iI_u ⟨by omega, by omega⟩
                have ws295_77 : iI s295 77 = iI s290 77 := by rw [hs295]; rfl
                have ws295_75 : iI s295 75 = iI s290 75 := by rw [hs295]; rfl
                have ws295_79 : iI s295 79 = iI s290 79 := by rw [hs295]; rfl
                have ws295_78 : iI s295 78 = iI s290 78 := by rw [hs295]; rfl
                have ws295_87 : iI s295 87 = iI s290 87 := by rw [hs295]; rfl
                have ws295_88 : iI s295 88 = iI s290 88 := by rw [hs295]; rfl
                exact w_vret X.1 q hRt (ax_d X (show cdA 213 170 = some (.return_, 1, 0, 0, 0) from rfl)) (Nat.zero_le _) (Nat.zero_le _) ⟨_, rfl, Is295, Fs295, rfl, by omega⟩
          ·
            exact w_vret X.1 q hRt (ax_d X (show cdA 213 94 = some (.return_, 1, 0, 0, 0) from rfl)) (Nat.zero_le _) (Nat.zero_le _) ⟨_, rfl, Is14, Gs14, rfl, by omega⟩
        ·
          refine z_aload_n X (x := A 179) (show cdA 213 78 = some (.aload_n 0, 1, 0, 0, 0) from rfl) (List.Mem.tail _ (List.Mem.tail _ (List.Mem.tail _ (List.Mem.head _)))) ?_
          refine z_const X (show cdA 213 79 = some (.iconst 3, 1, 0, 0, 0) from rfl) ?_
          refine z_aload_n X (x := A 179) (show cdA 213 80 = some (.aload_n 0, 1, 0, 0, 0) from rfl) (List.Mem.tail _ (List.Mem.tail _ (List.Mem.tail _ (List.Mem.head _)))) ?_
          refine z_getI X 179 (show cdA 213 81 = some (.getfield 184, 3, 12, 4, 0) from rfl) (by decide) rfl rfl ?_
          have b296 : (0 : Int) ≤ iI s14 77 ∧ iI s14 77 ≤ 400 := Is14.1 77
          refine z_callV X 179 (rm := rmN 194) (As := [.int (Int32.ofInt 3), .int (Int32.ofInt (iI s14 77))]) (st := []) (show cdA 213 84 = some (.invokevirtual 204, 3, 194, 0, 0) from rfl) rfl (by decide) rfl (by rw [E.1, E.2.1, E.2.2.1]; exact k_wrong G Is14 (by omega) (by omega)) ⟨by rw [E.2.2.2]; exact (show (rmN 194).frames + 1 ≤ (rmN 213).frames by decide), by rw [E.2.2.2]; exact (show 8 + (mNL (miB 194) + 11) + (rmN 194).locals ≤ (rmN 213).locals by decide), by rw [E.2.2.2]; exact (show 0 + (rmN 194).cells ≤ (rmN 213).cells by decide), by rw [E.2.2.2]; exact (show 0 + (rmN 194).slots ≤ (rmN 213).slots by decide)⟩ (Nat.le_of_ble_eq_true rfl) (fun vv s297 hq => ?_) (fun ee s297 hq => ?_)
          rotate_left
          · obtain ⟨Is297, Fs297, hv, hps297⟩ := hq; cases hv
          obtain ⟨Is297, Fs297, hv, hps297⟩ := hq
          cases hv
          have Gs297 := fm_ts Gs14 Fs297 (by decide) (by decide)
          have ws297_77 : iI s297 77 = iI s14 77 := fm_i Fs297 (by decide)
          have ws297_75 : iI s297 75 = iI s14 75 := fm_i Fs297 (by decide)
          have b299 : (0 : Int) ≤ iI s297 79 ∧ iI s297 79 ≤ 9 := Is297.1 79
          have ws297_78 : iI s297 78 = iI s14 78 := fm_i Fs297 (by decide)
          have ws297_86 : iI s297 86 = iI s14 86 := fm_i Fs297 (by decide)
          have ws297_87 : iI s297 87 = iI s14 87 := fm_i Fs297 (by decide)
          have ws297_88 : iI s297 88 = iI s14 88 := fm_i Fs297 (by decide)
          show WS k 87 [(3, .int (Int32.ofInt 1)), (2, .int (Int32.ofInt 0)), (1, .int (Int32.ofInt e9)), (0, .ref (A 179))] [] (Wd A dT s297) 0 0
          refine z_aload_n X (x := A 179) (show cdA 213 87 = some (.aload_n 0, 1, 0, 0, 0) from rfl) (List.Mem.tail _ (List.Mem.tail _ (List.Mem.tail _ (List.Mem.head _)))) ?_
          refine z_getI X 179 (show cdA 213 88 = some (.getfield 191, 3, 12, 6, 0) from rfl) (by decide) rfl rfl ?_
          have b300 : (0 : Int) ≤ iI s297 79 ∧ iI s297 79 ≤ 9 := Is297.1 79
          refine z_if_eq X (t := 95) (show cdA 213 91 = some (.ifCond .eq 4, 3, 0, 0, 0) from rfl) (by decide) ⟨by omega, by omega⟩ (fun g301 => ?_) (fun g301 => ?_)
          ·
            refine z_aload_n X (x := A 179) (show cdA 213 95 = some (.aload_n 0, 1, 0, 0, 0) from rfl) (List.Mem.tail _ (List.Mem.tail _ (List.Mem.tail _ (List.Mem.head _)))) ?_
            refine z_callV X 179 (rm := rmN 203) (As := []) (st := []) (show cdA 213 96 = some (.invokevirtual 254, 3, 203, 0, 0) from rfl) rfl (by decide) rfl (by rw [E.1, E.2.1, E.2.2.1]; exact k_skipWord G Is297 (by omega)) ⟨by rw [E.2.2.2]; exact (show (rmN 203).frames + 1 ≤ (rmN 213).frames by decide), by rw [E.2.2.2]; exact (show 8 + (mNL (miB 203) + 11) + (rmN 203).locals ≤ (rmN 213).locals by decide), by rw [E.2.2.2]; exact (show 0 + (rmN 203).cells ≤ (rmN 213).cells by decide), by rw [E.2.2.2]; exact (show 0 + (rmN 203).slots ≤ (rmN 213).slots by decide)⟩ (Nat.le_of_ble_eq_true rfl) (fun vv s302 hq => ?_) (fun ee s302 hq => ?_)
            rotate_left
            · obtain ⟨Is302, Fs302, hv, hps302⟩ := hq; cases hv
            obtain ⟨Is302, Fs302, hv, hps302⟩ := hq
            cases hv
            have Gs302 := fm_ts Gs297 Fs302 (by decide) (by decide)
            have b304 : (0 : Int) ≤ iI s302 77 ∧ iI s302 77 ≤ 400 := Is302.1 77
            have ws302_75 : iI s302 75 = iI s297 75 := fm_i Fs302 (by decide)
            have ws302_79 : iI s302 79 = iI s297 79 := fm_i Fs302 (by decide)
            have ws302_78 : iI s302 78 = iI s297 78 := fm_i Fs302 (by decide)
            have ws302_86 : iI s302 86 = iI s297 86 := fm_i Fs302 (by decide)
            have ws302_87 : iI s302 87 = iI s297 87 := fm_i Fs302 (by decide)
            have ws302_88 : iI s302 88 = iI s297 88 := fm_i Fs302 (by decide)
            show WS k 99 [(3, .int (Int32.ofInt 1)), (2, .int (Int32.ofInt 0)), (1, .int (Int32.ofInt e9)), (0, .ref (A 179))] [] (Wd A dT s302) 0 0
            refine z_load_n X (x := 0) (show cdA 213 99 = some (.iload_n 2, 1, 0, 0, 0) from rfl) (List.Mem.tail _ (List.Mem.head _)) ?_
            refine z_if_eq X (t := 119) (show cdA 213 100 = some (.ifCond .eq 19, 3, 0, 0, 0) from rfl) (by decide) ⟨by omega, by omega⟩ (fun g305 => ?_) (fun g305 => ?_)
            ·
              refine z_aload_n X (x := A 179) (show cdA 213 119 = some (.aload_n 0, 1, 0, 0, 0) from rfl) (List.Mem.tail _ (List.Mem.tail _ (List.Mem.tail _ (List.Mem.head _)))) ?_
              refine s_getR X 179 (show cdA 213 120 = some (.getfield 29, 3, 12, 20, 0) from rfl) (by decide) rfl rfl ?_
              refine z_aload_n X (x := A 179) (show cdA 213 123 = some (.aload_n 0, 1, 0, 0, 0) from rfl) (List.Mem.tail _ (List.Mem.tail _ (List.Mem.tail _ (List.Mem.head _)))) ?_
              refine z_getI X 179 (show cdA 213 124 = some (.getfield 288, 3, 12, 17, 0) from rfl) (by decide) rfl rfl ?_
              have b306 : (0 : Int) ≤ iI s302 87 ∧ iI s302 87 ≤ 8 := Is302.1 87
              refine z_aload_n X (x := A 179) (show cdA 213 127 = some (.aload_n 0, 1, 0, 0, 0) from rfl) (List.Mem.tail _ (List.Mem.tail _ (List.Mem.tail _ (List.Mem.head _)))) ?_
              refine z_getI X 179 (show cdA 213 128 = some (.getfield 184, 3, 12, 4, 0) from rfl) (by decide) rfl rfl ?_
              have b307 : (0 : Int) ≤ iI s302 77 ∧ iI s302 77 ≤ 400 := Is302.1 77
              refine z_ast X 183 (show cdA 213 131 = some (.iastore, 1, 0, 0, 0) from rfl) (by decide) rfl (by omega) (show (iI s302 87) < 8 by omega) (by decide) ?_
              obtain ⟨s308, hs308⟩ : ∃ x0, x0 = uC s302 160 ((iI s302 87)).toNat (Int32.ofInt (iI s302 77)) := ⟨_, rfl⟩
              rw [← hs308]
              have Is308 : Bd s308 := by rw [hs308]; exact bd_C Is302 (show (0 : Int) ≤ (iI s302 77) ∧ (iI s302 77) ≤ 200 by omega) ⟨by omega, by omega⟩
              have Fs308 := fm_C (i := ((iI s302 87)).toNat) (x := Int32.ofInt (iI s302 77)) Gs302 (show 160 ∈ _ by decide)
              rw [← hs308] at Fs308
              have ws308_77 : iI s308 77 = iI s302 77 := by rw [hs308]; rfl
              have ws308_75 : iI s308 75 = iI s302 75 := by rw [hs308]; rfl
              have ws308_79 : iI s308 79 = iI s302 79 := by rw [hs308]; rfl
              have ws308_78 : iI s308 78 = iI s302 78 := by rw [hs308]; rfl
              have ws308_86 : iI s308 86 = iI s302 86 := by rw [hs308]; rfl
              have ws308_87 : iI s308 87 = iI s302 87 := by rw [hs308]; rfl
              have ws308_88 : iI s308 88 = iI s302 88 := by rw [hs308]; rfl
              refine z_aload_n X (x := A 179) (show cdA 213 132 = some (.aload_n 0, 1, 0, 0, 0) from rfl) (List.Mem.tail _ (List.Mem.tail _ (List.Mem.tail _ (List.Mem.head _)))) ?_
              refine w_dup X.1 (ax_d X (show cdA 213 133 = some (.dup, 1, 0, 0, 0) from rfl)) rfl ?_
              refine z_getI X 179 (show cdA 213 134 = some (.getfield 288, 3, 12, 17, 0) from rfl) (by decide) rfl rfl ?_
              have b309 : (0 : Int) ≤ iI s308 87 ∧ iI s308 87 ≤ 8 := Is308.1 87
              refine z_const X (show cdA 213 137 = some (.iconst 1, 1, 0, 0, 0) from rfl) ?_
              refine z_add X (show cdA 213 138 = some (.iadd, 1, 0, 0, 0) from rfl) ?_
              refine s_putI X 179 (show cdA 213 139 = some (.putfield 288, 3, 12, 17, 0) from rfl) (by decide) rfl rfl (by decide) rfl rfl rfl ?_
              obtain ⟨s310, hs310⟩ : ∃ x0, x0 = uI s308 87 (Int32.ofInt ((iI s308 87) + 1)) := ⟨_, rfl⟩
              rw [← hs310]
              have Is310 : Bd s310 := by rw [hs310]; exact bd_I Is308 (show (0 : Int) ≤ ((iI s308 87) + 1) ∧ ((iI s308 87) + 1) ≤ 8 by omega) ⟨by omega, by omega⟩
              have Fs310 := fm_I (x := Int32.ofInt ((iI s308 87) + 1)) Fs308 (show 87 ∈ _ by decide)
              rw [← hs310] at Fs310
              have vs310 : iI s310 87 = ((iI s308 87) + 1) := by rw [hs310]; exact iI_u ⟨by omega, by omega⟩
              have ws310_77 : iI s310 77 = iI s308 77 := by rw [hs310]; rfl
              have ws310_75 : iI s310 75 = iI s308 75 := by rw [hs310]; rfl
              have ws310_79 : iI s310 79 = iI s308 79 := by rw [hs310]; rfl
              have ws310_78 : iI s310 78 = iI s308 78 := by rw [hs310]; rfl
              have ws310_86 : iI s310 86 = iI s308 86 := by rw [hs310]; rfl
              have ws310_88 : iI s310 88 = iI s308 88 := by rw [hs310]; rfl
              refine z_aload_n X (x := A 179) (show cdA 213 142 = some (.aload_n 0, 1, 0, 0, 0) from rfl) (List.Mem.tail _ (List.Mem.tail _ (List.Mem.tail _ (List.Mem.head _)))) ?_
              refine z_callV X 179 (rm := rmN 212) (As := []) (st := []) (show cdA 213 143 = some (.invokevirtual 276, 3, 212, 0, 0) from rfl) rfl (by decide) rfl (by rw [E.1, E.2.1, E.2.2.1]; exact k_ors G Is310 (by omega) (by omega) (by omega) (by omega)) ⟨by rw [E.2.2.2]; exact (show (rmN 212).frames + 1 ≤ (rmN 213).frames by decide), by rw [E.2.2.2]; exact (show 8 + (mNL (miB 212) + 11) + (rmN 212).locals ≤ (rmN 213).locals by decide), by rw [E.2.2.2]; exact (show 0 + (rmN 212).cells ≤ (rmN 213).cells by decide), by rw [E.2.2.2]; exact (show 0 + (rmN 212).slots ≤ (rmN 213).slots by decide)⟩ (Nat.le_of_ble_eq_true rfl) (fun vv s311 hq => ?_) (fun ee s311 hq => ?_)
              rotate_left
              · obtain ⟨Is311, Fs311, e312, hv, hrs311, hps311⟩ := hq; cases hv
              obtain ⟨Is311, Fs311, e312, hv, hrs311, hps311⟩ := hq
              cases hv
              have Gs311 := fm_ts Fs310 Fs311 (by decide) (by decide)
              have b313 : (0 : Int) ≤ iI s311 77 ∧ iI s311 77 ≤ 400 := Is311.1 77
              have ws311_75 : iI s311 75 = iI s310 75 := fm_i Fs311 (by decide)
              have b314 : (0 : Int) ≤ iI s311 79 ∧ iI s311 79 ≤ 9 := Is311.1 79
              have b315 : (0 : Int) ≤ iI s311 78 ∧ iI s311 78 ≤ 8 := Is311.1 78
              have ws311_86 : iI s311 86 = iI s310 86 := fm_i Fs311 (by decide)
              have ws311_87 : iI s311 87 = iI s310 87 := fm_i Fs311 (by decide)
              have ws311_88 : iI s311 88 = iI s310 88 := fm_i Fs311 (by decide)
              show WS k 146 [(3, .int (Int32.ofInt 1)), (2, .int (Int32.ofInt 0)), (1, .int (Int32.ofInt e9)), (0, .ref (A 179))] [.int (Int32.ofInt e312)] (Wd A dT s311) 0 0
              refine w_pop X.1 (ax_d X (show cdA 213 146 = some (.pop, 1, 0, 0, 0) from rfl)) rfl ?_
              refine z_aload_n X (x := A 179) (show cdA 213 147 = some (.aload_n 0, 1, 0, 0, 0) from rfl) (List.Mem.tail _ (List.Mem.tail _ (List.Mem.tail _ (List.Mem.head _)))) ?_
              refine z_getI X 179 (show cdA 213 148 = some (.getfield 191, 3, 12, 6, 0) from rfl) (by decide) rfl rfl ?_
              have b316 : (0 : Int) ≤ iI s311 79 ∧ iI s311 79 ≤ 9 := Is311.1 79
              refine z_if_ne X (t := 160) (show cdA 213 151 = some (.ifCond .ne 9, 3, 1, 0, 0) from rfl) (by decide) ⟨by omega, by omega⟩ (fun g317 => ?_) (fun g317 => ?_)
              ·
                refine z_aload_n X (x := A 179) (show cdA 213 160 = some (.aload_n 0, 1, 0, 0, 0) from rfl) (List.Mem.tail _ (List.Mem.tail _ (List.Mem.tail _ (List.Mem.head _)))) ?_
                refine w_dup X.1 (ax_d X (show cdA 213 161 = some (.dup, 1, 0, 0, 0) from rfl)) rfl ?_
                refine z_getI X 179 (show cdA 213 162 = some (.getfield 282, 3, 12, 16, 0) from rfl) (by decide) rfl rfl ?_
                have b318 : (0 : Int) ≤ iI s311 86 ∧ iI s311 86 ≤ 8 := Is311.1 86
                refine z_const X (show cdA 213 165 = some (.iconst 1, 1, 0, 0, 0) from rfl) ?_
                refine z_add X (show cdA 213 166 = some (.iadd, 1, 0, 0, 0) from rfl) ?_
                refine s_putI X 179 (show cdA 213 167 = some (.putfield 282, 3, 12, 16, 0) from rfl) (by decide) rfl rfl (by decide) rfl rfl rfl ?_
                obtain ⟨s319, hs319⟩ : ∃ x0, x0 = uI s311 86 (Int32.ofInt ((iI s311 86) + 1)) := ⟨_, rfl⟩
                rw [← hs319]
                have Is319 : Bd s319 := by rw [hs319]; exact bd_I Is311 (show (0 : Int) ≤ ((iI s311 86) + 1) ∧ ((iI s311 86) + 1) ≤ 8 by omega) ⟨by omega, by omega⟩
                have Fs319 := fm_I (x := Int32.ofInt ((iI s311 86) + 1)) Gs311 (show 86 ∈ _ by decide)
                rw [← hs319] at Fs319
                have vs319 : iI s319 86 = ((iI s311 86) + 1) := by rw [hs319]; exact iI_u ⟨by omega, by omega⟩
                have ws319_77 : iI s319 77 = iI s311 77 := by rw [hs319]; rfl
                have ws319_75 : iI s319 75 = iI s311 75 := by rw [hs319]; rfl
                have ws319_79 : iI s319 79 = iI s311 79 := by rw [hs319]; rfl
                have ws319_78 : iI s319 78 = iI s311 78 := by rw [hs319]; rfl
                have ws319_87 : iI s319 87 = iI s311 87 := by rw [hs319]; rfl
                have ws319_88 : iI s319 88 = iI s311 88 := by rw [hs319]; rfl
                exact w_vret X.1 q hRt (ax_d X (show cdA 213 170 = some (.return_, 1, 0, 0, 0) from rfl)) (Nat.zero_le _) (Nat.zero_le _) ⟨_, rfl, Is319, Fs319, rfl, by omega⟩
              ·
                refine z_aload_n X (x := A 179) (show cdA 213 154 = some (.aload_n 0, 1, 0, 0, 0) from rfl) (List.Mem.tail _ (List.Mem.tail _ (List.Mem.tail _ (List.Mem.head _)))) ?_
                refine z_bipush X (show cdA 213 155 = some (.bipush 59, 2, 0, 0, 59) from rfl) ?_
                refine z_callV X 179 (rm := rmN 204) (As := [.int (Int32.ofInt 59)]) (st := []) (show cdA 213 157 = some (.invokevirtual 263, 3, 204, 0, 0) from rfl) rfl (by decide) rfl (by rw [E.1, E.2.1, E.2.2.1]; exact k_sign G Is311 (by omega) (by omega)) ⟨by rw [E.2.2.2]; exact (show (rmN 204).frames + 1 ≤ (rmN 213).frames by decide), by rw [E.2.2.2]; exact (show 8 + (mNL (miB 204) + 11) + (rmN 204).locals ≤ (rmN 213).locals by decide), by rw [E.2.2.2]; exact (show 0 + (rmN 204).cells ≤ (rmN 213).cells by decide), by rw [E.2.2.2]; exact (show 0 + (rmN 204).slots ≤ (rmN 213).slots by decide)⟩ (Nat.le_of_ble_eq_true rfl) (fun vv s320 hq => ?_) (fun ee s320 hq => ?_)
                rotate_left
                · obtain ⟨Is320, Fs320, hv, hps320⟩ := hq; cases hv
                obtain ⟨Is320, Fs320, hv, hps320⟩ := hq
                cases hv
                have Gs320 := fm_ts Gs311 Fs320 (by decide) (by decide)
                have b322 : (0 : Int) ≤ iI s320 77 ∧ iI s320 77 ≤ 400 := Is320.1 77
                have ws320_75 : iI s320 75 = iI s311 75 := fm_i Fs320 (by decide)
                have b323 : (0 : Int) ≤ iI s320 79 ∧ iI s320 79 ≤ 9 := Is320.1 79
                have ws320_78 : iI s320 78 = iI s311 78 := fm_i Fs320 (by decide)
                have ws320_86 : iI s320 86 = iI s311 86 := fm_i Fs320 (by decide)
                have ws320_87 : iI s320 87 = iI s311 87 := fm_i Fs320 (by decide)
                have ws320_88 : iI s320 88 = iI s311 88 := fm_i Fs320 (by decide)
                show WS k 160 [(3, .int (Int32.ofInt 1)), (2, .int (Int32.ofInt 0)), (1, .int (Int32.ofInt e9)), (0, .ref (A 179))] [] (Wd A dT s320) 0 0
                refine z_aload_n X (x := A 179) (show cdA 213 160 = some (.aload_n 0, 1, 0, 0, 0) from rfl) (List.Mem.tail _ (List.Mem.tail _ (List.Mem.tail _ (List.Mem.head _)))) ?_
                refine w_dup X.1 (ax_d X (show cdA 213 161 = some (.dup, 1, 0, 0, 0) from rfl)) rfl ?_
                refine z_getI X 179 (show cdA 213 162 = some (.getfield 282, 3, 12, 16, 0) from rfl) (by decide) rfl rfl ?_
                have b324 : (0 : Int) ≤ iI s320 86 ∧ iI s320 86 ≤ 8 := Is320.1 86
                refine z_const X (show cdA 213 165 = some (.iconst 1, 1, 0, 0, 0) from rfl) ?_
                refine z_add X (show cdA 213 166 = some (.iadd, 1, 0, 0, 0) from rfl) ?_
                refine s_putI X 179 (show cdA 213 167 = some (.putfield 282, 3, 12, 16, 0) from rfl) (by decide) rfl rfl (by decide) rfl rfl rfl ?_
                obtain ⟨s325, hs325⟩ : ∃ x0, x0 = uI s320 86 (Int32.ofInt ((iI s320 86) + 1)) := ⟨_, rfl⟩
                rw [← hs325]
                have Is325 : Bd s325 := by rw [hs325]; exact bd_I Is320 (show (0 : Int) ≤ ((iI s320 86) + 1) ∧ ((iI s320 86) + 1) ≤ 8 by omega) ⟨by omega, by omega⟩
                have Fs325 := fm_I (x := Int32.ofInt ((iI s320 86) + 1)) Gs320 (show 86 ∈ _ by decide)
                rw [← hs325] at Fs325
                have vs325 : iI s325 86 = ((iI s320 86) + 1) := by rw [hs325]; exact iI_u ⟨by omega, by omega⟩
                have ws325_77 : iI s325 77 = iI s320 77 := by rw [hs325]; rfl
                have ws325_75 : iI s325 75 = iI s320 75 := by rw [hs325]; rfl
                have ws325_79 : iI s325 79 = iI s320 79 := by rw [hs325]; rfl
                have ws325_78 : iI s325 78 = iI s320 78 := by rw [hs325]; rfl
                have ws325_87 : iI s325 87 = iI s320 87 := by rw [hs325]; rfl
                have ws325_88 : iI s325 88 = iI s320 88 := by rw [hs325]; rfl
                exact w_vret X.1 q hRt (ax_d X (show cdA 213 170 = some (.return_, 1, 0, 0, 0) from rfl)) (Nat.zero_le _) (Nat.zero_le _) ⟨_, rfl, Is325, Fs325, rfl, by omega⟩
            ·
              refine z_aload_n X (x := A 179) (show cdA 213 103 = some (.aload_n 0, 1, 0, 0, 0) from rfl) (List.Mem.tail _ (List.Mem.tail _ (List.Mem.tail _ (List.Mem.head _)))) ?_
              refine z_aload_n X (x := A 179) (show cdA 213 104 = some (.aload_n 0, 1, 0, 0, 0) from rfl) (List.Mem.tail _ (List.Mem.tail _ (List.Mem.tail _ (List.Mem.head _)))) ?_
              refine z_getI X 179 (show cdA 213 105 = some (.getfield 184, 3, 12, 4, 0) from rfl) (by decide) rfl rfl ?_
              have b326 : (0 : Int) ≤ iI s302 77 ∧ iI s302 77 ≤ 400 := Is302.1 77
              refine s_putI X 179 (show cdA 213 108 = some (.putfield 285, 3, 12, 18, 0) from rfl) (by decide) rfl rfl (by decide) rfl rfl rfl ?_
              obtain ⟨s327, hs327⟩ : ∃ x0, x0 = uI s302 88 (Int32.ofInt (iI s302 77)) := ⟨_, rfl⟩
              rw [← hs327]
              have Is327 : Bd s327 := by rw [hs327]; exact bd_I Is302 (show ((-1) : Int) ≤ (iI s302 77) ∧ (iI s302 77) ≤ 200 by omega) ⟨by omega, by omega⟩
              have Fs327 := fm_I (x := Int32.ofInt (iI s302 77)) Gs302 (show 88 ∈ _ by decide)
              rw [← hs327] at Fs327
              have vs327 : iI s327 88 = (iI s302 77) := by rw [hs327]; exact iI_u ⟨by omega, by omega⟩
              have ws327_77 : iI s327 77 = iI s302 77 := by rw [hs327]; rfl
              have ws327_75 : iI s327 75 = iI s302 75 := by rw [hs327]; rfl
              have ws327_79 : iI s327 79 = iI s302 79 := by rw [hs327]; rfl
              have ws327_78 : iI s327 78 = iI s302 78 := by rw [hs327]; rfl
              have ws327_86 : iI s327 86 = iI s302 86 := by rw [hs327]; rfl
              have ws327_87 : iI s327 87 = iI s302 87 := by rw [hs327]; rfl
              refine z_aload_n X (x := A 179) (show cdA 213 111 = some (.aload_n 0, 1, 0, 0, 0) from rfl) (List.Mem.tail _ (List.Mem.tail _ (List.Mem.tail _ (List.Mem.head _)))) ?_
              refine z_callV X 179 (rm := rmN 209) (As := []) (st := []) (show cdA 213 112 = some (.invokevirtual 260, 3, 209, 0, 0) from rfl) rfl (by decide) rfl (by rw [E.1, E.2.1, E.2.2.1]; exact k_sum G Is327 (by omega) (by omega) (by omega)) ⟨by rw [E.2.2.2]; exact (show (rmN 209).frames + 1 ≤ (rmN 213).frames by decide), by rw [E.2.2.2]; exact (show 8 + (mNL (miB 209) + 11) + (rmN 209).locals ≤ (rmN 213).locals by decide), by rw [E.2.2.2]; exact (show 0 + (rmN 209).cells ≤ (rmN 213).cells by decide), by rw [E.2.2.2]; exact (show 0 + (rmN 209).slots ≤ (rmN 213).slots by decide)⟩ (Nat.le_of_ble_eq_true rfl) (fun vv s328 hq => ?_) (fun ee s328 hq => ?_)
              rotate_left
              · obtain ⟨Is328, Fs328, e329, hv, hrs328, hps328⟩ := hq; cases hv
              obtain ⟨Is328, Fs328, e329, hv, hrs328, hps328⟩ := hq
              cases hv
              have Gs328 := fm_ts Fs327 Fs328 (by decide) (by decide)
              have b330 : (0 : Int) ≤ iI s328 77 ∧ iI s328 77 ≤ 400 := Is328.1 77
              have ws328_75 : iI s328 75 = iI s327 75 := fm_i Fs328 (by decide)
              have b331 : (0 : Int) ≤ iI s328 79 ∧ iI s328 79 ≤ 9 := Is328.1 79
              have b332 : (0 : Int) ≤ iI s328 78 ∧ iI s328 78 ≤ 8 := Is328.1 78
              have ws328_86 : iI s328 86 = iI s327 86 := fm_i Fs328 (by decide)
              have ws328_87 : iI s328 87 = iI s327 87 := fm_i Fs328 (by decide)
              have ws328_88 : iI s328 88 = iI s327 88 := fm_i Fs328 (by decide)
              show WS k 115 [(3, .int (Int32.ofInt 1)), (2, .int (Int32.ofInt 0)), (1, .int (Int32.ofInt e9)), (0, .ref (A 179))] [.int (Int32.ofInt e329)] (Wd A dT s328) 0 0
              refine w_pop X.1 (ax_d X (show cdA 213 115 = some (.pop, 1, 0, 0, 0) from rfl)) rfl ?_
              refine z_goto X (t := 147) (show cdA 213 116 = some (.goto 31, 3, 0, 0, 0) from rfl) (by decide) ?_
              refine z_aload_n X (x := A 179) (show cdA 213 147 = some (.aload_n 0, 1, 0, 0, 0) from rfl) (List.Mem.tail _ (List.Mem.tail _ (List.Mem.tail _ (List.Mem.head _)))) ?_
              refine z_getI X 179 (show cdA 213 148 = some (.getfield 191, 3, 12, 6, 0) from rfl) (by decide) rfl rfl ?_
              have b333 : (0 : Int) ≤ iI s328 79 ∧ iI s328 79 ≤ 9 := Is328.1 79
              refine z_if_ne X (t := 160) (show cdA 213 151 = some (.ifCond .ne 9, 3, 1, 0, 0) from rfl) (by decide) ⟨by omega, by omega⟩ (fun g334 => ?_) (fun g334 => ?_)
              ·
                refine z_aload_n X (x := A 179) (show cdA 213 160 = some (.aload_n 0, 1, 0, 0, 0) from rfl) (List.Mem.tail _ (List.Mem.tail _ (List.Mem.tail _ (List.Mem.head _)))) ?_
                refine w_dup X.1 (ax_d X (show cdA 213 161 = some (.dup, 1, 0, 0, 0) from rfl)) rfl ?_
                refine z_getI X 179 (show cdA 213 162 = some (.getfield 282, 3, 12, 16, 0) from rfl) (by decide) rfl rfl ?_
                have b335 : (0 : Int) ≤ iI s328 86 ∧ iI s328 86 ≤ 8 := Is328.1 86
                refine z_const X (show cdA 213 165 = some (.iconst 1, 1, 0, 0, 0) from rfl) ?_
                refine z_add X (show cdA 213 166 = some (.iadd, 1, 0, 0, 0) from rfl) ?_
                refine s_putI X 179 (show cdA 213 167 = some (.putfield 282, 3, 12, 16, 0) from rfl) (by decide) rfl rfl (by decide) rfl rfl rfl ?_
                obtain ⟨s336, hs336⟩ : ∃ x0, x0 = uI s328 86 (Int32.ofInt ((iI s328 86) + 1)) := ⟨_, rfl⟩
                rw [← hs336]
                have Is336 : Bd s336 := by rw [hs336]; exact bd_I Is328 (show (0 : Int) ≤ ((iI s328 86) + 1) ∧ ((iI s328 86) + 1) ≤ 8 by omega) ⟨by omega, by omega⟩
                have Fs336 := fm_I (x := Int32.ofInt ((iI s328 86) + 1)) Gs328 (show 86 ∈ _ by decide)
                rw [← hs336] at Fs336
                have vs336 : iI s336 86 = ((iI s328 86) + 1) := by rw [hs336]; exact iI_u ⟨by omega, by omega⟩
                have ws336_77 : iI s336 77 = iI s328 77 := by rw [hs336]; rfl
                have ws336_75 : iI s336 75 = iI s328 75 := by rw [hs336]; rfl
                have ws336_79 : iI s336 79 = iI s328 79 := by rw [hs336]; rfl
                have ws336_78 : iI s336 78 = iI s328 78 := by rw [hs336]; rfl
                have ws336_87 : iI s336 87 = iI s328 87 := by rw [hs336]; rfl
                have ws336_88 : iI s336 88 = iI s328 88 := by rw [hs336]; rfl
                exact w_vret X.1 q hRt (ax_d X (show cdA 213 170 = some (.return_, 1, 0, 0, 0) from rfl)) (Nat.zero_le _) (Nat.zero_le _) ⟨_, rfl, Is336, Fs336, rfl, by omega⟩
              ·
                refine z_aload_n X (x := A 179) (show cdA 213 154 = some (.aload_n 0, 1, 0, 0, 0) from rfl) (List.Mem.tail _ (List.Mem.tail _ (List.Mem.tail _ (List.Mem.head _)))) ?_
                refine z_bipush X (show cdA 213 155 = some (.bipush 59, 2, 0, 0, 59) from rfl) ?_
                refine z_callV X 179 (rm := rmN 204) (As := [.int (Int32.ofInt 59)]) (st := []) (show cdA 213 157 = some (.invokevirtual 263, 3, 204, 0, 0) from rfl) rfl (by decide) rfl (by rw [E.1, E.2.1, E.2.2.1]; exact k_sign G Is328 (by omega) (by omega)) ⟨by rw [E.2.2.2]; exact (show (rmN 204).frames + 1 ≤ (rmN 213).frames by decide), by rw [E.2.2.2]; exact (show 8 + (mNL (miB 204) + 11) + (rmN 204).locals ≤ (rmN 213).locals by decide), by rw [E.2.2.2]; exact (show 0 + (rmN 204).cells ≤ (rmN 213).cells by decide), by rw [E.2.2.2]; exact (show 0 + (rmN 204).slots ≤ (rmN 213).slots by decide)⟩ (Nat.le_of_ble_eq_true rfl) (fun vv s337 hq => ?_) (fun ee s337 hq => ?_)
                rotate_left
                · obtain ⟨Is337, Fs337, hv, hps337⟩ := hq; cases hv
                obtain ⟨Is337, Fs337, hv, hps337⟩ := hq
                cases hv
                have Gs337 := fm_ts Gs328 Fs337 (by decide) (by decide)
                have b339 : (0 : Int) ≤ iI s337 77 ∧ iI s337 77 ≤ 400 := Is337.1 77
                have ws337_75 : iI s337 75 = iI s328 75 := fm_i Fs337 (by decide)
                have b340 : (0 : Int) ≤ iI s337 79 ∧ iI s337 79 ≤ 9 := Is337.1 79
                have ws337_78 : iI s337 78 = iI s328 78 := fm_i Fs337 (by decide)
                have ws337_86 : iI s337 86 = iI s328 86 := fm_i Fs337 (by decide)
                have ws337_87 : iI s337 87 = iI s328 87 := fm_i Fs337 (by decide)
                have ws337_88 : iI s337 88 = iI s328 88 := fm_i Fs337 (by decide)
                show WS k 160 [(3, .int (Int32.ofInt 1)), (2, .int (Int32.ofInt 0)), (1, .int (Int32.ofInt e9)), (0, .ref (A 179))] [] (Wd A dT s337) 0 0
                refine z_aload_n X (x := A 179) (show cdA 213 160 = some (.aload_n 0, 1, 0, 0, 0) from rfl) (List.Mem.tail _ (List.Mem.tail _ (List.Mem.tail _ (List.Mem.head _)))) ?_
                refine w_dup X.1 (ax_d X (show cdA 213 161 = some (.dup, 1, 0, 0, 0) from rfl)) rfl ?_
                refine z_getI X 179 (show cdA 213 162 = some (.getfield 282, 3, 12, 16, 0) from rfl) (by decide) rfl rfl ?_
                have b341 : (0 : Int) ≤ iI s337 86 ∧ iI s337 86 ≤ 8 := Is337.1 86
                refine z_const X (show cdA 213 165 = some (.iconst 1, 1, 0, 0, 0) from rfl) ?_
                refine z_add X (show cdA 213 166 = some (.iadd, 1, 0, 0, 0) from rfl) ?_
                refine s_putI X 179 (show cdA 213 167 = some (.putfield 282, 3, 12, 16, 0) from rfl) (by decide) rfl rfl (by decide) rfl rfl rfl ?_
                obtain ⟨s342, hs342⟩ : ∃ x0, x0 = uI s337 86 (Int32.ofInt ((iI s337 86) + 1)) := ⟨_, rfl⟩
                rw [← hs342]
                have Is342 : Bd s342 := by rw [hs342]; exact bd_I Is337 (show (0 : Int) ≤ ((iI s337 86) + 1) ∧ ((iI s337 86) + 1) ≤ 8 by omega) ⟨by omega, by omega⟩
                have Fs342 := fm_I (x := Int32.ofInt ((iI s337 86) + 1)) Gs337 (show 86 ∈ _ by decide)
                rw [← hs342] at Fs342
                have vs342 : iI s342 86 = ((iI s337 86) + 1) := by rw [hs342]; exact iI_u ⟨by omega, by omega⟩
                have ws342_77 : iI s342 77 = iI s337 77 := by rw [hs342]; rfl
                have ws342_75 : iI s342 75 = iI s337 75 := by rw [hs342]; rfl
                have ws342_79 : iI s342 79 = iI s337 79 := by rw [hs342]; rfl
                have ws342_78 : iI s342 78 = iI s337 78 := by rw [hs342]; rfl
                have ws342_87 : iI s342 87 = iI s337 87 := by rw [hs342]; rfl
                have ws342_88 : iI s342 88 = iI s337 88 := by rw [hs342]; rfl
                exact w_vret X.1 q hRt (ax_d X (show cdA 213 170 = some (.return_, 1, 0, 0, 0) from rfl)) (Nat.zero_le _) (Nat.zero_le _) ⟨_, rfl, Is342, Fs342, rfl, by omega⟩
          ·
            exact w_vret X.1 q hRt (ax_d X (show cdA 213 94 = some (.return_, 1, 0, 0, 0) from rfl)) (Nat.zero_le _) (Nat.zero_le _) ⟨_, rfl, Is297, Gs297, rfl, by omega⟩
      ·
        refine z_load_n X (x := 1) (show cdA 213 53 = some (.iload_n 3, 1, 0, 0, 0) from rfl) (List.Mem.head _) ?_
        refine z_if_ne X (t := 69) (show cdA 213 54 = some (.ifCond .ne 15, 3, 1, 0, 0) from rfl) (by decide) ⟨by omega, by omega⟩ (fun g343 => ?_) (fun g343 => ?_)
        ·
          refine z_aload_n X (x := A 179) (show cdA 213 69 = some (.aload_n 0, 1, 0, 0, 0) from rfl) (List.Mem.tail _ (List.Mem.tail _ (List.Mem.tail _ (List.Mem.head _)))) ?_
          refine z_getI X 179 (show cdA 213 70 = some (.getfield 282, 3, 12, 16, 0) from rfl) (by decide) rfl rfl ?_
          have b344 : (0 : Int) ≤ iI s14 86 ∧ iI s14 86 ≤ 8 := Is14.1 86
          refine z_bipush X (show cdA 213 73 = some (.bipush 8, 2, 0, 0, 8) from rfl) ?_
          refine z_icmp_ne X (t := 87) (show cdA 213 75 = some (.if_icmp .ne 12, 3, 1, 0, 0) from rfl) (by decide) ⟨by omega, by omega⟩ ⟨by omega, by omega⟩ (fun g345 => ?_) (fun g345 => ?_)
          ·
            refine z_aload_n X (x := A 179) (show cdA 213 87 = some (.aload_n 0, 1, 0, 0, 0) from rfl) (List.Mem.tail _ (List.Mem.tail _ (List.Mem.tail _ (List.Mem.head _)))) ?_
            refine z_getI X 179 (show cdA 213 88 = some (.getfield 191, 3, 12, 6, 0) from rfl) (by decide) rfl rfl ?_
            have b346 : (0 : Int) ≤ iI s14 79 ∧ iI s14 79 ≤ 9 := Is14.1 79
            refine z_if_eq X (t := 95) (show cdA 213 91 = some (.ifCond .eq 4, 3, 0, 0, 0) from rfl) (by decide) ⟨by omega, by omega⟩ (fun g347 => ?_) (fun g347 => ?_)
            ·
              refine z_aload_n X (x := A 179) (show cdA 213 95 = some (.aload_n 0, 1, 0, 0, 0) from rfl) (List.Mem.tail _ (List.Mem.tail _ (List.Mem.tail _ (List.Mem.head _)))) ?_
              refine z_callV X 179 (rm := rmN 203) (As := []) (st := []) (show cdA 213 96 = some (.invokevirtual 254, 3, 203, 0, 0) from rfl) rfl (by decide) rfl (by rw [E.1, E.2.1, E.2.2.1]; exact k_skipWord G Is14 (by omega)) ⟨by rw [E.2.2.2]; exact (show (rmN 203).frames + 1 ≤ (rmN 213).frames by decide), by rw [E.2.2.2]; exact (show 8 + (mNL (miB 203) + 11) + (rmN 203).locals ≤ (rmN 213).locals by decide), by rw [E.2.2.2]; exact (show 0 + (rmN 203).cells ≤ (rmN 213).cells by decide), by rw [E.2.2.2]; exact (show 0 + (rmN 203).slots ≤ (rmN 213).slots by decide)⟩ (Nat.le_of_ble_eq_true rfl) (fun vv s348 hq => ?_) (fun ee s348 hq => ?_)
              rotate_left
              · obtain ⟨Is348, Fs348, hv, hps348⟩ := hq; cases hv
              obtain ⟨Is348, Fs348, hv, hps348⟩ := hq
              cases hv
              have Gs348 := fm_ts Gs14 Fs348 (by decide) (by decide)
              have b350 : (0 : Int) ≤ iI s348 77 ∧ iI s348 77 ≤ 400 := Is348.1 77
              have ws348_75 : iI s348 75 = iI s14 75 := fm_i Fs348 (by decide)
              have ws348_79 : iI s348 79 = iI s14 79 := fm_i Fs348 (by decide)
              have ws348_78 : iI s348 78 = iI s14 78 := fm_i Fs348 (by decide)
              have ws348_86 : iI s348 86 = iI s14 86 := fm_i Fs348 (by decide)
              have ws348_87 : iI s348 87 = iI s14 87 := fm_i Fs348 (by decide)
              have ws348_88 : iI s348 88 = iI s14 88 := fm_i Fs348 (by decide)
              show WS k 99 [(3, .int (Int32.ofInt 1)), (2, .int (Int32.ofInt 0)), (1, .int (Int32.ofInt e9)), (0, .ref (A 179))] [] (Wd A dT s348) 0 0
              refine z_load_n X (x := 0) (show cdA 213 99 = some (.iload_n 2, 1, 0, 0, 0) from rfl) (List.Mem.tail _ (List.Mem.head _)) ?_
              refine z_if_eq X (t := 119) (show cdA 213 100 = some (.ifCond .eq 19, 3, 0, 0, 0) from rfl) (by decide) ⟨by omega, by omega⟩ (fun g351 => ?_) (fun g351 => ?_)
              ·
                refine z_aload_n X (x := A 179) (show cdA 213 119 = some (.aload_n 0, 1, 0, 0, 0) from rfl) (List.Mem.tail _ (List.Mem.tail _ (List.Mem.tail _ (List.Mem.head _)))) ?_
                refine s_getR X 179 (show cdA 213 120 = some (.getfield 29, 3, 12, 20, 0) from rfl) (by decide) rfl rfl ?_
                refine z_aload_n X (x := A 179) (show cdA 213 123 = some (.aload_n 0, 1, 0, 0, 0) from rfl) (List.Mem.tail _ (List.Mem.tail _ (List.Mem.tail _ (List.Mem.head _)))) ?_
                refine z_getI X 179 (show cdA 213 124 = some (.getfield 288, 3, 12, 17, 0) from rfl) (by decide) rfl rfl ?_
                have b352 : (0 : Int) ≤ iI s348 87 ∧ iI s348 87 ≤ 8 := Is348.1 87
                refine z_aload_n X (x := A 179) (show cdA 213 127 = some (.aload_n 0, 1, 0, 0, 0) from rfl) (List.Mem.tail _ (List.Mem.tail _ (List.Mem.tail _ (List.Mem.head _)))) ?_
                refine z_getI X 179 (show cdA 213 128 = some (.getfield 184, 3, 12, 4, 0) from rfl) (by decide) rfl rfl ?_
                have b353 : (0 : Int) ≤ iI s348 77 ∧ iI s348 77 ≤ 400 := Is348.1 77
                refine z_ast X 183 (show cdA 213 131 = some (.iastore, 1, 0, 0, 0) from rfl) (by decide) rfl (by omega) (show (iI s348 87) < 8 by omega) (by decide) ?_
                obtain ⟨s354, hs354⟩ : ∃ x0, x0 = uC s348 160 ((iI s348 87)).toNat (Int32.ofInt (iI s348 77)) := ⟨_, rfl⟩
                rw [← hs354]
                have Is354 : Bd s354 := by rw [hs354]; exact bd_C Is348 (show (0 : Int) ≤ (iI s348 77) ∧ (iI s348 77) ≤ 200 by omega) ⟨by omega, by omega⟩
                have Fs354 := fm_C (i := ((iI s348 87)).toNat) (x := Int32.ofInt (iI s348 77)) Gs348 (show 160 ∈ _ by decide)
                rw [← hs354] at Fs354
                have ws354_77 : iI s354 77 = iI s348 77 := by rw [hs354]; rfl
                have ws354_75 : iI s354 75 = iI s348 75 := by rw [hs354]; rfl
                have ws354_79 : iI s354 79 = iI s348 79 := by rw [hs354]; rfl
                have ws354_78 : iI s354 78 = iI s348 78 := by rw [hs354]; rfl
                have ws354_86 : iI s354 86 = iI s348 86 := by rw [hs354]; rfl
                have ws354_87 : iI s354 87 = iI s348 87 := by rw [hs354]; rfl
                have ws354_88 : iI s354 88 = iI s348 88 := by rw [hs354]; rfl
                refine z_aload_n X (x := A 179) (show cdA 213 132 = some (.aload_n 0, 1, 0, 0, 0) from rfl) (List.Mem.tail _ (List.Mem.tail _ (List.Mem.tail _ (List.Mem.head _)))) ?_
                refine w_dup X.1 (ax_d X (show cdA 213 133 = some (.dup, 1, 0, 0, 0) from rfl)) rfl ?_
                refine z_getI X 179 (show cdA 213 134 = some (.getfield 288, 3, 12, 17, 0) from rfl) (by decide) rfl rfl ?_
                have b355 : (0 : Int) ≤ iI s354 87 ∧ iI s354 87 ≤ 8 := Is354.1 87
                refine z_const X (show cdA 213 137 = some (.iconst 1, 1, 0, 0, 0) from rfl) ?_
                refine z_add X (show cdA 213 138 = some (.iadd, 1, 0, 0, 0) from rfl) ?_
                refine s_putI X 179 (show cdA 213 139 = some (.putfield 288, 3, 12, 17, 0) from rfl) (by decide) rfl rfl (by decide) rfl rfl rfl ?_
                obtain ⟨s356, hs356⟩ : ∃ x0, x0 = uI s354 87 (Int32.ofInt ((iI s354 87) + 1)) := ⟨_, rfl⟩
                rw [← hs356]
                have Is356 : Bd s356 := by rw [hs356]; exact bd_I Is354 (show (0 : Int) ≤ ((iI s354 87) + 1) ∧ ((iI s354 87) + 1) ≤ 8 by omega) ⟨by omega, by omega⟩
                have Fs356 := fm_I (x := Int32.ofInt ((iI s354 87) + 1)) Fs354 (show 87 ∈ _ by decide)
                rw [← hs356] at Fs356
                have vs356 : iI s356 87 = ((iI s354 87) + 1) := by rw [hs356]; exact iI_u ⟨by omega, by omega⟩
                have ws356_77 : iI s356 77 = iI s354 77 := by rw [hs356]; rfl
                have ws356_75 : iI s356 75 = iI s354 75 := by rw [hs356]; rfl
                have ws356_79 : iI s356 79 = iI s354 79 := by rw [hs356]; rfl
                have ws356_78 : iI s356 78 = iI s354 78 := by rw [hs356]; rfl
                have ws356_86 : iI s356 86 = iI s354 86 := by rw [hs356]; rfl
                have ws356_88 : iI s356 88 = iI s354 88 := by rw [hs356]; rfl
                refine z_aload_n X (x := A 179) (show cdA 213 142 = some (.aload_n 0, 1, 0, 0, 0) from rfl) (List.Mem.tail _ (List.Mem.tail _ (List.Mem.tail _ (List.Mem.head _)))) ?_
                refine z_callV X 179 (rm := rmN 212) (As := []) (st := []) (show cdA 213 143 = some (.invokevirtual 276, 3, 212, 0, 0) from rfl) rfl (by decide) rfl (by rw [E.1, E.2.1, E.2.2.1]; exact k_ors G Is356 (by omega) (by omega) (by omega) (by omega)) ⟨by rw [E.2.2.2]; exact (show (rmN 212).frames + 1 ≤ (rmN 213).frames by decide), by rw [E.2.2.2]; exact (show 8 + (mNL (miB 212) + 11) + (rmN 212).locals ≤ (rmN 213).locals by decide), by rw [E.2.2.2]; exact (show 0 + (rmN 212).cells ≤ (rmN 213).cells by decide), by rw [E.2.2.2]; exact (show 0 + (rmN 212).slots ≤ (rmN 213).slots by decide)⟩ (Nat.le_of_ble_eq_true rfl) (fun vv s357 hq => ?_) (fun ee s357 hq => ?_)
                rotate_left
                · obtain ⟨Is357, Fs357, e358, hv, hrs357, hps357⟩ := hq; cases hv
                obtain ⟨Is357, Fs357, e358, hv, hrs357, hps357⟩ := hq
                cases hv
                have Gs357 := fm_ts Fs356 Fs357 (by decide) (by decide)
                have b359 : (0 : Int) ≤ iI s357 77 ∧ iI s357 77 ≤ 400 := Is357.1 77
                have ws357_75 : iI s357 75 = iI s356 75 := fm_i Fs357 (by decide)
                have b360 : (0 : Int) ≤ iI s357 79 ∧ iI s357 79 ≤ 9 := Is357.1 79
                have b361 : (0 : Int) ≤ iI s357 78 ∧ iI s357 78 ≤ 8 := Is357.1 78
                have ws357_86 : iI s357 86 = iI s356 86 := fm_i Fs357 (by decide)
                have ws357_87 : iI s357 87 = iI s356 87 := fm_i Fs357 (by decide)
                have ws357_88 : iI s357 88 = iI s356 88 := fm_i Fs357 (by decide)
                show WS k 146 [(3, .int (Int32.ofInt 1)), (2, .int (Int32.ofInt 0)), (1, .int (Int32.ofInt e9)), (0, .ref (A 179))] [.int (Int32.ofInt e358)] (Wd A dT s357) 0 0
                refine w_pop X.1 (ax_d X (show cdA 213 146 = some (.pop, 1, 0, 0, 0) from rfl)) rfl ?_
                refine z_aload_n X (x := A 179) (show cdA 213 147 = some (.aload_n 0, 1, 0, 0, 0) from rfl) (List.Mem.tail _ (List.Mem.tail _ (List.Mem.tail _ (List.Mem.head _)))) ?_
                refine z_getI X 179 (show cdA 213 148 = some (.getfield 191, 3, 12, 6, 0) from rfl) (by decide) rfl rfl ?_
                have b362 : (0 : Int) ≤ iI s357 79 ∧ iI s357 79 ≤ 9 := Is357.1 79
                refine z_if_ne X (t := 160) (show cdA 213 151 = some (.ifCond .ne 9, 3, 1, 0, 0) from rfl) (by decide) ⟨by omega, by omega⟩ (fun g363 => ?_) (fun g363 => ?_)
                ·
                  refine z_aload_n X (x := A 179) (show cdA 213 160 = some (.aload_n 0, 1, 0, 0, 0) from rfl) (List.Mem.tail _ (List.Mem.tail _ (List.Mem.tail _ (List.Mem.head _)))) ?_
                  refine w_dup X.1 (ax_d X (show cdA 213 161 = some (.dup, 1, 0, 0, 0) from rfl)) rfl ?_
                  refine z_getI X 179 (show cdA 213 162 = some (.getfield 282, 3, 12, 16, 0) from rfl) (by decide) rfl rfl ?_
                  have b364 : (0 : Int) ≤ iI s357 86 ∧ iI s357 86 ≤ 8 := Is357.1 86
                  refine z_const X (show cdA 213 165 = some (.iconst 1, 1, 0, 0, 0) from rfl) ?_
                  refine z_add X (show cdA 213 166 = some (.iadd, 1, 0, 0, 0) from rfl) ?_
                  refine s_putI X 179 (show cdA 213 167 = some (.putfield 282, 3, 12, 16, 0) from rfl) (by decide) rfl rfl (by decide) rfl rfl rfl ?_
                  obtain ⟨s365, hs365⟩ : ∃ x0, x0 = uI s357 86 (Int32.ofInt ((iI s357 86) + 1)) := ⟨_, rfl⟩
                  rw [← hs365]
                  have Is365 : Bd s365 := by rw [hs365]; exact bd_I Is357 (show (0 : Int) ≤ ((iI s357 86) + 1) ∧ ((iI s357 86) + 1) ≤ 8 by omega) ⟨by omega, by omega⟩
                  have Fs365 := fm_I (x := Int32.ofInt ((iI s357 86) + 1)) Gs357 (show 86 ∈ _ by decide)
                  rw [← hs365] at Fs365
                  have vs365 : iI s365 86 = ((iI s357 86) + 1) := by rw [hs365]; exact iI_u ⟨by omega, by omega⟩
                  have ws365_77 : iI s365 77 = iI s357 77 := by rw [hs365]; rfl
                  have ws365_75 : iI s365 75 = iI s357 75 := by rw [hs365]; rfl
                  have ws365_79 : iI s365 79 = iI s357 79 := by rw [hs365]; rfl
                  have ws365_78 : iI s365 78 = iI s357 78 := by rw [hs365]; rfl
                  have ws365_87 : iI s365 87 = iI s357 87 := by rw [hs365]; rfl
                  have ws365_88 : iI s365 88 = iI s357 88 := by rw [hs365]; rfl
                  exact w_vret X.1 q hRt (ax_d X (show cdA 213 170 = some (.return_, 1, 0, 0, 0) from rfl)) (Nat.zero_le _) (Nat.zero_le _) ⟨_, rfl, Is365, Fs365, rfl, by omega⟩
                ·
                  refine z_aload_n X (x := A 179) (show cdA 213 154 = some (.aload_n 0, 1, 0, 0, 0) from rfl) (List.Mem.tail _ (List.Mem.tail _ (List.Mem.tail _ (List.Mem.head _)))) ?_
                  refine z_bipush X (show cdA 213 155 = some (.bipush 59, 2, 0, 0, 59) from rfl) ?_
                  refine z_callV X 179 (rm := rmN 204) (As := [.int (Int32.ofInt 59)]) (st := []) (show cdA 213 157 = some (.invokevirtual 263, 3, 204, 0, 0) from rfl) rfl (by decide) rfl (by rw [E.1, E.2.1, E.2.2.1]; exact k_sign G Is357 (by omega) (by omega)) ⟨by rw [E.2.2.2]; exact (show (rmN 204).frames + 1 ≤ (rmN 213).frames by decide), by rw [E.2.2.2]; exact (show 8 + (mNL (miB 204) + 11) + (rmN 204).locals ≤ (rmN 213).locals by decide), by rw [E.2.2.2]; exact (show 0 + (rmN 204).cells ≤ (rmN 213).cells by decide), by rw [E.2.2.2]; exact (show 0 + (rmN 204).slots ≤ (rmN 213).slots by decide)⟩ (Nat.le_of_ble_eq_true rfl) (fun vv s366 hq => ?_) (fun ee s366 hq => ?_)
                  rotate_left
                  · obtain ⟨Is366, Fs366, hv, hps366⟩ := hq; cases hv
                  obtain ⟨Is366, Fs366, hv, hps366⟩ := hq
                  cases hv
                  have Gs366 := fm_ts Gs357 Fs366 (by decide) (by decide)
                  have b368 : (0 : Int) ≤ iI s366 77 ∧ iI s366 77 ≤ 400 := Is366.1 77
                  have ws366_75 : iI s366 75 = iI s357 75 := fm_i Fs366 (by decide)
                  have b369 : (0 : Int) ≤ iI s366 79 ∧ iI s366 79 ≤ 9 := Is366.1 79
                  have ws366_78 : iI s366 78 = iI s357 78 := fm_i Fs366 (by decide)
                  have ws366_86 : iI s366 86 = iI s357 86 := fm_i Fs366 (by decide)
                  have ws366_87 : iI s366 87 = iI s357 87 := fm_i Fs366 (by decide)
                  have ws366_88 : iI s366 88 = iI s357 88 := fm_i Fs366 (by decide)
                  show WS k 160 [(3, .int (Int32.ofInt 1)), (2, .int (Int32.ofInt 0)), (1, .int (Int32.ofInt e9)), (0, .ref (A 179))] [] (Wd A dT s366) 0 0
                  refine z_aload_n X (x := A 179) (show cdA 213 160 = some (.aload_n 0, 1, 0, 0, 0) from rfl) (List.Mem.tail _ (List.Mem.tail _ (List.Mem.tail _ (List.Mem.head _)))) ?_
                  refine w_dup X.1 (ax_d X (show cdA 213 161 = some (.dup, 1, 0, 0, 0) from rfl)) rfl ?_
                  refine z_getI X 179 (show cdA 213 162 = some (.getfield 282, 3, 12, 16, 0) from rfl) (by decide) rfl rfl ?_
                  have b370 : (0 : Int) ≤ iI s366 86 ∧ iI s366 86 ≤ 8 := Is366.1 86
                  refine z_const X (show cdA 213 165 = some (.iconst 1, 1, 0, 0, 0) from rfl) ?_
                  refine z_add X (show cdA 213 166 = some (.iadd, 1, 0, 0, 0) from rfl) ?_
                  refine s_putI X 179 (show cdA 213 167 = some (.putfield 282, 3, 12, 16, 0) from rfl) (by decide) rfl rfl (by decide) rfl rfl rfl ?_
                  obtain ⟨s371, hs371⟩ : ∃ x0, x0 = uI s366 86 (Int32.ofInt ((iI s366 86) + 1)) := ⟨_, rfl⟩
                  rw [← hs371]
                  have Is371 : Bd s371 := by rw [hs371]; exact bd_I Is366 (show (0 : Int) ≤ ((iI s366 86) + 1) ∧ ((iI s366 86) + 1) ≤ 8 by omega) ⟨by omega, by omega⟩
                  have Fs371 := fm_I (x := Int32.ofInt ((iI s366 86) + 1)) Gs366 (show 86 ∈ _ by decide)
                  rw [← hs371] at Fs371
                  have vs371 : iI s371 86 = ((iI s366 86) + 1) := by rw [hs371]; exact iI_u ⟨by omega, by omega⟩
                  have ws371_77 : iI s371 77 = iI s366 77 := by rw [hs371]; rfl
                  have ws371_75 : iI s371 75 = iI s366 75 := by rw [hs371]; rfl
                  have ws371_79 : iI s371 79 = iI s366 79 := by rw [hs371]; rfl
                  have ws371_78 : iI s371 78 = iI s366 78 := by rw [hs371]; rfl
                  have ws371_87 : iI s371 87 = iI s366 87 := by rw [hs371]; rfl
                  have ws371_88 : iI s371 88 = iI s366 88 := by rw [hs371]; rfl
                  exact w_vret X.1 q hRt (ax_d X (show cdA 213 170 = some (.return_, 1, 0, 0, 0) from rfl)) (Nat.zero_le _) (Nat.zero_le _) ⟨_, rfl, Is371, Fs371, rfl, by omega⟩
              ·
                refine z_aload_n X (x := A 179) (show cdA 213 103 = some (.aload_n 0, 1, 0, 0, 0) from rfl) (List.Mem.tail _ (List.Mem.tail _ (List.Mem.tail _ (List.Mem.head _)))) ?_
                refine z_aload_n X (x := A 179) (show cdA 213 104 = some (.aload_n 0, 1, 0, 0, 0) from rfl) (List.Mem.tail _ (List.Mem.tail _ (List.Mem.tail _ (List.Mem.head _)))) ?_
                refine z_getI X 179 (show cdA 213 105 = some (.getfield 184, 3, 12, 4, 0) from rfl) (by decide) rfl rfl ?_
                have b372 : (0 : Int) ≤ iI s348 77 ∧ iI s348 77 ≤ 400 := Is348.1 77
                refine s_putI X 179 (show cdA 213 108 = some (.putfield 285, 3, 12, 18, 0) from rfl) (by decide) rfl rfl (by decide) rfl rfl rfl ?_
                obtain ⟨s373, hs373⟩ : ∃ x0, x0 = uI s348 88 (Int32.ofInt (iI s348 77)) := ⟨_, rfl⟩
                rw [← hs373]
                have Is373 : Bd s373 := by rw [hs373]; exact bd_I Is348 (show ((-1) : Int) ≤ (iI s348 77) ∧ (iI s348 77) ≤ 200 by omega) ⟨by omega, by omega⟩
                have Fs373 := fm_I (x := Int32.ofInt (iI s348 77)) Gs348 (show 88 ∈ _ by decide)
                rw [← hs373] at Fs373
                have vs373 : iI s373 88 = (iI s348 77) := by rw [hs373]; exact iI_u ⟨by omega, by omega⟩
                have ws373_77 : iI s373 77 = iI s348 77 := by rw [hs373]; rfl
                have ws373_75 : iI s373 75 = iI s348 75 := by rw [hs373]; rfl
                have ws373_79 : iI s373 79 = iI s348 79 := by rw [hs373]; rfl
                have ws373_78 : iI s373 78 = iI s348 78 := by rw [hs373]; rfl
                have ws373_86 : iI s373 86 = iI s348 86 := by rw [hs373]; rfl
                have ws373_87 : iI s373 87 = iI s348 87 := by rw [hs373]; rfl
                refine z_aload_n X (x := A 179) (show cdA 213 111 = some (.aload_n 0, 1, 0, 0, 0) from rfl) (List.Mem.tail _ (List.Mem.tail _ (List.Mem.tail _ (List.Mem.head _)))) ?_
                refine z_callV X 179 (rm := rmN 209) (As := []) (st := []) (show cdA 213 112 = some (.invokevirtual 260, 3, 209, 0, 0) from rfl) rfl (by decide) rfl (by rw [E.1, E.2.1, E.2.2.1]; exact k_sum G Is373 (by omega) (by omega) (by omega)) ⟨by rw [E.2.2.2]; exact (show (rmN 209).frames + 1 ≤ (rmN 213).frames by decide), by rw [E.2.2.2]; exact (show 8 + (mNL (miB 209) + 11) + (rmN 209).locals ≤ (rmN 213).locals by decide), by rw [E.2.2.2]; exact (show 0 + (rmN 209).cells ≤ (rmN 213).cells by decide), by rw [E.2.2.2]; exact (show 0 + (rmN 209).slots ≤ (rmN 213).slots by decide)⟩ (Nat.le_of_ble_eq_true rfl) (fun vv s374 hq => ?_) (fun ee s374 hq => ?_)
                rotate_left
                · obtain ⟨Is374, Fs374, e375, hv, hrs374, hps374⟩ := hq; cases hv
                obtain ⟨Is374, Fs374, e375, hv, hrs374, hps374⟩ := hq
                cases hv
                have Gs374 := fm_ts Fs373 Fs374 (by decide) (by decide)
                have b376 : (0 : Int) ≤ iI s374 77 ∧ iI s374 77 ≤ 400 := Is374.1 77
                have ws374_75 : iI s374 75 = iI s373 75 := fm_i Fs374 (by decide)
                have b377 : (0 : Int) ≤ iI s374 79 ∧ iI s374 79 ≤ 9 := Is374.1 79
                have b378 : (0 : Int) ≤ iI s374 78 ∧ iI s374 78 ≤ 8 := Is374.1 78
                have ws374_86 : iI s374 86 = iI s373 86 := fm_i Fs374 (by decide)
                have ws374_87 : iI s374 87 = iI s373 87 := fm_i Fs374 (by decide)
                have ws374_88 : iI s374 88 = iI s373 88 := fm_i Fs374 (by decide)
                show WS k 115 [(3, .int (Int32.ofInt 1)), (2, .int (Int32.ofInt 0)), (1, .int (Int32.ofInt e9)), (0, .ref (A 179))] [.int (Int32.ofInt e375)] (Wd A dT s374) 0 0
                refine w_pop X.1 (ax_d X (show cdA 213 115 = some (.pop, 1, 0, 0, 0) from rfl)) rfl ?_
                refine z_goto X (t := 147) (show cdA 213 116 = some (.goto 31, 3, 0, 0, 0) from rfl) (by decide) ?_
                refine z_aload_n X (x := A 179) (show cdA 213 147 = some (.aload_n 0, 1, 0, 0, 0) from rfl) (List.Mem.tail _ (List.Mem.tail _ (List.Mem.tail _ (List.Mem.head _)))) ?_
                refine z_getI X 179 (show cdA 213 148 = some (.getfield 191, 3, 12, 6, 0) from rfl) (by decide) rfl rfl ?_
                have b379 : (0 : Int) ≤ iI s374 79 ∧ iI s374 79 ≤ 9 := Is374.1 79
                refine z_if_ne X (t := 160) (show cdA 213 151 = some (.ifCond .ne 9, 3, 1, 0, 0) from rfl) (by decide) ⟨by omega, by omega⟩ (fun g380 => ?_) (fun g380 => ?_)
                ·
                  refine z_aload_n X (x := A 179) (show cdA 213 160 = some (.aload_n 0, 1, 0, 0, 0) from rfl) (List.Mem.tail _ (List.Mem.tail _ (List.Mem.tail _ (List.Mem.head _)))) ?_
                  refine w_dup X.1 (ax_d X (show cdA 213 161 = some (.dup, 1, 0, 0, 0) from rfl)) rfl ?_
                  refine z_getI X 179 (show cdA 213 162 = some (.getfield 282, 3, 12, 16, 0) from rfl) (by decide) rfl rfl ?_
                  have b381 : (0 : Int) ≤ iI s374 86 ∧ iI s374 86 ≤ 8 := Is374.1 86
                  refine z_const X (show cdA 213 165 = some (.iconst 1, 1, 0, 0, 0) from rfl) ?_
                  refine z_add X (show cdA 213 166 = some (.iadd, 1, 0, 0, 0) from rfl) ?_
                  refine s_putI X 179 (show cdA 213 167 = some (.putfield 282, 3, 12, 16, 0) from rfl) (by decide) rfl rfl (by decide) rfl rfl rfl ?_
                  obtain ⟨s382, hs382⟩ : ∃ x0, x0 = uI s374 86 (Int32.ofInt ((iI s374 86) + 1)) := ⟨_, rfl⟩
                  rw [← hs382]
                  have Is382 : Bd s382 := by rw [hs382]; exact bd_I Is374 (show (0 : Int) ≤ ((iI s374 86) + 1) ∧ ((iI s374 86) + 1) ≤ 8 by omega) ⟨by omega, by omega⟩
                  have Fs382 := fm_I (x := Int32.ofInt ((iI s374 86) + 1)) Gs374 (show 86 ∈ _ by decide)
                  rw [← hs382] at Fs382
                  have vs382 : iI s382 86 = ((iI s374 86) + 1) := by rw [hs382]; exact iI_u ⟨by omega, by omega⟩
                  have ws382_77 : iI s382 77 = iI s374 77 := by rw [hs382]; rfl
                  have ws382_75 : iI s382 75 = iI s374 75 := by rw [hs382]; rfl
                  have ws382_79 : iI s382 79 = iI s374 79 := by rw [hs382]; rfl
                  have ws382_78 : iI s382 78 = iI s374 78 := by rw [hs382]; rfl
                  have ws382_87 : iI s382 87 = iI s374 87 := by rw [hs382]; rfl
                  have ws382_88 : iI s382 88 = iI s374 88 := by rw [hs382]; rfl
                  exact w_vret X.1 q hRt (ax_d X (show cdA 213 170 = some (.return_, 1, 0, 0, 0) from rfl)) (Nat.zero_le _) (Nat.zero_le _) ⟨_, rfl, Is382, Fs382, rfl, by omega⟩
                ·
                  refine z_aload_n X (x := A 179) (show cdA 213 154 = some (.aload_n 0, 1, 0, 0, 0) from rfl) (List.Mem.tail _ (List.Mem.tail _ (List.Mem.tail _ (List.Mem.head _)))) ?_
                  refine z_bipush X (show cdA 213 155 = some (.bipush 59, 2, 0, 0, 59) from rfl) ?_
                  refine z_callV X 179 (rm := rmN 204) (As := [.int (Int32.ofInt 59)]) (st := []) (show cdA 213 157 = some (.invokevirtual 263, 3, 204, 0, 0) from rfl) rfl (by decide) rfl (by rw [E.1, E.2.1, E.2.2.1]; exact k_sign G Is374 (by omega) (by omega)) ⟨by rw [E.2.2.2]; exact (show (rmN 204).frames + 1 ≤ (rmN 213).frames by decide), by rw [E.2.2.2]; exact (show 8 + (mNL (miB 204) + 11) + (rmN 204).locals ≤ (rmN 213).locals by decide), by rw [E.2.2.2]; exact (show 0 + (rmN 204).cells ≤ (rmN 213).cells by decide), by rw [E.2.2.2]; exact (show 0 + (rmN 204).slots ≤ (rmN 213).slots by decide)⟩ (Nat.le_of_ble_eq_true rfl) (fun vv s383 hq => ?_) (fun ee s383 hq => ?_)
                  rotate_left
                  · obtain ⟨Is383, Fs383, hv, hps383⟩ := hq; cases hv
                  obtain ⟨Is383, Fs383, hv, hps383⟩ := hq
                  cases hv
                  have Gs383 := fm_ts Gs374 Fs383 (by decide) (by decide)
                  have b385 : (0 : Int) ≤ iI s383 77 ∧ iI s383 77 ≤ 400 := Is383.1 77
                  have ws383_75 : iI s383 75 = iI s374 75 := fm_i Fs383 (by decide)
                  have b386 : (0 : Int) ≤ iI s383 79 ∧ iI s383 79 ≤ 9 := Is383.1 79
                  have ws383_78 : iI s383 78 = iI s374 78 := fm_i Fs383 (by decide)
                  have ws383_86 : iI s383 86 = iI s374 86 := fm_i Fs383 (by decide)
                  have ws383_87 : iI s383 87 = iI s374 87 := fm_i Fs383 (by decide)
                  have ws383_88 : iI s383 88 = iI s374 88 := fm_i Fs383 (by decide)
                  show WS k 160 [(3, .int (Int32.ofInt 1)), (2, .int (Int32.ofInt 0)), (1, .int (Int32.ofInt e9)), (0, .ref (A 179))] [] (Wd A dT s383) 0 0
                  refine z_aload_n X (x := A 179) (show cdA 213 160 = some (.aload_n 0, 1, 0, 0, 0) from rfl) (List.Mem.tail _ (List.Mem.tail _ (List.Mem.tail _ (List.Mem.head _)))) ?_
                  refine w_dup X.1 (ax_d X (show cdA 213 161 = some (.dup, 1, 0, 0, 0) from rfl)) rfl ?_
                  refine z_getI X 179 (show cdA 213 162 = some (.getfield 282, 3, 12, 16, 0) from rfl) (by decide) rfl rfl ?_
                  have b387 : (0 : Int) ≤ iI s383 86 ∧ iI s383 86 ≤ 8 := Is383.1 86
                  refine z_const X (show cdA 213 165 = some (.iconst 1, 1, 0, 0, 0) from rfl) ?_
                  refine z_add X (show cdA 213 166 = some (.iadd, 1, 0, 0, 0) from rfl) ?_
                  refine s_putI X 179 (show cdA 213 167 = some (.putfield 282, 3, 12, 16, 0) from rfl) (by decide) rfl rfl (by decide) rfl rfl rfl ?_
                  obtain ⟨s388, hs388⟩ : ∃ x0, x0 = uI s383 86 (Int32.ofInt ((iI s383 86) + 1)) := ⟨_, rfl⟩
                  rw [← hs388]
                  have Is388 : Bd s388 := by rw [hs388]; exact bd_I Is383 (show (0 : Int) ≤ ((iI s383 86) + 1) ∧ ((iI s383 86) + 1) ≤ 8 by omega) ⟨by omega, by omega⟩
                  have Fs388 := fm_I (x := Int32.ofInt ((iI s383 86) + 1)) Gs383 (show 86 ∈ _ by decide)
                  rw [← hs388] at Fs388
                  have vs388 : iI s388 86 = ((iI s383 86) + 1) := by rw [hs388]; exact iI_u ⟨by omega, by omega⟩
                  have ws388_77 : iI s388 77 = iI s383 77 := by rw [hs388]; rfl
                  have ws388_75 : iI s388 75 = iI s383 75 := by rw [hs388]; rfl
                  have ws388_79 : iI s388 79 = iI s383 79 := by rw [hs388]; rfl
                  have ws388_78 : iI s388 78 = iI s383 78 := by rw [hs388]; rfl
                  have ws388_87 : iI s388 87 = iI s383 87 := by rw [hs388]; rfl
                  have ws388_88 : iI s388 88 = iI s383 88 := by rw [hs388]; rfl
                  exact w_vret X.1 q hRt (ax_d X (show cdA 213 170 = some (.return_, 1, 0, 0, 0) from rfl)) (Nat.zero_le _) (Nat.zero_le _) ⟨_, rfl, Is388, Fs388, rfl, by omega⟩
            ·
              exact w_vret X.1 q hRt (ax_d X (show cdA 213 94 = some (.return_, 1, 0, 0, 0) from rfl)) (Nat.zero_le _) (Nat.zero_le _) ⟨_, rfl, Is14, Gs14, rfl, by omega⟩
          ·
            refine z_aload_n X (x := A 179) (show cdA 213 78 = some (.aload_n 0, 1, 0, 0, 0) from rfl) (List.Mem.tail _ (List.Mem.tail _ (List.Mem.tail _ (List.Mem.head _)))) ?_
            refine z_const X (show cdA 213 79 = some (.iconst 3, 1, 0, 0, 0) from rfl) ?_
            refine z_aload_n X (x := A 179) (show cdA 213 80 = some (.aload_n 0, 1, 0, 0, 0) from rfl) (List.Mem.tail _ (List.Mem.tail _ (List.Mem.tail _ (List.Mem.head _)))) ?_
            refine z_getI X 179 (show cdA 213 81 = some (.getfield 184, 3, 12, 4, 0) from rfl) (by decide) rfl rfl ?_
            have b389 : (0 : Int) ≤ iI s14 77 ∧ iI s14 77 ≤ 400 := Is14.1 77
            refine z_callV X 179 (rm := rmN 194) (As := [.int (Int32.ofInt 3), .int (Int32.ofInt (iI s14 77))]) (st := []) (show cdA 213 84 = some (.invokevirtual 204, 3, 194, 0, 0) from rfl) rfl (by decide) rfl (by rw [E.1, E.2.1, E.2.2.1]; exact k_wrong G Is14 (by omega) (by omega)) ⟨by rw [E.2.2.2]; exact (show (rmN 194).frames + 1 ≤ (rmN 213).frames by decide), by rw [E.2.2.2]; exact (show 8 + (mNL (miB 194) + 11) + (rmN 194).locals ≤ (rmN 213).locals by decide), by rw [E.2.2.2]; exact (show 0 + (rmN 194).cells ≤ (rmN 213).cells by decide), by rw [E.2.2.2]; exact (show 0 + (rmN 194).slots ≤ (rmN 213).slots by decide)⟩ (Nat.le_of_ble_eq_true rfl) (fun vv s390 hq => ?_) (fun ee s390 hq => ?_)
            rotate_left
            · obtain ⟨Is390, Fs390, hv, hps390⟩ := hq; cases hv
            obtain ⟨Is390, Fs390, hv, hps390⟩ := hq
            cases hv
            have Gs390 := fm_ts Gs14 Fs390 (by decide) (by decide)
            have ws390_77 : iI s390 77 = iI s14 77 := fm_i Fs390 (by decide)
            have ws390_75 : iI s390 75 = iI s14 75 := fm_i Fs390 (by decide)
            have b392 : (0 : Int) ≤ iI s390 79 ∧ iI s390 79 ≤ 9 := Is390.1 79
            have ws390_78 : iI s390 78 = iI s14 78 := fm_i Fs390 (by decide)
            have ws390_86 : iI s390 86 = iI s14 86 := fm_i Fs390 (by decide)
            have ws390_87 : iI s390 87 = iI s14 87 := fm_i Fs390 (by decide)
            have ws390_88 : iI s390 88 = iI s14 88 := fm_i Fs390 (by decide)
            show WS k 87 [(3, .int (Int32.ofInt 1)), (2, .int (Int32.ofInt 0)), (1, .int (Int32.ofInt e9)), (0, .ref (A 179))] [] (Wd A dT s390) 0 0
            refine z_aload_n X (x := A 179) (show cdA 213 87 = some (.aload_n 0, 1, 0, 0, 0) from rfl) (List.Mem.tail _ (List.Mem.tail _ (List.Mem.tail _ (List.Mem.head _)))) ?_
            refine z_getI X 179 (show cdA 213 88 = some (.getfield 191, 3, 12, 6, 0) from rfl) (by decide) rfl rfl ?_
            have b393 : (0 : Int) ≤ iI s390 79 ∧ iI s390 79 ≤ 9 := Is390.1 79
            refine z_if_eq X (t := 95) (show cdA 213 91 = some (.ifCond .eq 4, 3, 0, 0, 0) from rfl) (by decide) ⟨by omega, by omega⟩ (fun g394 => ?_) (fun g394 => ?_)
            ·
              refine z_aload_n X (x := A 179) (show cdA 213 95 = some (.aload_n 0, 1, 0, 0, 0) from rfl) (List.Mem.tail _ (List.Mem.tail _ (List.Mem.tail _ (List.Mem.head _)))) ?_
              refine z_callV X 179 (rm := rmN 203) (As := []) (st := []) (show cdA 213 96 = some (.invokevirtual 254, 3, 203, 0, 0) from rfl) rfl (by decide) rfl (by rw [E.1, E.2.1, E.2.2.1]; exact k_skipWord G Is390 (by omega)) ⟨by rw [E.2.2.2]; exact (show (rmN 203).frames + 1 ≤ (rmN 213).frames by decide), by rw [E.2.2.2]; exact (show 8 + (mNL (miB 203) + 11) + (rmN 203).locals ≤ (rmN 213).locals by decide), by rw [E.2.2.2]; exact (show 0 + (rmN 203).cells ≤ (rmN 213).cells by decide), by rw [E.2.2.2]; exact (show 0 + (rmN 203).slots ≤ (rmN 213).slots by decide)⟩ (Nat.le_of_ble_eq_true rfl) (fun vv s395 hq => ?_) (fun ee s395 hq => ?_)
              rotate_left
              · obtain ⟨Is395, Fs395, hv, hps395⟩ := hq; cases hv
              obtain ⟨Is395, Fs395, hv, hps395⟩ := hq
              cases hv
              have Gs395 := fm_ts Gs390 Fs395 (by decide) (by decide)
              have b397 : (0 : Int) ≤ iI s395 77 ∧ iI s395 77 ≤ 400 := Is395.1 77
              have ws395_75 : iI s395 75 = iI s390 75 := fm_i Fs395 (by decide)
              have ws395_79 : iI s395 79 = iI s390 79 := fm_i Fs395 (by decide)
              have ws395_78 : iI s395 78 = iI s390 78 := fm_i Fs395 (by decide)
              have ws395_86 : iI s395 86 = iI s390 86 := fm_i Fs395 (by decide)
              have ws395_87 : iI s395 87 = iI s390 87 := fm_i Fs395 (by decide)
              have ws395_88 : iI s395 88 = iI s390 88 := fm_i Fs395 (by decide)
              show WS k 99 [(3, .int (Int32.ofInt 1)), (2, .int (Int32.ofInt 0)), (1, .int (Int32.ofInt e9)), (0, .ref (A 179))] [] (Wd A dT s395) 0 0
              refine z_load_n X (x := 0) (show cdA 213 99 = some (.iload_n 2, 1, 0, 0, 0) from rfl) (List.Mem.tail _ (List.Mem.head _)) ?_
              refine z_if_eq X (t := 119) (show cdA 213 100 = some (.ifCond .eq 19, 3, 0, 0, 0) from rfl) (by decide) ⟨by omega, by omega⟩ (fun g398 => ?_) (fun g398 => ?_)
              ·
                refine z_aload_n X (x := A 179) (show cdA 213 119 = some (.aload_n 0, 1, 0, 0, 0) from rfl) (List.Mem.tail _ (List.Mem.tail _ (List.Mem.tail _ (List.Mem.head _)))) ?_
                refine s_getR X 179 (show cdA 213 120 = some (.getfield 29, 3, 12, 20, 0) from rfl) (by decide) rfl rfl ?_
                refine z_aload_n X (x := A 179) (show cdA 213 123 = some (.aload_n 0, 1, 0, 0, 0) from rfl) (List.Mem.tail _ (List.Mem.tail _ (List.Mem.tail _ (List.Mem.head _)))) ?_
                refine z_getI X 179 (show cdA 213 124 = some (.getfield 288, 3, 12, 17, 0) from rfl) (by decide) rfl rfl ?_
                have b399 : (0 : Int) ≤ iI s395 87 ∧ iI s395 87 ≤ 8 := Is395.1 87
                refine z_aload_n X (x := A 179) (show cdA 213 127 = some (.aload_n 0, 1, 0, 0, 0) from rfl) (List.Mem.tail _ (List.Mem.tail _ (List.Mem.tail _ (List.Mem.head _)))) ?_
                refine z_getI X 179 (show cdA 213 128 = some (.getfield 184, 3, 12, 4, 0) from rfl) (by decide) rfl rfl ?_
                have b400 : (0 : Int) ≤ iI s395 77 ∧ iI s395 77 ≤ 400 := Is395.1 77
                refine z_ast X 183 (show cdA 213 131 = some (.iastore, 1, 0, 0, 0) from rfl) (by decide) rfl (by omega) (show (iI s395 87) < 8 by omega) (by decide) ?_
                obtain ⟨s401, hs401⟩ : ∃ x0, x0 = uC s395 160 ((iI s395 87)).toNat (Int32.ofInt (iI s395 77)) := ⟨_, rfl⟩
                rw [← hs401]
                have Is401 : Bd s401 := by rw [hs401]; exact bd_C Is395 (show (0 : Int) ≤ (iI s395 77) ∧ (iI s395 77) ≤ 200 by omega) ⟨by omega, by omega⟩
                have Fs401 := fm_C (i := ((iI s395 87)).toNat) (x := Int32.ofInt (iI s395 77)) Gs395 (show 160 ∈ _ by decide)
                rw [← hs401] at Fs401
                have ws401_77 : iI s401 77 = iI s395 77 := by rw [hs401]; rfl
                have ws401_75 : iI s401 75 = iI s395 75 := by rw [hs401]; rfl
                have ws401_79 : iI s401 79 = iI s395 79 := by rw [hs401]; rfl
                have ws401_78 : iI s401 78 = iI s395 78 := by rw [hs401]; rfl
                have ws401_86 : iI s401 86 = iI s395 86 := by rw [hs401]; rfl
                have ws401_87 : iI s401 87 = iI s395 87 := by rw [hs401]; rfl
                have ws401_88 : iI s401 88 = iI s395 88 := by rw [hs401]; rfl
                refine z_aload_n X (x := A 179) (show cdA 213 132 = some (.aload_n 0, 1, 0, 0, 0) from rfl) (List.Mem.tail _ (List.Mem.tail _ (List.Mem.tail _ (List.Mem.head _)))) ?_
                refine w_dup X.1 (ax_d X (show cdA 213 133 = some (.dup, 1, 0, 0, 0) from rfl)) rfl ?_
                refine z_getI X 179 (show cdA 213 134 = some (.getfield 288, 3, 12, 17, 0) from rfl) (by decide) rfl rfl ?_
                have b402 : (0 : Int) ≤ iI s401 87 ∧ iI s401 87 ≤ 8 := Is401.1 87
                refine z_const X (show cdA 213 137 = some (.iconst 1, 1, 0, 0, 0) from rfl) ?_
                refine z_add X (show cdA 213 138 = some (.iadd, 1, 0, 0, 0) from rfl) ?_
                refine s_putI X 179 (show cdA 213 139 = some (.putfield 288, 3, 12, 17, 0) from rfl) (by decide) rfl rfl (by decide) rfl rfl rfl ?_
                obtain ⟨s403, hs403⟩ : ∃ x0, x0 = uI s401 87 (Int32.ofInt ((iI s401 87) + 1)) := ⟨_, rfl⟩
                rw [← hs403]
                have Is403 : Bd s403 := by rw [hs403]; exact bd_I Is401 (show (0 : Int) ≤ ((iI s401 87) + 1) ∧ ((iI s401 87) + 1) ≤ 8 by omega) ⟨by omega, by omega⟩
                have Fs403 := fm_I (x := Int32.ofInt ((iI s401 87) + 1)) Fs401 (show 87 ∈ _ by decide)
                rw [← hs403] at Fs403
                have vs403 : iI s403 87 = ((iI s401 87) + 1) := by rw [hs403]; exact iI_u ⟨by omega, by omega⟩
                have ws403_77 : iI s403 77 = iI s401 77 := by rw [hs403]; rfl
                have ws403_75 : iI s403 75 = iI s401 75 := by rw [hs403]; rfl
                have ws403_79 : iI s403 79 = iI s401 79 := by rw [hs403]; rfl
                have ws403_78 : iI s403 78 = iI s401 78 := by rw [hs403]; rfl
                have ws403_86 : iI s403 86 = iI s401 86 := by rw [hs403]; rfl
                have ws403_88 : iI s403 88 = iI s401 88 := by rw [hs403]; rfl
                refine z_aload_n X (x := A 179) (show cdA 213 142 = some (.aload_n 0, 1, 0, 0, 0) from rfl) (List.Mem.tail _ (List.Mem.tail _ (List.Mem.tail _ (List.Mem.head _)))) ?_
                refine z_callV X 179 (rm := rmN 212) (As := []) (st := []) (show cdA 213 143 = some (.invokevirtual 276, 3, 212, 0, 0) from rfl) rfl (by decide) rfl (by rw [E.1, E.2.1, E.2.2.1]; exact k_ors G Is403 (by omega) (by omega) (by omega) (by omega)) ⟨by rw [E.2.2.2]; exact (show (rmN 212).frames + 1 ≤ (rmN 213).frames by decide), by rw [E.2.2.2]; exact (show 8 + (mNL (miB 212) + 11) + (rmN 212).locals ≤ (rmN 213).locals by decide), by rw [E.2.2.2]; exact (show 0 + (rmN 212).cells ≤ (rmN 213).cells by decide), by rw [E.2.2.2]; exact (show 0 + (rmN 212).slots ≤ (rmN 213).slots by decide)⟩ (Nat.le_of_ble_eq_true rfl) (fun vv s404 hq => ?_) (fun ee s404 hq => ?_)
                rotate_left
                · obtain ⟨Is404, Fs404, e405, hv, hrs404, hps404⟩ := hq; cases hv
                obtain ⟨Is404, Fs404, e405, hv, hrs404, hps404⟩ := hq
                cases hv
                have Gs404 := fm_ts Fs403 Fs404 (by decide) (by decide)
                have b406 : (0 : Int) ≤ iI s404 77 ∧ iI s404 77 ≤ 400 := Is404.1 77
                have ws404_75 : iI s404 75 = iI s403 75 := fm_i Fs404 (by decide)
                have b407 : (0 : Int) ≤ iI s404 79 ∧ iI s404 79 ≤ 9 := Is404.1 79
                have b408 : (0 : Int) ≤ iI s404 78 ∧ iI s404 78 ≤ 8 := Is404.1 78
                have ws404_86 : iI s404 86 = iI s403 86 := fm_i Fs404 (by decide)
                have ws404_87 : iI s404 87 = iI s403 87 := fm_i Fs404 (by decide)
                have ws404_88 : iI s404 88 = iI s403 88 := fm_i Fs404 (by decide)
                show WS k 146 [(3, .int (Int32.ofInt 1)), (2, .int (Int32.ofInt 0)), (1, .int (Int32.ofInt e9)), (0, .ref (A 179))] [.int (Int32.ofInt e405)] (Wd A dT s404) 0 0
                refine w_pop X.1 (ax_d X (show cdA 213 146 = some (.pop, 1, 0, 0, 0) from rfl)) rfl ?_
                refine z_aload_n X (x := A 179) (show cdA 213 147 = some (.aload_n 0, 1, 0, 0, 0) from rfl) (List.Mem.tail _ (List.Mem.tail _ (List.Mem.tail _ (List.Mem.head _)))) ?_
                refine z_getI X 179 (show cdA 213 148 = some (.getfield 191, 3, 12, 6, 0) from rfl) (by decide) rfl rfl ?_
                have b409 : (0 : Int) ≤ iI s404 79 ∧ iI s404 79 ≤ 9 := Is404.1 79
                refine z_if_ne X (t := 160) (show cdA 213 151 = some (.ifCond .ne 9, 3, 1, 0, 0) from rfl) (by decide) ⟨by omega, by omega⟩ (fun g410 => ?_) (fun g410 => ?_)
                ·
                  refine z_aload_n X (x := A 179) (show cdA 213 160 = some (.aload_n 0, 1, 0, 0, 0) from rfl) (List.Mem.tail _ (List.Mem.tail _ (List.Mem.tail _ (List.Mem.head _)))) ?_
                  refine w_dup X.1 (ax_d X (show cdA 213 161 = some (.dup, 1, 0, 0, 0) from rfl)) rfl ?_
                  refine z_getI X 179 (show cdA 213 162 = some (.getfield 282, 3, 12, 16, 0) from rfl) (by decide) rfl rfl ?_
                  have b411 : (0 : Int) ≤ iI s404 86 ∧ iI s404 86 ≤ 8 := Is404.1 86
                  refine z_const X (show cdA 213 165 = some (.iconst 1, 1, 0, 0, 0) from rfl) ?_
                  refine z_add X (show cdA 213 166 = some (.iadd, 1, 0, 0, 0) from rfl) ?_
                  refine s_putI X 179 (show cdA 213 167 = some (.putfield 282, 3, 12, 16, 0) from rfl) (by decide) rfl rfl (by decide) rfl rfl rfl ?_
                  obtain ⟨s412, hs412⟩ : ∃ x0, x0 = uI s404 86 (Int32.ofInt ((iI s404 86) + 1)) := ⟨_, rfl⟩
                  rw [← hs412]
                  have Is412 : Bd s412 := by rw [hs412]; exact bd_I Is404 (show (0 : Int) ≤ ((iI s404 86) + 1) ∧ ((iI s404 86) + 1) ≤ 8 by omega) ⟨by omega, by omega⟩
                  have Fs412 := fm_I (x := Int32.ofInt ((iI s404 86) + 1)) Gs404 (show 86 ∈ _ by decide)
                  rw [← hs412] at Fs412
                  have vs412 : iI s412 86 = ((iI s404 86) + 1) := by rw [hs412]; exact iI_u ⟨by omega, by omega⟩
                  have ws412_77 : iI s412 77 = iI s404 77 := by rw [hs412]; rfl
                  have ws412_75 : iI s412 75 = iI s404 75 := by rw [hs412]; rfl
                  have ws412_79 : iI s412 79 = iI s404 79 := by rw [hs412]; rfl
                  have ws412_78 : iI s412 78 = iI s404 78 := by rw [hs412]; rfl
                  have ws412_87 : iI s412 87 = iI s404 87 := by rw [hs412]; rfl
                  have ws412_88 : iI s412 88 = iI s404 88 := by rw [hs412]; rfl
                  exact w_vret X.1 q hRt (ax_d X (show cdA 213 170 = some (.return_, 1, 0, 0, 0) from rfl)) (Nat.zero_le _) (Nat.zero_le _) ⟨_, rfl, Is412, Fs412, rfl, by omega⟩
                ·
                  refine z_aload_n X (x := A 179) (show cdA 213 154 = some (.aload_n 0, 1, 0, 0, 0) from rfl) (List.Mem.tail _ (List.Mem.tail _ (List.Mem.tail _ (List.Mem.head _)))) ?_
                  refine z_bipush X (show cdA 213 155 = some (.bipush 59, 2, 0, 0, 59) from rfl) ?_
                  refine z_callV X 179 (rm := rmN 204) (As := [.int (Int32.ofInt 59)]) (st := []) (show cdA 213 157 = some (.invokevirtual 263, 3, 204, 0, 0) from rfl) rfl (by decide) rfl (by rw [E.1, E.2.1, E.2.2.1]; exact k_sign G Is404 (by omega) (by omega)) ⟨by rw [E.2.2.2]; exact (show (rmN 204).frames + 1 ≤ (rmN 213).frames by decide), by rw [E.2.2.2]; exact (show 8 + (mNL (miB 204) + 11) + (rmN 204).locals ≤ (rmN 213).locals by decide), by rw [E.2.2.2]; exact (show 0 + (rmN 204).cells ≤ (rmN 213).cells by decide), by rw [E.2.2.2]; exact (show 0 + (rmN 204).slots ≤ (rmN 213).slots by decide)⟩ (Nat.le_of_ble_eq_true rfl) (fun vv s413 hq => ?_) (fun ee s413 hq => ?_)
                  rotate_left
                  · obtain ⟨Is413, Fs413, hv, hps413⟩ := hq; cases hv
                  obtain ⟨Is413, Fs413, hv, hps413⟩ := hq
                  cases hv
                  have Gs413 := fm_ts Gs404 Fs413 (by decide) (by decide)
                  have b415 : (0 : Int) ≤ iI s413 77 ∧ iI s413 77 ≤ 400 := Is413.1 77
                  have ws413_75 : iI s413 75 = iI s404 75 := fm_i Fs413 (by decide)
                  have b416 : (0 : Int) ≤ iI s413 79 ∧ iI s413 79 ≤ 9 := Is413.1 79
                  have ws413_78 : iI s413 78 = iI s404 78 := fm_i Fs413 (by decide)
                  have ws413_86 : iI s413 86 = iI s404 86 := fm_i Fs413 (by decide)
                  have ws413_87 : iI s413 87 = iI s404 87 := fm_i Fs413 (by decide)
                  have ws413_88 : iI s413 88 = iI s404 88 := fm_i Fs413 (by decide)
                  show WS k 160 [(3, .int (Int32.ofInt 1)), (2, .int (Int32.ofInt 0)), (1, .int (Int32.ofInt e9)), (0, .ref (A 179))] [] (Wd A dT s413) 0 0
                  refine z_aload_n X (x := A 179) (show cdA 213 160 = some (.aload_n 0, 1, 0, 0, 0) from rfl) (List.Mem.tail _ (List.Mem.tail _ (List.Mem.tail _ (List.Mem.head _)))) ?_
                  refine w_dup X.1 (ax_d X (show cdA 213 161 = some (.dup, 1, 0, 0, 0) from rfl)) rfl ?_
                  refine z_getI X 179 (show cdA 213 162 = some (.getfield 282, 3, 12, 16, 0) from rfl) (by decide) rfl rfl ?_
                  have b417 : (0 : Int) ≤ iI s413 86 ∧ iI s413 86 ≤ 8 := Is413.1 86
                  refine z_const X (show cdA 213 165 = some (.iconst 1, 1, 0, 0, 0) from rfl) ?_
                  refine z_add X (show cdA 213 166 = some (.iadd, 1, 0, 0, 0) from rfl) ?_
                  refine s_putI X 179 (show cdA 213 167 = some (.putfield 282, 3, 12, 16, 0) from rfl) (by decide) rfl rfl (by decide) rfl rfl rfl ?_
                  obtain ⟨s418, hs418⟩ : ∃ x0, x0 = uI s413 86 (Int32.ofInt ((iI s413 86) + 1)) := ⟨_, rfl⟩
                  rw [← hs418]
                  have Is418 : Bd s418 := by rw [hs418]; exact bd_I Is413 (show (0 : Int) ≤ ((iI s413 86) + 1) ∧ ((iI s413 86) + 1) ≤ 8 by omega) ⟨by omega, by omega⟩
                  have Fs418 := fm_I (x := Int32.ofInt ((iI s413 86) + 1)) Gs413 (show 86 ∈ _ by decide)
                  rw [← hs418] at Fs418
                  have vs418 : iI s418 86 = ((iI s413 86) + 1) := by rw [hs418]; exact iI_u ⟨by omega, by omega⟩
                  have ws418_77 : iI s418 77 = iI s413 77 := by rw [hs418]; rfl
                  have ws418_75 : iI s418 75 = iI s413 75 := by rw [hs418]; rfl
                  have ws418_79 : iI s418 79 = iI s413 79 := by rw [hs418]; rfl
                  have ws418_78 : iI s418 78 = iI s413 78 := by rw [hs418]; rfl
                  have ws418_87 : iI s418 87 = iI s413 87 := by rw [hs418]; rfl
                  have ws418_88 : iI s418 88 = iI s413 88 := by rw [hs418]; rfl
                  exact w_vret X.1 q hRt (ax_d X (show cdA 213 170 = some (.return_, 1, 0, 0, 0) from rfl)) (Nat.zero_le _) (Nat.zero_le _) ⟨_, rfl, Is418, Fs418, rfl, by omega⟩
              ·
                refine z_aload_n X (x := A 179) (show cdA 213 103 = some (.aload_n 0, 1, 0, 0, 0) from rfl) (List.Mem.tail _ (List.Mem.tail _ (List.Mem.tail _ (List.Mem.head _)))) ?_
                refine z_aload_n X (x := A 179) (show cdA 213 104 = some (.aload_n 0, 1, 0, 0, 0) from rfl) (List.Mem.tail _ (List.Mem.tail _ (List.Mem.tail _ (List.Mem.head _)))) ?_
                refine z_getI X 179 (show cdA 213 105 = some (.getfield 184, 3, 12, 4, 0) from rfl) (by decide) rfl rfl ?_
                have b419 : (0 : Int) ≤ iI s395 77 ∧ iI s395 77 ≤ 400 := Is395.1 77
                refine s_putI X 179 (show cdA 213 108 = some (.putfield 285, 3, 12, 18, 0) from rfl) (by decide) rfl rfl (by decide) rfl rfl rfl ?_
                obtain ⟨s420, hs420⟩ : ∃ x0, x0 = uI s395 88 (Int32.ofInt (iI s395 77)) := ⟨_, rfl⟩
                rw [← hs420]
                have Is420 : Bd s420 := by rw [hs420]; exact bd_I Is395 (show ((-1) : Int) ≤ (iI s395 77) ∧ (iI s395 77) ≤ 200 by omega) ⟨by omega, by omega⟩
                have Fs420 := fm_I (x := Int32.ofInt (iI s395 77)) Gs395 (show 88 ∈ _ by decide)
                rw [← hs420] at Fs420
                have vs420 : iI s420 88 = (iI s395 77) := by rw [hs420]; exact iI_u ⟨by omega, by omega⟩
                have ws420_77 : iI s420 77 = iI s395 77 := by rw [hs420]; rfl
                have ws420_75 : iI s420 75 = iI s395 75 := by rw [hs420]; rfl
                have ws420_79 : iI s420 79 = iI s395 79 := by rw [hs420]; rfl
                have ws420_78 : iI s420 78 = iI s395 78 := by rw [hs420]; rfl
                have ws420_86 : iI s420 86 = iI s395 86 := by rw [hs420]; rfl
                have ws420_87 : iI s420 87 = iI s395 87 := by rw [hs420]; rfl
                refine z_aload_n X (x := A 179) (show cdA 213 111 = some (.aload_n 0, 1, 0, 0, 0) from rfl) (List.Mem.tail _ (List.Mem.tail _ (List.Mem.tail _ (List.Mem.head _)))) ?_
                refine z_callV X 179 (rm := rmN 209) (As := []) (st := []) (show cdA 213 112 = some (.invokevirtual 260, 3, 209, 0, 0) from rfl) rfl (by decide) rfl (by rw [E.1, E.2.1, E.2.2.1]; exact k_sum G Is420 (by omega) (by omega) (by omega)) ⟨by rw [E.2.2.2]; exact (show (rmN 209).frames + 1 ≤ (rmN 213).frames by decide), by rw [E.2.2.2]; exact (show 8 + (mNL (miB 209) + 11) + (rmN 209).locals ≤ (rmN 213).locals by decide), by rw [E.2.2.2]; exact (show 0 + (rmN 209).cells ≤ (rmN 213).cells by decide), by rw [E.2.2.2]; exact (show 0 + (rmN 209).slots ≤ (rmN 213).slots by decide)⟩ (Nat.le_of_ble_eq_true rfl) (fun vv s421 hq => ?_) (fun ee s421 hq => ?_)
                rotate_left
                · obtain ⟨Is421, Fs421, e422, hv, hrs421, hps421⟩ := hq; cases hv
                obtain ⟨Is421, Fs421, e422, hv, hrs421, hps421⟩ := hq
                cases hv
                have Gs421 := fm_ts Fs420 Fs421 (by decide) (by decide)
                have b423 : (0 : Int) ≤ iI s421 77 ∧ iI s421 77 ≤ 400 := Is421.1 77
                have ws421_75 : iI s421 75 = iI s420 75 := fm_i Fs421 (by decide)
                have b424 : (0 : Int) ≤ iI s421 79 ∧ iI s421 79 ≤ 9 := Is421.1 79
                have b425 : (0 : Int) ≤ iI s421 78 ∧ iI s421 78 ≤ 8 := Is421.1 78
                have ws421_86 : iI s421 86 = iI s420 86 := fm_i Fs421 (by decide)
                have ws421_87 : iI s421 87 = iI s420 87 := fm_i Fs421 (by decide)
                have ws421_88 : iI s421 88 = iI s420 88 := fm_i Fs421 (by decide)
                show WS k 115 [(3, .int (Int32.ofInt 1)), (2, .int (Int32.ofInt 0)), (1, .int (Int32.ofInt e9)), (0, .ref (A 179))] [.int (Int32.ofInt e422)] (Wd A dT s421) 0 0
                refine w_pop X.1 (ax_d X (show cdA 213 115 = some (.pop, 1, 0, 0, 0) from rfl)) rfl ?_
                refine z_goto X (t := 147) (show cdA 213 116 = some (.goto 31, 3, 0, 0, 0) from rfl) (by decide) ?_
                refine z_aload_n X (x := A 179) (show cdA 213 147 = some (.aload_n 0, 1, 0, 0, 0) from rfl) (List.Mem.tail _ (List.Mem.tail _ (List.Mem.tail _ (List.Mem.head _)))) ?_
                refine z_getI X 179 (show cdA 213 148 = some (.getfield 191, 3, 12, 6, 0) from rfl) (by decide) rfl rfl ?_
                have b426 : (0 : Int) ≤ iI s421 79 ∧ iI s421 79 ≤ 9 := Is421.1 79
                refine z_if_ne X (t := 160) (show cdA 213 151 = some (.ifCond .ne 9, 3, 1, 0, 0) from rfl) (by decide) ⟨by omega, by omega⟩ (fun g427 => ?_) (fun g427 => ?_)
                ·
                  refine z_aload_n X (x := A 179) (show cdA 213 160 = some (.aload_n 0, 1, 0, 0, 0) from rfl) (List.Mem.tail _ (List.Mem.tail _ (List.Mem.tail _ (List.Mem.head _)))) ?_
                  refine w_dup X.1 (ax_d X (show cdA 213 161 = some (.dup, 1, 0, 0, 0) from rfl)) rfl ?_
                  refine z_getI X 179 (show cdA 213 162 = some (.getfield 282, 3, 12, 16, 0) from rfl) (by decide) rfl rfl ?_
                  have b428 : (0 : Int) ≤ iI s421 86 ∧ iI s421 86 ≤ 8 := Is421.1 86
                  refine z_const X (show cdA 213 165 = some (.iconst 1, 1, 0, 0, 0) from rfl) ?_
                  refine z_add X (show cdA 213 166 = some (.iadd, 1, 0, 0, 0) from rfl) ?_
                  refine s_putI X 179 (show cdA 213 167 = some (.putfield 282, 3, 12, 16, 0) from rfl) (by decide) rfl rfl (by decide) rfl rfl rfl ?_
                  obtain ⟨s429, hs429⟩ : ∃ x0, x0 = uI s421 86 (Int32.ofInt ((iI s421 86) + 1)) := ⟨_, rfl⟩
                  rw [← hs429]
                  have Is429 : Bd s429 := by rw [hs429]; exact bd_I Is421 (show (0 : Int) ≤ ((iI s421 86) + 1) ∧ ((iI s421 86) + 1) ≤ 8 by omega) ⟨by omega, by omega⟩
                  have Fs429 := fm_I (x := Int32.ofInt ((iI s421 86) + 1)) Gs421 (show 86 ∈ _ by decide)
                  rw [← hs429] at Fs429
                  have vs429 : iI s429 86 = ((iI s421 86) + 1) := by rw [hs429]; exact iI_u ⟨by omega, by omega⟩
                  have ws429_77 : iI s429 77 = iI s421 77 := by rw [hs429]; rfl
                  have ws429_75 : iI s429 75 = iI s421 75 := by rw [hs429]; rfl
                  have ws429_79 : iI s429 79 = iI s421 79 := by rw [hs429]; rfl
                  have ws429_78 : iI s429 78 = iI s421 78 := by rw [hs429]; rfl
                  have ws429_87 : iI s429 87 = iI s421 87 := by rw [hs429]; rfl
                  have ws429_88 : iI s429 88 = iI s421 88 := by rw [hs429]; rfl
                  exact w_vret X.1 q hRt (ax_d X (show cdA 213 170 = some (.return_, 1, 0, 0, 0) from rfl)) (Nat.zero_le _) (Nat.zero_le _) ⟨_, rfl, Is429, Fs429, rfl, by omega⟩
                ·
                  refine z_aload_n X (x := A 179) (show cdA 213 154 = some (.aload_n 0, 1, 0, 0, 0) from rfl) (List.Mem.tail _ (List.Mem.tail _ (List.Mem.tail _ (List.Mem.head _)))) ?_
                  refine z_bipush X (show cdA 213 155 = some (.bipush 59, 2, 0, 0, 59) from rfl) ?_
                  refine z_callV X 179 (rm := rmN 204) (As := [.int (Int32.ofInt 59)]) (st := []) (show cdA 213 157 = some (.invokevirtual 263, 3, 204, 0, 0) from rfl) rfl (by decide) rfl (by rw [E.1, E.2.1, E.2.2.1]; exact k_sign G Is421 (by omega) (by omega)) ⟨by rw [E.2.2.2]; exact (show (rmN 204).frames + 1 ≤ (rmN 213).frames by decide), by rw [E.2.2.2]; exact (show 8 + (mNL (miB 204) + 11) + (rmN 204).locals ≤ (rmN 213).locals by decide), by rw [E.2.2.2]; exact (show 0 + (rmN 204).cells ≤ (rmN 213).cells by decide), by rw [E.2.2.2]; exact (show 0 + (rmN 204).slots ≤ (rmN 213).slots by decide)⟩ (Nat.le_of_ble_eq_true rfl) (fun vv s430 hq => ?_) (fun ee s430 hq => ?_)
                  rotate_left
                  · obtain ⟨Is430, Fs430, hv, hps430⟩ := hq; cases hv
                  obtain ⟨Is430, Fs430, hv, hps430⟩ := hq
                  cases hv
                  have Gs430 := fm_ts Gs421 Fs430 (by decide) (by decide)
                  have b432 : (0 : Int) ≤ iI s430 77 ∧ iI s430 77 ≤ 400 := Is430.1 77
                  have ws430_75 : iI s430 75 = iI s421 75 := fm_i Fs430 (by decide)
                  have b433 : (0 : Int) ≤ iI s430 79 ∧ iI s430 79 ≤ 9 := Is430.1 79
                  have ws430_78 : iI s430 78 = iI s421 78 := fm_i Fs430 (by decide)
                  have ws430_86 : iI s430 86 = iI s421 86 := fm_i Fs430 (by decide)
                  have ws430_87 : iI s430 87 = iI s421 87 := fm_i Fs430 (by decide)
                  have ws430_88 : iI s430 88 = iI s421 88 := fm_i Fs430 (by decide)
                  show WS k 160 [(3, .int (Int32.ofInt 1)), (2, .int (Int32.ofInt 0)), (1, .int (Int32.ofInt e9)), (0, .ref (A 179))] [] (Wd A dT s430) 0 0
                  refine z_aload_n X (x := A 179) (show cdA 213 160 = some (.aload_n 0, 1, 0, 0, 0) from rfl) (List.Mem.tail _ (List.Mem.tail _ (List.Mem.tail _ (List.Mem.head _)))) ?_
                  refine w_dup X.1 (ax_d X (show cdA 213 161 = some (.dup, 1, 0, 0, 0) from rfl)) rfl ?_
                  refine z_getI X 179 (show cdA 213 162 = some (.getfield 282, 3, 12, 16, 0) from rfl) (by decide) rfl rfl ?_
                  have b434 : (0 : Int) ≤ iI s430 86 ∧ iI s430 86 ≤ 8 := Is430.1 86
                  refine z_const X (show cdA 213 165 = some (.iconst 1, 1, 0, 0, 0) from rfl) ?_
                  refine z_add X (show cdA 213 166 = some (.iadd, 1, 0, 0, 0) from rfl) ?_
                  refine s_putI X 179 (show cdA 213 167 = some (.putfield 282, 3, 12, 16, 0) from rfl) (by decide) rfl rfl (by decide) rfl rfl rfl ?_
                  obtain ⟨s435, hs435⟩ : ∃ x0, x0 = uI s430 86 (Int32.ofInt ((iI s430 86) + 1)) := ⟨_, rfl⟩
                  rw [← hs435]
                  have Is435 : Bd s435 := by rw [hs435]; exact bd_I Is430 (show (0 : Int) ≤ ((iI s430 86) + 1) ∧ ((iI s430 86) + 1) ≤ 8 by omega) ⟨by omega, by omega⟩
                  have Fs435 := fm_I (x := Int32.ofInt ((iI s430 86) + 1)) Gs430 (show 86 ∈ _ by decide)
                  rw [← hs435] at Fs435
                  have vs435 : iI s435 86 = ((iI s430 86) + 1) := by rw [hs435]; exact iI_u ⟨by omega, by omega⟩
                  have ws435_77 : iI s435 77 = iI s430 77 := by rw [hs435]; rfl
                  have ws435_75 : iI s435 75 = iI s430 75 := by rw [hs435]; rfl
                  have ws435_79 : iI s435 79 = iI s430 79 := by rw [hs435]; rfl
                  have ws435_78 : iI s435 78 = iI s430 78 := by rw [hs435]; rfl
                  have ws435_87 : iI s435 87 = iI s430 87 := by rw [hs435]; rfl
                  have ws435_88 : iI s435 88 = iI s430 88 := by rw [hs435]; rfl
                  exact w_vret X.1 q hRt (ax_d X (show cdA 213 170 = some (.return_, 1, 0, 0, 0) from rfl)) (Nat.zero_le _) (Nat.zero_le _) ⟨_, rfl, Is435, Fs435, rfl, by omega⟩
            ·
              exact w_vret X.1 q hRt (ax_d X (show cdA 213 94 = some (.return_, 1, 0, 0, 0) from rfl)) (Nat.zero_le _) (Nat.zero_le _) ⟨_, rfl, Is390, Gs390, rfl, by omega⟩
        ·
          refine z_aload_n X (x := A 179) (show cdA 213 57 = some (.aload_n 0, 1, 0, 0, 0) from rfl) (List.Mem.tail _ (List.Mem.tail _ (List.Mem.tail _ (List.Mem.head _)))) ?_
          refine z_const X (show cdA 213 58 = some (.iconst 1, 1, 0, 0, 0) from rfl) ?_
          refine z_aload_n X (x := A 179) (show cdA 213 59 = some (.aload_n 0, 1, 0, 0, 0) from rfl) (List.Mem.tail _ (List.Mem.tail _ (List.Mem.tail _ (List.Mem.head _)))) ?_
          refine z_getI X 179 (show cdA 213 60 = some (.getfield 184, 3, 12, 4, 0) from rfl) (by decide) rfl rfl ?_
          have b436 : (0 : Int) ≤ iI s14 77 ∧ iI s14 77 ≤ 400 := Is14.1 77
          refine z_callV X 179 (rm := rmN 194) (As := [.int (Int32.ofInt 1), .int (Int32.ofInt (iI s14 77))]) (st := []) (show cdA 213 63 = some (.invokevirtual 204, 3, 194, 0, 0) from rfl) rfl (by decide) rfl (by rw [E.1, E.2.1, E.2.2.1]; exact k_wrong G Is14 (by omega) (by omega)) ⟨by rw [E.2.2.2]; exact (show (rmN 194).frames + 1 ≤ (rmN 213).frames by decide), by rw [E.2.2.2]; exact (show 8 + (mNL (miB 194) + 11) + (rmN 194).locals ≤ (rmN 213).locals by decide), by rw [E.2.2.2]; exact (show 0 + (rmN 194).cells ≤ (rmN 213).cells by decide), by rw [E.2.2.2]; exact (show 0 + (rmN 194).slots ≤ (rmN 213).slots by decide)⟩ (Nat.le_of_ble_eq_true rfl) (fun vv s437 hq => ?_) (fun ee s437 hq => ?_)
          rotate_left
          · obtain ⟨Is437, Fs437, hv, hps437⟩ := hq; cases hv
          obtain ⟨Is437, Fs437, hv, hps437⟩ := hq
          cases hv
          have Gs437 := fm_ts Gs14 Fs437 (by decide) (by decide)
          have ws437_77 : iI s437 77 = iI s14 77 := fm_i Fs437 (by decide)
          have ws437_75 : iI s437 75 = iI s14 75 := fm_i Fs437 (by decide)
          have b439 : (0 : Int) ≤ iI s437 79 ∧ iI s437 79 ≤ 9 := Is437.1 79
          have ws437_78 : iI s437 78 = iI s14 78 := fm_i Fs437 (by decide)
          have ws437_86 : iI s437 86 = iI s14 86 := fm_i Fs437 (by decide)
          have ws437_87 : iI s437 87 = iI s14 87 := fm_i Fs437 (by decide)
          have ws437_88 : iI s437 88 = iI s14 88 := fm_i Fs437 (by decide)
          show WS k 66 [(3, .int (Int32.ofInt 1)), (2, .int (Int32.ofInt 0)), (1, .int (Int32.ofInt e9)), (0, .ref (A 179))] [] (Wd A dT s437) 0 0
          refine z_goto X (t := 87) (show cdA 213 66 = some (.goto 21, 3, 0, 0, 0) from rfl) (by decide) ?_
          refine z_aload_n X (x := A 179) (show cdA 213 87 = some (.aload_n 0, 1, 0, 0, 0) from rfl) (List.Mem.tail _ (List.Mem.tail _ (List.Mem.tail _ (List.Mem.head _)))) ?_
          refine z_getI X 179 (show cdA 213 88 = some (.getfield 191, 3, 12, 6, 0) from rfl) (by decide) rfl rfl ?_
          have b440 : (0 : Int) ≤ iI s437 79 ∧ iI s437 79 ≤ 9 := Is437.1 79
          refine z_if_eq X (t := 95) (show cdA 213 91 = some (.ifCond .eq 4, 3, 0, 0, 0) from rfl) (by decide) ⟨by omega, by omega⟩ (fun g441 => ?_) (fun g441 => ?_)
          ·
            refine z_aload_n X (x := A 179) (show cdA 213 95 = some (.aload_n 0, 1, 0, 0, 0) from rfl) (List.Mem.tail _ (List.Mem.tail _ (List.Mem.tail _ (List.Mem.head _)))) ?_
            refine z_callV X 179 (rm := rmN 203) (As := []) (st := []) (show cdA 213 96 = some (.invokevirtual 254, 3, 203, 0, 0) from rfl) rfl (by decide) rfl (by rw [E.1, E.2.1, E.2.2.1]; exact k_skipWord G Is437 (by omega)) ⟨by rw [E.2.2.2]; exact (show (rmN 203).frames + 1 ≤ (rmN 213).frames by decide), by rw [E.2.2.2]; exact (show 8 + (mNL (miB 203) + 11) + (rmN 203).locals ≤ (rmN 213).locals by decide), by rw [E.2.2.2]; exact (show 0 + (rmN 203).cells ≤ (rmN 213).cells by decide), by rw [E.2.2.2]; exact (show 0 + (rmN 203).slots ≤ (rmN 213).slots by decide)⟩ (Nat.le_of_ble_eq_true rfl) (fun vv s442 hq => ?_) (fun ee s442 hq => ?_)
            rotate_left
            · obtain ⟨Is442, Fs442, hv, hps442⟩ := hq; cases hv
            obtain ⟨Is442, Fs442, hv, hps442⟩ := hq
            cases hv
            have Gs442 := fm_ts Gs437 Fs442 (by decide) (by decide)
            have b444 : (0 : Int) ≤ iI s442 77 ∧ iI s442 77 ≤ 400 := Is442.1 77
            have ws442_75 : iI s442 75 = iI s437 75 := fm_i Fs442 (by decide)
            have ws442_79 : iI s442 79 = iI s437 79 := fm_i Fs442 (by decide)
            have ws442_78 : iI s442 78 = iI s437 78 := fm_i Fs442 (by decide)
            have ws442_86 : iI s442 86 = iI s437 86 := fm_i Fs442 (by decide)
            have ws442_87 : iI s442 87 = iI s437 87 := fm_i Fs442 (by decide)
            have ws442_88 : iI s442 88 = iI s437 88 := fm_i Fs442 (by decide)
            show WS k 99 [(3, .int (Int32.ofInt 1)), (2, .int (Int32.ofInt 0)), (1, .int (Int32.ofInt e9)), (0, .ref (A 179))] [] (Wd A dT s442) 0 0
            refine z_load_n X (x := 0) (show cdA 213 99 = some (.iload_n 2, 1, 0, 0, 0) from rfl) (List.Mem.tail _ (List.Mem.head _)) ?_
            refine z_if_eq X (t := 119) (show cdA 213 100 = some (.ifCond .eq 19, 3, 0, 0, 0) from rfl) (by decide) ⟨by omega, by omega⟩ (fun g445 => ?_) (fun g445 => ?_)
            ·
              refine z_aload_n X (x := A 179) (show cdA 213 119 = some (.aload_n 0, 1, 0, 0, 0) from rfl) (List.Mem.tail _ (List.Mem.tail _ (List.Mem.tail _ (List.Mem.head _)))) ?_
              refine s_getR X 179 (show cdA 213 120 = some (.getfield 29, 3, 12, 20, 0) from rfl) (by decide) rfl rfl ?_
              refine z_aload_n X (x := A 179) (show cdA 213 123 = some (.aload_n 0, 1, 0, 0, 0) from rfl) (List.Mem.tail _ (List.Mem.tail _ (List.Mem.tail _ (List.Mem.head _)))) ?_
              refine z_getI X 179 (show cdA 213 124 = some (.getfield 288, 3, 12, 17, 0) from rfl) (by decide) rfl rfl ?_
              have b446 : (0 : Int) ≤ iI s442 87 ∧ iI s442 87 ≤ 8 := Is442.1 87
              refine z_aload_n X (x := A 179) (show cdA 213 127 = some (.aload_n 0, 1, 0, 0, 0) from rfl) (List.Mem.tail _ (List.Mem.tail _ (List.Mem.tail _ (List.Mem.head _)))) ?_
              refine z_getI X 179 (show cdA 213 128 = some (.getfield 184, 3, 12, 4, 0) from rfl) (by decide) rfl rfl ?_
              have b447 : (0 : Int) ≤ iI s442 77 ∧ iI s442 77 ≤ 400 := Is442.1 77
              refine z_ast X 183 (show cdA 213 131 = some (.iastore, 1, 0, 0, 0) from rfl) (by decide) rfl (by omega) (show (iI s442 87) < 8 by omega) (by decide) ?_
              obtain ⟨s448, hs448⟩ : ∃ x0, x0 = uC s442 160 ((iI s442 87)).toNat (Int32.ofInt (iI s442 77)) := ⟨_, rfl⟩
              rw [← hs448]
              have Is448 : Bd s448 := by rw [hs448]; exact bd_C Is442 (show (0 : Int) ≤ (iI s442 77) ∧ (iI s442 77) ≤ 200 by omega) ⟨by omega, by omega⟩
              have Fs448 := fm_C (i := ((iI s442 87)).toNat) (x := Int32.ofInt (iI s442 77)) Gs442 (show 160 ∈ _ by decide)
              rw [← hs448] at Fs448
              have ws448_77 : iI s448 77 = iI s442 77 := by rw [hs448]; rfl
              have ws448_75 : iI s448 75 = iI s442 75 := by rw [hs448]; rfl
              have ws448_79 : iI s448 79 = iI s442 79 := by rw [hs448]; rfl
              have ws448_78 : iI s448 78 = iI s442 78 := by rw [hs448]; rfl
              have ws448_86 : iI s448 86 = iI s442 86 := by rw [hs448]; rfl
              have ws448_87 : iI s448 87 = iI s442 87 := by rw [hs448]; rfl
              have ws448_88 : iI s448 88 = iI s442 88 := by rw [hs448]; rfl
              refine z_aload_n X (x := A 179) (show cdA 213 132 = some (.aload_n 0, 1, 0, 0, 0) from rfl) (List.Mem.tail _ (List.Mem.tail _ (List.Mem.tail _ (List.Mem.head _)))) ?_
              refine w_dup X.1 (ax_d X (show cdA 213 133 = some (.dup, 1, 0, 0, 0) from rfl)) rfl ?_
              refine z_getI X 179 (show cdA 213 134 = some (.getfield 288, 3, 12, 17, 0) from rfl) (by decide) rfl rfl ?_
              have b449 : (0 : Int) ≤ iI s448 87 ∧ iI s448 87 ≤ 8 := Is448.1 87
              refine z_const X (show cdA 213 137 = some (.iconst 1, 1, 0, 0, 0) from rfl) ?_
              refine z_add X (show cdA 213 138 = some (.iadd, 1, 0, 0, 0) from rfl) ?_
              refine s_putI X 179 (show cdA 213 139 = some (.putfield 288, 3, 12, 17, 0) from rfl) (by decide) rfl rfl (by decide) rfl rfl rfl ?_
              obtain ⟨s450, hs450⟩ : ∃ x0, x0 = uI s448 87 (Int32.ofInt ((iI s448 87) + 1)) := ⟨_, rfl⟩
              rw [← hs450]
              have Is450 : Bd s450 := by rw [hs450]; exact bd_I Is448 (show (0 : Int) ≤ ((iI s448 87) + 1) ∧ ((iI s448 87) + 1) ≤ 8 by omega) ⟨by omega, by omega⟩
              have Fs450 := fm_I (x := Int32.ofInt ((iI s448 87) + 1)) Fs448 (show 87 ∈ _ by decide)
              rw [← hs450] at Fs450
              have vs450 : iI s450 87 = ((iI s448 87) + 1) := by rw [hs450]; exact iI_u ⟨by omega, by omega⟩
              have ws450_77 : iI s450 77 = iI s448 77 := by rw [hs450]; rfl
              have ws450_75 : iI s450 75 = iI s448 75 := by rw [hs450]; rfl
              have ws450_79 : iI s450 79 = iI s448 79 := by rw [hs450]; rfl
              have ws450_78 : iI s450 78 = iI s448 78 := by rw [hs450]; rfl
              have ws450_86 : iI s450 86 = iI s448 86 := by rw [hs450]; rfl
              have ws450_88 : iI s450 88 = iI s448 88 := by rw [hs450]; rfl
              refine z_aload_n X (x := A 179) (show cdA 213 142 = some (.aload_n 0, 1, 0, 0, 0) from rfl) (List.Mem.tail _ (List.Mem.tail _ (List.Mem.tail _ (List.Mem.head _)))) ?_
              refine z_callV X 179 (rm := rmN 212) (As := []) (st := []) (show cdA 213 143 = some (.invokevirtual 276, 3, 212, 0, 0) from rfl) rfl (by decide) rfl (by rw [E.1, E.2.1, E.2.2.1]; exact k_ors G Is450 (by omega) (by omega) (by omega) (by omega)) ⟨by rw [E.2.2.2]; exact (show (rmN 212).frames + 1 ≤ (rmN 213).frames by decide), by rw [E.2.2.2]; exact (show 8 + (mNL (miB 212) + 11) + (rmN 212).locals ≤ (rmN 213).locals by decide), by rw [E.2.2.2]; exact (show 0 + (rmN 212).cells ≤ (rmN 213).cells by decide), by rw [E.2.2.2]; exact (show 0 + (rmN 212).slots ≤ (rmN 213).slots by decide)⟩ (Nat.le_of_ble_eq_true rfl) (fun vv s451 hq => ?_) (fun ee s451 hq => ?_)
              rotate_left
              · obtain ⟨Is451, Fs451, e452, hv, hrs451, hps451⟩ := hq; cases hv
              obtain ⟨Is451, Fs451, e452, hv, hrs451, hps451⟩ := hq
              cases hv
              have Gs451 := fm_ts Fs450 Fs451 (by decide) (by decide)
              have b453 : (0 : Int) ≤ iI s451 77 ∧ iI s451 77 ≤ 400 := Is451.1 77
              have ws451_75 : iI s451 75 = iI s450 75 := fm_i Fs451 (by decide)
              have b454 : (0 : Int) ≤ iI s451 79 ∧ iI s451 79 ≤ 9 := Is451.1 79
              have b455 : (0 : Int) ≤ iI s451 78 ∧ iI s451 78 ≤ 8 := Is451.1 78
              have ws451_86 : iI s451 86 = iI s450 86 := fm_i Fs451 (by decide)
              have ws451_87 : iI s451 87 = iI s450 87 := fm_i Fs451 (by decide)
              have ws451_88 : iI s451 88 = iI s450 88 := fm_i Fs451 (by decide)
              show WS k 146 [(3, .int (Int32.ofInt 1)), (2, .int (Int32.ofInt 0)), (1, .int (Int32.ofInt e9)), (0, .ref (A 179))] [.int (Int32.ofInt e452)] (Wd A dT s451) 0 0
              refine w_pop X.1 (ax_d X (show cdA 213 146 = some (.pop, 1, 0, 0, 0) from rfl)) rfl ?_
              refine z_aload_n X (x := A 179) (show cdA 213 147 = some (.aload_n 0, 1, 0, 0, 0) from rfl) (List.Mem.tail _ (List.Mem.tail _ (List.Mem.tail _ (List.Mem.head _)))) ?_
              refine z_getI X 179 (show cdA 213 148 = some (.getfield 191, 3, 12, 6, 0) from rfl) (by decide) rfl rfl ?_
              have b456 : (0 : Int) ≤ iI s451 79 ∧ iI s451 79 ≤ 9 := Is451.1 79
              refine z_if_ne X (t := 160) (show cdA 213 151 = some (.ifCond .ne 9, 3, 1, 0, 0) from rfl) (by decide) ⟨by omega, by omega⟩ (fun g457 => ?_) (fun g457 => ?_)
              ·
                refine z_aload_n X (x := A 179) (show cdA 213 160 = some (.aload_n 0, 1, 0, 0, 0) from rfl) (List.Mem.tail _ (List.Mem.tail _ (List.Mem.tail _ (List.Mem.head _)))) ?_
                refine w_dup X.1 (ax_d X (show cdA 213 161 = some (.dup, 1, 0, 0, 0) from rfl)) rfl ?_
                refine z_getI X 179 (show cdA 213 162 = some (.getfield 282, 3, 12, 16, 0) from rfl) (by decide) rfl rfl ?_
                have b458 : (0 : Int) ≤ iI s451 86 ∧ iI s451 86 ≤ 8 := Is451.1 86
                refine z_const X (show cdA 213 165 = some (.iconst 1, 1, 0, 0, 0) from rfl) ?_
                refine z_add X (show cdA 213 166 = some (.iadd, 1, 0, 0, 0) from rfl) ?_
                refine s_putI X 179 (show cdA 213 167 = some (.putfield 282, 3, 12, 16, 0) from rfl) (by decide) rfl rfl (by decide) rfl rfl rfl ?_
                obtain ⟨s459, hs459⟩ : ∃ x0, x0 = uI s451 86 (Int32.ofInt ((iI s451 86) + 1)) := ⟨_, rfl⟩
                rw [← hs459]
                have Is459 : Bd s459 := by rw [hs459]; exact bd_I Is451 (show (0 : Int) ≤ ((iI s451 86) + 1) ∧ ((iI s451 86) + 1) ≤ 8 by omega) ⟨by omega, by omega⟩
                have Fs459 := fm_I (x := Int32.ofInt ((iI s451 86) + 1)) Gs451 (show 86 ∈ _ by decide)
                rw [← hs459] at Fs459
                have vs459 : iI s459 86 = ((iI s451 86) + 1) := by rw [hs459]; exact iI_u ⟨by omega, by omega⟩
                have ws459_77 : iI s459 77 = iI s451 77 := by rw [hs459]; rfl
                have ws459_75 : iI s459 75 = iI s451 75 := by rw [hs459]; rfl
                have ws459_79 : iI s459 79 = iI s451 79 := by rw [hs459]; rfl
                have ws459_78 : iI s459 78 = iI s451 78 := by rw [hs459]; rfl
                have ws459_87 : iI s459 87 = iI s451 87 := by rw [hs459]; rfl
                have ws459_88 : iI s459 88 = iI s451 88 := by rw [hs459]; rfl
                exact w_vret X.1 q hRt (ax_d X (show cdA 213 170 = some (.return_, 1, 0, 0, 0) from rfl)) (Nat.zero_le _) (Nat.zero_le _) ⟨_, rfl, Is459, Fs459, rfl, by omega⟩
              ·
                refine z_aload_n X (x := A 179) (show cdA 213 154 = some (.aload_n 0, 1, 0, 0, 0) from rfl) (List.Mem.tail _ (List.Mem.tail _ (List.Mem.tail _ (List.Mem.head _)))) ?_
                refine z_bipush X (show cdA 213 155 = some (.bipush 59, 2, 0, 0, 59) from rfl) ?_
                refine z_callV X 179 (rm := rmN 204) (As := [.int (Int32.ofInt 59)]) (st := []) (show cdA 213 157 = some (.invokevirtual 263, 3, 204, 0, 0) from rfl) rfl (by decide) rfl (by rw [E.1, E.2.1, E.2.2.1]; exact k_sign G Is451 (by omega) (by omega)) ⟨by rw [E.2.2.2]; exact (show (rmN 204).frames + 1 ≤ (rmN 213).frames by decide), by rw [E.2.2.2]; exact (show 8 + (mNL (miB 204) + 11) + (rmN 204).locals ≤ (rmN 213).locals by decide), by rw [E.2.2.2]; exact (show 0 + (rmN 204).cells ≤ (rmN 213).cells by decide), by rw [E.2.2.2]; exact (show 0 + (rmN 204).slots ≤ (rmN 213).slots by decide)⟩ (Nat.le_of_ble_eq_true rfl) (fun vv s460 hq => ?_) (fun ee s460 hq => ?_)
                rotate_left
                · obtain ⟨Is460, Fs460, hv, hps460⟩ := hq; cases hv
                obtain ⟨Is460, Fs460, hv, hps460⟩ := hq
                cases hv
                have Gs460 := fm_ts Gs451 Fs460 (by decide) (by decide)
                have b462 : (0 : Int) ≤ iI s460 77 ∧ iI s460 77 ≤ 400 := Is460.1 77
                have ws460_75 : iI s460 75 = iI s451 75 := fm_i Fs460 (by decide)
                have b463 : (0 : Int) ≤ iI s460 79 ∧ iI s460 79 ≤ 9 := Is460.1 79
                have ws460_78 : iI s460 78 = iI s451 78 := fm_i Fs460 (by decide)
                have ws460_86 : iI s460 86 = iI s451 86 := fm_i Fs460 (by decide)
                have ws460_87 : iI s460 87 = iI s451 87 := fm_i Fs460 (by decide)
                have ws460_88 : iI s460 88 = iI s451 88 := fm_i Fs460 (by decide)
                show WS k 160 [(3, .int (Int32.ofInt 1)), (2, .int (Int32.ofInt 0)), (1, .int (Int32.ofInt e9)), (0, .ref (A 179))] [] (Wd A dT s460) 0 0
                refine z_aload_n X (x := A 179) (show cdA 213 160 = some (.aload_n 0, 1, 0, 0, 0) from rfl) (List.Mem.tail _ (List.Mem.tail _ (List.Mem.tail _ (List.Mem.head _)))) ?_
                refine w_dup X.1 (ax_d X (show cdA 213 161 = some (.dup, 1, 0, 0, 0) from rfl)) rfl ?_
                refine z_getI X 179 (show cdA 213 162 = some (.getfield 282, 3, 12, 16, 0) from rfl) (by decide) rfl rfl ?_
                have b464 : (0 : Int) ≤ iI s460 86 ∧ iI s460 86 ≤ 8 := Is460.1 86
                refine z_const X (show cdA 213 165 = some (.iconst 1, 1, 0, 0, 0) from rfl) ?_
                refine z_add X (show cdA 213 166 = some (.iadd, 1, 0, 0, 0) from rfl) ?_
                refine s_putI X 179 (show cdA 213 167 = some (.putfield 282, 3, 12, 16, 0) from rfl) (by decide) rfl rfl (by decide) rfl rfl rfl ?_
                obtain ⟨s465, hs465⟩ : ∃ x0, x0 = uI s460 86 (Int32.ofInt ((iI s460 86) + 1)) := ⟨_, rfl⟩
                rw [← hs465]
                have Is465 : Bd s465 := by rw [hs465]; exact bd_I Is460 (show (0 : Int) ≤ ((iI s460 86) + 1) ∧ ((iI s460 86) + 1) ≤ 8 by omega) ⟨by omega, by omega⟩
                have Fs465 := fm_I (x := Int32.ofInt ((iI s460 86) + 1)) Gs460 (show 86 ∈ _ by decide)
                rw [← hs465] at Fs465
                have vs465 : iI s465 86 = ((iI s460 86) + 1) := by rw [hs465]; exact iI_u ⟨by omega, by omega⟩
                have ws465_77 : iI s465 77 = iI s460 77 := by rw [hs465]; rfl
                have ws465_75 : iI s465 75 = iI s460 75 := by rw [hs465]; rfl
                have ws465_79 : iI s465 79 = iI s460 79 := by rw [hs465]; rfl
                have ws465_78 : iI s465 78 = iI s460 78 := by rw [hs465]; rfl
                have ws465_87 : iI s465 87 = iI s460 87 := by rw [hs465]; rfl
                have ws465_88 : iI s465 88 = iI s460 88 := by rw [hs465]; rfl
                exact w_vret X.1 q hRt (ax_d X (show cdA 213 170 = some (.return_, 1, 0, 0, 0) from rfl)) (Nat.zero_le _) (Nat.zero_le _) ⟨_, rfl, Is465, Fs465, rfl, by omega⟩
            ·
              refine z_aload_n X (x := A 179) (show cdA 213 103 = some (.aload_n 0, 1, 0, 0, 0) from rfl) (List.Mem.tail _ (List.Mem.tail _ (List.Mem.tail _ (List.Mem.head _)))) ?_
              refine z_aload_n X (x := A 179) (show cdA 213 104 = some (.aload_n 0, 1, 0, 0, 0) from rfl) (List.Mem.tail _ (List.Mem.tail _ (List.Mem.tail _ (List.Mem.head _)))) ?_
              refine z_getI X 179 (show cdA 213 105 = some (.getfield 184, 3, 12, 4, 0) from rfl) (by decide) rfl rfl ?_
              have b466 : (0 : Int) ≤ iI s442 77 ∧ iI s442 77 ≤ 400 := Is442.1 77
              refine s_putI X 179 (show cdA 213 108 = some (.putfield 285, 3, 12, 18, 0) from rfl) (by decide) rfl rfl (by decide) rfl rfl rfl ?_
              obtain ⟨s467, hs467⟩ : ∃ x0, x0 = uI s442 88 (Int32.ofInt (iI s442 77)) := ⟨_, rfl⟩
              rw [← hs467]
              have Is467 : Bd s467 := by rw [hs467]; exact bd_I Is442 (show ((-1) : Int) ≤ (iI s442 77) ∧ (iI s442 77) ≤ 200 by omega) ⟨by omega, by omega⟩
              have Fs467 := fm_I (x := Int32.ofInt (iI s442 77)) Gs442 (show 88 ∈ _ by decide)
              rw [← hs467] at Fs467
              have vs467 : iI s467 88 = (iI s442 77) := by rw [hs467]; exact iI_u ⟨by omega, by omega⟩
              have ws467_77 : iI s467 77 = iI s442 77 := by rw [hs467]; rfl
              have ws467_75 : iI s467 75 = iI s442 75 := by rw [hs467]; rfl
              have ws467_79 : iI s467 79 = iI s442 79 := by rw [hs467]; rfl
              have ws467_78 : iI s467 78 = iI s442 78 := by rw [hs467]; rfl
              have ws467_86 : iI s467 86 = iI s442 86 := by rw [hs467]; rfl
              have ws467_87 : iI s467 87 = iI s442 87 := by rw [hs467]; rfl
              refine z_aload_n X (x := A 179) (show cdA 213 111 = some (.aload_n 0, 1, 0, 0, 0) from rfl) (List.Mem.tail _ (List.Mem.tail _ (List.Mem.tail _ (List.Mem.head _)))) ?_
              refine z_callV X 179 (rm := rmN 209) (As := []) (st := []) (show cdA 213 112 = some (.invokevirtual 260, 3, 209, 0, 0) from rfl) rfl (by decide) rfl (by rw [E.1, E.2.1, E.2.2.1]; exact k_sum G Is467 (by omega) (by omega) (by omega)) ⟨by rw [E.2.2.2]; exact (show (rmN 209).frames + 1 ≤ (rmN 213).frames by decide), by rw [E.2.2.2]; exact (show 8 + (mNL (miB 209) + 11) + (rmN 209).locals ≤ (rmN 213).locals by decide), by rw [E.2.2.2]; exact (show 0 + (rmN 209).cells ≤ (rmN 213).cells by decide), by rw [E.2.2.2]; exact (show 0 + (rmN 209).slots ≤ (rmN 213).slots by decide)⟩ (Nat.le_of_ble_eq_true rfl) (fun vv s468 hq => ?_) (fun ee s468 hq => ?_)
              rotate_left
              · obtain ⟨Is468, Fs468, e469, hv, hrs468, hps468⟩ := hq; cases hv
              obtain ⟨Is468, Fs468, e469, hv, hrs468, hps468⟩ := hq
              cases hv
              have Gs468 := fm_ts Fs467 Fs468 (by decide) (by decide)
              have b470 : (0 : Int) ≤ iI s468 77 ∧ iI s468 77 ≤ 400 := Is468.1 77
              have ws468_75 : iI s468 75 = iI s467 75 := fm_i Fs468 (by decide)
              have b471 : (0 : Int) ≤ iI s468 79 ∧ iI s468 79 ≤ 9 := Is468.1 79
              have b472 : (0 : Int) ≤ iI s468 78 ∧ iI s468 78 ≤ 8 := Is468.1 78
              have ws468_86 : iI s468 86 = iI s467 86 := fm_i Fs468 (by decide)
              have ws468_87 : iI s468 87 = iI s467 87 := fm_i Fs468 (by decide)
              have ws468_88 : iI s468 88 = iI s467 88 := fm_i Fs468 (by decide)
              show WS k 115 [(3, .int (Int32.ofInt 1)), (2, .int (Int32.ofInt 0)), (1, .int (Int32.ofInt e9)), (0, .ref (A 179))] [.int (Int32.ofInt e469)] (Wd A dT s468) 0 0
              refine w_pop X.1 (ax_d X (show cdA 213 115 = some (.pop, 1, 0, 0, 0) from rfl)) rfl ?_
              refine z_goto X (t := 147) (show cdA 213 116 = some (.goto 31, 3, 0, 0, 0) from rfl) (by decide) ?_
              refine z_aload_n X (x := A 179) (show cdA 213 147 = some (.aload_n 0, 1, 0, 0, 0) from rfl) (List.Mem.tail _ (List.Mem.tail _ (List.Mem.tail _ (List.Mem.head _)))) ?_
              refine z_getI X 179 (show cdA 213 148 = some (.getfield 191, 3, 12, 6, 0) from rfl) (by decide) rfl rfl ?_
              have b473 : (0 : Int) ≤ iI s468 79 ∧ iI s468 79 ≤ 9 := Is468.1 79
              refine z_if_ne X (t := 160) (show cdA 213 151 = some (.ifCond .ne 9, 3, 1, 0, 0) from rfl) (by decide) ⟨by omega, by omega⟩ (fun g474 => ?_) (fun g474 => ?_)
              ·
                refine z_aload_n X (x := A 179) (show cdA 213 160 = some (.aload_n 0, 1, 0, 0, 0) from rfl) (List.Mem.tail _ (List.Mem.tail _ (List.Mem.tail _ (List.Mem.head _)))) ?_
                refine w_dup X.1 (ax_d X (show cdA 213 161 = some (.dup, 1, 0, 0, 0) from rfl)) rfl ?_
                refine z_getI X 179 (show cdA 213 162 = some (.getfield 282, 3, 12, 16, 0) from rfl) (by decide) rfl rfl ?_
                have b475 : (0 : Int) ≤ iI s468 86 ∧ iI s468 86 ≤ 8 := Is468.1 86
                refine z_const X (show cdA 213 165 = some (.iconst 1, 1, 0, 0, 0) from rfl) ?_
                refine z_add X (show cdA 213 166 = some (.iadd, 1, 0, 0, 0) from rfl) ?_
                refine s_putI X 179 (show cdA 213 167 = some (.putfield 282, 3, 12, 16, 0) from rfl) (by decide) rfl rfl (by decide) rfl rfl rfl ?_
                obtain ⟨s476, hs476⟩ : ∃ x0, x0 = uI s468 86 (Int32.ofInt ((iI s468 86) + 1)) := ⟨_, rfl⟩
                rw [← hs476]
                have Is476 : Bd s476 := by rw [hs476]; exact bd_I Is468 (show (0 : Int) ≤ ((iI s468 86) + 1) ∧ ((iI s468 86) + 1) ≤ 8 by omega) ⟨by omega, by omega⟩
                have Fs476 := fm_I (x := Int32.ofInt ((iI s468 86) + 1)) Gs468 (show 86 ∈ _ by decide)
                rw [← hs476] at Fs476
                have vs476 : iI s476 86 = ((iI s468 86) + 1) := by rw [hs476]; exact iI_u ⟨by omega, by omega⟩
                have ws476_77 : iI s476 77 = iI s468 77 := by rw [hs476]; rfl
                have ws476_75 : iI s476 75 = iI s468 75 := by rw [hs476]; rfl
                have ws476_79 : iI s476 79 = iI s468 79 := by rw [hs476]; rfl
                have ws476_78 : iI s476 78 = iI s468 78 := by rw [hs476]; rfl
                have ws476_87 : iI s476 87 = iI s468 87 := by rw [hs476]; rfl
                have ws476_88 : iI s476 88 = iI s468 88 := by rw [hs476]; rfl
                exact w_vret X.1 q hRt (ax_d X (show cdA 213 170 = some (.return_, 1, 0, 0, 0) from rfl)) (Nat.zero_le _) (Nat.zero_le _) ⟨_, rfl, Is476, Fs476, rfl, by omega⟩
              ·
                refine z_aload_n X (x := A 179) (show cdA 213 154 = some (.aload_n 0, 1, 0, 0, 0) from rfl) (List.Mem.tail _ (List.Mem.tail _ (List.Mem.tail _ (List.Mem.head _)))) ?_
                refine z_bipush X (show cdA 213 155 = some (.bipush 59, 2, 0, 0, 59) from rfl) ?_
                refine z_callV X 179 (rm := rmN 204) (As := [.int (Int32.ofInt 59)]) (st := []) (show cdA 213 157 = some (.invokevirtual 263, 3, 204, 0, 0) from rfl) rfl (by decide) rfl (by rw [E.1, E.2.1, E.2.2.1]; exact k_sign G Is468 (by omega) (by omega)) ⟨by rw [E.2.2.2]; exact (show (rmN 204).frames + 1 ≤ (rmN 213).frames by decide), by rw [E.2.2.2]; exact (show 8 + (mNL (miB 204) + 11) + (rmN 204).locals ≤ (rmN 213).locals by decide), by rw [E.2.2.2]; exact (show 0 + (rmN 204).cells ≤ (rmN 213).cells by decide), by rw [E.2.2.2]; exact (show 0 + (rmN 204).slots ≤ (rmN 213).slots by decide)⟩ (Nat.le_of_ble_eq_true rfl) (fun vv s477 hq => ?_) (fun ee s477 hq => ?_)
                rotate_left
                · obtain ⟨Is477, Fs477, hv, hps477⟩ := hq; cases hv
                obtain ⟨Is477, Fs477, hv, hps477⟩ := hq
                cases hv
                have Gs477 := fm_ts Gs468 Fs477 (by decide) (by decide)
                have b479 : (0 : Int) ≤ iI s477 77 ∧ iI s477 77 ≤ 400 := Is477.1 77
                have ws477_75 : iI s477 75 = iI s468 75 := fm_i Fs477 (by decide)
                have b480 : (0 : Int) ≤ iI s477 79 ∧ iI s477 79 ≤ 9 := Is477.1 79
                have ws477_78 : iI s477 78 = iI s468 78 := fm_i Fs477 (by decide)
                have ws477_86 : iI s477 86 = iI s468 86 := fm_i Fs477 (by decide)
                have ws477_87 : iI s477 87 = iI s468 87 := fm_i Fs477 (by decide)
                have ws477_88 : iI s477 88 = iI s468 88 := fm_i Fs477 (by decide)
                show WS k 160 [(3, .int (Int32.ofInt 1)), (2, .int (Int32.ofInt 0)), (1, .int (Int32.ofInt e9)), (0, .ref (A 179))] [] (Wd A dT s477) 0 0
                refine z_aload_n X (x := A 179) (show cdA 213 160 = some (.aload_n 0, 1, 0, 0, 0) from rfl) (List.Mem.tail _ (List.Mem.tail _ (List.Mem.tail _ (List.Mem.head _)))) ?_
                refine w_dup X.1 (ax_d X (show cdA 213 161 = some (.dup, 1, 0, 0, 0) from rfl)) rfl ?_
                refine z_getI X 179 (show cdA 213 162 = some (.getfield 282, 3, 12, 16, 0) from rfl) (by decide) rfl rfl ?_
                have b481 : (0 : Int) ≤ iI s477 86 ∧ iI s477 86 ≤ 8 := Is477.1 86
                refine z_const X (show cdA 213 165 = some (.iconst 1, 1, 0, 0, 0) from rfl) ?_
                refine z_add X (show cdA 213 166 = some (.iadd, 1, 0, 0, 0) from rfl) ?_
                refine s_putI X 179 (show cdA 213 167 = some (.putfield 282, 3, 12, 16, 0) from rfl) (by decide) rfl rfl (by decide) rfl rfl rfl ?_
                obtain ⟨s482, hs482⟩ : ∃ x0, x0 = uI s477 86 (Int32.ofInt ((iI s477 86) + 1)) := ⟨_, rfl⟩
                rw [← hs482]
                have Is482 : Bd s482 := by rw [hs482]; exact bd_I Is477 (show (0 : Int) ≤ ((iI s477 86) + 1) ∧ ((iI s477 86) + 1) ≤ 8 by omega) ⟨by omega, by omega⟩
                have Fs482 := fm_I (x := Int32.ofInt ((iI s477 86) + 1)) Gs477 (show 86 ∈ _ by decide)
                rw [← hs482] at Fs482
                have vs482 : iI s482 86 = ((iI s477 86) + 1) := by rw [hs482]; exact iI_u ⟨by omega, by omega⟩
                have ws482_77 : iI s482 77 = iI s477 77 := by rw [hs482]; rfl
                have ws482_75 : iI s482 75 = iI s477 75 := by rw [hs482]; rfl
                have ws482_79 : iI s482 79 = iI s477 79 := by rw [hs482]; rfl
                have ws482_78 : iI s482 78 = iI s477 78 := by rw [hs482]; rfl
                have ws482_87 : iI s482 87 = iI s477 87 := by rw [hs482]; rfl
                have ws482_88 : iI s482 88 = iI s477 88 := by rw [hs482]; rfl
                exact w_vret X.1 q hRt (ax_d X (show cdA 213 170 = some (.return_, 1, 0, 0, 0) from rfl)) (Nat.zero_le _) (Nat.zero_le _) ⟨_, rfl, Is482, Fs482, rfl, by omega⟩
          ·
            exact w_vret X.1 q hRt (ax_d X (show cdA 213 94 = some (.return_, 1, 0, 0, 0) from rfl)) (Nat.zero_le _) (Nat.zero_le _) ⟨_, rfl, Is437, Gs437, rfl, by omega⟩
  ·
    refine z_const X (show cdA 213 20 = some (.iconst 1, 1, 0, 0, 0) from rfl) ?_
    refine z_goto X (t := 25) (show cdA 213 21 = some (.goto 4, 3, 0, 0, 0) from rfl) (by decide) ?_
    refine z_store_n X (lv' := [(2, .int (Int32.ofInt 1)), (1, .int (Int32.ofInt e9)), (0, .ref (A 179))]) (show cdA 213 25 = some (.istore_n 2, 1, 0, 0, 0) from rfl) (by decide) (fun _ h => h) ?_
    refine z_load_n X (x := e9) (show cdA 213 26 = some (.iload_n 1, 1, 0, 0, 0) from rfl) (List.Mem.tail _ (List.Mem.head _)) ?_
    refine z_bipush X (show cdA 213 27 = some (.bipush 10, 2, 0, 0, 10) from rfl) ?_
    refine z_bipush X (show cdA 213 29 = some (.bipush 15, 2, 0, 0, 15) from rfl) ?_
    refine z_bipush X (show cdA 213 31 = some (.bipush 9, 2, 0, 0, 9) from rfl) ?_
    refine z_bipush X (show cdA 213 33 = some (.bipush 14, 2, 0, 0, 14) from rfl) ?_
    refine z_const X (show cdA 213 35 = some (.iconst 0, 1, 0, 0, 0) from rfl) ?_
    refine z_const X (show cdA 213 36 = some (.iconst 0, 1, 0, 0, 0) from rfl) ?_
    refine z_callS X (rm := rmN 202) (As := [.int (Int32.ofInt 10), .int (Int32.ofInt 15), .int (Int32.ofInt 9), .int (Int32.ofInt 14), .int (Int32.ofInt 0), .int (Int32.ofInt 0)]) (st := [.int (Int32.ofInt e9)]) (show cdA 213 37 = some (.invokestatic 247, 3, 202, 1, 0) from rfl) rfl (by rw [E.1, E.2.1, E.2.2.1]; exact k_word G Is11 (by omega) (by omega) (by omega) (by omega) (by omega) (by omega)) ⟨by rw [E.2.2.2]; exact (show (rmN 202).frames + 1 ≤ (rmN 213).frames by decide), by rw [E.2.2.2]; exact (show 8 + (mNL (miB 202) + 11) + (rmN 202).locals ≤ (rmN 213).locals by decide), by rw [E.2.2.2]; exact (show 0 + (rmN 202).cells ≤ (rmN 213).cells by decide), by rw [E.2.2.2]; exact (show 0 + (rmN 202).slots ≤ (rmN 213).slots by decide)⟩ (Nat.le_of_ble_eq_true rfl) (fun vv s483 hq => ?_) (fun ee s483 hq => ?_)
    rotate_left
    · obtain ⟨Is483, Fs483, e484, hv, hrs483, hps483⟩ := hq; cases hv
    obtain ⟨Is483, Fs483, e484, hv, hrs483, hps483⟩ := hq
    cases hv
    have Gs483 := fm_ts Gs11 Fs483 (by decide) (by decide)
    have ws483_77 : iI s483 77 = iI s11 77 := fm_i Fs483 (by decide)
    have ws483_75 : iI s483 75 = iI s11 75 := fm_i Fs483 (by decide)
    have ws483_79 : iI s483 79 = iI s11 79 := fm_i Fs483 (by decide)
    have ws483_78 : iI s483 78 = iI s11 78 := fm_i Fs483 (by decide)
    have ws483_86 : iI s483 86 = iI s11 86 := fm_i Fs483 (by decide)
    have ws483_87 : iI s483 87 = iI s11 87 := fm_i Fs483 (by decide)
    have ws483_88 : iI s483 88 = iI s11 88 := fm_i Fs483 (by decide)
    show WS k 40 [(2, .int (Int32.ofInt 1)), (1, .int (Int32.ofInt e9)), (0, .ref (A 179))] [.int (Int32.ofInt e484), .int (Int32.ofInt e9)] (Wd A dT s483) 0 0
    refine z_icmp_ne X (t := 47) (show cdA 213 40 = some (.if_icmp .ne 7, 3, 1, 0, 0) from rfl) (by decide) ⟨by omega, by omega⟩ ⟨by omega, by omega⟩ (fun g485 => ?_) (fun g485 => ?_)
    ·
      refine z_const X (show cdA 213 47 = some (.iconst 0, 1, 0, 0, 0) from rfl) ?_
      refine z_store_n X (lv' := [(3, .int (Int32.ofInt 0)), (2, .int (Int32.ofInt 1)), (1, .int (Int32.ofInt e9)), (0, .ref (A 179))]) (show cdA 213 48 = some (.istore_n 3, 1, 0, 0, 0) from rfl) (by decide) (fun _ h => h) ?_
      refine z_load_n X (x := 1) (show cdA 213 49 = some (.iload_n 2, 1, 0, 0, 0) from rfl) (List.Mem.tail _ (List.Mem.head _)) ?_
      refine z_if_ne X (t := 69) (show cdA 213 50 = some (.ifCond .ne 19, 3, 1, 0, 0) from rfl) (by decide) ⟨by omega, by omega⟩ (fun g486 => ?_) (fun g486 => ?_)
      ·
        refine z_aload_n X (x := A 179) (show cdA 213 69 = some (.aload_n 0, 1, 0, 0, 0) from rfl) (List.Mem.tail _ (List.Mem.tail _ (List.Mem.tail _ (List.Mem.head _)))) ?_
        refine z_getI X 179 (show cdA 213 70 = some (.getfield 282, 3, 12, 16, 0) from rfl) (by decide) rfl rfl ?_
        have b487 : (0 : Int) ≤ iI s483 86 ∧ iI s483 86 ≤ 8 := Is483.1 86
        refine z_bipush X (show cdA 213 73 = some (.bipush 8, 2, 0, 0, 8) from rfl) ?_
        refine z_icmp_ne X (t := 87) (show cdA 213 75 = some (.if_icmp .ne 12, 3, 1, 0, 0) from rfl) (by decide) ⟨by omega, by omega⟩ ⟨by omega, by omega⟩ (fun g488 => ?_) (fun g488 => ?_)
        ·
          refine z_aload_n X (x := A 179) (show cdA 213 87 = some (.aload_n 0, 1, 0, 0, 0) from rfl) (List.Mem.tail _ (List.Mem.tail _ (List.Mem.tail _ (List.Mem.head _)))) ?_
          refine z_getI X 179 (show cdA 213 88 = some (.getfield 191, 3, 12, 6, 0) from rfl) (by decide) rfl rfl ?_
          have b489 : (0 : Int) ≤ iI s483 79 ∧ iI s483 79 ≤ 9 := Is483.1 79
          refine z_if_eq X (t := 95) (show cdA 213 91 = some (.ifCond .eq 4, 3, 0, 0, 0) from rfl) (by decide) ⟨by omega, by omega⟩ (fun g490 => ?_) (fun g490 => ?_)
          ·
            refine z_aload_n X (x := A 179) (show cdA 213 95 = some (.aload_n 0, 1, 0, 0, 0) from rfl) (List.Mem.tail _ (List.Mem.tail _ (List.Mem.tail _ (List.Mem.head _)))) ?_
            refine z_callV X 179 (rm := rmN 203) (As := []) (st := []) (show cdA 213 96 = some (.invokevirtual 254, 3, 203, 0, 0) from rfl) rfl (by decide) rfl (by rw [E.1, E.2.1, E.2.2.1]; exact k_skipWord G Is483 (by omega)) ⟨by rw [E.2.2.2]; exact (show (rmN 203).frames + 1 ≤ (rmN 213).frames by decide), by rw [E.2.2.2]; exact (show 8 + (mNL (miB 203) + 11) + (rmN 203).locals ≤ (rmN 213).locals by decide), by rw [E.2.2.2]; exact (show 0 + (rmN 203).cells ≤ (rmN 213).cells by decide), by rw [E.2.2.2]; exact (show 0 + (rmN 203).slots ≤ (rmN 213).slots by decide)⟩ (Nat.le_of_ble_eq_true rfl) (fun vv s491 hq => ?_) (fun ee s491 hq => ?_)
            rotate_left
            · obtain ⟨Is491, Fs491, hv, hps491⟩ := hq; cases hv
            obtain ⟨Is491, Fs491, hv, hps491⟩ := hq
            cases hv
            have Gs491 := fm_ts Gs483 Fs491 (by decide) (by decide)
            have b493 : (0 : Int) ≤ iI s491 77 ∧ iI s491 77 ≤ 400 := Is491.1 77
            have ws491_75 : iI s491 75 = iI s483 75 := fm_i Fs491 (by decide)
            have ws491_79 : iI s491 79 = iI s483 79 := fm_i Fs491 (by decide)
            have ws491_78 : iI s491 78 = iI s483 78 := fm_i Fs491 (by decide)
            have ws491_86 : iI s491 86 = iI s483 86 := fm_i Fs491 (by decide)
            have ws491_87 : iI s491 87 = iI s483 87 := fm_i Fs491 (by decide)
            have ws491_88 : iI s491 88 = iI s483 88 := fm_i Fs491 (by decide)
            show WS k 99 [(3, .int (Int32.ofInt 0)), (2, .int (Int32.ofInt 1)), (1, .int (Int32.ofInt e9)), (0, .ref (A 179))] [] (Wd A dT s491) 0 0
            refine z_load_n X (x := 1) (show cdA 213 99 = some (.iload_n 2, 1, 0, 0, 0) from rfl) (List.Mem.tail _ (List.Mem.head _)) ?_
            refine z_if_eq X (t := 119) (show cdA 213 100 = some (.ifCond .eq 19, 3, 0, 0, 0) from rfl) (by decide) ⟨by omega, by omega⟩ (fun g494 => ?_) (fun g494 => ?_)
            ·
              refine z_aload_n X (x := A 179) (show cdA 213 119 = some (.aload_n 0, 1, 0, 0, 0) from rfl) (List.Mem.tail _ (List.Mem.tail _ (List.Mem.tail _ (List.Mem.head _)))) ?_
              refine s_getR X 179 (show cdA 213 120 = some (.getfield 29, 3, 12, 20, 0) from rfl) (by decide) rfl rfl ?_
              refine z_aload_n X (x := A 179) (show cdA 213 123 = some (.aload_n 0, 1, 0, 0, 0) from rfl) (List.Mem.tail _ (List.Mem.tail _ (List.Mem.tail _ (List.Mem.head _)))) ?_
              refine z_getI X 179 (show cdA 213 124 = some (.getfield 288, 3, 12, 17, 0) from rfl) (by decide) rfl rfl ?_
              have b495 : (0 : Int) ≤ iI s491 87 ∧ iI s491 87 ≤ 8 := Is491.1 87
              refine z_aload_n X (x := A 179) (show cdA 213 127 = some (.aload_n 0, 1, 0, 0, 0) from rfl) (List.Mem.tail _ (List.Mem.tail _ (List.Mem.tail _ (List.Mem.head _)))) ?_
              refine z_getI X 179 (show cdA 213 128 = some (.getfield 184, 3, 12, 4, 0) from rfl) (by decide) rfl rfl ?_
              have b496 : (0 : Int) ≤ iI s491 77 ∧ iI s491 77 ≤ 400 := Is491.1 77
              refine z_ast X 183 (show cdA 213 131 = some (.iastore, 1, 0, 0, 0) from rfl) (by decide) rfl (by omega) (show (iI s491 87) < 8 by omega) (by decide) ?_
              obtain ⟨s497, hs497⟩ : ∃ x0, x0 = uC s491 160 ((iI s491 87)).toNat (Int32.ofInt (iI s491 77)) := ⟨_, rfl⟩
              rw [← hs497]
              have Is497 : Bd s497 := by rw [hs497]; exact bd_C Is491 (show (0 : Int) ≤ (iI s491 77) ∧ (iI s491 77) ≤ 200 by omega) ⟨by omega, by omega⟩
              have Fs497 := fm_C (i := ((iI s491 87)).toNat) (x := Int32.ofInt (iI s491 77)) Gs491 (show 160 ∈ _ by decide)
              rw [← hs497] at Fs497
              have ws497_77 : iI s497 77 = iI s491 77 := by rw [hs497]; rfl
              have ws497_75 : iI s497 75 = iI s491 75 := by rw [hs497]; rfl
              have ws497_79 : iI s497 79 = iI s491 79 := by rw [hs497]; rfl
              have ws497_78 : iI s497 78 = iI s491 78 := by rw [hs497]; rfl
              have ws497_86 : iI s497 86 = iI s491 86 := by rw [hs497]; rfl
              have ws497_87 : iI s497 87 = iI s491 87 := by rw [hs497]; rfl
              have ws497_88 : iI s497 88 = iI s491 88 := by rw [hs497]; rfl
              refine z_aload_n X (x := A 179) (show cdA 213 132 = some (.aload_n 0, 1, 0, 0, 0) from rfl) (List.Mem.tail _ (List.Mem.tail _ (List.Mem.tail _ (List.Mem.head _)))) ?_
              refine w_dup X.1 (ax_d X (show cdA 213 133 = some (.dup, 1, 0, 0, 0) from rfl)) rfl ?_
              refine z_getI X 179 (show cdA 213 134 = some (.getfield 288, 3, 12, 17, 0) from rfl) (by decide) rfl rfl ?_
              have b498 : (0 : Int) ≤ iI s497 87 ∧ iI s497 87 ≤ 8 := Is497.1 87
              refine z_const X (show cdA 213 137 = some (.iconst 1, 1, 0, 0, 0) from rfl) ?_
              refine z_add X (show cdA 213 138 = some (.iadd, 1, 0, 0, 0) from rfl) ?_
              refine s_putI X 179 (show cdA 213 139 = some (.putfield 288, 3, 12, 17, 0) from rfl) (by decide) rfl rfl (by decide) rfl rfl rfl ?_
              obtain ⟨s499, hs499⟩ : ∃ x0, x0 = uI s497 87 (Int32.ofInt ((iI s497 87) + 1)) := ⟨_, rfl⟩
              rw [← hs499]
              have Is499 : Bd s499 := by rw [hs499]; exact bd_I Is497 (show (0 : Int) ≤ ((iI s497 87) + 1) ∧ ((iI s497 87) + 1) ≤ 8 by omega) ⟨by omega, by omega⟩
              have Fs499 := fm_I (x := Int32.ofInt ((iI s497 87) + 1)) Fs497 (show 87 ∈ _ by decide)
              rw [← hs499] at Fs499
              have vs499 : iI s499 87 = ((iI s497 87) + 1) := by rw [hs499]; exact iI_u ⟨by omega, by omega⟩
              have ws499_77 : iI s499 77 = iI s497 77 := by rw [hs499]; rfl
              have ws499_75 : iI s499 75 = iI s497 75 := by rw [hs499]; rfl
              have ws499_79 : iI s499 79 = iI s497 79 := by rw [hs499]; rfl
              have ws499_78 : iI s499 78 = iI s497 78 := by rw [hs499]; rfl
              have ws499_86 : iI s499 86 = iI s497 86 := by rw [hs499]; rfl
              have ws499_88 : iI s499 88 = iI s497 88 := by rw [hs499]; rfl
              refine z_aload_n X (x := A 179) (show cdA 213 142 = some (.aload_n 0, 1, 0, 0, 0) from rfl) (List.Mem.tail _ (List.Mem.tail _ (List.Mem.tail _ (List.Mem.head _)))) ?_
              refine z_callV X 179 (rm := rmN 212) (As := []) (st := []) (show cdA 213 143 = some (.invokevirtual 276, 3, 212, 0, 0) from rfl) rfl (by decide) rfl (by rw [E.1, E.2.1, E.2.2.1]; exact k_ors G Is499 (by omega) (by omega) (by omega) (by omega)) ⟨by rw [E.2.2.2]; exact (show (rmN 212).frames + 1 ≤ (rmN 213).frames by decide), by rw [E.2.2.2]; exact (show 8 + (mNL (miB 212) + 11) + (rmN 212).locals ≤ (rmN 213).locals by decide), by rw [E.2.2.2]; exact (show 0 + (rmN 212).cells ≤ (rmN 213).cells by decide), by rw [E.2.2.2]; exact (show 0 + (rmN 212).slots ≤ (rmN 213).slots by decide)⟩ (Nat.le_of_ble_eq_true rfl) (fun vv s500 hq => ?_) (fun ee s500 hq => ?_)
              rotate_left
              · obtain ⟨Is500, Fs500, e501, hv, hrs500, hps500⟩ := hq; cases hv
              obtain ⟨Is500, Fs500, e501, hv, hrs500, hps500⟩ := hq
              cases hv
              have Gs500 := fm_ts Fs499 Fs500 (by decide) (by decide)
              have b502 : (0 : Int) ≤ iI s500 77 ∧ iI s500 77 ≤ 400 := Is500.1 77
              have ws500_75 : iI s500 75 = iI s499 75 := fm_i Fs500 (by decide)
              have b503 : (0 : Int) ≤ iI s500 79 ∧ iI s500 79 ≤ 9 := Is500.1 79
              have b504 : (0 : Int) ≤ iI s500 78 ∧ iI s500 78 ≤ 8 := Is500.1 78
              have ws500_86 : iI s500 86 = iI s499 86 := fm_i Fs500 (by decide)
              have ws500_87 : iI s500 87 = iI s499 87 := fm_i Fs500 (by decide)
              have ws500_88 : iI s500 88 = iI s499 88 := fm_i Fs500 (by decide)
              show WS k 146 [(3, .int (Int32.ofInt 0)), (2, .int (Int32.ofInt 1)), (1, .int (Int32.ofInt e9)), (0, .ref (A 179))] [.int (Int32.ofInt e501)] (Wd A dT s500) 0 0
              refine w_pop X.1 (ax_d X (show cdA 213 146 = some (.pop, 1, 0, 0, 0) from rfl)) rfl ?_
              refine z_aload_n X (x := A 179) (show cdA 213 147 = some (.aload_n 0, 1, 0, 0, 0) from rfl) (List.Mem.tail _ (List.Mem.tail _ (List.Mem.tail _ (List.Mem.head _)))) ?_
              refine z_getI X 179 (show cdA 213 148 = some (.getfield 191, 3, 12, 6, 0) from rfl) (by decide) rfl rfl ?_
              have b505 : (0 : Int) ≤ iI s500 79 ∧ iI s500 79 ≤ 9 := Is500.1 79
              refine z_if_ne X (t := 160) (show cdA 213 151 = some (.ifCond .ne 9, 3, 1, 0, 0) from rfl) (by decide) ⟨by omega, by omega⟩ (fun g506 => ?_) (fun g506 => ?_)
              ·
                refine z_aload_n X (x := A 179) (show cdA 213 160 = some (.aload_n 0, 1, 0, 0, 0) from rfl) (List.Mem.tail _ (List.Mem.tail _ (List.Mem.tail _ (List.Mem.head _)))) ?_
                refine w_dup X.1 (ax_d X (show cdA 213 161 = some (.dup, 1, 0, 0, 0) from rfl)) rfl ?_
                refine z_getI X 179 (show cdA 213 162 = some (.getfield 282, 3, 12, 16, 0) from rfl) (by decide) rfl rfl ?_
                have b507 : (0 : Int) ≤ iI s500 86 ∧ iI s500 86 ≤ 8 := Is500.1 86
                refine z_const X (show cdA 213 165 = some (.iconst 1, 1, 0, 0, 0) from rfl) ?_
                refine z_add X (show cdA 213 166 = some (.iadd, 1, 0, 0, 0) from rfl) ?_
                refine s_putI X 179 (show cdA 213 167 = some (.putfield 282, 3, 12, 16, 0) from rfl) (by decide) rfl rfl (by decide) rfl rfl rfl ?_
                obtain ⟨s508, hs508⟩ : ∃ x0, x0 = uI s500 86 (Int32.ofInt ((iI s500 86) + 1)) := ⟨_, rfl⟩
                rw [← hs508]
                have Is508 : Bd s508 := by rw [hs508]; exact bd_I Is500 (show (0 : Int) ≤ ((iI s500 86) + 1) ∧ ((iI s500 86) + 1) ≤ 8 by omega) ⟨by omega, by omega⟩
                have Fs508 := fm_I (x := Int32.ofInt ((iI s500 86) + 1)) Gs500 (show 86 ∈ _ by decide)
                rw [← hs508] at Fs508
                have vs508 : iI s508 86 = ((iI s500 86) + 1) := by rw [hs508]; exact iI_u ⟨by omega, by omega⟩
                have ws508_77 : iI s508 77 = iI s500 77 := by rw [hs508]; rfl
                have ws508_75 : iI s508 75 = iI s500 75 := by rw [hs508]; rfl
                have ws508_79 : iI s508 79 = iI s500 79 := by rw [hs508]; rfl
                have ws508_78 : iI s508 78 = iI s500 78 := by rw [hs508]; rfl
                have ws508_87 : iI s508 87 = iI s500 87 := by rw [hs508]; rfl
                have ws508_88 : iI s508 88 = iI s500 88 := by rw [hs508]; rfl
                exact w_vret X.1 q hRt (ax_d X (show cdA 213 170 = some (.return_, 1, 0, 0, 0) from rfl)) (Nat.zero_le _) (Nat.zero_le _) ⟨_, rfl, Is508, Fs508, rfl, by omega⟩
              ·
                refine z_aload_n X (x := A 179) (show cdA 213 154 = some (.aload_n 0, 1, 0, 0, 0) from rfl) (List.Mem.tail _ (List.Mem.tail _ (List.Mem.tail _ (List.Mem.head _)))) ?_
                refine z_bipush X (show cdA 213 155 = some (.bipush 59, 2, 0, 0, 59) from rfl) ?_
                refine z_callV X 179 (rm := rmN 204) (As := [.int (Int32.ofInt 59)]) (st := []) (show cdA 213 157 = some (.invokevirtual 263, 3, 204, 0, 0) from rfl) rfl (by decide) rfl (by rw [E.1, E.2.1, E.2.2.1]; exact k_sign G Is500 (by omega) (by omega)) ⟨by rw [E.2.2.2]; exact (show (rmN 204).frames + 1 ≤ (rmN 213).frames by decide), by rw [E.2.2.2]; exact (show 8 + (mNL (miB 204) + 11) + (rmN 204).locals ≤ (rmN 213).locals by decide), by rw [E.2.2.2]; exact (show 0 + (rmN 204).cells ≤ (rmN 213).cells by decide), by rw [E.2.2.2]; exact (show 0 + (rmN 204).slots ≤ (rmN 213).slots by decide)⟩ (Nat.le_of_ble_eq_true rfl) (fun vv s509 hq => ?_) (fun ee s509 hq => ?_)
                rotate_left
                · obtain ⟨Is509, Fs509, hv, hps509⟩ := hq; cases hv
                obtain ⟨Is509, Fs509, hv, hps509⟩ := hq
                cases hv
                have Gs509 := fm_ts Gs500 Fs509 (by decide) (by decide)
                have b511 : (0 : Int) ≤ iI s509 77 ∧ iI s509 77 ≤ 400 := Is509.1 77
                have ws509_75 : iI s509 75 = iI s500 75 := fm_i Fs509 (by decide)
                have b512 : (0 : Int) ≤ iI s509 79 ∧ iI s509 79 ≤ 9 := Is509.1 79
                have ws509_78 : iI s509 78 = iI s500 78 := fm_i Fs509 (by decide)
                have ws509_86 : iI s509 86 = iI s500 86 := fm_i Fs509 (by decide)
                have ws509_87 : iI s509 87 = iI s500 87 := fm_i Fs509 (by decide)
                have ws509_88 : iI s509 88 = iI s500 88 := fm_i Fs509 (by decide)
                show WS k 160 [(3, .int (Int32.ofInt 0)), (2, .int (Int32.ofInt 1)), (1, .int (Int32.ofInt e9)), (0, .ref (A 179))] [] (Wd A dT s509) 0 0
                refine z_aload_n X (x := A 179) (show cdA 213 160 = some (.aload_n 0, 1, 0, 0, 0) from rfl) (List.Mem.tail _ (List.Mem.tail _ (List.Mem.tail _ (List.Mem.head _)))) ?_
                refine w_dup X.1 (ax_d X (show cdA 213 161 = some (.dup, 1, 0, 0, 0) from rfl)) rfl ?_
                refine z_getI X 179 (show cdA 213 162 = some (.getfield 282, 3, 12, 16, 0) from rfl) (by decide) rfl rfl ?_
                have b513 : (0 : Int) ≤ iI s509 86 ∧ iI s509 86 ≤ 8 := Is509.1 86
                refine z_const X (show cdA 213 165 = some (.iconst 1, 1, 0, 0, 0) from rfl) ?_
                refine z_add X (show cdA 213 166 = some (.iadd, 1, 0, 0, 0) from rfl) ?_
                refine s_putI X 179 (show cdA 213 167 = some (.putfield 282, 3, 12, 16, 0) from rfl) (by decide) rfl rfl (by decide) rfl rfl rfl ?_
                obtain ⟨s514, hs514⟩ : ∃ x0, x0 = uI s509 86 (Int32.ofInt ((iI s509 86) + 1)) := ⟨_, rfl⟩
                rw [← hs514]
                have Is514 : Bd s514 := by rw [hs514]; exact bd_I Is509 (show (0 : Int) ≤ ((iI s509 86) + 1) ∧ ((iI s509 86) + 1) ≤ 8 by omega) ⟨by omega, by omega⟩
                have Fs514 := fm_I (x := Int32.ofInt ((iI s509 86) + 1)) Gs509 (show 86 ∈ _ by decide)
                rw [← hs514] at Fs514
                have vs514 : iI s514 86 = ((iI s509 86) + 1) := by rw [hs514]; exact iI_u ⟨by omega, by omega⟩
                have ws514_77 : iI s514 77 = iI s509 77 := by rw [hs514]; rfl
                have ws514_75 : iI s514 75 = iI s509 75 := by rw [hs514]; rfl
                have ws514_79 : iI s514 79 = iI s509 79 := by rw [hs514]; rfl
                have ws514_78 : iI s514 78 = iI s509 78 := by rw [hs514]; rfl
                have ws514_87 : iI s514 87 = iI s509 87 := by rw [hs514]; rfl
                have ws514_88 : iI s514 88 = iI s509 88 := by rw [hs514]; rfl
                exact w_vret X.1 q hRt (ax_d X (show cdA 213 170 = some (.return_, 1, 0, 0, 0) from rfl)) (Nat.zero_le _) (Nat.zero_le _) ⟨_, rfl, Is514, Fs514, rfl, by omega⟩
            ·
              refine z_aload_n X (x := A 179) (show cdA 213 103 = some (.aload_n 0, 1, 0, 0, 0) from rfl) (List.Mem.tail _ (List.Mem.tail _ (List.Mem.tail _ (List.Mem.head _)))) ?_
              refine z_aload_n X (x := A 179) (show cdA 213 104 = some (.aload_n 0, 1, 0, 0, 0) from rfl) (List.Mem.tail _ (List.Mem.tail _ (List.Mem.tail _ (List.Mem.head _)))) ?_
              refine z_getI X 179 (show cdA 213 105 = some (.getfield 184, 3, 12, 4, 0) from rfl) (by decide) rfl rfl ?_
              have b515 : (0 : Int) ≤ iI s491 77 ∧ iI s491 77 ≤ 400 := Is491.1 77
              refine s_putI X 179 (show cdA 213 108 = some (.putfield 285, 3, 12, 18, 0) from rfl) (by decide) rfl rfl (by decide) rfl rfl rfl ?_
              obtain ⟨s516, hs516⟩ : ∃ x0, x0 = uI s491 88 (Int32.ofInt (iI s491 77)) := ⟨_, rfl⟩
              rw [← hs516]
              have Is516 : Bd s516 := by rw [hs516]; exact bd_I Is491 (show ((-1) : Int) ≤ (iI s491 77) ∧ (iI s491 77) ≤ 200 by omega) ⟨by omega, by omega⟩
              have Fs516 := fm_I (x := Int32.ofInt (iI s491 77)) Gs491 (show 88 ∈ _ by decide)
              rw [← hs516] at Fs516
              have vs516 : iI s516 88 = (iI s491 77) := by rw [hs516]; exact iI_u ⟨by omega, by omega⟩
              have ws516_77 : iI s516 77 = iI s491 77 := by rw [hs516]; rfl
              have ws516_75 : iI s516 75 = iI s491 75 := by rw [hs516]; rfl
              have ws516_79 : iI s516 79 = iI s491 79 := by rw [hs516]; rfl
              have ws516_78 : iI s516 78 = iI s491 78 := by rw [hs516]; rfl
              have ws516_86 : iI s516 86 = iI s491 86 := by rw [hs516]; rfl
              have ws516_87 : iI s516 87 = iI s491 87 := by rw [hs516]; rfl
              refine z_aload_n X (x := A 179) (show cdA 213 111 = some (.aload_n 0, 1, 0, 0, 0) from rfl) (List.Mem.tail _ (List.Mem.tail _ (List.Mem.tail _ (List.Mem.head _)))) ?_
              refine z_callV X 179 (rm := rmN 209) (As := []) (st := []) (show cdA 213 112 = some (.invokevirtual 260, 3, 209, 0, 0) from rfl) rfl (by decide) rfl (by rw [E.1, E.2.1, E.2.2.1]; exact k_sum G Is516 (by omega) (by omega) (by omega)) ⟨by rw [E.2.2.2]; exact (show (rmN 209).frames + 1 ≤ (rmN 213).frames by decide), by rw [E.2.2.2]; exact (show 8 + (mNL (miB 209) + 11) + (rmN 209).locals ≤ (rmN 213).locals by decide), by rw [E.2.2.2]; exact (show 0 + (rmN 209).cells ≤ (rmN 213).cells by decide), by rw [E.2.2.2]; exact (show 0 + (rmN 209).slots ≤ (rmN 213).slots by decide)⟩ (Nat.le_of_ble_eq_true rfl) (fun vv s517 hq => ?_) (fun ee s517 hq => ?_)
              rotate_left
              · obtain ⟨Is517, Fs517, e518, hv, hrs517, hps517⟩ := hq; cases hv
              obtain ⟨Is517, Fs517, e518, hv, hrs517, hps517⟩ := hq
              cases hv
              have Gs517 := fm_ts Fs516 Fs517 (by decide) (by decide)
              have b519 : (0 : Int) ≤ iI s517 77 ∧ iI s517 77 ≤ 400 := Is517.1 77
              have ws517_75 : iI s517 75 = iI s516 75 := fm_i Fs517 (by decide)
              have b520 : (0 : Int) ≤ iI s517 79 ∧ iI s517 79 ≤ 9 := Is517.1 79
              have b521 : (0 : Int) ≤ iI s517 78 ∧ iI s517 78 ≤ 8 := Is517.1 78
              have ws517_86 : iI s517 86 = iI s516 86 := fm_i Fs517 (by decide)
              have ws517_87 : iI s517 87 = iI s516 87 := fm_i Fs517 (by decide)
              have ws517_88 : iI s517 88 = iI s516 88 := fm_i Fs517 (by decide)
              show WS k 115 [(3, .int (Int32.ofInt 0)), (2, .int (Int32.ofInt 1)), (1, .int (Int32.ofInt e9)), (0, .ref (A 179))] [.int (Int32.ofInt e518)] (Wd A dT s517) 0 0
              refine w_pop X.1 (ax_d X (show cdA 213 115 = some (.pop, 1, 0, 0, 0) from rfl)) rfl ?_
              refine z_goto X (t := 147) (show cdA 213 116 = some (.goto 31, 3, 0, 0, 0) from rfl) (by decide) ?_
              refine z_aload_n X (x := A 179) (show cdA 213 147 = some (.aload_n 0, 1, 0, 0, 0) from rfl) (List.Mem.tail _ (List.Mem.tail _ (List.Mem.tail _ (List.Mem.head _)))) ?_
              refine z_getI X 179 (show cdA 213 148 = some (.getfield 191, 3, 12, 6, 0) from rfl) (by decide) rfl rfl ?_
              have b522 : (0 : Int) ≤ iI s517 79 ∧ iI s517 79 ≤ 9 := Is517.1 79
              refine z_if_ne X (t := 160) (show cdA 213 151 = some (.ifCond .ne 9, 3, 1, 0, 0) from rfl) (by decide) ⟨by omega, by omega⟩ (fun g523 => ?_) (fun g523 => ?_)
              ·
                refine z_aload_n X (x := A 179) (show cdA 213 160 = some (.aload_n 0, 1, 0, 0, 0) from rfl) (List.Mem.tail _ (List.Mem.tail _ (List.Mem.tail _ (List.Mem.head _)))) ?_
                refine w_dup X.1 (ax_d X (show cdA 213 161 = some (.dup, 1, 0, 0, 0) from rfl)) rfl ?_
                refine z_getI X 179 (show cdA 213 162 = some (.getfield 282, 3, 12, 16, 0) from rfl) (by decide) rfl rfl ?_
                have b524 : (0 : Int) ≤ iI s517 86 ∧ iI s517 86 ≤ 8 := Is517.1 86
                refine z_const X (show cdA 213 165 = some (.iconst 1, 1, 0, 0, 0) from rfl) ?_
                refine z_add X (show cdA 213 166 = some (.iadd, 1, 0, 0, 0) from rfl) ?_
                refine s_putI X 179 (show cdA 213 167 = some (.putfield 282, 3, 12, 16, 0) from rfl) (by decide) rfl rfl (by decide) rfl rfl rfl ?_
                obtain ⟨s525, hs525⟩ : ∃ x0, x0 = uI s517 86 (Int32.ofInt ((iI s517 86) + 1)) := ⟨_, rfl⟩
                rw [← hs525]
                have Is525 : Bd s525 := by rw [hs525]; exact bd_I Is517 (show (0 : Int) ≤ ((iI s517 86) + 1) ∧ ((iI s517 86) + 1) ≤ 8 by omega) ⟨by omega, by omega⟩
                have Fs525 := fm_I (x := Int32.ofInt ((iI s517 86) + 1)) Gs517 (show 86 ∈ _ by decide)
                rw [← hs525] at Fs525
                have vs525 : iI s525 86 = ((iI s517 86) + 1) := by rw [hs525]; exact iI_u ⟨by omega, by omega⟩
                have ws525_77 : iI s525 77 = iI s517 77 := by rw [hs525]; rfl
                have ws525_75 : iI s525 75 = iI s517 75 := by rw [hs525]; rfl
                have ws525_79 : iI s525 79 = iI s517 79 := by rw [hs525]; rfl
                have ws525_78 : iI s525 78 = iI s517 78 := by rw [hs525]; rfl
                have ws525_87 : iI s525 87 = iI s517 87 := by rw [hs525]; rfl
                have ws525_88 : iI s525 88 = iI s517 88 := by rw [hs525]; rfl
                exact w_vret X.1 q hRt (ax_d X (show cdA 213 170 = some (.return_, 1, 0, 0, 0) from rfl)) (Nat.zero_le _) (Nat.zero_le _) ⟨_, rfl, Is525, Fs525, rfl, by omega⟩
              ·
                refine z_aload_n X (x := A 179) (show cdA 213 154 = some (.aload_n 0, 1, 0, 0, 0) from rfl) (List.Mem.tail _ (List.Mem.tail _ (List.Mem.tail _ (List.Mem.head _)))) ?_
                refine z_bipush X (show cdA 213 155 = some (.bipush 59, 2, 0, 0, 59) from rfl) ?_
                refine z_callV X 179 (rm := rmN 204) (As := [.int (Int32.ofInt 59)]) (st := []) (show cdA 213 157 = some (.invokevirtual 263, 3, 204, 0, 0) from rfl) rfl (by decide) rfl (by rw [E.1, E.2.1, E.2.2.1]; exact k_sign G Is517 (by omega) (by omega)) ⟨by rw [E.2.2.2]; exact (show (rmN 204).frames + 1 ≤ (rmN 213).frames by decide), by rw [E.2.2.2]; exact (show 8 + (mNL (miB 204) + 11) + (rmN 204).locals ≤ (rmN 213).locals by decide), by rw [E.2.2.2]; exact (show 0 + (rmN 204).cells ≤ (rmN 213).cells by decide), by rw [E.2.2.2]; exact (show 0 + (rmN 204).slots ≤ (rmN 213).slots by decide)⟩ (Nat.le_of_ble_eq_true rfl) (fun vv s526 hq => ?_) (fun ee s526 hq => ?_)
                rotate_left
                · obtain ⟨Is526, Fs526, hv, hps526⟩ := hq; cases hv
                obtain ⟨Is526, Fs526, hv, hps526⟩ := hq
                cases hv
                have Gs526 := fm_ts Gs517 Fs526 (by decide) (by decide)
                have b528 : (0 : Int) ≤ iI s526 77 ∧ iI s526 77 ≤ 400 := Is526.1 77
                have ws526_75 : iI s526 75 = iI s517 75 := fm_i Fs526 (by decide)
                have b529 : (0 : Int) ≤ iI s526 79 ∧ iI s526 79 ≤ 9 := Is526.1 79
                have ws526_78 : iI s526 78 = iI s517 78 := fm_i Fs526 (by decide)
                have ws526_86 : iI s526 86 = iI s517 86 := fm_i Fs526 (by decide)
                have ws526_87 : iI s526 87 = iI s517 87 := fm_i Fs526 (by decide)
                have ws526_88 : iI s526 88 = iI s517 88 := fm_i Fs526 (by decide)
                show WS k 160 [(3, .int (Int32.ofInt 0)), (2, .int (Int32.ofInt 1)), (1, .int (Int32.ofInt e9)), (0, .ref (A 179))] [] (Wd A dT s526) 0 0
                refine z_aload_n X (x := A 179) (show cdA 213 160 = some (.aload_n 0, 1, 0, 0, 0) from rfl) (List.Mem.tail _ (List.Mem.tail _ (List.Mem.tail _ (List.Mem.head _)))) ?_
                refine w_dup X.1 (ax_d X (show cdA 213 161 = some (.dup, 1, 0, 0, 0) from rfl)) rfl ?_
                refine z_getI X 179 (show cdA 213 162 = some (.getfield 282, 3, 12, 16, 0) from rfl) (by decide) rfl rfl ?_
                have b530 : (0 : Int) ≤ iI s526 86 ∧ iI s526 86 ≤ 8 := Is526.1 86
                refine z_const X (show cdA 213 165 = some (.iconst 1, 1, 0, 0, 0) from rfl) ?_
                refine z_add X (show cdA 213 166 = some (.iadd, 1, 0, 0, 0) from rfl) ?_
                refine s_putI X 179 (show cdA 213 167 = some (.putfield 282, 3, 12, 16, 0) from rfl) (by decide) rfl rfl (by decide) rfl rfl rfl ?_
                obtain ⟨s531, hs531⟩ : ∃ x0, x0 = uI s526 86 (Int32.ofInt ((iI s526 86) + 1)) := ⟨_, rfl⟩
                rw [← hs531]
                have Is531 : Bd s531 := by rw [hs531]; exact bd_I Is526 (show (0 : Int) ≤ ((iI s526 86) + 1) ∧ ((iI s526 86) + 1) ≤ 8 by omega) ⟨by omega, by omega⟩
                have Fs531 := fm_I (x := Int32.ofInt ((iI s526 86) + 1)) Gs526 (show 86 ∈ _ by decide)
                rw [← hs531] at Fs531
                have vs531 : iI s531 86 = ((iI s526 86) + 1) := by rw [hs531]; exact iI_u ⟨by omega, by omega⟩
                have ws531_77 : iI s531 77 = iI s526 77 := by rw [hs531]; rfl
                have ws531_75 : iI s531 75 = iI s526 75 := by rw [hs531]; rfl
                have ws531_79 : iI s531 79 = iI s526 79 := by rw [hs531]; rfl
                have ws531_78 : iI s531 78 = iI s526 78 := by rw [hs531]; rfl
                have ws531_87 : iI s531 87 = iI s526 87 := by rw [hs531]; rfl
                have ws531_88 : iI s531 88 = iI s526 88 := by rw [hs531]; rfl
                exact w_vret X.1 q hRt (ax_d X (show cdA 213 170 = some (.return_, 1, 0, 0, 0) from rfl)) (Nat.zero_le _) (Nat.zero_le _) ⟨_, rfl, Is531, Fs531, rfl, by omega⟩
          ·
            exact w_vret X.1 q hRt (ax_d X (show cdA 213 94 = some (.return_, 1, 0, 0, 0) from rfl)) (Nat.zero_le _) (Nat.zero_le _) ⟨_, rfl, Is483, Gs483, rfl, by omega⟩
        ·
          refine z_aload_n X (x := A 179) (show cdA 213 78 = some (.aload_n 0, 1, 0, 0, 0) from rfl) (List.Mem.tail _ (List.Mem.tail _ (List.Mem.tail _ (List.Mem.head _)))) ?_
          refine z_const X (show cdA 213 79 = some (.iconst 3, 1, 0, 0, 0) from rfl) ?_
          refine z_aload_n X (x := A 179) (show cdA 213 80 = some (.aload_n 0, 1, 0, 0, 0) from rfl) (List.Mem.tail _ (List.Mem.tail _ (List.Mem.tail _ (List.Mem.head _)))) ?_
          refine z_getI X 179 (show cdA 213 81 = some (.getfield 184, 3, 12, 4, 0) from rfl) (by decide) rfl rfl ?_
          have b532 : (0 : Int) ≤ iI s483 77 ∧ iI s483 77 ≤ 400 := Is483.1 77
          refine z_callV X 179 (rm := rmN 194) (As := [.int (Int32.ofInt 3), .int (Int32.ofInt (iI s483 77))]) (st := []) (show cdA 213 84 = some (.invokevirtual 204, 3, 194, 0, 0) from rfl) rfl (by decide) rfl (by rw [E.1, E.2.1, E.2.2.1]; exact k_wrong G Is483 (by omega) (by omega)) ⟨by rw [E.2.2.2]; exact (show (rmN 194).frames + 1 ≤ (rmN 213).frames by decide), by rw [E.2.2.2]; exact (show 8 + (mNL (miB 194) + 11) + (rmN 194).locals ≤ (rmN 213).locals by decide), by rw [E.2.2.2]; exact (show 0 + (rmN 194).cells ≤ (rmN 213).cells by decide), by rw [E.2.2.2]; exact (show 0 + (rmN 194).slots ≤ (rmN 213).slots by decide)⟩ (Nat.le_of_ble_eq_true rfl) (fun vv s533 hq => ?_) (fun ee s533 hq => ?_)
          rotate_left
          · obtain ⟨Is533, Fs533, hv, hps533⟩ := hq; cases hv
          obtain ⟨Is533, Fs533, hv, hps533⟩ := hq
          cases hv
          have Gs533 := fm_ts Gs483 Fs533 (by decide) (by decide)
          have ws533_77 : iI s533 77 = iI s483 77 := fm_i Fs533 (by decide)
          have ws533_75 : iI s533 75 = iI s483 75 := fm_i Fs533 (by decide)
          have b535 : (0 : Int) ≤ iI s533 79 ∧ iI s533 79 ≤ 9 := Is533.1 79
          have ws533_78 : iI s533 78 = iI s483 78 := fm_i Fs533 (by decide)
          have ws533_86 : iI s533 86 = iI s483 86 := fm_i Fs533 (by decide)
          have ws533_87 : iI s533 87 = iI s483 87 := fm_i Fs533 (by decide)
          have ws533_88 : iI s533 88 = iI s483 88 := fm_i Fs533 (by decide)
          show WS k 87 [(3, .int (Int32.ofInt 0)), (2, .int (Int32.ofInt 1)), (1, .int (Int32.ofInt e9)), (0, .ref (A 179))] [] (Wd A dT s533) 0 0
          refine z_aload_n X (x := A 179) (show cdA 213 87 = some (.aload_n 0, 1, 0, 0, 0) from rfl) (List.Mem.tail _ (List.Mem.tail _ (List.Mem.tail _ (List.Mem.head _)))) ?_
          refine z_getI X 179 (show cdA 213 88 = some (.getfield 191, 3, 12, 6, 0) from rfl) (by decide) rfl rfl ?_
          have b536 : (0 : Int) ≤ iI s533 79 ∧ iI s533 79 ≤ 9 := Is533.1 79
          refine z_if_eq X (t := 95) (show cdA 213 91 = some (.ifCond .eq 4, 3, 0, 0, 0) from rfl) (by decide) ⟨by omega, by omega⟩ (fun g537 => ?_) (fun g537 => ?_)
          ·
            refine z_aload_n X (x := A 179) (show cdA 213 95 = some (.aload_n 0, 1, 0, 0, 0) from rfl) (List.Mem.tail _ (List.Mem.tail _ (List.Mem.tail _ (List.Mem.head _)))) ?_
            refine z_callV X 179 (rm := rmN 203) (As := []) (st := []) (show cdA 213 96 = some (.invokevirtual 254, 3, 203, 0, 0) from rfl) rfl (by decide) rfl (by rw [E.1, E.2.1, E.2.2.1]; exact k_skipWord G Is533 (by omega)) ⟨by rw [E.2.2.2]; exact (show (rmN 203).frames + 1 ≤ (rmN 213).frames by decide), by rw [E.2.2.2]; exact (show 8 + (mNL (miB 203) + 11) + (rmN 203).locals ≤ (rmN 213).locals by decide), by rw [E.2.2.2]; exact (show 0 + (rmN 203).cells ≤ (rmN 213).cells by decide), by rw [E.2.2.2]; exact (show 0 + (rmN 203).slots ≤ (rmN 213).slots by decide)⟩ (Nat.le_of_ble_eq_true rfl) (fun vv s538 hq => ?_) (fun ee s538 hq => ?_)
            rotate_left
            · obtain ⟨Is538, Fs538, hv, hps538⟩ := hq; cases hv
            obtain ⟨Is538, Fs538, hv, hps538⟩ := hq
            cases hv
            have Gs538 := fm_ts Gs533 Fs538 (by decide) (by decide)
            have b540 : (0 : Int) ≤ iI s538 77 ∧ iI s538 77 ≤ 400 := Is538.1 77
            have ws538_75 : iI s538 75 = iI s533 75 := fm_i Fs538 (by decide)
            have ws538_79 : iI s538 79 = iI s533 79 := fm_i Fs538 (by decide)
            have ws538_78 : iI s538 78 = iI s533 78 := fm_i Fs538 (by decide)
            have ws538_86 : iI s538 86 = iI s533 86 := fm_i Fs538 (by decide)
            have ws538_87 : iI s538 87 = iI s533 87 := fm_i Fs538 (by decide)
            have ws538_88 : iI s538 88 = iI s533 88 := fm_i Fs538 (by decide)
            show WS k 99 [(3, .int (Int32.ofInt 0)), (2, .int (Int32.ofInt 1)), (1, .int (Int32.ofInt e9)), (0, .ref (A 179))] [] (Wd A dT s538) 0 0
            refine z_load_n X (x := 1) (show cdA 213 99 = some (.iload_n 2, 1, 0, 0, 0) from rfl) (List.Mem.tail _ (List.Mem.head _)) ?_
            refine z_if_eq X (t := 119) (show cdA 213 100 = some (.ifCond .eq 19, 3, 0, 0, 0) from rfl) (by decide) ⟨by omega, by omega⟩ (fun g541 => ?_) (fun g541 => ?_)
            ·
              refine z_aload_n X (x := A 179) (show cdA 213 119 = some (.aload_n 0, 1, 0, 0, 0) from rfl) (List.Mem.tail _ (List.Mem.tail _ (List.Mem.tail _ (List.Mem.head _)))) ?_
              refine s_getR X 179 (show cdA 213 120 = some (.getfield 29, 3, 12, 20, 0) from rfl) (by decide) rfl rfl ?_
              refine z_aload_n X (x := A 179) (show cdA 213 123 = some (.aload_n 0, 1, 0, 0, 0) from rfl) (List.Mem.tail _ (List.Mem.tail _ (List.Mem.tail _ (List.Mem.head _)))) ?_
              refine z_getI X 179 (show cdA 213 124 = some (.getfield 288, 3, 12, 17, 0) from rfl) (by decide) rfl rfl ?_
              have b542 : (0 : Int) ≤ iI s538 87 ∧ iI s538 87 ≤ 8 := Is538.1 87
              refine z_aload_n X (x := A 179) (show cdA 213 127 = some (.aload_n 0, 1, 0, 0, 0) from rfl) (List.Mem.tail _ (List.Mem.tail _ (List.Mem.tail _ (List.Mem.head _)))) ?_
              refine z_getI X 179 (show cdA 213 128 = some (.getfield 184, 3, 12, 4, 0) from rfl) (by decide) rfl rfl ?_
              have b543 : (0 : Int) ≤ iI s538 77 ∧ iI s538 77 ≤ 400 := Is538.1 77
              refine z_ast X 183 (show cdA 213 131 = some (.iastore, 1, 0, 0, 0) from rfl) (by decide) rfl (by omega) (show (iI s538 87) < 8 by omega) (by decide) ?_
              obtain ⟨s544, hs544⟩ : ∃ x0, x0 = uC s538 160 ((iI s538 87)).toNat (Int32.ofInt (iI s538 77)) := ⟨_, rfl⟩
              rw [← hs544]
              have Is544 : Bd s544 := by rw [hs544]; exact bd_C Is538 (show (0 : Int) ≤ (iI s538 77) ∧ (iI s538 77) ≤ 200 by omega) ⟨by omega, by omega⟩
              have Fs544 := fm_C (i := ((iI s538 87)).toNat) (x := Int32.ofInt (iI s538 77)) Gs538 (show 160 ∈ _ by decide)
              rw [← hs544] at Fs544
              have ws544_77 : iI s544 77 = iI s538 77 := by rw [hs544]; rfl
              have ws544_75 : iI s544 75 = iI s538 75 := by rw [hs544]; rfl
              have ws544_79 : iI s544 79 = iI s538 79 := by rw [hs544]; rfl
              have ws544_78 : iI s544 78 = iI s538 78 := by rw [hs544]; rfl
              have ws544_86 : iI s544 86 = iI s538 86 := by rw [hs544]; rfl
              have ws544_87 : iI s544 87 = iI s538 87 := by rw [hs544]; rfl
              have ws544_88 : iI s544 88 = iI s538 88 := by rw [hs544]; rfl
              refine z_aload_n X (x := A 179) (show cdA 213 132 = some (.aload_n 0, 1, 0, 0, 0) from rfl) (List.Mem.tail _ (List.Mem.tail _ (List.Mem.tail _ (List.Mem.head _)))) ?_
              refine w_dup X.1 (ax_d X (show cdA 213 133 = some (.dup, 1, 0, 0, 0) from rfl)) rfl ?_
              refine z_getI X 179 (show cdA 213 134 = some (.getfield 288, 3, 12, 17, 0) from rfl) (by decide) rfl rfl ?_
              have b545 : (0 : Int) ≤ iI s544 87 ∧ iI s544 87 ≤ 8 := Is544.1 87
              refine z_const X (show cdA 213 137 = some (.iconst 1, 1, 0, 0, 0) from rfl) ?_
              refine z_add X (show cdA 213 138 = some (.iadd, 1, 0, 0, 0) from rfl) ?_
              refine s_putI X 179 (show cdA 213 139 = some (.putfield 288, 3, 12, 17, 0) from rfl) (by decide) rfl rfl (by decide) rfl rfl rfl ?_
              obtain ⟨s546, hs546⟩ : ∃ x0, x0 = uI s544 87 (Int32.ofInt ((iI s544 87) + 1)) := ⟨_, rfl⟩
              rw [← hs546]
              have Is546 : Bd s546 := by rw [hs546]; exact bd_I Is544 (show (0 : Int) ≤ ((iI s544 87) + 1) ∧ ((iI s544 87) + 1) ≤ 8 by omega) ⟨by omega, by omega⟩
              have Fs546 := fm_I (x := Int32.ofInt ((iI s544 87) + 1)) Fs544 (show 87 ∈ _ by decide)
              rw [← hs546] at Fs546
              have vs546 : iI s546 87 = ((iI s544 87) + 1) := by rw [hs546]; exact iI_u ⟨by omega, by omega⟩
              have ws546_77 : iI s546 77 = iI s544 77 := by rw [hs546]; rfl
              have ws546_75 : iI s546 75 = iI s544 75 := by rw [hs546]; rfl
              have ws546_79 : iI s546 79 = iI s544 79 := by rw [hs546]; rfl
              have ws546_78 : iI s546 78 = iI s544 78 := by rw [hs546]; rfl
              have ws546_86 : iI s546 86 = iI s544 86 := by rw [hs546]; rfl
              have ws546_88 : iI s546 88 = iI s544 88 := by rw [hs546]; rfl
              refine z_aload_n X (x := A 179) (show cdA 213 142 = some (.aload_n 0, 1, 0, 0, 0) from rfl) (List.Mem.tail _ (List.Mem.tail _ (List.Mem.tail _ (List.Mem.head _)))) ?_
              refine z_callV X 179 (rm := rmN 212) (As := []) (st := []) (show cdA 213 143 = some (.invokevirtual 276, 3, 212, 0, 0) from rfl) rfl (by decide) rfl (by rw [E.1, E.2.1, E.2.2.1]; exact k_ors G Is546 (by omega) (by omega) (by omega) (by omega)) ⟨by rw [E.2.2.2]; exact (show (rmN 212).frames + 1 ≤ (rmN 213).frames by decide), by rw [E.2.2.2]; exact (show 8 + (mNL (miB 212) + 11) + (rmN 212).locals ≤ (rmN 213).locals by decide), by rw [E.2.2.2]; exact (show 0 + (rmN 212).cells ≤ (rmN 213).cells by decide), by rw [E.2.2.2]; exact (show 0 + (rmN 212).slots ≤ (rmN 213).slots by decide)⟩ (Nat.le_of_ble_eq_true rfl) (fun vv s547 hq => ?_) (fun ee s547 hq => ?_)
              rotate_left
              · obtain ⟨Is547, Fs547, e548, hv, hrs547, hps547⟩ := hq; cases hv
              obtain ⟨Is547, Fs547, e548, hv, hrs547, hps547⟩ := hq
              cases hv
              have Gs547 := fm_ts Fs546 Fs547 (by decide) (by decide)
              have b549 : (0 : Int) ≤ iI s547 77 ∧ iI s547 77 ≤ 400 := Is547.1 77
              have ws547_75 : iI s547 75 = iI s546 75 := fm_i Fs547 (by decide)
              have b550 : (0 : Int) ≤ iI s547 79 ∧ iI s547 79 ≤ 9 := Is547.1 79
              have b551 : (0 : Int) ≤ iI s547 78 ∧ iI s547 78 ≤ 8 := Is547.1 78
              have ws547_86 : iI s547 86 = iI s546 86 := fm_i Fs547 (by decide)
              have ws547_87 : iI s547 87 = iI s546 87 := fm_i Fs547 (by decide)
              have ws547_88 : iI s547 88 = iI s546 88 := fm_i Fs547 (by decide)
              show WS k 146 [(3, .int (Int32.ofInt 0)), (2, .int (Int32.ofInt 1)), (1, .int (Int32.ofInt e9)), (0, .ref (A 179))] [.int (Int32.ofInt e548)] (Wd A dT s547) 0 0
              refine w_pop X.1 (ax_d X (show cdA 213 146 = some (.pop, 1, 0, 0, 0) from rfl)) rfl ?_
              refine z_aload_n X (x := A 179) (show cdA 213 147 = some (.aload_n 0, 1, 0, 0, 0) from rfl) (List.Mem.tail _ (List.Mem.tail _ (List.Mem.tail _ (List.Mem.head _)))) ?_
              refine z_getI X 179 (show cdA 213 148 = some (.getfield 191, 3, 12, 6, 0) from rfl) (by decide) rfl rfl ?_
              have b552 : (0 : Int) ≤ iI s547 79 ∧ iI s547 79 ≤ 9 := Is547.1 79
              refine z_if_ne X (t := 160) (show cdA 213 151 = some (.ifCond .ne 9, 3, 1, 0, 0) from rfl) (by decide) ⟨by omega, by omega⟩ (fun g553 => ?_) (fun g553 => ?_)
              ·
                refine z_aload_n X (x := A 179) (show cdA 213 160 = some (.aload_n 0, 1, 0, 0, 0) from rfl) (List.Mem.tail _ (List.Mem.tail _ (List.Mem.tail _ (List.Mem.head _)))) ?_
                refine w_dup X.1 (ax_d X (show cdA 213 161 = some (.dup, 1, 0, 0, 0) from rfl)) rfl ?_
                refine z_getI X 179 (show cdA 213 162 = some (.getfield 282, 3, 12, 16, 0) from rfl) (by decide) rfl rfl ?_
                have b554 : (0 : Int) ≤ iI s547 86 ∧ iI s547 86 ≤ 8 := Is547.1 86
                refine z_const X (show cdA 213 165 = some (.iconst 1, 1, 0, 0, 0) from rfl) ?_
                refine z_add X (show cdA 213 166 = some (.iadd, 1, 0, 0, 0) from rfl) ?_
                refine s_putI X 179 (show cdA 213 167 = some (.putfield 282, 3, 12, 16, 0) from rfl) (by decide) rfl rfl (by decide) rfl rfl rfl ?_
                obtain ⟨s555, hs555⟩ : ∃ x0, x0 = uI s547 86 (Int32.ofInt ((iI s547 86) + 1)) := ⟨_, rfl⟩
                rw [← hs555]
                have Is555 : Bd s555 := by rw [hs555]; exact bd_I Is547 (show (0 : Int) ≤ ((iI s547 86) + 1) ∧ ((iI s547 86) + 1) ≤ 8 by omega) ⟨by omega, by omega⟩
                have Fs555 := fm_I (x := Int32.ofInt ((iI s547 86) + 1)) Gs547 (show 86 ∈ _ by decide)
                rw [← hs555] at Fs555
                have vs555 : iI s555 86 = ((iI s547 86) + 1) := by rw [hs555]; exact iI_u ⟨by omega, by omega⟩
                have ws555_77 : iI s555 77 = iI s547 77 := by rw [hs555]; rfl
                have ws555_75 : iI s555 75 = iI s547 75 := by rw [hs555]; rfl
                have ws555_79 : iI s555 79 = iI s547 79 := by rw [hs555]; rfl
                have ws555_78 : iI s555 78 = iI s547 78 := by rw [hs555]; rfl
                have ws555_87 : iI s555 87 = iI s547 87 := by rw [hs555]; rfl
                have ws555_88 : iI s555 88 = iI s547 88 := by rw [hs555]; rfl
                exact w_vret X.1 q hRt (ax_d X (show cdA 213 170 = some (.return_, 1, 0, 0, 0) from rfl)) (Nat.zero_le _) (Nat.zero_le _) ⟨_, rfl, Is555, Fs555, rfl, by omega⟩
              ·
                refine z_aload_n X (x := A 179) (show cdA 213 154 = some (.aload_n 0, 1, 0, 0, 0) from rfl) (List.Mem.tail _ (List.Mem.tail _ (List.Mem.tail _ (List.Mem.head _)))) ?_
                refine z_bipush X (show cdA 213 155 = some (.bipush 59, 2, 0, 0, 59) from rfl) ?_
                refine z_callV X 179 (rm := rmN 204) (As := [.int (Int32.ofInt 59)]) (st := []) (show cdA 213 157 = some (.invokevirtual 263, 3, 204, 0, 0) from rfl) rfl (by decide) rfl (by rw [E.1, E.2.1, E.2.2.1]; exact k_sign G Is547 (by omega) (by omega)) ⟨by rw [E.2.2.2]; exact (show (rmN 204).frames + 1 ≤ (rmN 213).frames by decide), by rw [E.2.2.2]; exact (show 8 + (mNL (miB 204) + 11) + (rmN 204).locals ≤ (rmN 213).locals by decide), by rw [E.2.2.2]; exact (show 0 + (rmN 204).cells ≤ (rmN 213).cells by decide), by rw [E.2.2.2]; exact (show 0 + (rmN 204).slots ≤ (rmN 213).slots by decide)⟩ (Nat.le_of_ble_eq_true rfl) (fun vv s556 hq => ?_) (fun ee s556 hq => ?_)
                rotate_left
                · obtain ⟨Is556, Fs556, hv, hps556⟩ := hq; cases hv
                obtain ⟨Is556, Fs556, hv, hps556⟩ := hq
                cases hv
                have Gs556 := fm_ts Gs547 Fs556 (by decide) (by decide)
                have b558 : (0 : Int) ≤ iI s556 77 ∧ iI s556 77 ≤ 400 := Is556.1 77
                have ws556_75 : iI s556 75 = iI s547 75 := fm_i Fs556 (by decide)
                have b559 : (0 : Int) ≤ iI s556 79 ∧ iI s556 79 ≤ 9 := Is556.1 79
                have ws556_78 : iI s556 78 = iI s547 78 := fm_i Fs556 (by decide)
                have ws556_86 : iI s556 86 = iI s547 86 := fm_i Fs556 (by decide)
                have ws556_87 : iI s556 87 = iI s547 87 := fm_i Fs556 (by decide)
                have ws556_88 : iI s556 88 = iI s547 88 := fm_i Fs556 (by decide)
                show WS k 160 [(3, .int (Int32.ofInt 0)), (2, .int (Int32.ofInt 1)), (1, .int (Int32.ofInt e9)), (0, .ref (A 179))] [] (Wd A dT s556) 0 0
                refine z_aload_n X (x := A 179) (show cdA 213 160 = some (.aload_n 0, 1, 0, 0, 0) from rfl) (List.Mem.tail _ (List.Mem.tail _ (List.Mem.tail _ (List.Mem.head _)))) ?_
                refine w_dup X.1 (ax_d X (show cdA 213 161 = some (.dup, 1, 0, 0, 0) from rfl)) rfl ?_
                refine z_getI X 179 (show cdA 213 162 = some (.getfield 282, 3, 12, 16, 0) from rfl) (by decide) rfl rfl ?_
                have b560 : (0 : Int) ≤ iI s556 86 ∧ iI s556 86 ≤ 8 := Is556.1 86
                refine z_const X (show cdA 213 165 = some (.iconst 1, 1, 0, 0, 0) from rfl) ?_
                refine z_add X (show cdA 213 166 = some (.iadd, 1, 0, 0, 0) from rfl) ?_
                refine s_putI X 179 (show cdA 213 167 = some (.putfield 282, 3, 12, 16, 0) from rfl) (by decide) rfl rfl (by decide) rfl rfl rfl ?_
                obtain ⟨s561, hs561⟩ : ∃ x0, x0 = uI s556 86 (Int32.ofInt ((iI s556 86) + 1)) := ⟨_, rfl⟩
                rw [← hs561]
                have Is561 : Bd s561 := by rw [hs561]; exact bd_I Is556 (show (0 : Int) ≤ ((iI s556 86) + 1) ∧ ((iI s556 86) + 1) ≤ 8 by omega) ⟨by omega, by omega⟩
                have Fs561 := fm_I (x := Int32.ofInt ((iI s556 86) + 1)) Gs556 (show 86 ∈ _ by decide)
                rw [← hs561] at Fs561
                have vs561 : iI s561 86 = ((iI s556 86) + 1) := by rw [hs561]; exact iI_u ⟨by omega, by omega⟩
                have ws561_77 : iI s561 77 = iI s556 77 := by rw [hs561]; rfl
                have ws561_75 : iI s561 75 = iI s556 75 := by rw [hs561]; rfl
                have ws561_79 : iI s561 79 = iI s556 79 := by rw [hs561]; rfl
                have ws561_78 : iI s561 78 = iI s556 78 := by rw [hs561]; rfl
                have ws561_87 : iI s561 87 = iI s556 87 := by rw [hs561]; rfl
                have ws561_88 : iI s561 88 = iI s556 88 := by rw [hs561]; rfl
                exact w_vret X.1 q hRt (ax_d X (show cdA 213 170 = some (.return_, 1, 0, 0, 0) from rfl)) (Nat.zero_le _) (Nat.zero_le _) ⟨_, rfl, Is561, Fs561, rfl, by omega⟩
            ·
              refine z_aload_n X (x := A 179) (show cdA 213 103 = some (.aload_n 0, 1, 0, 0, 0) from rfl) (List.Mem.tail _ (List.Mem.tail _ (List.Mem.tail _ (List.Mem.head _)))) ?_
              refine z_aload_n X (x := A 179) (show cdA 213 104 = some (.aload_n 0, 1, 0, 0, 0) from rfl) (List.Mem.tail _ (List.Mem.tail _ (List.Mem.tail _ (List.Mem.head _)))) ?_
              refine z_getI X 179 (show cdA 213 105 = some (.getfield 184, 3, 12, 4, 0) from rfl) (by decide) rfl rfl ?_
              have b562 : (0 : Int) ≤ iI s538 77 ∧ iI s538 77 ≤ 400 := Is538.1 77
              refine s_putI X 179 (show cdA 213 108 = some (.putfield 285, 3, 12, 18, 0) from rfl) (by decide) rfl rfl (by decide) rfl rfl rfl ?_
              obtain ⟨s563, hs563⟩ : ∃ x0, x0 = uI s538 88 (Int32.ofInt (iI s538 77)) := ⟨_, rfl⟩
              rw [← hs563]
              have Is563 : Bd s563 := by rw [hs563]; exact bd_I Is538 (show ((-1) : Int) ≤ (iI s538 77) ∧ (iI s538 77) ≤ 200 by omega) ⟨by omega, by omega⟩
              have Fs563 := fm_I (x := Int32.ofInt (iI s538 77)) Gs538 (show 88 ∈ _ by decide)
              rw [← hs563] at Fs563
              have vs563 : iI s563 88 = (iI s538 77) := by rw [hs563]; exact iI_u ⟨by omega, by omega⟩
              have ws563_77 : iI s563 77 = iI s538 77 := by rw [hs563]; rfl
              have ws563_75 : iI s563 75 = iI s538 75 := by rw [hs563]; rfl
              have ws563_79 : iI s563 79 = iI s538 79 := by rw [hs563]; rfl
              have ws563_78 : iI s563 78 = iI s538 78 := by rw [hs563]; rfl
              have ws563_86 : iI s563 86 = iI s538 86 := by rw [hs563]; rfl
              have ws563_87 : iI s563 87 = iI s538 87 := by rw [hs563]; rfl
              refine z_aload_n X (x := A 179) (show cdA 213 111 = some (.aload_n 0, 1, 0, 0, 0) from rfl) (List.Mem.tail _ (List.Mem.tail _ (List.Mem.tail _ (List.Mem.head _)))) ?_
              refine z_callV X 179 (rm := rmN 209) (As := []) (st := []) (show cdA 213 112 = some (.invokevirtual 260, 3, 209, 0, 0) from rfl) rfl (by decide) rfl (by rw [E.1, E.2.1, E.2.2.1]; exact k_sum G Is563 (by omega) (by omega) (by omega)) ⟨by rw [E.2.2.2]; exact (show (rmN 209).frames + 1 ≤ (rmN 213).frames by decide), by rw [E.2.2.2]; exact (show 8 + (mNL (miB 209) + 11) + (rmN 209).locals ≤ (rmN 213).locals by decide), by rw [E.2.2.2]; exact (show 0 + (rmN 209).cells ≤ (rmN 213).cells by decide), by rw [E.2.2.2]; exact (show 0 + (rmN 209).slots ≤ (rmN 213).slots by decide)⟩ (Nat.le_of_ble_eq_true rfl) (fun vv s564 hq => ?_) (fun ee s564 hq => ?_)
              rotate_left
              · obtain ⟨Is564, Fs564, e565, hv, hrs564, hps564⟩ := hq; cases hv
              obtain ⟨Is564, Fs564, e565, hv, hrs564, hps564⟩ := hq
              cases hv
              have Gs564 := fm_ts Fs563 Fs564 (by decide) (by decide)
              have b566 : (0 : Int) ≤ iI s564 77 ∧ iI s564 77 ≤ 400 := Is564.1 77
              have ws564_75 : iI s564 75 = iI s563 75 := fm_i Fs564 (by decide)
              have b567 : (0 : Int) ≤ iI s564 79 ∧ iI s564 79 ≤ 9 := Is564.1 79
              have b568 : (0 : Int) ≤ iI s564 78 ∧ iI s564 78 ≤ 8 := Is564.1 78
              have ws564_86 : iI s564 86 = iI s563 86 := fm_i Fs564 (by decide)
              have ws564_87 : iI s564 87 = iI s563 87 := fm_i Fs564 (by decide)
              have ws564_88 : iI s564 88 = iI s563 88 := fm_i Fs564 (by decide)
              show WS k 115 [(3, .int (Int32.ofInt 0)), (2, .int (Int32.ofInt 1)), (1, .int (Int32.ofInt e9)), (0, .ref (A 179))] [.int (Int32.ofInt e565)] (Wd A dT s564) 0 0
              refine w_pop X.1 (ax_d X (show cdA 213 115 = some (.pop, 1, 0, 0, 0) from rfl)) rfl ?_
              refine z_goto X (t := 147) (show cdA 213 116 = some (.goto 31, 3, 0, 0, 0) from rfl) (by decide) ?_
              refine z_aload_n X (x := A 179) (show cdA 213 147 = some (.aload_n 0, 1, 0, 0, 0) from rfl) (List.Mem.tail _ (List.Mem.tail _ (List.Mem.tail _ (List.Mem.head _)))) ?_
              refine z_getI X 179 (show cdA 213 148 = some (.getfield 191, 3, 12, 6, 0) from rfl) (by decide) rfl rfl ?_
              have b569 : (0 : Int) ≤ iI s564 79 ∧ iI s564 79 ≤ 9 := Is564.1 79
              refine z_if_ne X (t := 160) (show cdA 213 151 = some (.ifCond .ne 9, 3, 1, 0, 0) from rfl) (by decide) ⟨by omega, by omega⟩ (fun g570 => ?_) (fun g570 => ?_)
              ·
                refine z_aload_n X (x := A 179) (show cdA 213 160 = some (.aload_n 0, 1, 0, 0, 0) from rfl) (List.Mem.tail _ (List.Mem.tail _ (List.Mem.tail _ (List.Mem.head _)))) ?_
                refine w_dup X.1 (ax_d X (show cdA 213 161 = some (.dup, 1, 0, 0, 0) from rfl)) rfl ?_
                refine z_getI X 179 (show cdA 213 162 = some (.getfield 282, 3, 12, 16, 0) from rfl) (by decide) rfl rfl ?_
                have b571 : (0 : Int) ≤ iI s564 86 ∧ iI s564 86 ≤ 8 := Is564.1 86
                refine z_const X (show cdA 213 165 = some (.iconst 1, 1, 0, 0, 0) from rfl) ?_
                refine z_add X (show cdA 213 166 = some (.iadd, 1, 0, 0, 0) from rfl) ?_
                refine s_putI X 179 (show cdA 213 167 = some (.putfield 282, 3, 12, 16, 0) from rfl) (by decide) rfl rfl (by decide) rfl rfl rfl ?_
                obtain ⟨s572, hs572⟩ : ∃ x0, x0 = uI s564 86 (Int32.ofInt ((iI s564 86) + 1)) := ⟨_, rfl⟩
                rw [← hs572]
                have Is572 : Bd s572 := by rw [hs572]; exact bd_I Is564 (show (0 : Int) ≤ ((iI s564 86) + 1) ∧ ((iI s564 86) + 1) ≤ 8 by omega) ⟨by omega, by omega⟩
                have Fs572 := fm_I (x := Int32.ofInt ((iI s564 86) + 1)) Gs564 (show 86 ∈ _ by decide)
                rw [← hs572] at Fs572
                have vs572 : iI s572 86 = ((iI s564 86) + 1) := by rw [hs572]; exact iI_u ⟨by omega, by omega⟩
                have ws572_77 : iI s572 77 = iI s564 77 := by rw [hs572]; rfl
                have ws572_75 : iI s572 75 = iI s564 75 := by rw [hs572]; rfl
                have ws572_79 : iI s572 79 = iI s564 79 := by rw [hs572]; rfl
                have ws572_78 : iI s572 78 = iI s564 78 := by rw [hs572]; rfl
                have ws572_87 : iI s572 87 = iI s564 87 := by rw [hs572]; rfl
                have ws572_88 : iI s572 88 = iI s564 88 := by rw [hs572]; rfl
                exact w_vret X.1 q hRt (ax_d X (show cdA 213 170 = some (.return_, 1, 0, 0, 0) from rfl)) (Nat.zero_le _) (Nat.zero_le _) ⟨_, rfl, Is572, Fs572, rfl, by omega⟩
              ·
                refine z_aload_n X (x := A 179) (show cdA 213 154 = some (.aload_n 0, 1, 0, 0, 0) from rfl) (List.Mem.tail _ (List.Mem.tail _ (List.Mem.tail _ (List.Mem.head _)))) ?_
                refine z_bipush X (show cdA 213 155 = some (.bipush 59, 2, 0, 0, 59) from rfl) ?_
                refine z_callV X 179 (rm := rmN 204) (As := [.int (Int32.ofInt 59)]) (st := []) (show cdA 213 157 = some (.invokevirtual 263, 3, 204, 0, 0) from rfl) rfl (by decide) rfl (by rw [E.1, E.2.1, E.2.2.1]; exact k_sign G Is564 (by omega) (by omega)) ⟨by rw [E.2.2.2]; exact (show (rmN 204).frames + 1 ≤ (rmN 213).frames by decide), by rw [E.2.2.2]; exact (show 8 + (mNL (miB 204) + 11) + (rmN 204).locals ≤ (rmN 213).locals by decide), by rw [E.2.2.2]; exact (show 0 + (rmN 204).cells ≤ (rmN 213).cells by decide), by rw [E.2.2.2]; exact (show 0 + (rmN 204).slots ≤ (rmN 213).slots by decide)⟩ (Nat.le_of_ble_eq_true rfl) (fun vv s573 hq => ?_) (fun ee s573 hq => ?_)
                rotate_left
                · obtain ⟨Is573, Fs573, hv, hps573⟩ := hq; cases hv
                obtain ⟨Is573, Fs573, hv, hps573⟩ := hq
                cases hv
                have Gs573 := fm_ts Gs564 Fs573 (by decide) (by decide)
                have b575 : (0 : Int) ≤ iI s573 77 ∧ iI s573 77 ≤ 400 := Is573.1 77
                have ws573_75 : iI s573 75 = iI s564 75 := fm_i Fs573 (by decide)
                have b576 : (0 : Int) ≤ iI s573 79 ∧ iI s573 79 ≤ 9 := Is573.1 79
                have ws573_78 : iI s573 78 = iI s564 78 := fm_i Fs573 (by decide)
                have ws573_86 : iI s573 86 = iI s564 86 := fm_i Fs573 (by decide)
                have ws573_87 : iI s573 87 = iI s564 87 := fm_i Fs573 (by decide)
                have ws573_88 : iI s573 88 = iI s564 88 := fm_i Fs573 (by decide)
                show WS k 160 [(3, .int (Int32.ofInt 0)), (2, .int (Int32.ofInt 1)), (1, .int (Int32.ofInt e9)), (0, .ref (A 179))] [] (Wd A dT s573) 0 0
                refine z_aload_n X (x := A 179) (show cdA 213 160 = some (.aload_n 0, 1, 0, 0, 0) from rfl) (List.Mem.tail _ (List.Mem.tail _ (List.Mem.tail _ (List.Mem.head _)))) ?_
                refine w_dup X.1 (ax_d X (show cdA 213 161 = some (.dup, 1, 0, 0, 0) from rfl)) rfl ?_
                refine z_getI X 179 (show cdA 213 162 = some (.getfield 282, 3, 12, 16, 0) from rfl) (by decide) rfl rfl ?_
                have b577 : (0 : Int) ≤ iI s573 86 ∧ iI s573 86 ≤ 8 := Is573.1 86
                refine z_const X (show cdA 213 165 = some (.iconst 1, 1, 0, 0, 0) from rfl) ?_
                refine z_add X (show cdA 213 166 = some (.iadd, 1, 0, 0, 0) from rfl) ?_
                refine s_putI X 179 (show cdA 213 167 = some (.putfield 282, 3, 12, 16, 0) from rfl) (by decide) rfl rfl (by decide) rfl rfl rfl ?_
                obtain ⟨s578, hs578⟩ : ∃ x0, x0 = uI s573 86 (Int32.ofInt ((iI s573 86) + 1)) := ⟨_, rfl⟩
                rw [← hs578]
                have Is578 : Bd s578 := by rw [hs578]; exact bd_I Is573 (show (0 : Int) ≤ ((iI s573 86) + 1) ∧ ((iI s573 86) + 1) ≤ 8 by omega) ⟨by omega, by omega⟩
                have Fs578 := fm_I (x := Int32.ofInt ((iI s573 86) + 1)) Gs573 (show 86 ∈ _ by decide)
                rw [← hs578] at Fs578
                have vs578 : iI s578 86 = ((iI s573 86) + 1) := by rw [hs578]; exact iI_u ⟨by omega, by omega⟩
                have ws578_77 : iI s578 77 = iI s573 77 := by rw [hs578]; rfl
                have ws578_75 : iI s578 75 = iI s573 75 := by rw [hs578]; rfl
                have ws578_79 : iI s578 79 = iI s573 79 := by rw [hs578]; rfl
                have ws578_78 : iI s578 78 = iI s573 78 := by rw [hs578]; rfl
                have ws578_87 : iI s578 87 = iI s573 87 := by rw [hs578]; rfl
                have ws578_88 : iI s578 88 = iI s573 88 := by rw [hs578]; rfl
                exact w_vret X.1 q hRt (ax_d X (show cdA 213 170 = some (.return_, 1, 0, 0, 0) from rfl)) (Nat.zero_le _) (Nat.zero_le _) ⟨_, rfl, Is578, Fs578, rfl, by omega⟩
          ·
            exact w_vret X.1 q hRt (ax_d X (show cdA 213 94 = some (.return_, 1, 0, 0, 0) from rfl)) (Nat.zero_le _) (Nat.zero_le _) ⟨_, rfl, Is533, Gs533, rfl, by omega⟩
      ·
        refine z_load_n X (x := 0) (show cdA 213 53 = some (.iload_n 3, 1, 0, 0, 0) from rfl) (List.Mem.head _) ?_
        refine z_if_ne X (t := 69) (show cdA 213 54 = some (.ifCond .ne 15, 3, 1, 0, 0) from rfl) (by decide) ⟨by omega, by omega⟩ (fun g579 => ?_) (fun g579 => ?_)
        ·
          refine z_aload_n X (x := A 179) (show cdA 213 69 = some (.aload_n 0, 1, 0, 0, 0) from rfl) (List.Mem.tail _ (List.Mem.tail _ (List.Mem.tail _ (List.Mem.head _)))) ?_
          refine z_getI X 179 (show cdA 213 70 = some (.getfield 282, 3, 12, 16, 0) from rfl) (by decide) rfl rfl ?_
          have b580 : (0 : Int) ≤ iI s483 86 ∧ iI s483 86 ≤ 8 := Is483.1 86
          refine z_bipush X (show cdA 213 73 = some (.bipush 8, 2, 0, 0, 8) from rfl) ?_
          refine z_icmp_ne X (t := 87) (show cdA 213 75 = some (.if_icmp .ne 12, 3, 1, 0, 0) from rfl) (by decide) ⟨by omega, by omega⟩ ⟨by omega, by omega⟩ (fun g581 => ?_) (fun g581 => ?_)
          ·
            refine z_aload_n X (x := A 179) (show cdA 213 87 = some (.aload_n 0, 1, 0, 0, 0) from rfl) (List.Mem.tail _ (List.Mem.tail _ (List.Mem.tail _ (List.Mem.head _)))) ?_
            refine z_getI X 179 (show cdA 213 88 = some (.getfield 191, 3, 12, 6, 0) from rfl) (by decide) rfl rfl ?_
            have b582 : (0 : Int) ≤ iI s483 79 ∧ iI s483 79 ≤ 9 := Is483.1 79
            refine z_if_eq X (t := 95) (show cdA 213 91 = some (.ifCond .eq 4, 3, 0, 0, 0) from rfl) (by decide) ⟨by omega, by omega⟩ (fun g583 => ?_) (fun g583 => ?_)
            ·
              refine z_aload_n X (x := A 179) (show cdA 213 95 = some (.aload_n 0, 1, 0, 0, 0) from rfl) (List.Mem.tail _ (List.Mem.tail _ (List.Mem.tail _ (List.Mem.head _)))) ?_
              refine z_callV X 179 (rm := rmN 203) (As := []) (st := []) (show cdA 213 96 = some (.invokevirtual 254, 3, 203, 0, 0) from rfl) rfl (by decide) rfl (by rw [E.1, E.2.1, E.2.2.1]; exact k_skipWord G Is483 (by omega)) ⟨by rw [E.2.2.2]; exact (show (rmN 203).frames + 1 ≤ (rmN 213).frames by decide), by rw [E.2.2.2]; exact (show 8 + (mNL (miB 203) + 11) + (rmN 203).locals ≤ (rmN 213).locals by decide), by rw [E.2.2.2]; exact (show 0 + (rmN 203).cells ≤ (rmN 213).cells by decide), by rw [E.2.2.2]; exact (show 0 + (rmN 203).slots ≤ (rmN 213).slots by decide)⟩ (Nat.le_of_ble_eq_true rfl) (fun vv s584 hq => ?_) (fun ee s584 hq => ?_)
              rotate_left
              · obtain ⟨Is584, Fs584, hv, hps584⟩ := hq; cases hv
              obtain ⟨Is584, Fs584, hv, hps584⟩ := hq
              cases hv
              have Gs584 := fm_ts Gs483 Fs584 (by decide) (by decide)
              have b586 : (0 : Int) ≤ iI s584 77 ∧ iI s584 77 ≤ 400 := Is584.1 77
              have ws584_75 : iI s584 75 = iI s483 75 := fm_i Fs584 (by decide)
              have ws584_79 : iI s584 79 = iI s483 79 := fm_i Fs584 (by decide)
              have ws584_78 : iI s584 78 = iI s483 78 := fm_i Fs584 (by decide)
              have ws584_86 : iI s584 86 = iI s483 86 := fm_i Fs584 (by decide)
              have ws584_87 : iI s584 87 = iI s483 87 := fm_i Fs584 (by decide)
              have ws584_88 : iI s584 88 = iI s483 88 := fm_i Fs584 (by decide)
              show WS k 99 [(3, .int (Int32.ofInt 0)), (2, .int (Int32.ofInt 1)), (1, .int (Int32.ofInt e9)), (0, .ref (A 179))] [] (Wd A dT s584) 0 0
              refine z_load_n X (x := 1) (show cdA 213 99 = some (.iload_n 2, 1, 0, 0, 0) from rfl) (List.Mem.tail _ (List.Mem.head _)) ?_
              refine z_if_eq X (t := 119) (show cdA 213 100 = some (.ifCond .eq 19, 3, 0, 0, 0) from rfl) (by decide) ⟨by omega, by omega⟩ (fun g587 => ?_) (fun g587 => ?_)
              ·
                refine z_aload_n X (x := A 179) (show cdA 213 119 = some (.aload_n 0, 1, 0, 0, 0) from rfl) (List.Mem.tail _ (List.Mem.tail _ (List.Mem.tail _ (List.Mem.head _)))) ?_
                refine s_getR X 179 (show cdA 213 120 = some (.getfield 29, 3, 12, 20, 0) from rfl) (by decide) rfl rfl ?_
                refine z_aload_n X (x := A 179) (show cdA 213 123 = some (.aload_n 0, 1, 0, 0, 0) from rfl) (List.Mem.tail _ (List.Mem.tail _ (List.Mem.tail _ (List.Mem.head _)))) ?_
                refine z_getI X 179 (show cdA 213 124 = some (.getfield 288, 3, 12, 17, 0) from rfl) (by decide) rfl rfl ?_
                have b588 : (0 : Int) ≤ iI s584 87 ∧ iI s584 87 ≤ 8 := Is584.1 87
                refine z_aload_n X (x := A 179) (show cdA 213 127 = some (.aload_n 0, 1, 0, 0, 0) from rfl) (List.Mem.tail _ (List.Mem.tail _ (List.Mem.tail _ (List.Mem.head _)))) ?_
                refine z_getI X 179 (show cdA 213 128 = some (.getfield 184, 3, 12, 4, 0) from rfl) (by decide) rfl rfl ?_
                have b589 : (0 : Int) ≤ iI s584 77 ∧ iI s584 77 ≤ 400 := Is584.1 77
                refine z_ast X 183 (show cdA 213 131 = some (.iastore, 1, 0, 0, 0) from rfl) (by decide) rfl (by omega) (show (iI s584 87) < 8 by omega) (by decide) ?_
                obtain ⟨s590, hs590⟩ : ∃ x0, x0 = uC s584 160 ((iI s584 87)).toNat (Int32.ofInt (iI s584 77)) := ⟨_, rfl⟩
                rw [← hs590]
                have Is590 : Bd s590 := by rw [hs590]; exact bd_C Is584 (show (0 : Int) ≤ (iI s584 77) ∧ (iI s584 77) ≤ 200 by omega) ⟨by omega, by omega⟩
                have Fs590 := fm_C (i := ((iI s584 87)).toNat) (x := Int32.ofInt (iI s584 77)) Gs584 (show 160 ∈ _ by decide)
                rw [← hs590] at Fs590
                have ws590_77 : iI s590 77 = iI s584 77 := by rw [hs590]; rfl
                have ws590_75 : iI s590 75 = iI s584 75 := by rw [hs590]; rfl
                have ws590_79 : iI s590 79 = iI s584 79 := by rw [hs590]; rfl
                have ws590_78 : iI s590 78 = iI s584 78 := by rw [hs590]; rfl
                have ws590_86 : iI s590 86 = iI s584 86 := by rw [hs590]; rfl
                have ws590_87 : iI s590 87 = iI s584 87 := by rw [hs590]; rfl
                have ws590_88 : iI s590 88 = iI s584 88 := by rw [hs590]; rfl
                refine z_aload_n X (x := A 179) (show cdA 213 132 = some (.aload_n 0, 1, 0, 0, 0) from rfl) (List.Mem.tail _ (List.Mem.tail _ (List.Mem.tail _ (List.Mem.head _)))) ?_
                refine w_dup X.1 (ax_d X (show cdA 213 133 = some (.dup, 1, 0, 0, 0) from rfl)) rfl ?_
                refine z_getI X 179 (show cdA 213 134 = some (.getfield 288, 3, 12, 17, 0) from rfl) (by decide) rfl rfl ?_
                have b591 : (0 : Int) ≤ iI s590 87 ∧ iI s590 87 ≤ 8 := Is590.1 87
                refine z_const X (show cdA 213 137 = some (.iconst 1, 1, 0, 0, 0) from rfl) ?_
                refine z_add X (show cdA 213 138 = some (.iadd, 1, 0, 0, 0) from rfl) ?_
                refine s_putI X 179 (show cdA 213 139 = some (.putfield 288, 3, 12, 17, 0) from rfl) (by decide) rfl rfl (by decide) rfl rfl rfl ?_
                obtain ⟨s592, hs592⟩ : ∃ x0, x0 = uI s590 87 (Int32.ofInt ((iI s590 87) + 1)) := ⟨_, rfl⟩
                rw [← hs592]
                have Is592 : Bd s592 := by rw [hs592]; exact bd_I Is590 (show (0 : Int) ≤ ((iI s590 87) + 1) ∧ ((iI s590 87) + 1) ≤ 8 by omega) ⟨by omega, by omega⟩
                have Fs592 := fm_I (x := Int32.ofInt ((iI s590 87) + 1)) Fs590 (show 87 ∈ _ by decide)
                rw [← hs592] at Fs592
                have vs592 : iI s592 87 = ((iI s590 87) + 1) := by rw [hs592]; exact iI_u ⟨by omega, by omega⟩
                have ws592_77 : iI s592 77 = iI s590 77 := by rw [hs592]; rfl
                have ws592_75 : iI s592 75 = iI s590 75 := by rw [hs592]; rfl
                have ws592_79 : iI s592 79 = iI s590 79 := by rw [hs592]; rfl
                have ws592_78 : iI s592 78 = iI s590 78 := by rw [hs592]; rfl
                have ws592_86 : iI s592 86 = iI s590 86 := by rw [hs592]; rfl
                have ws592_88 : iI s592 88 = iI s590 88 := by rw [hs592]; rfl
                refine z_aload_n X (x := A 179) (show cdA 213 142 = some (.aload_n 0, 1, 0, 0, 0) from rfl) (List.Mem.tail _ (List.Mem.tail _ (List.Mem.tail _ (List.Mem.head _)))) ?_
                refine z_callV X 179 (rm := rmN 212) (As := []) (st := []) (show cdA 213 143 = some (.invokevirtual 276, 3, 212, 0, 0) from rfl) rfl (by decide) rfl (by rw [E.1, E.2.1, E.2.2.1]; exact k_ors G Is592 (by omega) (by omega) (by omega) (by omega)) ⟨by rw [E.2.2.2]; exact (show (rmN 212).frames + 1 ≤ (rmN 213).frames by decide), by rw [E.2.2.2]; exact (show 8 + (mNL (miB 212) + 11) + (rmN 212).locals ≤ (rmN 213).locals by decide), by rw [E.2.2.2]; exact (show 0 + (rmN 212).cells ≤ (rmN 213).cells by decide), by rw [E.2.2.2]; exact (show 0 + (rmN 212).slots ≤ (rmN 213).slots by decide)⟩ (Nat.le_of_ble_eq_true rfl) (fun vv s593 hq => ?_) (fun ee s593 hq => ?_)
                rotate_left
                · obtain ⟨Is593, Fs593, e594, hv, hrs593, hps593⟩ := hq; cases hv
                obtain ⟨Is593, Fs593, e594, hv, hrs593, hps593⟩ := hq
                cases hv
                have Gs593 := fm_ts Fs592 Fs593 (by decide) (by decide)
                have b595 : (0 : Int) ≤ iI s593 77 ∧ iI s593 77 ≤ 400 := Is593.1 77
                have ws593_75 : iI s593 75 = iI s592 75 := fm_i Fs593 (by decide)
                have b596 : (0 : Int) ≤ iI s593 79 ∧ iI s593 79 ≤ 9 := Is593.1 79
                have b597 : (0 : Int) ≤ iI s593 78 ∧ iI s593 78 ≤ 8 := Is593.1 78
                have ws593_86 : iI s593 86 = iI s592 86 := fm_i Fs593 (by decide)
                have ws593_87 : iI s593 87 = iI s592 87 := fm_i Fs593 (by decide)
                have ws593_88 : iI s593 88 = iI s592 88 := fm_i Fs593 (by decide)
                show WS k 146 [(3, .int (Int32.ofInt 0)), (2, .int (Int32.ofInt 1)), (1, .int (Int32.ofInt e9)), (0, .ref (A 179))] [.int (Int32.ofInt e594)] (Wd A dT s593) 0 0
                refine w_pop X.1 (ax_d X (show cdA 213 146 = some (.pop, 1, 0, 0, 0) from rfl)) rfl ?_
                refine z_aload_n X (x := A 179) (show cdA 213 147 = some (.aload_n 0, 1, 0, 0, 0) from rfl) (List.Mem.tail _ (List.Mem.tail _ (List.Mem.tail _ (List.Mem.head _)))) ?_
                refine z_getI X 179 (show cdA 213 148 = some (.getfield 191, 3, 12, 6, 0) from rfl) (by decide) rfl rfl ?_
                have b598 : (0 : Int) ≤ iI s593 79 ∧ iI s593 79 ≤ 9 := Is593.1 79
                refine z_if_ne X (t := 160) (show cdA 213 151 = some (.ifCond .ne 9, 3, 1, 0, 0) from rfl) (by decide) ⟨by omega, by omega⟩ (fun g599 => ?_) (fun g599 => ?_)
                ·
                  refine z_aload_n X (x := A 179) (show cdA 213 160 = some (.aload_n 0, 1, 0, 0, 0) from rfl) (List.Mem.tail _ (List.Mem.tail _ (List.Mem.tail _ (List.Mem.head _)))) ?_
                  refine w_dup X.1 (ax_d X (show cdA 213 161 = some (.dup, 1, 0, 0, 0) from rfl)) rfl ?_
                  refine z_getI X 179 (show cdA 213 162 = some (.getfield 282, 3, 12, 16, 0) from rfl) (by decide) rfl rfl ?_
                  have b600 : (0 : Int) ≤ iI s593 86 ∧ iI s593 86 ≤ 8 := Is593.1 86
                  refine z_const X (show cdA 213 165 = some (.iconst 1, 1, 0, 0, 0) from rfl) ?_
                  refine z_add X (show cdA 213 166 = some (.iadd, 1, 0, 0, 0) from rfl) ?_
                  refine s_putI X 179 (show cdA 213 167 = some (.putfield 282, 3, 12, 16, 0) from rfl) (by decide) rfl rfl (by decide) rfl rfl rfl ?_
                  obtain ⟨s601, hs601⟩ : ∃ x0, x0 = uI s593 86 (Int32.ofInt ((iI s593 86) + 1)) := ⟨_, rfl⟩
                  rw [← hs601]
                  have Is601 : Bd s601 := by rw [hs601]; exact bd_I Is593 (show (0 : Int) ≤ ((iI s593 86) + 1) ∧ ((iI s593 86) + 1) ≤ 8 by omega) ⟨by omega, by omega⟩
                  have Fs601 := fm_I (x := Int32.ofInt ((iI s593 86) + 1)) Gs593 (show 86 ∈ _ by decide)
                  rw [← hs601] at Fs601
                  have vs601 : iI s601 86 = ((iI s593 86) + 1) := by rw [hs601]; exact iI_u ⟨by omega, by omega⟩
                  have ws601_77 : iI s601 77 = iI s593 77 := by rw [hs601]; rfl
                  have ws601_75 : iI s601 75 = iI s593 75 := by rw [hs601]; rfl
                  have ws601_79 : iI s601 79 = iI s593 79 := by rw [hs601]; rfl
                  have ws601_78 : iI s601 78 = iI s593 78 := by rw [hs601]; rfl
                  have ws601_87 : iI s601 87 = iI s593 87 := by rw [hs601]; rfl
                  have ws601_88 : iI s601 88 = iI s593 88 := by rw [hs601]; rfl
                  exact w_vret X.1 q hRt (ax_d X (show cdA 213 170 = some (.return_, 1, 0, 0, 0) from rfl)) (Nat.zero_le _) (Nat.zero_le _) ⟨_, rfl, Is601, Fs601, rfl, by omega⟩
                ·
                  refine z_aload_n X (x := A 179) (show cdA 213 154 = some (.aload_n 0, 1, 0, 0, 0) from rfl) (List.Mem.tail _ (List.Mem.tail _ (List.Mem.tail _ (List.Mem.head _)))) ?_
                  refine z_bipush X (show cdA 213 155 = some (.bipush 59, 2, 0, 0, 59) from rfl) ?_
                  refine z_callV X 179 (rm := rmN 204) (As := [.int (Int32.ofInt 59)]) (st := []) (show cdA 213 157 = some (.invokevirtual 263, 3, 204, 0, 0) from rfl) rfl (by decide) rfl (by rw [E.1, E.2.1, E.2.2.1]; exact k_sign G Is593 (by omega) (by omega)) ⟨by rw [E.2.2.2]; exact (show (rmN 204).frames + 1 ≤ (rmN 213).frames by decide), by rw [E.2.2.2]; exact (show 8 + (mNL (miB 204) + 11) + (rmN 204).locals ≤ (rmN 213).locals by decide), by rw [E.2.2.2]; exact (show 0 + (rmN 204).cells ≤ (rmN 213).cells by decide), by rw [E.2.2.2]; exact (show 0 + (rmN 204).slots ≤ (rmN 213).slots by decide)⟩ (Nat.le_of_ble_eq_true rfl) (fun vv s602 hq => ?_) (fun ee s602 hq => ?_)
                  rotate_left
                  · obtain ⟨Is602, Fs602, hv, hps602⟩ := hq; cases hv
                  obtain ⟨Is602, Fs602, hv, hps602⟩ := hq
                  cases hv
                  have Gs602 := fm_ts Gs593 Fs602 (by decide) (by decide)
                  have b604 : (0 : Int) ≤ iI s602 77 ∧ iI s602 77 ≤ 400 := Is602.1 77
                  have ws602_75 : iI s602 75 = iI s593 75 := fm_i Fs602 (by decide)
                  have b605 : (0 : Int) ≤ iI s602 79 ∧ iI s602 79 ≤ 9 := Is602.1 79
                  have ws602_78 : iI s602 78 = iI s593 78 := fm_i Fs602 (by decide)
                  have ws602_86 : iI s602 86 = iI s593 86 := fm_i Fs602 (by decide)
                  have ws602_87 : iI s602 87 = iI s593 87 := fm_i Fs602 (by decide)
                  have ws602_88 : iI s602 88 = iI s593 88 := fm_i Fs602 (by decide)
                  show WS k 160 [(3, .int (Int32.ofInt 0)), (2, .int (Int32.ofInt 1)), (1, .int (Int32.ofInt e9)), (0, .ref (A 179))] [] (Wd A dT s602) 0 0
                  refine z_aload_n X (x := A 179) (show cdA 213 160 = some (.aload_n 0, 1, 0, 0, 0) from rfl) (List.Mem.tail _ (List.Mem.tail _ (List.Mem.tail _ (List.Mem.head _)))) ?_
                  refine w_dup X.1 (ax_d X (show cdA 213 161 = some (.dup, 1, 0, 0, 0) from rfl)) rfl ?_
                  refine z_getI X 179 (show cdA 213 162 = some (.getfield 282, 3, 12, 16, 0) from rfl) (by decide) rfl rfl ?_
                  have b606 : (0 : Int) ≤ iI s602 86 ∧ iI s602 86 ≤ 8 := Is602.1 86
                  refine z_const X (show cdA 213 165 = some (.iconst 1, 1, 0, 0, 0) from rfl) ?_
                  refine z_add X (show cdA 213 166 = some (.iadd, 1, 0, 0, 0) from rfl) ?_
                  refine s_putI X 179 (show cdA 213 167 = some (.putfield 282, 3, 12, 16, 0) from rfl) (by decide) rfl rfl (by decide) rfl rfl rfl ?_
                  obtain ⟨s607, hs607⟩ : ∃ x0, x0 = uI s602 86 (Int32.ofInt ((iI s602 86) + 1)) := ⟨_, rfl⟩
                  rw [← hs607]
                  have Is607 : Bd s607 := by rw [hs607]; exact bd_I Is602 (show (0 : Int) ≤ ((iI s602 86) + 1) ∧ ((iI s602 86) + 1) ≤ 8 by omega) ⟨by omega, by omega⟩
                  have Fs607 := fm_I (x := Int32.ofInt ((iI s602 86) + 1)) Gs602 (show 86 ∈ _ by decide)
                  rw [← hs607] at Fs607
                  have vs607 : iI s607 86 = ((iI s602 86) + 1) := by rw [hs607]; exact iI_u ⟨by omega, by omega⟩
                  have ws607_77 : iI s607 77 = iI s602 77 := by rw [hs607]; rfl
                  have ws607_75 : iI s607 75 = iI s602 75 := by rw [hs607]; rfl
                  have ws607_79 : iI s607 79 = iI s602 79 := by rw [hs607]; rfl
                  have ws607_78 : iI s607 78 = iI s602 78 := by rw [hs607]; rfl
                  have ws607_87 : iI s607 87 = iI s602 87 := by rw [hs607]; rfl
                  have ws607_88 : iI s607 88 = iI s602 88 := by rw [hs607]; rfl
                  exact w_vret X.1 q hRt (ax_d X (show cdA 213 170 = some (.return_, 1, 0, 0, 0) from rfl)) (Nat.zero_le _) (Nat.zero_le _) ⟨_, rfl, Is607, Fs607, rfl, by omega⟩
              ·
                refine z_aload_n X (x := A 179) (show cdA 213 103 = some (.aload_n 0, 1, 0, 0, 0) from rfl) (List.Mem.tail _ (List.Mem.tail _ (List.Mem.tail _ (List.Mem.head _)))) ?_
                refine z_aload_n X (x := A 179) (show cdA 213 104 = some (.aload_n 0, 1, 0, 0, 0) from rfl) (List.Mem.tail _ (List.Mem.tail _ (List.Mem.tail _ (List.Mem.head _)))) ?_
                refine z_getI X 179 (show cdA 213 105 = some (.getfield 184, 3, 12, 4, 0) from rfl) (by decide) rfl rfl ?_
                have b608 : (0 : Int) ≤ iI s584 77 ∧ iI s584 77 ≤ 400 := Is584.1 77
                refine s_putI X 179 (show cdA 213 108 = some (.putfield 285, 3, 12, 18, 0) from rfl) (by decide) rfl rfl (by decide) rfl rfl rfl ?_
                obtain ⟨s609, hs609⟩ : ∃ x0, x0 = uI s584 88 (Int32.ofInt (iI s584 77)) := ⟨_, rfl⟩
                rw [← hs609]
                have Is609 : Bd s609 := by rw [hs609]; exact bd_I Is584 (show ((-1) : Int) ≤ (iI s584 77) ∧ (iI s584 77) ≤ 200 by omega) ⟨by omega, by omega⟩
                have Fs609 := fm_I (x := Int32.ofInt (iI s584 77)) Gs584 (show 88 ∈ _ by decide)
                rw [← hs609] at Fs609
                have vs609 : iI s609 88 = (iI s584 77) := by rw [hs609]; exact iI_u ⟨by omega, by omega⟩
                have ws609_77 : iI s609 77 = iI s584 77 := by rw [hs609]; rfl
                have ws609_75 : iI s609 75 = iI s584 75 := by rw [hs609]; rfl
                have ws609_79 : iI s609 79 = iI s584 79 := by rw [hs609]; rfl
                have ws609_78 : iI s609 78 = iI s584 78 := by rw [hs609]; rfl
                have ws609_86 : iI s609 86 = iI s584 86 := by rw [hs609]; rfl
                have ws609_87 : iI s609 87 = iI s584 87 := by rw [hs609]; rfl
                refine z_aload_n X (x := A 179) (show cdA 213 111 = some (.aload_n 0, 1, 0, 0, 0) from rfl) (List.Mem.tail _ (List.Mem.tail _ (List.Mem.tail _ (List.Mem.head _)))) ?_
                refine z_callV X 179 (rm := rmN 209) (As := []) (st := []) (show cdA 213 112 = some (.invokevirtual 260, 3, 209, 0, 0) from rfl) rfl (by decide) rfl (by rw [E.1, E.2.1, E.2.2.1]; exact k_sum G Is609 (by omega) (by omega) (by omega)) ⟨by rw [E.2.2.2]; exact (show (rmN 209).frames + 1 ≤ (rmN 213).frames by decide), by rw [E.2.2.2]; exact (show 8 + (mNL (miB 209) + 11) + (rmN 209).locals ≤ (rmN 213).locals by decide), by rw [E.2.2.2]; exact (show 0 + (rmN 209).cells ≤ (rmN 213).cells by decide), by rw [E.2.2.2]; exact (show 0 + (rmN 209).slots ≤ (rmN 213).slots by decide)⟩ (Nat.le_of_ble_eq_true rfl) (fun vv s610 hq => ?_) (fun ee s610 hq => ?_)
                rotate_left
                · obtain ⟨Is610, Fs610, e611, hv, hrs610, hps610⟩ := hq; cases hv
                obtain ⟨Is610, Fs610, e611, hv, hrs610, hps610⟩ := hq
                cases hv
                have Gs610 := fm_ts Fs609 Fs610 (by decide) (by decide)
                have b612 : (0 : Int) ≤ iI s610 77 ∧ iI s610 77 ≤ 400 := Is610.1 77
                have ws610_75 : iI s610 75 = iI s609 75 := fm_i Fs610 (by decide)
                have b613 : (0 : Int) ≤ iI s610 79 ∧ iI s610 79 ≤ 9 := Is610.1 79
                have b614 : (0 : Int) ≤ iI s610 78 ∧ iI s610 78 ≤ 8 := Is610.1 78
                have ws610_86 : iI s610 86 = iI s609 86 := fm_i Fs610 (by decide)
                have ws610_87 : iI s610 87 = iI s609 87 := fm_i Fs610 (by decide)
                have ws610_88 : iI s610 88 = iI s609 88 := fm_i Fs610 (by decide)
                show WS k 115 [(3, .int (Int32.ofInt 0)), (2, .int (Int32.ofInt 1)), (1, .int (Int32.ofInt e9)), (0, .ref (A 179))] [.int (Int32.ofInt e611)] (Wd A dT s610) 0 0
                refine w_pop X.1 (ax_d X (show cdA 213 115 = some (.pop, 1, 0, 0, 0) from rfl)) rfl ?_
                refine z_goto X (t := 147) (show cdA 213 116 = some (.goto 31, 3, 0, 0, 0) from rfl) (by decide) ?_
                refine z_aload_n X (x := A 179) (show cdA 213 147 = some (.aload_n 0, 1, 0, 0, 0) from rfl) (List.Mem.tail _ (List.Mem.tail _ (List.Mem.tail _ (List.Mem.head _)))) ?_
                refine z_getI X 179 (show cdA 213 148 = some (.getfield 191, 3, 12, 6, 0) from rfl) (by decide) rfl rfl ?_
                have b615 : (0 : Int) ≤ iI s610 79 ∧ iI s610 79 ≤ 9 := Is610.1 79
                refine z_if_ne X (t := 160) (show cdA 213 151 = some (.ifCond .ne 9, 3, 1, 0, 0) from rfl) (by decide) ⟨by omega, by omega⟩ (fun g616 => ?_) (fun g616 => ?_)
                ·
                  refine z_aload_n X (x := A 179) (show cdA 213 160 = some (.aload_n 0, 1, 0, 0, 0) from rfl) (List.Mem.tail _ (List.Mem.tail _ (List.Mem.tail _ (List.Mem.head _)))) ?_
                  refine w_dup X.1 (ax_d X (show cdA 213 161 = some (.dup, 1, 0, 0, 0) from rfl)) rfl ?_
                  refine z_getI X 179 (show cdA 213 162 = some (.getfield 282, 3, 12, 16, 0) from rfl) (by decide) rfl rfl ?_
                  have b617 : (0 : Int) ≤ iI s610 86 ∧ iI s610 86 ≤ 8 := Is610.1 86
                  refine z_const X (show cdA 213 165 = some (.iconst 1, 1, 0, 0, 0) from rfl) ?_
                  refine z_add X (show cdA 213 166 = some (.iadd, 1, 0, 0, 0) from rfl) ?_
                  refine s_putI X 179 (show cdA 213 167 = some (.putfield 282, 3, 12, 16, 0) from rfl) (by decide) rfl rfl (by decide) rfl rfl rfl ?_
                  obtain ⟨s618, hs618⟩ : ∃ x0, x0 = uI s610 86 (Int32.ofInt ((iI s610 86) + 1)) := ⟨_, rfl⟩
                  rw [← hs618]
                  have Is618 : Bd s618 := by rw [hs618]; exact bd_I Is610 (show (0 : Int) ≤ ((iI s610 86) + 1) ∧ ((iI s610 86) + 1) ≤ 8 by omega) ⟨by omega, by omega⟩
                  have Fs618 := fm_I (x := Int32.ofInt ((iI s610 86) + 1)) Gs610 (show 86 ∈ _ by decide)
                  rw [← hs618] at Fs618
                  have vs618 : iI s618 86 = ((iI s610 86) + 1) := by rw [hs618]; exact iI_u ⟨by omega, by omega⟩
                  have ws618_77 : iI s618 77 = iI s610 77 := by rw [hs618]; rfl
                  have ws618_75 : iI s618 75 = iI s610 75 := by rw [hs618]; rfl
                  have ws618_79 : iI s618 79 = iI s610 79 := by rw [hs618]; rfl
                  have ws618_78 : iI s618 78 = iI s610 78 := by rw [hs618]; rfl
                  have ws618_87 : iI s618 87 = iI s610 87 := by rw [hs618]; rfl
                  have ws618_88 : iI s618 88 = iI s610 88 := by rw [hs618]; rfl
                  exact w_vret X.1 q hRt (ax_d X (show cdA 213 170 = some (.return_, 1, 0, 0, 0) from rfl)) (Nat.zero_le _) (Nat.zero_le _) ⟨_, rfl, Is618, Fs618, rfl, by omega⟩
                ·
                  refine z_aload_n X (x := A 179) (show cdA 213 154 = some (.aload_n 0, 1, 0, 0, 0) from rfl) (List.Mem.tail _ (List.Mem.tail _ (List.Mem.tail _ (List.Mem.head _)))) ?_
                  refine z_bipush X (show cdA 213 155 = some (.bipush 59, 2, 0, 0, 59) from rfl) ?_
                  refine z_callV X 179 (rm := rmN 204) (As := [.int (Int32.ofInt 59)]) (st := []) (show cdA 213 157 = some (.invokevirtual 263, 3, 204, 0, 0) from rfl) rfl (by decide) rfl (by rw [E.1, E.2.1, E.2.2.1]; exact k_sign G Is610 (by omega) (by omega)) ⟨by rw [E.2.2.2]; exact (show (rmN 204).frames + 1 ≤ (rmN 213).frames by decide), by rw [E.2.2.2]; exact (show 8 + (mNL (miB 204) + 11) + (rmN 204).locals ≤ (rmN 213).locals by decide), by rw [E.2.2.2]; exact (show 0 + (rmN 204).cells ≤ (rmN 213).cells by decide), by rw [E.2.2.2]; exact (show 0 + (rmN 204).slots ≤ (rmN 213).slots by decide)⟩ (Nat.le_of_ble_eq_true rfl) (fun vv s619 hq => ?_) (fun ee s619 hq => ?_)
                  rotate_left
                  · obtain ⟨Is619, Fs619, hv, hps619⟩ := hq; cases hv
                  obtain ⟨Is619, Fs619, hv, hps619⟩ := hq
                  cases hv
                  have Gs619 := fm_ts Gs610 Fs619 (by decide) (by decide)
                  have b621 : (0 : Int) ≤ iI s619 77 ∧ iI s619 77 ≤ 400 := Is619.1 77
                  have ws619_75 : iI s619 75 = iI s610 75 := fm_i Fs619 (by decide)
                  have b622 : (0 : Int) ≤ iI s619 79 ∧ iI s619 79 ≤ 9 := Is619.1 79
                  have ws619_78 : iI s619 78 = iI s610 78 := fm_i Fs619 (by decide)
                  have ws619_86 : iI s619 86 = iI s610 86 := fm_i Fs619 (by decide)
                  have ws619_87 : iI s619 87 = iI s610 87 := fm_i Fs619 (by decide)
                  have ws619_88 : iI s619 88 = iI s610 88 := fm_i Fs619 (by decide)
                  show WS k 160 [(3, .int (Int32.ofInt 0)), (2, .int (Int32.ofInt 1)), (1, .int (Int32.ofInt e9)), (0, .ref (A 179))] [] (Wd A dT s619) 0 0
                  refine z_aload_n X (x := A 179) (show cdA 213 160 = some (.aload_n 0, 1, 0, 0, 0) from rfl) (List.Mem.tail _ (List.Mem.tail _ (List.Mem.tail _ (List.Mem.head _)))) ?_
                  refine w_dup X.1 (ax_d X (show cdA 213 161 = some (.dup, 1, 0, 0, 0) from rfl)) rfl ?_
                  refine z_getI X 179 (show cdA 213 162 = some (.getfield 282, 3, 12, 16, 0) from rfl) (by decide) rfl rfl ?_
                  have b623 : (0 : Int) ≤ iI s619 86 ∧ iI s619 86 ≤ 8 := Is619.1 86
                  refine z_const X (show cdA 213 165 = some (.iconst 1, 1, 0, 0, 0) from rfl) ?_
                  refine z_add X (show cdA 213 166 = some (.iadd, 1, 0, 0, 0) from rfl) ?_
                  refine s_putI X 179 (show cdA 213 167 = some (.putfield 282, 3, 12, 16, 0) from rfl) (by decide) rfl rfl (by decide) rfl rfl rfl ?_
                  obtain ⟨s624, hs624⟩ : ∃ x0, x0 = uI s619 86 (Int32.ofInt ((iI s619 86) + 1)) := ⟨_, rfl⟩
                  rw [← hs624]
                  have Is624 : Bd s624 := by rw [hs624]; exact bd_I Is619 (show (0 : Int) ≤ ((iI s619 86) + 1) ∧ ((iI s619 86) + 1) ≤ 8 by omega) ⟨by omega, by omega⟩
                  have Fs624 := fm_I (x := Int32.ofInt ((iI s619 86) + 1)) Gs619 (show 86 ∈ _ by decide)
                  rw [← hs624] at Fs624
                  have vs624 : iI s624 86 = ((iI s619 86) + 1) := by rw [hs624]; exact iI_u ⟨by omega, by omega⟩
                  have ws624_77 : iI s624 77 = iI s619 77 := by rw [hs624]; rfl
                  have ws624_75 : iI s624 75 = iI s619 75 := by rw [hs624]; rfl
                  have ws624_79 : iI s624 79 = iI s619 79 := by rw [hs624]; rfl
                  have ws624_78 : iI s624 78 = iI s619 78 := by rw [hs624]; rfl
                  have ws624_87 : iI s624 87 = iI s619 87 := by rw [hs624]; rfl
                  have ws624_88 : iI s624 88 = iI s619 88 := by rw [hs624]; rfl
                  exact w_vret X.1 q hRt (ax_d X (show cdA 213 170 = some (.return_, 1, 0, 0, 0) from rfl)) (Nat.zero_le _) (Nat.zero_le _) ⟨_, rfl, Is624, Fs624, rfl, by omega⟩
            ·
              exact w_vret X.1 q hRt (ax_d X (show cdA 213 94 = some (.return_, 1, 0, 0, 0) from rfl)) (Nat.zero_le _) (Nat.zero_le _) ⟨_, rfl, Is483, Gs483, rfl, by omega⟩
          ·
            refine z_aload_n X (x := A 179) (show cdA 213 78 = some (.aload_n 0, 1, 0, 0, 0) from rfl) (List.Mem.tail _ (List.Mem.tail _ (List.Mem.tail _ (List.Mem.head _)))) ?_
            refine z_const X (show cdA 213 79 = some (.iconst 3, 1, 0, 0, 0) from rfl) ?_
            refine z_aload_n X (x := A 179) (show cdA 213 80 = some (.aload_n 0, 1, 0, 0, 0) from rfl) (List.Mem.tail _ (List.Mem.tail _ (List.Mem.tail _ (List.Mem.head _)))) ?_
            refine z_getI X 179 (show cdA 213 81 = some (.getfield 184, 3, 12, 4, 0) from rfl) (by decide) rfl rfl ?_
            have b625 : (0 : Int) ≤ iI s483 77 ∧ iI s483 77 ≤ 400 := Is483.1 77
            refine z_callV X 179 (rm := rmN 194) (As := [.int (Int32.ofInt 3), .int (Int32.ofInt (iI s483 77))]) (st := []) (show cdA 213 84 = some (.invokevirtual 204, 3, 194, 0, 0) from rfl) rfl (by decide) rfl (by rw [E.1, E.2.1, E.2.2.1]; exact k_wrong G Is483 (by omega) (by omega)) ⟨by rw [E.2.2.2]; exact (show (rmN 194).frames + 1 ≤ (rmN 213).frames by decide), by rw [E.2.2.2]; exact (show 8 + (mNL (miB 194) + 11) + (rmN 194).locals ≤ (rmN 213).locals by decide), by rw [E.2.2.2]; exact (show 0 + (rmN 194).cells ≤ (rmN 213).cells by decide), by rw [E.2.2.2]; exact (show 0 + (rmN 194).slots ≤ (rmN 213).slots by decide)⟩ (Nat.le_of_ble_eq_true rfl) (fun vv s626 hq => ?_) (fun ee s626 hq => ?_)
            rotate_left
            · obtain ⟨Is626, Fs626, hv, hps626⟩ := hq; cases hv
            obtain ⟨Is626, Fs626, hv, hps626⟩ := hq
            cases hv
            have Gs626 := fm_ts Gs483 Fs626 (by decide) (by decide)
            have ws626_77 : iI s626 77 = iI s483 77 := fm_i Fs626 (by decide)
            have ws626_75 : iI s626 75 = iI s483 75 := fm_i Fs626 (by decide)
            have b628 : (0 : Int) ≤ iI s626 79 ∧ iI s626 79 ≤ 9 := Is626.1 79
            have ws626_78 : iI s626 78 = iI s483 78 := fm_i Fs626 (by decide)
            have ws626_86 : iI s626 86 = iI s483 86 := fm_i Fs626 (by decide)
            have ws626_87 : iI s626 87 = iI s483 87 := fm_i Fs626 (by decide)
            have ws626_88 : iI s626 88 = iI s483 88 := fm_i Fs626 (by decide)
            show WS k 87 [(3, .int (Int32.ofInt 0)), (2, .int (Int32.ofInt 1)), (1, .int (Int32.ofInt e9)), (0, .ref (A 179))] [] (Wd A dT s626) 0 0
            refine z_aload_n X (x := A 179) (show cdA 213 87 = some (.aload_n 0, 1, 0, 0, 0) from rfl) (List.Mem.tail _ (List.Mem.tail _ (List.Mem.tail _ (List.Mem.head _)))) ?_
            refine z_getI X 179 (show cdA 213 88 = some (.getfield 191, 3, 12, 6, 0) from rfl) (by decide) rfl rfl ?_
            have b629 : (0 : Int) ≤ iI s626 79 ∧ iI s626 79 ≤ 9 := Is626.1 79
            refine z_if_eq X (t := 95) (show cdA 213 91 = some (.ifCond .eq 4, 3, 0, 0, 0) from rfl) (by decide) ⟨by omega, by omega⟩ (fun g630 => ?_) (fun g630 => ?_)
            ·
              refine z_aload_n X (x := A 179) (show cdA 213 95 = some (.aload_n 0, 1, 0, 0, 0) from rfl) (List.Mem.tail _ (List.Mem.tail _ (List.Mem.tail _ (List.Mem.head _)))) ?_
              refine z_callV X 179 (rm := rmN 203) (As := []) (st := []) (show cdA 213 96 = some (.invokevirtual 254, 3, 203, 0, 0) from rfl) rfl (by decide) rfl (by rw [E.1, E.2.1, E.2.2.1]; exact k_skipWord G Is626 (by omega)) ⟨by rw [E.2.2.2]; exact (show (rmN 203).frames + 1 ≤ (rmN 213).frames by decide), by rw [E.2.2.2]; exact (show 8 + (mNL (miB 203) + 11) + (rmN 203).locals ≤ (rmN 213).locals by decide), by rw [E.2.2.2]; exact (show 0 + (rmN 203).cells ≤ (rmN 213).cells by decide), by rw [E.2.2.2]; exact (show 0 + (rmN 203).slots ≤ (rmN 213).slots by decide)⟩ (Nat.le_of_ble_eq_true rfl) (fun vv s631 hq => ?_) (fun ee s631 hq => ?_)
              rotate_left
              · obtain ⟨Is631, Fs631, hv, hps631⟩ := hq; cases hv
              obtain ⟨Is631, Fs631, hv, hps631⟩ := hq
              cases hv
              have Gs631 := fm_ts Gs626 Fs631 (by decide) (by decide)
              have b633 : (0 : Int) ≤ iI s631 77 ∧ iI s631 77 ≤ 400 := Is631.1 77
              have ws631_75 : iI s631 75 = iI s626 75 := fm_i Fs631 (by decide)
              have ws631_79 : iI s631 79 = iI s626 79 := fm_i Fs631 (by decide)
              have ws631_78 : iI s631 78 = iI s626 78 := fm_i Fs631 (by decide)
              have ws631_86 : iI s631 86 = iI s626 86 := fm_i Fs631 (by decide)
              have ws631_87 : iI s631 87 = iI s626 87 := fm_i Fs631 (by decide)
              have ws631_88 : iI s631 88 = iI s626 88 := fm_i Fs631 (by decide)
              show WS k 99 [(3, .int (Int32.ofInt 0)), (2, .int (Int32.ofInt 1)), (1, .int (Int32.ofInt e9)), (0, .ref (A 179))] [] (Wd A dT s631) 0 0
              refine z_load_n X (x := 1) (show cdA 213 99 = some (.iload_n 2, 1, 0, 0, 0) from rfl) (List.Mem.tail _ (List.Mem.head _)) ?_
              refine z_if_eq X (t := 119) (show cdA 213 100 = some (.ifCond .eq 19, 3, 0, 0, 0) from rfl) (by decide) ⟨by omega, by omega⟩ (fun g634 => ?_) (fun g634 => ?_)
              ·
                refine z_aload_n X (x := A 179) (show cdA 213 119 = some (.aload_n 0, 1, 0, 0, 0) from rfl) (List.Mem.tail _ (List.Mem.tail _ (List.Mem.tail _ (List.Mem.head _)))) ?_
                refine s_getR X 179 (show cdA 213 120 = some (.getfield 29, 3, 12, 20, 0) from rfl) (by decide) rfl rfl ?_
                refine z_aload_n X (x := A 179) (show cdA 213 123 = some (.aload_n 0, 1, 0, 0, 0) from rfl) (List.Mem.tail _ (List.Mem.tail _ (List.Mem.tail _ (List.Mem.head _)))) ?_
                refine z_getI X 179 (show cdA 213 124 = some (.getfield 288, 3, 12, 17, 0) from rfl) (by decide) rfl rfl ?_
                have b635 : (0 : Int) ≤ iI s631 87 ∧ iI s631 87 ≤ 8 := Is631.1 87
                refine z_aload_n X (x := A 179) (show cdA 213 127 = some (.aload_n 0, 1, 0, 0, 0) from rfl) (List.Mem.tail _ (List.Mem.tail _ (List.Mem.tail _ (List.Mem.head _)))) ?_
                refine z_getI X 179 (show cdA 213 128 = some (.getfield 184, 3, 12, 4, 0) from rfl) (by decide) rfl rfl ?_
                have b636 : (0 : Int) ≤ iI s631 77 ∧ iI s631 77 ≤ 400 := Is631.1 77
                refine z_ast X 183 (show cdA 213 131 = some (.iastore, 1, 0, 0, 0) from rfl) (by decide) rfl (by omega) (show (iI s631 87) < 8 by omega) (by decide) ?_
                obtain ⟨s637, hs637⟩ : ∃ x0, x0 = uC s631 160 ((iI s631 87)).toNat (Int32.ofInt (iI s631 77)) := ⟨_, rfl⟩
                rw [← hs637]
                have Is637 : Bd s637 := by rw [hs637]; exact bd_C Is631 (show (0 : Int) ≤ (iI s631 77) ∧ (iI s631 77) ≤ 200 by omega) ⟨by omega, by omega⟩
                have Fs637 := fm_C (i := ((iI s631 87)).toNat) (x := Int32.ofInt (iI s631 77)) Gs631 (show 160 ∈ _ by decide)
                rw [← hs637] at Fs637
                have ws637_77 : iI s637 77 = iI s631 77 := by rw [hs637]; rfl
                have ws637_75 : iI s637 75 = iI s631 75 := by rw [hs637]; rfl
                have ws637_79 : iI s637 79 = iI s631 79 := by rw [hs637]; rfl
                have ws637_78 : iI s637 78 = iI s631 78 := by rw [hs637]; rfl
                have ws637_86 : iI s637 86 = iI s631 86 := by rw [hs637]; rfl
                have ws637_87 : iI s637 87 = iI s631 87 := by rw [hs637]; rfl
                have ws637_88 : iI s637 88 = iI s631 88 := by rw [hs637]; rfl
                refine z_aload_n X (x := A 179) (show cdA 213 132 = some (.aload_n 0, 1, 0, 0, 0) from rfl) (List.Mem.tail _ (List.Mem.tail _ (List.Mem.tail _ (List.Mem.head _)))) ?_
                refine w_dup X.1 (ax_d X (show cdA 213 133 = some (.dup, 1, 0, 0, 0) from rfl)) rfl ?_
                refine z_getI X 179 (show cdA 213 134 = some (.getfield 288, 3, 12, 17, 0) from rfl) (by decide) rfl rfl ?_
                have b638 : (0 : Int) ≤ iI s637 87 ∧ iI s637 87 ≤ 8 := Is637.1 87
                refine z_const X (show cdA 213 137 = some (.iconst 1, 1, 0, 0, 0) from rfl) ?_
                refine z_add X (show cdA 213 138 = some (.iadd, 1, 0, 0, 0) from rfl) ?_
                refine s_putI X 179 (show cdA 213 139 = some (.putfield 288, 3, 12, 17, 0) from rfl) (by decide) rfl rfl (by decide) rfl rfl rfl ?_
                obtain ⟨s639, hs639⟩ : ∃ x0, x0 = uI s637 87 (Int32.ofInt ((iI s637 87) + 1)) := ⟨_, rfl⟩
                rw [← hs639]
                have Is639 : Bd s639 := by rw [hs639]; exact bd_I Is637 (show (0 : Int) ≤ ((iI s637 87) + 1) ∧ ((iI s637 87) + 1) ≤ 8 by omega) ⟨by omega, by omega⟩
                have Fs639 := fm_I (x := Int32.ofInt ((iI s637 87) + 1)) Fs637 (show 87 ∈ _ by decide)
                rw [← hs639] at Fs639
                have vs639 : iI s639 87 = ((iI s637 87) + 1) := by rw [hs639]; exact iI_u ⟨by omega, by omega⟩
                have ws639_77 : iI s639 77 = iI s637 77 := by rw [hs639]; rfl
                have ws639_75 : iI s639 75 = iI s637 75 := by rw [hs639]; rfl
                have ws639_79 : iI s639 79 = iI s637 79 := by rw [hs639]; rfl
                have ws639_78 : iI s639 78 = iI s637 78 := by rw [hs639]; rfl
                have ws639_86 : iI s639 86 = iI s637 86 := by rw [hs639]; rfl
                have ws639_88 : iI s639 88 = iI s637 88 := by rw [hs639]; rfl
                refine z_aload_n X (x := A 179) (show cdA 213 142 = some (.aload_n 0, 1, 0, 0, 0) from rfl) (List.Mem.tail _ (List.Mem.tail _ (List.Mem.tail _ (List.Mem.head _)))) ?_
                refine z_callV X 179 (rm := rmN 212) (As := []) (st := []) (show cdA 213 143 = some (.invokevirtual 276, 3, 212, 0, 0) from rfl) rfl (by decide) rfl (by rw [E.1, E.2.1, E.2.2.1]; exact k_ors G Is639 (by omega) (by omega) (by omega) (by omega)) ⟨by rw [E.2.2.2]; exact (show (rmN 212).frames + 1 ≤ (rmN 213).frames by decide), by rw [E.2.2.2]; exact (show 8 + (mNL (miB 212) + 11) + (rmN 212).locals ≤ (rmN 213).locals by decide), by rw [E.2.2.2]; exact (show 0 + (rmN 212).cells ≤ (rmN 213).cells by decide), by rw [E.2.2.2]; exact (show 0 + (rmN 212).slots ≤ (rmN 213).slots by decide)⟩ (Nat.le_of_ble_eq_true rfl) (fun vv s640 hq => ?_) (fun ee s640 hq => ?_)
                rotate_left
                · obtain ⟨Is640, Fs640, e641, hv, hrs640, hps640⟩ := hq; cases hv
                obtain ⟨Is640, Fs640, e641, hv, hrs640, hps640⟩ := hq
                cases hv
                have Gs640 := fm_ts Fs639 Fs640 (by decide) (by decide)
                have b642 : (0 : Int) ≤ iI s640 77 ∧ iI s640 77 ≤ 400 := Is640.1 77
                have ws640_75 : iI s640 75 = iI s639 75 := fm_i Fs640 (by decide)
                have b643 : (0 : Int) ≤ iI s640 79 ∧ iI s640 79 ≤ 9 := Is640.1 79
                have b644 : (0 : Int) ≤ iI s640 78 ∧ iI s640 78 ≤ 8 := Is640.1 78
                have ws640_86 : iI s640 86 = iI s639 86 := fm_i Fs640 (by decide)
                have ws640_87 : iI s640 87 = iI s639 87 := fm_i Fs640 (by decide)
                have ws640_88 : iI s640 88 = iI s639 88 := fm_i Fs640 (by decide)
                show WS k 146 [(3, .int (Int32.ofInt 0)), (2, .int (Int32.ofInt 1)), (1, .int (Int32.ofInt e9)), (0, .ref (A 179))] [.int (Int32.ofInt e641)] (Wd A dT s640) 0 0
                refine w_pop X.1 (ax_d X (show cdA 213 146 = some (.pop, 1, 0, 0, 0) from rfl)) rfl ?_
                refine z_aload_n X (x := A 179) (show cdA 213 147 = some (.aload_n 0, 1, 0, 0, 0) from rfl) (List.Mem.tail _ (List.Mem.tail _ (List.Mem.tail _ (List.Mem.head _)))) ?_
                refine z_getI X 179 (show cdA 213 148 = some (.getfield 191, 3, 12, 6, 0) from rfl) (by decide) rfl rfl ?_
                have b645 : (0 : Int) ≤ iI s640 79 ∧ iI s640 79 ≤ 9 := Is640.1 79
                refine z_if_ne X (t := 160) (show cdA 213 151 = some (.ifCond .ne 9, 3, 1, 0, 0) from rfl) (by decide) ⟨by omega, by omega⟩ (fun g646 => ?_) (fun g646 => ?_)
                ·
                  refine z_aload_n X (x := A 179) (show cdA 213 160 = some (.aload_n 0, 1, 0, 0, 0) from rfl) (List.Mem.tail _ (List.Mem.tail _ (List.Mem.tail _ (List.Mem.head _)))) ?_
                  refine w_dup X.1 (ax_d X (show cdA 213 161 = some (.dup, 1, 0, 0, 0) from rfl)) rfl ?_
                  refine z_getI X 179 (show cdA 213 162 = some (.getfield 282, 3, 12, 16, 0) from rfl) (by decide) rfl rfl ?_
                  have b647 : (0 : Int) ≤ iI s640 86 ∧ iI s640 86 ≤ 8 := Is640.1 86
                  refine z_const X (show cdA 213 165 = some (.iconst 1, 1, 0, 0, 0) from rfl) ?_
                  refine z_add X (show cdA 213 166 = some (.iadd, 1, 0, 0, 0) from rfl) ?_
                  refine s_putI X 179 (show cdA 213 167 = some (.putfield 282, 3, 12, 16, 0) from rfl) (by decide) rfl rfl (by decide) rfl rfl rfl ?_
                  obtain ⟨s648, hs648⟩ : ∃ x0, x0 = uI s640 86 (Int32.ofInt ((iI s640 86) + 1)) := ⟨_, rfl⟩
                  rw [← hs648]
                  have Is648 : Bd s648 := by rw [hs648]; exact bd_I Is640 (show (0 : Int) ≤ ((iI s640 86) + 1) ∧ ((iI s640 86) + 1) ≤ 8 by omega) ⟨by omega, by omega⟩
                  have Fs648 := fm_I (x := Int32.ofInt ((iI s640 86) + 1)) Gs640 (show 86 ∈ _ by decide)
                  rw [← hs648] at Fs648
                  have vs648 : iI s648 86 = ((iI s640 86) + 1) := by rw [hs648]; exact iI_u ⟨by omega, by omega⟩
                  have ws648_77 : iI s648 77 = iI s640 77 := by rw [hs648]; rfl
                  have ws648_75 : iI s648 75 = iI s640 75 := by rw [hs648]; rfl
                  have ws648_79 : iI s648 79 = iI s640 79 := by rw [hs648]; rfl
                  have ws648_78 : iI s648 78 = iI s640 78 := by rw [hs648]; rfl
                  have ws648_87 : iI s648 87 = iI s640 87 := by rw [hs648]; rfl
                  have ws648_88 : iI s648 88 = iI s640 88 := by rw [hs648]; rfl
                  exact w_vret X.1 q hRt (ax_d X (show cdA 213 170 = some (.return_, 1, 0, 0, 0) from rfl)) (Nat.zero_le _) (Nat.zero_le _) ⟨_, rfl, Is648, Fs648, rfl, by omega⟩
                ·
                  refine z_aload_n X (x := A 179) (show cdA 213 154 = some (.aload_n 0, 1, 0, 0, 0) from rfl) (List.Mem.tail _ (List.Mem.tail _ (List.Mem.tail _ (List.Mem.head _)))) ?_
                  refine z_bipush X (show cdA 213 155 = some (.bipush 59, 2, 0, 0, 59) from rfl) ?_
                  refine z_callV X 179 (rm := rmN 204) (As := [.int (Int32.ofInt 59)]) (st := []) (show cdA 213 157 = some (.invokevirtual 263, 3, 204, 0, 0) from rfl) rfl (by decide) rfl (by rw [E.1, E.2.1, E.2.2.1]; exact k_sign G Is640 (by omega) (by omega)) ⟨by rw [E.2.2.2]; exact (show (rmN 204).frames + 1 ≤ (rmN 213).frames by decide), by rw [E.2.2.2]; exact (show 8 + (mNL (miB 204) + 11) + (rmN 204).locals ≤ (rmN 213).locals by decide), by rw [E.2.2.2]; exact (show 0 + (rmN 204).cells ≤ (rmN 213).cells by decide), by rw [E.2.2.2]; exact (show 0 + (rmN 204).slots ≤ (rmN 213).slots by decide)⟩ (Nat.le_of_ble_eq_true rfl) (fun vv s649 hq => ?_) (fun ee s649 hq => ?_)
                  rotate_left
                  · obtain ⟨Is649, Fs649, hv, hps649⟩ := hq; cases hv
                  obtain ⟨Is649, Fs649, hv, hps649⟩ := hq
                  cases hv
                  have Gs649 := fm_ts Gs640 Fs649 (by decide) (by decide)
                  have b651 : (0 : Int) ≤ iI s649 77 ∧ iI s649 77 ≤ 400 := Is649.1 77
                  have ws649_75 : iI s649 75 = iI s640 75 := fm_i Fs649 (by decide)
                  have b652 : (0 : Int) ≤ iI s649 79 ∧ iI s649 79 ≤ 9 := Is649.1 79
                  have ws649_78 : iI s649 78 = iI s640 78 := fm_i Fs649 (by decide)
                  have ws649_86 : iI s649 86 = iI s640 86 := fm_i Fs649 (by decide)
                  have ws649_87 : iI s649 87 = iI s640 87 := fm_i Fs649 (by decide)
                  have ws649_88 : iI s649 88 = iI s640 88 := fm_i Fs649 (by decide)
                  show WS k 160 [(3, .int (Int32.ofInt 0)), (2, .int (Int32.ofInt 1)), (1, .int (Int32.ofInt e9)), (0, .ref (A 179))] [] (Wd A dT s649) 0 0
                  refine z_aload_n X (x := A 179) (show cdA 213 160 = some (.aload_n 0, 1, 0, 0, 0) from rfl) (List.Mem.tail _ (List.Mem.tail _ (List.Mem.tail _ (List.Mem.head _)))) ?_
                  refine w_dup X.1 (ax_d X (show cdA 213 161 = some (.dup, 1, 0, 0, 0) from rfl)) rfl ?_
                  refine z_getI X 179 (show cdA 213 162 = some (.getfield 282, 3, 12, 16, 0) from rfl) (by decide) rfl rfl ?_
                  have b653 : (0 : Int) ≤ iI s649 86 ∧ iI s649 86 ≤ 8 := Is649.1 86
                  refine z_const X (show cdA 213 165 = some (.iconst 1, 1, 0, 0, 0) from rfl) ?_
                  refine z_add X (show cdA 213 166 = some (.iadd, 1, 0, 0, 0) from rfl) ?_
                  refine s_putI X 179 (show cdA 213 167 = some (.putfield 282, 3, 12, 16, 0) from rfl) (by decide) rfl rfl (by decide) rfl rfl rfl ?_
                  obtain ⟨s654, hs654⟩ : ∃ x0, x0 = uI s649 86 (Int32.ofInt ((iI s649 86) + 1)) := ⟨_, rfl⟩
                  rw [← hs654]
                  have Is654 : Bd s654 := by rw [hs654]; exact bd_I Is649 (show (0 : Int) ≤ ((iI s649 86) + 1) ∧ ((iI s649 86) + 1) ≤ 8 by omega) ⟨by omega, by omega⟩
                  have Fs654 := fm_I (x := Int32.ofInt ((iI s649 86) + 1)) Gs649 (show 86 ∈ _ by decide)
                  rw [← hs654] at Fs654
                  have vs654 : iI s654 86 = ((iI s649 86) + 1) := by rw [hs654]; exact iI_u ⟨by omega, by omega⟩
                  have ws654_77 : iI s654 77 = iI s649 77 := by rw [hs654]; rfl
                  have ws654_75 : iI s654 75 = iI s649 75 := by rw [hs654]; rfl
                  have ws654_79 : iI s654 79 = iI s649 79 := by rw [hs654]; rfl
                  have ws654_78 : iI s654 78 = iI s649 78 := by rw [hs654]; rfl
                  have ws654_87 : iI s654 87 = iI s649 87 := by rw [hs654]; rfl
                  have ws654_88 : iI s654 88 = iI s649 88 := by rw [hs654]; rfl
                  exact w_vret X.1 q hRt (ax_d X (show cdA 213 170 = some (.return_, 1, 0, 0, 0) from rfl)) (Nat.zero_le _) (Nat.zero_le _) ⟨_, rfl, Is654, Fs654, rfl, by omega⟩
              ·
                refine z_aload_n X (x := A 179) (show cdA 213 103 = some (.aload_n 0, 1, 0, 0, 0) from rfl) (List.Mem.tail _ (List.Mem.tail _ (List.Mem.tail _ (List.Mem.head _)))) ?_
                refine z_aload_n X (x := A 179) (show cdA 213 104 = some (.aload_n 0, 1, 0, 0, 0) from rfl) (List.Mem.tail _ (List.Mem.tail _ (List.Mem.tail _ (List.Mem.head _)))) ?_
                refine z_getI X 179 (show cdA 213 105 = some (.getfield 184, 3, 12, 4, 0) from rfl) (by decide) rfl rfl ?_
                have b655 : (0 : Int) ≤ iI s631 77 ∧ iI s631 77 ≤ 400 := Is631.1 77
                refine s_putI X 179 (show cdA 213 108 = some (.putfield 285, 3, 12, 18, 0) from rfl) (by decide) rfl rfl (by decide) rfl rfl rfl ?_
                obtain ⟨s656, hs656⟩ : ∃ x0, x0 = uI s631 88 (Int32.ofInt (iI s631 77)) := ⟨_, rfl⟩
                rw [← hs656]
                have Is656 : Bd s656 := by rw [hs656]; exact bd_I Is631 (show ((-1) : Int) ≤ (iI s631 77) ∧ (iI s631 77) ≤ 200 by omega) ⟨by omega, by omega⟩
                have Fs656 := fm_I (x := Int32.ofInt (iI s631 77)) Gs631 (show 88 ∈ _ by decide)
                rw [← hs656] at Fs656
                have vs656 : iI s656 88 = (iI s631 77) := by rw [hs656]; exact iI_u ⟨by omega, by omega⟩
                have ws656_77 : iI s656 77 = iI s631 77 := by rw [hs656]; rfl
                have ws656_75 : iI s656 75 = iI s631 75 := by rw [hs656]; rfl
                have ws656_79 : iI s656 79 = iI s631 79 := by rw [hs656]; rfl
                have ws656_78 : iI s656 78 = iI s631 78 := by rw [hs656]; rfl
                have ws656_86 : iI s656 86 = iI s631 86 := by rw [hs656]; rfl
                have ws656_87 : iI s656 87 = iI s631 87 := by rw [hs656]; rfl
                refine z_aload_n X (x := A 179) (show cdA 213 111 = some (.aload_n 0, 1, 0, 0, 0) from rfl) (List.Mem.tail _ (List.Mem.tail _ (List.Mem.tail _ (List.Mem.head _)))) ?_
                refine z_callV X 179 (rm := rmN 209) (As := []) (st := []) (show cdA 213 112 = some (.invokevirtual 260, 3, 209, 0, 0) from rfl) rfl (by decide) rfl (by rw [E.1, E.2.1, E.2.2.1]; exact k_sum G Is656 (by omega) (by omega) (by omega)) ⟨by rw [E.2.2.2]; exact (show (rmN 209).frames + 1 ≤ (rmN 213).frames by decide), by rw [E.2.2.2]; exact (show 8 + (mNL (miB 209) + 11) + (rmN 209).locals ≤ (rmN 213).locals by decide), by rw [E.2.2.2]; exact (show 0 + (rmN 209).cells ≤ (rmN 213).cells by decide), by rw [E.2.2.2]; exact (show 0 + (rmN 209).slots ≤ (rmN 213).slots by decide)⟩ (Nat.le_of_ble_eq_true rfl) (fun vv s657 hq => ?_) (fun ee s657 hq => ?_)
                rotate_left
                · obtain ⟨Is657, Fs657, e658, hv, hrs657, hps657⟩ := hq; cases hv
                obtain ⟨Is657, Fs657, e658, hv, hrs657, hps657⟩ := hq
                cases hv
                have Gs657 := fm_ts Fs656 Fs657 (by decide) (by decide)
                have b659 : (0 : Int) ≤ iI s657 77 ∧ iI s657 77 ≤ 400 := Is657.1 77
                have ws657_75 : iI s657 75 = iI s656 75 := fm_i Fs657 (by decide)
                have b660 : (0 : Int) ≤ iI s657 79 ∧ iI s657 79 ≤ 9 := Is657.1 79
                have b661 : (0 : Int) ≤ iI s657 78 ∧ iI s657 78 ≤ 8 := Is657.1 78
                have ws657_86 : iI s657 86 = iI s656 86 := fm_i Fs657 (by decide)
                have ws657_87 : iI s657 87 = iI s656 87 := fm_i Fs657 (by decide)
                have ws657_88 : iI s657 88 = iI s656 88 := fm_i Fs657 (by decide)
                show WS k 115 [(3, .int (Int32.ofInt 0)), (2, .int (Int32.ofInt 1)), (1, .int (Int32.ofInt e9)), (0, .ref (A 179))] [.int (Int32.ofInt e658)] (Wd A dT s657) 0 0
                refine w_pop X.1 (ax_d X (show cdA 213 115 = some (.pop, 1, 0, 0, 0) from rfl)) rfl ?_
                refine z_goto X (t := 147) (show cdA 213 116 = some (.goto 31, 3, 0, 0, 0) from rfl) (by decide) ?_
                refine z_aload_n X (x := A 179) (show cdA 213 147 = some (.aload_n 0, 1, 0, 0, 0) from rfl) (List.Mem.tail _ (List.Mem.tail _ (List.Mem.tail _ (List.Mem.head _)))) ?_
                refine z_getI X 179 (show cdA 213 148 = some (.getfield 191, 3, 12, 6, 0) from rfl) (by decide) rfl rfl ?_
                have b662 : (0 : Int) ≤ iI s657 79 ∧ iI s657 79 ≤ 9 := Is657.1 79
                refine z_if_ne X (t := 160) (show cdA 213 151 = some (.ifCond .ne 9, 3, 1, 0, 0) from rfl) (by decide) ⟨by omega, by omega⟩ (fun g663 => ?_) (fun g663 => ?_)
                ·
                  refine z_aload_n X (x := A 179) (show cdA 213 160 = some (.aload_n 0, 1, 0, 0, 0) from rfl) (List.Mem.tail _ (List.Mem.tail _ (List.Mem.tail _ (List.Mem.head _)))) ?_
                  refine w_dup X.1 (ax_d X (show cdA 213 161 = some (.dup, 1, 0, 0, 0) from rfl)) rfl ?_
                  refine z_getI X 179 (show cdA 213 162 = some (.getfield 282, 3, 12, 16, 0) from rfl) (by decide) rfl rfl ?_
                  have b664 : (0 : Int) ≤ iI s657 86 ∧ iI s657 86 ≤ 8 := Is657.1 86
                  refine z_const X (show cdA 213 165 = some (.iconst 1, 1, 0, 0, 0) from rfl) ?_
                  refine z_add X (show cdA 213 166 = some (.iadd, 1, 0, 0, 0) from rfl) ?_
                  refine s_putI X 179 (show cdA 213 167 = some (.putfield 282, 3, 12, 16, 0) from rfl) (by decide) rfl rfl (by decide) rfl rfl rfl ?_
                  obtain ⟨s665, hs665⟩ : ∃ x0, x0 = uI s657 86 (Int32.ofInt ((iI s657 86) + 1)) := ⟨_, rfl⟩
                  rw [← hs665]
                  have Is665 : Bd s665 := by rw [hs665]; exact bd_I Is657 (show (0 : Int) ≤ ((iI s657 86) + 1) ∧ ((iI s657 86) + 1) ≤ 8 by omega) ⟨by omega, by omega⟩
                  have Fs665 := fm_I (x := Int32.ofInt ((iI s657 86) + 1)) Gs657 (show 86 ∈ _ by decide)
                  rw [← hs665] at Fs665
                  have vs665 : iI s665 86 = ((iI s657 86) + 1) := by rw [hs665]; exact iI_u ⟨by omega, by omega⟩
                  have ws665_77 : iI s665 77 = iI s657 77 := by rw [hs665]; rfl
                  have ws665_75 : iI s665 75 = iI s657 75 := by rw [hs665]; rfl
                  have ws665_79 : iI s665 79 = iI s657 79 := by rw [hs665]; rfl
                  have ws665_78 : iI s665 78 = iI s657 78 := by rw [hs665]; rfl
                  have ws665_87 : iI s665 87 = iI s657 87 := by rw [hs665]; rfl
                  have ws665_88 : iI s665 88 = iI s657 88 := by rw [hs665]; rfl
                  exact w_vret X.1 q hRt (ax_d X (show cdA 213 170 = some (.return_, 1, 0, 0, 0) from rfl)) (Nat.zero_le _) (Nat.zero_le _) ⟨_, rfl, Is665, Fs665, rfl, by omega⟩
                ·
                  refine z_aload_n X (x := A 179) (show cdA 213 154 = some (.aload_n 0, 1, 0, 0, 0) from rfl) (List.Mem.tail _ (List.Mem.tail _ (List.Mem.tail _ (List.Mem.head _)))) ?_
                  refine z_bipush X (show cdA 213 155 = some (.bipush 59, 2, 0, 0, 59) from rfl) ?_
                  refine z_callV X 179 (rm := rmN 204) (As := [.int (Int32.ofInt 59)]) (st := []) (show cdA 213 157 = some (.invokevirtual 263, 3, 204, 0, 0) from rfl) rfl (by decide) rfl (by rw [E.1, E.2.1, E.2.2.1]; exact k_sign G Is657 (by omega) (by omega)) ⟨by rw [E.2.2.2]; exact (show (rmN 204).frames + 1 ≤ (rmN 213).frames by decide), by rw [E.2.2.2]; exact (show 8 + (mNL (miB 204) + 11) + (rmN 204).locals ≤ (rmN 213).locals by decide), by rw [E.2.2.2]; exact (show 0 + (rmN 204).cells ≤ (rmN 213).cells by decide), by rw [E.2.2.2]; exact (show 0 + (rmN 204).slots ≤ (rmN 213).slots by decide)⟩ (Nat.le_of_ble_eq_true rfl) (fun vv s666 hq => ?_) (fun ee s666 hq => ?_)
                  rotate_left
                  · obtain ⟨Is666, Fs666, hv, hps666⟩ := hq; cases hv
                  obtain ⟨Is666, Fs666, hv, hps666⟩ := hq
                  cases hv
                  have Gs666 := fm_ts Gs657 Fs666 (by decide) (by decide)
                  have b668 : (0 : Int) ≤ iI s666 77 ∧ iI s666 77 ≤ 400 := Is666.1 77
                  have ws666_75 : iI s666 75 = iI s657 75 := fm_i Fs666 (by decide)
                  have b669 : (0 : Int) ≤ iI s666 79 ∧ iI s666 79 ≤ 9 := Is666.1 79
                  have ws666_78 : iI s666 78 = iI s657 78 := fm_i Fs666 (by decide)
                  have ws666_86 : iI s666 86 = iI s657 86 := fm_i Fs666 (by decide)
                  have ws666_87 : iI s666 87 = iI s657 87 := fm_i Fs666 (by decide)
                  have ws666_88 : iI s666 88 = iI s657 88 := fm_i Fs666 (by decide)
                  show WS k 160 [(3, .int (Int32.ofInt 0)), (2, .int (Int32.ofInt 1)), (1, .int (Int32.ofInt e9)), (0, .ref (A 179))] [] (Wd A dT s666) 0 0
                  refine z_aload_n X (x := A 179) (show cdA 213 160 = some (.aload_n 0, 1, 0, 0, 0) from rfl) (List.Mem.tail _ (List.Mem.tail _ (List.Mem.tail _ (List.Mem.head _)))) ?_
                  refine w_dup X.1 (ax_d X (show cdA 213 161 = some (.dup, 1, 0, 0, 0) from rfl)) rfl ?_
                  refine z_getI X 179 (show cdA 213 162 = some (.getfield 282, 3, 12, 16, 0) from rfl) (by decide) rfl rfl ?_
                  have b670 : (0 : Int) ≤ iI s666 86 ∧ iI s666 86 ≤ 8 := Is666.1 86
                  refine z_const X (show cdA 213 165 = some (.iconst 1, 1, 0, 0, 0) from rfl) ?_
                  refine z_add X (show cdA 213 166 = some (.iadd, 1, 0, 0, 0) from rfl) ?_
                  refine s_putI X 179 (show cdA 213 167 = some (.putfield 282, 3, 12, 16, 0) from rfl) (by decide) rfl rfl (by decide) rfl rfl rfl ?_
                  obtain ⟨s671, hs671⟩ : ∃ x0, x0 = uI s666 86 (Int32.ofInt ((iI s666 86) + 1)) := ⟨_, rfl⟩
                  rw [← hs671]
                  have Is671 : Bd s671 := by rw [hs671]; exact bd_I Is666 (show (0 : Int) ≤ ((iI s666 86) + 1) ∧ ((iI s666 86) + 1) ≤ 8 by omega) ⟨by omega, by omega⟩
                  have Fs671 := fm_I (x := Int32.ofInt ((iI s666 86) + 1)) Gs666 (show 86 ∈ _ by decide)
                  rw [← hs671] at Fs671
                  have vs671 : iI s671 86 = ((iI s666 86) + 1) := by rw [hs671]; exact iI_u ⟨by omega, by omega⟩
                  have ws671_77 : iI s671 77 = iI s666 77 := by rw [hs671]; rfl
                  have ws671_75 : iI s671 75 = iI s666 75 := by rw [hs671]; rfl
                  have ws671_79 : iI s671 79 = iI s666 79 := by rw [hs671]; rfl
                  have ws671_78 : iI s671 78 = iI s666 78 := by rw [hs671]; rfl
                  have ws671_87 : iI s671 87 = iI s666 87 := by rw [hs671]; rfl
                  have ws671_88 : iI s671 88 = iI s666 88 := by rw [hs671]; rfl
                  exact w_vret X.1 q hRt (ax_d X (show cdA 213 170 = some (.return_, 1, 0, 0, 0) from rfl)) (Nat.zero_le _) (Nat.zero_le _) ⟨_, rfl, Is671, Fs671, rfl, by omega⟩
            ·
              exact w_vret X.1 q hRt (ax_d X (show cdA 213 94 = some (.return_, 1, 0, 0, 0) from rfl)) (Nat.zero_le _) (Nat.zero_le _) ⟨_, rfl, Is626, Gs626, rfl, by omega⟩
        ·
          refine z_aload_n X (x := A 179) (show cdA 213 57 = some (.aload_n 0, 1, 0, 0, 0) from rfl) (List.Mem.tail _ (List.Mem.tail _ (List.Mem.tail _ (List.Mem.head _)))) ?_
          refine z_const X (show cdA 213 58 = some (.iconst 1, 1, 0, 0, 0) from rfl) ?_
          refine z_aload_n X (x := A 179) (show cdA 213 59 = some (.aload_n 0, 1, 0, 0, 0) from rfl) (List.Mem.tail _ (List.Mem.tail _ (List.Mem.tail _ (List.Mem.head _)))) ?_
          refine z_getI X 179 (show cdA 213 60 = some (.getfield 184, 3, 12, 4, 0) from rfl) (by decide) rfl rfl ?_
          have b672 : (0 : Int) ≤ iI s483 77 ∧ iI s483 77 ≤ 400 := Is483.1 77
          refine z_callV X 179 (rm := rmN 194) (As := [.int (Int32.ofInt 1), .int (Int32.ofInt (iI s483 77))]) (st := []) (show cdA 213 63 = some (.invokevirtual 204, 3, 194, 0, 0) from rfl) rfl (by decide) rfl (by rw [E.1, E.2.1, E.2.2.1]; exact k_wrong G Is483 (by omega) (by omega)) ⟨by rw [E.2.2.2]; exact (show (rmN 194).frames + 1 ≤ (rmN 213).frames by decide), by rw [E.2.2.2]; exact (show 8 + (mNL (miB 194) + 11) + (rmN 194).locals ≤ (rmN 213).locals by decide), by rw [E.2.2.2]; exact (show 0 + (rmN 194).cells ≤ (rmN 213).cells by decide), by rw [E.2.2.2]; exact (show 0 + (rmN 194).slots ≤ (rmN 213).slots by decide)⟩ (Nat.le_of_ble_eq_true rfl) (fun vv s673 hq => ?_) (fun ee s673 hq => ?_)
          rotate_left
          · obtain ⟨Is673, Fs673, hv, hps673⟩ := hq; cases hv
          obtain ⟨Is673, Fs673, hv, hps673⟩ := hq
          cases hv
          have Gs673 := fm_ts Gs483 Fs673 (by decide) (by decide)
          have ws673_77 : iI s673 77 = iI s483 77 := fm_i Fs673 (by decide)
          have ws673_75 : iI s673 75 = iI s483 75 := fm_i Fs673 (by decide)
          have b675 : (0 : Int) ≤ iI s673 79 ∧ iI s673 79 ≤ 9 := Is673.1 79
          have ws673_78 : iI s673 78 = iI s483 78 := fm_i Fs673 (by decide)
          have ws673_86 : iI s673 86 = iI s483 86 := fm_i Fs673 (by decide)
          have ws673_87 : iI s673 87 = iI s483 87 := fm_i Fs673 (by decide)
          have ws673_88 : iI s673 88 = iI s483 88 := fm_i Fs673 (by decide)
          show WS k 66 [(3, .int (Int32.ofInt 0)), (2, .int (Int32.ofInt 1)), (1, .int (Int32.ofInt e9)), (0, .ref (A 179))] [] (Wd A dT s673) 0 0
          refine z_goto X (t := 87) (show cdA 213 66 = some (.goto 21, 3, 0, 0, 0) from rfl) (by decide) ?_
          refine z_aload_n X (x := A 179) (show cdA 213 87 = some (.aload_n 0, 1, 0, 0, 0) from rfl) (List.Mem.tail _ (List.Mem.tail _ (List.Mem.tail _ (List.Mem.head _)))) ?_
          refine z_getI X 179 (show cdA 213 88 = some (.getfield 191, 3, 12, 6, 0) from rfl) (by decide) rfl rfl ?_
          have b676 : (0 : Int) ≤ iI s673 79 ∧ iI s673 79 ≤ 9 := Is673.1 79
          refine z_if_eq X (t := 95) (show cdA 213 91 = some (.ifCond .eq 4, 3, 0, 0, 0) from rfl) (by decide) ⟨by omega, by omega⟩ (fun g677 => ?_) (fun g677 => ?_)
          ·
            refine z_aload_n X (x := A 179) (show cdA 213 95 = some (.aload_n 0, 1, 0, 0, 0) from rfl) (List.Mem.tail _ (List.Mem.tail _ (List.Mem.tail _ (List.Mem.head _)))) ?_
            refine z_callV X 179 (rm := rmN 203) (As := []) (st := []) (show cdA 213 96 = some (.invokevirtual 254, 3, 203, 0, 0) from rfl) rfl (by decide) rfl (by rw [E.1, E.2.1, E.2.2.1]; exact k_skipWord G Is673 (by omega)) ⟨by rw [E.2.2.2]; exact (show (rmN 203).frames + 1 ≤ (rmN 213).frames by decide), by rw [E.2.2.2]; exact (show 8 + (mNL (miB 203) + 11) + (rmN 203).locals ≤ (rmN 213).locals by decide), by rw [E.2.2.2]; exact (show 0 + (rmN 203).cells ≤ (rmN 213).cells by decide), by rw [E.2.2.2]; exact (show 0 + (rmN 203).slots ≤ (rmN 213).slots by decide)⟩ (Nat.le_of_ble_eq_true rfl) (fun vv s678 hq => ?_) (fun ee s678 hq => ?_)
            rotate_left
            · obtain ⟨Is678, Fs678, hv, hps678⟩ := hq; cases hv
            obtain ⟨Is678, Fs678, hv, hps678⟩ := hq
            cases hv
            have Gs678 := fm_ts Gs673 Fs678 (by decide) (by decide)
            have b680 : (0 : Int) ≤ iI s678 77 ∧ iI s678 77 ≤ 400 := Is678.1 77
            have ws678_75 : iI s678 75 = iI s673 75 := fm_i Fs678 (by decide)
            have ws678_79 : iI s678 79 = iI s673 79 := fm_i Fs678 (by decide)
            have ws678_78 : iI s678 78 = iI s673 78 := fm_i Fs678 (by decide)
            have ws678_86 : iI s678 86 = iI s673 86 := fm_i Fs678 (by decide)
            have ws678_87 : iI s678 87 = iI s673 87 := fm_i Fs678 (by decide)
            have ws678_88 : iI s678 88 = iI s673 88 := fm_i Fs678 (by decide)
            show WS k 99 [(3, .int (Int32.ofInt 0)), (2, .int (Int32.ofInt 1)), (1, .int (Int32.ofInt e9)), (0, .ref (A 179))] [] (Wd A dT s678) 0 0
            refine z_load_n X (x := 1) (show cdA 213 99 = some (.iload_n 2, 1, 0, 0, 0) from rfl) (List.Mem.tail _ (List.Mem.head _)) ?_
            refine z_if_eq X (t := 119) (show cdA 213 100 = some (.ifCond .eq 19, 3, 0, 0, 0) from rfl) (by decide) ⟨by omega, by omega⟩ (fun g681 => ?_) (fun g681 => ?_)
            ·
              refine z_aload_n X (x := A 179) (show cdA 213 119 = some (.aload_n 0, 1, 0, 0, 0) from rfl) (List.Mem.tail _ (List.Mem.tail _ (List.Mem.tail _ (List.Mem.head _)))) ?_
              refine s_getR X 179 (show cdA 213 120 = some (.getfield 29, 3, 12, 20, 0) from rfl) (by decide) rfl rfl ?_
              refine z_aload_n X (x := A 179) (show cdA 213 123 = some (.aload_n 0, 1, 0, 0, 0) from rfl) (List.Mem.tail _ (List.Mem.tail _ (List.Mem.tail _ (List.Mem.head _)))) ?_
              refine z_getI X 179 (show cdA 213 124 = some (.getfield 288, 3, 12, 17, 0) from rfl) (by decide) rfl rfl ?_
              have b682 : (0 : Int) ≤ iI s678 87 ∧ iI s678 87 ≤ 8 := Is678.1 87
              refine z_aload_n X (x := A 179) (show cdA 213 127 = some (.aload_n 0, 1, 0, 0, 0) from rfl) (List.Mem.tail _ (List.Mem.tail _ (List.Mem.tail _ (List.Mem.head _)))) ?_
              refine z_getI X 179 (show cdA 213 128 = some (.getfield 184, 3, 12, 4, 0) from rfl) (by decide) rfl rfl ?_
              have b683 : (0 : Int) ≤ iI s678 77 ∧ iI s678 77 ≤ 400 := Is678.1 77
              refine z_ast X 183 (show cdA 213 131 = some (.iastore, 1, 0, 0, 0) from rfl) (by decide) rfl (by omega) (show (iI s678 87) < 8 by omega) (by decide) ?_
              obtain ⟨s684, hs684⟩ : ∃ x0, x0 = uC s678 160 ((iI s678 87)).toNat (Int32.ofInt (iI s678 77)) := ⟨_, rfl⟩
              rw [← hs684]
              have Is684 : Bd s684 := by rw [hs684]; exact bd_C Is678 (show (0 : Int) ≤ (iI s678 77) ∧ (iI s678 77) ≤ 200 by omega) ⟨by omega, by omega⟩
              have Fs684 := fm_C (i := ((iI s678 87)).toNat) (x := Int32.ofInt (iI s678 77)) Gs678 (show 160 ∈ _ by decide)
              rw [← hs684] at Fs684
              have ws684_77 : iI s684 77 = iI s678 77 := by rw [hs684]; rfl
              have ws684_75 : iI s684 75 = iI s678 75 := by rw [hs684]; rfl
              have ws684_79 : iI s684 79 = iI s678 79 := by rw [hs684]; rfl
              have ws684_78 : iI s684 78 = iI s678 78 := by rw [hs684]; rfl
              have ws684_86 : iI s684 86 = iI s678 86 := by rw [hs684]; rfl
              have ws684_87 : iI s684 87 = iI s678 87 := by rw [hs684]; rfl
              have ws684_88 : iI s684 88 = iI s678 88 := by rw [hs684]; rfl
              refine z_aload_n X (x := A 179) (show cdA 213 132 = some (.aload_n 0, 1, 0, 0, 0) from rfl) (List.Mem.tail _ (List.Mem.tail _ (List.Mem.tail _ (List.Mem.head _)))) ?_
              refine w_dup X.1 (ax_d X (show cdA 213 133 = some (.dup, 1, 0, 0, 0) from rfl)) rfl ?_
              refine z_getI X 179 (show cdA 213 134 = some (.getfield 288, 3, 12, 17, 0) from rfl) (by decide) rfl rfl ?_
              have b685 : (0 : Int) ≤ iI s684 87 ∧ iI s684 87 ≤ 8 := Is684.1 87
              refine z_const X (show cdA 213 137 = some (.iconst 1, 1, 0, 0, 0) from rfl) ?_
              refine z_add X (show cdA 213 138 = some (.iadd, 1, 0, 0, 0) from rfl) ?_
              refine s_putI X 179 (show cdA 213 139 = some (.putfield 288, 3, 12, 17, 0) from rfl) (by decide) rfl rfl (by decide) rfl rfl rfl ?_
              obtain ⟨s686, hs686⟩ : ∃ x0, x0 = uI s684 87 (Int32.ofInt ((iI s684 87) + 1)) := ⟨_, rfl⟩
              rw [← hs686]
              have Is686 : Bd s686 := by rw [hs686]; exact bd_I Is684 (show (0 : Int) ≤ ((iI s684 87) + 1) ∧ ((iI s684 87) + 1) ≤ 8 by omega) ⟨by omega, by omega⟩
              have Fs686 := fm_I (x := Int32.ofInt ((iI s684 87) + 1)) Fs684 (show 87 ∈ _ by decide)
              rw [← hs686] at Fs686
              have vs686 : iI s686 87 = ((iI s684 87) + 1) := by rw [hs686]; exact iI_u ⟨by omega, by omega⟩
              have ws686_77 : iI s686 77 = iI s684 77 := by rw [hs686]; rfl
              have ws686_75 : iI s686 75 = iI s684 75 := by rw [hs686]; rfl
              have ws686_79 : iI s686 79 = iI s684 79 := by rw [hs686]; rfl
              have ws686_78 : iI s686 78 = iI s684 78 := by rw [hs686]; rfl
              have ws686_86 : iI s686 86 = iI s684 86 := by rw [hs686]; rfl
              have ws686_88 : iI s686 88 = iI s684 88 := by rw [hs686]; rfl
              refine z_aload_n X (x := A 179) (show cdA 213 142 = some (.aload_n 0, 1, 0, 0, 0) from rfl) (List.Mem.tail _ (List.Mem.tail _ (List.Mem.tail _ (List.Mem.head _)))) ?_
              refine z_callV X 179 (rm := rmN 212) (As := []) (st := []) (show cdA 213 143 = some (.invokevirtual 276, 3, 212, 0, 0) from rfl) rfl (by decide) rfl (by rw [E.1, E.2.1, E.2.2.1]; exact k_ors G Is686 (by omega) (by omega) (by omega) (by omega)) ⟨by rw [E.2.2.2]; exact (show (rmN 212).frames + 1 ≤ (rmN 213).frames by decide), by rw [E.2.2.2]; exact (show 8 + (mNL (miB 212) + 11) + (rmN 212).locals ≤ (rmN 213).locals by decide), by rw [E.2.2.2]; exact (show 0 + (rmN 212).cells ≤ (rmN 213).cells by decide), by rw [E.2.2.2]; exact (show 0 + (rmN 212).slots ≤ (rmN 213).slots by decide)⟩ (Nat.le_of_ble_eq_true rfl) (fun vv s687 hq => ?_) (fun ee s687 hq => ?_)
              rotate_left
              · obtain ⟨Is687, Fs687, e688, hv, hrs687, hps687⟩ := hq; cases hv
              obtain ⟨Is687, Fs687, e688, hv, hrs687, hps687⟩ := hq
              cases hv
              have Gs687 := fm_ts Fs686 Fs687 (by decide) (by decide)
              have b689 : (0 : Int) ≤ iI s687 77 ∧ iI s687 77 ≤ 400 := Is687.1 77
              have ws687_75 : iI s687 75 = iI s686 75 := fm_i Fs687 (by decide)
              have b690 : (0 : Int) ≤ iI s687 79 ∧ iI s687 79 ≤ 9 := Is687.1 79
              have b691 : (0 : Int) ≤ iI s687 78 ∧ iI s687 78 ≤ 8 := Is687.1 78
              have ws687_86 : iI s687 86 = iI s686 86 := fm_i Fs687 (by decide)
              have ws687_87 : iI s687 87 = iI s686 87 := fm_i Fs687 (by decide)
              have ws687_88 : iI s687 88 = iI s686 88 := fm_i Fs687 (by decide)
              show WS k 146 [(3, .int (Int32.ofInt 0)), (2, .int (Int32.ofInt 1)), (1, .int (Int32.ofInt e9)), (0, .ref (A 179))] [.int (Int32.ofInt e688)] (Wd A dT s687) 0 0
              refine w_pop X.1 (ax_d X (show cdA 213 146 = some (.pop, 1, 0, 0, 0) from rfl)) rfl ?_
              refine z_aload_n X (x := A 179) (show cdA 213 147 = some (.aload_n 0, 1, 0, 0, 0) from rfl) (List.Mem.tail _ (List.Mem.tail _ (List.Mem.tail _ (List.Mem.head _)))) ?_
              refine z_getI X 179 (show cdA 213 148 = some (.getfield 191, 3, 12, 6, 0) from rfl) (by decide) rfl rfl ?_
              have b692 : (0 : Int) ≤ iI s687 79 ∧ iI s687 79 ≤ 9 := Is687.1 79
              refine z_if_ne X (t := 160) (show cdA 213 151 = some (.ifCond .ne 9, 3, 1, 0, 0) from rfl) (by decide) ⟨by omega, by omega⟩ (fun g693 => ?_) (fun g693 => ?_)
              ·
                refine z_aload_n X (x := A 179) (show cdA 213 160 = some (.aload_n 0, 1, 0, 0, 0) from rfl) (List.Mem.tail _ (List.Mem.tail _ (List.Mem.tail _ (List.Mem.head _)))) ?_
                refine w_dup X.1 (ax_d X (show cdA 213 161 = some (.dup, 1, 0, 0, 0) from rfl)) rfl ?_
                refine z_getI X 179 (show cdA 213 162 = some (.getfield 282, 3, 12, 16, 0) from rfl) (by decide) rfl rfl ?_
                have b694 : (0 : Int) ≤ iI s687 86 ∧ iI s687 86 ≤ 8 := Is687.1 86
                refine z_const X (show cdA 213 165 = some (.iconst 1, 1, 0, 0, 0) from rfl) ?_
                refine z_add X (show cdA 213 166 = some (.iadd, 1, 0, 0, 0) from rfl) ?_
                refine s_putI X 179 (show cdA 213 167 = some (.putfield 282, 3, 12, 16, 0) from rfl) (by decide) rfl rfl (by decide) rfl rfl rfl ?_
                obtain ⟨s695, hs695⟩ : ∃ x0, x0 = uI s687 86 (Int32.ofInt ((iI s687 86) + 1)) := ⟨_, rfl⟩
                rw [← hs695]
                have Is695 : Bd s695 := by rw [hs695]; exact bd_I Is687 (show (0 : Int) ≤ ((iI s687 86) + 1) ∧ ((iI s687 86) + 1) ≤ 8 by omega) ⟨by omega, by omega⟩
                have Fs695 := fm_I (x := Int32.ofInt ((iI s687 86) + 1)) Gs687 (show 86 ∈ _ by decide)
                rw [← hs695] at Fs695
                have vs695 : iI s695 86 = ((iI s687 86) + 1) := by rw [hs695]; exact iI_u ⟨by omega, by omega⟩
                have ws695_77 : iI s695 77 = iI s687 77 := by rw [hs695]; rfl
                have ws695_75 : iI s695 75 = iI s687 75 := by rw [hs695]; rfl
                have ws695_79 : iI s695 79 = iI s687 79 := by rw [hs695]; rfl
                have ws695_78 : iI s695 78 = iI s687 78 := by rw [hs695]; rfl
                have ws695_87 : iI s695 87 = iI s687 87 := by rw [hs695]; rfl
                have ws695_88 : iI s695 88 = iI s687 88 := by rw [hs695]; rfl
                exact w_vret X.1 q hRt (ax_d X (show cdA 213 170 = some (.return_, 1, 0, 0, 0) from rfl)) (Nat.zero_le _) (Nat.zero_le _) ⟨_, rfl, Is695, Fs695, rfl, by omega⟩
              ·
                refine z_aload_n X (x := A 179) (show cdA 213 154 = some (.aload_n 0, 1, 0, 0, 0) from rfl) (List.Mem.tail _ (List.Mem.tail _ (List.Mem.tail _ (List.Mem.head _)))) ?_
                refine z_bipush X (show cdA 213 155 = some (.bipush 59, 2, 0, 0, 59) from rfl) ?_
                refine z_callV X 179 (rm := rmN 204) (As := [.int (Int32.ofInt 59)]) (st := []) (show cdA 213 157 = some (.invokevirtual 263, 3, 204, 0, 0) from rfl) rfl (by decide) rfl (by rw [E.1, E.2.1, E.2.2.1]; exact k_sign G Is687 (by omega) (by omega)) ⟨by rw [E.2.2.2]; exact (show (rmN 204).frames + 1 ≤ (rmN 213).frames by decide), by rw [E.2.2.2]; exact (show 8 + (mNL (miB 204) + 11) + (rmN 204).locals ≤ (rmN 213).locals by decide), by rw [E.2.2.2]; exact (show 0 + (rmN 204).cells ≤ (rmN 213).cells by decide), by rw [E.2.2.2]; exact (show 0 + (rmN 204).slots ≤ (rmN 213).slots by decide)⟩ (Nat.le_of_ble_eq_true rfl) (fun vv s696 hq => ?_) (fun ee s696 hq => ?_)
                rotate_left
                · obtain ⟨Is696, Fs696, hv, hps696⟩ := hq; cases hv
                obtain ⟨Is696, Fs696, hv, hps696⟩ := hq
                cases hv
                have Gs696 := fm_ts Gs687 Fs696 (by decide) (by decide)
                have b698 : (0 : Int) ≤ iI s696 77 ∧ iI s696 77 ≤ 400 := Is696.1 77
                have ws696_75 : iI s696 75 = iI s687 75 := fm_i Fs696 (by decide)
                have b699 : (0 : Int) ≤ iI s696 79 ∧ iI s696 79 ≤ 9 := Is696.1 79
                have ws696_78 : iI s696 78 = iI s687 78 := fm_i Fs696 (by decide)
                have ws696_86 : iI s696 86 = iI s687 86 := fm_i Fs696 (by decide)
                have ws696_87 : iI s696 87 = iI s687 87 := fm_i Fs696 (by decide)
                have ws696_88 : iI s696 88 = iI s687 88 := fm_i Fs696 (by decide)
                show WS k 160 [(3, .int (Int32.ofInt 0)), (2, .int (Int32.ofInt 1)), (1, .int (Int32.ofInt e9)), (0, .ref (A 179))] [] (Wd A dT s696) 0 0
                refine z_aload_n X (x := A 179) (show cdA 213 160 = some (.aload_n 0, 1, 0, 0, 0) from rfl) (List.Mem.tail _ (List.Mem.tail _ (List.Mem.tail _ (List.Mem.head _)))) ?_
                refine w_dup X.1 (ax_d X (show cdA 213 161 = some (.dup, 1, 0, 0, 0) from rfl)) rfl ?_
                refine z_getI X 179 (show cdA 213 162 = some (.getfield 282, 3, 12, 16, 0) from rfl) (by decide) rfl rfl ?_
                have b700 : (0 : Int) ≤ iI s696 86 ∧ iI s696 86 ≤ 8 := Is696.1 86
                refine z_const X (show cdA 213 165 = some (.iconst 1, 1, 0, 0, 0) from rfl) ?_
                refine z_add X (show cdA 213 166 = some (.iadd, 1, 0, 0, 0) from rfl) ?_
                refine s_putI X 179 (show cdA 213 167 = some (.putfield 282, 3, 12, 16, 0) from rfl) (by decide) rfl rfl (by decide) rfl rfl rfl ?_
                obtain ⟨s701, hs701⟩ : ∃ x0, x0 = uI s696 86 (Int32.ofInt ((iI s696 86) + 1)) := ⟨_, rfl⟩
                rw [← hs701]
                have Is701 : Bd s701 := by rw [hs701]; exact bd_I Is696 (show (0 : Int) ≤ ((iI s696 86) + 1) ∧ ((iI s696 86) + 1) ≤ 8 by omega) ⟨by omega, by omega⟩
                have Fs701 := fm_I (x := Int32.ofInt ((iI s696 86) + 1)) Gs696 (show 86 ∈ _ by decide)
                rw [← hs701] at Fs701
                have vs701 : iI s701 86 = ((iI s696 86) + 1) := by rw [hs701]; exact iI_u ⟨by omega, by omega⟩
                have ws701_77 : iI s701 77 = iI s696 77 := by rw [hs701]; rfl
                have ws701_75 : iI s701 75 = iI s696 75 := by rw [hs701]; rfl
                have ws701_79 : iI s701 79 = iI s696 79 := by rw [hs701]; rfl
                have ws701_78 : iI s701 78 = iI s696 78 := by rw [hs701]; rfl
                have ws701_87 : iI s701 87 = iI s696 87 := by rw [hs701]; rfl
                have ws701_88 : iI s701 88 = iI s696 88 := by rw [hs701]; rfl
                exact w_vret X.1 q hRt (ax_d X (show cdA 213 170 = some (.return_, 1, 0, 0, 0) from rfl)) (Nat.zero_le _) (Nat.zero_le _) ⟨_, rfl, Is701, Fs701, rfl, by omega⟩
            ·
              refine z_aload_n X (x := A 179) (show cdA 213 103 = some (.aload_n 0, 1, 0, 0, 0) from rfl) (List.Mem.tail _ (List.Mem.tail _ (List.Mem.tail _ (List.Mem.head _)))) ?_
              refine z_aload_n X (x := A 179) (show cdA 213 104 = some (.aload_n 0, 1, 0, 0, 0) from rfl) (List.Mem.tail _ (List.Mem.tail _ (List.Mem.tail _ (List.Mem.head _)))) ?_
              refine z_getI X 179 (show cdA 213 105 = some (.getfield 184, 3, 12, 4, 0) from rfl) (by decide) rfl rfl ?_
              have b702 : (0 : Int) ≤ iI s678 77 ∧ iI s678 77 ≤ 400 := Is678.1 77
              refine s_putI X 179 (show cdA 213 108 = some (.putfield 285, 3, 12, 18, 0) from rfl) (by decide) rfl rfl (by decide) rfl rfl rfl ?_
              obtain ⟨s703, hs703⟩ : ∃ x0, x0 = uI s678 88 (Int32.ofInt (iI s678 77)) := ⟨_, rfl⟩
              rw [← hs703]
              have Is703 : Bd s703 := by rw [hs703]; exact bd_I Is678 (show ((-1) : Int) ≤ (iI s678 77) ∧ (iI s678 77) ≤ 200 by omega) ⟨by omega, by omega⟩
              have Fs703 := fm_I (x := Int32.ofInt (iI s678 77)) Gs678 (show 88 ∈ _ by decide)
              rw [← hs703] at Fs703
              have vs703 : iI s703 88 = (iI s678 77) := by rw [hs703]; exact iI_u ⟨by omega, by omega⟩
              have ws703_77 : iI s703 77 = iI s678 77 := by rw [hs703]; rfl
              have ws703_75 : iI s703 75 = iI s678 75 := by rw [hs703]; rfl
              have ws703_79 : iI s703 79 = iI s678 79 := by rw [hs703]; rfl
              have ws703_78 : iI s703 78 = iI s678 78 := by rw [hs703]; rfl
              have ws703_86 : iI s703 86 = iI s678 86 := by rw [hs703]; rfl
              have ws703_87 : iI s703 87 = iI s678 87 := by rw [hs703]; rfl
              refine z_aload_n X (x := A 179) (show cdA 213 111 = some (.aload_n 0, 1, 0, 0, 0) from rfl) (List.Mem.tail _ (List.Mem.tail _ (List.Mem.tail _ (List.Mem.head _)))) ?_
              refine z_callV X 179 (rm := rmN 209) (As := []) (st := []) (show cdA 213 112 = some (.invokevirtual 260, 3, 209, 0, 0) from rfl) rfl (by decide) rfl (by rw [E.1, E.2.1, E.2.2.1]; exact k_sum G Is703 (by omega) (by omega) (by omega)) ⟨by rw [E.2.2.2]; exact (show (rmN 209).frames + 1 ≤ (rmN 213).frames by decide), by rw [E.2.2.2]; exact (show 8 + (mNL (miB 209) + 11) + (rmN 209).locals ≤ (rmN 213).locals by decide), by rw [E.2.2.2]; exact (show 0 + (rmN 209).cells ≤ (rmN 213).cells by decide), by rw [E.2.2.2]; exact (show 0 + (rmN 209).slots ≤ (rmN 213).slots by decide)⟩ (Nat.le_of_ble_eq_true rfl) (fun vv s704 hq => ?_) (fun ee s704 hq => ?_)
              rotate_left
              · obtain ⟨Is704, Fs704, e705, hv, hrs704, hps704⟩ := hq; cases hv
              obtain ⟨Is704, Fs704, e705, hv, hrs704, hps704⟩ := hq
              cases hv
              have Gs704 := fm_ts Fs703 Fs704 (by decide) (by decide)
              have b706 : (0 : Int) ≤ iI s704 77 ∧ iI s704 77 ≤ 400 := Is704.1 77
              have ws704_75 : iI s704 75 = iI s703 75 := fm_i Fs704 (by decide)
              have b707 : (0 : Int) ≤ iI s704 79 ∧ iI s704 79 ≤ 9 := Is704.1 79
              have b708 : (0 : Int) ≤ iI s704 78 ∧ iI s704 78 ≤ 8 := Is704.1 78
              have ws704_86 : iI s704 86 = iI s703 86 := fm_i Fs704 (by decide)
              have ws704_87 : iI s704 87 = iI s703 87 := fm_i Fs704 (by decide)
              have ws704_88 : iI s704 88 = iI s703 88 := fm_i Fs704 (by decide)
              show WS k 115 [(3, .int (Int32.ofInt 0)), (2, .int (Int32.ofInt 1)), (1, .int (Int32.ofInt e9)), (0, .ref (A 179))] [.int (Int32.ofInt e705)] (Wd A dT s704) 0 0
              refine w_pop X.1 (ax_d X (show cdA 213 115 = some (.pop, 1, 0, 0, 0) from rfl)) rfl ?_
              refine z_goto X (t := 147) (show cdA 213 116 = some (.goto 31, 3, 0, 0, 0) from rfl) (by decide) ?_
              refine z_aload_n X (x := A 179) (show cdA 213 147 = some (.aload_n 0, 1, 0, 0, 0) from rfl) (List.Mem.tail _ (List.Mem.tail _ (List.Mem.tail _ (List.Mem.head _)))) ?_
              refine z_getI X 179 (show cdA 213 148 = some (.getfield 191, 3, 12, 6, 0) from rfl) (by decide) rfl rfl ?_
              have b709 : (0 : Int) ≤ iI s704 79 ∧ iI s704 79 ≤ 9 := Is704.1 79
              refine z_if_ne X (t := 160) (show cdA 213 151 = some (.ifCond .ne 9, 3, 1, 0, 0) from rfl) (by decide) ⟨by omega, by omega⟩ (fun g710 => ?_) (fun g710 => ?_)
              ·
                refine z_aload_n X (x := A 179) (show cdA 213 160 = some (.aload_n 0, 1, 0, 0, 0) from rfl) (List.Mem.tail _ (List.Mem.tail _ (List.Mem.tail _ (List.Mem.head _)))) ?_
                refine w_dup X.1 (ax_d X (show cdA 213 161 = some (.dup, 1, 0, 0, 0) from rfl)) rfl ?_
                refine z_getI X 179 (show cdA 213 162 = some (.getfield 282, 3, 12, 16, 0) from rfl) (by decide) rfl rfl ?_
                have b711 : (0 : Int) ≤ iI s704 86 ∧ iI s704 86 ≤ 8 := Is704.1 86
                refine z_const X (show cdA 213 165 = some (.iconst 1, 1, 0, 0, 0) from rfl) ?_
                refine z_add X (show cdA 213 166 = some (.iadd, 1, 0, 0, 0) from rfl) ?_
                refine s_putI X 179 (show cdA 213 167 = some (.putfield 282, 3, 12, 16, 0) from rfl) (by decide) rfl rfl (by decide) rfl rfl rfl ?_
                obtain ⟨s712, hs712⟩ : ∃ x0, x0 = uI s704 86 (Int32.ofInt ((iI s704 86) + 1)) := ⟨_, rfl⟩
                rw [← hs712]
                have Is712 : Bd s712 := by rw [hs712]; exact bd_I Is704 (show (0 : Int) ≤ ((iI s704 86) + 1) ∧ ((iI s704 86) + 1) ≤ 8 by omega) ⟨by omega, by omega⟩
                have Fs712 := fm_I (x := Int32.ofInt ((iI s704 86) + 1)) Gs704 (show 86 ∈ _ by decide)
                rw [← hs712] at Fs712
                have vs712 : iI s712 86 = ((iI s704 86) + 1) := by rw [hs712]; exact iI_u ⟨by omega, by omega⟩
                have ws712_77 : iI s712 77 = iI s704 77 := by rw [hs712]; rfl
                have ws712_75 : iI s712 75 = iI s704 75 := by rw [hs712]; rfl
                have ws712_79 : iI s712 79 = iI s704 79 := by rw [hs712]; rfl
                have ws712_78 : iI s712 78 = iI s704 78 := by rw [hs712]; rfl
                have ws712_87 : iI s712 87 = iI s704 87 := by rw [hs712]; rfl
                have ws712_88 : iI s712 88 = iI s704 88 := by rw [hs712]; rfl
                exact w_vret X.1 q hRt (ax_d X (show cdA 213 170 = some (.return_, 1, 0, 0, 0) from rfl)) (Nat.zero_le _) (Nat.zero_le _) ⟨_, rfl, Is712, Fs712, rfl, by omega⟩
              ·
                refine z_aload_n X (x := A 179) (show cdA 213 154 = some (.aload_n 0, 1, 0, 0, 0) from rfl) (List.Mem.tail _ (List.Mem.tail _ (List.Mem.tail _ (List.Mem.head _)))) ?_
                refine z_bipush X (show cdA 213 155 = some (.bipush 59, 2, 0, 0, 59) from rfl) ?_
                refine z_callV X 179 (rm := rmN 204) (As := [.int (Int32.ofInt 59)]) (st := []) (show cdA 213 157 = some (.invokevirtual 263, 3, 204, 0, 0) from rfl) rfl (by decide) rfl (by rw [E.1, E.2.1, E.2.2.1]; exact k_sign G Is704 (by omega) (by omega)) ⟨by rw [E.2.2.2]; exact (show (rmN 204).frames + 1 ≤ (rmN 213).frames by decide), by rw [E.2.2.2]; exact (show 8 + (mNL (miB 204) + 11) + (rmN 204).locals ≤ (rmN 213).locals by decide), by rw [E.2.2.2]; exact (show 0 + (rmN 204).cells ≤ (rmN 213).cells by decide), by rw [E.2.2.2]; exact (show 0 + (rmN 204).slots ≤ (rmN 213).slots by decide)⟩ (Nat.le_of_ble_eq_true rfl) (fun vv s713 hq => ?_) (fun ee s713 hq => ?_)
                rotate_left
                · obtain ⟨Is713, Fs713, hv, hps713⟩ := hq; cases hv
                obtain ⟨Is713, Fs713, hv, hps713⟩ := hq
                cases hv
                have Gs713 := fm_ts Gs704 Fs713 (by decide) (by decide)
                have b715 : (0 : Int) ≤ iI s713 77 ∧ iI s713 77 ≤ 400 := Is713.1 77
                have ws713_75 : iI s713 75 = iI s704 75 := fm_i Fs713 (by decide)
                have b716 : (0 : Int) ≤ iI s713 79 ∧ iI s713 79 ≤ 9 := Is713.1 79
                have ws713_78 : iI s713 78 = iI s704 78 := fm_i Fs713 (by decide)
                have ws713_86 : iI s713 86 = iI s704 86 := fm_i Fs713 (by decide)
                have ws713_87 : iI s713 87 = iI s704 87 := fm_i Fs713 (by decide)
                have ws713_88 : iI s713 88 = iI s704 88 := fm_i Fs713 (by decide)
                show WS k 160 [(3, .int (Int32.ofInt 0)), (2, .int (Int32.ofInt 1)), (1, .int (Int32.ofInt e9)), (0, .ref (A 179))] [] (Wd A dT s713) 0 0
                refine z_aload_n X (x := A 179) (show cdA 213 160 = some (.aload_n 0, 1, 0, 0, 0) from rfl) (List.Mem.tail _ (List.Mem.tail _ (List.Mem.tail _ (List.Mem.head _)))) ?_
                refine w_dup X.1 (ax_d X (show cdA 213 161 = some (.dup, 1, 0, 0, 0) from rfl)) rfl ?_
                refine z_getI X 179 (show cdA 213 162 = some (.getfield 282, 3, 12, 16, 0) from rfl) (by decide) rfl rfl ?_
                have b717 : (0 : Int) ≤ iI s713 86 ∧ iI s713 86 ≤ 8 := Is713.1 86
                refine z_const X (show cdA 213 165 = some (.iconst 1, 1, 0, 0, 0) from rfl) ?_
                refine z_add X (show cdA 213 166 = some (.iadd, 1, 0, 0, 0) from rfl) ?_
                refine s_putI X 179 (show cdA 213 167 = some (.putfield 282, 3, 12, 16, 0) from rfl) (by decide) rfl rfl (by decide) rfl rfl rfl ?_
                obtain ⟨s718, hs718⟩ : ∃ x0, x0 = uI s713 86 (Int32.ofInt ((iI s713 86) + 1)) := ⟨_, rfl⟩
                rw [← hs718]
                have Is718 : Bd s718 := by rw [hs718]; exact bd_I Is713 (show (0 : Int) ≤ ((iI s713 86) + 1) ∧ ((iI s713 86) + 1) ≤ 8 by omega) ⟨by omega, by omega⟩
                have Fs718 := fm_I (x := Int32.ofInt ((iI s713 86) + 1)) Gs713 (show 86 ∈ _ by decide)
                rw [← hs718] at Fs718
                have vs718 : iI s718 86 = ((iI s713 86) + 1) := by rw [hs718]; exact iI_u ⟨by omega, by omega⟩
                have ws718_77 : iI s718 77 = iI s713 77 := by rw [hs718]; rfl
                have ws718_75 : iI s718 75 = iI s713 75 := by rw [hs718]; rfl
                have ws718_79 : iI s718 79 = iI s713 79 := by rw [hs718]; rfl
                have ws718_78 : iI s718 78 = iI s713 78 := by rw [hs718]; rfl
                have ws718_87 : iI s718 87 = iI s713 87 := by rw [hs718]; rfl
                have ws718_88 : iI s718 88 = iI s713 88 := by rw [hs718]; rfl
                exact w_vret X.1 q hRt (ax_d X (show cdA 213 170 = some (.return_, 1, 0, 0, 0) from rfl)) (Nat.zero_le _) (Nat.zero_le _) ⟨_, rfl, Is718, Fs718, rfl, by omega⟩
          ·
            exact w_vret X.1 q hRt (ax_d X (show cdA 213 94 = some (.return_, 1, 0, 0, 0) from rfl)) (Nat.zero_le _) (Nat.zero_le _) ⟨_, rfl, Is673, Gs673, rfl, by omega⟩
    ·
      refine z_const X (show cdA 213 43 = some (.iconst 1, 1, 0, 0, 0) from rfl) ?_
      refine z_goto X (t := 48) (show cdA 213 44 = some (.goto 4, 3, 0, 0, 0) from rfl) (by decide) ?_
      refine z_store_n X (lv' := [(3, .int (Int32.ofInt 1)), (2, .int (Int32.ofInt 1)), (1, .int (Int32.ofInt e9)), (0, .ref (A 179))]) (show cdA 213 48 = some (.istore_n 3, 1, 0, 0, 0) from rfl) (by decide) (fun _ h => h) ?_
      refine z_load_n X (x := 1) (show cdA 213 49 = some (.iload_n 2, 1, 0, 0, 0) from rfl) (List.Mem.tail _ (List.Mem.head _)) ?_
      refine z_if_ne X (t := 69) (show cdA 213 50 = some (.ifCond .ne 19, 3, 1, 0, 0) from rfl) (by decide) ⟨by omega, by omega⟩ (fun g719 => ?_) (fun g719 => ?_)
      ·
        refine z_aload_n X (x := A 179) (show cdA 213 69 = some (.aload_n 0, 1, 0, 0, 0) from rfl) (List.Mem.tail _ (List.Mem.tail _ (List.Mem.tail _ (List.Mem.head _)))) ?_
        refine z_getI X 179 (show cdA 213 70 = some (.getfield 282, 3, 12, 16, 0) from rfl) (by decide) rfl rfl ?_
        have b720 : (0 : Int) ≤ iI s483 86 ∧ iI s483 86 ≤ 8 := Is483.1 86
        refine z_bipush X (show cdA 213 73 = some (.bipush 8, 2, 0, 0, 8) from rfl) ?_
        refine z_icmp_ne X (t := 87) (show cdA 213 75 = some (.if_icmp .ne 12, 3, 1, 0, 0) from rfl) (by decide) ⟨by omega, by omega⟩ ⟨by omega, by omega⟩ (fun g721 => ?_) (fun g721 => ?_)
        ·
          refine z_aload_n X (x := A 179) (show cdA 213 87 = some (.aload_n 0, 1, 0, 0, 0) from rfl) (List.Mem.tail _ (List.Mem.tail _ (List.Mem.tail _ (List.Mem.head _)))) ?_
          refine z_getI X 179 (show cdA 213 88 = some (.getfield 191, 3, 12, 6, 0) from rfl) (by decide) rfl rfl ?_
          have b722 : (0 : Int) ≤ iI s483 79 ∧ iI s483 79 ≤ 9 := Is483.1 79
          refine z_if_eq X (t := 95) (show cdA 213 91 = some (.ifCond .eq 4, 3, 0, 0, 0) from rfl) (by decide) ⟨by omega, by omega⟩ (fun g723 => ?_) (fun g723 => ?_)
          ·
            refine z_aload_n X (x := A 179) (show cdA 213 95 = some (.aload_n 0, 1, 0, 0, 0) from rfl) (List.Mem.tail _ (List.Mem.tail _ (List.Mem.tail _ (List.Mem.head _)))) ?_
            refine z_callV X 179 (rm := rmN 203) (As := []) (st := []) (show cdA 213 96 = some (.invokevirtual 254, 3, 203, 0, 0) from rfl) rfl (by decide) rfl (by rw [E.1, E.2.1, E.2.2.1]; exact k_skipWord G Is483 (by omega)) ⟨by rw [E.2.2.2]; exact (show (rmN 203).frames + 1 ≤ (rmN 213).frames by decide), by rw [E.2.2.2]; exact (show 8 + (mNL (miB 203) + 11) + (rmN 203).locals ≤ (rmN 213).locals by decide), by rw [E.2.2.2]; exact (show 0 + (rmN 203).cells ≤ (rmN 213).cells by decide), by rw [E.2.2.2]; exact (show 0 + (rmN 203).slots ≤ (rmN 213).slots by decide)⟩ (Nat.le_of_ble_eq_true rfl) (fun vv s724 hq => ?_) (fun ee s724 hq => ?_)
            rotate_left
            · obtain ⟨Is724, Fs724, hv, hps724⟩ := hq; cases hv
            obtain ⟨Is724, Fs724, hv, hps724⟩ := hq
            cases hv
            have Gs724 := fm_ts Gs483 Fs724 (by decide) (by decide)
            have b726 : (0 : Int) ≤ iI s724 77 ∧ iI s724 77 ≤ 400 := Is724.1 77
            have ws724_75 : iI s724 75 = iI s483 75 := fm_i Fs724 (by decide)
            have ws724_79 : iI s724 79 = iI s483 79 := fm_i Fs724 (by decide)
            have ws724_78 : iI s724 78 = iI s483 78 := fm_i Fs724 (by decide)
            have ws724_86 : iI s724 86 = iI s483 86 := fm_i Fs724 (by decide)
            have ws724_87 : iI s724 87 = iI s483 87 := fm_i Fs724 (by decide)
            have ws724_88 : iI s724 88 = iI s483 88 := fm_i Fs724 (by decide)
            show WS k 99 [(3, .int (Int32.ofInt 1)), (2, .int (Int32.ofInt 1)), (1, .int (Int32.ofInt e9)), (0, .ref (A 179))] [] (Wd A dT s724) 0 0
            refine z_load_n X (x := 1) (show cdA 213 99 = some (.iload_n 2, 1, 0, 0, 0) from rfl) (List.Mem.tail _ (List.Mem.head _)) ?_
            refine z_if_eq X (t := 119) (show cdA 213 100 = some (.ifCond .eq 19, 3, 0, 0, 0) from rfl) (by decide) ⟨by omega, by omega⟩ (fun g727 => ?_) (fun g727 => ?_)
            ·
              refine z_aload_n X (x := A 179) (show cdA 213 119 = some (.aload_n 0, 1, 0, 0, 0) from rfl) (List.Mem.tail _ (List.Mem.tail _ (List.Mem.tail _ (List.Mem.head _)))) ?_
              refine s_getR X 179 (show cdA 213 120 = some (.getfield 29, 3, 12, 20, 0) from rfl) (by decide) rfl rfl ?_
              refine z_aload_n X (x := A 179) (show cdA 213 123 = some (.aload_n 0, 1, 0, 0, 0) from rfl) (List.Mem.tail _ (List.Mem.tail _ (List.Mem.tail _ (List.Mem.head _)))) ?_
              refine z_getI X 179 (show cdA 213 124 = some (.getfield 288, 3, 12, 17, 0) from rfl) (by decide) rfl rfl ?_
              have b728 : (0 : Int) ≤ iI s724 87 ∧ iI s724 87 ≤ 8 := Is724.1 87
              refine z_aload_n X (x := A 179) (show cdA 213 127 = some (.aload_n 0, 1, 0, 0, 0) from rfl) (List.Mem.tail _ (List.Mem.tail _ (List.Mem.tail _ (List.Mem.head _)))) ?_
              refine z_getI X 179 (show cdA 213 128 = some (.getfield 184, 3, 12, 4, 0) from rfl) (by decide) rfl rfl ?_
              have b729 : (0 : Int) ≤ iI s724 77 ∧ iI s724 77 ≤ 400 := Is724.1 77
              refine z_ast X 183 (show cdA 213 131 = some (.iastore, 1, 0, 0, 0) from rfl) (by decide) rfl (by omega) (show (iI s724 87) < 8 by omega) (by decide) ?_
              obtain ⟨s730, hs730⟩ : ∃ x0, x0 = uC s724 160 ((iI s724 87)).toNat (Int32.ofInt (iI s724 77)) := ⟨_, rfl⟩
              rw [← hs730]
              have Is730 : Bd s730 := by rw [hs730]; exact bd_C Is724 (show (0 : Int) ≤ (iI s724 77) ∧ (iI s724 77) ≤ 200 by omega) ⟨by omega, by omega⟩
              have Fs730 := fm_C (i := ((iI s724 87)).toNat) (x := Int32.ofInt (iI s724 77)) Gs724 (show 160 ∈ _ by decide)
              rw [← hs730] at Fs730
              have ws730_77 : iI s730 77 = iI s724 77 := by rw [hs730]; rfl
              have ws730_75 : iI s730 75 = iI s724 75 := by rw [hs730]; rfl
              have ws730_79 : iI s730 79 = iI s724 79 := by rw [hs730]; rfl
              have ws730_78 : iI s730 78 = iI s724 78 := by rw [hs730]; rfl
              have ws730_86 : iI s730 86 = iI s724 86 := by rw [hs730]; rfl
              have ws730_87 : iI s730 87 = iI s724 87 := by rw [hs730]; rfl
              have ws730_88 : iI s730 88 = iI s724 88 := by rw [hs730]; rfl
              refine z_aload_n X (x := A 179) (show cdA 213 132 = some (.aload_n 0, 1, 0, 0, 0) from rfl) (List.Mem.tail _ (List.Mem.tail _ (List.Mem.tail _ (List.Mem.head _)))) ?_
              refine w_dup X.1 (ax_d X (show cdA 213 133 = some (.dup, 1, 0, 0, 0) from rfl)) rfl ?_
              refine z_getI X 179 (show cdA 213 134 = some (.getfield 288, 3, 12, 17, 0) from rfl) (by decide) rfl rfl ?_
              have b731 : (0 : Int) ≤ iI s730 87 ∧ iI s730 87 ≤ 8 := Is730.1 87
              refine z_const X (show cdA 213 137 = some (.iconst 1, 1, 0, 0, 0) from rfl) ?_
              refine z_add X (show cdA 213 138 = some (.iadd, 1, 0, 0, 0) from rfl) ?_
              refine s_putI X 179 (show cdA 213 139 = some (.putfield 288, 3, 12, 17, 0) from rfl) (by decide) rfl rfl (by decide) rfl rfl rfl ?_
              obtain ⟨s732, hs732⟩ : ∃ x0, x0 = uI s730 87 (Int32.ofInt ((iI s730 87) + 1)) := ⟨_, rfl⟩
              rw [← hs732]
              have Is732 : Bd s732 := by rw [hs732]; exact bd_I Is730 (show (0 : Int) ≤ ((iI s730 87) + 1) ∧ ((iI s730 87) + 1) ≤ 8 by omega) ⟨by omega, by omega⟩
              have Fs732 := fm_I (x := Int32.ofInt ((iI s730 87) + 1)) Fs730 (show 87 ∈ _ by decide)
              rw [← hs732] at Fs732
              have vs732 : iI s732 87 = ((iI s730 87) + 1) := by rw [hs732]; exact iI_u ⟨by omega, by omega⟩
              have ws732_77 : iI s732 77 = iI s730 77 := by rw [hs732]; rfl
              have ws732_75 : iI s732 75 = iI s730 75 := by rw [hs732]; rfl
              have ws732_79 : iI s732 79 = iI s730 79 := by rw [hs732]; rfl
              have ws732_78 : iI s732 78 = iI s730 78 := by rw [hs732]; rfl
              have ws732_86 : iI s732 86 = iI s730 86 := by rw [hs732]; rfl
              have ws732_88 : iI s732 88 = iI s730 88 := by rw [hs732]; rfl
              refine z_aload_n X (x := A 179) (show cdA 213 142 = some (.aload_n 0, 1, 0, 0, 0) from rfl) (List.Mem.tail _ (List.Mem.tail _ (List.Mem.tail _ (List.Mem.head _)))) ?_
              refine z_callV X 179 (rm := rmN 212) (As := []) (st := []) (show cdA 213 143 = some (.invokevirtual 276, 3, 212, 0, 0) from rfl) rfl (by decide) rfl (by rw [E.1, E.2.1, E.2.2.1]; exact k_ors G Is732 (by omega) (by omega) (by omega) (by omega)) ⟨by rw [E.2.2.2]; exact (show (rmN 212).frames + 1 ≤ (rmN 213).frames by decide), by rw [E.2.2.2]; exact (show 8 + (mNL (miB 212) + 11) + (rmN 212).locals ≤ (rmN 213).locals by decide), by rw [E.2.2.2]; exact (show 0 + (rmN 212).cells ≤ (rmN 213).cells by decide), by rw [E.2.2.2]; exact (show 0 + (rmN 212).slots ≤ (rmN 213).slots by decide)⟩ (Nat.le_of_ble_eq_true rfl) (fun vv s733 hq => ?_) (fun ee s733 hq => ?_)
              rotate_left
              · obtain ⟨Is733, Fs733, e734, hv, hrs733, hps733⟩ := hq; cases hv
              obtain ⟨Is733, Fs733, e734, hv, hrs733, hps733⟩ := hq
              cases hv
              have Gs733 := fm_ts Fs732 Fs733 (by decide) (by decide)
              have b735 : (0 : Int) ≤ iI s733 77 ∧ iI s733 77 ≤ 400 := Is733.1 77
              have ws733_75 : iI s733 75 = iI s732 75 := fm_i Fs733 (by decide)
              have b736 : (0 : Int) ≤ iI s733 79 ∧ iI s733 79 ≤ 9 := Is733.1 79
              have b737 : (0 : Int) ≤ iI s733 78 ∧ iI s733 78 ≤ 8 := Is733.1 78
              have ws733_86 : iI s733 86 = iI s732 86 := fm_i Fs733 (by decide)
              have ws733_87 : iI s733 87 = iI s732 87 := fm_i Fs733 (by decide)
              have ws733_88 : iI s733 88 = iI s732 88 := fm_i Fs733 (by decide)
              show WS k 146 [(3, .int (Int32.ofInt 1)), (2, .int (Int32.ofInt 1)), (1, .int (Int32.ofInt e9)), (0, .ref (A 179))] [.int (Int32.ofInt e734)] (Wd A dT s733) 0 0
              refine w_pop X.1 (ax_d X (show cdA 213 146 = some (.pop, 1, 0, 0, 0) from rfl)) rfl ?_
              refine z_aload_n X (x := A 179) (show cdA 213 147 = some (.aload_n 0, 1, 0, 0, 0) from rfl) (List.Mem.tail _ (List.Mem.tail _ (List.Mem.tail _ (List.Mem.head _)))) ?_
              refine z_getI X 179 (show cdA 213 148 = some (.getfield 191, 3, 12, 6, 0) from rfl) (by decide) rfl rfl ?_
              have b738 : (0 : Int) ≤ iI s733 79 ∧ iI s733 79 ≤ 9 := Is733.1 79
              refine z_if_ne X (t := 160) (show cdA 213 151 = some (.ifCond .ne 9, 3, 1, 0, 0) from rfl) (by decide) ⟨by omega, by omega⟩ (fun g739 => ?_) (fun g739 => ?_)
              ·
                refine z_aload_n X (x := A 179) (show cdA 213 160 = some (.aload_n 0, 1, 0, 0, 0) from rfl) (List.Mem.tail _ (List.Mem.tail _ (List.Mem.tail _ (List.Mem.head _)))) ?_
                refine w_dup X.1 (ax_d X (show cdA 213 161 = some (.dup, 1, 0, 0, 0) from rfl)) rfl ?_
                refine z_getI X 179 (show cdA 213 162 = some (.getfield 282, 3, 12, 16, 0) from rfl) (by decide) rfl rfl ?_
                have b740 : (0 : Int) ≤ iI s733 86 ∧ iI s733 86 ≤ 8 := Is733.1 86
                refine z_const X (show cdA 213 165 = some (.iconst 1, 1, 0, 0, 0) from rfl) ?_
                refine z_add X (show cdA 213 166 = some (.iadd, 1, 0, 0, 0) from rfl) ?_
                refine s_putI X 179 (show cdA 213 167 = some (.putfield 282, 3, 12, 16, 0) from rfl) (by decide) rfl rfl (by decide) rfl rfl rfl ?_
                obtain ⟨s741, hs741⟩ : ∃ x0, x0 = uI s733 86 (Int32.ofInt ((iI s733 86) + 1)) := ⟨_, rfl⟩
                rw [← hs741]
                have Is741 : Bd s741 := by rw [hs741]; exact bd_I Is733 (show (0 : Int) ≤ ((iI s733 86) + 1) ∧ ((iI s733 86) + 1) ≤ 8 by omega) ⟨by omega, by omega⟩
                have Fs741 := fm_I (x := Int32.ofInt ((iI s733 86) + 1)) Gs733 (show 86 ∈ _ by decide)
                rw [← hs741] at Fs741
                have vs741 : iI s741 86 = ((iI s733 86) + 1) := by rw [hs741]; exact iI_u ⟨by omega, by omega⟩
                have ws741_77 : iI s741 77 = iI s733 77 := by rw [hs741]; rfl
                have ws741_75 : iI s741 75 = iI s733 75 := by rw [hs741]; rfl
                have ws741_79 : iI s741 79 = iI s733 79 := by rw [hs741]; rfl
                have ws741_78 : iI s741 78 = iI s733 78 := by rw [hs741]; rfl
                have ws741_87 : iI s741 87 = iI s733 87 := by rw [hs741]; rfl
                have ws741_88 : iI s741 88 = iI s733 88 := by rw [hs741]; rfl
                exact w_vret X.1 q hRt (ax_d X (show cdA 213 170 = some (.return_, 1, 0, 0, 0) from rfl)) (Nat.zero_le _) (Nat.zero_le _) ⟨_, rfl, Is741, Fs741, rfl, by omega⟩
              ·
                refine z_aload_n X (x := A 179) (show cdA 213 154 = some (.aload_n 0, 1, 0, 0, 0) from rfl) (List.Mem.tail _ (List.Mem.tail _ (List.Mem.tail _ (List.Mem.head _)))) ?_
                refine z_bipush X (show cdA 213 155 = some (.bipush 59, 2, 0, 0, 59) from rfl) ?_
                refine z_callV X 179 (rm := rmN 204) (As := [.int (Int32.ofInt 59)]) (st := []) (show cdA 213 157 = some (.invokevirtual 263, 3, 204, 0, 0) from rfl) rfl (by decide) rfl (by rw [E.1, E.2.1, E.2.2.1]; exact k_sign G Is733 (by omega) (by omega)) ⟨by rw [E.2.2.2]; exact (show (rmN 204).frames + 1 ≤ (rmN 213).frames by decide), by rw [E.2.2.2]; exact (show 8 + (mNL (miB 204) + 11) + (rmN 204).locals ≤ (rmN 213).locals by decide), by rw [E.2.2.2]; exact (show 0 + (rmN 204).cells ≤ (rmN 213).cells by decide), by rw [E.2.2.2]; exact (show 0 + (rmN 204).slots ≤ (rmN 213).slots by decide)⟩ (Nat.le_of_ble_eq_true rfl) (fun vv s742 hq => ?_) (fun ee s742 hq => ?_)
                rotate_left
                · obtain ⟨Is742, Fs742, hv, hps742⟩ := hq; cases hv
                obtain ⟨Is742, Fs742, hv, hps742⟩ := hq
                cases hv
                have Gs742 := fm_ts Gs733 Fs742 (by decide) (by decide)
                have b744 : (0 : Int) ≤ iI s742 77 ∧ iI s742 77 ≤ 400 := Is742.1 77
                have ws742_75 : iI s742 75 = iI s733 75 := fm_i Fs742 (by decide)
                have b745 : (0 : Int) ≤ iI s742 79 ∧ iI s742 79 ≤ 9 := Is742.1 79
                have ws742_78 : iI s742 78 = iI s733 78 := fm_i Fs742 (by decide)
                have ws742_86 : iI s742 86 = iI s733 86 := fm_i Fs742 (by decide)
                have ws742_87 : iI s742 87 = iI s733 87 := fm_i Fs742 (by decide)
                have ws742_88 : iI s742 88 = iI s733 88 := fm_i Fs742 (by decide)
                show WS k 160 [(3, .int (Int32.ofInt 1)), (2, .int (Int32.ofInt 1)), (1, .int (Int32.ofInt e9)), (0, .ref (A 179))] [] (Wd A dT s742) 0 0
                refine z_aload_n X (x := A 179) (show cdA 213 160 = some (.aload_n 0, 1, 0, 0, 0) from rfl) (List.Mem.tail _ (List.Mem.tail _ (List.Mem.tail _ (List.Mem.head _)))) ?_
                refine w_dup X.1 (ax_d X (show cdA 213 161 = some (.dup, 1, 0, 0, 0) from rfl)) rfl ?_
                refine z_getI X 179 (show cdA 213 162 = some (.getfield 282, 3, 12, 16, 0) from rfl) (by decide) rfl rfl ?_
                have b746 : (0 : Int) ≤ iI s742 86 ∧ iI s742 86 ≤ 8 := Is742.1 86
                refine z_const X (show cdA 213 165 = some (.iconst 1, 1, 0, 0, 0) from rfl) ?_
                refine z_add X (show cdA 213 166 = some (.iadd, 1, 0, 0, 0) from rfl) ?_
                refine s_putI X 179 (show cdA 213 167 = some (.putfield 282, 3, 12, 16, 0) from rfl) (by decide) rfl rfl (by decide) rfl rfl rfl ?_
                obtain ⟨s747, hs747⟩ : ∃ x0, x0 = uI s742 86 (Int32.ofInt ((iI s742 86) + 1)) := ⟨_, rfl⟩
                rw [← hs747]
                have Is747 : Bd s747 := by rw [hs747]; exact bd_I Is742 (show (0 : Int) ≤ ((iI s742 86) + 1) ∧ ((iI s742 86) + 1) ≤ 8 by omega) ⟨by omega, by omega⟩
                have Fs747 := fm_I (x := Int32.ofInt ((iI s742 86) + 1)) Gs742 (show 86 ∈ _ by decide)
                rw [← hs747] at Fs747
                have vs747 : iI s747 86 = ((iI s742 86) + 1) := by rw [hs747]; exact iI_u ⟨by omega, by omega⟩
                have ws747_77 : iI s747 77 = iI s742 77 := by rw [hs747]; rfl
                have ws747_75 : iI s747 75 = iI s742 75 := by rw [hs747]; rfl
                have ws747_79 : iI s747 79 = iI s742 79 := by rw [hs747]; rfl
                have ws747_78 : iI s747 78 = iI s742 78 := by rw [hs747]; rfl
                have ws747_87 : iI s747 87 = iI s742 87 := by rw [hs747]; rfl
                have ws747_88 : iI s747 88 = iI s742 88 := by rw [hs747]; rfl
                exact w_vret X.1 q hRt (ax_d X (show cdA 213 170 = some (.return_, 1, 0, 0, 0) from rfl)) (Nat.zero_le _) (Nat.zero_le _) ⟨_, rfl, Is747, Fs747, rfl, by omega⟩
            ·
              refine z_aload_n X (x := A 179) (show cdA 213 103 = some (.aload_n 0, 1, 0, 0, 0) from rfl) (List.Mem.tail _ (List.Mem.tail _ (List.Mem.tail _ (List.Mem.head _)))) ?_
              refine z_aload_n X (x := A 179) (show cdA 213 104 = some (.aload_n 0, 1, 0, 0, 0) from rfl) (List.Mem.tail _ (List.Mem.tail _ (List.Mem.tail _ (List.Mem.head _)))) ?_
              refine z_getI X 179 (show cdA 213 105 = some (.getfield 184, 3, 12, 4, 0) from rfl) (by decide) rfl rfl ?_
              have b748 : (0 : Int) ≤ iI s724 77 ∧ iI s724 77 ≤ 400 := Is724.1 77
              refine s_putI X 179 (show cdA 213 108 = some (.putfield 285, 3, 12, 18, 0) from rfl) (by decide) rfl rfl (by decide) rfl rfl rfl ?_
              obtain ⟨s749, hs749⟩ : ∃ x0, x0 = uI s724 88 (Int32.ofInt (iI s724 77)) := ⟨_, rfl⟩
              rw [← hs749]
              have Is749 : Bd s749 := by rw [hs749]; exact bd_I Is724 (show ((-1) : Int) ≤ (iI s724 77) ∧ (iI s724 77) ≤ 200 by omega) ⟨by omega, by omega⟩
              have Fs749 := fm_I (x := Int32.ofInt (iI s724 77)) Gs724 (show 88 ∈ _ by decide)
              rw [← hs749] at Fs749
              have vs749 : iI s749 88 = (iI s724 77) := by rw [hs749]; exact iI_u ⟨by omega, by omega⟩
              have ws749_77 : iI s749 77 = iI s724 77 := by rw [hs749]; rfl
              have ws749_75 : iI s749 75 = iI s724 75 := by rw [hs749]; rfl
              have ws749_79 : iI s749 79 = iI s724 79 := by rw [hs749]; rfl
              have ws749_78 : iI s749 78 = iI s724 78 := by rw [hs749]; rfl
              have ws749_86 : iI s749 86 = iI s724 86 := by rw [hs749]; rfl
              have ws749_87 : iI s749 87 = iI s724 87 := by rw [hs749]; rfl
              refine z_aload_n X (x := A 179) (show cdA 213 111 = some (.aload_n 0, 1, 0, 0, 0) from rfl) (List.Mem.tail _ (List.Mem.tail _ (List.Mem.tail _ (List.Mem.head _)))) ?_
              refine z_callV X 179 (rm := rmN 209) (As := []) (st := []) (show cdA 213 112 = some (.invokevirtual 260, 3, 209, 0, 0) from rfl) rfl (by decide) rfl (by rw [E.1, E.2.1, E.2.2.1]; exact k_sum G Is749 (by omega) (by omega) (by omega)) ⟨by rw [E.2.2.2]; exact (show (rmN 209).frames + 1 ≤ (rmN 213).frames by decide), by rw [E.2.2.2]; exact (show 8 + (mNL (miB 209) + 11) + (rmN 209).locals ≤ (rmN 213).locals by decide), by rw [E.2.2.2]; exact (show 0 + (rmN 209).cells ≤ (rmN 213).cells by decide), by rw [E.2.2.2]; exact (show 0 + (rmN 209).slots ≤ (rmN 213).slots by decide)⟩ (Nat.le_of_ble_eq_true rfl) (fun vv s750 hq => ?_) (fun ee s750 hq => ?_)
              rotate_left
              · obtain ⟨Is750, Fs750, e751, hv, hrs750, hps750⟩ := hq; cases hv
              obtain ⟨Is750, Fs750, e751, hv, hrs750, hps750⟩ := hq
              cases hv
              have Gs750 := fm_ts Fs749 Fs750 (by decide) (by decide)
              have b752 : (0 : Int) ≤ iI s750 77 ∧ iI s750 77 ≤ 400 := Is750.1 77
              have ws750_75 : iI s750 75 = iI s749 75 := fm_i Fs750 (by decide)
              have b753 : (0 : Int) ≤ iI s750 79 ∧ iI s750 79 ≤ 9 := Is750.1 79
              have b754 : (0 : Int) ≤ iI s750 78 ∧ iI s750 78 ≤ 8 := Is750.1 78
              have ws750_86 : iI s750 86 = iI s749 86 := fm_i Fs750 (by decide)
              have ws750_87 : iI s750 87 = iI s749 87 := fm_i Fs750 (by decide)
              have ws750_88 : iI s750 88 = iI s749 88 := fm_i Fs750 (by decide)
              show WS k 115 [(3, .int (Int32.ofInt 1)), (2, .int (Int32.ofInt 1)), (1, .int (Int32.ofInt e9)), (0, .ref (A 179))] [.int (Int32.ofInt e751)] (Wd A dT s750) 0 0
              refine w_pop X.1 (ax_d X (show cdA 213 115 = some (.pop, 1, 0, 0, 0) from rfl)) rfl ?_
              refine z_goto X (t := 147) (show cdA 213 116 = some (.goto 31, 3, 0, 0, 0) from rfl) (by decide) ?_
              refine z_aload_n X (x := A 179) (show cdA 213 147 = some (.aload_n 0, 1, 0, 0, 0) from rfl) (List.Mem.tail _ (List.Mem.tail _ (List.Mem.tail _ (List.Mem.head _)))) ?_
              refine z_getI X 179 (show cdA 213 148 = some (.getfield 191, 3, 12, 6, 0) from rfl) (by decide) rfl rfl ?_
              have b755 : (0 : Int) ≤ iI s750 79 ∧ iI s750 79 ≤ 9 := Is750.1 79
              refine z_if_ne X (t := 160) (show cdA 213 151 = some (.ifCond .ne 9, 3, 1, 0, 0) from rfl) (by decide) ⟨by omega, by omega⟩ (fun g756 => ?_) (fun g756 => ?_)
              ·
                refine z_aload_n X (x := A 179) (show cdA 213 160 = some (.aload_n 0, 1, 0, 0, 0) from rfl) (List.Mem.tail _ (List.Mem.tail _ (List.Mem.tail _ (List.Mem.head _)))) ?_
                refine w_dup X.1 (ax_d X (show cdA 213 161 = some (.dup, 1, 0, 0, 0) from rfl)) rfl ?_
                refine z_getI X 179 (show cdA 213 162 = some (.getfield 282, 3, 12, 16, 0) from rfl) (by decide) rfl rfl ?_
                have b757 : (0 : Int) ≤ iI s750 86 ∧ iI s750 86 ≤ 8 := Is750.1 86
                refine z_const X (show cdA 213 165 = some (.iconst 1, 1, 0, 0, 0) from rfl) ?_
                refine z_add X (show cdA 213 166 = some (.iadd, 1, 0, 0, 0) from rfl) ?_
                refine s_putI X 179 (show cdA 213 167 = some (.putfield 282, 3, 12, 16, 0) from rfl) (by decide) rfl rfl (by decide) rfl rfl rfl ?_
                obtain ⟨s758, hs758⟩ : ∃ x0, x0 = uI s750 86 (Int32.ofInt ((iI s750 86) + 1)) := ⟨_, rfl⟩
                rw [← hs758]
                have Is758 : Bd s758 := by rw [hs758]; exact bd_I Is750 (show (0 : Int) ≤ ((iI s750 86) + 1) ∧ ((iI s750 86) + 1) ≤ 8 by omega) ⟨by omega, by omega⟩
                have Fs758 := fm_I (x := Int32.ofInt ((iI s750 86) + 1)) Gs750 (show 86 ∈ _ by decide)
                rw [← hs758] at Fs758
                have vs758 : iI s758 86 = ((iI s750 86) + 1) := by rw [hs758]; exact iI_u ⟨by omega, by omega⟩
                have ws758_77 : iI s758 77 = iI s750 77 := by rw [hs758]; rfl
                have ws758_75 : iI s758 75 = iI s750 75 := by rw [hs758]; rfl
                have ws758_79 : iI s758 79 = iI s750 79 := by rw [hs758]; rfl
                have ws758_78 : iI s758 78 = iI s750 78 := by rw [hs758]; rfl
                have ws758_87 : iI s758 87 = iI s750 87 := by rw [hs758]; rfl
                have ws758_88 : iI s758 88 = iI s750 88 := by rw [hs758]; rfl
                exact w_vret X.1 q hRt (ax_d X (show cdA 213 170 = some (.return_, 1, 0, 0, 0) from rfl)) (Nat.zero_le _) (Nat.zero_le _) ⟨_, rfl, Is758, Fs758, rfl, by omega⟩
              ·
                refine z_aload_n X (x := A 179) (show cdA 213 154 = some (.aload_n 0, 1, 0, 0, 0) from rfl) (List.Mem.tail _ (List.Mem.tail _ (List.Mem.tail _ (List.Mem.head _)))) ?_
                refine z_bipush X (show cdA 213 155 = some (.bipush 59, 2, 0, 0, 59) from rfl) ?_
                refine z_callV X 179 (rm := rmN 204) (As := [.int (Int32.ofInt 59)]) (st := []) (show cdA 213 157 = some (.invokevirtual 263, 3, 204, 0, 0) from rfl) rfl (by decide) rfl (by rw [E.1, E.2.1, E.2.2.1]; exact k_sign G Is750 (by omega) (by omega)) ⟨by rw [E.2.2.2]; exact (show (rmN 204).frames + 1 ≤ (rmN 213).frames by decide), by rw [E.2.2.2]; exact (show 8 + (mNL (miB 204) + 11) + (rmN 204).locals ≤ (rmN 213).locals by decide), by rw [E.2.2.2]; exact (show 0 + (rmN 204).cells ≤ (rmN 213).cells by decide), by rw [E.2.2.2]; exact (show 0 + (rmN 204).slots ≤ (rmN 213).slots by decide)⟩ (Nat.le_of_ble_eq_true rfl) (fun vv s759 hq => ?_) (fun ee s759 hq => ?_)
                rotate_left
                · obtain ⟨Is759, Fs759, hv, hps759⟩ := hq; cases hv
                obtain ⟨Is759, Fs759, hv, hps759⟩ := hq
                cases hv
                have Gs759 := fm_ts Gs750 Fs759 (by decide) (by decide)
                have b761 : (0 : Int) ≤ iI s759 77 ∧ iI s759 77 ≤ 400 := Is759.1 77
                have ws759_75 : iI s759 75 = iI s750 75 := fm_i Fs759 (by decide)
                have b762 : (0 : Int) ≤ iI s759 79 ∧ iI s759 79 ≤ 9 := Is759.1 79
                have ws759_78 : iI s759 78 = iI s750 78 := fm_i Fs759 (by decide)
                have ws759_86 : iI s759 86 = iI s750 86 := fm_i Fs759 (by decide)
                have ws759_87 : iI s759 87 = iI s750 87 := fm_i Fs759 (by decide)
                have ws759_88 : iI s759 88 = iI s750 88 := fm_i Fs759 (by decide)
                show WS k 160 [(3, .int (Int32.ofInt 1)), (2, .int (Int32.ofInt 1)), (1, .int (Int32.ofInt e9)), (0, .ref (A 179))] [] (Wd A dT s759) 0 0
                refine z_aload_n X (x := A 179) (show cdA 213 160 = some (.aload_n 0, 1, 0, 0, 0) from rfl) (List.Mem.tail _ (List.Mem.tail _ (List.Mem.tail _ (List.Mem.head _)))) ?_
                refine w_dup X.1 (ax_d X (show cdA 213 161 = some (.dup, 1, 0, 0, 0) from rfl)) rfl ?_
                refine z_getI X 179 (show cdA 213 162 = some (.getfield 282, 3, 12, 16, 0) from rfl) (by decide) rfl rfl ?_
                have b763 : (0 : Int) ≤ iI s759 86 ∧ iI s759 86 ≤ 8 := Is759.1 86
                refine z_const X (show cdA 213 165 = some (.iconst 1, 1, 0, 0, 0) from rfl) ?_
                refine z_add X (show cdA 213 166 = some (.iadd, 1, 0, 0, 0) from rfl) ?_
                refine s_putI X 179 (show cdA 213 167 = some (.putfield 282, 3, 12, 16, 0) from rfl) (by decide) rfl rfl (by decide) rfl rfl rfl ?_
                obtain ⟨s764, hs764⟩ : ∃ x0, x0 = uI s759 86 (Int32.ofInt ((iI s759 86) + 1)) := ⟨_, rfl⟩
                rw [← hs764]
                have Is764 : Bd s764 := by rw [hs764]; exact bd_I Is759 (show (0 : Int) ≤ ((iI s759 86) + 1) ∧ ((iI s759 86) + 1) ≤ 8 by omega) ⟨by omega, by omega⟩
                have Fs764 := fm_I (x := Int32.ofInt ((iI s759 86) + 1)) Gs759 (show 86 ∈ _ by decide)
                rw [← hs764] at Fs764
                have vs764 : iI s764 86 = ((iI s759 86) + 1) := by rw [hs764]; exact iI_u ⟨by omega, by omega⟩
                have ws764_77 : iI s764 77 = iI s759 77 := by rw [hs764]; rfl
                have ws764_75 : iI s764 75 = iI s759 75 := by rw [hs764]; rfl
                have ws764_79 : iI s764 79 = iI s759 79 := by rw [hs764]; rfl
                have ws764_78 : iI s764 78 = iI s759 78 := by rw [hs764]; rfl
                have ws764_87 : iI s764 87 = iI s759 87 := by rw [hs764]; rfl
                have ws764_88 : iI s764 88 = iI s759 88 := by rw [hs764]; rfl
                exact w_vret X.1 q hRt (ax_d X (show cdA 213 170 = some (.return_, 1, 0, 0, 0) from rfl)) (Nat.zero_le _) (Nat.zero_le _) ⟨_, rfl, Is764, Fs764, rfl, by omega⟩
          ·
            exact w_vret X.1 q hRt (ax_d X (show cdA 213 94 = some (.return_, 1, 0, 0, 0) from rfl)) (Nat.zero_le _) (Nat.zero_le _) ⟨_, rfl, Is483, Gs483, rfl, by omega⟩
        ·
          refine z_aload_n X (x := A 179) (show cdA 213 78 = some (.aload_n 0, 1, 0, 0, 0) from rfl) (List.Mem.tail _ (List.Mem.tail _ (List.Mem.tail _ (List.Mem.head _)))) ?_
          refine z_const X (show cdA 213 79 = some (.iconst 3, 1, 0, 0, 0) from rfl) ?_
          refine z_aload_n X (x := A 179) (show cdA 213 80 = some (.aload_n 0, 1, 0, 0, 0) from rfl) (List.Mem.tail _ (List.Mem.tail _ (List.Mem.tail _ (List.Mem.head _)))) ?_
          refine z_getI X 179 (show cdA 213 81 = some (.getfield 184, 3, 12, 4, 0) from rfl) (by decide) rfl rfl ?_
          have b765 : (0 : Int) ≤ iI s483 77 ∧ iI s483 77 ≤ 400 := Is483.1 77
          refine z_callV X 179 (rm := rmN 194) (As := [.int (Int32.ofInt 3), .int (Int32.ofInt (iI s483 77))]) (st := []) (show cdA 213 84 = some (.invokevirtual 204, 3, 194, 0, 0) from rfl) rfl (by decide) rfl (by rw [E.1, E.2.1, E.2.2.1]; exact k_wrong G Is483 (by omega) (by omega)) ⟨by rw [E.2.2.2]; exact (show (rmN 194).frames + 1 ≤ (rmN 213).frames by decide), by rw [E.2.2.2]; exact (show 8 + (mNL (miB 194) + 11) + (rmN 194).locals ≤ (rmN 213).locals by decide), by rw [E.2.2.2]; exact (show 0 + (rmN 194).cells ≤ (rmN 213).cells by decide), by rw [E.2.2.2]; exact (show 0 + (rmN 194).slots ≤ (rmN 213).slots by decide)⟩ (Nat.le_of_ble_eq_true rfl) (fun vv s766 hq => ?_) (fun ee s766 hq => ?_)
          rotate_left
          · obtain ⟨Is766, Fs766, hv, hps766⟩ := hq; cases hv
          obtain ⟨Is766, Fs766, hv, hps766⟩ := hq
          cases hv
          have Gs766 := fm_ts Gs483 Fs766 (by decide) (by decide)
          have ws766_77 : iI s766 77 = iI s483 77 := fm_i Fs766 (by decide)
          have ws766_75 : iI s766 75 = iI s483 75 := fm_i Fs766 (by decide)
          have b768 : (0 : Int) ≤ iI s766 79 ∧ iI s766 79 ≤ 9 := Is766.1 79
          have ws766_78 : iI s766 78 = iI s483 78 := fm_i Fs766 (by decide)
          have ws766_86 : iI s766 86 = iI s483 86 := fm_i Fs766 (by decide)
          have ws766_87 : iI s766 87 = iI s483 87 := fm_i Fs766 (by decide)
          have ws766_88 : iI s766 88 = iI s483 88 := fm_i Fs766 (by decide)
          show WS k 87 [(3, .int (Int32.ofInt 1)), (2, .int (Int32.ofInt 1)), (1, .int (Int32.ofInt e9)), (0, .ref (A 179))] [] (Wd A dT s766) 0 0
          refine z_aload_n X (x := A 179) (show cdA 213 87 = some (.aload_n 0, 1, 0, 0, 0) from rfl) (List.Mem.tail _ (List.Mem.tail _ (List.Mem.tail _ (List.Mem.head _)))) ?_
          refine z_getI X 179 (show cdA 213 88 = some (.getfield 191, 3, 12, 6, 0) from rfl) (by decide) rfl rfl ?_
          have b769 : (0 : Int) ≤ iI s766 79 ∧ iI s766 79 ≤ 9 := Is766.1 79
          refine z_if_eq X (t := 95) (show cdA 213 91 = some (.ifCond .eq 4, 3, 0, 0, 0) from rfl) (by decide) ⟨by omega, by omega⟩ (fun g770 => ?_) (fun g770 => ?_)
          ·
            refine z_aload_n X (x := A 179) (show cdA 213 95 = some (.aload_n 0, 1, 0, 0, 0) from rfl) (List.Mem.tail _ (List.Mem.tail _ (List.Mem.tail _ (List.Mem.head _)))) ?_
            refine z_callV X 179 (rm := rmN 203) (As := []) (st := []) (show cdA 213 96 = some (.invokevirtual 254, 3, 203, 0, 0) from rfl) rfl (by decide) rfl (by rw [E.1, E.2.1, E.2.2.1]; exact k_skipWord G Is766 (by omega)) ⟨by rw [E.2.2.2]; exact (show (rmN 203).frames + 1 ≤ (rmN 213).frames by decide), by rw [E.2.2.2]; exact (show 8 + (mNL (miB 203) + 11) + (rmN 203).locals ≤ (rmN 213).locals by decide), by rw [E.2.2.2]; exact (show 0 + (rmN 203).cells ≤ (rmN 213).cells by decide), by rw [E.2.2.2]; exact (show 0 + (rmN 203).slots ≤ (rmN 213).slots by decide)⟩ (Nat.le_of_ble_eq_true rfl) (fun vv s771 hq => ?_) (fun ee s771 hq => ?_)
            rotate_left
            · obtain ⟨Is771, Fs771, hv, hps771⟩ := hq; cases hv
            obtain ⟨Is771, Fs771, hv, hps771⟩ := hq
            cases hv
            have Gs771 := fm_ts Gs766 Fs771 (by decide) (by decide)
            have b773 : (0 : Int) ≤ iI s771 77 ∧ iI s771 77 ≤ 400 := Is771.1 77
            have ws771_75 : iI s771 75 = iI s766 75 := fm_i Fs771 (by decide)
            have ws771_79 : iI s771 79 = iI s766 79 := fm_i Fs771 (by decide)
            have ws771_78 : iI s771 78 = iI s766 78 := fm_i Fs771 (by decide)
            have ws771_86 : iI s771 86 = iI s766 86 := fm_i Fs771 (by decide)
            have ws771_87 : iI s771 87 = iI s766 87 := fm_i Fs771 (by decide)
            have ws771_88 : iI s771 88 = iI s766 88 := fm_i Fs771 (by decide)
            show WS k 99 [(3, .int (Int32.ofInt 1)), (2, .int (Int32.ofInt 1)), (1, .int (Int32.ofInt e9)), (0, .ref (A 179))] [] (Wd A dT s771) 0 0
            refine z_load_n X (x := 1) (show cdA 213 99 = some (.iload_n 2, 1, 0, 0, 0) from rfl) (List.Mem.tail _ (List.Mem.head _)) ?_
            refine z_if_eq X (t := 119) (show cdA 213 100 = some (.ifCond .eq 19, 3, 0, 0, 0) from rfl) (by decide) ⟨by omega, by omega⟩ (fun g774 => ?_) (fun g774 => ?_)
            ·
              refine z_aload_n X (x := A 179) (show cdA 213 119 = some (.aload_n 0, 1, 0, 0, 0) from rfl) (List.Mem.tail _ (List.Mem.tail _ (List.Mem.tail _ (List.Mem.head _)))) ?_
              refine s_getR X 179 (show cdA 213 120 = some (.getfield 29, 3, 12, 20, 0) from rfl) (by decide) rfl rfl ?_
              refine z_aload_n X (x := A 179) (show cdA 213 123 = some (.aload_n 0, 1, 0, 0, 0) from rfl) (List.Mem.tail _ (List.Mem.tail _ (List.Mem.tail _ (List.Mem.head _)))) ?_
              refine z_getI X 179 (show cdA 213 124 = some (.getfield 288, 3, 12, 17, 0) from rfl) (by decide) rfl rfl ?_
              have b775 : (0 : Int) ≤ iI s771 87 ∧ iI s771 87 ≤ 8 := Is771.1 87
              refine z_aload_n X (x := A 179) (show cdA 213 127 = some (.aload_n 0, 1, 0, 0, 0) from rfl) (List.Mem.tail _ (List.Mem.tail _ (List.Mem.tail _ (List.Mem.head _)))) ?_
              refine z_getI X 179 (show cdA 213 128 = some (.getfield 184, 3, 12, 4, 0) from rfl) (by decide) rfl rfl ?_
              have b776 : (0 : Int) ≤ iI s771 77 ∧ iI s771 77 ≤ 400 := Is771.1 77
              refine z_ast X 183 (show cdA 213 131 = some (.iastore, 1, 0, 0, 0) from rfl) (by decide) rfl (by omega) (show (iI s771 87) < 8 by omega) (by decide) ?_
              obtain ⟨s777, hs777⟩ : ∃ x0, x0 = uC s771 160 ((iI s771 87)).toNat (Int32.ofInt (iI s771 77)) := ⟨_, rfl⟩
              rw [← hs777]
              have Is777 : Bd s777 := by rw [hs777]; exact bd_C Is771 (show (0 : Int) ≤ (iI s771 77) ∧ (iI s771 77) ≤ 200 by omega) ⟨by omega, by omega⟩
              have Fs777 := fm_C (i := ((iI s771 87)).toNat) (x := Int32.ofInt (iI s771 77)) Gs771 (show 160 ∈ _ by decide)
              rw [← hs777] at Fs777
              have ws777_77 : iI s777 77 = iI s771 77 := by rw [hs777]; rfl
              have ws777_75 : iI s777 75 = iI s771 75 := by rw [hs777]; rfl
              have ws777_79 : iI s777 79 = iI s771 79 := by rw [hs777]; rfl
              have ws777_78 : iI s777 78 = iI s771 78 := by rw [hs777]; rfl
              have ws777_86 : iI s777 86 = iI s771 86 := by rw [hs777]; rfl
              have ws777_87 : iI s777 87 = iI s771 87 := by rw [hs777]; rfl
              have ws777_88 : iI s777 88 = iI s771 88 := by rw [hs777]; rfl
              refine z_aload_n X (x := A 179) (show cdA 213 132 = some (.aload_n 0, 1, 0, 0, 0) from rfl) (List.Mem.tail _ (List.Mem.tail _ (List.Mem.tail _ (List.Mem.head _)))) ?_
              refine w_dup X.1 (ax_d X (show cdA 213 133 = some (.dup, 1, 0, 0, 0) from rfl)) rfl ?_
              refine z_getI X 179 (show cdA 213 134 = some (.getfield 288, 3, 12, 17, 0) from rfl) (by decide) rfl rfl ?_
              have b778 : (0 : Int) ≤ iI s777 87 ∧ iI s777 87 ≤ 8 := Is777.1 87
              refine z_const X (show cdA 213 137 = some (.iconst 1, 1, 0, 0, 0) from rfl) ?_
              refine z_add X (show cdA 213 138 = some (.iadd, 1, 0, 0, 0) from rfl) ?_
              refine s_putI X 179 (show cdA 213 139 = some (.putfield 288, 3, 12, 17, 0) from rfl) (by decide) rfl rfl (by decide) rfl rfl rfl ?_
              obtain ⟨s779, hs779⟩ : ∃ x0, x0 = uI s777 87 (Int32.ofInt ((iI s777 87) + 1)) := ⟨_, rfl⟩
              rw [← hs779]
              have Is779 : Bd s779 := by rw [hs779]; exact bd_I Is777 (show (0 : Int) ≤ ((iI s777 87) + 1) ∧ ((iI s777 87) + 1) ≤ 8 by omega) ⟨by omega, by omega⟩
              have Fs779 := fm_I (x := Int32.ofInt ((iI s777 87) + 1)) Fs777 (show 87 ∈ _ by decide)
              rw [← hs779] at Fs779
              have vs779 : iI s779 87 = ((iI s777 87) + 1) := by rw [hs779]; exact iI_u ⟨by omega, by omega⟩
              have ws779_77 : iI s779 77 = iI s777 77 := by rw [hs779]; rfl
              have ws779_75 : iI s779 75 = iI s777 75 := by rw [hs779]; rfl
              have ws779_79 : iI s779 79 = iI s777 79 := by rw [hs779]; rfl
              have ws779_78 : iI s779 78 = iI s777 78 := by rw [hs779]; rfl
              have ws779_86 : iI s779 86 = iI s777 86 := by rw [hs779]; rfl
              have ws779_88 : iI s779 88 = iI s777 88 := by rw [hs779]; rfl
              refine z_aload_n X (x := A 179) (show cdA 213 142 = some (.aload_n 0, 1, 0, 0, 0) from rfl) (List.Mem.tail _ (List.Mem.tail _ (List.Mem.tail _ (List.Mem.head _)))) ?_
              refine z_callV X 179 (rm := rmN 212) (As := []) (st := []) (show cdA 213 143 = some (.invokevirtual 276, 3, 212, 0, 0) from rfl) rfl (by decide) rfl (by rw [E.1, E.2.1, E.2.2.1]; exact k_ors G Is779 (by omega) (by omega) (by omega) (by omega)) ⟨by rw [E.2.2.2]; exact (show (rmN 212).frames + 1 ≤ (rmN 213).frames by decide), by rw [E.2.2.2]; exact (show 8 + (mNL (miB 212) + 11) + (rmN 212).locals ≤ (rmN 213).locals by decide), by rw [E.2.2.2]; exact (show 0 + (rmN 212).cells ≤ (rmN 213).cells by decide), by rw [E.2.2.2]; exact (show 0 + (rmN 212).slots ≤ (rmN 213).slots by decide)⟩ (Nat.le_of_ble_eq_true rfl) (fun vv s780 hq => ?_) (fun ee s780 hq => ?_)
              rotate_left
              · obtain ⟨Is780, Fs780, e781, hv, hrs780, hps780⟩ := hq; cases hv
              obtain ⟨Is780, Fs780, e781, hv, hrs780, hps780⟩ := hq
              cases hv
              have Gs780 := fm_ts Fs779 Fs780 (by decide) (by decide)
              have b782 : (0 : Int) ≤ iI s780 77 ∧ iI s780 77 ≤ 400 := Is780.1 77
              have ws780_75 : iI s780 75 = iI s779 75 := fm_i Fs780 (by decide)
              have b783 : (0 : Int) ≤ iI s780 79 ∧ iI s780 79 ≤ 9 := Is780.1 79
              have b784 : (0 : Int) ≤ iI s780 78 ∧ iI s780 78 ≤ 8 := Is780.1 78
              have ws780_86 : iI s780 86 = iI s779 86 := fm_i Fs780 (by decide)
              have ws780_87 : iI s780 87 = iI s779 87 := fm_i Fs780 (by decide)
              have ws780_88 : iI s780 88 = iI s779 88 := fm_i Fs780 (by decide)
              show WS k 146 [(3, .int (Int32.ofInt 1)), (2, .int (Int32.ofInt 1)), (1, .int (Int32.ofInt e9)), (0, .ref (A 179))] [.int (Int32.ofInt e781)] (Wd A dT s780) 0 0
              refine w_pop X.1 (ax_d X (show cdA 213 146 = some (.pop, 1, 0, 0, 0) from rfl)) rfl ?_
              refine z_aload_n X (x := A 179) (show cdA 213 147 = some (.aload_n 0, 1, 0, 0, 0) from rfl) (List.Mem.tail _ (List.Mem.tail _ (List.Mem.tail _ (List.Mem.head _)))) ?_
              refine z_getI X 179 (show cdA 213 148 = some (.getfield 191, 3, 12, 6, 0) from rfl) (by decide) rfl rfl ?_
              have b785 : (0 : Int) ≤ iI s780 79 ∧ iI s780 79 ≤ 9 := Is780.1 79
              refine z_if_ne X (t := 160) (show cdA 213 151 = some (.ifCond .ne 9, 3, 1, 0, 0) from rfl) (by decide) ⟨by omega, by omega⟩ (fun g786 => ?_) (fun g786 => ?_)
              ·
                refine z_aload_n X (x := A 179) (show cdA 213 160 = some (.aload_n 0, 1, 0, 0, 0) from rfl) (List.Mem.tail _ (List.Mem.tail _ (List.Mem.tail _ (List.Mem.head _)))) ?_
                refine w_dup X.1 (ax_d X (show cdA 213 161 = some (.dup, 1, 0, 0, 0) from rfl)) rfl ?_
                refine z_getI X 179 (show cdA 213 162 = some (.getfield 282, 3, 12, 16, 0) from rfl) (by decide) rfl rfl ?_
                have b787 : (0 : Int) ≤ iI s780 86 ∧ iI s780 86 ≤ 8 := Is780.1 86
                refine z_const X (show cdA 213 165 = some (.iconst 1, 1, 0, 0, 0) from rfl) ?_
                refine z_add X (show cdA 213 166 = some (.iadd, 1, 0, 0, 0) from rfl) ?_
                refine s_putI X 179 (show cdA 213 167 = some (.putfield 282, 3, 12, 16, 0) from rfl) (by decide) rfl rfl (by decide) rfl rfl rfl ?_
                obtain ⟨s788, hs788⟩ : ∃ x0, x0 = uI s780 86 (Int32.ofInt ((iI s780 86) + 1)) := ⟨_, rfl⟩
                rw [← hs788]
                have Is788 : Bd s788 := by rw [hs788]; exact bd_I Is780 (show (0 : Int) ≤ ((iI s780 86) + 1) ∧ ((iI s780 86) + 1) ≤ 8 by omega) ⟨by omega, by omega⟩
                have Fs788 := fm_I (x := Int32.ofInt ((iI s780 86) + 1)) Gs780 (show 86 ∈ _ by decide)
                rw [← hs788] at Fs788
                have vs788 : iI s788 86 = ((iI s780 86) + 1) := by rw [hs788]; exact iI_u ⟨by omega, by omega⟩
                have ws788_77 : iI s788 77 = iI s780 77 := by rw [hs788]; rfl
                have ws788_75 : iI s788 75 = iI s780 75 := by rw [hs788]; rfl
                have ws788_79 : iI s788 79 = iI s780 79 := by rw [hs788]; rfl
                have ws788_78 : iI s788 78 = iI s780 78 := by rw [hs788]; rfl
                have ws788_87 : iI s788 87 = iI s780 87 := by rw [hs788]; rfl
                have ws788_88 : iI s788 88 = iI s780 88 := by rw [hs788]; rfl
                exact w_vret X.1 q hRt (ax_d X (show cdA 213 170 = some (.return_, 1, 0, 0, 0) from rfl)) (Nat.zero_le _) (Nat.zero_le _) ⟨_, rfl, Is788, Fs788, rfl, by omega⟩
              ·
                refine z_aload_n X (x := A 179) (show cdA 213 154 = some (.aload_n 0, 1, 0, 0, 0) from rfl) (List.Mem.tail _ (List.Mem.tail _ (List.Mem.tail _ (List.Mem.head _)))) ?_
                refine z_bipush X (show cdA 213 155 = some (.bipush 59, 2, 0, 0, 59) from rfl) ?_
                refine z_callV X 179 (rm := rmN 204) (As := [.int (Int32.ofInt 59)]) (st := []) (show cdA 213 157 = some (.invokevirtual 263, 3, 204, 0, 0) from rfl) rfl (by decide) rfl (by rw [E.1, E.2.1, E.2.2.1]; exact k_sign G Is780 (by omega) (by omega)) ⟨by rw [E.2.2.2]; exact (show (rmN 204).frames + 1 ≤ (rmN 213).frames by decide), by rw [E.2.2.2]; exact (show 8 + (mNL (miB 204) + 11) + (rmN 204).locals ≤ (rmN 213).locals by decide), by rw [E.2.2.2]; exact (show 0 + (rmN 204).cells ≤ (rmN 213).cells by decide), by rw [E.2.2.2]; exact (show 0 + (rmN 204).slots ≤ (rmN 213).slots by decide)⟩ (Nat.le_of_ble_eq_true rfl) (fun vv s789 hq => ?_) (fun ee s789 hq => ?_)
                rotate_left
                · obtain ⟨Is789, Fs789, hv, hps789⟩ := hq; cases hv
                obtain ⟨Is789, Fs789, hv, hps789⟩ := hq
                cases hv
                have Gs789 := fm_ts Gs780 Fs789 (by decide) (by decide)
                have b791 : (0 : Int) ≤ iI s789 77 ∧ iI s789 77 ≤ 400 := Is789.1 77
                have ws789_75 : iI s789 75 = iI s780 75 := fm_i Fs789 (by decide)
                have b792 : (0 : Int) ≤ iI s789 79 ∧ iI s789 79 ≤ 9 := Is789.1 79
                have ws789_78 : iI s789 78 = iI s780 78 := fm_i Fs789 (by decide)
                have ws789_86 : iI s789 86 = iI s780 86 := fm_i Fs789 (by decide)
                have ws789_87 : iI s789 87 = iI s780 87 := fm_i Fs789 (by decide)
                have ws789_88 : iI s789 88 = iI s780 88 := fm_i Fs789 (by decide)
                show WS k 160 [(3, .int (Int32.ofInt 1)), (2, .int (Int32.ofInt 1)), (1, .int (Int32.ofInt e9)), (0, .ref (A 179))] [] (Wd A dT s789) 0 0
                refine z_aload_n X (x := A 179) (show cdA 213 160 = some (.aload_n 0, 1, 0, 0, 0) from rfl) (List.Mem.tail _ (List.Mem.tail _ (List.Mem.tail _ (List.Mem.head _)))) ?_
                refine w_dup X.1 (ax_d X (show cdA 213 161 = some (.dup, 1, 0, 0, 0) from rfl)) rfl ?_
                refine z_getI X 179 (show cdA 213 162 = some (.getfield 282, 3, 12, 16, 0) from rfl) (by decide) rfl rfl ?_
                have b793 : (0 : Int) ≤ iI s789 86 ∧ iI s789 86 ≤ 8 := Is789.1 86
                refine z_const X (show cdA 213 165 = some (.iconst 1, 1, 0, 0, 0) from rfl) ?_
                refine z_add X (show cdA 213 166 = some (.iadd, 1, 0, 0, 0) from rfl) ?_
                refine s_putI X 179 (show cdA 213 167 = some (.putfield 282, 3, 12, 16, 0) from rfl) (by decide) rfl rfl (by decide) rfl rfl rfl ?_
                obtain ⟨s794, hs794⟩ : ∃ x0, x0 = uI s789 86 (Int32.ofInt ((iI s789 86) + 1)) := ⟨_, rfl⟩
                rw [← hs794]
                have Is794 : Bd s794 := by rw [hs794]; exact bd_I Is789 (show (0 : Int) ≤ ((iI s789 86) + 1) ∧ ((iI s789 86) + 1) ≤ 8 by omega) ⟨by omega, by omega⟩
                have Fs794 := fm_I (x := Int32.ofInt ((iI s789 86) + 1)) Gs789 (show 86 ∈ _ by decide)
                rw [← hs794] at Fs794
                have vs794 : iI s794 86 = ((iI s789 86) + 1) := by rw [hs794]; exact iI_u ⟨by omega, by omega⟩
                have ws794_77 : iI s794 77 = iI s789 77 := by rw [hs794]; rfl
                have ws794_75 : iI s794 75 = iI s789 75 := by rw [hs794]; rfl
                have ws794_79 : iI s794 79 = iI s789 79 := by rw [hs794]; rfl
                have ws794_78 : iI s794 78 = iI s789 78 := by rw [hs794]; rfl
                have ws794_87 : iI s794 87 = iI s789 87 := by rw [hs794]; rfl
                have ws794_88 : iI s794 88 = iI s789 88 := by rw [hs794]; rfl
                exact w_vret X.1 q hRt (ax_d X (show cdA 213 170 = some (.return_, 1, 0, 0, 0) from rfl)) (Nat.zero_le _) (Nat.zero_le _) ⟨_, rfl, Is794, Fs794, rfl, by omega⟩
            ·
              refine z_aload_n X (x := A 179) (show cdA 213 103 = some (.aload_n 0, 1, 0, 0, 0) from rfl) (List.Mem.tail _ (List.Mem.tail _ (List.Mem.tail _ (List.Mem.head _)))) ?_
              refine z_aload_n X (x := A 179) (show cdA 213 104 = some (.aload_n 0, 1, 0, 0, 0) from rfl) (List.Mem.tail _ (List.Mem.tail _ (List.Mem.tail _ (List.Mem.head _)))) ?_
              refine z_getI X 179 (show cdA 213 105 = some (.getfield 184, 3, 12, 4, 0) from rfl) (by decide) rfl rfl ?_
              have b795 : (0 : Int) ≤ iI s771 77 ∧ iI s771 77 ≤ 400 := Is771.1 77
              refine s_putI X 179 (show cdA 213 108 = some (.putfield 285, 3, 12, 18, 0) from rfl) (by decide) rfl rfl (by decide) rfl rfl rfl ?_
              obtain ⟨s796, hs796⟩ : ∃ x0, x0 = uI s771 88 (Int32.ofInt (iI s771 77)) := ⟨_, rfl⟩
              rw [← hs796]
              have Is796 : Bd s796 := by rw [hs796]; exact bd_I Is771 (show ((-1) : Int) ≤ (iI s771 77) ∧ (iI s771 77) ≤ 200 by omega) ⟨by omega, by omega⟩
              have Fs796 := fm_I (x := Int32.ofInt (iI s771 77)) Gs771 (show 88 ∈ _ by decide)
              rw [← hs796] at Fs796
              have vs796 : iI s796 88 = (iI s771 77) := by rw [hs796]; exact iI_u ⟨by omega, by omega⟩
              have ws796_77 : iI s796 77 = iI s771 77 := by rw [hs796]; rfl
              have ws796_75 : iI s796 75 = iI s771 75 := by rw [hs796]; rfl
              have ws796_79 : iI s796 79 = iI s771 79 := by rw [hs796]; rfl
              have ws796_78 : iI s796 78 = iI s771 78 := by rw [hs796]; rfl
              have ws796_86 : iI s796 86 = iI s771 86 := by rw [hs796]; rfl
              have ws796_87 : iI s796 87 = iI s771 87 := by rw [hs796]; rfl
              refine z_aload_n X (x := A 179) (show cdA 213 111 = some (.aload_n 0, 1, 0, 0, 0) from rfl) (List.Mem.tail _ (List.Mem.tail _ (List.Mem.tail _ (List.Mem.head _)))) ?_
              refine z_callV X 179 (rm := rmN 209) (As := []) (st := []) (show cdA 213 112 = some (.invokevirtual 260, 3, 209, 0, 0) from rfl) rfl (by decide) rfl (by rw [E.1, E.2.1, E.2.2.1]; exact k_sum G Is796 (by omega) (by omega) (by omega)) ⟨by rw [E.2.2.2]; exact (show (rmN 209).frames + 1 ≤ (rmN 213).frames by decide), by rw [E.2.2.2]; exact (show 8 + (mNL (miB 209) + 11) + (rmN 209).locals ≤ (rmN 213).locals by decide), by rw [E.2.2.2]; exact (show 0 + (rmN 209).cells ≤ (rmN 213).cells by decide), by rw [E.2.2.2]; exact (show 0 + (rmN 209).slots ≤ (rmN 213).slots by decide)⟩ (Nat.le_of_ble_eq_true rfl) (fun vv s797 hq => ?_) (fun ee s797 hq => ?_)
              rotate_left
              · obtain ⟨Is797, Fs797, e798, hv, hrs797, hps797⟩ := hq; cases hv
              obtain ⟨Is797, Fs797, e798, hv, hrs797, hps797⟩ := hq
              cases hv
              have Gs797 := fm_ts Fs796 Fs797 (by decide) (by decide)
              have b799 : (0 : Int) ≤ iI s797 77 ∧ iI s797 77 ≤ 400 := Is797.1 77
              have ws797_75 : iI s797 75 = iI s796 75 := fm_i Fs797 (by decide)
              have b800 : (0 : Int) ≤ iI s797 79 ∧ iI s797 79 ≤ 9 := Is797.1 79
              have b801 : (0 : Int) ≤ iI s797 78 ∧ iI s797 78 ≤ 8 := Is797.1 78
              have ws797_86 : iI s797 86 = iI s796 86 := fm_i Fs797 (by decide)
              have ws797_87 : iI s797 87 = iI s796 87 := fm_i Fs797 (by decide)
              have ws797_88 : iI s797 88 = iI s796 88 := fm_i Fs797 (by decide)
              show WS k 115 [(3, .int (Int32.ofInt 1)), (2, .int (Int32.ofInt 1)), (1, .int (Int32.ofInt e9)), (0, .ref (A 179))] [.int (Int32.ofInt e798)] (Wd A dT s797) 0 0
              refine w_pop X.1 (ax_d X (show cdA 213 115 = some (.pop, 1, 0, 0, 0) from rfl)) rfl ?_
              refine z_goto X (t := 147) (show cdA 213 116 = some (.goto 31, 3, 0, 0, 0) from rfl) (by decide) ?_
              refine z_aload_n X (x := A 179) (show cdA 213 147 = some (.aload_n 0, 1, 0, 0, 0) from rfl) (List.Mem.tail _ (List.Mem.tail _ (List.Mem.tail _ (List.Mem.head _)))) ?_
              refine z_getI X 179 (show cdA 213 148 = some (.getfield 191, 3, 12, 6, 0) from rfl) (by decide) rfl rfl ?_
              have b802 : (0 : Int) ≤ iI s797 79 ∧ iI s797 79 ≤ 9 := Is797.1 79
              refine z_if_ne X (t := 160) (show cdA 213 151 = some (.ifCond .ne 9, 3, 1, 0, 0) from rfl) (by decide) ⟨by omega, by omega⟩ (fun g803 => ?_) (fun g803 => ?_)
              ·
                refine z_aload_n X (x := A 179) (show cdA 213 160 = some (.aload_n 0, 1, 0, 0, 0) from rfl) (List.Mem.tail _ (List.Mem.tail _ (List.Mem.tail _ (List.Mem.head _)))) ?_
                refine w_dup X.1 (ax_d X (show cdA 213 161 = some (.dup, 1, 0, 0, 0) from rfl)) rfl ?_
                refine z_getI X 179 (show cdA 213 162 = some (.getfield 282, 3, 12, 16, 0) from rfl) (by decide) rfl rfl ?_
                have b804 : (0 : Int) ≤ iI s797 86 ∧ iI s797 86 ≤ 8 := Is797.1 86
                refine z_const X (show cdA 213 165 = some (.iconst 1, 1, 0, 0, 0) from rfl) ?_
                refine z_add X (show cdA 213 166 = some (.iadd, 1, 0, 0, 0) from rfl) ?_
                refine s_putI X 179 (show cdA 213 167 = some (.putfield 282, 3, 12, 16, 0) from rfl) (by decide) rfl rfl (by decide) rfl rfl rfl ?_
                obtain ⟨s805, hs805⟩ : ∃ x0, x0 = uI s797 86 (Int32.ofInt ((iI s797 86) + 1)) := ⟨_, rfl⟩
                rw [← hs805]
                have Is805 : Bd s805 := by rw [hs805]; exact bd_I Is797 (show (0 : Int) ≤ ((iI s797 86) + 1) ∧ ((iI s797 86) + 1) ≤ 8 by omega) ⟨by omega, by omega⟩
                have Fs805 := fm_I (x := Int32.ofInt ((iI s797 86) + 1)) Gs797 (show 86 ∈ _ by decide)
                rw [← hs805] at Fs805
                have vs805 : iI s805 86 = ((iI s797 86) + 1) := by rw [hs805]; exact iI_u ⟨by omega, by omega⟩
                have ws805_77 : iI s805 77 = iI s797 77 := by rw [hs805]; rfl
                have ws805_75 : iI s805 75 = iI s797 75 := by rw [hs805]; rfl
                have ws805_79 : iI s805 79 = iI s797 79 := by rw [hs805]; rfl
                have ws805_78 : iI s805 78 = iI s797 78 := by rw [hs805]; rfl
                have ws805_87 : iI s805 87 = iI s797 87 := by rw [hs805]; rfl
                have ws805_88 : iI s805 88 = iI s797 88 := by rw [hs805]; rfl
                exact w_vret X.1 q hRt (ax_d X (show cdA 213 170 = some (.return_, 1, 0, 0, 0) from rfl)) (Nat.zero_le _) (Nat.zero_le _) ⟨_, rfl, Is805, Fs805, rfl, by omega⟩
              ·
                refine z_aload_n X (x := A 179) (show cdA 213 154 = some (.aload_n 0, 1, 0, 0, 0) from rfl) (List.Mem.tail _ (List.Mem.tail _ (List.Mem.tail _ (List.Mem.head _)))) ?_
                refine z_bipush X (show cdA 213 155 = some (.bipush 59, 2, 0, 0, 59) from rfl) ?_
                refine z_callV X 179 (rm := rmN 204) (As := [.int (Int32.ofInt 59)]) (st := []) (show cdA 213 157 = some (.invokevirtual 263, 3, 204, 0, 0) from rfl) rfl (by decide) rfl (by rw [E.1, E.2.1, E.2.2.1]; exact k_sign G Is797 (by omega) (by omega)) ⟨by rw [E.2.2.2]; exact (show (rmN 204).frames + 1 ≤ (rmN 213).frames by decide), by rw [E.2.2.2]; exact (show 8 + (mNL (miB 204) + 11) + (rmN 204).locals ≤ (rmN 213).locals by decide), by rw [E.2.2.2]; exact (show 0 + (rmN 204).cells ≤ (rmN 213).cells by decide), by rw [E.2.2.2]; exact (show 0 + (rmN 204).slots ≤ (rmN 213).slots by decide)⟩ (Nat.le_of_ble_eq_true rfl) (fun vv s806 hq => ?_) (fun ee s806 hq => ?_)
                rotate_left
                · obtain ⟨Is806, Fs806, hv, hps806⟩ := hq; cases hv
                obtain ⟨Is806, Fs806, hv, hps806⟩ := hq
                cases hv
                have Gs806 := fm_ts Gs797 Fs806 (by decide) (by decide)
                have b808 : (0 : Int) ≤ iI s806 77 ∧ iI s806 77 ≤ 400 := Is806.1 77
                have ws806_75 : iI s806 75 = iI s797 75 := fm_i Fs806 (by decide)
                have b809 : (0 : Int) ≤ iI s806 79 ∧ iI s806 79 ≤ 9 := Is806.1 79
                have ws806_78 : iI s806 78 = iI s797 78 := fm_i Fs806 (by decide)
                have ws806_86 : iI s806 86 = iI s797 86 := fm_i Fs806 (by decide)
                have ws806_87 : iI s806 87 = iI s797 87 := fm_i Fs806 (by decide)
                have ws806_88 : iI s806 88 = iI s797 88 := fm_i Fs806 (by decide)
                show WS k 160 [(3, .int (Int32.ofInt 1)), (2, .int (Int32.ofInt 1)), (1, .int (Int32.ofInt e9)), (0, .ref (A 179))] [] (Wd A dT s806) 0 0
                refine z_aload_n X (x := A 179) (show cdA 213 160 = some (.aload_n 0, 1, 0, 0, 0) from rfl) (List.Mem.tail _ (List.Mem.tail _ (List.Mem.tail _ (List.Mem.head _)))) ?_
                refine w_dup X.1 (ax_d X (show cdA 213 161 = some (.dup, 1, 0, 0, 0) from rfl)) rfl ?_
                refine z_getI X 179 (show cdA 213 162 = some (.getfield 282, 3, 12, 16, 0) from rfl) (by decide) rfl rfl ?_
                have b810 : (0 : Int) ≤ iI s806 86 ∧ iI s806 86 ≤ 8 := Is806.1 86
                refine z_const X (show cdA 213 165 = some (.iconst 1, 1, 0, 0, 0) from rfl) ?_
                refine z_add X (show cdA 213 166 = some (.iadd, 1, 0, 0, 0) from rfl) ?_
                refine s_putI X 179 (show cdA 213 167 = some (.putfield 282, 3, 12, 16, 0) from rfl) (by decide) rfl rfl (by decide) rfl rfl rfl ?_
                obtain ⟨s811, hs811⟩ : ∃ x0, x0 = uI s806 86 (Int32.ofInt ((iI s806 86) + 1)) := ⟨_, rfl⟩
                rw [← hs811]
                have Is811 : Bd s811 := by rw [hs811]; exact bd_I Is806 (show (0 : Int) ≤ ((iI s806 86) + 1) ∧ ((iI s806 86) + 1) ≤ 8 by omega) ⟨by omega, by omega⟩
                have Fs811 := fm_I (x := Int32.ofInt ((iI s806 86) + 1)) Gs806 (show 86 ∈ _ by decide)
                rw [← hs811] at Fs811
                have vs811 : iI s811 86 = ((iI s806 86) + 1) := by rw [hs811]; exact iI_u ⟨by omega, by omega⟩
                have ws811_77 : iI s811 77 = iI s806 77 := by rw [hs811]; rfl
                have ws811_75 : iI s811 75 = iI s806 75 := by rw [hs811]; rfl
                have ws811_79 : iI s811 79 = iI s806 79 := by rw [hs811]; rfl
                have ws811_78 : iI s811 78 = iI s806 78 := by rw [hs811]; rfl
                have ws811_87 : iI s811 87 = iI s806 87 := by rw [hs811]; rfl
                have ws811_88 : iI s811 88 = iI s806 88 := by rw [hs811]; rfl
                exact w_vret X.1 q hRt (ax_d X (show cdA 213 170 = some (.return_, 1, 0, 0, 0) from rfl)) (Nat.zero_le _) (Nat.zero_le _) ⟨_, rfl, Is811, Fs811, rfl, by omega⟩
          ·
            exact w_vret X.1 q hRt (ax_d X (show cdA 213 94 = some (.return_, 1, 0, 0, 0) from rfl)) (Nat.zero_le _) (Nat.zero_le _) ⟨_, rfl, Is766, Gs766, rfl, by omega⟩
      ·
        refine z_load_n X (x := 1) (show cdA 213 53 = some (.iload_n 3, 1, 0, 0, 0) from rfl) (List.Mem.head _) ?_
        refine z_if_ne X (t := 69) (show cdA 213 54 = some (.ifCond .ne 15, 3, 1, 0, 0) from rfl) (by decide) ⟨by omega, by omega⟩ (fun g812 => ?_) (fun g812 => ?_)
        ·
          refine z_aload_n X (x := A 179) (show cdA 213 69 = some (.aload_n 0, 1, 0, 0, 0) from rfl) (List.Mem.tail _ (List.Mem.tail _ (List.Mem.tail _ (List.Mem.head _)))) ?_
          refine z_getI X 179 (show cdA 213 70 = some (.getfield 282, 3, 12, 16, 0) from rfl) (by decide) rfl rfl ?_
          have b813 : (0 : Int) ≤ iI s483 86 ∧ iI s483 86 ≤ 8 := Is483.1 86
          refine z_bipush X (show cdA 213 73 = some (.bipush 8, 2, 0, 0, 8) from rfl) ?_
          refine z_icmp_ne X (t := 87) (show cdA 213 75 = some (.if_icmp .ne 12, 3, 1, 0, 0) from rfl) (by decide) ⟨by omega, by omega⟩ ⟨by omega, by omega⟩ (fun g814 => ?_) (fun g814 => ?_)
          ·
            refine z_aload_n X (x := A 179) (show cdA 213 87 = some (.aload_n 0, 1, 0, 0, 0) from rfl) (List.Mem.tail _ (List.Mem.tail _ (List.Mem.tail _ (List.Mem.head _)))) ?_
            refine z_getI X 179 (show cdA 213 88 = some (.getfield 191, 3, 12, 6, 0) from rfl) (by decide) rfl rfl ?_
            have b815 : (0 : Int) ≤ iI s483 79 ∧ iI s483 79 ≤ 9 := Is483.1 79
            refine z_if_eq X (t := 95) (show cdA 213 91 = some (.ifCond .eq 4, 3, 0, 0, 0) from rfl) (by decide) ⟨by omega, by omega⟩ (fun g816 => ?_) (fun g816 => ?_)
            ·
              refine z_aload_n X (x := A 179) (show cdA 213 95 = some (.aload_n 0, 1, 0, 0, 0) from rfl) (List.Mem.tail _ (List.Mem.tail _ (List.Mem.tail _ (List.Mem.head _)))) ?_
              refine z_callV X 179 (rm := rmN 203) (As := []) (st := []) (show cdA 213 96 = some (.invokevirtual 254, 3, 203, 0, 0) from rfl) rfl (by decide) rfl (by rw [E.1, E.2.1, E.2.2.1]; exact k_skipWord G Is483 (by omega)) ⟨by rw [E.2.2.2]; exact (show (rmN 203).frames + 1 ≤ (rmN 213).frames by decide), by rw [E.2.2.2]; exact (show 8 + (mNL (miB 203) + 11) + (rmN 203).locals ≤ (rmN 213).locals by decide), by rw [E.2.2.2]; exact (show 0 + (rmN 203).cells ≤ (rmN 213).cells by decide), by rw [E.2.2.2]; exact (show 0 + (rmN 203).slots ≤ (rmN 213).slots by decide)⟩ (Nat.le_of_ble_eq_true rfl) (fun vv s817 hq => ?_) (fun ee s817 hq => ?_)
              rotate_left
              · obtain ⟨Is817, Fs817, hv, hps817⟩ := hq; cases hv
              obtain ⟨Is817, Fs817, hv, hps817⟩ := hq
              cases hv
              have Gs817 := fm_ts Gs483 Fs817 (by decide) (by decide)
              have b819 : (0 : Int) ≤ iI s817 77 ∧ iI s817 77 ≤ 400 := Is817.1 77
              have ws817_75 : iI s817 75 = iI s483 75 := fm_i Fs817 (by decide)
              have ws817_79 : iI s817 79 = iI s483 79 := fm_i Fs817 (by decide)
              have ws817_78 : iI s817 78 = iI s483 78 := fm_i Fs817 (by decide)
              have ws817_86 : iI s817 86 = iI s483 86 := fm_i Fs817 (by decide)
              have ws817_87 : iI s817 87 = iI s483 87 := fm_i Fs817 (by decide)
              have ws817_88 : iI s817 88 = iI s483 88 := fm_i Fs817 (by decide)
              show WS k 99 [(3, .int (Int32.ofInt 1)), (2, .int (Int32.ofInt 1)), (1, .int (Int32.ofInt e9)), (0, .ref (A 179))] [] (Wd A dT s817) 0 0
              refine z_load_n X (x := 1) (show cdA 213 99 = some (.iload_n 2, 1, 0, 0, 0) from rfl) (List.Mem.tail _ (List.Mem.head _)) ?_
              refine z_if_eq X (t := 119) (show cdA 213 100 = some (.ifCond .eq 19, 3, 0, 0, 0) from rfl) (by decide) ⟨by omega, by omega⟩ (fun g820 => ?_) (fun g820 => ?_)
              ·
                refine z_aload_n X (x := A 179) (show cdA 213 119 = some (.aload_n 0, 1, 0, 0, 0) from rfl) (List.Mem.tail _ (List.Mem.tail _ (List.Mem.tail _ (List.Mem.head _)))) ?_
                refine s_getR X 179 (show cdA 213 120 = some (.getfield 29, 3, 12, 20, 0) from rfl) (by decide) rfl rfl ?_
                refine z_aload_n X (x := A 179) (show cdA 213 123 = some (.aload_n 0, 1, 0, 0, 0) from rfl) (List.Mem.tail _ (List.Mem.tail _ (List.Mem.tail _ (List.Mem.head _)))) ?_
                refine z_getI X 179 (show cdA 213 124 = some (.getfield 288, 3, 12, 17, 0) from rfl) (by decide) rfl rfl ?_
                have b821 : (0 : Int) ≤ iI s817 87 ∧ iI s817 87 ≤ 8 := Is817.1 87
                refine z_aload_n X (x := A 179) (show cdA 213 127 = some (.aload_n 0, 1, 0, 0, 0) from rfl) (List.Mem.tail _ (List.Mem.tail _ (List.Mem.tail _ (List.Mem.head _)))) ?_
                refine z_getI X 179 (show cdA 213 128 = some (.getfield 184, 3, 12, 4, 0) from rfl) (by decide) rfl rfl ?_
                have b822 : (0 : Int) ≤ iI s817 77 ∧ iI s817 77 ≤ 400 := Is817.1 77
                refine z_ast X 183 (show cdA 213 131 = some (.iastore, 1, 0, 0, 0) from rfl) (by decide) rfl (by omega) (show (iI s817 87) < 8 by omega) (by decide) ?_
                obtain ⟨s823, hs823⟩ : ∃ x0, x0 = uC s817 160 ((iI s817 87)).toNat (Int32.ofInt (iI s817 77)) := ⟨_, rfl⟩
                rw [← hs823]
                have Is823 : Bd s823 := by rw [hs823]; exact bd_C Is817 (show (0 : Int) ≤ (iI s817 77) ∧ (iI s817 77) ≤ 200 by omega) ⟨by omega, by omega⟩
                have Fs823 := fm_C (i := ((iI s817 87)).toNat) (x := Int32.ofInt (iI s817 77)) Gs817 (show 160 ∈ _ by decide)
                rw [← hs823] at Fs823
                have ws823_77 : iI s823 77 = iI s817 77 := by rw [hs823]; rfl
                have ws823_75 : iI s823 75 = iI s817 75 := by rw [hs823]; rfl
                have ws823_79 : iI s823 79 = iI s817 79 := by rw [hs823]; rfl
                have ws823_78 : iI s823 78 = iI s817 78 := by rw [hs823]; rfl
                have ws823_86 : iI s823 86 = iI s817 86 := by rw [hs823]; rfl
                have ws823_87 : iI s823 87 = iI s817 87 := by rw [hs823]; rfl
                have ws823_88 : iI s823 88 = iI s817 88 := by rw [hs823]; rfl
                refine z_aload_n X (x := A 179) (show cdA 213 132 = some (.aload_n 0, 1, 0, 0, 0) from rfl) (List.Mem.tail _ (List.Mem.tail _ (List.Mem.tail _ (List.Mem.head _)))) ?_
                refine w_dup X.1 (ax_d X (show cdA 213 133 = some (.dup, 1, 0, 0, 0) from rfl)) rfl ?_
                refine z_getI X 179 (show cdA 213 134 = some (.getfield 288, 3, 12, 17, 0) from rfl) (by decide) rfl rfl ?_
                have b824 : (0 : Int) ≤ iI s823 87 ∧ iI s823 87 ≤ 8 := Is823.1 87
                refine z_const X (show cdA 213 137 = some (.iconst 1, 1, 0, 0, 0) from rfl) ?_
                refine z_add X (show cdA 213 138 = some (.iadd, 1, 0, 0, 0) from rfl) ?_
                refine s_putI X 179 (show cdA 213 139 = some (.putfield 288, 3, 12, 17, 0) from rfl) (by decide) rfl rfl (by decide) rfl rfl rfl ?_
                obtain ⟨s825, hs825⟩ : ∃ x0, x0 = uI s823 87 (Int32.ofInt ((iI s823 87) + 1)) := ⟨_, rfl⟩
                rw [← hs825]
                have Is825 : Bd s825 := by rw [hs825]; exact bd_I Is823 (show (0 : Int) ≤ ((iI s823 87) + 1) ∧ ((iI s823 87) + 1) ≤ 8 by omega) ⟨by omega, by omega⟩
                have Fs825 := fm_I (x := Int32.ofInt ((iI s823 87) + 1)) Fs823 (show 87 ∈ _ by decide)
                rw [← hs825] at Fs825
                have vs825 : iI s825 87 = ((iI s823 87) + 1) := by rw [hs825]; exact iI_u ⟨by omega, by omega⟩
                have ws825_77 : iI s825 77 = iI s823 77 := by rw [hs825]; rfl
                have ws825_75 : iI s825 75 = iI s823 75 := by rw [hs825]; rfl
                have ws825_79 : iI s825 79 = iI s823 79 := by rw [hs825]; rfl
                have ws825_78 : iI s825 78 = iI s823 78 := by rw [hs825]; rfl
                have ws825_86 : iI s825 86 = iI s823 86 := by rw [hs825]; rfl
                have ws825_88 : iI s825 88 = iI s823 88 := by rw [hs825]; rfl
                refine z_aload_n X (x := A 179) (show cdA 213 142 = some (.aload_n 0, 1, 0, 0, 0) from rfl) (List.Mem.tail _ (List.Mem.tail _ (List.Mem.tail _ (List.Mem.head _)))) ?_
                refine z_callV X 179 (rm := rmN 212) (As := []) (st := []) (show cdA 213 143 = some (.invokevirtual 276, 3, 212, 0, 0) from rfl) rfl (by decide) rfl (by rw [E.1, E.2.1, E.2.2.1]; exact k_ors G Is825 (by omega) (by omega) (by omega) (by omega)) ⟨by rw [E.2.2.2]; exact (show (rmN 212).frames + 1 ≤ (rmN 213).frames by decide), by rw [E.2.2.2]; exact (show 8 + (mNL (miB 212) + 11) + (rmN 212).locals ≤ (rmN 213).locals by decide), by rw [E.2.2.2]; exact (show 0 + (rmN 212).cells ≤ (rmN 213).cells by decide), by rw [E.2.2.2]; exact (show 0 + (rmN 212).slots ≤ (rmN 213).slots by decide)⟩ (Nat.le_of_ble_eq_true rfl) (fun vv s826 hq => ?_) (fun ee s826 hq => ?_)
                rotate_left
                · obtain ⟨Is826, Fs826, e827, hv, hrs826, hps826⟩ := hq; cases hv
                obtain ⟨Is826, Fs826, e827, hv, hrs826, hps826⟩ := hq
                cases hv
                have Gs826 := fm_ts Fs825 Fs826 (by decide) (by decide)
                have b828 : (0 : Int) ≤ iI s826 77 ∧ iI s826 77 ≤ 400 := Is826.1 77
                have ws826_75 : iI s826 75 = iI s825 75 := fm_i Fs826 (by decide)
                have b829 : (0 : Int) ≤ iI s826 79 ∧ iI s826 79 ≤ 9 := Is826.1 79
                have b830 : (0 : Int) ≤ iI s826 78 ∧ iI s826 78 ≤ 8 := Is826.1 78
                have ws826_86 : iI s826 86 = iI s825 86 := fm_i Fs826 (by decide)
                have ws826_87 : iI s826 87 = iI s825 87 := fm_i Fs826 (by decide)
                have ws826_88 : iI s826 88 = iI s825 88 := fm_i Fs826 (by decide)
                show WS k 146 [(3, .int (Int32.ofInt 1)), (2, .int (Int32.ofInt 1)), (1, .int (Int32.ofInt e9)), (0, .ref (A 179))] [.int (Int32.ofInt e827)] (Wd A dT s826) 0 0
                refine w_pop X.1 (ax_d X (show cdA 213 146 = some (.pop, 1, 0, 0, 0) from rfl)) rfl ?_
                refine z_aload_n X (x := A 179) (show cdA 213 147 = some (.aload_n 0, 1, 0, 0, 0) from rfl) (List.Mem.tail _ (List.Mem.tail _ (List.Mem.tail _ (List.Mem.head _)))) ?_
                refine z_getI X 179 (show cdA 213 148 = some (.getfield 191, 3, 12, 6, 0) from rfl) (by decide) rfl rfl ?_
                have b831 : (0 : Int) ≤ iI s826 79 ∧ iI s826 79 ≤ 9 := Is826.1 79
                refine z_if_ne X (t := 160) (show cdA 213 151 = some (.ifCond .ne 9, 3, 1, 0, 0) from rfl) (by decide) ⟨by omega, by omega⟩ (fun g832 => ?_) (fun g832 => ?_)
                ·
                  refine z_aload_n X (x := A 179) (show cdA 213 160 = some (.aload_n 0, 1, 0, 0, 0) from rfl) (List.Mem.tail _ (List.Mem.tail _ (List.Mem.tail _ (List.Mem.head _)))) ?_
                  refine w_dup X.1 (ax_d X (show cdA 213 161 = some (.dup, 1, 0, 0, 0) from rfl)) rfl ?_
                  refine z_getI X 179 (show cdA 213 162 = some (.getfield 282, 3, 12, 16, 0) from rfl) (by decide) rfl rfl ?_
                  have b833 : (0 : Int) ≤ iI s826 86 ∧ iI s826 86 ≤ 8 := Is826.1 86
                  refine z_const X (show cdA 213 165 = some (.iconst 1, 1, 0, 0, 0) from rfl) ?_
                  refine z_add X (show cdA 213 166 = some (.iadd, 1, 0, 0, 0) from rfl) ?_
                  refine s_putI X 179 (show cdA 213 167 = some (.putfield 282, 3, 12, 16, 0) from rfl) (by decide) rfl rfl (by decide) rfl rfl rfl ?_
                  obtain ⟨s834, hs834⟩ : ∃ x0, x0 = uI s826 86 (Int32.ofInt ((iI s826 86) + 1)) := ⟨_, rfl⟩
                  rw [← hs834]
                  have Is834 : Bd s834 := by rw [hs834]; exact bd_I Is826 (show (0 : Int) ≤ ((iI s826 86) + 1) ∧ ((iI s826 86) + 1) ≤ 8 by omega) ⟨by omega, by omega⟩
                  have Fs834 := fm_I (x := Int32.ofInt ((iI s826 86) + 1)) Gs826 (show 86 ∈ _ by decide)
                  rw [← hs834] at Fs834
                  have vs834 : iI s834 86 = ((iI s826 86) + 1) := by rw [hs834]; exact iI_u ⟨by omega, by omega⟩
                  have ws834_77 : iI s834 77 = iI s826 77 := by rw [hs834]; rfl
                  have ws834_75 : iI s834 75 = iI s826 75 := by rw [hs834]; rfl
                  have ws834_79 : iI s834 79 = iI s826 79 := by rw [hs834]; rfl
                  have ws834_78 : iI s834 78 = iI s826 78 := by rw [hs834]; rfl
                  have ws834_87 : iI s834 87 = iI s826 87 := by rw [hs834]; rfl
                  have ws834_88 : iI s834 88 = iI s826 88 := by rw [hs834]; rfl
                  exact w_vret X.1 q hRt (ax_d X (show cdA 213 170 = some (.return_, 1, 0, 0, 0) from rfl)) (Nat.zero_le _) (Nat.zero_le _) ⟨_, rfl, Is834, Fs834, rfl, by omega⟩
                ·
                  refine z_aload_n X (x := A 179) (show cdA 213 154 = some (.aload_n 0, 1, 0, 0, 0) from rfl) (List.Mem.tail _ (List.Mem.tail _ (List.Mem.tail _ (List.Mem.head _)))) ?_
                  refine z_bipush X (show cdA 213 155 = some (.bipush 59, 2, 0, 0, 59) from rfl) ?_
                  refine z_callV X 179 (rm := rmN 204) (As := [.int (Int32.ofInt 59)]) (st := []) (show cdA 213 157 = some (.invokevirtual 263, 3, 204, 0, 0) from rfl) rfl (by decide) rfl (by rw [E.1, E.2.1, E.2.2.1]; exact k_sign G Is826 (by omega) (by omega)) ⟨by rw [E.2.2.2]; exact (show (rmN 204).frames + 1 ≤ (rmN 213).frames by decide), by rw [E.2.2.2]; exact (show 8 + (mNL (miB 204) + 11) + (rmN 204).locals ≤ (rmN 213).locals by decide), by rw [E.2.2.2]; exact (show 0 + (rmN 204).cells ≤ (rmN 213).cells by decide), by rw [E.2.2.2]; exact (show 0 + (rmN 204).slots ≤ (rmN 213).slots by decide)⟩ (Nat.le_of_ble_eq_true rfl) (fun vv s835 hq => ?_) (fun ee s835 hq => ?_)
                  rotate_left
                  · obtain ⟨Is835, Fs835, hv, hps835⟩ := hq; cases hv
                  obtain ⟨Is835, Fs835, hv, hps835⟩ := hq
                  cases hv
                  have Gs835 := fm_ts Gs826 Fs835 (by decide) (by decide)
                  have b837 : (0 : Int) ≤ iI s835 77 ∧ iI s835 77 ≤ 400 := Is835.1 77
                  have ws835_75 : iI s835 75 = iI s826 75 := fm_i Fs835 (by decide)
                  have b838 : (0 : Int) ≤ iI s835 79 ∧ iI s835 79 ≤ 9 := Is835.1 79
                  have ws835_78 : iI s835 78 = iI s826 78 := fm_i Fs835 (by decide)
                  have ws835_86 : iI s835 86 = iI s826 86 := fm_i Fs835 (by decide)
                  have ws835_87 : iI s835 87 = iI s826 87 := fm_i Fs835 (by decide)
                  have ws835_88 : iI s835 88 = iI s826 88 := fm_i Fs835 (by decide)
                  show WS k 160 [(3, .int (Int32.ofInt 1)), (2, .int (Int32.ofInt 1)), (1, .int (Int32.ofInt e9)), (0, .ref (A 179))] [] (Wd A dT s835) 0 0
                  refine z_aload_n X (x := A 179) (show cdA 213 160 = some (.aload_n 0, 1, 0, 0, 0) from rfl) (List.Mem.tail _ (List.Mem.tail _ (List.Mem.tail _ (List.Mem.head _)))) ?_
                  refine w_dup X.1 (ax_d X (show cdA 213 161 = some (.dup, 1, 0, 0, 0) from rfl)) rfl ?_
                  refine z_getI X 179 (show cdA 213 162 = some (.getfield 282, 3, 12, 16, 0) from rfl) (by decide) rfl rfl ?_
                  have b839 : (0 : Int) ≤ iI s835 86 ∧ iI s835 86 ≤ 8 := Is835.1 86
                  refine z_const X (show cdA 213 165 = some (.iconst 1, 1, 0, 0, 0) from rfl) ?_
                  refine z_add X (show cdA 213 166 = some (.iadd, 1, 0, 0, 0) from rfl) ?_
                  refine s_putI X 179 (show cdA 213 167 = some (.putfield 282, 3, 12, 16, 0) from rfl) (by decide) rfl rfl (by decide) rfl rfl rfl ?_
                  obtain ⟨s840, hs840⟩ : ∃ x0, x0 = uI s835 86 (Int32.ofInt ((iI s835 86) + 1)) := ⟨_, rfl⟩
                  rw [← hs840]
                  have Is840 : Bd s840 := by rw [hs840]; exact bd_I Is835 (show (0 : Int) ≤ ((iI s835 86) + 1) ∧ ((iI s835 86) + 1) ≤ 8 by omega) ⟨by omega, by omega⟩
                  have Fs840 := fm_I (x := Int32.ofInt ((iI s835 86) + 1)) Gs835 (show 86 ∈ _ by decide)
                  rw [← hs840] at Fs840
                  have vs840 : iI s840 86 = ((iI s835 86) + 1) := by rw [hs840]; exact iI_u ⟨by omega, by omega⟩
                  have ws840_77 : iI s840 77 = iI s835 77 := by rw [hs840]; rfl
                  have ws840_75 : iI s840 75 = iI s835 75 := by rw [hs840]; rfl
                  have ws840_79 : iI s840 79 = iI s835 79 := by rw [hs840]; rfl
                  have ws840_78 : iI s840 78 = iI s835 78 := by rw [hs840]; rfl
                  have ws840_87 : iI s840 87 = iI s835 87 := by rw [hs840]; rfl
                  have ws840_88 : iI s840 88 = iI s835 88 := by rw [hs840]; rfl
                  exact w_vret X.1 q hRt (ax_d X (show cdA 213 170 = some (.return_, 1, 0, 0, 0) from rfl)) (Nat.zero_le _) (Nat.zero_le _) ⟨_, rfl, Is840, Fs840, rfl, by omega⟩
              ·
                refine z_aload_n X (x := A 179) (show cdA 213 103 = some (.aload_n 0, 1, 0, 0, 0) from rfl) (List.Mem.tail _ (List.Mem.tail _ (List.Mem.tail _ (List.Mem.head _)))) ?_
                refine z_aload_n X (x := A 179) (show cdA 213 104 = some (.aload_n 0, 1, 0, 0, 0) from rfl) (List.Mem.tail _ (List.Mem.tail _ (List.Mem.tail _ (List.Mem.head _)))) ?_
                refine z_getI X 179 (show cdA 213 105 = some (.getfield 184, 3, 12, 4, 0) from rfl) (by decide) rfl rfl ?_
                have b841 : (0 : Int) ≤ iI s817 77 ∧ iI s817 77 ≤ 400 := Is817.1 77
                refine s_putI X 179 (show cdA 213 108 = some (.putfield 285, 3, 12, 18, 0) from rfl) (by decide) rfl rfl (by decide) rfl rfl rfl ?_
                obtain ⟨s842, hs842⟩ : ∃ x0, x0 = uI s817 88 (Int32.ofInt (iI s817 77)) := ⟨_, rfl⟩
                rw [← hs842]
                have Is842 : Bd s842 := by rw [hs842]; exact bd_I Is817 (show ((-1) : Int) ≤ (iI s817 77) ∧ (iI s817 77) ≤ 200 by omega) ⟨by omega, by omega⟩
                have Fs842 := fm_I (x := Int32.ofInt (iI s817 77)) Gs817 (show 88 ∈ _ by decide)
                rw [← hs842] at Fs842
                have vs842 : iI s842 88 = (iI s817 77) := by rw [hs842]; exact iI_u ⟨by omega, by omega⟩
                have ws842_77 : iI s842 77 = iI s817 77 := by rw [hs842]; rfl
                have ws842_75 : iI s842 75 = iI s817 75 := by rw [hs842]; rfl
                have ws842_79 : iI s842 79 = iI s817 79 := by rw [hs842]; rfl
                have ws842_78 : iI s842 78 = iI s817 78 := by rw [hs842]; rfl
                have ws842_86 : iI s842 86 = iI s817 86 := by rw [hs842]; rfl
                have ws842_87 : iI s842 87 = iI s817 87 := by rw [hs842]; rfl
                refine z_aload_n X (x := A 179) (show cdA 213 111 = some (.aload_n 0, 1, 0, 0, 0) from rfl) (List.Mem.tail _ (List.Mem.tail _ (List.Mem.tail _ (List.Mem.head _)))) ?_
                refine z_callV X 179 (rm := rmN 209) (As := []) (st := []) (show cdA 213 112 = some (.invokevirtual 260, 3, 209, 0, 0) from rfl) rfl (by decide) rfl (by rw [E.1, E.2.1, E.2.2.1]; exact k_sum G Is842 (by omega) (by omega) (by omega)) ⟨by rw [E.2.2.2]; exact (show (rmN 209).frames + 1 ≤ (rmN 213).frames by decide), by rw [E.2.2.2]; exact (show 8 + (mNL (miB 209) + 11) + (rmN 209).locals ≤ (rmN 213).locals by decide), by rw [E.2.2.2]; exact (show 0 + (rmN 209).cells ≤ (rmN 213).cells by decide), by rw [E.2.2.2]; exact (show 0 + (rmN 209).slots ≤ (rmN 213).slots by decide)⟩ (Nat.le_of_ble_eq_true rfl) (fun vv s843 hq => ?_) (fun ee s843 hq => ?_)
                rotate_left
                · obtain ⟨Is843, Fs843, e844, hv, hrs843, hps843⟩ := hq; cases hv
                obtain ⟨Is843, Fs843, e844, hv, hrs843, hps843⟩ := hq
                cases hv
                have Gs843 := fm_ts Fs842 Fs843 (by decide) (by decide)
                have b845 : (0 : Int) ≤ iI s843 77 ∧ iI s843 77 ≤ 400 := Is843.1 77
                have ws843_75 : iI s843 75 = iI s842 75 := fm_i Fs843 (by decide)
                have b846 : (0 : Int) ≤ iI s843 79 ∧ iI s843 79 ≤ 9 := Is843.1 79
                have b847 : (0 : Int) ≤ iI s843 78 ∧ iI s843 78 ≤ 8 := Is843.1 78
                have ws843_86 : iI s843 86 = iI s842 86 := fm_i Fs843 (by decide)
                have ws843_87 : iI s843 87 = iI s842 87 := fm_i Fs843 (by decide)
                have ws843_88 : iI s843 88 = iI s842 88 := fm_i Fs843 (by decide)
                show WS k 115 [(3, .int (Int32.ofInt 1)), (2, .int (Int32.ofInt 1)), (1, .int (Int32.ofInt e9)), (0, .ref (A 179))] [.int (Int32.ofInt e844)] (Wd A dT s843) 0 0
                refine w_pop X.1 (ax_d X (show cdA 213 115 = some (.pop, 1, 0, 0, 0) from rfl)) rfl ?_
                refine z_goto X (t := 147) (show cdA 213 116 = some (.goto 31, 3, 0, 0, 0) from rfl) (by decide) ?_
                refine z_aload_n X (x := A 179) (show cdA 213 147 = some (.aload_n 0, 1, 0, 0, 0) from rfl) (List.Mem.tail _ (List.Mem.tail _ (List.Mem.tail _ (List.Mem.head _)))) ?_
                refine z_getI X 179 (show cdA 213 148 = some (.getfield 191, 3, 12, 6, 0) from rfl) (by decide) rfl rfl ?_
                have b848 : (0 : Int) ≤ iI s843 79 ∧ iI s843 79 ≤ 9 := Is843.1 79
                refine z_if_ne X (t := 160) (show cdA 213 151 = some (.ifCond .ne 9, 3, 1, 0, 0) from rfl) (by decide) ⟨by omega, by omega⟩ (fun g849 => ?_) (fun g849 => ?_)
                ·
                  refine z_aload_n X (x := A 179) (show cdA 213 160 = some (.aload_n 0, 1, 0, 0, 0) from rfl) (List.Mem.tail _ (List.Mem.tail _ (List.Mem.tail _ (List.Mem.head _)))) ?_
                  refine w_dup X.1 (ax_d X (show cdA 213 161 = some (.dup, 1, 0, 0, 0) from rfl)) rfl ?_
                  refine z_getI X 179 (show cdA 213 162 = some (.getfield 282, 3, 12, 16, 0) from rfl) (by decide) rfl rfl ?_
                  have b850 : (0 : Int) ≤ iI s843 86 ∧ iI s843 86 ≤ 8 := Is843.1 86
                  refine z_const X (show cdA 213 165 = some (.iconst 1, 1, 0, 0, 0) from rfl) ?_
                  refine z_add X (show cdA 213 166 = some (.iadd, 1, 0, 0, 0) from rfl) ?_
                  refine s_putI X 179 (show cdA 213 167 = some (.putfield 282, 3, 12, 16, 0) from rfl) (by decide) rfl rfl (by decide) rfl rfl rfl ?_
                  obtain ⟨s851, hs851⟩ : ∃ x0, x0 = uI s843 86 (Int32.ofInt ((iI s843 86) + 1)) := ⟨_, rfl⟩
                  rw [← hs851]
                  have Is851 : Bd s851 := by rw [hs851]; exact bd_I Is843 (show (0 : Int) ≤ ((iI s843 86) + 1) ∧ ((iI s843 86) + 1) ≤ 8 by omega) ⟨by omega, by omega⟩
                  have Fs851 := fm_I (x := Int32.ofInt ((iI s843 86) + 1)) Gs843 (show 86 ∈ _ by decide)
                  rw [← hs851] at Fs851
                  have vs851 : iI s851 86 = ((iI s843 86) + 1) := by rw [hs851]; exact iI_u ⟨by omega, by omega⟩
                  have ws851_77 : iI s851 77 = iI s843 77 := by rw [hs851]; rfl
                  have ws851_75 : iI s851 75 = iI s843 75 := by rw [hs851]; rfl
                  have ws851_79 : iI s851 79 = iI s843 79 := by rw [hs851]; rfl
                  have ws851_78 : iI s851 78 = iI s843 78 := by rw [hs851]; rfl
                  have ws851_87 : iI s851 87 = iI s843 87 := by rw [hs851]; rfl
                  have ws851_88 : iI s851 88 = iI s843 88 := by rw [hs851]; rfl
                  exact w_vret X.1 q hRt (ax_d X (show cdA 213 170 = some (.return_, 1, 0, 0, 0) from rfl)) (Nat.zero_le _) (Nat.zero_le _) ⟨_, rfl, Is851, Fs851, rfl, by omega⟩
                ·
                  refine z_aload_n X (x := A 179) (show cdA 213 154 = some (.aload_n 0, 1, 0, 0, 0) from rfl) (List.Mem.tail _ (List.Mem.tail _ (List.Mem.tail _ (List.Mem.head _)))) ?_
                  refine z_bipush X (show cdA 213 155 = some (.bipush 59, 2, 0, 0, 59) from rfl) ?_
                  refine z_callV X 179 (rm := rmN 204) (As := [.int (Int32.ofInt 59)]) (st := []) (show cdA 213 157 = some (.invokevirtual 263, 3, 204, 0, 0) from rfl) rfl (by decide) rfl (by rw [E.1, E.2.1, E.2.2.1]; exact k_sign G Is843 (by omega) (by omega)) ⟨by rw [E.2.2.2]; exact (show (rmN 204).frames + 1 ≤ (rmN 213).frames by decide), by rw [E.2.2.2]; exact (show 8 + (mNL (miB 204) + 11) + (rmN 204).locals ≤ (rmN 213).locals by decide), by rw [E.2.2.2]; exact (show 0 + (rmN 204).cells ≤ (rmN 213).cells by decide), by rw [E.2.2.2]; exact (show 0 + (rmN 204).slots ≤ (rmN 213).slots by decide)⟩ (Nat.le_of_ble_eq_true rfl) (fun vv s852 hq => ?_) (fun ee s852 hq => ?_)
                  rotate_left
                  · obtain ⟨Is852, Fs852, hv, hps852⟩ := hq; cases hv
                  obtain ⟨Is852, Fs852, hv, hps852⟩ := hq
                  cases hv
                  have Gs852 := fm_ts Gs843 Fs852 (by decide) (by decide)
                  have b854 : (0 : Int) ≤ iI s852 77 ∧ iI s852 77 ≤ 400 := Is852.1 77
                  have ws852_75 : iI s852 75 = iI s843 75 := fm_i Fs852 (by decide)
                  have b855 : (0 : Int) ≤ iI s852 79 ∧ iI s852 79 ≤ 9 := Is852.1 79
                  have ws852_78 : iI s852 78 = iI s843 78 := fm_i Fs852 (by decide)
                  have ws852_86 : iI s852 86 = iI s843 86 := fm_i Fs852 (by decide)
                  have ws852_87 : iI s852 87 = iI s843 87 := fm_i Fs852 (by decide)
                  have ws852_88 : iI s852 88 = iI s843 88 := fm_i Fs852 (by decide)
                  show WS k 160 [(3, .int (Int32.ofInt 1)), (2, .int (Int32.ofInt 1)), (1, .int (Int32.ofInt e9)), (0, .ref (A 179))] [] (Wd A dT s852) 0 0
                  refine z_aload_n X (x := A 179) (show cdA 213 160 = some (.aload_n 0, 1, 0, 0, 0) from rfl) (List.Mem.tail _ (List.Mem.tail _ (List.Mem.tail _ (List.Mem.head _)))) ?_
                  refine w_dup X.1 (ax_d X (show cdA 213 161 = some (.dup, 1, 0, 0, 0) from rfl)) rfl ?_
                  refine z_getI X 179 (show cdA 213 162 = some (.getfield 282, 3, 12, 16, 0) from rfl) (by decide) rfl rfl ?_
                  have b856 : (0 : Int) ≤ iI s852 86 ∧ iI s852 86 ≤ 8 := Is852.1 86
                  refine z_const X (show cdA 213 165 = some (.iconst 1, 1, 0, 0, 0) from rfl) ?_
                  refine z_add X (show cdA 213 166 = some (.iadd, 1, 0, 0, 0) from rfl) ?_
                  refine s_putI X 179 (show cdA 213 167 = some (.putfield 282, 3, 12, 16, 0) from rfl) (by decide) rfl rfl (by decide) rfl rfl rfl ?_
                  obtain ⟨s857, hs857⟩ : ∃ x0, x0 = uI s852 86 (Int32.ofInt ((iI s852 86) + 1)) := ⟨_, rfl⟩
                  rw [← hs857]
                  have Is857 : Bd s857 := by rw [hs857]; exact bd_I Is852 (show (0 : Int) ≤ ((iI s852 86) + 1) ∧ ((iI s852 86) + 1) ≤ 8 by omega) ⟨by omega, by omega⟩
                  have Fs857 := fm_I (x := Int32.ofInt ((iI s852 86) + 1)) Gs852 (show 86 ∈ _ by decide)
                  rw [← hs857] at Fs857
                  have vs857 : iI s857 86 = ((iI s852 86) + 1) := by rw [hs857]; exact iI_u ⟨by omega, by omega⟩
                  have ws857_77 : iI s857 77 = iI s852 77 := by rw [hs857]; rfl
                  have ws857_75 : iI s857 75 = iI s852 75 := by rw [hs857]; rfl
                  have ws857_79 : iI s857 79 = iI s852 79 := by rw [hs857]; rfl
                  have ws857_78 : iI s857 78 = iI s852 78 := by rw [hs857]; rfl
                  have ws857_87 : iI s857 87 = iI s852 87 := by rw [hs857]; rfl
                  have ws857_88 : iI s857 88 = iI s852 88 := by rw [hs857]; rfl
                  exact w_vret X.1 q hRt (ax_d X (show cdA 213 170 = some (.return_, 1, 0, 0, 0) from rfl)) (Nat.zero_le _) (Nat.zero_le _) ⟨_, rfl, Is857, Fs857, rfl, by omega⟩
            ·
              exact w_vret X.1 q hRt (ax_d X (show cdA 213 94 = some (.return_, 1, 0, 0, 0) from rfl)) (Nat.zero_le _) (Nat.zero_le _) ⟨_, rfl, Is483, Gs483, rfl, by omega⟩
          ·
            refine z_aload_n X (x := A 179) (show cdA 213 78 = some (.aload_n 0, 1, 0, 0, 0) from rfl) (List.Mem.tail _ (List.Mem.tail _ (List.Mem.tail _ (List.Mem.head _)))) ?_
            refine z_const X (show cdA 213 79 = some (.iconst 3, 1, 0, 0, 0) from rfl) ?_
            refine z_aload_n X (x := A 179) (show cdA 213 80 = some (.aload_n 0, 1, 0, 0, 0) from rfl) (List.Mem.tail _ (List.Mem.tail _ (List.Mem.tail _ (List.Mem.head _)))) ?_
            refine z_getI X 179 (show cdA 213 81 = some (.getfield 184, 3, 12, 4, 0) from rfl) (by decide) rfl rfl ?_
            have b858 : (0 : Int) ≤ iI s483 77 ∧ iI s483 77 ≤ 400 := Is483.1 77
            refine z_callV X 179 (rm := rmN 194) (As := [.int (Int32.ofInt 3), .int (Int32.ofInt (iI s483 77))]) (st := []) (show cdA 213 84 = some (.invokevirtual 204, 3, 194, 0, 0) from rfl) rfl (by decide) rfl (by rw [E.1, E.2.1, E.2.2.1]; exact k_wrong G Is483 (by omega) (by omega)) ⟨by rw [E.2.2.2]; exact (show (rmN 194).frames + 1 ≤ (rmN 213).frames by decide), by rw [E.2.2.2]; exact (show 8 + (mNL (miB 194) + 11) + (rmN 194).locals ≤ (rmN 213).locals by decide), by rw [E.2.2.2]; exact (show 0 + (rmN 194).cells ≤ (rmN 213).cells by decide), by rw [E.2.2.2]; exact (show 0 + (rmN 194).slots ≤ (rmN 213).slots by decide)⟩ (Nat.le_of_ble_eq_true rfl) (fun vv s859 hq => ?_) (fun ee s859 hq => ?_)
            rotate_left
            · obtain ⟨Is859, Fs859, hv, hps859⟩ := hq; cases hv
            obtain ⟨Is859, Fs859, hv, hps859⟩ := hq
            cases hv
            have Gs859 := fm_ts Gs483 Fs859 (by decide) (by decide)
            have ws859_77 : iI s859 77 = iI s483 77 := fm_i Fs859 (by decide)
            have ws859_75 : iI s859 75 = iI s483 75 := fm_i Fs859 (by decide)
            have b861 : (0 : Int) ≤ iI s859 79 ∧ iI s859 79 ≤ 9 := Is859.1 79
            have ws859_78 : iI s859 78 = iI s483 78 := fm_i Fs859 (by decide)
            have ws859_86 : iI s859 86 = iI s483 86 := fm_i Fs859 (by decide)
            have ws859_87 : iI s859 87 = iI s483 87 := fm_i Fs859 (by decide)
            have ws859_88 : iI s859 88 = iI s483 88 := fm_i Fs859 (by decide)
            show WS k 87 [(3, .int (Int32.ofInt 1)), (2, .int (Int32.ofInt 1)), (1, .int (Int32.ofInt e9)), (0, .ref (A 179))] [] (Wd A dT s859) 0 0
            refine z_aload_n X (x := A 179) (show cdA 213 87 = some (.aload_n 0, 1, 0, 0, 0) from rfl) (List.Mem.tail _ (List.Mem.tail _ (List.Mem.tail _ (List.Mem.head _)))) ?_
            refine z_getI X 179 (show cdA 213 88 = some (.getfield 191, 3, 12, 6, 0) from rfl) (by decide) rfl rfl ?_
            have b862 : (0 : Int) ≤ iI s859 79 ∧ iI s859 79 ≤ 9 := Is859.1 79
            refine z_if_eq X (t := 95) (show cdA 213 91 = some (.ifCond .eq 4, 3, 0, 0, 0) from rfl) (by decide) ⟨by omega, by omega⟩ (fun g863 => ?_) (fun g863 => ?_)
            ·
              refine z_aload_n X (x := A 179) (show cdA 213 95 = some (.aload_n 0, 1, 0, 0, 0) from rfl) (List.Mem.tail _ (List.Mem.tail _ (List.Mem.tail _ (List.Mem.head _)))) ?_
              refine z_callV X 179 (rm := rmN 203) (As := []) (st := []) (show cdA 213 96 = some (.invokevirtual 254, 3, 203, 0, 0) from rfl) rfl (by decide) rfl (by rw [E.1, E.2.1, E.2.2.1]; exact k_skipWord G Is859 (by omega)) ⟨by rw [E.2.2.2]; exact (show (rmN 203).frames + 1 ≤ (rmN 213).frames by decide), by rw [E.2.2.2]; exact (show 8 + (mNL (miB 203) + 11) + (rmN 203).locals ≤ (rmN 213).locals by decide), by rw [E.2.2.2]; exact (show 0 + (rmN 203).cells ≤ (rmN 213).cells by decide), by rw [E.2.2.2]; exact (show 0 + (rmN 203).slots ≤ (rmN 213).slots by decide)⟩ (Nat.le_of_ble_eq_true rfl) (fun vv s864 hq => ?_) (fun ee s864 hq => ?_)
              rotate_left
              · obtain ⟨Is864, Fs864, hv, hps864⟩ := hq; cases hv
              obtain ⟨Is864, Fs864, hv, hps864⟩ := hq
              cases hv
              have Gs864 := fm_ts Gs859 Fs864 (by decide) (by decide)
              have b866 : (0 : Int) ≤ iI s864 77 ∧ iI s864 77 ≤ 400 := Is864.1 77
              have ws864_75 : iI s864 75 = iI s859 75 := fm_i Fs864 (by decide)
              have ws864_79 : iI s864 79 = iI s859 79 := fm_i Fs864 (by decide)
              have ws864_78 : iI s864 78 = iI s859 78 := fm_i Fs864 (by decide)
              have ws864_86 : iI s864 86 = iI s859 86 := fm_i Fs864 (by decide)
              have ws864_87 : iI s864 87 = iI s859 87 := fm_i Fs864 (by decide)
              have ws864_88 : iI s864 88 = iI s859 88 := fm_i Fs864 (by decide)
              show WS k 99 [(3, .int (Int32.ofInt 1)), (2, .int (Int32.ofInt 1)), (1, .int (Int32.ofInt e9)), (0, .ref (A 179))] [] (Wd A dT s864) 0 0
              refine z_load_n X (x := 1) (show cdA 213 99 = some (.iload_n 2, 1, 0, 0, 0) from rfl) (List.Mem.tail _ (List.Mem.head _)) ?_
              refine z_if_eq X (t := 119) (show cdA 213 100 = some (.ifCond .eq 19, 3, 0, 0, 0) from rfl) (by decide) ⟨by omega, by omega⟩ (fun g867 => ?_) (fun g867 => ?_)
              ·
                refine z_aload_n X (x := A 179) (show cdA 213 119 = some (.aload_n 0, 1, 0, 0, 0) from rfl) (List.Mem.tail _ (List.Mem.tail _ (List.Mem.tail _ (List.Mem.head _)))) ?_
                refine s_getR X 179 (show cdA 213 120 = some (.getfield 29, 3, 12, 20, 0) from rfl) (by decide) rfl rfl ?_
                refine z_aload_n X (x := A 179) (show cdA 213 123 = some (.aload_n 0, 1, 0, 0, 0) from rfl) (List.Mem.tail _ (List.Mem.tail _ (List.Mem.tail _ (List.Mem.head _)))) ?_
                refine z_getI X 179 (show cdA 213 124 = some (.getfield 288, 3, 12, 17, 0) from rfl) (by decide) rfl rfl ?_
                have b868 : (0 : Int) ≤ iI s864 87 ∧ iI s864 87 ≤ 8 := Is864.1 87
                refine z_aload_n X (x := A 179) (show cdA 213 127 = some (.aload_n 0, 1, 0, 0, 0) from rfl) (List.Mem.tail _ (List.Mem.tail _ (List.Mem.tail _ (List.Mem.head _)))) ?_
                refine z_getI X 179 (show cdA 213 128 = some (.getfield 184, 3, 12, 4, 0) from rfl) (by decide) rfl rfl ?_
                have b869 : (0 : Int) ≤ iI s864 77 ∧ iI s864 77 ≤ 400 := Is864.1 77
                refine z_ast X 183 (show cdA 213 131 = some (.iastore, 1, 0, 0, 0) from rfl) (by decide) rfl (by omega) (show (iI s864 87) < 8 by omega) (by decide) ?_
                obtain ⟨s870, hs870⟩ : ∃ x0, x0 = uC s864 160 ((iI s864 87)).toNat (Int32.ofInt (iI s864 77)) := ⟨_, rfl⟩
                rw [← hs870]
                have Is870 : Bd s870 := by rw [hs870]; exact bd_C Is864 (show (0 : Int) ≤ (iI s864 77) ∧ (iI s864 77) ≤ 200 by omega) ⟨by omega, by omega⟩
                have Fs870 := fm_C (i := ((iI s864 87)).toNat) (x := Int32.ofInt (iI s864 77)) Gs864 (show 160 ∈ _ by decide)
                rw [← hs870] at Fs870
                have ws870_77 : iI s870 77 = iI s864 77 := by rw [hs870]; rfl
                have ws870_75 : iI s870 75 = iI s864 75 := by rw [hs870]; rfl
                have ws870_79 : iI s870 79 = iI s864 79 := by rw [hs870]; rfl
                have ws870_78 : iI s870 78 = iI s864 78 := by rw [hs870]; rfl
                have ws870_86 : iI s870 86 = iI s864 86 := by rw [hs870]; rfl
                have ws870_87 : iI s870 87 = iI s864 87 := by rw [hs870]; rfl
                have ws870_88 : iI s870 88 = iI s864 88 := by rw [hs870]; rfl
                refine z_aload_n X (x := A 179) (show cdA 213 132 = some (.aload_n 0, 1, 0, 0, 0) from rfl) (List.Mem.tail _ (List.Mem.tail _ (List.Mem.tail _ (List.Mem.head _)))) ?_
                refine w_dup X.1 (ax_d X (show cdA 213 133 = some (.dup, 1, 0, 0, 0) from rfl)) rfl ?_
                refine z_getI X 179 (show cdA 213 134 = some (.getfield 288, 3, 12, 17, 0) from rfl) (by decide) rfl rfl ?_
                have b871 : (0 : Int) ≤ iI s870 87 ∧ iI s870 87 ≤ 8 := Is870.1 87
                refine z_const X (show cdA 213 137 = some (.iconst 1, 1, 0, 0, 0) from rfl) ?_
                refine z_add X (show cdA 213 138 = some (.iadd, 1, 0, 0, 0) from rfl) ?_
                refine s_putI X 179 (show cdA 213 139 = some (.putfield 288, 3, 12, 17, 0) from rfl) (by decide) rfl rfl (by decide) rfl rfl rfl ?_
                obtain ⟨s872, hs872⟩ : ∃ x0, x0 = uI s870 87 (Int32.ofInt ((iI s870 87) + 1)) := ⟨_, rfl⟩
                rw [← hs872]
                have Is872 : Bd s872 := by rw [hs872]; exact bd_I Is870 (show (0 : Int) ≤ ((iI s870 87) + 1) ∧ ((iI s870 87) + 1) ≤ 8 by omega) ⟨by omega, by omega⟩
                have Fs872 := fm_I (x := Int32.ofInt ((iI s870 87) + 1)) Fs870 (show 87 ∈ _ by decide)
                rw [← hs872] at Fs872
                have vs872 : iI s872 87 = ((iI s870 87) + 1) := by rw [hs872]; exact iI_u ⟨by omega, by omega⟩
                have ws872_77 : iI s872 77 = iI s870 77 := by rw [hs872]; rfl
                have ws872_75 : iI s872 75 = iI s870 75 := by rw [hs872]; rfl
                have ws872_79 : iI s872 79 = iI s870 79 := by rw [hs872]; rfl
                have ws872_78 : iI s872 78 = iI s870 78 := by rw [hs872]; rfl
                have ws872_86 : iI s872 86 = iI s870 86 := by rw [hs872]; rfl
                have ws872_88 : iI s872 88 = iI s870 88 := by rw [hs872]; rfl
                refine z_aload_n X (x := A 179) (show cdA 213 142 = some (.aload_n 0, 1, 0, 0, 0) from rfl) (List.Mem.tail _ (List.Mem.tail _ (List.Mem.tail _ (List.Mem.head _)))) ?_
                refine z_callV X 179 (rm := rmN 212) (As := []) (st := []) (show cdA 213 143 = some (.invokevirtual 276, 3, 212, 0, 0) from rfl) rfl (by decide) rfl (by rw [E.1, E.2.1, E.2.2.1]; exact k_ors G Is872 (by omega) (by omega) (by omega) (by omega)) ⟨by rw [E.2.2.2]; exact (show (rmN 212).frames + 1 ≤ (rmN 213).frames by decide), by rw [E.2.2.2]; exact (show 8 + (mNL (miB 212) + 11) + (rmN 212).locals ≤ (rmN 213).locals by decide), by rw [E.2.2.2]; exact (show 0 + (rmN 212).cells ≤ (rmN 213).cells by decide), by rw [E.2.2.2]; exact (show 0 + (rmN 212).slots ≤ (rmN 213).slots by decide)⟩ (Nat.le_of_ble_eq_true rfl) (fun vv s873 hq => ?_) (fun ee s873 hq => ?_)
                rotate_left
                · obtain ⟨Is873, Fs873, e874, hv, hrs873, hps873⟩ := hq; cases hv
                obtain ⟨Is873, Fs873, e874, hv, hrs873, hps873⟩ := hq
                cases hv
                have Gs873 := fm_ts Fs872 Fs873 (by decide) (by decide)
                have b875 : (0 : Int) ≤ iI s873 77 ∧ iI s873 77 ≤ 400 := Is873.1 77
                have ws873_75 : iI s873 75 = iI s872 75 := fm_i Fs873 (by decide)
                have b876 : (0 : Int) ≤ iI s873 79 ∧ iI s873 79 ≤ 9 := Is873.1 79
                have b877 : (0 : Int) ≤ iI s873 78 ∧ iI s873 78 ≤ 8 := Is873.1 78
                have ws873_86 : iI s873 86 = iI s872 86 := fm_i Fs873 (by decide)
                have ws873_87 : iI s873 87 = iI s872 87 := fm_i Fs873 (by decide)
                have ws873_88 : iI s873 88 = iI s872 88 := fm_i Fs873 (by decide)
                show WS k 146 [(3, .int (Int32.ofInt 1)), (2, .int (Int32.ofInt 1)), (1, .int (Int32.ofInt e9)), (0, .ref (A 179))] [.int (Int32.ofInt e874)] (Wd A dT s873) 0 0
                refine w_pop X.1 (ax_d X (show cdA 213 146 = some (.pop, 1, 0, 0, 0) from rfl)) rfl ?_
                refine z_aload_n X (x := A 179) (show cdA 213 147 = some (.aload_n 0, 1, 0, 0, 0) from rfl) (List.Mem.tail _ (List.Mem.tail _ (List.Mem.tail _ (List.Mem.head _)))) ?_
                refine z_getI X 179 (show cdA 213 148 = some (.getfield 191, 3, 12, 6, 0) from rfl) (by decide) rfl rfl ?_
                have b878 : (0 : Int) ≤ iI s873 79 ∧ iI s873 79 ≤ 9 := Is873.1 79
                refine z_if_ne X (t := 160) (show cdA 213 151 = some (.ifCond .ne 9, 3, 1, 0, 0) from rfl) (by decide) ⟨by omega, by omega⟩ (fun g879 => ?_) (fun g879 => ?_)
                ·
                  refine z_aload_n X (x := A 179) (show cdA 213 160 = some (.aload_n 0, 1, 0, 0, 0) from rfl) (List.Mem.tail _ (List.Mem.tail _ (List.Mem.tail _ (List.Mem.head _)))) ?_
                  refine w_dup X.1 (ax_d X (show cdA 213 161 = some (.dup, 1, 0, 0, 0) from rfl)) rfl ?_
                  refine z_getI X 179 (show cdA 213 162 = some (.getfield 282, 3, 12, 16, 0) from rfl) (by decide) rfl rfl ?_
                  have b880 : (0 : Int) ≤ iI s873 86 ∧ iI s873 86 ≤ 8 := Is873.1 86
                  refine z_const X (show cdA 213 165 = some (.iconst 1, 1, 0, 0, 0) from rfl) ?_
                  refine z_add X (show cdA 213 166 = some (.iadd, 1, 0, 0, 0) from rfl) ?_
                  refine s_putI X 179 (show cdA 213 167 = some (.putfield 282, 3, 12, 16, 0) from rfl) (by decide) rfl rfl (by decide) rfl rfl rfl ?_
                  obtain ⟨s881, hs881⟩ : ∃ x0, x0 = uI s873 86 (Int32.ofInt ((iI s873 86) + 1)) := ⟨_, rfl⟩
                  rw [← hs881]
                  have Is881 : Bd s881 := by rw [hs881]; exact bd_I Is873 (show (0 : Int) ≤ ((iI s873 86) + 1) ∧ ((iI s873 86) + 1) ≤ 8 by omega) ⟨by omega, by omega⟩
                  have Fs881 := fm_I (x := Int32.ofInt ((iI s873 86) + 1)) Gs873 (show 86 ∈ _ by decide)
                  rw [← hs881] at Fs881
                  have vs881 : iI s881 86 = ((iI s873 86) + 1) := by rw [hs881]; exact iI_u ⟨by omega, by omega⟩
                  have ws881_77 : iI s881 77 = iI s873 77 := by rw [hs881]; rfl
                  have ws881_75 : iI s881 75 = iI s873 75 := by rw [hs881]; rfl
                  have ws881_79 : iI s881 79 = iI s873 79 := by rw [hs881]; rfl
                  have ws881_78 : iI s881 78 = iI s873 78 := by rw [hs881]; rfl
                  have ws881_87 : iI s881 87 = iI s873 87 := by rw [hs881]; rfl
                  have ws881_88 : iI s881 88 = iI s873 88 := by rw [hs881]; rfl
                  exact w_vret X.1 q hRt (ax_d X (show cdA 213 170 = some (.return_, 1, 0, 0, 0) from rfl)) (Nat.zero_le _) (Nat.zero_le _) ⟨_, rfl, Is881, Fs881, rfl, by omega⟩
                ·
                  refine z_aload_n X (x := A 179) (show cdA 213 154 = some (.aload_n 0, 1, 0, 0, 0) from rfl) (List.Mem.tail _ (List.Mem.tail _ (List.Mem.tail _ (List.Mem.head _)))) ?_
                  refine z_bipush X (show cdA 213 155 = some (.bipush 59, 2, 0, 0, 59) from rfl) ?_
                  refine z_callV X 179 (rm := rmN 204) (As := [.int (Int32.ofInt 59)]) (st := []) (show cdA 213 157 = some (.invokevirtual 263, 3, 204, 0, 0) from rfl) rfl (by decide) rfl (by rw [E.1, E.2.1, E.2.2.1]; exact k_sign G Is873 (by omega) (by omega)) ⟨by rw [E.2.2.2]; exact (show (rmN 204).frames + 1 ≤ (rmN 213).frames by decide), by rw [E.2.2.2]; exact (show 8 + (mNL (miB 204) + 11) + (rmN 204).locals ≤ (rmN 213).locals by decide), by rw [E.2.2.2]; exact (show 0 + (rmN 204).cells ≤ (rmN 213).cells by decide), by rw [E.2.2.2]; exact (show 0 + (rmN 204).slots ≤ (rmN 213).slots by decide)⟩ (Nat.le_of_ble_eq_true rfl) (fun vv s882 hq => ?_) (fun ee s882 hq => ?_)
                  rotate_left
                  · obtain ⟨Is882, Fs882, hv, hps882⟩ := hq; cases hv
                  obtain ⟨Is882, Fs882, hv, hps882⟩ := hq
                  cases hv
                  have Gs882 := fm_ts Gs873 Fs882 (by decide) (by decide)
                  have b884 : (0 : Int) ≤ iI s882 77 ∧ iI s882 77 ≤ 400 := Is882.1 77
                  have ws882_75 : iI s882 75 = iI s873 75 := fm_i Fs882 (by decide)
                  have b885 : (0 : Int) ≤ iI s882 79 ∧ iI s882 79 ≤ 9 := Is882.1 79
                  have ws882_78 : iI s882 78 = iI s873 78 := fm_i Fs882 (by decide)
                  have ws882_86 : iI s882 86 = iI s873 86 := fm_i Fs882 (by decide)
                  have ws882_87 : iI s882 87 = iI s873 87 := fm_i Fs882 (by decide)
                  have ws882_88 : iI s882 88 = iI s873 88 := fm_i Fs882 (by decide)
                  show WS k 160 [(3, .int (Int32.ofInt 1)), (2, .int (Int32.ofInt 1)), (1, .int (Int32.ofInt e9)), (0, .ref (A 179))] [] (Wd A dT s882) 0 0
                  refine z_aload_n X (x := A 179) (show cdA 213 160 = some (.aload_n 0, 1, 0, 0, 0) from rfl) (List.Mem.tail _ (List.Mem.tail _ (List.Mem.tail _ (List.Mem.head _)))) ?_
                  refine w_dup X.1 (ax_d X (show cdA 213 161 = some (.dup, 1, 0, 0, 0) from rfl)) rfl ?_
                  refine z_getI X 179 (show cdA 213 162 = some (.getfield 282, 3, 12, 16, 0) from rfl) (by decide) rfl rfl ?_
                  have b886 : (0 : Int) ≤ iI s882 86 ∧ iI s882 86 ≤ 8 := Is882.1 86
                  refine z_const X (show cdA 213 165 = some (.iconst 1, 1, 0, 0, 0) from rfl) ?_
                  refine z_add X (show cdA 213 166 = some (.iadd, 1, 0, 0, 0) from rfl) ?_
                  refine s_putI X 179 (show cdA 213 167 = some (.putfield 282, 3, 12, 16, 0) from rfl) (by decide) rfl rfl (by decide) rfl rfl rfl ?_
                  obtain ⟨s887, hs887⟩ : ∃ x0, x0 = uI s882 86 (Int32.ofInt ((iI s882 86) + 1)) := ⟨_, rfl⟩
                  rw [← hs887]
                  have Is887 : Bd s887 := by rw [hs887]; exact bd_I Is882 (show (0 : Int) ≤ ((iI s882 86) + 1) ∧ ((iI s882 86) + 1) ≤ 8 by omega) ⟨by omega, by omega⟩
                  have Fs887 := fm_I (x := Int32.ofInt ((iI s882 86) + 1)) Gs882 (show 86 ∈ _ by decide)
                  rw [← hs887] at Fs887
                  have vs887 : iI s887 86 = ((iI s882 86) + 1) := by rw [hs887]; exact iI_u ⟨by omega, by omega⟩
                  have ws887_77 : iI s887 77 = iI s882 77 := by rw [hs887]; rfl
                  have ws887_75 : iI s887 75 = iI s882 75 := by rw [hs887]; rfl
                  have ws887_79 : iI s887 79 = iI s882 79 := by rw [hs887]; rfl
                  have ws887_78 : iI s887 78 = iI s882 78 := by rw [hs887]; rfl
                  have ws887_87 : iI s887 87 = iI s882 87 := by rw [hs887]; rfl
                  have ws887_88 : iI s887 88 = iI s882 88 := by rw [hs887]; rfl
                  exact w_vret X.1 q hRt (ax_d X (show cdA 213 170 = some (.return_, 1, 0, 0, 0) from rfl)) (Nat.zero_le _) (Nat.zero_le _) ⟨_, rfl, Is887, Fs887, rfl, by omega⟩
              ·
                refine z_aload_n X (x := A 179) (show cdA 213 103 = some (.aload_n 0, 1, 0, 0, 0) from rfl) (List.Mem.tail _ (List.Mem.tail _ (List.Mem.tail _ (List.Mem.head _)))) ?_
                refine z_aload_n X (x := A 179) (show cdA 213 104 = some (.aload_n 0, 1, 0, 0, 0) from rfl) (List.Mem.tail _ (List.Mem.tail _ (List.Mem.tail _ (List.Mem.head _)))) ?_
                refine z_getI X 179 (show cdA 213 105 = some (.getfield 184, 3, 12, 4, 0) from rfl) (by decide) rfl rfl ?_
                have b888 : (0 : Int) ≤ iI s864 77 ∧ iI s864 77 ≤ 400 := Is864.1 77
                refine s_putI X 179 (show cdA 213 108 = some (.putfield 285, 3, 12, 18, 0) from rfl) (by decide) rfl rfl (by decide) rfl rfl rfl ?_
                obtain ⟨s889, hs889⟩ : ∃ x0, x0 = uI s864 88 (Int32.ofInt (iI s864 77)) := ⟨_, rfl⟩
                rw [← hs889]
                have Is889 : Bd s889 := by rw [hs889]; exact bd_I Is864 (show ((-1) : Int) ≤ (iI s864 77) ∧ (iI s864 77) ≤ 200 by omega) ⟨by omega, by omega⟩
                have Fs889 := fm_I (x := Int32.ofInt (iI s864 77)) Gs864 (show 88 ∈ _ by decide)
                rw [← hs889] at Fs889
                have vs889 : iI s889 88 = (iI s864 77) := by rw [hs889]; exact iI_u ⟨by omega, by omega⟩
                have ws889_77 : iI s889 77 = iI s864 77 := by rw [hs889]; rfl
                have ws889_75 : iI s889 75 = iI s864 75 := by rw [hs889]; rfl
                have ws889_79 : iI s889 79 = iI s864 79 := by rw [hs889]; rfl
                have ws889_78 : iI s889 78 = iI s864 78 := by rw [hs889]; rfl
                have ws889_86 : iI s889 86 = iI s864 86 := by rw [hs889]; rfl
                have ws889_87 : iI s889 87 = iI s864 87 := by rw [hs889]; rfl
                refine z_aload_n X (x := A 179) (show cdA 213 111 = some (.aload_n 0, 1, 0, 0, 0) from rfl) (List.Mem.tail _ (List.Mem.tail _ (List.Mem.tail _ (List.Mem.head _)))) ?_
                refine z_callV X 179 (rm := rmN 209) (As := []) (st := []) (show cdA 213 112 = some (.invokevirtual 260, 3, 209, 0, 0) from rfl) rfl (by decide) rfl (by rw [E.1, E.2.1, E.2.2.1]; exact k_sum G Is889 (by omega) (by omega) (by omega)) ⟨by rw [E.2.2.2]; exact (show (rmN 209).frames + 1 ≤ (rmN 213).frames by decide), by rw [E.2.2.2]; exact (show 8 + (mNL (miB 209) + 11) + (rmN 209).locals ≤ (rmN 213).locals by decide), by rw [E.2.2.2]; exact (show 0 + (rmN 209).cells ≤ (rmN 213).cells by decide), by rw [E.2.2.2]; exact (show 0 + (rmN 209).slots ≤ (rmN 213).slots by decide)⟩ (Nat.le_of_ble_eq_true rfl) (fun vv s890 hq => ?_) (fun ee s890 hq => ?_)
                rotate_left
                · obtain ⟨Is890, Fs890, e891, hv, hrs890, hps890⟩ := hq; cases hv
                obtain ⟨Is890, Fs890, e891, hv, hrs890, hps890⟩ := hq
                cases hv
                have Gs890 := fm_ts Fs889 Fs890 (by decide) (by decide)
                have b892 : (0 : Int) ≤ iI s890 77 ∧ iI s890 77 ≤ 400 := Is890.1 77
                have ws890_75 : iI s890 75 = iI s889 75 := fm_i Fs890 (by decide)
                have b893 : (0 : Int) ≤ iI s890 79 ∧ iI s890 79 ≤ 9 := Is890.1 79
                have b894 : (0 : Int) ≤ iI s890 78 ∧ iI s890 78 ≤ 8 := Is890.1 78
                have ws890_86 : iI s890 86 = iI s889 86 := fm_i Fs890 (by decide)
                have ws890_87 : iI s890 87 = iI s889 87 := fm_i Fs890 (by decide)
                have ws890_88 : iI s890 88 = iI s889 88 := fm_i Fs890 (by decide)
                show WS k 115 [(3, .int (Int32.ofInt 1)), (2, .int (Int32.ofInt 1)), (1, .int (Int32.ofInt e9)), (0, .ref (A 179))] [.int (Int32.ofInt e891)] (Wd A dT s890) 0 0
                refine w_pop X.1 (ax_d X (show cdA 213 115 = some (.pop, 1, 0, 0, 0) from rfl)) rfl ?_
                refine z_goto X (t := 147) (show cdA 213 116 = some (.goto 31, 3, 0, 0, 0) from rfl) (by decide) ?_
                refine z_aload_n X (x := A 179) (show cdA 213 147 = some (.aload_n 0, 1, 0, 0, 0) from rfl) (List.Mem.tail _ (List.Mem.tail _ (List.Mem.tail _ (List.Mem.head _)))) ?_
                refine z_getI X 179 (show cdA 213 148 = some (.getfield 191, 3, 12, 6, 0) from rfl) (by decide) rfl rfl ?_
                have b895 : (0 : Int) ≤ iI s890 79 ∧ iI s890 79 ≤ 9 := Is890.1 79
                refine z_if_ne X (t := 160) (show cdA 213 151 = some (.ifCond .ne 9, 3, 1, 0, 0) from rfl) (by decide) ⟨by omega, by omega⟩ (fun g896 => ?_) (fun g896 => ?_)
                ·
                  refine z_aload_n X (x := A 179) (show cdA 213 160 = some (.aload_n 0, 1, 0, 0, 0) from rfl) (List.Mem.tail _ (List.Mem.tail _ (List.Mem.tail _ (List.Mem.head _)))) ?_
                  refine w_dup X.1 (ax_d X (show cdA 213 161 = some (.dup, 1, 0, 0, 0) from rfl)) rfl ?_
                  refine z_getI X 179 (show cdA 213 162 = some (.getfield 282, 3, 12, 16, 0) from rfl) (by decide) rfl rfl ?_
                  have b897 : (0 : Int) ≤ iI s890 86 ∧ iI s890 86 ≤ 8 := Is890.1 86
                  refine z_const X (show cdA 213 165 = some (.iconst 1, 1, 0, 0, 0) from rfl) ?_
                  refine z_add X (show cdA 213 166 = some (.iadd, 1, 0, 0, 0) from rfl) ?_
                  refine s_putI X 179 (show cdA 213 167 = some (.putfield 282, 3, 12, 16, 0) from rfl) (by decide) rfl rfl (by decide) rfl rfl rfl ?_
                  obtain ⟨s898, hs898⟩ : ∃ x0, x0 = uI s890 86 (Int32.ofInt ((iI s890 86) + 1)) := ⟨_, rfl⟩
                  rw [← hs898]
                  have Is898 : Bd s898 := by rw [hs898]; exact bd_I Is890 (show (0 : Int) ≤ ((iI s890 86) + 1) ∧ ((iI s890 86) + 1) ≤ 8 by omega) ⟨by omega, by omega⟩
                  have Fs898 := fm_I (x := Int32.ofInt ((iI s890 86) + 1)) Gs890 (show 86 ∈ _ by decide)
                  rw [← hs898] at Fs898
                  have vs898 : iI s898 86 = ((iI s890 86) + 1) := by rw [hs898]; exact iI_u ⟨by omega, by omega⟩
                  have ws898_77 : iI s898 77 = iI s890 77 := by rw [hs898]; rfl
                  have ws898_75 : iI s898 75 = iI s890 75 := by rw [hs898]; rfl
                  have ws898_79 : iI s898 79 = iI s890 79 := by rw [hs898]; rfl
                  have ws898_78 : iI s898 78 = iI s890 78 := by rw [hs898]; rfl
                  have ws898_87 : iI s898 87 = iI s890 87 := by rw [hs898]; rfl
                  have ws898_88 : iI s898 88 = iI s890 88 := by rw [hs898]; rfl
                  exact w_vret X.1 q hRt (ax_d X (show cdA 213 170 = some (.return_, 1, 0, 0, 0) from rfl)) (Nat.zero_le _) (Nat.zero_le _) ⟨_, rfl, Is898, Fs898, rfl, by omega⟩
                ·
                  refine z_aload_n X (x := A 179) (show cdA 213 154 = some (.aload_n 0, 1, 0, 0, 0) from rfl) (List.Mem.tail _ (List.Mem.tail _ (List.Mem.tail _ (List.Mem.head _)))) ?_
                  refine z_bipush X (show cdA 213 155 = some (.bipush 59, 2, 0, 0, 59) from rfl) ?_
                  refine z_callV X 179 (rm := rmN 204) (As := [.int (Int32.ofInt 59)]) (st := []) (show cdA 213 157 = some (.invokevirtual 263, 3, 204, 0, 0) from rfl) rfl (by decide) rfl (by rw [E.1, E.2.1, E.2.2.1]; exact k_sign G Is890 (by omega) (by omega)) ⟨by rw [E.2.2.2]; exact (show (rmN 204).frames + 1 ≤ (rmN 213).frames by decide), by rw [E.2.2.2]; exact (show 8 + (mNL (miB 204) + 11) + (rmN 204).locals ≤ (rmN 213).locals by decide), by rw [E.2.2.2]; exact (show 0 + (rmN 204).cells ≤ (rmN 213).cells by decide), by rw [E.2.2.2]; exact (show 0 + (rmN 204).slots ≤ (rmN 213).slots by decide)⟩ (Nat.le_of_ble_eq_true rfl) (fun vv s899 hq => ?_) (fun ee s899 hq => ?_)
                  rotate_left
                  · obtain ⟨Is899, Fs899, hv, hps899⟩ := hq; cases hv
                  obtain ⟨Is899, Fs899, hv, hps899⟩ := hq
                  cases hv
                  have Gs899 := fm_ts Gs890 Fs899 (by decide) (by decide)
                  have b901 : (0 : Int) ≤ iI s899 77 ∧ iI s899 77 ≤ 400 := Is899.1 77
                  have ws899_75 : iI s899 75 = iI s890 75 := fm_i Fs899 (by decide)
                  have b902 : (0 : Int) ≤ iI s899 79 ∧ iI s899 79 ≤ 9 := Is899.1 79
                  have ws899_78 : iI s899 78 = iI s890 78 := fm_i Fs899 (by decide)
                  have ws899_86 : iI s899 86 = iI s890 86 := fm_i Fs899 (by decide)
                  have ws899_87 : iI s899 87 = iI s890 87 := fm_i Fs899 (by decide)
                  have ws899_88 : iI s899 88 = iI s890 88 := fm_i Fs899 (by decide)
                  show WS k 160 [(3, .int (Int32.ofInt 1)), (2, .int (Int32.ofInt 1)), (1, .int (Int32.ofInt e9)), (0, .ref (A 179))] [] (Wd A dT s899) 0 0
                  refine z_aload_n X (x := A 179) (show cdA 213 160 = some (.aload_n 0, 1, 0, 0, 0) from rfl) (List.Mem.tail _ (List.Mem.tail _ (List.Mem.tail _ (List.Mem.head _)))) ?_
                  refine w_dup X.1 (ax_d X (show cdA 213 161 = some (.dup, 1, 0, 0, 0) from rfl)) rfl ?_
                  refine z_getI X 179 (show cdA 213 162 = some (.getfield 282, 3, 12, 16, 0) from rfl) (by decide) rfl rfl ?_
                  have b903 : (0 : Int) ≤ iI s899 86 ∧ iI s899 86 ≤ 8 := Is899.1 86
                  refine z_const X (show cdA 213 165 = some (.iconst 1, 1, 0, 0, 0) from rfl) ?_
                  refine z_add X (show cdA 213 166 = some (.iadd, 1, 0, 0, 0) from rfl) ?_
                  refine s_putI X 179 (show cdA 213 167 = some (.putfield 282, 3, 12, 16, 0) from rfl) (by decide) rfl rfl (by decide) rfl rfl rfl ?_
                  obtain ⟨s904, hs904⟩ : ∃ x0, x0 = uI s899 86 (Int32.ofInt ((iI s899 86) + 1)) := ⟨_, rfl⟩
                  rw [← hs904]
                  have Is904 : Bd s904 := by rw [hs904]; exact bd_I Is899 (show (0 : Int) ≤ ((iI s899 86) + 1) ∧ ((iI s899 86) + 1) ≤ 8 by omega) ⟨by omega, by omega⟩
                  have Fs904 := fm_I (x := Int32.ofInt ((iI s899 86) + 1)) Gs899 (show 86 ∈ _ by decide)
                  rw [← hs904] at Fs904
                  have vs904 : iI s904 86 = ((iI s899 86) + 1) := by rw [hs904]; exact iI_u ⟨by omega, by omega⟩
                  have ws904_77 : iI s904 77 = iI s899 77 := by rw [hs904]; rfl
                  have ws904_75 : iI s904 75 = iI s899 75 := by rw [hs904]; rfl
                  have ws904_79 : iI s904 79 = iI s899 79 := by rw [hs904]; rfl
                  have ws904_78 : iI s904 78 = iI s899 78 := by rw [hs904]; rfl
                  have ws904_87 : iI s904 87 = iI s899 87 := by rw [hs904]; rfl
                  have ws904_88 : iI s904 88 = iI s899 88 := by rw [hs904]; rfl
                  exact w_vret X.1 q hRt (ax_d X (show cdA 213 170 = some (.return_, 1, 0, 0, 0) from rfl)) (Nat.zero_le _) (Nat.zero_le _) ⟨_, rfl, Is904, Fs904, rfl, by omega⟩
            ·
              exact w_vret X.1 q hRt (ax_d X (show cdA 213 94 = some (.return_, 1, 0, 0, 0) from rfl)) (Nat.zero_le _) (Nat.zero_le _) ⟨_, rfl, Is859, Gs859, rfl, by omega⟩
        ·
          refine z_aload_n X (x := A 179) (show cdA 213 57 = some (.aload_n 0, 1, 0, 0, 0) from rfl) (List.Mem.tail _ (List.Mem.tail _ (List.Mem.tail _ (List.Mem.head _)))) ?_
          refine z_const X (show cdA 213 58 = some (.iconst 1, 1, 0, 0, 0) from rfl) ?_
          refine z_aload_n X (x := A 179) (show cdA 213 59 = some (.aload_n 0, 1, 0, 0, 0) from rfl) (List.Mem.tail _ (List.Mem.tail _ (List.Mem.tail _ (List.Mem.head _)))) ?_
          refine z_getI X 179 (show cdA 213 60 = some (.getfield 184, 3, 12, 4, 0) from rfl) (by decide) rfl rfl ?_
          have b905 : (0 : Int) ≤ iI s483 77 ∧ iI s483 77 ≤ 400 := Is483.1 77
          refine z_callV X 179 (rm := rmN 194) (As := [.int (Int32.ofInt 1), .int (Int32.ofInt (iI s483 77))]) (st := []) (show cdA 213 63 = some (.invokevirtual 204, 3, 194, 0, 0) from rfl) rfl (by decide) rfl (by rw [E.1, E.2.1, E.2.2.1]; exact k_wrong G Is483 (by omega) (by omega)) ⟨by rw [E.2.2.2]; exact (show (rmN 194).frames + 1 ≤ (rmN 213).frames by decide), by rw [E.2.2.2]; exact (show 8 + (mNL (miB 194) + 11) + (rmN 194).locals ≤ (rmN 213).locals by decide), by rw [E.2.2.2]; exact (show 0 + (rmN 194).cells ≤ (rmN 213).cells by decide), by rw [E.2.2.2]; exact (show 0 + (rmN 194).slots ≤ (rmN 213).slots by decide)⟩ (Nat.le_of_ble_eq_true rfl) (fun vv s906 hq => ?_) (fun ee s906 hq => ?_)
          rotate_left
          · obtain ⟨Is906, Fs906, hv, hps906⟩ := hq; cases hv
          obtain ⟨Is906, Fs906, hv, hps906⟩ := hq
          cases hv
          have Gs906 := fm_ts Gs483 Fs906 (by decide) (by decide)
          have ws906_77 : iI s906 77 = iI s483 77 := fm_i Fs906 (by decide)
          have ws906_75 : iI s906 75 = iI s483 75 := fm_i Fs906 (by decide)
          have b908 : (0 : Int) ≤ iI s906 79 ∧ iI s906 79 ≤ 9 := Is906.1 79
          have ws906_78 : iI s906 78 = iI s483 78 := fm_i Fs906 (by decide)
          have ws906_86 : iI s906 86 = iI s483 86 := fm_i Fs906 (by decide)
          have ws906_87 : iI s906 87 = iI s483 87 := fm_i Fs906 (by decide)
          have ws906_88 : iI s906 88 = iI s483 88 := fm_i Fs906 (by decide)
          show WS k 66 [(3, .int (Int32.ofInt 1)), (2, .int (Int32.ofInt 1)), (1, .int (Int32.ofInt e9)), (0, .ref (A 179))] [] (Wd A dT s906) 0 0
          refine z_goto X (t := 87) (show cdA 213 66 = some (.goto 21, 3, 0, 0, 0) from rfl) (by decide) ?_
          refine z_aload_n X (x := A 179) (show cdA 213 87 = some (.aload_n 0, 1, 0, 0, 0) from rfl) (List.Mem.tail _ (List.Mem.tail _ (List.Mem.tail _ (List.Mem.head _)))) ?_
          refine z_getI X 179 (show cdA 213 88 = some (.getfield 191, 3, 12, 6, 0) from rfl) (by decide) rfl rfl ?_
          have b909 : (0 : Int) ≤ iI s906 79 ∧ iI s906 79 ≤ 9 := Is906.1 79
          refine z_if_eq X (t := 95) (show cdA 213 91 = some (.ifCond .eq 4, 3, 0, 0, 0) from rfl) (by decide) ⟨by omega, by omega⟩ (fun g910 => ?_) (fun g910 => ?_)
          ·
            refine z_aload_n X (x := A 179) (show cdA 213 95 = some (.aload_n 0, 1, 0, 0, 0) from rfl) (List.Mem.tail _ (List.Mem.tail _ (List.Mem.tail _ (List.Mem.head _)))) ?_
            refine z_callV X 179 (rm := rmN 203) (As := []) (st := []) (show cdA 213 96 = some (.invokevirtual 254, 3, 203, 0, 0) from rfl) rfl (by decide) rfl (by rw [E.1, E.2.1, E.2.2.1]; exact k_skipWord G Is906 (by omega)) ⟨by rw [E.2.2.2]; exact (show (rmN 203).frames + 1 ≤ (rmN 213).frames by decide), by rw [E.2.2.2]; exact (show 8 + (mNL (miB 203) + 11) + (rmN 203).locals ≤ (rmN 213).locals by decide), by rw [E.2.2.2]; exact (show 0 + (rmN 203).cells ≤ (rmN 213).cells by decide), by rw [E.2.2.2]; exact (show 0 + (rmN 203).slots ≤ (rmN 213).slots by decide)⟩ (Nat.le_of_ble_eq_true rfl) (fun vv s911 hq => ?_) (fun ee s911 hq => ?_)
            rotate_left
            · obtain ⟨Is911, Fs911, hv, hps911⟩ := hq; cases hv
            obtain ⟨Is911, Fs911, hv, hps911⟩ := hq
            cases hv
            have Gs911 := fm_ts Gs906 Fs911 (by decide) (by decide)
            have b913 : (0 : Int) ≤ iI s911 77 ∧ iI s911 77 ≤ 400 := Is911.1 77
            have ws911_75 : iI s911 75 = iI s906 75 := fm_i Fs911 (by decide)
            have ws911_79 : iI s911 79 = iI s906 79 := fm_i Fs911 (by decide)
            have ws911_78 : iI s911 78 = iI s906 78 := fm_i Fs911 (by decide)
            have ws911_86 : iI s911 86 = iI s906 86 := fm_i Fs911 (by decide)
            have ws911_87 : iI s911 87 = iI s906 87 := fm_i Fs911 (by decide)
            have ws911_88 : iI s911 88 = iI s906 88 := fm_i Fs911 (by decide)
            show WS k 99 [(3, .int (Int32.ofInt 1)), (2, .int (Int32.ofInt 1)), (1, .int (Int32.ofInt e9)), (0, .ref (A 179))] [] (Wd A dT s911) 0 0
            refine z_load_n X (x := 1) (show cdA 213 99 = some (.iload_n 2, 1, 0, 0, 0) from rfl) (List.Mem.tail _ (List.Mem.head _)) ?_
            refine z_if_eq X (t := 119) (show cdA 213 100 = some (.ifCond .eq 19, 3, 0, 0, 0) from rfl) (by decide) ⟨by omega, by omega⟩ (fun g914 => ?_) (fun g914 => ?_)
            ·
              refine z_aload_n X (x := A 179) (show cdA 213 119 = some (.aload_n 0, 1, 0, 0, 0) from rfl) (List.Mem.tail _ (List.Mem.tail _ (List.Mem.tail _ (List.Mem.head _)))) ?_
              refine s_getR X 179 (show cdA 213 120 = some (.getfield 29, 3, 12, 20, 0) from rfl) (by decide) rfl rfl ?_
              refine z_aload_n X (x := A 179) (show cdA 213 123 = some (.aload_n 0, 1, 0, 0, 0) from rfl) (List.Mem.tail _ (List.Mem.tail _ (List.Mem.tail _ (List.Mem.head _)))) ?_
              refine z_getI X 179 (show cdA 213 124 = some (.getfield 288, 3, 12, 17, 0) from rfl) (by decide) rfl rfl ?_
              have b915 : (0 : Int) ≤ iI s911 87 ∧ iI s911 87 ≤ 8 := Is911.1 87
              refine z_aload_n X (x := A 179) (show cdA 213 127 = some (.aload_n 0, 1, 0, 0, 0) from rfl) (List.Mem.tail _ (List.Mem.tail _ (List.Mem.tail _ (List.Mem.head _)))) ?_
              refine z_getI X 179 (show cdA 213 128 = some (.getfield 184, 3, 12, 4, 0) from rfl) (by decide) rfl rfl ?_
              have b916 : (0 : Int) ≤ iI s911 77 ∧ iI s911 77 ≤ 400 := Is911.1 77
              refine z_ast X 183 (show cdA 213 131 = some (.iastore, 1, 0, 0, 0) from rfl) (by decide) rfl (by omega) (show (iI s911 87) < 8 by omega) (by decide) ?_
              obtain ⟨s917, hs917⟩ : ∃ x0, x0 = uC s911 160 ((iI s911 87)).toNat (Int32.ofInt (iI s911 77)) := ⟨_, rfl⟩
              rw [← hs917]
              have Is917 : Bd s917 := by rw [hs917]; exact bd_C Is911 (show (0 : Int) ≤ (iI s911 77) ∧ (iI s911 77) ≤ 200 by omega) ⟨by omega, by omega⟩
              have Fs917 := fm_C (i := ((iI s911 87)).toNat) (x := Int32.ofInt (iI s911 77)) Gs911 (show 160 ∈ _ by decide)
              rw [← hs917] at Fs917
              have ws917_77 : iI s917 77 = iI s911 77 := by rw [hs917]; rfl
              have ws917_75 : iI s917 75 = iI s911 75 := by rw [hs917]; rfl
              have ws917_79 : iI s917 79 = iI s911 79 := by rw [hs917]; rfl
              have ws917_78 : iI s917 78 = iI s911 78 := by rw [hs917]; rfl
              have ws917_86 : iI s917 86 = iI s911 86 := by rw [hs917]; rfl
              have ws917_87 : iI s917 87 = iI s911 87 := by rw [hs917]; rfl
              have ws917_88 : iI s917 88 = iI s911 88 := by rw [hs917]; rfl
              refine z_aload_n X (x := A 179) (show cdA 213 132 = some (.aload_n 0, 1, 0, 0, 0) from rfl) (List.Mem.tail _ (List.Mem.tail _ (List.Mem.tail _ (List.Mem.head _)))) ?_
              refine w_dup X.1 (ax_d X (show cdA 213 133 = some (.dup, 1, 0, 0, 0) from rfl)) rfl ?_
              refine z_getI X 179 (show cdA 213 134 = some (.getfield 288, 3, 12, 17, 0) from rfl) (by decide) rfl rfl ?_
              have b918 : (0 : Int) ≤ iI s917 87 ∧ iI s917 87 ≤ 8 := Is917.1 87
              refine z_const X (show cdA 213 137 = some (.iconst 1, 1, 0, 0, 0) from rfl) ?_
              refine z_add X (show cdA 213 138 = some (.iadd, 1, 0, 0, 0) from rfl) ?_
              refine s_putI X 179 (show cdA 213 139 = some (.putfield 288, 3, 12, 17, 0) from rfl) (by decide) rfl rfl (by decide) rfl rfl rfl ?_
              obtain ⟨s919, hs919⟩ : ∃ x0, x0 = uI s917 87 (Int32.ofInt ((iI s917 87) + 1)) := ⟨_, rfl⟩
              rw [← hs919]
              have Is919 : Bd s919 := by rw [hs919]; exact bd_I Is917 (show (0 : Int) ≤ ((iI s917 87) + 1) ∧ ((iI s917 87) + 1) ≤ 8 by omega) ⟨by omega, by omega⟩
              have Fs919 := fm_I (x := Int32.ofInt ((iI s917 87) + 1)) Fs917 (show 87 ∈ _ by decide)
              rw [← hs919] at Fs919
              have vs919 : iI s919 87 = ((iI s917 87) + 1) := by rw [hs919]; exact iI_u ⟨by omega, by omega⟩
              have ws919_77 : iI s919 77 = iI s917 77 := by rw [hs919]; rfl
              have ws919_75 : iI s919 75 = iI s917 75 := by rw [hs919]; rfl
              have ws919_79 : iI s919 79 = iI s917 79 := by rw [hs919]; rfl
              have ws919_78 : iI s919 78 = iI s917 78 := by rw [hs919]; rfl
              have ws919_86 : iI s919 86 = iI s917 86 := by rw [hs919]; rfl
              have ws919_88 : iI s919 88 = iI s917 88 := by rw [hs919]; rfl
              refine z_aload_n X (x := A 179) (show cdA 213 142 = some (.aload_n 0, 1, 0, 0, 0) from rfl) (List.Mem.tail _ (List.Mem.tail _ (List.Mem.tail _ (List.Mem.head _)))) ?_
              refine z_callV X 179 (rm := rmN 212) (As := []) (st := []) (show cdA 213 143 = some (.invokevirtual 276, 3, 212, 0, 0) from rfl) rfl (by decide) rfl (by rw [E.1, E.2.1, E.2.2.1]; exact k_ors G Is919 (by omega) (by omega) (by omega) (by omega)) ⟨by rw [E.2.2.2]; exact (show (rmN 212).frames + 1 ≤ (rmN 213).frames by decide), by rw [E.2.2.2]; exact (show 8 + (mNL (miB 212) + 11) + (rmN 212).locals ≤ (rmN 213).locals by decide), by rw [E.2.2.2]; exact (show 0 + (rmN 212).cells ≤ (rmN 213).cells by decide), by rw [E.2.2.2]; exact (show 0 + (rmN 212).slots ≤ (rmN 213).slots by decide)⟩ (Nat.le_of_ble_eq_true rfl) (fun vv s920 hq => ?_) (fun ee s920 hq => ?_)
              rotate_left
              · obtain ⟨Is920, Fs920, e921, hv, hrs920, hps920⟩ := hq; cases hv
              obtain ⟨Is920, Fs920, e921, hv, hrs920, hps920⟩ := hq
              cases hv
              have Gs920 := fm_ts Fs919 Fs920 (by decide) (by decide)
              have b922 : (0 : Int) ≤ iI s920 77 ∧ iI s920 77 ≤ 400 := Is920.1 77
              have ws920_75 : iI s920 75 = iI s919 75 := fm_i Fs920 (by decide)
              have b923 : (0 : Int) ≤ iI s920 79 ∧ iI s920 79 ≤ 9 := Is920.1 79
              have b924 : (0 : Int) ≤ iI s920 78 ∧ iI s920 78 ≤ 8 := Is920.1 78
              have ws920_86 : iI s920 86 = iI s919 86 := fm_i Fs920 (by decide)
              have ws920_87 : iI s920 87 = iI s919 87 := fm_i Fs920 (by decide)
              have ws920_88 : iI s920 88 = iI s919 88 := fm_i Fs920 (by decide)
              show WS k 146 [(3, .int (Int32.ofInt 1)), (2, .int (Int32.ofInt 1)), (1, .int (Int32.ofInt e9)), (0, .ref (A 179))] [.int (Int32.ofInt e921)] (Wd A dT s920) 0 0
              refine w_pop X.1 (ax_d X (show cdA 213 146 = some (.pop, 1, 0, 0, 0) from rfl)) rfl ?_
              refine z_aload_n X (x := A 179) (show cdA 213 147 = some (.aload_n 0, 1, 0, 0, 0) from rfl) (List.Mem.tail _ (List.Mem.tail _ (List.Mem.tail _ (List.Mem.head _)))) ?_
              refine z_getI X 179 (show cdA 213 148 = some (.getfield 191, 3, 12, 6, 0) from rfl) (by decide) rfl rfl ?_
              have b925 : (0 : Int) ≤ iI s920 79 ∧ iI s920 79 ≤ 9 := Is920.1 79
              refine z_if_ne X (t := 160) (show cdA 213 151 = some (.ifCond .ne 9, 3, 1, 0, 0) from rfl) (by decide) ⟨by omega, by omega⟩ (fun g926 => ?_) (fun g926 => ?_)
              ·
                refine z_aload_n X (x := A 179) (show cdA 213 160 = some (.aload_n 0, 1, 0, 0, 0) from rfl) (List.Mem.tail _ (List.Mem.tail _ (List.Mem.tail _ (List.Mem.head _)))) ?_
                refine w_dup X.1 (ax_d X (show cdA 213 161 = some (.dup, 1, 0, 0, 0) from rfl)) rfl ?_
                refine z_getI X 179 (show cdA 213 162 = some (.getfield 282, 3, 12, 16, 0) from rfl) (by decide) rfl rfl ?_
                have b927 : (0 : Int) ≤ iI s920 86 ∧ iI s920 86 ≤ 8 := Is920.1 86
                refine z_const X (show cdA 213 165 = some (.iconst 1, 1, 0, 0, 0) from rfl) ?_
                refine z_add X (show cdA 213 166 = some (.iadd, 1, 0, 0, 0) from rfl) ?_
                refine s_putI X 179 (show cdA 213 167 = some (.putfield 282, 3, 12, 16, 0) from rfl) (by decide) rfl rfl (by decide) rfl rfl rfl ?_
                obtain ⟨s928, hs928⟩ : ∃ x0, x0 = uI s920 86 (Int32.ofInt ((iI s920 86) + 1)) := ⟨_, rfl⟩
                rw [← hs928]
                have Is928 : Bd s928 := by rw [hs928]; exact bd_I Is920 (show (0 : Int) ≤ ((iI s920 86) + 1) ∧ ((iI s920 86) + 1) ≤ 8 by omega) ⟨by omega, by omega⟩
                have Fs928 := fm_I (x := Int32.ofInt ((iI s920 86) + 1)) Gs920 (show 86 ∈ _ by decide)
                rw [← hs928] at Fs928
                have vs928 : iI s928 86 = ((iI s920 86) + 1) := by rw [hs928]; exact iI_u ⟨by omega, by omega⟩
                have ws928_77 : iI s928 77 = iI s920 77 := by rw [hs928]; rfl
                have ws928_75 : iI s928 75 = iI s920 75 := by rw [hs928]; rfl
                have ws928_79 : iI s928 79 = iI s920 79 := by rw [hs928]; rfl
                have ws928_78 : iI s928 78 = iI s920 78 := by rw [hs928]; rfl
                have ws928_87 : iI s928 87 = iI s920 87 := by rw [hs928]; rfl
                have ws928_88 : iI s928 88 = iI s920 88 := by rw [hs928]; rfl
                exact w_vret X.1 q hRt (ax_d X (show cdA 213 170 = some (.return_, 1, 0, 0, 0) from rfl)) (Nat.zero_le _) (Nat.zero_le _) ⟨_, rfl, Is928, Fs928, rfl, by omega⟩
              ·
                refine z_aload_n X (x := A 179) (show cdA 213 154 = some (.aload_n 0, 1, 0, 0, 0) from rfl) (List.Mem.tail _ (List.Mem.tail _ (List.Mem.tail _ (List.Mem.head _)))) ?_
                refine z_bipush X (show cdA 213 155 = some (.bipush 59, 2, 0, 0, 59) from rfl) ?_
                refine z_callV X 179 (rm := rmN 204) (As := [.int (Int32.ofInt 59)]) (st := []) (show cdA 213 157 = some (.invokevirtual 263, 3, 204, 0, 0) from rfl) rfl (by decide) rfl (by rw [E.1, E.2.1, E.2.2.1]; exact k_sign G Is920 (by omega) (by omega)) ⟨by rw [E.2.2.2]; exact (show (rmN 204).frames + 1 ≤ (rmN 213).frames by decide), by rw [E.2.2.2]; exact (show 8 + (mNL (miB 204) + 11) + (rmN 204).locals ≤ (rmN 213).locals by decide), by rw [E.2.2.2]; exact (show 0 + (rmN 204).cells ≤ (rmN 213).cells by decide), by rw [E.2.2.2]; exact (show 0 + (rmN 204).slots ≤ (rmN 213).slots by decide)⟩ (Nat.le_of_ble_eq_true rfl) (fun vv s929 hq => ?_) (fun ee s929 hq => ?_)
                rotate_left
                · obtain ⟨Is929, Fs929, hv, hps929⟩ := hq; cases hv
                obtain ⟨Is929, Fs929, hv, hps929⟩ := hq
                cases hv
                have Gs929 := fm_ts Gs920 Fs929 (by decide) (by decide)
                have b931 : (0 : Int) ≤ iI s929 77 ∧ iI s929 77 ≤ 400 := Is929.1 77
                have ws929_75 : iI s929 75 = iI s920 75 := fm_i Fs929 (by decide)
                have b932 : (0 : Int) ≤ iI s929 79 ∧ iI s929 79 ≤ 9 := Is929.1 79
                have ws929_78 : iI s929 78 = iI s920 78 := fm_i Fs929 (by decide)
                have ws929_86 : iI s929 86 = iI s920 86 := fm_i Fs929 (by decide)
                have ws929_87 : iI s929 87 = iI s920 87 := fm_i Fs929 (by decide)
                have ws929_88 : iI s929 88 = iI s920 88 := fm_i Fs929 (by decide)
                show WS k 160 [(3, .int (Int32.ofInt 1)), (2, .int (Int32.ofInt 1)), (1, .int (Int32.ofInt e9)), (0, .ref (A 179))] [] (Wd A dT s929) 0 0
                refine z_aload_n X (x := A 179) (show cdA 213 160 = some (.aload_n 0, 1, 0, 0, 0) from rfl) (List.Mem.tail _ (List.Mem.tail _ (List.Mem.tail _ (List.Mem.head _)))) ?_
                refine w_dup X.1 (ax_d X (show cdA 213 161 = some (.dup, 1, 0, 0, 0) from rfl)) rfl ?_
                refine z_getI X 179 (show cdA 213 162 = some (.getfield 282, 3, 12, 16, 0) from rfl) (by decide) rfl rfl ?_
                have b933 : (0 : Int) ≤ iI s929 86 ∧ iI s929 86 ≤ 8 := Is929.1 86
                refine z_const X (show cdA 213 165 = some (.iconst 1, 1, 0, 0, 0) from rfl) ?_
                refine z_add X (show cdA 213 166 = some (.iadd, 1, 0, 0, 0) from rfl) ?_
                refine s_putI X 179 (show cdA 213 167 = some (.putfield 282, 3, 12, 16, 0) from rfl) (by decide) rfl rfl (by decide) rfl rfl rfl ?_
                obtain ⟨s934, hs934⟩ : ∃ x0, x0 = uI s929 86 (Int32.ofInt ((iI s929 86) + 1)) := ⟨_, rfl⟩
                rw [← hs934]
                have Is934 : Bd s934 := by rw [hs934]; exact bd_I Is929 (show (0 : Int) ≤ ((iI s929 86) + 1) ∧ ((iI s929 86) + 1) ≤ 8 by omega) ⟨by omega, by omega⟩
                have Fs934 := fm_I (x := Int32.ofInt ((iI s929 86) + 1)) Gs929 (show 86 ∈ _ by decide)
                rw [← hs934] at Fs934
                have vs934 : iI s934 86 = ((iI s929 86) + 1) := by rw [hs934]; exact iI_u ⟨by omega, by omega⟩
                have ws934_77 : iI s934 77 = iI s929 77 := by rw [hs934]; rfl
                have ws934_75 : iI s934 75 = iI s929 75 := by rw [hs934]; rfl
                have ws934_79 : iI s934 79 = iI s929 79 := by rw [hs934]; rfl
                have ws934_78 : iI s934 78 = iI s929 78 := by rw [hs934]; rfl
                have ws934_87 : iI s934 87 = iI s929 87 := by rw [hs934]; rfl
                have ws934_88 : iI s934 88 = iI s929 88 := by rw [hs934]; rfl
                exact w_vret X.1 q hRt (ax_d X (show cdA 213 170 = some (.return_, 1, 0, 0, 0) from rfl)) (Nat.zero_le _) (Nat.zero_le _) ⟨_, rfl, Is934, Fs934, rfl, by omega⟩
            ·
              refine z_aload_n X (x := A 179) (show cdA 213 103 = some (.aload_n 0, 1, 0, 0, 0) from rfl) (List.Mem.tail _ (List.Mem.tail _ (List.Mem.tail _ (List.Mem.head _)))) ?_
              refine z_aload_n X (x := A 179) (show cdA 213 104 = some (.aload_n 0, 1, 0, 0, 0) from rfl) (List.Mem.tail _ (List.Mem.tail _ (List.Mem.tail _ (List.Mem.head _)))) ?_
              refine z_getI X 179 (show cdA 213 105 = some (.getfield 184, 3, 12, 4, 0) from rfl) (by decide) rfl rfl ?_
              have b935 : (0 : Int) ≤ iI s911 77 ∧ iI s911 77 ≤ 400 := Is911.1 77
              refine s_putI X 179 (show cdA 213 108 = some (.putfield 285, 3, 12, 18, 0) from rfl) (by decide) rfl rfl (by decide) rfl rfl rfl ?_
              obtain ⟨s936, hs936⟩ : ∃ x0, x0 = uI s911 88 (Int32.ofInt (iI s911 77)) := ⟨_, rfl⟩
              rw [← hs936]
              have Is936 : Bd s936 := by rw [hs936]; exact bd_I Is911 (show ((-1) : Int) ≤ (iI s911 77) ∧ (iI s911 77) ≤ 200 by omega) ⟨by omega, by omega⟩
              have Fs936 := fm_I (x := Int32.ofInt (iI s911 77)) Gs911 (show 88 ∈ _ by decide)
              rw [← hs936] at Fs936
              have vs936 : iI s936 88 = (iI s911 77) := by rw [hs936]; exact iI_u ⟨by omega, by omega⟩
              have ws936_77 : iI s936 77 = iI s911 77 := by rw [hs936]; rfl
              have ws936_75 : iI s936 75 = iI s911 75 := by rw [hs936]; rfl
              have ws936_79 : iI s936 79 = iI s911 79 := by rw [hs936]; rfl
              have ws936_78 : iI s936 78 = iI s911 78 := by rw [hs936]; rfl
              have ws936_86 : iI s936 86 = iI s911 86 := by rw [hs936]; rfl
              have ws936_87 : iI s936 87 = iI s911 87 := by rw [hs936]; rfl
              refine z_aload_n X (x := A 179) (show cdA 213 111 = some (.aload_n 0, 1, 0, 0, 0) from rfl) (List.Mem.tail _ (List.Mem.tail _ (List.Mem.tail _ (List.Mem.head _)))) ?_
              refine z_callV X 179 (rm := rmN 209) (As := []) (st := []) (show cdA 213 112 = some (.invokevirtual 260, 3, 209, 0, 0) from rfl) rfl (by decide) rfl (by rw [E.1, E.2.1, E.2.2.1]; exact k_sum G Is936 (by omega) (by omega) (by omega)) ⟨by rw [E.2.2.2]; exact (show (rmN 209).frames + 1 ≤ (rmN 213).frames by decide), by rw [E.2.2.2]; exact (show 8 + (mNL (miB 209) + 11) + (rmN 209).locals ≤ (rmN 213).locals by decide), by rw [E.2.2.2]; exact (show 0 + (rmN 209).cells ≤ (rmN 213).cells by decide), by rw [E.2.2.2]; exact (show 0 + (rmN 209).slots ≤ (rmN 213).slots by decide)⟩ (Nat.le_of_ble_eq_true rfl) (fun vv s937 hq => ?_) (fun ee s937 hq => ?_)
              rotate_left
              · obtain ⟨Is937, Fs937, e938, hv, hrs937, hps937⟩ := hq; cases hv
              obtain ⟨Is937, Fs937, e938, hv, hrs937, hps937⟩ := hq
              cases hv
              have Gs937 := fm_ts Fs936 Fs937 (by decide) (by decide)
              have b939 : (0 : Int) ≤ iI s937 77 ∧ iI s937 77 ≤ 400 := Is937.1 77
              have ws937_75 : iI s937 75 = iI s936 75 := fm_i Fs937 (by decide)
              have b940 : (0 : Int) ≤ iI s937 79 ∧ iI s937 79 ≤ 9 := Is937.1 79
              have b941 : (0 : Int) ≤ iI s937 78 ∧ iI s937 78 ≤ 8 := Is937.1 78
              have ws937_86 : iI s937 86 = iI s936 86 := fm_i Fs937 (by decide)
              have ws937_87 : iI s937 87 = iI s936 87 := fm_i Fs937 (by decide)
              have ws937_88 : iI s937 88 = iI s936 88 := fm_i Fs937 (by decide)
              show WS k 115 [(3, .int (Int32.ofInt 1)), (2, .int (Int32.ofInt 1)), (1, .int (Int32.ofInt e9)), (0, .ref (A 179))] [.int (Int32.ofInt e938)] (Wd A dT s937) 0 0
              refine w_pop X.1 (ax_d X (show cdA 213 115 = some (.pop, 1, 0, 0, 0) from rfl)) rfl ?_
              refine z_goto X (t := 147) (show cdA 213 116 = some (.goto 31, 3, 0, 0, 0) from rfl) (by decide) ?_
              refine z_aload_n X (x := A 179) (show cdA 213 147 = some (.aload_n 0, 1, 0, 0, 0) from rfl) (List.Mem.tail _ (List.Mem.tail _ (List.Mem.tail _ (List.Mem.head _)))) ?_
              refine z_getI X 179 (show cdA 213 148 = some (.getfield 191, 3, 12, 6, 0) from rfl) (by decide) rfl rfl ?_
              have b942 : (0 : Int) ≤ iI s937 79 ∧ iI s937 79 ≤ 9 := Is937.1 79
              refine z_if_ne X (t := 160) (show cdA 213 151 = some (.ifCond .ne 9, 3, 1, 0, 0) from rfl) (by decide) ⟨by omega, by omega⟩ (fun g943 => ?_) (fun g943 => ?_)
              ·
                refine z_aload_n X (x := A 179) (show cdA 213 160 = some (.aload_n 0, 1, 0, 0, 0) from rfl) (List.Mem.tail _ (List.Mem.tail _ (List.Mem.tail _ (List.Mem.head _)))) ?_
                refine w_dup X.1 (ax_d X (show cdA 213 161 = some (.dup, 1, 0, 0, 0) from rfl)) rfl ?_
                refine z_getI X 179 (show cdA 213 162 = some (.getfield 282, 3, 12, 16, 0) from rfl) (by decide) rfl rfl ?_
                have b944 : (0 : Int) ≤ iI s937 86 ∧ iI s937 86 ≤ 8 := Is937.1 86
                refine z_const X (show cdA 213 165 = some (.iconst 1, 1, 0, 0, 0) from rfl) ?_
                refine z_add X (show cdA 213 166 = some (.iadd, 1, 0, 0, 0) from rfl) ?_
                refine s_putI X 179 (show cdA 213 167 = some (.putfield 282, 3, 12, 16, 0) from rfl) (by decide) rfl rfl (by decide) rfl rfl rfl ?_
                obtain ⟨s945, hs945⟩ : ∃ x0, x0 = uI s937 86 (Int32.ofInt ((iI s937 86) + 1)) := ⟨_, rfl⟩
                rw [← hs945]
                have Is945 : Bd s945 := by rw [hs945]; exact bd_I Is937 (show (0 : Int) ≤ ((iI s937 86) + 1) ∧ ((iI s937 86) + 1) ≤ 8 by omega) ⟨by omega, by omega⟩
                have Fs945 := fm_I (x := Int32.ofInt ((iI s937 86) + 1)) Gs937 (show 86 ∈ _ by decide)
                rw [← hs945] at Fs945
                have vs945 : iI s945 86 = ((iI s937 86) + 1) := by rw [hs945]; exact iI_u ⟨by omega, by omega⟩
                have ws945_77 : iI s945 77 = iI s937 77 := by rw [hs945]; rfl
                have ws945_75 : iI s945 75 = iI s937 75 := by rw [hs945]; rfl
                have ws945_79 : iI s945 79 = iI s937 79 := by rw [hs945]; rfl
                have ws945_78 : iI s945 78 = iI s937 78 := by rw [hs945]; rfl
                have ws945_87 : iI s945 87 = iI s937 87 := by rw [hs945]; rfl
                have ws945_88 : iI s945 88 = iI s937 88 := by rw [hs945]; rfl
                exact w_vret X.1 q hRt (ax_d X (show cdA 213 170 = some (.return_, 1, 0, 0, 0) from rfl)) (Nat.zero_le _) (Nat.zero_le _) ⟨_, rfl, Is945, Fs945, rfl, by omega⟩
              ·
                refine z_aload_n X (x := A 179) (show cdA 213 154 = some (.aload_n 0, 1, 0, 0, 0) from rfl) (List.Mem.tail _ (List.Mem.tail _ (List.Mem.tail _ (List.Mem.head _)))) ?_
                refine z_bipush X (show cdA 213 155 = some (.bipush 59, 2, 0, 0, 59) from rfl) ?_
                refine z_callV X 179 (rm := rmN 204) (As := [.int (Int32.ofInt 59)]) (st := []) (show cdA 213 157 = some (.invokevirtual 263, 3, 204, 0, 0) from rfl) rfl (by decide) rfl (by rw [E.1, E.2.1, E.2.2.1]; exact k_sign G Is937 (by omega) (by omega)) ⟨by rw [E.2.2.2]; exact (show (rmN 204).frames + 1 ≤ (rmN 213).frames by decide), by rw [E.2.2.2]; exact (show 8 + (mNL (miB 204) + 11) + (rmN 204).locals ≤ (rmN 213).locals by decide), by rw [E.2.2.2]; exact (show 0 + (rmN 204).cells ≤ (rmN 213).cells by decide), by rw [E.2.2.2]; exact (show 0 + (rmN 204).slots ≤ (rmN 213).slots by decide)⟩ (Nat.le_of_ble_eq_true rfl) (fun vv s946 hq => ?_) (fun ee s946 hq => ?_)
                rotate_left
                · obtain ⟨Is946, Fs946, hv, hps946⟩ := hq; cases hv
                obtain ⟨Is946, Fs946, hv, hps946⟩ := hq
                cases hv
                have Gs946 := fm_ts Gs937 Fs946 (by decide) (by decide)
                have b948 : (0 : Int) ≤ iI s946 77 ∧ iI s946 77 ≤ 400 := Is946.1 77
                have ws946_75 : iI s946 75 = iI s937 75 := fm_i Fs946 (by decide)
                have b949 : (0 : Int) ≤ iI s946 79 ∧ iI s946 79 ≤ 9 := Is946.1 79
                have ws946_78 : iI s946 78 = iI s937 78 := fm_i Fs946 (by decide)
                have ws946_86 : iI s946 86 = iI s937 86 := fm_i Fs946 (by decide)
                have ws946_87 : iI s946 87 = iI s937 87 := fm_i Fs946 (by decide)
                have ws946_88 : iI s946 88 = iI s937 88 := fm_i Fs946 (by decide)
                show WS k 160 [(3, .int (Int32.ofInt 1)), (2, .int (Int32.ofInt 1)), (1, .int (Int32.ofInt e9)), (0, .ref (A 179))] [] (Wd A dT s946) 0 0
                refine z_aload_n X (x := A 179) (show cdA 213 160 = some (.aload_n 0, 1, 0, 0, 0) from rfl) (List.Mem.tail _ (List.Mem.tail _ (List.Mem.tail _ (List.Mem.head _)))) ?_
                refine w_dup X.1 (ax_d X (show cdA 213 161 = some (.dup, 1, 0, 0, 0) from rfl)) rfl ?_
                refine z_getI X 179 (show cdA 213 162 = some (.getfield 282, 3, 12, 16, 0) from rfl) (by decide) rfl rfl ?_
                have b950 : (0 : Int) ≤ iI s946 86 ∧ iI s946 86 ≤ 8 := Is946.1 86
                refine z_const X (show cdA 213 165 = some (.iconst 1, 1, 0, 0, 0) from rfl) ?_
                refine z_add X (show cdA 213 166 = some (.iadd, 1, 0, 0, 0) from rfl) ?_
                refine s_putI X 179 (show cdA 213 167 = some (.putfield 282, 3, 12, 16, 0) from rfl) (by decide) rfl rfl (by decide) rfl rfl rfl ?_
                obtain ⟨s951, hs951⟩ : ∃ x0, x0 = uI s946 86 (Int32.ofInt ((iI s946 86) + 1)) := ⟨_, rfl⟩
                rw [← hs951]
                have Is951 : Bd s951 := by rw [hs951]; exact bd_I Is946 (show (0 : Int) ≤ ((iI s946 86) + 1) ∧ ((iI s946 86) + 1) ≤ 8 by omega) ⟨by omega, by omega⟩
                have Fs951 := fm_I (x := Int32.ofInt ((iI s946 86) + 1)) Gs946 (show 86 ∈ _ by decide)
                rw [← hs951] at Fs951
                have vs951 : iI s951 86 = ((iI s946 86) + 1) := by rw [hs951]; exact iI_u ⟨by omega, by omega⟩
                have ws951_77 : iI s951 77 = iI s946 77 := by rw [hs951]; rfl
                have ws951_75 : iI s951 75 = iI s946 75 := by rw [hs951]; rfl
                have ws951_79 : iI s951 79 = iI s946 79 := by rw [hs951]; rfl
                have ws951_78 : iI s951 78 = iI s946 78 := by rw [hs951]; rfl
                have ws951_87 : iI s951 87 = iI s946 87 := by rw [hs951]; rfl
                have ws951_88 : iI s951 88 = iI s946 88 := by rw [hs951]; rfl
                exact w_vret X.1 q hRt (ax_d X (show cdA 213 170 = some (.return_, 1, 0, 0, 0) from rfl)) (Nat.zero_le _) (Nat.zero_le _) ⟨_, rfl, Is951, Fs951, rfl, by omega⟩
          ·
            exact w_vret X.1 q hRt (ax_d X (show cdA 213 94 = some (.return_, 1, 0, 0, 0) from rfl)) (Nat.zero_le _) (Nat.zero_le _) ⟨_, rfl, Is906, Gs906, rfl, by omega⟩
theorem k_rules (G : GX l s0 D tys a0 dT) (I : Bd s) {x : Int} (p0 : rng x) : CT l s0 D A dT 214 (rmN 214) [.ref (A 179), .int (Int32.ofInt x)] s (fun o t => Bd t ∧ Fm [73, 74, 76, 82, 83, 84, 85, 77, 75, 78, 79, 80, 81, 86, 87, 88] [160, 159, 158] s t ∧ ∃ e, o = .inl (some (.int (Int32.ofInt e))) ∧ rng e ∧ ((0 ≤ x ∧ x ≤ iI s 74 ∧ iI t 74 = 0) ∨ ((x < 0 ∨ iI s 74 < x) ∧ iI t 74 = iI s 74))) := by
  refine ct_of G (by decide) (Nat.le_of_ble_eq_true rfl) (fun k X E hRt hXt q => ?_)
  show WS k 0 [(0, .ref (A 179)), (1, .int (Int32.ofInt x))] [] _ 0 0
  have F : Fm [73, 74, 76, 82, 83, 84, 85, 77, 75, 78, 79, 80, 81, 86, 87, 88] [160, 159, 158] s s := fm_rf _ _ s
  have b1 : (0 : Int) ≤ iI s 73 ∧ iI s 73 ≤ 3 := I.1 73
  have b2 : (0 : Int) ≤ iI s 74 ∧ iI s 74 ≤ 200 := I.1 74
  have b3 : (0 : Int) ≤ iI s 77 ∧ iI s 77 ≤ 400 := I.1 77
  have b4 : (0 : Int) ≤ iI s 75 ∧ iI s 75 ≤ 200 := I.1 75
  have b5 : (0 : Int) ≤ iI s 79 ∧ iI s 79 ≤ 9 := I.1 79
  have b6 : (0 : Int) ≤ iI s 78 ∧ iI s 78 ≤ 8 := I.1 78
  have b7 : (0 : Int) ≤ iI s 86 ∧ iI s 86 ≤ 8 := I.1 86
  have b8 : (0 : Int) ≤ iI s 87 ∧ iI s 87 ≤ 8 := I.1 87
  have b9 : ((-1) : Int) ≤ iI s 88 ∧ iI s 88 ≤ 200 := I.1 88
  have L61 : ∀ (n : Nat) (t : PS) (xv : Int), Bd t → Fm [73, 74, 76, 82, 83, 84, 85, 77, 75, 78, 79, 80, 81, 86, 87, 88] [160, 159, 158] s t → (xv = x ∧ (0 ≤ x ∧ x ≤ iI s 74) ∧ iI t 74 = 0 ∧ iI t 75 = x ∧ iI t 78 = 0 ∧ iI t 77 ≤ 203 ∧ (iI t 79 = 0 → iI t 77 ≤ iI t 75) ∧ iI t 87 ≤ iI t 86) → 400 - iI t 77 + (9 - iI t 79) ≤ n → (∀ (t' : PS), Bd t' → Fm [73, 74, 76, 82, 83, 84, 85, 77, 75, 78, 79, 80, 81, 86, 87, 88] [160, 159, 158] s t' → (xv = x ∧ (0 ≤ x ∧ x ≤ iI s 74) ∧ iI t' 74 = 0 ∧ iI t' 75 = x ∧ iI t' 78 = 0 ∧ iI t' 77 ≤ 203 ∧ (iI t' 79 = 0 → iI t' 77 ≤ iI t' 75) ∧ iI t' 87 ≤ iI t' 86) → WS k 90 [(0, .ref (A 179)), (1, .int (Int32.ofInt xv))] [] (Wd A dT t') 0 0) → WS k 61 [(0, .ref (A 179)), (1, .int (Int32.ofInt xv))] [] (Wd A dT t) 0 0 := by
    intro n
    induction n with
    | zero =>
      intro t xv I F hi hm kx
      have b1001 : (0 : Int) ≤ iI t 73 ∧ iI t 73 ≤ 3 := I.1 73
      have b1002 : (0 : Int) ≤ iI t 74 ∧ iI t 74 ≤ 200 := I.1 74
      have b1003 : (0 : Int) ≤ iI t 77 ∧ iI t 77 ≤ 400 := I.1 77
      have b1004 : (0 : Int) ≤ iI t 75 ∧ iI t 75 ≤ 200 := I.1 75
      have b1005 : (0 : Int) ≤ iI t 79 ∧ iI t 79 ≤ 9 := I.1 79
      have b1006 : (0 : Int) ≤ iI t 78 ∧ iI t 78 ≤ 8 := I.1 78
      have b1007 : (0 : Int) ≤ iI t 86 ∧ iI t 86 ≤ 8 := I.1 86
      have b1008 : (0 : Int) ≤ iI t 87 ∧ iI t 87 ≤ 8 := I.1 87
      have b1009 : ((-1) : Int) ≤ iI t 88 ∧ iI t 88 ≤ 200 := I.1 88
      refine z_aload_n X (x := A 179) (show cdA 214 61 = some (.aload_n 0, 1, 0, 0, 0) from rfl) (List.Mem.head _) ?_
      refine z_getI X 179 (show cdA 214 62 = some (.getfield 191, 3, 12, 6, 0) from rfl) (by decide) rfl rfl ?_
      have b1010 : (0 : Int) ≤ iI t 79 ∧ iI t 79 ≤ 9 := I.1 79
      refine z_if_ne X (t := 90) (show cdA 214 65 = some (.ifCond .ne 25, 3, 1, 0, 0) from rfl) (by decide) ⟨by omega, by omega⟩ (fun g1011 => ?_) (fun g1011 => ?_)
      ·
        refine WS_lv (lv := [(0, .ref (A 179)), (1, .int (Int32.ofInt xv))]) (List.forall_mem_cons.mpr ⟨(List.Mem.head _), (List.forall_mem_cons.mpr ⟨(List.Mem.tail _ (List.Mem.head _)), (fun q h => absurd h List.not_mem_nil)⟩)⟩) ?_
        exact kx _  I F (by omega)
      ·
        refine z_aload_n X (x := A 179) (show cdA 214 68 = some (.aload_n 0, 1, 0, 0, 0) from rfl) (List.Mem.head _) ?_
        refine z_getI X 179 (show cdA 214 69 = some (.getfield 184, 3, 12, 4, 0) from rfl) (by decide) rfl rfl ?_
        have b1012 : (0 : Int) ≤ iI t 77 ∧ iI t 77 ≤ 400 := I.1 77
        refine z_aload_n X (x := A 179) (show cdA 214 72 = some (.aload_n 0, 1, 0, 0, 0) from rfl) (List.Mem.head _) ?_
        refine z_getI X 179 (show cdA 214 73 = some (.getfield 178, 3, 12, 2, 0) from rfl) (by decide) rfl rfl ?_
        have b1013 : (0 : Int) ≤ iI t 75 ∧ iI t 75 ≤ 200 := I.1 75
        refine z_icmp_ge X (t := 90) (show cdA 214 76 = some (.if_icmp .ge 14, 3, 3, 0, 0) from rfl) (by decide) ⟨by omega, by omega⟩ ⟨by omega, by omega⟩ (fun g1014 => ?_) (fun g1014 => ?_)
        ·
          refine WS_lv (lv := [(0, .ref (A 179)), (1, .int (Int32.ofInt xv))]) (List.forall_mem_cons.mpr ⟨(List.Mem.head _), (List.forall_mem_cons.mpr ⟨(List.Mem.tail _ (List.Mem.head _)), (fun q h => absurd h List.not_mem_nil)⟩)⟩) ?_
          exact kx _  I F (by omega)
        ·
          refine z_aload_n X (x := A 179) (show cdA 214 79 = some (.aload_n 0, 1, 0, 0, 0) from rfl) (List.Mem.head _) ?_
          refine z_callV X 179 (rm := rmN 213) (As := []) (st := []) (show cdA 214 80 = some (.invokevirtual 291, 3, 213, 0, 0) from rfl) rfl (by decide) rfl (by rw [E.1, E.2.1, E.2.2.1]; exact k_clause G I (by omega) (by omega) (by omega) (by omega)) ⟨by rw [E.2.2.2]; exact (show (rmN 213).frames + 1 ≤ (rmN 214).frames by decide), by rw [E.2.2.2]; exact (show 8 + (mNL (miB 213) + 11) + (rmN 213).locals ≤ (rmN 214).locals by decide), by rw [E.2.2.2]; exact (show 0 + (rmN 213).cells ≤ (rmN 214).cells by decide), by rw [E.2.2.2]; exact (show 0 + (rmN 213).slots ≤ (rmN 214).slots by decide)⟩ (Nat.le_of_ble_eq_true rfl) (fun vv s1015 hq => ?_) (fun ee s1015 hq => ?_)
          rotate_left
          · obtain ⟨Is1015, Fs1015, hv, hps1015⟩ := hq; cases hv
          obtain ⟨Is1015, Fs1015, hv, hps1015⟩ := hq
          cases hv
          have Gs1015 := fm_ts F Fs1015 (by decide) (by decide)
          have ws1015_73 : iI s1015 73 = iI t 73 := fm_i Fs1015 (by decide)
          have ws1015_74 : iI s1015 74 = iI t 74 := fm_i Fs1015 (by decide)
          have b1017 : (0 : Int) ≤ iI s1015 77 ∧ iI s1015 77 ≤ 400 := Is1015.1 77
          have ws1015_75 : iI s1015 75 = iI t 75 := fm_i Fs1015 (by decide)
          have b1018 : (0 : Int) ≤ iI s1015 79 ∧ iI s1015 79 ≤ 9 := Is1015.1 79
          have b1019 : (0 : Int) ≤ iI s1015 78 ∧ iI s1015 78 ≤ 8 := Is1015.1 78
          have b1020 : (0 : Int) ≤ iI s1015 86 ∧ iI s1015 86 ≤ 8 := Is1015.1 86
          have b1021 : (0 : Int) ≤ iI s1015 87 ∧ iI s1015 87 ≤ 8 := Is1015.1 87
          have b1022 : ((-1) : Int) ≤ iI s1015 88 ∧ iI s1015 88 ≤ 200 := Is1015.1 88
          show WS k 83 [(0, .ref (A 179)), (1, .int (Int32.ofInt xv))] [] (Wd A dT s1015) 0 0
          refine z_aload_n X (x := A 179) (show cdA 214 83 = some (.aload_n 0, 1, 0, 0, 0) from rfl) (List.Mem.head _) ?_
          refine z_callV X 179 (rm := rmN 193) (As := []) (st := []) (show cdA 214 84 = some (.invokevirtual 197, 3, 193, 0, 0) from rfl) rfl (by decide) rfl (by rw [E.1, E.2.1, E.2.2.1]; exact k_blanks G Is1015 (by omega)) ⟨by rw [E.2.2.2]; exact (show (rmN 193).frames + 1 ≤ (rmN 214).frames by decide), by rw [E.2.2.2]; exact (show 8 + (mNL (miB 193) + 11) + (rmN 193).locals ≤ (rmN 214).locals by decide), by rw [E.2.2.2]; exact (show 0 + (rmN 193).cells ≤ (rmN 214).cells by decide), by rw [E.2.2.2]; exact (show 0 + (rmN 193).slots ≤ (rmN 214).slots by decide)⟩ (Nat.le_of_ble_eq_true rfl) (fun vv s1023 hq => ?_) (fun ee s1023 hq => ?_)
          rotate_left
          · obtain ⟨Is1023, Fs1023, hv, hps1023⟩ := hq; cases hv
          obtain ⟨Is1023, Fs1023, hv, hps1023⟩ := hq
          cases hv
          have Gs1023 := fm_ts Gs1015 Fs1023 (by decide) (by decide)
          have ws1023_73 : iI s1023 73 = iI s1015 73 := fm_i Fs1023 (by decide)
          have ws1023_74 : iI s1023 74 = iI s1015 74 := fm_i Fs1023 (by decide)
          have b1025 : (0 : Int) ≤ iI s1023 77 ∧ iI s1023 77 ≤ 400 := Is1023.1 77
          have ws1023_75 : iI s1023 75 = iI s1015 75 := fm_i Fs1023 (by decide)
          have ws1023_79 : iI s1023 79 = iI s1015 79 := fm_i Fs1023 (by decide)
          have ws1023_78 : iI s1023 78 = iI s1015 78 := fm_i Fs1023 (by decide)
          have ws1023_86 : iI s1023 86 = iI s1015 86 := fm_i Fs1023 (by decide)
          have ws1023_87 : iI s1023 87 = iI s1015 87 := fm_i Fs1023 (by decide)
          have ws1023_88 : iI s1023 88 = iI s1015 88 := fm_i Fs1023 (by decide)
          show WS k 87 [(0, .ref (A 179)), (1, .int (Int32.ofInt xv))] [] (Wd A dT s1023) 0 0
          refine z_goto X (t := 61) (show cdA 214 87 = some (.goto (-26), 3, 0, 0, 0) from rfl) (by decide) ?_
          exfalso
          omega
    | succ n ih =>
      intro t xv I F hi hm kx
      have b1001 : (0 : Int) ≤ iI t 73 ∧ iI t 73 ≤ 3 := I.1 73
      have b1002 : (0 : Int) ≤ iI t 74 ∧ iI t 74 ≤ 200 := I.1 74
      have b1003 : (0 : Int) ≤ iI t 77 ∧ iI t 77 ≤ 400 := I.1 77
      have b1004 : (0 : Int) ≤ iI t 75 ∧ iI t 75 ≤ 200 := I.1 75
      have b1005 : (0 : Int) ≤ iI t 79 ∧ iI t 79 ≤ 9 := I.1 79
      have b1006 : (0 : Int) ≤ iI t 78 ∧ iI t 78 ≤ 8 := I.1 78
      have b1007 : (0 : Int) ≤ iI t 86 ∧ iI t 86 ≤ 8 := I.1 86
      have b1008 : (0 : Int) ≤ iI t 87 ∧ iI t 87 ≤ 8 := I.1 87
      have b1009 : ((-1) : Int) ≤ iI t 88 ∧ iI t 88 ≤ 200 := I.1 88
      refine z_aload_n X (x := A 179) (show cdA 214 61 = some (.aload_n 0, 1, 0, 0, 0) from rfl) (List.Mem.head _) ?_
      refine z_getI X 179 (show cdA 214 62 = some (.getfield 191, 3, 12, 6, 0) from rfl) (by decide) rfl rfl ?_
      have b1010 : (0 : Int) ≤ iI t 79 ∧ iI t 79 ≤ 9 := I.1 79
      refine z_if_ne X (t := 90) (show cdA 214 65 = some (.ifCond .ne 25, 3, 1, 0, 0) from rfl) (by decide) ⟨by omega, by omega⟩ (fun g1011 => ?_) (fun g1011 => ?_)
      ·
        refine WS_lv (lv := [(0, .ref (A 179)), (1, .int (Int32.ofInt xv))]) (List.forall_mem_cons.mpr ⟨(List.Mem.head _), (List.forall_mem_cons.mpr ⟨(List.Mem.tail _ (List.Mem.head _)), (fun q h => absurd h List.not_mem_nil)⟩)⟩) ?_
        exact kx _  I F (by omega)
      ·
        refine z_aload_n X (x := A 179) (show cdA 214 68 = some (.aload_n 0, 1, 0, 0, 0) from rfl) (List.Mem.head _) ?_
        refine z_getI X 179 (show cdA 214 69 = some (.getfield 184, 3, 12, 4, 0) from rfl) (by decide) rfl rfl ?_
        have b1012 : (0 : Int) ≤ iI t 77 ∧ iI t 77 ≤ 400 := I.1 77
        refine z_aload_n X (x := A 179) (show cdA 214 72 = some (.aload_n 0, 1, 0, 0, 0) from rfl) (List.Mem.head _) ?_
        refine z_getI X 179 (show cdA 214 73 = some (.getfield 178, 3, 12, 2, 0) from rfl) (by decide) rfl rfl ?_
        have b1013 : (0 : Int) ≤ iI t 75 ∧ iI t 75 ≤ 200 := I.1 75
        refine z_icmp_ge X (t := 90) (show cdA 214 76 = some (.if_icmp .ge 14, 3, 3, 0, 0) from rfl) (by decide) ⟨by omega, by omega⟩ ⟨by omega, by omega⟩ (fun g1014 => ?_) (fun g1014 => ?_)
        ·
          refine WS_lv (lv := [(0, .ref (A 179)), (1, .int (Int32.ofInt xv))]) (List.forall_mem_cons.mpr ⟨(List.Mem.head _), (List.forall_mem_cons.mpr ⟨(List.Mem.tail _ (List.Mem.head _)), (fun q h => absurd h List.not_mem_nil)⟩)⟩) ?_
          exact kx _  I F (by omega)
        ·
          refine z_aload_n X (x := A 179) (show cdA 214 79 = some (.aload_n 0, 1, 0, 0, 0) from rfl) (List.Mem.head _) ?_
          refine z_callV X 179 (rm := rmN 213) (As := []) (st := []) (show cdA 214 80 = some (.invokevirtual 291, 3, 213, 0, 0) from rfl) rfl (by decide) rfl (by rw [E.1, E.2.1, E.2.2.1]; exact k_clause G I (by omega) (by omega) (by omega) (by omega)) ⟨by rw [E.2.2.2]; exact (show (rmN 213).frames + 1 ≤ (rmN 214).frames by decide), by rw [E.2.2.2]; exact (show 8 + (mNL (miB 213) + 11) + (rmN 213).locals ≤ (rmN 214).locals by decide), by rw [E.2.2.2]; exact (show 0 + (rmN 213).cells ≤ (rmN 214).cells by decide), by rw [E.2.2.2]; exact (show 0 + (rmN 213).slots ≤ (rmN 214).slots by decide)⟩ (Nat.le_of_ble_eq_true rfl) (fun vv s1015 hq => ?_) (fun ee s1015 hq => ?_)
          rotate_left
          · obtain ⟨Is1015, Fs1015, hv, hps1015⟩ := hq; cases hv
          obtain ⟨Is1015, Fs1015, hv, hps1015⟩ := hq
          cases hv
          have Gs1015 := fm_ts F Fs1015 (by decide) (by decide)
          have ws1015_73 : iI s1015 73 = iI t 73 := fm_i Fs1015 (by decide)
          have ws1015_74 : iI s1015 74 = iI t 74 := fm_i Fs1015 (by decide)
          have b1017 : (0 : Int) ≤ iI s1015 77 ∧ iI s1015 77 ≤ 400 := Is1015.1 77
          have ws1015_75 : iI s1015 75 = iI t 75 := fm_i Fs1015 (by decide)
          have b1018 : (0 : Int) ≤ iI s1015 79 ∧ iI s1015 79 ≤ 9 := Is1015.1 79
          have b1019 : (0 : Int) ≤ iI s1015 78 ∧ iI s1015 78 ≤ 8 := Is1015.1 78
          have b1020 : (0 : Int) ≤ iI s1015 86 ∧ iI s1015 86 ≤ 8 := Is1015.1 86
          have b1021 : (0 : Int) ≤ iI s1015 87 ∧ iI s1015 87 ≤ 8 := Is1015.1 87
          have b1022 : ((-1) : Int) ≤ iI s1015 88 ∧ iI s1015 88 ≤ 200 := Is1015.1 88
          show WS k 83 [(0, .ref (A 179)), (1, .int (Int32.ofInt xv))] [] (Wd A dT s1015) 0 0
          refine z_aload_n X (x := A 179) (show cdA 214 83 = some (.aload_n 0, 1, 0, 0, 0) from rfl) (List.Mem.head _) ?_
          refine z_callV X 179 (rm := rmN 193) (As := []) (st := []) (show cdA 214 84 = some (.invokevirtual 197, 3, 193, 0, 0) from rfl) rfl (by decide) rfl (by rw [E.1, E.2.1, E.2.2.1]; exact k_blanks G Is1015 (by omega)) ⟨by rw [E.2.2.2]; exact (show (rmN 193).frames + 1 ≤ (rmN 214).frames by decide), by rw [E.2.2.2]; exact (show 8 + (mNL (miB 193) + 11) + (rmN 193).locals ≤ (rmN 214).locals by decide), by rw [E.2.2.2]; exact (show 0 + (rmN 193).cells ≤ (rmN 214).cells by decide), by rw [E.2.2.2]; exact (show 0 + (rmN 193).slots ≤ (rmN 214).slots by decide)⟩ (Nat.le_of_ble_eq_true rfl) (fun vv s1023 hq => ?_) (fun ee s1023 hq => ?_)
          rotate_left
          · obtain ⟨Is1023, Fs1023, hv, hps1023⟩ := hq; cases hv
          obtain ⟨Is1023, Fs1023, hv, hps1023⟩ := hq
          cases hv
          have Gs1023 := fm_ts Gs1015 Fs1023 (by decide) (by decide)
          have ws1023_73 : iI s1023 73 = iI s1015 73 := fm_i Fs1023 (by decide)
          have ws1023_74 : iI s1023 74 = iI s1015 74 := fm_i Fs1023 (by decide)
          have b1025 : (0 : Int) ≤ iI s1023 77 ∧ iI s1023 77 ≤ 400 := Is1023.1 77
          have ws1023_75 : iI s1023 75 = iI s1015 75 := fm_i Fs1023 (by decide)
          have ws1023_79 : iI s1023 79 = iI s1015 79 := fm_i Fs1023 (by decide)
          have ws1023_78 : iI s1023 78 = iI s1015 78 := fm_i Fs1023 (by decide)
          have ws1023_86 : iI s1023 86 = iI s1015 86 := fm_i Fs1023 (by decide)
          have ws1023_87 : iI s1023 87 = iI s1015 87 := fm_i Fs1023 (by decide)
          have ws1023_88 : iI s1023 88 = iI s1015 88 := fm_i Fs1023 (by decide)
          show WS k 87 [(0, .ref (A 179)), (1, .int (Int32.ofInt xv))] [] (Wd A dT s1023) 0 0
          refine z_goto X (t := 61) (show cdA 214 87 = some (.goto (-26), 3, 0, 0, 0) from rfl) (by decide) ?_
          refine WS_lv (lv := [(0, .ref (A 179)), (1, .int (Int32.ofInt xv))]) (List.forall_mem_cons.mpr ⟨(List.Mem.head _), (List.forall_mem_cons.mpr ⟨(List.Mem.tail _ (List.Mem.head _)), (fun q h => absurd h List.not_mem_nil)⟩)⟩) ?_
          exact ih _ xv Is1023 Gs1023 (by omega) (by omega) kx
  have L115 : ∀ (n : Nat) (t : PS) (xv c : Int), Bd t → Fm [73, 74, 76, 82, 83, 84, 85, 77, 75, 78, 79, 80, 81, 86, 87, 88] [160, 159, 158] s t → (xv = x ∧ (0 ≤ x ∧ x ≤ iI s 74) ∧ iI t 74 = 0 ∧ 0 ≤ c ∧ c ≤ 200 ∧ iI t 87 ≤ iI t 86 ∧ iI t 75 ≤ 200) → 200 - c ≤ n → (∀ (t' : PS) (c' : Int), Bd t' → Fm [73, 74, 76, 82, 83, 84, 85, 77, 75, 78, 79, 80, 81, 86, 87, 88] [160, 159, 158] s t' → (xv = x ∧ (0 ≤ x ∧ x ≤ iI s 74) ∧ iI t' 74 = 0 ∧ 0 ≤ c' ∧ c' ≤ 200 ∧ iI t' 87 ≤ iI t' 86 ∧ iI t' 75 ≤ 200) → WS k 138 [(0, .ref (A 179)), (1, .int (Int32.ofInt xv)), (2, .int (Int32.ofInt c'))] [] (Wd A dT t') 0 0) → WS k 115 [(0, .ref (A 179)), (1, .int (Int32.ofInt xv)), (2, .int (Int32.ofInt c))] [] (Wd A dT t) 0 0 := by
    intro n
    induction n with
    | zero =>
      intro t xv c I F hi hm kx
      have b2001 : (0 : Int) ≤ iI t 73 ∧ iI t 73 ≤ 3 := I.1 73
      have b2002 : (0 : Int) ≤ iI t 74 ∧ iI t 74 ≤ 200 := I.1 74
      have b2003 : (0 : Int) ≤ iI t 77 ∧ iI t 77 ≤ 400 := I.1 77
      have b2004 : (0 : Int) ≤ iI t 75 ∧ iI t 75 ≤ 200 := I.1 75
      have b2005 : (0 : Int) ≤ iI t 79 ∧ iI t 79 ≤ 9 := I.1 79
      have b2006 : (0 : Int) ≤ iI t 78 ∧ iI t 78 ≤ 8 := I.1 78
      have b2007 : (0 : Int) ≤ iI t 86 ∧ iI t 86 ≤ 8 := I.1 86
      have b2008 : (0 : Int) ≤ iI t 87 ∧ iI t 87 ≤ 8 := I.1 87
      have b2009 : ((-1) : Int) ≤ iI t 88 ∧ iI t 88 ≤ 200 := I.1 88
      refine z_load_n X (x := c) (show cdA 214 115 = some (.iload_n 2, 1, 0, 0, 0) from rfl) (List.Mem.tail _ (List.Mem.tail _ (List.Mem.head _))) ?_
      refine z_load_n X (x := xv) (show cdA 214 116 = some (.iload_n 1, 1, 0, 0, 0) from rfl) (List.Mem.tail _ (List.Mem.head _)) ?_
      refine z_icmp_ge X (t := 138) (show cdA 214 117 = some (.if_icmp .ge 21, 3, 3, 0, 0) from rfl) (by decide) ⟨by omega, by omega⟩ ⟨by omega, by omega⟩ (fun g2010 => ?_) (fun g2010 => ?_)
      ·
        refine WS_lv (lv := [(0, .ref (A 179)), (1, .int (Int32.ofInt xv)), (2, .int (Int32.ofInt c))]) (List.forall_mem_cons.mpr ⟨(List.Mem.head _), (List.forall_mem_cons.mpr ⟨(List.Mem.tail _ (List.Mem.head _)), (List.forall_mem_cons.mpr ⟨(List.Mem.tail _ (List.Mem.tail _ (List.Mem.head _))), (fun q h => absurd h List.not_mem_nil)⟩)⟩)⟩) ?_
        exact kx _ c I F (by omega)
      ·
        refine z_aload_n X (x := A 179) (show cdA 214 120 = some (.aload_n 0, 1, 0, 0, 0) from rfl) (List.Mem.head _) ?_
        refine s_getR X 179 (show cdA 214 121 = some (.getfield 17, 3, 12, 10, 0) from rfl) (by decide) rfl rfl ?_
        refine z_load_n X (x := c) (show cdA 214 124 = some (.iload_n 2, 1, 0, 0, 0) from rfl) (List.Mem.tail _ (List.Mem.tail _ (List.Mem.head _))) ?_
        refine z_aload_n X (x := A 179) (show cdA 214 125 = some (.aload_n 0, 1, 0, 0, 0) from rfl) (List.Mem.head _) ?_
        refine s_getR X 179 (show cdA 214 126 = some (.getfield 13, 3, 12, 9, 0) from rfl) (by decide) rfl rfl ?_
        refine z_load_n X (x := c) (show cdA 214 129 = some (.iload_n 2, 1, 0, 0, 0) from rfl) (List.Mem.tail _ (List.Mem.tail _ (List.Mem.head _))) ?_
        refine z_ald X 180 (show cdA 214 130 = some (.iaload, 1, 0, 0, 0) from rfl) (by decide) rfl (by omega) (show c < 200 by omega) (by decide) ?_
        have b2011 : (0 : Int) ≤ iC t 157 (c).toNat ∧ iC t 157 (c).toNat ≤ 255 := I.2 157 _ (show (c).toNat < 200 by omega)
        refine z_ast X 181 (show cdA 214 131 = some (.iastore, 1, 0, 0, 0) from rfl) (by decide) rfl (by omega) (show c < 200 by omega) (by decide) ?_
        obtain ⟨s2012, hs2012⟩ : ∃ x0, x0 = uC t 158 (c).toNat (Int32.ofInt (iC t 157 (c).toNat)) := ⟨_, rfl⟩
        rw [← hs2012]
        have Is2012 : Bd s2012 := by rw [hs2012]; exact bd_C I (show (0 : Int) ≤ (iC t 157 (c).toNat) ∧ (iC t 157 (c).toNat) ≤ 255 by omega) ⟨by omega, by omega⟩
        have Fs2012 := fm_C (i := (c).toNat) (x := Int32.ofInt (iC t 157 (c).toNat)) F (show 158 ∈ _ by decide)
        rw [← hs2012] at Fs2012
        have ws2012_73 : iI s2012 73 = iI t 73 := by rw [hs2012]; rfl
        have ws2012_74 : iI s2012 74 = iI t 74 := by rw [hs2012]; rfl
        have ws2012_77 : iI s2012 77 = iI t 77 := by rw [hs2012]; rfl
        have ws2012_75 : iI s2012 75 = iI t 75 := by rw [hs2012]; rfl
        have ws2012_79 : iI s2012 79 = iI t 79 := by rw [hs2012]; rfl
        have ws2012_78 : iI s2012 78 = iI t 78 := by rw [hs2012]; rfl
        have ws2012_86 : iI s2012 86 = iI t 86 := by rw [hs2012]; rfl
        have ws2012_87 : iI s2012 87 = iI t 87 := by rw [hs2012]; rfl
        have ws2012_88 : iI s2012 88 = iI t 88 := by rw [hs2012]; rfl
        refine z_inc X (x := c) (lv' := [(2, .int (Int32.ofInt (c + 1))), (0, .ref (A 179)), (1, .int (Int32.ofInt xv))]) (show cdA 214 132 = some (.iinc 2 1, 3, 0, 0, 0) from rfl) (by decide) (List.Mem.tail _ (List.Mem.tail _ (List.Mem.head _))) (fun _ h => h) ?_
        refine z_goto X (t := 115) (show cdA 214 135 = some (.goto (-20), 3, 0, 0, 0) from rfl) (by decide) ?_
        exfalso
        omega
    | succ n ih =>
      intro t xv c I F hi hm kx
      have b2001 : (0 : Int) ≤ iI t 73 ∧ iI t 73 ≤ 3 := I.1 73
      have b2002 : (0 : Int) ≤ iI t 74 ∧ iI t 74 ≤ 200 := I.1 74
      have b2003 : (0 : Int) ≤ iI t 77 ∧ iI t 77 ≤ 400 := I.1 77
      have b2004 : (0 : Int) ≤ iI t 75 ∧ iI t 75 ≤ 200 := I.1 75
      have b2005 : (0 : Int) ≤ iI t 79 ∧ iI t 79 ≤ 9 := I.1 79
      have b2006 : (0 : Int) ≤ iI t 78 ∧ iI t 78 ≤ 8 := I.1 78
      have b2007 : (0 : Int) ≤ iI t 86 ∧ iI t 86 ≤ 8 := I.1 86
      have b2008 : (0 : Int) ≤ iI t 87 ∧ iI t 87 ≤ 8 := I.1 87
      have b2009 : ((-1) : Int) ≤ iI t 88 ∧ iI t 88 ≤ 200 := I.1 88
      refine z_load_n X (x := c) (show cdA 214 115 = some (.iload_n 2, 1, 0, 0, 0) from rfl) (List.Mem.tail _ (List.Mem.tail _ (List.Mem.head _))) ?_
      refine z_load_n X (x := xv) (show cdA 214 116 = some (.iload_n 1, 1, 0, 0, 0) from rfl) (List.Mem.tail _ (List.Mem.head _)) ?_
      refine z_icmp_ge X (t := 138) (show cdA 214 117 = some (.if_icmp .ge 21, 3, 3, 0, 0) from rfl) (by decide) ⟨by omega, by omega⟩ ⟨by omega, by omega⟩ (fun g2010 => ?_) (fun g2010 => ?_)
      ·
        refine WS_lv (lv := [(0, .ref (A 179)), (1, .int (Int32.ofInt xv)), (2, .int (Int32.ofInt c))]) (List.forall_mem_cons.mpr ⟨(List.Mem.head _), (List.forall_mem_cons.mpr ⟨(List.Mem.tail _ (List.Mem.head _)), (List.forall_mem_cons.mpr ⟨(List.Mem.tail _ (List.Mem.tail _ (List.Mem.head _))), (fun q h => absurd h List.not_mem_nil)⟩)⟩)⟩) ?_
        exact kx _ c I F (by omega)
      ·
        refine z_aload_n X (x := A 179) (show cdA 214 120 = some (.aload_n 0, 1, 0, 0, 0) from rfl) (List.Mem.head _) ?_
        refine s_getR X 179 (show cdA 214 121 = some (.getfield 17, 3, 12, 10, 0) from rfl) (by decide) rfl rfl ?_
        refine z_load_n X (x := c) (show cdA 214 124 = some (.iload_n 2, 1, 0, 0, 0) from rfl) (List.Mem.tail _ (List.Mem.tail _ (List.Mem.head _))) ?_
        refine z_aload_n X (x := A 179) (show cdA 214 125 = some (.aload_n 0, 1, 0, 0, 0) from rfl) (List.Mem.head _) ?_
        refine s_getR X 179 (show cdA 214 126 = some (.getfield 13, 3, 12, 9, 0) from rfl) (by decide) rfl rfl ?_
        refine z_load_n X (x := c) (show cdA 214 129 = some (.iload_n 2, 1, 0, 0, 0) from rfl) (List.Mem.tail _ (List.Mem.tail _ (List.Mem.head _))) ?_
        refine z_ald X 180 (show cdA 214 130 = some (.iaload, 1, 0, 0, 0) from rfl) (by decide) rfl (by omega) (show c < 200 by omega) (by decide) ?_
        have b2011 : (0 : Int) ≤ iC t 157 (c).toNat ∧ iC t 157 (c).toNat ≤ 255 := I.2 157 _ (show (c).toNat < 200 by omega)
        refine z_ast X 181 (show cdA 214 131 = some (.iastore, 1, 0, 0, 0) from rfl) (by decide) rfl (by omega) (show c < 200 by omega) (by decide) ?_
        obtain ⟨s2012, hs2012⟩ : ∃ x0, x0 = uC t 158 (c).toNat (Int32.ofInt (iC t 157 (c).toNat)) := ⟨_, rfl⟩
        rw [← hs2012]
        have Is2012 : Bd s2012 := by rw [hs2012]; exact bd_C I (show (0 : Int) ≤ (iC t 157 (c).toNat) ∧ (iC t 157 (c).toNat) ≤ 255 by omega) ⟨by omega, by omega⟩
        have Fs2012 := fm_C (i := (c).toNat) (x := Int32.ofInt (iC t 157 (c).toNat)) F (show 158 ∈ _ by decide)
        rw [← hs2012] at Fs2012
        have ws2012_73 : iI s2012 73 = iI t 73 := by rw [hs2012]; rfl
        have ws2012_74 : iI s2012 74 = iI t 74 := by rw [hs2012]; rfl
        have ws2012_77 : iI s2012 77 = iI t 77 := by rw [hs2012]; rfl
        have ws2012_75 : iI s2012 75 = iI t 75 := by rw [hs2012]; rfl
        have ws2012_79 : iI s2012 79 = iI t 79 := by rw [hs2012]; rfl
        have ws2012_78 : iI s2012 78 = iI t 78 := by rw [hs2012]; rfl
        have ws2012_86 : iI s2012 86 = iI t 86 := by rw [hs2012]; rfl
        have ws2012_87 : iI s2012 87 = iI t 87 := by rw [hs2012]; rfl
        have ws2012_88 : iI s2012 88 = iI t 88 := by rw [hs2012]; rfl
        refine z_inc X (x := c) (lv' := [(2, .int (Int32.ofInt (c + 1))), (0, .ref (A 179)), (1, .int (Int32.ofInt xv))]) (show cdA 214 132 = some (.iinc 2 1, 3, 0, 0, 0) from rfl) (by decide) (List.Mem.tail _ (List.Mem.tail _ (List.Mem.head _))) (fun _ h => h) ?_
        refine z_goto X (t := 115) (show cdA 214 135 = some (.goto (-20), 3, 0, 0, 0) from rfl) (by decide) ?_
        refine WS_lv (lv := [(0, .ref (A 179)), (1, .int (Int32.ofInt xv)), (2, .int (Int32.ofInt (c + 1)))]) (List.forall_mem_cons.mpr ⟨(List.Mem.tail _ (List.Mem.head _)), (List.forall_mem_cons.mpr ⟨(List.Mem.tail _ (List.Mem.tail _ (List.Mem.head _))), (List.forall_mem_cons.mpr ⟨(List.Mem.head _), (fun q h => absurd h List.not_mem_nil)⟩)⟩)⟩) ?_
        exact ih _ xv (c + 1) Is2012 Fs2012 (by omega) (by omega) kx
  have L169 : ∀ (n : Nat) (t : PS) (xv c : Int), Bd t → Fm [73, 74, 76, 82, 83, 84, 85, 77, 75, 78, 79, 80, 81, 86, 87, 88] [160, 159, 158] s t → (xv = x ∧ (0 ≤ x ∧ x ≤ iI s 74) ∧ iI t 74 = 0 ∧ 0 ≤ c ∧ c ≤ 8) → 8 - c ≤ n → (∀ (t' : PS) (c' : Int), Bd t' → Fm [73, 74, 76, 82, 83, 84, 85, 77, 75, 78, 79, 80, 81, 86, 87, 88] [160, 159, 158] s t' → (xv = x ∧ (0 ≤ x ∧ x ≤ iI s 74) ∧ iI t' 74 = 0 ∧ 0 ≤ c' ∧ c' ≤ 8) → WS k 195 [(0, .ref (A 179)), (1, .int (Int32.ofInt xv)), (2, .int (Int32.ofInt c'))] [] (Wd A dT t') 0 0) → WS k 169 [(0, .ref (A 179)), (1, .int (Int32.ofInt xv)), (2, .int (Int32.ofInt c))] [] (Wd A dT t) 0 0 := by
    intro n
    induction n with
    | zero =>
      intro t xv c I F hi hm kx
      have b3001 : (0 : Int) ≤ iI t 73 ∧ iI t 73 ≤ 3 := I.1 73
      have b3002 : (0 : Int) ≤ iI t 74 ∧ iI t 74 ≤ 200 := I.1 74
      have b3003 : (0 : Int) ≤ iI t 77 ∧ iI t 77 ≤ 400 := I.1 77
      have b3004 : (0 : Int) ≤ iI t 75 ∧ iI t 75 ≤ 200 := I.1 75
      have b3005 : (0 : Int) ≤ iI t 79 ∧ iI t 79 ≤ 9 := I.1 79
      have b3006 : (0 : Int) ≤ iI t 78 ∧ iI t 78 ≤ 8 := I.1 78
      have b3007 : (0 : Int) ≤ iI t 86 ∧ iI t 86 ≤ 8 := I.1 86
      have b3008 : (0 : Int) ≤ iI t 87 ∧ iI t 87 ≤ 8 := I.1 87
      have b3009 : ((-1) : Int) ≤ iI t 88 ∧ iI t 88 ≤ 200 := I.1 88
      refine z_load_n X (x := c) (show cdA 214 169 = some (.iload_n 2, 1, 0, 0, 0) from rfl) (List.Mem.tail _ (List.Mem.tail _ (List.Mem.head _))) ?_
      refine z_aload_n X (x := A 179) (show cdA 214 170 = some (.aload_n 0, 1, 0, 0, 0) from rfl) (List.Mem.head _) ?_
      refine z_getI X 179 (show cdA 214 171 = some (.getfield 300, 3, 12, 13, 0) from rfl) (by decide) rfl rfl ?_
      have b3010 : (0 : Int) ≤ iI t 84 ∧ iI t 84 ≤ 8 := I.1 84
      refine z_icmp_ge X (t := 195) (show cdA 214 174 = some (.if_icmp .ge 21, 3, 3, 0, 0) from rfl) (by decide) ⟨by omega, by omega⟩ ⟨by omega, by omega⟩ (fun g3011 => ?_) (fun g3011 => ?_)
      ·
        refine WS_lv (lv := [(0, .ref (A 179)), (1, .int (Int32.ofInt xv)), (2, .int (Int32.ofInt c))]) (List.forall_mem_cons.mpr ⟨(List.Mem.head _), (List.forall_mem_cons.mpr ⟨(List.Mem.tail _ (List.Mem.head _)), (List.forall_mem_cons.mpr ⟨(List.Mem.tail _ (List.Mem.tail _ (List.Mem.head _))), (fun q h => absurd h List.not_mem_nil)⟩)⟩)⟩) ?_
        exact kx _ c I F (by omega)
      ·
        refine z_aload_n X (x := A 179) (show cdA 214 177 = some (.aload_n 0, 1, 0, 0, 0) from rfl) (List.Mem.head _) ?_
        refine s_getR X 179 (show cdA 214 178 = some (.getfield 23, 3, 12, 15, 0) from rfl) (by decide) rfl rfl ?_
        refine z_load_n X (x := c) (show cdA 214 181 = some (.iload_n 2, 1, 0, 0, 0) from rfl) (List.Mem.tail _ (List.Mem.tail _ (List.Mem.head _))) ?_
        refine z_aload_n X (x := A 179) (show cdA 214 182 = some (.aload_n 0, 1, 0, 0, 0) from rfl) (List.Mem.head _) ?_
        refine s_getR X 179 (show cdA 214 183 = some (.getfield 29, 3, 12, 20, 0) from rfl) (by decide) rfl rfl ?_
        refine z_load_n X (x := c) (show cdA 214 186 = some (.iload_n 2, 1, 0, 0, 0) from rfl) (List.Mem.tail _ (List.Mem.tail _ (List.Mem.head _))) ?_
        refine z_ald X 183 (show cdA 214 187 = some (.iaload, 1, 0, 0, 0) from rfl) (by decide) rfl (by omega) (show c < 8 by omega) (by decide) ?_
        have b3012 : (0 : Int) ≤ iC t 160 (c).toNat ∧ iC t 160 (c).toNat ≤ 200 := I.2 160 _ (show (c).toNat < 8 by omega)
        refine z_ast X 182 (show cdA 214 188 = some (.iastore, 1, 0, 0, 0) from rfl) (by decide) rfl (by omega) (show c < 8 by omega) (by decide) ?_
        obtain ⟨s3013, hs3013⟩ : ∃ x0, x0 = uC t 159 (c).toNat (Int32.ofInt (iC t 160 (c).toNat)) := ⟨_, rfl⟩
        rw [← hs3013]
        have Is3013 : Bd s3013 := by rw [hs3013]; exact bd_C I (show (0 : Int) ≤ (iC t 160 (c).toNat) ∧ (iC t 160 (c).toNat) ≤ 200 by omega) ⟨by omega, by omega⟩
        have Fs3013 := fm_C (i := (c).toNat) (x := Int32.ofInt (iC t 160 (c).toNat)) F (show 159 ∈ _ by decide)
        rw [← hs3013] at Fs3013
        have ws3013_73 : iI s3013 73 = iI t 73 := by rw [hs3013]; rfl
        have ws3013_74 : iI s3013 74 = iI t 74 := by rw [hs3013]; rfl
        have ws3013_77 : iI s3013 77 = iI t 77 := by rw [hs3013]; rfl
        have ws3013_75 : iI s3013 75 = iI t 75 := by rw [hs3013]; rfl
        have ws3013_79 : iI s3013 79 = iI t 79 := by rw [hs3013]; rfl
        have ws3013_78 : iI s3013 78 = iI t 78 := by rw [hs3013]; rfl
        have ws3013_86 : iI s3013 86 = iI t 86 := by rw [hs3013]; rfl
        have ws3013_87 : iI s3013 87 = iI t 87 := by rw [hs3013]; rfl
        have ws3013_88 : iI s3013 88 = iI t 88 := by rw [hs3013]; rfl
        refine z_inc X (x := c) (lv' := [(2, .int (Int32.ofInt (c + 1))), (0, .ref (A 179)), (1, .int (Int32.ofInt xv))]) (show cdA 214 189 = some (.iinc 2 1, 3, 0, 0, 0) from rfl) (by decide) (List.Mem.tail _ (List.Mem.tail _ (List.Mem.head _))) (fun _ h => h) ?_
        refine z_goto X (t := 169) (show cdA 214 192 = some (.goto (-23), 3, 0, 0, 0) from rfl) (by decide) ?_
        exfalso
        omega
    | succ n ih =>
      intro t xv c I F hi hm kx
      have b3001 : (0 : Int) ≤ iI t 73 ∧ iI t 73 ≤ 3 := I.1 73
      have b3002 : (0 : Int) ≤ iI t 74 ∧ iI t 74 ≤ 200 := I.1 74
      have b3003 : (0 : Int) ≤ iI t 77 ∧ iI t 77 ≤ 400 := I.1 77
      have b3004 : (0 : Int) ≤ iI t 75 ∧ iI t 75 ≤ 200 := I.1 75
      have b3005 : (0 : Int) ≤ iI t 79 ∧ iI t 79 ≤ 9 := I.1 79
      have b3006 : (0 : Int) ≤ iI t 78 ∧ iI t 78 ≤ 8 := I.1 78
      have b3007 : (0 : Int) ≤ iI t 86 ∧ iI t 86 ≤ 8 := I.1 86
      have b3008 : (0 : Int) ≤ iI t 87 ∧ iI t 87 ≤ 8 := I.1 87
      have b3009 : ((-1) : Int) ≤ iI t 88 ∧ iI t 88 ≤ 200 := I.1 88
      refine z_load_n X (x := c) (show cdA 214 169 = some (.iload_n 2, 1, 0, 0, 0) from rfl) (List.Mem.tail _ (List.Mem.tail _ (List.Mem.head _))) ?_
      refine z_aload_n X (x := A 179) (show cdA 214 170 = some (.aload_n 0, 1, 0, 0, 0) from rfl) (List.Mem.head _) ?_
      refine z_getI X 179 (show cdA 214 171 = some (.getfield 300, 3, 12, 13, 0) from rfl) (by decide) rfl rfl ?_
      have b3010 : (0 : Int) ≤ iI t 84 ∧ iI t 84 ≤ 8 := I.1 84
      refine z_icmp_ge X (t := 195) (show cdA 214 174 = some (.if_icmp .ge 21, 3, 3, 0, 0) from rfl) (by decide) ⟨by omega, by omega⟩ ⟨by omega, by omega⟩ (fun g3011 => ?_) (fun g3011 => ?_)
      ·
        refine WS_lv (lv := [(0, .ref (A 179)), (1, .int (Int32.ofInt xv)), (2, .int (Int32.ofInt c))]) (List.forall_mem_cons.mpr ⟨(List.Mem.head _), (List.forall_mem_cons.mpr ⟨(List.Mem.tail _ (List.Mem.head _)), (List.forall_mem_cons.mpr ⟨(List.Mem.tail _ (List.Mem.tail _ (List.Mem.head _))), (fun q h => absurd h List.not_mem_nil)⟩)⟩)⟩) ?_
        exact kx _ c I F (by omega)
      ·
        refine z_aload_n X (x := A 179) (show cdA 214 177 = some (.aload_n 0, 1, 0, 0, 0) from rfl) (List.Mem.head _) ?_
        refine s_getR X 179 (show cdA 214 178 = some (.getfield 23, 3, 12, 15, 0) from rfl) (by decide) rfl rfl ?_
        refine z_load_n X (x := c) (show cdA 214 181 = some (.iload_n 2, 1, 0, 0, 0) from rfl) (List.Mem.tail _ (List.Mem.tail _ (List.Mem.head _))) ?_
        refine z_aload_n X (x := A 179) (show cdA 214 182 = some (.aload_n 0, 1, 0, 0, 0) from rfl) (List.Mem.head _) ?_
        refine s_getR X 179 (show cdA 214 183 = some (.getfield 29, 3, 12, 20, 0) from rfl) (by decide) rfl rfl ?_
        refine z_load_n X (x := c) (show cdA 214 186 = some (.iload_n 2, 1, 0, 0, 0) from rfl) (List.Mem.tail _ (List.Mem.tail _ (List.Mem.head _))) ?_
        refine z_ald X 183 (show cdA 214 187 = some (.iaload, 1, 0, 0, 0) from rfl) (by decide) rfl (by omega) (show c < 8 by omega) (by decide) ?_
        have b3012 : (0 : Int) ≤ iC t 160 (c).toNat ∧ iC t 160 (c).toNat ≤ 200 := I.2 160 _ (show (c).toNat < 8 by omega)
        refine z_ast X 182 (show cdA 214 188 = some (.iastore, 1, 0, 0, 0) from rfl) (by decide) rfl (by omega) (show c < 8 by omega) (by decide) ?_
        obtain ⟨s3013, hs3013⟩ : ∃ x0, x0 = uC t 159 (c).toNat (Int32.ofInt (iC t 160 (c).toNat)) := ⟨_, rfl⟩
        rw [← hs3013]
        have Is3013 : Bd s3013 := by rw [hs3013]; exact bd_C I (show (0 : Int) ≤ (iC t 160 (c).toNat) ∧ (iC t 160 (c).toNat) ≤ 200 by omega) ⟨by omega, by omega⟩
        have Fs3013 := fm_C (i := (c).toNat) (x := Int32.ofInt (iC t 160 (c).toNat)) F (show 159 ∈ _ by decide)
        rw [← hs3013] at Fs3013
        have ws3013_73 : iI s3013 73 = iI t 73 := by rw [hs3013]; rfl
        have ws3013_74 : iI s3013 74 = iI t 74 := by rw [hs3013]; rfl
        have ws3013_77 : iI s3013 77 = iI t 77 := by rw [hs3013]; rfl
        have ws3013_75 : iI s3013 75 = iI t 75 := by rw [hs3013]; rfl
        have ws3013_79 : iI s3013 79 = iI t 79 := by rw [hs3013]; rfl
        have ws3013_78 : iI s3013 78 = iI t 78 := by rw [hs3013]; rfl
        have ws3013_86 : iI s3013 86 = iI t 86 := by rw [hs3013]; rfl
        have ws3013_87 : iI s3013 87 = iI t 87 := by rw [hs3013]; rfl
        have ws3013_88 : iI s3013 88 = iI t 88 := by rw [hs3013]; rfl
        refine z_inc X (x := c) (lv' := [(2, .int (Int32.ofInt (c + 1))), (0, .ref (A 179)), (1, .int (Int32.ofInt xv))]) (show cdA 214 189 = some (.iinc 2 1, 3, 0, 0, 0) from rfl) (by decide) (List.Mem.tail _ (List.Mem.tail _ (List.Mem.head _))) (fun _ h => h) ?_
        refine z_goto X (t := 169) (show cdA 214 192 = some (.goto (-23), 3, 0, 0, 0) from rfl) (by decide) ?_
        refine WS_lv (lv := [(0, .ref (A 179)), (1, .int (Int32.ofInt xv)), (2, .int (Int32.ofInt (c + 1)))]) (List.forall_mem_cons.mpr ⟨(List.Mem.tail _ (List.Mem.head _)), (List.forall_mem_cons.mpr ⟨(List.Mem.tail _ (List.Mem.tail _ (List.Mem.head _))), (List.forall_mem_cons.mpr ⟨(List.Mem.head _), (fun q h => absurd h List.not_mem_nil)⟩)⟩)⟩) ?_
        exact ih _ xv (c + 1) Is3013 Fs3013 (by omega) (by omega) kx
  refine z_aload_n X (x := A 179) (show cdA 214 0 = some (.aload_n 0, 1, 0, 0, 0) from rfl) (List.Mem.head _) ?_
  refine z_const X (show cdA 214 1 = some (.iconst 0, 1, 0, 0, 0) from rfl) ?_
  refine s_putI X 179 (show cdA 214 2 = some (.putfield 172, 3, 12, 0, 0) from rfl) (by decide) rfl rfl (by decide) rfl rfl rfl ?_
  obtain ⟨s10, hs10⟩ : ∃ x0, x0 = uI s 73 (Int32.ofInt 0) := ⟨_, rfl⟩
  rw [← hs10]
  have Is10 : Bd s10 := by rw [hs10]; exact bd_I I (show (0 : Int) ≤ 0 ∧ 0 ≤ 3 by omega) ⟨by omega, by omega⟩
  have Fs10 := fm_I (x := Int32.ofInt 0) F (show 73 ∈ _ by decide)
  rw [← hs10] at Fs10
  have vs10 : iI s10 73 = 0 := by rw [hs10]; exact iI_u ⟨by omega, by omega⟩
  have ws10_74 : iI s10 74 = iI s 74 := by rw [hs10]; rfl
  have ws10_77 : iI s10 77 = iI s 77 := by rw [hs10]; rfl
  have ws10_75 : iI s10 75 = iI s 75 := by rw [hs10]; rfl
  have ws10_79 : iI s10 79 = iI s 79 := by rw [hs10]; rfl
  have ws10_78 : iI s10 78 = iI s 78 := by rw [hs10]; rfl
  have ws10_86 : iI s10 86 = iI s 86 := by rw [hs10]; rfl
  have ws10_87 : iI s10 87 = iI s 87 := by rw [hs10]; rfl
  have ws10_88 : iI s10 88 = iI s 88 := by rw [hs10]; rfl
  refine z_aload_n X (x := A 179) (show cdA 214 5 = some (.aload_n 0, 1, 0, 0, 0) from rfl) (List.Mem.head _) ?_
  refine z_load_n X (x := x) (show cdA 214 6 = some (.iload_n 1, 1, 0, 0, 0) from rfl) (List.Mem.tail _ (List.Mem.head _)) ?_
  refine z_const X (show cdA 214 7 = some (.iconst 0, 1, 0, 0, 0) from rfl) ?_
  refine z_aload_n X (x := A 179) (show cdA 214 8 = some (.aload_n 0, 1, 0, 0, 0) from rfl) (List.Mem.head _) ?_
  refine z_getI X 179 (show cdA 214 9 = some (.getfield 175, 3, 12, 1, 0) from rfl) (by decide) rfl rfl ?_
  have b11 : (0 : Int) ≤ iI s10 74 ∧ iI s10 74 ≤ 200 := Is10.1 74
  refine z_callS X (rm := rmN 188) (As := [.int (Int32.ofInt x), .int (Int32.ofInt 0), .int (Int32.ofInt (iI s10 74))]) (st := [.ref (A 179)]) (show cdA 214 12 = some (.invokestatic 209, 3, 188, 1, 0) from rfl) rfl (by rw [E.1, E.2.1, E.2.2.1]; exact k_in G Is10 (by omega) (by omega) (by omega)) ⟨by rw [E.2.2.2]; exact (show (rmN 188).frames + 1 ≤ (rmN 214).frames by decide), by rw [E.2.2.2]; exact (show 8 + (mNL (miB 188) + 11) + (rmN 188).locals ≤ (rmN 214).locals by decide), by rw [E.2.2.2]; exact (show 0 + (rmN 188).cells ≤ (rmN 214).cells by decide), by rw [E.2.2.2]; exact (show 0 + (rmN 188).slots ≤ (rmN 214).slots by decide)⟩ (Nat.le_of_ble_eq_true rfl) (fun vv s12 hq => ?_) (fun ee s12 hq => ?_)
  rotate_left
  · obtain ⟨Is12, Fs12, e13, hv, hrs12, hps12⟩ := hq; cases hv
  obtain ⟨Is12, Fs12, e13, hv, hrs12, hps12⟩ := hq
  cases hv
  have Gs12 := fm_ts Fs10 Fs12 (by decide) (by decide)
  have ws12_73 : iI s12 73 = iI s10 73 := fm_i Fs12 (by decide)
  have ws12_74 : iI s12 74 = iI s10 74 := fm_i Fs12 (by decide)
  have ws12_77 : iI s12 77 = iI s10 77 := fm_i Fs12 (by decide)
  have ws12_75 : iI s12 75 = iI s10 75 := fm_i Fs12 (by decide)
  have ws12_79 : iI s12 79 = iI s10 79 := fm_i Fs12 (by decide)
  have ws12_78 : iI s12 78 = iI s10 78 := fm_i Fs12 (by decide)
  have ws12_86 : iI s12 86 = iI s10 86 := fm_i Fs12 (by decide)
  have ws12_87 : iI s12 87 = iI s10 87 := fm_i Fs12 (by decide)
  have ws12_88 : iI s12 88 = iI s10 88 := fm_i Fs12 (by decide)
  show WS k 15 [(0, .ref (A 179)), (1, .int (Int32.ofInt x))] [.int (Int32.ofInt e13), .ref (A 179)] (Wd A dT s12) 0 0
  refine z_if_ne X (t := 22) (show cdA 214 15 = some (.ifCond .ne 7, 3, 1, 0, 0) from rfl) (by decide) ⟨by omega, by omega⟩ (fun g14 => ?_) (fun g14 => ?_)
  ·
    refine z_const X (show cdA 214 22 = some (.iconst 0, 1, 0, 0, 0) from rfl) ?_
    refine z_const X (show cdA 214 23 = some (.iconst 1, 1, 0, 0, 0) from rfl) ?_
    refine z_callV X 179 (rm := rmN 187) (As := [.int (Int32.ofInt 0), .int (Int32.ofInt 1)]) (st := []) (show cdA 214 24 = some (.invokevirtual 229, 3, 187, 0, 0) from rfl) rfl (by decide) rfl (by rw [E.1, E.2.1, E.2.2.1]; exact k_bad G Is12 (by omega) (by omega)) ⟨by rw [E.2.2.2]; exact (show (rmN 187).frames + 1 ≤ (rmN 214).frames by decide), by rw [E.2.2.2]; exact (show 8 + (mNL (miB 187) + 11) + (rmN 187).locals ≤ (rmN 214).locals by decide), by rw [E.2.2.2]; exact (show 0 + (rmN 187).cells ≤ (rmN 214).cells by decide), by rw [E.2.2.2]; exact (show 0 + (rmN 187).slots ≤ (rmN 214).slots by decide)⟩ (Nat.le_of_ble_eq_true rfl) (fun vv s15 hq => ?_) (fun ee s15 hq => ?_)
    rotate_left
    · obtain ⟨Is15, Fs15, e16, hv, hrs15, hps15⟩ := hq; cases hv
    obtain ⟨Is15, Fs15, e16, hv, hrs15, hps15⟩ := hq
    cases hv
    have Gs15 := fm_ts Gs12 Fs15 (by decide) (by decide)
    have b17 : (0 : Int) ≤ iI s15 73 ∧ iI s15 73 ≤ 3 := Is15.1 73
    have ws15_74 : iI s15 74 = iI s12 74 := fm_i Fs15 (by decide)
    have ws15_77 : iI s15 77 = iI s12 77 := fm_i Fs15 (by decide)
    have ws15_75 : iI s15 75 = iI s12 75 := fm_i Fs15 (by decide)
    have ws15_79 : iI s15 79 = iI s12 79 := fm_i Fs15 (by decide)
    have ws15_78 : iI s15 78 = iI s12 78 := fm_i Fs15 (by decide)
    have ws15_86 : iI s15 86 = iI s12 86 := fm_i Fs15 (by decide)
    have ws15_87 : iI s15 87 = iI s12 87 := fm_i Fs15 (by decide)
    have ws15_88 : iI s15 88 = iI s12 88 := fm_i Fs15 (by decide)
    show WS k 27 [(0, .ref (A 179)), (1, .int (Int32.ofInt x))] [.int (Int32.ofInt e16)] (Wd A dT s15) 0 0
    refine z_if_eq X (t := 32) (show cdA 214 27 = some (.ifCond .eq 5, 3, 0, 0, 0) from rfl) (by decide) ⟨by omega, by omega⟩ (fun g18 => ?_) (fun g18 => ?_)
    ·
      refine z_aload_n X (x := A 179) (show cdA 214 32 = some (.aload_n 0, 1, 0, 0, 0) from rfl) (List.Mem.head _) ?_
      refine z_const X (show cdA 214 33 = some (.iconst 0, 1, 0, 0, 0) from rfl) ?_
      refine s_putI X 179 (show cdA 214 34 = some (.putfield 175, 3, 12, 1, 0) from rfl) (by decide) rfl rfl (by decide) rfl rfl rfl ?_
      obtain ⟨s19, hs19⟩ : ∃ x0, x0 = uI s15 74 (Int32.ofInt 0) := ⟨_, rfl⟩
      rw [← hs19]
      have Is19 : Bd s19 := by rw [hs19]; exact bd_I Is15 (show (0 : Int) ≤ 0 ∧ 0 ≤ 200 by omega) ⟨by omega, by omega⟩
      have Fs19 := fm_I (x := Int32.ofInt 0) Gs15 (show 74 ∈ _ by decide)
      rw [← hs19] at Fs19
      have vs19 : iI s19 74 = 0 := by rw [hs19]; exact iI_u ⟨by omega, by omega⟩
      have ws19_73 : iI s19 73 = iI s15 73 := by rw [hs19]; rfl
      have ws19_77 : iI s19 77 = iI s15 77 := by rw [hs19]; rfl
      have ws19_75 : iI s19 75 = iI s15 75 := by rw [hs19]; rfl
      have ws19_79 : iI s19 79 = iI s15 79 := by rw [hs19]; rfl
      have ws19_78 : iI s19 78 = iI s15 78 := by rw [hs19]; rfl
      have ws19_86 : iI s19 86 = iI s15 86 := by rw [hs19]; rfl
      have ws19_87 : iI s19 87 = iI s15 87 := by rw [hs19]; rfl
      have ws19_88 : iI s19 88 = iI s15 88 := by rw [hs19]; rfl
      refine z_aload_n X (x := A 179) (show cdA 214 37 = some (.aload_n 0, 1, 0, 0, 0) from rfl) (List.Mem.head _) ?_
      refine z_load_n X (x := x) (show cdA 214 38 = some (.iload_n 1, 1, 0, 0, 0) from rfl) (List.Mem.tail _ (List.Mem.head _)) ?_
      refine z_callV X 179 (rm := rmN 197) (As := [.int (Int32.ofInt x)]) (st := []) (show cdA 214 39 = some (.invokevirtual 236, 3, 197, 0, 0) from rfl) rfl (by decide) rfl (by rw [E.1, E.2.1, E.2.2.1]; exact k_beginText G Is19 (by omega)) ⟨by rw [E.2.2.2]; exact (show (rmN 197).frames + 1 ≤ (rmN 214).frames by decide), by rw [E.2.2.2]; exact (show 8 + (mNL (miB 197) + 11) + (rmN 197).locals ≤ (rmN 214).locals by decide), by rw [E.2.2.2]; exact (show 0 + (rmN 197).cells ≤ (rmN 214).cells by decide), by rw [E.2.2.2]; exact (show 0 + (rmN 197).slots ≤ (rmN 214).slots by decide)⟩ (Nat.le_of_ble_eq_true rfl) (fun vv s20 hq => ?_) (fun ee s20 hq => ?_)
      rotate_left
      · obtain ⟨Is20, Fs20, hv, hps20⟩ := hq; cases hv
      obtain ⟨Is20, Fs20, hv, hps20⟩ := hq
      cases hv
      have Gs20 := fm_ts Fs19 Fs20 (by decide) (by decide)
      have ws20_73 : iI s20 73 = iI s19 73 := fm_i Fs20 (by decide)
      have ws20_74 : iI s20 74 = iI s19 74 := fm_i Fs20 (by decide)
      have b22 : (0 : Int) ≤ iI s20 77 ∧ iI s20 77 ≤ 400 := Is20.1 77
      have b23 : (0 : Int) ≤ iI s20 75 ∧ iI s20 75 ≤ 200 := Is20.1 75
      have b24 : (0 : Int) ≤ iI s20 79 ∧ iI s20 79 ≤ 9 := Is20.1 79
      have b25 : (0 : Int) ≤ iI s20 78 ∧ iI s20 78 ≤ 8 := Is20.1 78
      have ws20_86 : iI s20 86 = iI s19 86 := fm_i Fs20 (by decide)
      have ws20_87 : iI s20 87 = iI s19 87 := fm_i Fs20 (by decide)
      have ws20_88 : iI s20 88 = iI s19 88 := fm_i Fs20 (by decide)
      show WS k 42 [(0, .ref (A 179)), (1, .int (Int32.ofInt x))] [] (Wd A dT s20) 0 0
      refine z_aload_n X (x := A 179) (show cdA 214 42 = some (.aload_n 0, 1, 0, 0, 0) from rfl) (List.Mem.head _) ?_
      refine z_const X (show cdA 214 43 = some (.iconst 0, 1, 0, 0, 0) from rfl) ?_
      refine s_putI X 179 (show cdA 214 44 = some (.putfield 282, 3, 12, 16, 0) from rfl) (by decide) rfl rfl (by decide) rfl rfl rfl ?_
      obtain ⟨s26, hs26⟩ : ∃ x0, x0 = uI s20 86 (Int32.ofInt 0) := ⟨_, rfl⟩
      rw [← hs26]
      have Is26 : Bd s26 := by rw [hs26]; exact bd_I Is20 (show (0 : Int) ≤ 0 ∧ 0 ≤ 8 by omega) ⟨by omega, by omega⟩
      have Fs26 := fm_I (x := Int32.ofInt 0) Gs20 (show 86 ∈ _ by decide)
      rw [← hs26] at Fs26
      have vs26 : iI s26 86 = 0 := by rw [hs26]; exact iI_u ⟨by omega, by omega⟩
      have ws26_73 : iI s26 73 = iI s20 73 := by rw [hs26]; rfl
      have ws26_74 : iI s26 74 = iI s20 74 := by rw [hs26]; rfl
      have ws26_77 : iI s26 77 = iI s20 77 := by rw [hs26]; rfl
      have ws26_75 : iI s26 75 = iI s20 75 := by rw [hs26]; rfl
      have ws26_79 : iI s26 79 = iI s20 79 := by rw [hs26]; rfl
      have ws26_78 : iI s26 78 = iI s20 78 := by rw [hs26]; rfl
      have ws26_87 : iI s26 87 = iI s20 87 := by rw [hs26]; rfl
      have ws26_88 : iI s26 88 = iI s20 88 := by rw [hs26]; rfl
      refine z_aload_n X (x := A 179) (show cdA 214 47 = some (.aload_n 0, 1, 0, 0, 0) from rfl) (List.Mem.head _) ?_
      refine z_const X (show cdA 214 48 = some (.iconst 0, 1, 0, 0, 0) from rfl) ?_
      refine s_putI X 179 (show cdA 214 49 = some (.putfield 288, 3, 12, 17, 0) from rfl) (by decide) rfl rfl (by decide) rfl rfl rfl ?_
      obtain ⟨s27, hs27⟩ : ∃ x0, x0 = uI s26 87 (Int32.ofInt 0) := ⟨_, rfl⟩
      rw [← hs27]
      have Is27 : Bd s27 := by rw [hs27]; exact bd_I Is26 (show (0 : Int) ≤ 0 ∧ 0 ≤ 8 by omega) ⟨by omega, by omega⟩
      have Fs27 := fm_I (x := Int32.ofInt 0) Fs26 (show 87 ∈ _ by decide)
      rw [← hs27] at Fs27
      have vs27 : iI s27 87 = 0 := by rw [hs27]; exact iI_u ⟨by omega, by omega⟩
      have ws27_73 : iI s27 73 = iI s26 73 := by rw [hs27]; rfl
      have ws27_74 : iI s27 74 = iI s26 74 := by rw [hs27]; rfl
      have ws27_77 : iI s27 77 = iI s26 77 := by rw [hs27]; rfl
      have ws27_75 : iI s27 75 = iI s26 75 := by rw [hs27]; rfl
      have ws27_79 : iI s27 79 = iI s26 79 := by rw [hs27]; rfl
      have ws27_78 : iI s27 78 = iI s26 78 := by rw [hs27]; rfl
      have ws27_86 : iI s27 86 = iI s26 86 := by rw [hs27]; rfl
      have ws27_88 : iI s27 88 = iI s26 88 := by rw [hs27]; rfl
      refine z_aload_n X (x := A 179) (show cdA 214 52 = some (.aload_n 0, 1, 0, 0, 0) from rfl) (List.Mem.head _) ?_
      refine z_const X (show cdA 214 53 = some (.iconst (-1), 1, 0, 0, 0) from rfl) ?_
      refine s_putI X 179 (show cdA 214 54 = some (.putfield 285, 3, 12, 18, 0) from rfl) (by decide) rfl rfl (by decide) rfl rfl rfl ?_
      obtain ⟨s28, hs28⟩ : ∃ x0, x0 = uI s27 88 (Int32.ofInt (-1)) := ⟨_, rfl⟩
      rw [← hs28]
      have Is28 : Bd s28 := by rw [hs28]; exact bd_I Is27 (show ((-1) : Int) ≤ (-1) ∧ (-1) ≤ 200 by omega) ⟨by omega, by omega⟩
      have Fs28 := fm_I (x := Int32.ofInt (-1)) Fs27 (show 88 ∈ _ by decide)
      rw [← hs28] at Fs28
      have vs28 : iI s28 88 = (-1) := by rw [hs28]; exact iI_u ⟨by omega, by omega⟩
      have ws28_73 : iI s28 73 = iI s27 73 := by rw [hs28]; rfl
      have ws28_74 : iI s28 74 = iI s27 74 := by rw [hs28]; rfl
      have ws28_77 : iI s28 77 = iI s27 77 := by rw [hs28]; rfl
      have ws28_75 : iI s28 75 = iI s27 75 := by rw [hs28]; rfl
      have ws28_79 : iI s28 79 = iI s27 79 := by rw [hs28]; rfl
      have ws28_78 : iI s28 78 = iI s27 78 := by rw [hs28]; rfl
      have ws28_86 : iI s28 86 = iI s27 86 := by rw [hs28]; rfl
      have ws28_87 : iI s28 87 = iI s27 87 := by rw [hs28]; rfl
      refine z_aload_n X (x := A 179) (show cdA 214 57 = some (.aload_n 0, 1, 0, 0, 0) from rfl) (List.Mem.head _) ?_
      refine z_callV X 179 (rm := rmN 193) (As := []) (st := []) (show cdA 214 58 = some (.invokevirtual 197, 3, 193, 0, 0) from rfl) rfl (by decide) rfl (by rw [E.1, E.2.1, E.2.2.1]; exact k_blanks G Is28 (by omega)) ⟨by rw [E.2.2.2]; exact (show (rmN 193).frames + 1 ≤ (rmN 214).frames by decide), by rw [E.2.2.2]; exact (show 8 + (mNL (miB 193) + 11) + (rmN 193).locals ≤ (rmN 214).locals by decide), by rw [E.2.2.2]; exact (show 0 + (rmN 193).cells ≤ (rmN 214).cells by decide), by rw [E.2.2.2]; exact (show 0 + (rmN 193).slots ≤ (rmN 214).slots by decide)⟩ (Nat.le_of_ble_eq_true rfl) (fun vv s29 hq => ?_) (fun ee s29 hq => ?_)
      rotate_left
      · obtain ⟨Is29, Fs29, hv, hps29⟩ := hq; cases hv
      obtain ⟨Is29, Fs29, hv, hps29⟩ := hq
      cases hv
      have Gs29 := fm_ts Fs28 Fs29 (by decide) (by decide)
      have ws29_73 : iI s29 73 = iI s28 73 := fm_i Fs29 (by decide)
      have ws29_74 : iI s29 74 = iI s28 74 := fm_i Fs29 (by decide)
      have b31 : (0 : Int) ≤ iI s29 77 ∧ iI s29 77 ≤ 400 := Is29.1 77
      have ws29_75 : iI s29 75 = iI s28 75 := fm_i Fs29 (by decide)
      have ws29_79 : iI s29 79 = iI s28 79 := fm_i Fs29 (by decide)
      have ws29_78 : iI s29 78 = iI s28 78 := fm_i Fs29 (by decide)
      have ws29_86 : iI s29 86 = iI s28 86 := fm_i Fs29 (by decide)
      have ws29_87 : iI s29 87 = iI s28 87 := fm_i Fs29 (by decide)
      have ws29_88 : iI s29 88 = iI s28 88 := fm_i Fs29 (by decide)
      show WS k 61 [(0, .ref (A 179)), (1, .int (Int32.ofInt x))] [] (Wd A dT s29) 0 0
      refine WS_lv (lv := [(0, .ref (A 179)), (1, .int (Int32.ofInt x))]) (List.forall_mem_cons.mpr ⟨(List.Mem.head _), (List.forall_mem_cons.mpr ⟨(List.Mem.tail _ (List.Mem.head _)), (fun q h => absurd h List.not_mem_nil)⟩)⟩) ?_
      refine L61 ((400 - iI s29 77 + (9 - iI s29 79) : Int)).toNat s29 x Is29 Gs29 (by omega) (by omega) ?_
      intro s32  Is32 Fs32 hs32
      have b33 : (0 : Int) ≤ iI s32 73 ∧ iI s32 73 ≤ 3 := Is32.1 73
      have b34 : (0 : Int) ≤ iI s32 74 ∧ iI s32 74 ≤ 200 := Is32.1 74
      have b35 : (0 : Int) ≤ iI s32 77 ∧ iI s32 77 ≤ 400 := Is32.1 77
      have b36 : (0 : Int) ≤ iI s32 75 ∧ iI s32 75 ≤ 200 := Is32.1 75
      have b37 : (0 : Int) ≤ iI s32 79 ∧ iI s32 79 ≤ 9 := Is32.1 79
      have b38 : (0 : Int) ≤ iI s32 78 ∧ iI s32 78 ≤ 8 := Is32.1 78
      have b39 : (0 : Int) ≤ iI s32 86 ∧ iI s32 86 ≤ 8 := Is32.1 86
      have b40 : (0 : Int) ≤ iI s32 87 ∧ iI s32 87 ≤ 8 := Is32.1 87
      have b41 : ((-1) : Int) ≤ iI s32 88 ∧ iI s32 88 ≤ 200 := Is32.1 88
      refine z_aload_n X (x := A 179) (show cdA 214 90 = some (.aload_n 0, 1, 0, 0, 0) from rfl) (List.Mem.head _) ?_
      refine z_aload_n X (x := A 179) (show cdA 214 91 = some (.aload_n 0, 1, 0, 0, 0) from rfl) (List.Mem.head _) ?_
      refine z_getI X 179 (show cdA 214 92 = some (.getfield 194, 3, 12, 7, 0) from rfl) (by decide) rfl rfl ?_
      have b42 : ((-1) : Int) ≤ iI s32 80 ∧ iI s32 80 ≤ 400 := Is32.1 80
      refine s_putI X 179 (show cdA 214 95 = some (.putfield 9, 3, 12, 3, 0) from rfl) (by decide) rfl rfl (by decide) rfl rfl rfl ?_
      obtain ⟨s43, hs43⟩ : ∃ x0, x0 = uI s32 76 (Int32.ofInt (iI s32 80)) := ⟨_, rfl⟩
      rw [← hs43]
      have Is43 : Bd s43 := by rw [hs43]; exact bd_I Is32 (show ((-1) : Int) ≤ (iI s32 80) ∧ (iI s32 80) ≤ 400 by omega) ⟨by omega, by omega⟩
      have Fs43 := fm_I (x := Int32.ofInt (iI s32 80)) Fs32 (show 76 ∈ _ by decide)
      rw [← hs43] at Fs43
      have vs43 : iI s43 76 = (iI s32 80) := by rw [hs43]; exact iI_u ⟨by omega, by omega⟩
      have ws43_73 : iI s43 73 = iI s32 73 := by rw [hs43]; rfl
      have ws43_74 : iI s43 74 = iI s32 74 := by rw [hs43]; rfl
      have ws43_77 : iI s43 77 = iI s32 77 := by rw [hs43]; rfl
      have ws43_75 : iI s43 75 = iI s32 75 := by rw [hs43]; rfl
      have ws43_79 : iI s43 79 = iI s32 79 := by rw [hs43]; rfl
      have ws43_78 : iI s43 78 = iI s32 78 := by rw [hs43]; rfl
      have ws43_86 : iI s43 86 = iI s32 86 := by rw [hs43]; rfl
      have ws43_87 : iI s43 87 = iI s32 87 := by rw [hs43]; rfl
      have ws43_88 : iI s43 88 = iI s32 88 := by rw [hs43]; rfl
      refine z_aload_n X (x := A 179) (show cdA 214 98 = some (.aload_n 0, 1, 0, 0, 0) from rfl) (List.Mem.head _) ?_
      refine z_getI X 179 (show cdA 214 99 = some (.getfield 191, 3, 12, 6, 0) from rfl) (by decide) rfl rfl ?_
      have b44 : (0 : Int) ≤ iI s43 79 ∧ iI s43 79 ≤ 9 := Is43.1 79
      refine z_if_eq X (t := 113) (show cdA 214 102 = some (.ifCond .eq 11, 3, 0, 0, 0) from rfl) (by decide) ⟨by omega, by omega⟩ (fun g45 => ?_) (fun g45 => ?_)
      ·
        refine z_const X (show cdA 214 113 = some (.iconst 0, 1, 0, 0, 0) from rfl) ?_
        refine z_store_n X (lv' := [(2, .int (Int32.ofInt 0)), (0, .ref (A 179)), (1, .int (Int32.ofInt x))]) (show cdA 214 114 = some (.istore_n 2, 1, 0, 0, 0) from rfl) (by decide) (fun _ h => h) ?_
        refine WS_lv (lv := [(0, .ref (A 179)), (1, .int (Int32.ofInt x)), (2, .int (Int32.ofInt 0))]) (List.forall_mem_cons.mpr ⟨(List.Mem.tail _ (List.Mem.head _)), (List.forall_mem_cons.mpr ⟨(List.Mem.tail _ (List.Mem.tail _ (List.Mem.head _))), (List.forall_mem_cons.mpr ⟨(List.Mem.head _), (fun q h => absurd h List.not_mem_nil)⟩)⟩)⟩) ?_
        refine L115 ((200 - 0 : Int)).toNat s43 x 0 Is43 Fs43 (by omega) (by omega) ?_
        intro s46 x47 Is46 Fs46 hs46
        have b48 : (0 : Int) ≤ iI s46 73 ∧ iI s46 73 ≤ 3 := Is46.1 73
        have b49 : (0 : Int) ≤ iI s46 74 ∧ iI s46 74 ≤ 200 := Is46.1 74
        have b50 : (0 : Int) ≤ iI s46 77 ∧ iI s46 77 ≤ 400 := Is46.1 77
        have b51 : (0 : Int) ≤ iI s46 75 ∧ iI s46 75 ≤ 200 := Is46.1 75
        have b52 : (0 : Int) ≤ iI s46 79 ∧ iI s46 79 ≤ 9 := Is46.1 79
        have b53 : (0 : Int) ≤ iI s46 78 ∧ iI s46 78 ≤ 8 := Is46.1 78
        have b54 : (0 : Int) ≤ iI s46 86 ∧ iI s46 86 ≤ 8 := Is46.1 86
        have b55 : (0 : Int) ≤ iI s46 87 ∧ iI s46 87 ≤ 8 := Is46.1 87
        have b56 : ((-1) : Int) ≤ iI s46 88 ∧ iI s46 88 ≤ 200 := Is46.1 88
        refine z_aload_n X (x := A 179) (show cdA 214 138 = some (.aload_n 0, 1, 0, 0, 0) from rfl) (List.Mem.head _) ?_
        refine z_load_n X (x := x) (show cdA 214 139 = some (.iload_n 1, 1, 0, 0, 0) from rfl) (List.Mem.tail _ (List.Mem.head _)) ?_
        refine s_putI X 179 (show cdA 214 140 = some (.putfield 294, 3, 12, 11, 0) from rfl) (by decide) rfl rfl (by decide) rfl rfl rfl ?_
        obtain ⟨s57, hs57⟩ : ∃ x0, x0 = uI s46 82 (Int32.ofInt x) := ⟨_, rfl⟩
        rw [← hs57]
        have Is57 : Bd s57 := by rw [hs57]; exact bd_I Is46 (show (0 : Int) ≤ x ∧ x ≤ 200 by omega) ⟨by omega, by omega⟩
        have Fs57 := fm_I (x := Int32.ofInt x) Fs46 (show 82 ∈ _ by decide)
        rw [← hs57] at Fs57
        have vs57 : iI s57 82 = x := by rw [hs57]; exact iI_u ⟨by omega, by omega⟩
        have ws57_73 : iI s57 73 = iI s46 73 := by rw [hs57]; rfl
        have ws57_74 : iI s57 74 = iI s46 74 := by rw [hs57]; rfl
        have ws57_77 : iI s57 77 = iI s46 77 := by rw [hs57]; rfl
        have ws57_75 : iI s57 75 = iI s46 75 := by rw [hs57]; rfl
        have ws57_79 : iI s57 79 = iI s46 79 := by rw [hs57]; rfl
        have ws57_78 : iI s57 78 = iI s46 78 := by rw [hs57]; rfl
        have ws57_86 : iI s57 86 = iI s46 86 := by rw [hs57]; rfl
        have ws57_87 : iI s57 87 = iI s46 87 := by rw [hs57]; rfl
        have ws57_88 : iI s57 88 = iI s46 88 := by rw [hs57]; rfl
        refine z_aload_n X (x := A 179) (show cdA 214 143 = some (.aload_n 0, 1, 0, 0, 0) from rfl) (List.Mem.head _) ?_
        refine z_aload_n X (x := A 179) (show cdA 214 144 = some (.aload_n 0, 1, 0, 0, 0) from rfl) (List.Mem.head _) ?_
        refine z_getI X 179 (show cdA 214 145 = some (.getfield 282, 3, 12, 16, 0) from rfl) (by decide) rfl rfl ?_
        have b58 : (0 : Int) ≤ iI s57 86 ∧ iI s57 86 ≤ 8 := Is57.1 86
        refine s_putI X 179 (show cdA 214 148 = some (.putfield 297, 3, 12, 12, 0) from rfl) (by decide) rfl rfl (by decide) rfl rfl rfl ?_
        obtain ⟨s59, hs59⟩ : ∃ x0, x0 = uI s57 83 (Int32.ofInt (iI s57 86)) := ⟨_, rfl⟩
        rw [← hs59]
        have Is59 : Bd s59 := by rw [hs59]; exact bd_I Is57 (show (0 : Int) ≤ (iI s57 86) ∧ (iI s57 86) ≤ 8 by omega) ⟨by omega, by omega⟩
        have Fs59 := fm_I (x := Int32.ofInt (iI s57 86)) Fs57 (show 83 ∈ _ by decide)
        rw [← hs59] at Fs59
        have vs59 : iI s59 83 = (iI s57 86) := by rw [hs59]; exact iI_u ⟨by omega, by omega⟩
        have ws59_73 : iI s59 73 = iI s57 73 := by rw [hs59]; rfl
        have ws59_74 : iI s59 74 = iI s57 74 := by rw [hs59]; rfl
        have ws59_77 : iI s59 77 = iI s57 77 := by rw [hs59]; rfl
        have ws59_75 : iI s59 75 = iI s57 75 := by rw [hs59]; rfl
        have ws59_79 : iI s59 79 = iI s57 79 := by rw [hs59]; rfl
        have ws59_78 : iI s59 78 = iI s57 78 := by rw [hs59]; rfl
        have ws59_86 : iI s59 86 = iI s57 86 := by rw [hs59]; rfl
        have ws59_87 : iI s59 87 = iI s57 87 := by rw [hs59]; rfl
        have ws59_88 : iI s59 88 = iI s57 88 := by rw [hs59]; rfl
        refine z_aload_n X (x := A 179) (show cdA 214 151 = some (.aload_n 0, 1, 0, 0, 0) from rfl) (List.Mem.head _) ?_
        refine z_aload_n X (x := A 179) (show cdA 214 152 = some (.aload_n 0, 1, 0, 0, 0) from rfl) (List.Mem.head _) ?_
        refine z_getI X 179 (show cdA 214 153 = some (.getfield 288, 3, 12, 17, 0) from rfl) (by decide) rfl rfl ?_
        have b60 : (0 : Int) ≤ iI s59 87 ∧ iI s59 87 ≤ 8 := Is59.1 87
        refine s_putI X 179 (show cdA 214 156 = some (.putfield 300, 3, 12, 13, 0) from rfl) (by decide) rfl rfl (by decide) rfl rfl rfl ?_
        obtain ⟨s61, hs61⟩ : ∃ x0, x0 = uI s59 84 (Int32.ofInt (iI s59 87)) := ⟨_, rfl⟩
        rw [← hs61]
        have Is61 : Bd s61 := by rw [hs61]; exact bd_I Is59 (show (0 : Int) ≤ (iI s59 87) ∧ (iI s59 87) ≤ 8 by omega) ⟨by omega, by omega⟩
        have Fs61 := fm_I (x := Int32.ofInt (iI s59 87)) Fs59 (show 84 ∈ _ by decide)
        rw [← hs61] at Fs61
        have vs61 : iI s61 84 = (iI s59 87) := by rw [hs61]; exact iI_u ⟨by omega, by omega⟩
        have ws61_73 : iI s61 73 = iI s59 73 := by rw [hs61]; rfl
        have ws61_74 : iI s61 74 = iI s59 74 := by rw [hs61]; rfl
        have ws61_77 : iI s61 77 = iI s59 77 := by rw [hs61]; rfl
        have ws61_75 : iI s61 75 = iI s59 75 := by rw [hs61]; rfl
        have ws61_79 : iI s61 79 = iI s59 79 := by rw [hs61]; rfl
        have ws61_78 : iI s61 78 = iI s59 78 := by rw [hs61]; rfl
        have ws61_86 : iI s61 86 = iI s59 86 := by rw [hs61]; rfl
        have ws61_87 : iI s61 87 = iI s59 87 := by rw [hs61]; rfl
        have ws61_88 : iI s61 88 = iI s59 88 := by rw [hs61]; rfl
        refine z_aload_n X (x := A 179) (show cdA 214 159 = some (.aload_n 0, 1, 0, 0, 0) from rfl) (List.Mem.head _) ?_
        refine z_aload_n X (x := A 179) (show cdA 214 160 = some (.aload_n 0, 1, 0, 0, 0) from rfl) (List.Mem.head _) ?_
        refine z_getI X 179 (show cdA 214 161 = some (.getfield 285, 3, 12, 18, 0) from rfl) (by decide) rfl rfl ?_
        have b62 : ((-1) : Int) ≤ iI s61 88 ∧ iI s61 88 ≤ 200 := Is61.1 88
        refine s_putI X 179 (show cdA 214 164 = some (.putfield 20, 3, 12, 14, 0) from rfl) (by decide) rfl rfl (by decide) rfl rfl rfl ?_
        obtain ⟨s63, hs63⟩ : ∃ x0, x0 = uI s61 85 (Int32.ofInt (iI s61 88)) := ⟨_, rfl⟩
        rw [← hs63]
        have Is63 : Bd s63 := by rw [hs63]; exact bd_I Is61 (show ((-1) : Int) ≤ (iI s61 88) ∧ (iI s61 88) ≤ 200 by omega) ⟨by omega, by omega⟩
        have Fs63 := fm_I (x := Int32.ofInt (iI s61 88)) Fs61 (show 85 ∈ _ by decide)
        rw [← hs63] at Fs63
        have vs63 : iI s63 85 = (iI s61 88) := by rw [hs63]; exact iI_u ⟨by omega, by omega⟩
        have ws63_73 : iI s63 73 = iI s61 73 := by rw [hs63]; rfl
        have ws63_74 : iI s63 74 = iI s61 74 := by rw [hs63]; rfl
        have ws63_77 : iI s63 77 = iI s61 77 := by rw [hs63]; rfl
        have ws63_75 : iI s63 75 = iI s61 75 := by rw [hs63]; rfl
        have ws63_79 : iI s63 79 = iI s61 79 := by rw [hs63]; rfl
        have ws63_78 : iI s63 78 = iI s61 78 := by rw [hs63]; rfl
        have ws63_86 : iI s63 86 = iI s61 86 := by rw [hs63]; rfl
        have ws63_87 : iI s63 87 = iI s61 87 := by rw [hs63]; rfl
        have ws63_88 : iI s63 88 = iI s61 88 := by rw [hs63]; rfl
        refine z_const X (show cdA 214 167 = some (.iconst 0, 1, 0, 0, 0) from rfl) ?_
        refine z_store_n X (lv' := [(2, .int (Int32.ofInt 0)), (0, .ref (A 179)), (1, .int (Int32.ofInt x))]) (show cdA 214 168 = some (.istore_n 2, 1, 0, 0, 0) from rfl) (by decide) (fun _ h => h) ?_
        refine WS_lv (lv := [(0, .ref (A 179)), (1, .int (Int32.ofInt x)), (2, .int (Int32.ofInt 0))]) (List.forall_mem_cons.mpr ⟨(List.Mem.tail _ (List.Mem.head _)), (List.forall_mem_cons.mpr ⟨(List.Mem.tail _ (List.Mem.tail _ (List.Mem.head _))), (List.forall_mem_cons.mpr ⟨(List.Mem.head _), (fun q h => absurd h List.not_mem_nil)⟩)⟩)⟩) ?_
        refine L169 ((8 - 0 : Int)).toNat s63 x 0 Is63 Fs63 (by omega) (by omega) ?_
        intro s64 x65 Is64 Fs64 hs64
        have b66 : (0 : Int) ≤ iI s64 73 ∧ iI s64 73 ≤ 3 := Is64.1 73
        have b67 : (0 : Int) ≤ iI s64 74 ∧ iI s64 74 ≤ 200 := Is64.1 74
        have b68 : (0 : Int) ≤ iI s64 77 ∧ iI s64 77 ≤ 400 := Is64.1 77
        have b69 : (0 : Int) ≤ iI s64 75 ∧ iI s64 75 ≤ 200 := Is64.1 75
        have b70 : (0 : Int) ≤ iI s64 79 ∧ iI s64 79 ≤ 9 := Is64.1 79
        have b71 : (0 : Int) ≤ iI s64 78 ∧ iI s64 78 ≤ 8 := Is64.1 78
        have b72 : (0 : Int) ≤ iI s64 86 ∧ iI s64 86 ≤ 8 := Is64.1 86
        have b73 : (0 : Int) ≤ iI s64 87 ∧ iI s64 87 ≤ 8 := Is64.1 87
        have b74 : ((-1) : Int) ≤ iI s64 88 ∧ iI s64 88 ≤ 200 := Is64.1 88
        refine z_aload_n X (x := A 179) (show cdA 214 195 = some (.aload_n 0, 1, 0, 0, 0) from rfl) (List.Mem.head _) ?_
        refine z_getI X 179 (show cdA 214 196 = some (.getfield 297, 3, 12, 12, 0) from rfl) (by decide) rfl rfl ?_
        have b75 : (0 : Int) ≤ iI s64 83 ∧ iI s64 83 ≤ 8 := Is64.1 83
        exact w_iret X.1 q hRt rfl (ax_d X (show cdA 214 199 = some (.ireturn, 1, 0, 0, 0) from rfl)) (Nat.zero_le _) (Nat.zero_le _) ⟨_, rfl, Is64, Fs64, (iI s64 83), rfl, ⟨by omega, by omega⟩, by omega⟩
      ·
        refine z_aload_n X (x := A 179) (show cdA 214 105 = some (.aload_n 0, 1, 0, 0, 0) from rfl) (List.Mem.head _) ?_
        refine z_getI X 179 (show cdA 214 106 = some (.getfield 191, 3, 12, 6, 0) from rfl) (by decide) rfl rfl ?_
        have b76 : (0 : Int) ≤ iI s43 79 ∧ iI s43 79 ≤ 9 := Is43.1 79
        refine z_bipush X (show cdA 214 109 = some (.bipush 10, 2, 0, 0, 10) from rfl) ?_
        refine z_sub X (show cdA 214 111 = some (.isub, 1, 0, 0, 0) from rfl) ?_
        exact w_iret X.1 q hRt rfl (ax_d X (show cdA 214 112 = some (.ireturn, 1, 0, 0, 0) from rfl)) (Nat.zero_le _) (Nat.zero_le _) ⟨_, rfl, Is43, Fs43, ((iI s43 79) - 10), rfl, ⟨by omega, by omega⟩, by omega⟩
    ·
      refine z_const X (show cdA 214 30 = some (.iconst 0, 1, 0, 0, 0) from rfl) ?_
      exact w_iret X.1 q hRt rfl (ax_d X (show cdA 214 31 = some (.ireturn, 1, 0, 0, 0) from rfl)) (Nat.zero_le _) (Nat.zero_le _) ⟨_, rfl, Is15, Gs15, 0, rfl, ⟨by omega, by omega⟩, by omega⟩
  ·
    refine z_const X (show cdA 214 18 = some (.iconst 1, 1, 0, 0, 0) from rfl) ?_
    refine z_goto X (t := 23) (show cdA 214 19 = some (.goto 4, 3, 0, 0, 0) from rfl) (by decide) ?_
    refine z_const X (show cdA 214 23 = some (.iconst 1, 1, 0, 0, 0) from rfl) ?_
    refine z_callV X 179 (rm := rmN 187) (As := [.int (Int32.ofInt 1), .int (Int32.ofInt 1)]) (st := []) (show cdA 214 24 = some (.invokevirtual 229, 3, 187, 0, 0) from rfl) rfl (by decide) rfl (by rw [E.1, E.2.1, E.2.2.1]; exact k_bad G Is12 (by omega) (by omega)) ⟨by rw [E.2.2.2]; exact (show (rmN 187).frames + 1 ≤ (rmN 214).frames by decide), by rw [E.2.2.2]; exact (show 8 + (mNL (miB 187) + 11) + (rmN 187).locals ≤ (rmN 214).locals by decide), by rw [E.2.2.2]; exact (show 0 + (rmN 187).cells ≤ (rmN 214).cells by decide), by rw [E.2.2.2]; exact (show 0 + (rmN 187).slots ≤ (rmN 214).slots by decide)⟩ (Nat.le_of_ble_eq_true rfl) (fun vv s77 hq => ?_) (fun ee s77 hq => ?_)
    rotate_left
    · obtain ⟨Is77, Fs77, e78, hv, hrs77, hps77⟩ := hq; cases hv
    obtain ⟨Is77, Fs77, e78, hv, hrs77, hps77⟩ := hq
    cases hv
    have Gs77 := fm_ts Gs12 Fs77 (by decide) (by decide)
    have b79 : (0 : Int) ≤ iI s77 73 ∧ iI s77 73 ≤ 3 := Is77.1 73
    have ws77_74 : iI s77 74 = iI s12 74 := fm_i Fs77 (by decide)
    have ws77_77 : iI s77 77 = iI s12 77 := fm_i Fs77 (by decide)
    have ws77_75 : iI s77 75 = iI s12 75 := fm_i Fs77 (by decide)
    have ws77_79 : iI s77 79 = iI s12 79 := fm_i Fs77 (by decide)
    have ws77_78 : iI s77 78 = iI s12 78 := fm_i Fs77 (by decide)
    have ws77_86 : iI s77 86 = iI s12 86 := fm_i Fs77 (by decide)
    have ws77_87 : iI s77 87 = iI s12 87 := fm_i Fs77 (by decide)
    have ws77_88 : iI s77 88 = iI s12 88 := fm_i Fs77 (by decide)
    show WS k 27 [(0, .ref (A 179)), (1, .int (Int32.ofInt x))] [.int (Int32.ofInt e78)] (Wd A dT s77) 0 0
    refine z_if_eq X (t := 32) (show cdA 214 27 = some (.ifCond .eq 5, 3, 0, 0, 0) from rfl) (by decide) ⟨by omega, by omega⟩ (fun g80 => ?_) (fun g80 => ?_)
    ·
      refine z_aload_n X (x := A 179) (show cdA 214 32 = some (.aload_n 0, 1, 0, 0, 0) from rfl) (List.Mem.head _) ?_
      refine z_const X (show cdA 214 33 = some (.iconst 0, 1, 0, 0, 0) from rfl) ?_
      refine s_putI X 179 (show cdA 214 34 = some (.putfield 175, 3, 12, 1, 0) from rfl) (by decide) rfl rfl (by decide) rfl rfl rfl ?_
      obtain ⟨s81, hs81⟩ : ∃ x0, x0 = uI s77 74 (Int32.ofInt 0) := ⟨_, rfl⟩
      rw [← hs81]
      have Is81 : Bd s81 := by rw [hs81]; exact bd_I Is77 (show (0 : Int) ≤ 0 ∧ 0 ≤ 200 by omega) ⟨by omega, by omega⟩
      have Fs81 := fm_I (x := Int32.ofInt 0) Gs77 (show 74 ∈ _ by decide)
      rw [← hs81] at Fs81
      have vs81 : iI s81 74 = 0 := by rw [hs81]; exact iI_u ⟨by omega, by omega⟩
      have ws81_73 : iI s81 73 = iI s77 73 := by rw [hs81]; rfl
      have ws81_77 : iI s81 77 = iI s77 77 := by rw [hs81]; rfl
      have ws81_75 : iI s81 75 = iI s77 75 := by rw [hs81]; rfl
      have ws81_79 : iI s81 79 = iI s77 79 := by rw [hs81]; rfl
      have ws81_78 : iI s81 78 = iI s77 78 := by rw [hs81]; rfl
      have ws81_86 : iI s81 86 = iI s77 86 := by rw [hs81]; rfl
      have ws81_87 : iI s81 87 = iI s77 87 := by rw [hs81]; rfl
      have ws81_88 : iI s81 88 = iI s77 88 := by rw [hs81]; rfl
      refine z_aload_n X (x := A 179) (show cdA 214 37 = some (.aload_n 0, 1, 0, 0, 0) from rfl) (List.Mem.head _) ?_
      refine z_load_n X (x := x) (show cdA 214 38 = some (.iload_n 1, 1, 0, 0, 0) from rfl) (List.Mem.tail _ (List.Mem.head _)) ?_
      refine z_callV X 179 (rm := rmN 197) (As := [.int (Int32.ofInt x)]) (st := []) (show cdA 214 39 = some (.invokevirtual 236, 3, 197, 0, 0) from rfl) rfl (by decide) rfl (by rw [E.1, E.2.1, E.2.2.1]; exact k_beginText G Is81 (by omega)) ⟨by rw [E.2.2.2]; exact (show (rmN 197).frames + 1 ≤ (rmN 214).frames by decide), by rw [E.2.2.2]; exact (show 8 + (mNL (miB 197) + 11) + (rmN 197).locals ≤ (rmN 214).locals by decide), by rw [E.2.2.2]; exact (show 0 + (rmN 197).cells ≤ (rmN 214).cells by decide), by rw [E.2.2.2]; exact (show 0 + (rmN 197).slots ≤ (rmN 214).slots by decide)⟩ (Nat.le_of_ble_eq_true rfl) (fun vv s82 hq => ?_) (fun ee s82 hq => ?_)
      rotate_left
      · obtain ⟨Is82, Fs82, hv, hps82⟩ := hq; cases hv
      obtain ⟨Is82, Fs82, hv, hps82⟩ := hq
      cases hv
      have Gs82 := fm_ts Fs81 Fs82 (by decide) (by decide)
      have ws82_73 : iI s82 73 = iI s81 73 := fm_i Fs82 (by decide)
      have ws82_74 : iI s82 74 = iI s81 74 := fm_i Fs82 (by decide)
      have b84 : (0 : Int) ≤ iI s82 77 ∧ iI s82 77 ≤ 400 := Is82.1 77
      have b85 : (0 : Int) ≤ iI s82 75 ∧ iI s82 75 ≤ 200 := Is82.1 75
      have b86 : (0 : Int) ≤ iI s82 79 ∧ iI s82 79 ≤ 9 := Is82.1 79
      have b87 : (0 : Int) ≤ iI s82 78 ∧ iI s82 78 ≤ 8 := Is82.1 78
      have ws82_86 : iI s82 86 = iI s81 86 := fm_i Fs82 (by decide)
      have ws82_87 : iI s82 87 = iI s81 87 := fm_i Fs82 (by decide)
      have ws82_88 : iI s82 88 = iI s81 88 := fm_i Fs82 (by decide)
      show WS k 42 [(0, .ref (A 179)), (1, .int (Int32.ofInt x))] [] (Wd A dT s82) 0 0
      refine z_aload_n X (x := A 179) (show cdA 214 42 = some (.aload_n 0, 1, 0, 0, 0) from rfl) (List.Mem.head _) ?_
      refine z_const X (show cdA 214 43 = some (.iconst 0, 1, 0, 0, 0) from rfl) ?_
      refine s_putI X 179 (show cdA 214 44 = some (.putfield 282, 3, 12, 16, 0) from rfl) (by decide) rfl rfl (by decide) rfl rfl rfl ?_
      obtain ⟨s88, hs88⟩ : ∃ x0, x0 = uI s82 86 (Int32.ofInt 0) := ⟨_, rfl⟩
      rw [← hs88]
      have Is88 : Bd s88 := by rw [hs88]; exact bd_I Is82 (show (0 : Int) ≤ 0 ∧ 0 ≤ 8 by omega) ⟨by omega, by omega⟩
      have Fs88 := fm_I (x := Int32.ofInt 0) Gs82 (show 86 ∈ _ by decide)
      rw [← hs88] at Fs88
      have vs88 : iI s88 86 = 0 := by rw [hs88]; exact iI_u ⟨by omega, by omega⟩
      have ws88_73 : iI s88 73 = iI s82 73 := by rw [hs88]; rfl
      have ws88_74 : iI s88 74 = iI s82 74 := by rw [hs88]; rfl
      have ws88_77 : iI s88 77 = iI s82 77 := by rw [hs88]; rfl
      have ws88_75 : iI s88 75 = iI s82 75 := by rw [hs88]; rfl
      have ws88_79 : iI s88 79 = iI s82 79 := by rw [hs88]; rfl
      have ws88_78 : iI s88 78 = iI s82 78 := by rw [hs88]; rfl
      have ws88_87 : iI s88 87 = iI s82 87 := by rw [hs88]; rfl
      have ws88_88 : iI s88 88 = iI s82 88 := by rw [hs88]; rfl
      refine z_aload_n X (x := A 179) (show cdA 214 47 = some (.aload_n 0, 1, 0, 0, 0) from rfl) (List.Mem.head _) ?_
      refine z_const X (show cdA 214 48 = some (.iconst 0, 1, 0, 0, 0) from rfl) ?_
      refine s_putI X 179 (show cdA 214 49 = some (.putfield 288, 3, 12, 17, 0) from rfl) (by decide) rfl rfl (by decide) rfl rfl rfl ?_
      obtain ⟨s89, hs89⟩ : ∃ x0, x0 = uI s88 87 (Int32.ofInt 0) := ⟨_, rfl⟩
      rw [← hs89]
      have Is89 : Bd s89 := by rw [hs89]; exact bd_I Is88 (show (0 : Int) ≤ 0 ∧ 0 ≤ 8 by omega) ⟨by omega, by omega⟩
      have Fs89 := fm_I (x := Int32.ofInt 0) Fs88 (show 87 ∈ _ by decide)
      rw [← hs89] at Fs89
      have vs89 : iI s89 87 = 0 := by rw [hs89]; exact iI_u ⟨by omega, by omega⟩
      have ws89_73 : iI s89 73 = iI s88 73 := by rw [hs89]; rfl
      have ws89_74 : iI s89 74 = iI s88 74 := by rw [hs89]; rfl
      have ws89_77 : iI s89 77 = iI s88 77 := by rw [hs89]; rfl
      have ws89_75 : iI s89 75 = iI s88 75 := by rw [hs89]; rfl
      have ws89_79 : iI s89 79 = iI s88 79 := by rw [hs89]; rfl
      have ws89_78 : iI s89 78 = iI s88 78 := by rw [hs89]; rfl
      have ws89_86 : iI s89 86 = iI s88 86 := by rw [hs89]; rfl
      have ws89_88 : iI s89 88 = iI s88 88 := by rw [hs89]; rfl
      refine z_aload_n X (x := A 179) (show cdA 214 52 = some (.aload_n 0, 1, 0, 0, 0) from rfl) (List.Mem.head _) ?_
      refine z_const X (show cdA 214 53 = some (.iconst (-1), 1, 0, 0, 0) from rfl) ?_
      refine s_putI X 179 (show cdA 214 54 = some (.putfield 285, 3, 12, 18, 0) from rfl) (by decide) rfl rfl (by decide) rfl rfl rfl ?_
      obtain ⟨s90, hs90⟩ : ∃ x0, x0 = uI s89 88 (Int32.ofInt (-1)) := ⟨_, rfl⟩
      rw [← hs90]
      have Is90 : Bd s90 := by rw [hs90]; exact bd_I Is89 (show ((-1) : Int) ≤ (-1) ∧ (-1) ≤ 200 by omega) ⟨by omega, by omega⟩
      have Fs90 := fm_I (x := Int32.ofInt (-1)) Fs89 (show 88 ∈ _ by decide)
      rw [← hs90] at Fs90
      have vs90 : iI s90 88 = (-1) := by rw [hs90]; exact iI_u ⟨by omega, by omega⟩
      have ws90_73 : iI s90 73 = iI s89 73 := by rw [hs90]; rfl
      have ws90_74 : iI s90 74 = iI s89 74 := by rw [hs90]; rfl
      have ws90_77 : iI s90 77 = iI s89 77 := by rw [hs90]; rfl
      have ws90_75 : iI s90 75 = iI s89 75 := by rw [hs90]; rfl
      have ws90_79 : iI s90 79 = iI s89 79 := by rw [hs90]; rfl
      have ws90_78 : iI s90 78 = iI s89 78 := by rw [hs90]; rfl
      have ws90_86 : iI s90 86 = iI s89 86 := by rw [hs90]; rfl
      have ws90_87 : iI s90 87 = iI s89 87 := by rw [hs90]; rfl
      refine z_aload_n X (x := A 179) (show cdA 214 57 = some (.aload_n 0, 1, 0, 0, 0) from rfl) (List.Mem.head _) ?_
      refine z_callV X 179 (rm := rmN 193) (As := []) (st := []) (show cdA 214 58 = some (.invokevirtual 197, 3, 193, 0, 0) from rfl) rfl (by decide) rfl (by rw [E.1, E.2.1, E.2.2.1]; exact k_blanks G Is90 (by omega)) ⟨by rw [E.2.2.2]; exact (show (rmN 193).frames + 1 ≤ (rmN 214).frames by decide), by rw [E.2.2.2]; exact (show 8 + (mNL (miB 193) + 11) + (rmN 193).locals ≤ (rmN 214).locals by decide), by rw [E.2.2.2]; exact (show 0 + (rmN 193).cells ≤ (rmN 214).cells by decide), by rw [E.2.2.2]; exact (show 0 + (rmN 193).slots ≤ (rmN 214).slots by decide)⟩ (Nat.le_of_ble_eq_true rfl) (fun vv s91 hq => ?_) (fun ee s91 hq => ?_)
      rotate_left
      · obtain ⟨Is91, Fs91, hv, hps91⟩ := hq; cases hv
      obtain ⟨Is91, Fs91, hv, hps91⟩ := hq
      cases hv
      have Gs91 := fm_ts Fs90 Fs91 (by decide) (by decide)
      have ws91_73 : iI s91 73 = iI s90 73 := fm_i Fs91 (by decide)
      have ws91_74 : iI s91 74 = iI s90 74 := fm_i Fs91 (by decide)
      have b93 : (0 : Int) ≤ iI s91 77 ∧ iI s91 77 ≤ 400 := Is91.1 77
      have ws91_75 : iI s91 75 = iI s90 75 := fm_i Fs91 (by decide)
      have ws91_79 : iI s91 79 = iI s90 79 := fm_i Fs91 (by decide)
      have ws91_78 : iI s91 78 = iI s90 78 := fm_i Fs91 (by decide)
      have ws91_86 : iI s91 86 = iI s90 86 := fm_i Fs91 (by decide)
      have ws91_87 : iI s91 87 = iI s90 87 := fm_i Fs91 (by decide)
      have ws91_88 : iI s91 88 = iI s90 88 := fm_i Fs91 (by decide)
      show WS k 61 [(0, .ref (A 179)), (1, .int (Int32.ofInt x))] [] (Wd A dT s91) 0 0
      refine WS_lv (lv := [(0, .ref (A 179)), (1, .int (Int32.ofInt x))]) (List.forall_mem_cons.mpr ⟨(List.Mem.head _), (List.forall_mem_cons.mpr ⟨(List.Mem.tail _ (List.Mem.head _)), (fun q h => absurd h List.not_mem_nil)⟩)⟩) ?_
      refine L61 ((400 - iI s91 77 + (9 - iI s91 79) : Int)).toNat s91 x Is91 Gs91 (by omega) (by omega) ?_
      intro s94  Is94 Fs94 hs94
      have b95 : (0 : Int) ≤ iI s94 73 ∧ iI s94 73 ≤ 3 := Is94.1 73
      have b96 : (0 : Int) ≤ iI s94 74 ∧ iI s94 74 ≤ 200 := Is94.1 74
      have b97 : (0 : Int) ≤ iI s94 77 ∧ iI s94 77 ≤ 400 := Is94.1 77
      have b98 : (0 : Int) ≤ iI s94 75 ∧ iI s94 75 ≤ 200 := Is94.1 75
      have b99 : (0 : Int) ≤ iI s94 79 ∧ iI s94 79 ≤ 9 := Is94.1 79
      have b100 : (0 : Int) ≤ iI s94 78 ∧ iI s94 78 ≤ 8 := Is94.1 78
      have b101 : (0 : Int) ≤ iI s94 86 ∧ iI s94 86 ≤ 8 := Is94.1 86
      have b102 : (0 : Int) ≤ iI s94 87 ∧ iI s94 87 ≤ 8 := Is94.1 87
      have b103 : ((-1) : Int) ≤ iI s94 88 ∧ iI s94 88 ≤ 200 := Is94.1 88
      refine z_aload_n X (x := A 179) (show cdA 214 90 = some (.aload_n 0, 1, 0, 0, 0) from rfl) (List.Mem.head _) ?_
      refine z_aload_n X (x := A 179) (show cdA 214 91 = some (.aload_n 0, 1, 0, 0, 0) from rfl) (List.Mem.head _) ?_
      refine z_getI X 179 (show cdA 214 92 = some (.getfield 194, 3, 12, 7, 0) from rfl) (by decide) rfl rfl ?_
      have b104 : ((-1) : Int) ≤ iI s94 80 ∧ iI s94 80 ≤ 400 := Is94.1 80
      refine s_putI X 179 (show cdA 214 95 = some (.putfield 9, 3, 12, 3, 0) from rfl) (by decide) rfl rfl (by decide) rfl rfl rfl ?_
      obtain ⟨s105, hs105⟩ : ∃ x0, x0 = uI s94 76 (Int32.ofInt (iI s94 80)) := ⟨_, rfl⟩
      rw [← hs105]
      have Is105 : Bd s105 := by rw [hs105]; exact bd_I Is94 (show ((-1) : Int) ≤ (iI s94 80) ∧ (iI s94 80) ≤ 400 by omega) ⟨by omega, by omega⟩
      have Fs105 := fm_I (x := Int32.ofInt (iI s94 80)) Fs94 (show 76 ∈ _ by decide)
      rw [← hs105] at Fs105
      have vs105 : iI s105 76 = (iI s94 80) := by rw [hs105]; exact iI_u ⟨by omega, by omega⟩
      have ws105_73 : iI s105 73 = iI s94 73 := by rw [hs105]; rfl
      have ws105_74 : iI s105 74 = iI s94 74 := by rw [hs105]; rfl
      have ws105_77 : iI s105 77 = iI s94 77 := by rw [hs105]; rfl
      have ws105_75 : iI s105 75 = iI s94 75 := by rw [hs105]; rfl
      have ws105_79 : iI s105 79 = iI s94 79 := by rw [hs105]; rfl
      have ws105_78 : iI s105 78 = iI s94 78 := by rw [hs105]; rfl
      have ws105_86 : iI s105 86 = iI s94 86 := by rw [hs105]; rfl
      have ws105_87 : iI s105 87 = iI s94 87 := by rw [hs105]; rfl
      have ws105_88 : iI s105 88 = iI s94 88 := by rw [hs105]; rfl
      refine z_aload_n X (x := A 179) (show cdA 214 98 = some (.aload_n 0, 1, 0, 0, 0) from rfl) (List.Mem.head _) ?_
      refine z_getI X 179 (show cdA 214 99 = some (.getfield 191, 3, 12, 6, 0) from rfl) (by decide) rfl rfl ?_
      have b106 : (0 : Int) ≤ iI s105 79 ∧ iI s105 79 ≤ 9 := Is105.1 79
      refine z_if_eq X (t := 113) (show cdA 214 102 = some (.ifCond .eq 11, 3, 0, 0, 0) from rfl) (by decide) ⟨by omega, by omega⟩ (fun g107 => ?_) (fun g107 => ?_)
      ·
        refine z_const X (show cdA 214 113 = some (.iconst 0, 1, 0, 0, 0) from rfl) ?_
        refine z_store_n X (lv' := [(2, .int (Int32.ofInt 0)), (0, .ref (A 179)), (1, .int (Int32.ofInt x))]) (show cdA 214 114 = some (.istore_n 2, 1, 0, 0, 0) from rfl) (by decide) (fun _ h => h) ?_
        refine WS_lv (lv := [(0, .ref (A 179)), (1, .int (Int32.ofInt x)), (2, .int (Int32.ofInt 0))]) (List.forall_mem_cons.mpr ⟨(List.Mem.tail _ (List.Mem.head _)), (List.forall_mem_cons.mpr ⟨(List.Mem.tail _ (List.Mem.tail _ (List.Mem.head _))), (List.forall_mem_cons.mpr ⟨(List.Mem.head _), (fun q h => absurd h List.not_mem_nil)⟩)⟩)⟩) ?_
        refine L115 ((200 - 0 : Int)).toNat s105 x 0 Is105 Fs105 (by omega) (by omega) ?_
        intro s108 x109 Is108 Fs108 hs108
        have b110 : (0 : Int) ≤ iI s108 73 ∧ iI s108 73 ≤ 3 := Is108.1 73
        have b111 : (0 : Int) ≤ iI s108 74 ∧ iI s108 74 ≤ 200 := Is108.1 74
        have b112 : (0 : Int) ≤ iI s108 77 ∧ iI s108 77 ≤ 400 := Is108.1 77
        have b113 : (0 : Int) ≤ iI s108 75 ∧ iI s108 75 ≤ 200 := Is108.1 75
        have b114 : (0 : Int) ≤ iI s108 79 ∧ iI s108 79 ≤ 9 := Is108.1 79
        have b115 : (0 : Int) ≤ iI s108 78 ∧ iI s108 78 ≤ 8 := Is108.1 78
        have b116 : (0 : Int) ≤ iI s108 86 ∧ iI s108 86 ≤ 8 := Is108.1 86
        have b117 : (0 : Int) ≤ iI s108 87 ∧ iI s108 87 ≤ 8 := Is108.1 87
        have b118 : ((-1) : Int) ≤ iI s108 88 ∧ iI s108 88 ≤ 200 := Is108.1 88
        refine z_aload_n X (x := A 179) (show cdA 214 138 = some (.aload_n 0, 1, 0, 0, 0) from rfl) (List.Mem.head _) ?_
        refine z_load_n X (x := x) (show cdA 214 139 = some (.iload_n 1, 1, 0, 0, 0) from rfl) (List.Mem.tail _ (List.Mem.head _)) ?_
        refine s_putI X 179 (show cdA 214 140 = some (.putfield 294, 3, 12, 11, 0) from rfl) (by decide) rfl rfl (by decide) rfl rfl rfl ?_
        obtain ⟨s119, hs119⟩ : ∃ x0, x0 = uI s108 82 (Int32.ofInt x) := ⟨_, rfl⟩
        rw [← hs119]
        have Is119 : Bd s119 := by rw [hs119]; exact bd_I Is108 (show (0 : Int) ≤ x ∧ x ≤ 200 by omega) ⟨by omega, by omega⟩
        have Fs119 := fm_I (x := Int32.ofInt x) Fs108 (show 82 ∈ _ by decide)
        rw [← hs119] at Fs119
        have vs119 : iI s119 82 = x := by rw [hs119]; exact iI_u ⟨by omega, by omega⟩
        have ws119_73 : iI s119 73 = iI s108 73 := by rw [hs119]; rfl
        have ws119_74 : iI s119 74 = iI s108 74 := by rw [hs119]; rfl
        have ws119_77 : iI s119 77 = iI s108 77 := by rw [hs119]; rfl
        have ws119_75 : iI s119 75 = iI s108 75 := by rw [hs119]; rfl
        have ws119_79 : iI s119 79 = iI s108 79 := by rw [hs119]; rfl
        have ws119_78 : iI s119 78 = iI s108 78 := by rw [hs119]; rfl
        have ws119_86 : iI s119 86 = iI s108 86 := by rw [hs119]; rfl
        have ws119_87 : iI s119 87 = iI s108 87 := by rw [hs119]; rfl
        have ws119_88 : iI s119 88 = iI s108 88 := by rw [hs119]; rfl
        refine z_aload_n X (x := A 179) (show cdA 214 143 = some (.aload_n 0, 1, 0, 0, 0) from rfl) (List.Mem.head _) ?_
        refine z_aload_n X (x := A 179) (show cdA 214 144 = some (.aload_n 0, 1, 0, 0, 0) from rfl) (List.Mem.head _) ?_
        refine z_getI X 179 (show cdA 214 145 = some (.getfield 282, 3, 12, 16, 0) from rfl) (by decide) rfl rfl ?_
        have b120 : (0 : Int) ≤ iI s119 86 ∧ iI s119 86 ≤ 8 := Is119.1 86
        refine s_putI X 179 (show cdA 214 148 = some (.putfield 297, 3, 12, 12, 0) from rfl) (by decide) rfl rfl (by decide) rfl rfl rfl ?_
        obtain ⟨s121, hs121⟩ : ∃ x0, x0 = uI s119 83 (Int32.ofInt (iI s119 86)) := ⟨_, rfl⟩
        rw [← hs121]
        have Is121 : Bd s121 := by rw [hs121]; exact bd_I Is119 (show (0 : Int) ≤ (iI s119 86) ∧ (iI s119 86) ≤ 8 by omega) ⟨by omega, by omega⟩
        have Fs121 := fm_I (x := Int32.ofInt (iI s119 86)) Fs119 (show 83 ∈ _ by decide)
        rw [← hs121] at Fs121
        have vs121 : iI s121 83 = (iI s119 86) := by rw [hs121]; exact iI_u ⟨by omega, by omega⟩
        have ws121_73 : iI s121 73 = iI s119 73 := by rw [hs121]; rfl
        have ws121_74 : iI s121 74 = iI s119 74 := by rw [hs121]; rfl
        have ws121_77 : iI s121 77 = iI s119 77 := by rw [hs121]; rfl
        have ws121_75 : iI s121 75 = iI s119 75 := by rw [hs121]; rfl
        have ws121_79 : iI s121 79 = iI s119 79 := by rw [hs121]; rfl
        have ws121_78 : iI s121 78 = iI s119 78 := by rw [hs121]; rfl
        have ws121_86 : iI s121 86 = iI s119 86 := by rw [hs121]; rfl
        have ws121_87 : iI s121 87 = iI s119 87 := by rw [hs121]; rfl
        have ws121_88 : iI s121 88 = iI s119 88 := by rw [hs121]; rfl
        refine z_aload_n X (x := A 179) (show cdA 214 151 = some (.aload_n 0, 1, 0, 0, 0) from rfl) (List.Mem.head _) ?_
        refine z_aload_n X (x := A 179) (show cdA 214 152 = some (.aload_n 0, 1, 0, 0, 0) from rfl) (List.Mem.head _) ?_
        refine z_getI X 179 (show cdA 214 153 = some (.getfield 288, 3, 12, 17, 0) from rfl) (by decide) rfl rfl ?_
        have b122 : (0 : Int) ≤ iI s121 87 ∧ iI s121 87 ≤ 8 := Is121.1 87
        refine s_putI X 179 (show cdA 214 156 = some (.putfield 300, 3, 12, 13, 0) from rfl) (by decide) rfl rfl (by decide) rfl rfl rfl ?_
        obtain ⟨s123, hs123⟩ : ∃ x0, x0 = uI s121 84 (Int32.ofInt (iI s121 87)) := ⟨_, rfl⟩
        rw [← hs123]
        have Is123 : Bd s123 := by rw [hs123]; exact bd_I Is121 (show (0 : Int) ≤ (iI s121 87) ∧ (iI s121 87) ≤ 8 by omega) ⟨by omega, by omega⟩
        have Fs123 := fm_I (x := Int32.ofInt (iI s121 87)) Fs121 (show 84 ∈ _ by decide)
        rw [← hs123] at Fs123
        have vs123 : iI s123 84 = (iI s121 87) := by rw [hs123]; exact iI_u ⟨by omega, by omega⟩
        have ws123_73 : iI s123 73 = iI s121 73 := by rw [hs123]; rfl
        have ws123_74 : iI s123 74 = iI s121 74 := by rw [hs123]; rfl
        have ws123_77 : iI s123 77 = iI s121 77 := by rw [hs123]; rfl
        have ws123_75 : iI s123 75 = iI s121 75 := by rw [hs123]; rfl
        have ws123_79 : iI s123 79 = iI s121 79 := by rw [hs123]; rfl
        have ws123_78 : iI s123 78 = iI s121 78 := by rw [hs123]; rfl
        have ws123_86 : iI s123 86 = iI s121 86 := by rw [hs123]; rfl
        have ws123_87 : iI s123 87 = iI s121 87 := by rw [hs123]; rfl
        have ws123_88 : iI s123 88 = iI s121 88 := by rw [hs123]; rfl
        refine z_aload_n X (x := A 179) (show cdA 214 159 = some (.aload_n 0, 1, 0, 0, 0) from rfl) (List.Mem.head _) ?_
        refine z_aload_n X (x := A 179) (show cdA 214 160 = some (.aload_n 0, 1, 0, 0, 0) from rfl) (List.Mem.head _) ?_
        refine z_getI X 179 (show cdA 214 161 = some (.getfield 285, 3, 12, 18, 0) from rfl) (by decide) rfl rfl ?_
        have b124 : ((-1) : Int) ≤ iI s123 88 ∧ iI s123 88 ≤ 200 := Is123.1 88
        refine s_putI X 179 (show cdA 214 164 = some (.putfield 20, 3, 12, 14, 0) from rfl) (by decide) rfl rfl (by decide) rfl rfl rfl ?_
        obtain ⟨s125, hs125⟩ : ∃ x0, x0 = uI s123 85 (Int32.ofInt (iI s123 88)) := ⟨_, rfl⟩
        rw [← hs125]
        have Is125 : Bd s125 := by rw [hs125]; exact bd_I Is123 (show ((-1) : Int) ≤ (iI s123 88) ∧ (iI s123 88) ≤ 200 by omega) ⟨by omega, by omega⟩
        have Fs125 := fm_I (x := Int32.ofInt (iI s123 88)) Fs123 (show 85 ∈ _ by decide)
        rw [← hs125] at Fs125
        have vs125 : iI s125 85 = (iI s123 88) := by rw [hs125]; exact iI_u ⟨by omega, by omega⟩
        have ws125_73 : iI s125 73 = iI s123 73 := by rw [hs125]; rfl
        have ws125_74 : iI s125 74 = iI s123 74 := by rw [hs125]; rfl
        have ws125_77 : iI s125 77 = iI s123 77 := by rw [hs125]; rfl
        have ws125_75 : iI s125 75 = iI s123 75 := by rw [hs125]; rfl
        have ws125_79 : iI s125 79 = iI s123 79 := by rw [hs125]; rfl
        have ws125_78 : iI s125 78 = iI s123 78 := by rw [hs125]; rfl
        have ws125_86 : iI s125 86 = iI s123 86 := by rw [hs125]; rfl
        have ws125_87 : iI s125 87 = iI s123 87 := by rw [hs125]; rfl
        have ws125_88 : iI s125 88 = iI s123 88 := by rw [hs125]; rfl
        refine z_const X (show cdA 214 167 = some (.iconst 0, 1, 0, 0, 0) from rfl) ?_
        refine z_store_n X (lv' := [(2, .int (Int32.ofInt 0)), (0, .ref (A 179)), (1, .int (Int32.ofInt x))]) (show cdA 214 168 = some (.istore_n 2, 1, 0, 0, 0) from rfl) (by decide) (fun _ h => h) ?_
        refine WS_lv (lv := [(0, .ref (A 179)), (1, .int (Int32.ofInt x)), (2, .int (Int32.ofInt 0))]) (List.forall_mem_cons.mpr ⟨(List.Mem.tail _ (List.Mem.head _)), (List.forall_mem_cons.mpr ⟨(List.Mem.tail _ (List.Mem.tail _ (List.Mem.head _))), (List.forall_mem_cons.mpr ⟨(List.Mem.head _), (fun q h => absurd h List.not_mem_nil)⟩)⟩)⟩) ?_
        refine L169 ((8 - 0 : Int)).toNat s125 x 0 Is125 Fs125 (by omega) (by omega) ?_
        intro s126 x127 Is126 Fs126 hs126
        have b128 : (0 : Int) ≤ iI s126 73 ∧ iI s126 73 ≤ 3 := Is126.1 73
        have b129 : (0 : Int) ≤ iI s126 74 ∧ iI s126 74 ≤ 200 := Is126.1 74
        have b130 : (0 : Int) ≤ iI s126 77 ∧ iI s126 77 ≤ 400 := Is126.1 77
        have b131 : (0 : Int) ≤ iI s126 75 ∧ iI s126 75 ≤ 200 := Is126.1 75
        have b132 : (0 : Int) ≤ iI s126 79 ∧ iI s126 79 ≤ 9 := Is126.1 79
        have b133 : (0 : Int) ≤ iI s126 78 ∧ iI s126 78 ≤ 8 := Is126.1 78
        have b134 : (0 : Int) ≤ iI s126 86 ∧ iI s126 86 ≤ 8 := Is126.1 86
        have b135 : (0 : Int) ≤ iI s126 87 ∧ iI s126 87 ≤ 8 := Is126.1 87
        have b136 : ((-1) : Int) ≤ iI s126 88 ∧ iI s126 88 ≤ 200 := Is126.1 88
        refine z_aload_n X (x := A 179) (show cdA 214 195 = some (.aload_n 0, 1, 0, 0, 0) from rfl) (List.Mem.head _) ?_
        refine z_getI X 179 (show cdA 214 196 = some (.getfield 297, 3, 12, 12, 0) from rfl) (by decide) rfl rfl ?_
        have b137 : (0 : Int) ≤ iI s126 83 ∧ iI s126 83 ≤ 8 := Is126.1 83
        exact w_iret X.1 q hRt rfl (ax_d X (show cdA 214 199 = some (.ireturn, 1, 0, 0, 0) from rfl)) (Nat.zero_le _) (Nat.zero_le _) ⟨_, rfl, Is126, Fs126, (iI s126 83), rfl, ⟨by omega, by omega⟩, by omega⟩
      ·
        refine z_aload_n X (x := A 179) (show cdA 214 105 = some (.aload_n 0, 1, 0, 0, 0) from rfl) (List.Mem.head _) ?_
        refine z_getI X 179 (show cdA 214 106 = some (.getfield 191, 3, 12, 6, 0) from rfl) (by decide) rfl rfl ?_
        have b138 : (0 : Int) ≤ iI s105 79 ∧ iI s105 79 ≤ 9 := Is105.1 79
        refine z_bipush X (show cdA 214 109 = some (.bipush 10, 2, 0, 0, 10) from rfl) ?_
        refine z_sub X (show cdA 214 111 = some (.isub, 1, 0, 0, 0) from rfl) ?_
        exact w_iret X.1 q hRt rfl (ax_d X (show cdA 214 112 = some (.ireturn, 1, 0, 0, 0) from rfl)) (Nat.zero_le _) (Nat.zero_le _) ⟨_, rfl, Is105, Fs105, ((iI s105 79) - 10), rfl, ⟨by omega, by omega⟩, by omega⟩
    ·
      refine z_const X (show cdA 214 30 = some (.iconst 0, 1, 0, 0, 0) from rfl) ?_
      exact w_iret X.1 q hRt rfl (ax_d X (show cdA 214 31 = some (.ireturn, 1, 0, 0, 0) from rfl)) (Nat.zero_le _) (Nat.zero_le _) ⟨_, rfl, Is77, Gs77, 0, rfl, ⟨by omega, by omega⟩, by omega⟩
end M54
