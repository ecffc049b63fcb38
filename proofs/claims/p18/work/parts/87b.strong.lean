/-! Contracts that say what is answered -/
/-- the law's long -/
def iO (t : PS) : Int := (gD t 460 0).toInt
theorem iO_u {s : PS} {e : Int} (h : rng e) : iO (uD s 460 (0 : Int).toNat (Int32.ofInt e).toInt64) = e := by
  show ((if 460 = 460 then vp_updL (s.2.2.2.1 460) (0 : Int).toNat (Int32.ofInt e).toInt64 else s.2.2.2.1 460) 0).toInt = e
  rw [if_pos rfl]
  show ((if 0 = (0 : Int).toNat then (Int32.ofInt e).toInt64 else s.2.2.2.1 460 0)).toInt = e
  rw [if_pos (by decide), Int32.toInt_toInt64, zi h]
section M87b
variable {l : Launch} {s0 : State} {D : va_G} {tys : List (ClassId × FieldType)} {a0 : Array Value} {A : Nat → Nat} {dT : Nat → ClassId} {s : PS}
theorem k_in2 (G : GX l s0 D tys a0 dT) (I : Bd s) {x y z : Int} (p0 : rng x) (p1 : rng y) (p2 : rng z) : CT l s0 D A dT 188 (rmN 188) [.int (Int32.ofInt x), .int (Int32.ofInt y), .int (Int32.ofInt z)] s (fun o t => s = t ∧ ∃ e, o = .inl (some (.int (Int32.ofInt e))) ∧ rng e ∧ ((e = 1 ∧ y ≤ x ∧ x ≤ z) ∨ (e = 0 ∧ (x < y ∨ z < x)))) := by
  refine ct_of G (by decide) (Nat.le_of_ble_eq_true rfl) (fun k X E hRt hXt q => ?_)
  show WS k 0 [(0, .int (Int32.ofInt x)), (1, .int (Int32.ofInt y)), (2, .int (Int32.ofInt z))] [] _ 0 0
  have F : Fm [] [] s s := fm_rf _ _ s
  refine z_load_n X (x := x) (show cdA 188 0 = some (.iload_n 0, 1, 0, 0, 0) from rfl) (List.Mem.head _) ?_
  refine z_load_n X (x := y) (show cdA 188 1 = some (.iload_n 1, 1, 0, 0, 0) from rfl) (List.Mem.tail _ (List.Mem.head _)) ?_
  refine z_icmp_lt X (t := 14) (show cdA 188 2 = some (.if_icmp .lt 12, 3, 2, 0, 0) from rfl) (by decide) ⟨by omega, by omega⟩ ⟨by omega, by omega⟩ (fun g1 => ?_) (fun g1 => ?_)
  ·
    refine z_const X (show cdA 188 14 = some (.iconst 0, 1, 0, 0, 0) from rfl) ?_
    exact w_iret X.1 q hRt (nar_ret (by omega)) (ax_d X (show cdA 188 15 = some (.ireturn, 1, 0, 0, 0) from rfl)) (Nat.zero_le _) (Nat.zero_le _) ⟨_, rfl, rfl, 0, rfl, ⟨by omega, by omega⟩, by omega⟩
  ·
    refine z_load_n X (x := x) (show cdA 188 5 = some (.iload_n 0, 1, 0, 0, 0) from rfl) (List.Mem.head _) ?_
    refine z_load_n X (x := z) (show cdA 188 6 = some (.iload_n 2, 1, 0, 0, 0) from rfl) (List.Mem.tail _ (List.Mem.tail _ (List.Mem.head _))) ?_
    refine z_icmp_gt X (t := 14) (show cdA 188 7 = some (.if_icmp .gt 7, 3, 4, 0, 0) from rfl) (by decide) ⟨by omega, by omega⟩ ⟨by omega, by omega⟩ (fun g2 => ?_) (fun g2 => ?_)
    ·
      refine z_const X (show cdA 188 14 = some (.iconst 0, 1, 0, 0, 0) from rfl) ?_
      exact w_iret X.1 q hRt (nar_ret (by omega)) (ax_d X (show cdA 188 15 = some (.ireturn, 1, 0, 0, 0) from rfl)) (Nat.zero_le _) (Nat.zero_le _) ⟨_, rfl, rfl, 0, rfl, ⟨by omega, by omega⟩, by omega⟩
    ·
      refine z_const X (show cdA 188 10 = some (.iconst 1, 1, 0, 0, 0) from rfl) ?_
      refine z_goto X (t := 15) (show cdA 188 11 = some (.goto 4, 3, 0, 0, 0) from rfl) (by decide) ?_
      exact w_iret X.1 q hRt (nar_ret (by omega)) (ax_d X (show cdA 188 15 = some (.ireturn, 1, 0, 0, 0) from rfl)) (Nat.zero_le _) (Nat.zero_le _) ⟨_, rfl, rfl, 1, rfl, ⟨by omega, by omega⟩, by omega⟩
theorem k_bad2 (G : GX l s0 D tys a0 dT) (I : Bd s) {x y : Int} (p0 : x = 0 ∨ x = 1) (p1 : 1 ≤ y ∧ y ≤ 3) : CT l s0 D A dT 187 (rmN 187) [.ref (A 179), .int (Int32.ofInt x), .int (Int32.ofInt y)] s (fun o t => Bd t ∧ Fm [73] [] s t ∧ ∃ e, o = .inl (some (.int (Int32.ofInt e))) ∧ rng e ∧ (((x = 1 ∧ iI s 73 = 0 ∧ iI t 73 = y ∧ e = 1) ∨ ((x = 0 ∨ iI s 73 ≠ 0) ∧ iI t 73 = iI s 73 ∧ ((e = 0 ∧ iI s 73 = 0) ∨ (e = 1 ∧ iI s 73 ≠ 0)))) ∧ iO t = iO s)) := by
  refine ct_of G (by decide) (Nat.le_of_ble_eq_true rfl) (fun k X E hRt hXt q => ?_)
  show WS k 0 [(0, .ref (A 179)), (1, .int (Int32.ofInt x)), (2, .int (Int32.ofInt y))] [] _ 0 0
  have F : Fm [73] [] s s := fm_rf _ _ s
  have b1 : (0 : Int) ≤ iI s 73 ∧ iI s 73 ≤ 3 := I.1 73
  refine z_load_n X (x := x) (show cdA 187 0 = some (.iload_n 1, 1, 0, 0, 0) from rfl) (List.Mem.tail _ (List.Mem.head _)) ?_
  refine z_if_eq X (t := 16) (show cdA 187 1 = some (.ifCond .eq 15, 3, 0, 0, 0) from rfl) (by decide) ⟨by omega, by omega⟩ (fun g2 => ?_) (fun g2 => ?_)
  ·
    refine z_aload_n X (x := A 179) (show cdA 187 16 = some (.aload_n 0, 1, 0, 0, 0) from rfl) (List.Mem.head _) ?_
    refine z_getI X 179 (show cdA 187 17 = some (.getfield 172, 3, 12, 0, 0) from rfl) (by decide) rfl rfl ?_
    have b3 : (0 : Int) ≤ iI s 73 ∧ iI s 73 ≤ 3 := I.1 73
    refine z_if_eq X (t := 27) (show cdA 187 20 = some (.ifCond .eq 7, 3, 0, 0, 0) from rfl) (by decide) ⟨by omega, by omega⟩ (fun g4 => ?_) (fun g4 => ?_)
    ·
      refine z_const X (show cdA 187 27 = some (.iconst 0, 1, 0, 0, 0) from rfl) ?_
      exact w_iret X.1 q hRt (nar_ret (by omega)) (ax_d X (show cdA 187 28 = some (.ireturn, 1, 0, 0, 0) from rfl)) (Nat.zero_le _) (Nat.zero_le _) ⟨_, rfl, I, F, 0, rfl, ⟨by omega, by omega⟩, by omega⟩
    ·
      refine z_const X (show cdA 187 23 = some (.iconst 1, 1, 0, 0, 0) from rfl) ?_
      refine z_goto X (t := 28) (show cdA 187 24 = some (.goto 4, 3, 0, 0, 0) from rfl) (by decide) ?_
      exact w_iret X.1 q hRt (nar_ret (by omega)) (ax_d X (show cdA 187 28 = some (.ireturn, 1, 0, 0, 0) from rfl)) (Nat.zero_le _) (Nat.zero_le _) ⟨_, rfl, I, F, 1, rfl, ⟨by omega, by omega⟩, by omega⟩
  ·
    refine z_aload_n X (x := A 179) (show cdA 187 4 = some (.aload_n 0, 1, 0, 0, 0) from rfl) (List.Mem.head _) ?_
    refine z_getI X 179 (show cdA 187 5 = some (.getfield 172, 3, 12, 0, 0) from rfl) (by decide) rfl rfl ?_
    have b5 : (0 : Int) ≤ iI s 73 ∧ iI s 73 ≤ 3 := I.1 73
    refine z_if_ne X (t := 16) (show cdA 187 8 = some (.ifCond .ne 8, 3, 1, 0, 0) from rfl) (by decide) ⟨by omega, by omega⟩ (fun g6 => ?_) (fun g6 => ?_)
    ·
      refine z_aload_n X (x := A 179) (show cdA 187 16 = some (.aload_n 0, 1, 0, 0, 0) from rfl) (List.Mem.head _) ?_
      refine z_getI X 179 (show cdA 187 17 = some (.getfield 172, 3, 12, 0, 0) from rfl) (by decide) rfl rfl ?_
      have b7 : (0 : Int) ≤ iI s 73 ∧ iI s 73 ≤ 3 := I.1 73
      refine z_if_eq X (t := 27) (show cdA 187 20 = some (.ifCond .eq 7, 3, 0, 0, 0) from rfl) (by decide) ⟨by omega, by omega⟩ (fun g8 => ?_) (fun g8 => ?_)
      ·
        refine z_const X (show cdA 187 27 = some (.iconst 0, 1, 0, 0, 0) from rfl) ?_
        exact w_iret X.1 q hRt (nar_ret (by omega)) (ax_d X (show cdA 187 28 = some (.ireturn, 1, 0, 0, 0) from rfl)) (Nat.zero_le _) (Nat.zero_le _) ⟨_, rfl, I, F, 0, rfl, ⟨by omega, by omega⟩, by omega⟩
      ·
        refine z_const X (show cdA 187 23 = some (.iconst 1, 1, 0, 0, 0) from rfl) ?_
        refine z_goto X (t := 28) (show cdA 187 24 = some (.goto 4, 3, 0, 0, 0) from rfl) (by decide) ?_
        exact w_iret X.1 q hRt (nar_ret (by omega)) (ax_d X (show cdA 187 28 = some (.ireturn, 1, 0, 0, 0) from rfl)) (Nat.zero_le _) (Nat.zero_le _) ⟨_, rfl, I, F, 1, rfl, ⟨by omega, by omega⟩, by omega⟩
    ·
      refine z_aload_n X (x := A 179) (show cdA 187 11 = some (.aload_n 0, 1, 0, 0, 0) from rfl) (List.Mem.head _) ?_
      refine z_load_n X (x := y) (show cdA 187 12 = some (.iload_n 2, 1, 0, 0, 0) from rfl) (List.Mem.tail _ (List.Mem.tail _ (List.Mem.head _))) ?_
      refine s_putI X 179 (show cdA 187 13 = some (.putfield 172, 3, 12, 0, 0) from rfl) (by decide) rfl rfl (by decide) rfl rfl rfl ?_
      obtain ⟨s9, hs9⟩ : ∃ x0, x0 = uI s 73 (Int32.ofInt y) := ⟨_, rfl⟩
      rw [← hs9]
      have Is9 : Bd s9 := by rw [hs9]; exact bd_I I (show (0 : Int) ≤ y ∧ y ≤ 3 by omega) ⟨by omega, by omega⟩
      have Fs9 := fm_I (x := Int32.ofInt y) F (show 73 ∈ _ by decide)
      rw [← hs9] at Fs9
      have vs9 : iI s9 73 = y := by rw [hs9]; exact iI_u ⟨by omega, by omega⟩
      have wos9 : iO s9 = iO s := by rw [hs9]; rfl
      refine z_aload_n X (x := A 179) (show cdA 187 16 = some (.aload_n 0, 1, 0, 0, 0) from rfl) (List.Mem.head _) ?_
      refine z_getI X 179 (show cdA 187 17 = some (.getfield 172, 3, 12, 0, 0) from rfl) (by decide) rfl rfl ?_
      have b10 : (0 : Int) ≤ iI s9 73 ∧ iI s9 73 ≤ 3 := Is9.1 73
      refine z_if_eq X (t := 27) (show cdA 187 20 = some (.ifCond .eq 7, 3, 0, 0, 0) from rfl) (by decide) ⟨by omega, by omega⟩ (fun g11 => ?_) (fun g11 => ?_)
      ·
        refine z_const X (show cdA 187 27 = some (.iconst 0, 1, 0, 0, 0) from rfl) ?_
        exact w_iret X.1 q hRt (nar_ret (by omega)) (ax_d X (show cdA 187 28 = some (.ireturn, 1, 0, 0, 0) from rfl)) (Nat.zero_le _) (Nat.zero_le _) ⟨_, rfl, Is9, Fs9, 0, rfl, ⟨by omega, by omega⟩, by omega⟩
      ·
        refine z_const X (show cdA 187 23 = some (.iconst 1, 1, 0, 0, 0) from rfl) ?_
        refine z_goto X (t := 28) (show cdA 187 24 = some (.goto 4, 3, 0, 0, 0) from rfl) (by decide) ?_
        exact w_iret X.1 q hRt (nar_ret (by omega)) (ax_d X (show cdA 187 28 = some (.ireturn, 1, 0, 0, 0) from rfl)) (Nat.zero_le _) (Nat.zero_le _) ⟨_, rfl, Is9, Fs9, 1, rfl, ⟨by omega, by omega⟩, by omega⟩
theorem k_length2 (G : GX l s0 D tys a0 dT) (I : Bd s) {x : Int} (p0 : rng x) : CT l s0 D A dT 244 (rmN 244) [.ref (A 179), .int (Int32.ofInt x)] s (fun o t => Bd t ∧ Fm [73, 95] [] s t ∧ ∃ e, o = .inl (some (.int (Int32.ofInt e))) ∧ rng e ∧ (((0 ≤ x ∧ x ≤ 9 ∧ iI t 73 = 0 ∧ e = iI s 95 ∧ iI t 95 = x) ∨ ((x < 0 ∨ 9 < x) ∧ iI t 73 = 1 ∧ iI t 95 = iI s 95)) ∧ iO t = iO s)) := by
  refine ct_of G (by decide) (Nat.le_of_ble_eq_true rfl) (fun k X E hRt hXt q => ?_)
  show WS k 0 [(0, .ref (A 179)), (1, .int (Int32.ofInt x))] [] _ 0 0
  have F : Fm [73, 95] [] s s := fm_rf _ _ s
  have b1 : (0 : Int) ≤ iI s 73 ∧ iI s 73 ≤ 3 := I.1 73
  have b2 : (0 : Int) ≤ iI s 95 ∧ iI s 95 ≤ 9 := I.1 95
  refine z_aload_n X (x := A 179) (show cdA 244 0 = some (.aload_n 0, 1, 0, 0, 0) from rfl) (List.Mem.head _) ?_
  refine z_const X (show cdA 244 1 = some (.iconst 0, 1, 0, 0, 0) from rfl) ?_
  refine s_putI X 179 (show cdA 244 2 = some (.putfield 172, 3, 12, 0, 0) from rfl) (by decide) rfl rfl (by decide) rfl rfl rfl ?_
  obtain ⟨s3, hs3⟩ : ∃ x0, x0 = uI s 73 (Int32.ofInt 0) := ⟨_, rfl⟩
  rw [← hs3]
  have Is3 : Bd s3 := by rw [hs3]; exact bd_I I (show (0 : Int) ≤ 0 ∧ 0 ≤ 3 by omega) ⟨by omega, by omega⟩
  have Fs3 := fm_I (x := Int32.ofInt 0) F (show 73 ∈ _ by decide)
  rw [← hs3] at Fs3
  have vs3 : iI s3 73 = 0 := by rw [hs3]; exact iI_u ⟨by omega, by omega⟩
  have ws3_95 : iI s3 95 = iI s 95 := by rw [hs3]; rfl
  have wos3 : iO s3 = iO s := by rw [hs3]; rfl
  refine z_aload_n X (x := A 179) (show cdA 244 5 = some (.aload_n 0, 1, 0, 0, 0) from rfl) (List.Mem.head _) ?_
  refine z_load_n X (x := x) (show cdA 244 6 = some (.iload_n 1, 1, 0, 0, 0) from rfl) (List.Mem.tail _ (List.Mem.head _)) ?_
  refine z_const X (show cdA 244 7 = some (.iconst 0, 1, 0, 0, 0) from rfl) ?_
  refine z_bipush X (show cdA 244 8 = some (.bipush 9, 2, 0, 0, 9) from rfl) ?_
  refine z_callS X (rm := rmN 188) (As := [.int (Int32.ofInt x), .int (Int32.ofInt 0), .int (Int32.ofInt 9)]) (st := [.ref (A 179)]) (show cdA 244 10 = some (.invokestatic 209, 3, 188, 1, 0) from rfl) rfl (by rw [E.1, E.2.1, E.2.2.1]; exact k_in2 G Is3 (by omega) (by omega) (by omega)) ⟨by rw [E.2.2.2]; exact (show (rmN 188).frames + 1 ≤ (rmN 244).frames by decide), by rw [E.2.2.2]; exact (show 8 + (mNL (miB 188) + 11) + (rmN 188).locals ≤ (rmN 244).locals by decide), by rw [E.2.2.2]; exact (show 0 + (rmN 188).cells ≤ (rmN 244).cells by decide), by rw [E.2.2.2]; exact (show 0 + (rmN 188).slots ≤ (rmN 244).slots by decide)⟩ (Nat.le_of_ble_eq_true rfl) (fun vv s4 hq => ?_) (fun ee s4 hq => ?_)
  rotate_left
  · obtain ⟨rfl, e5, hv, hrs4, hps4⟩ := hq; cases hv
  obtain ⟨rfl, e5, hv, hrs4, hps4⟩ := hq
  cases hv
  show WS k 13 [(0, .ref (A 179)), (1, .int (Int32.ofInt x))] [.int (Int32.ofInt e5), .ref (A 179)] (Wd A dT s3) 0 0
  refine z_if_ne X (t := 20) (show cdA 244 13 = some (.ifCond .ne 7, 3, 1, 0, 0) from rfl) (by decide) ⟨by omega, by omega⟩ (fun g6 => ?_) (fun g6 => ?_)
  ·
    refine z_const X (show cdA 244 20 = some (.iconst 0, 1, 0, 0, 0) from rfl) ?_
    refine z_const X (show cdA 244 21 = some (.iconst 1, 1, 0, 0, 0) from rfl) ?_
    refine z_callV X 179 (rm := rmN 187) (As := [.int (Int32.ofInt 0), .int (Int32.ofInt 1)]) (st := []) (show cdA 244 22 = some (.invokevirtual 229, 3, 187, 0, 0) from rfl) rfl (by decide) rfl (by rw [E.1, E.2.1, E.2.2.1]; exact k_bad2 G Is3 (by omega) (by omega)) ⟨by rw [E.2.2.2]; exact (show (rmN 187).frames + 1 ≤ (rmN 244).frames by decide), by rw [E.2.2.2]; exact (show 8 + (mNL (miB 187) + 11) + (rmN 187).locals ≤ (rmN 244).locals by decide), by rw [E.2.2.2]; exact (show 0 + (rmN 187).cells ≤ (rmN 244).cells by decide), by rw [E.2.2.2]; exact (show 0 + (rmN 187).slots ≤ (rmN 244).slots by decide)⟩ (Nat.le_of_ble_eq_true rfl) (fun vv s7 hq => ?_) (fun ee s7 hq => ?_)
    rotate_left
    · obtain ⟨Is7, Fs7, e8, hv, hrs7, hps7⟩ := hq; cases hv
    obtain ⟨Is7, Fs7, e8, hv, hrs7, hps7⟩ := hq
    cases hv
    have Gs7 := fm_ts Fs3 Fs7 (by decide) (by decide)
    have b9 : (0 : Int) ≤ iI s7 73 ∧ iI s7 73 ≤ 3 := Is7.1 73
    have ws7_95 : iI s7 95 = iI s3 95 := fm_i Fs7 (by decide)
    show WS k 25 [(0, .ref (A 179)), (1, .int (Int32.ofInt x))] [.int (Int32.ofInt e8)] (Wd A dT s7) 0 0
    refine z_if_eq X (t := 30) (show cdA 244 25 = some (.ifCond .eq 5, 3, 0, 0, 0) from rfl) (by decide) ⟨by omega, by omega⟩ (fun g10 => ?_) (fun g10 => ?_)
    ·
      refine z_aload_n X (x := A 179) (show cdA 244 30 = some (.aload_n 0, 1, 0, 0, 0) from rfl) (List.Mem.head _) ?_
      refine z_getI X 179 (show cdA 244 31 = some (.getfield 345, 3, 12, 44, 0) from rfl) (by decide) rfl rfl ?_
      have b11 : (0 : Int) ≤ iI s7 95 ∧ iI s7 95 ≤ 9 := Is7.1 95
      refine z_store_n X (lv' := [(2, .int (Int32.ofInt (iI s7 95))), (0, .ref (A 179)), (1, .int (Int32.ofInt x))]) (show cdA 244 34 = some (.istore_n 2, 1, 0, 0, 0) from rfl) (by decide) (fun _ h => h) ?_
      refine z_aload_n X (x := A 179) (show cdA 244 35 = some (.aload_n 0, 1, 0, 0, 0) from rfl) (List.Mem.tail _ (List.Mem.head _)) ?_
      refine z_load_n X (x := x) (show cdA 244 36 = some (.iload_n 1, 1, 0, 0, 0) from rfl) (List.Mem.tail _ (List.Mem.tail _ (List.Mem.head _))) ?_
      refine s_putI X 179 (show cdA 244 37 = some (.putfield 345, 3, 12, 44, 0) from rfl) (by decide) rfl rfl (by decide) rfl rfl rfl ?_
      obtain ⟨s12, hs12⟩ : ∃ x0, x0 = uI s7 95 (Int32.ofInt x) := ⟨_, rfl⟩
      rw [← hs12]
      have Is12 : Bd s12 := by rw [hs12]; exact bd_I Is7 (show (0 : Int) ≤ x ∧ x ≤ 9 by omega) ⟨by omega, by omega⟩
      have Fs12 := fm_I (x := Int32.ofInt x) Gs7 (show 95 ∈ _ by decide)
      rw [← hs12] at Fs12
      have vs12 : iI s12 95 = x := by rw [hs12]; exact iI_u ⟨by omega, by omega⟩
      have ws12_73 : iI s12 73 = iI s7 73 := by rw [hs12]; rfl
      have wos12 : iO s12 = iO s7 := by rw [hs12]; rfl
      refine z_load_n X (x := (iI s7 95)) (show cdA 244 40 = some (.iload_n 2, 1, 0, 0, 0) from rfl) (List.Mem.head _) ?_
      exact w_iret X.1 q hRt rfl (ax_d X (show cdA 244 41 = some (.ireturn, 1, 0, 0, 0) from rfl)) (Nat.zero_le _) (Nat.zero_le _) ⟨_, rfl, Is12, Fs12, (iI s7 95), rfl, ⟨by omega, by omega⟩, by omega⟩
    ·
      refine z_const X (show cdA 244 28 = some (.iconst 0, 1, 0, 0, 0) from rfl) ?_
      exact w_iret X.1 q hRt rfl (ax_d X (show cdA 244 29 = some (.ireturn, 1, 0, 0, 0) from rfl)) (Nat.zero_le _) (Nat.zero_le _) ⟨_, rfl, Is7, Gs7, 0, rfl, ⟨by omega, by omega⟩, by omega⟩
  ·
    refine z_const X (show cdA 244 16 = some (.iconst 1, 1, 0, 0, 0) from rfl) ?_
    refine z_goto X (t := 21) (show cdA 244 17 = some (.goto 4, 3, 0, 0, 0) from rfl) (by decide) ?_
    refine z_const X (show cdA 244 21 = some (.iconst 1, 1, 0, 0, 0) from rfl) ?_
    refine z_callV X 179 (rm := rmN 187) (As := [.int (Int32.ofInt 1), .int (Int32.ofInt 1)]) (st := []) (show cdA 244 22 = some (.invokevirtual 229, 3, 187, 0, 0) from rfl) rfl (by decide) rfl (by rw [E.1, E.2.1, E.2.2.1]; exact k_bad2 G Is3 (by omega) (by omega)) ⟨by rw [E.2.2.2]; exact (show (rmN 187).frames + 1 ≤ (rmN 244).frames by decide), by rw [E.2.2.2]; exact (show 8 + (mNL (miB 187) + 11) + (rmN 187).locals ≤ (rmN 244).locals by decide), by rw [E.2.2.2]; exact (show 0 + (rmN 187).cells ≤ (rmN 244).cells by decide), by rw [E.2.2.2]; exact (show 0 + (rmN 187).slots ≤ (rmN 244).slots by decide)⟩ (Nat.le_of_ble_eq_true rfl) (fun vv s13 hq => ?_) (fun ee s13 hq => ?_)
    rotate_left
    · obtain ⟨Is13, Fs13, e14, hv, hrs13, hps13⟩ := hq; cases hv
    obtain ⟨Is13, Fs13, e14, hv, hrs13, hps13⟩ := hq
    cases hv
    have Gs13 := fm_ts Fs3 Fs13 (by decide) (by decide)
    have b15 : (0 : Int) ≤ iI s13 73 ∧ iI s13 73 ≤ 3 := Is13.1 73
    have ws13_95 : iI s13 95 = iI s3 95 := fm_i Fs13 (by decide)
    show WS k 25 [(0, .ref (A 179)), (1, .int (Int32.ofInt x))] [.int (Int32.ofInt e14)] (Wd A dT s13) 0 0
    refine z_if_eq X (t := 30) (show cdA 244 25 = some (.ifCond .eq 5, 3, 0, 0, 0) from rfl) (by decide) ⟨by omega, by omega⟩ (fun g16 => ?_) (fun g16 => ?_)
    ·
      refine z_aload_n X (x := A 179) (show cdA 244 30 = some (.aload_n 0, 1, 0, 0, 0) from rfl) (List.Mem.head _) ?_
      refine z_getI X 179 (show cdA 244 31 = some (.getfield 345, 3, 12, 44, 0) from rfl) (by decide) rfl rfl ?_
      have b17 : (0 : Int) ≤ iI s13 95 ∧ iI s13 95 ≤ 9 := Is13.1 95
      refine z_store_n X (lv' := [(2, .int (Int32.ofInt (iI s13 95))), (0, .ref (A 179)), (1, .int (Int32.ofInt x))]) (show cdA 244 34 = some (.istore_n 2, 1, 0, 0, 0) from rfl) (by decide) (fun _ h => h) ?_
      refine z_aload_n X (x := A 179) (show cdA 244 35 = some (.aload_n 0, 1, 0, 0, 0) from rfl) (List.Mem.tail _ (List.Mem.head _)) ?_
      refine z_load_n X (x := x) (show cdA 244 36 = some (.iload_n 1, 1, 0, 0, 0) from rfl) (List.Mem.tail _ (List.Mem.tail _ (List.Mem.head _))) ?_
      refine s_putI X 179 (show cdA 244 37 = some (.putfield 345, 3, 12, 44, 0) from rfl) (by decide) rfl rfl (by decide) rfl rfl rfl ?_
      obtain ⟨s18, hs18⟩ : ∃ x0, x0 = uI s13 95 (Int32.ofInt x) := ⟨_, rfl⟩
      rw [← hs18]
      have Is18 : Bd s18 := by rw [hs18]; exact bd_I Is13 (show (0 : Int) ≤ x ∧ x ≤ 9 by omega) ⟨by omega, by omega⟩
      have Fs18 := fm_I (x := Int32.ofInt x) Gs13 (show 95 ∈ _ by decide)
      rw [← hs18] at Fs18
      have vs18 : iI s18 95 = x := by rw [hs18]; exact iI_u ⟨by omega, by omega⟩
      have ws18_73 : iI s18 73 = iI s13 73 := by rw [hs18]; rfl
      have wos18 : iO s18 = iO s13 := by rw [hs18]; rfl
      refine z_load_n X (x := (iI s13 95)) (show cdA 244 40 = some (.iload_n 2, 1, 0, 0, 0) from rfl) (List.Mem.head _) ?_
      exact w_iret X.1 q hRt rfl (ax_d X (show cdA 244 41 = some (.ireturn, 1, 0, 0, 0) from rfl)) (Nat.zero_le _) (Nat.zero_le _) ⟨_, rfl, Is18, Fs18, (iI s13 95), rfl, ⟨by omega, by omega⟩, by omega⟩
    ·
      refine z_const X (show cdA 244 28 = some (.iconst 0, 1, 0, 0, 0) from rfl) ?_
      exact w_iret X.1 q hRt rfl (ax_d X (show cdA 244 29 = some (.ireturn, 1, 0, 0, 0) from rfl)) (Nat.zero_le _) (Nat.zero_le _) ⟨_, rfl, Is13, Gs13, 0, rfl, ⟨by omega, by omega⟩, by omega⟩
theorem cs_needWithin2 (G : GX l s0 D tys a0 dT) (I : Bd s) {v lo hi : Int} (p0 : rng v) (p1 : rng lo) (p2 : rng hi) : CT l s0 D A dT 184 (rmN 184) [.ref (A 0), .int (Int32.ofInt v), .int (Int32.ofInt lo), .int (Int32.ofInt hi)] s (fun o t => Bd t ∧ Fm [] [] s t ∧ ((o = .inl none ∧ (lo ≤ v ∧ v ≤ hi)) ∨ ∃ x : Nat, o = .inr (exN x) ∧ (x = 0 ∧ (v < lo ∨ hi < v)))) := by
  refine ct_ofX G (by decide) (Nat.le_of_ble_eq_true rfl) (fun k X E ET hRt hXt q => ?_)
  show WS k 0 [(0, .ref (A 0)), (1, .int (Int32.ofInt v)), (2, .int (Int32.ofInt lo)), (3, .int (Int32.ofInt hi))] [] _ 0 0
  have F : Fm [] [] s s := fm_rf _ _ s
  refine z_load_n X (x := v) (show cdA 184 0 = some (.iload_n 1, 1, 0, 0, 0) from rfl) (List.Mem.tail _ (List.Mem.head _)) ?_
  refine z_load_n X (x := lo) (show cdA 184 1 = some (.iload_n 2, 1, 0, 0, 0) from rfl) (List.Mem.tail _ (List.Mem.tail _ (List.Mem.head _))) ?_
  refine z_icmp_lt X (t := 10) (show cdA 184 2 = some (.if_icmp .lt 8, 3, 2, 0, 0) from rfl) (by decide) ⟨by omega, by omega⟩ ⟨by omega, by omega⟩ (fun g1 => ?_) (fun g1 => ?_)
  ·
    exact z_throw G X E ET hXt q (st := []) (show cdA 184 10 = some (.new 108, 3, 0, 2, 0) from rfl) (by decide) (by decide) (Nat.le_of_ble_eq_true rfl) (show 0 + 1 ≤ 1 by omega) (show 0 + 6 ≤ 6 by omega) (show 0 + 1 ≤ 1 by omega) (show 0 + 6 ≤ 6 by omega) ⟨_, rfl, I, F, Or.inr ⟨0, rfl, by omega⟩⟩
  ·
    refine z_load_n X (x := v) (show cdA 184 5 = some (.iload_n 1, 1, 0, 0, 0) from rfl) (List.Mem.tail _ (List.Mem.head _)) ?_
    refine z_load_n X (x := hi) (show cdA 184 6 = some (.iload_n 3, 1, 0, 0, 0) from rfl) (List.Mem.tail _ (List.Mem.tail _ (List.Mem.tail _ (List.Mem.head _)))) ?_
    refine z_icmp_le X (t := 21) (show cdA 184 7 = some (.if_icmp .le 14, 3, 5, 0, 0) from rfl) (by decide) ⟨by omega, by omega⟩ ⟨by omega, by omega⟩ (fun g2 => ?_) (fun g2 => ?_)
    ·
      exact w_vret X.1 q hRt (ax_d X (show cdA 184 21 = some (.return_, 1, 0, 0, 0) from rfl)) (Nat.zero_le _) (Nat.zero_le _) ⟨_, rfl, I, F, Or.inl ⟨rfl, by omega⟩⟩
    ·
      exact z_throw G X E ET hXt q (st := []) (show cdA 184 10 = some (.new 108, 3, 0, 2, 0) from rfl) (by decide) (by decide) (Nat.le_of_ble_eq_true rfl) (show 0 + 1 ≤ 1 by omega) (show 0 + 6 ≤ 6 by omega) (show 0 + 1 ≤ 1 by omega) (show 0 + 6 ≤ 6 by omega) ⟨_, rfl, I, F, Or.inr ⟨0, rfl, by omega⟩⟩
theorem cs_length2 (G : GX l s0 D tys a0 dT) (I : Bd s) {v : Int} (p0 : rng v) : CT l s0 D A dT 151 (rmN 151) [.ref (A 0), .int (Int32.ofInt v)] s (fun o t => Bd t ∧ Fm [21] [] s t ∧ ((∃ e, o = .inl (some (.int (Int32.ofInt e))) ∧ rng e ∧ (0 ≤ v ∧ v ≤ 9 ∧ e = iI s 21 ∧ iI t 21 = v)) ∨ ∃ x : Nat, o = .inr (exN x) ∧ (x = 0 ∧ (v < 0 ∨ 9 < v) ∧ iI t 21 = iI s 21))) := by
  refine ct_ofX G (by decide) (Nat.le_of_ble_eq_true rfl) (fun k X E ET hRt hXt q => ?_)
  show WS k 0 [(0, .ref (A 0)), (1, .int (Int32.ofInt v))] [] _ 0 0
  have F : Fm [21] [] s s := fm_rf _ _ s
  have b1 : (0 : Int) ≤ iI s 21 ∧ iI s 21 ≤ 9 := I.1 21
  refine z_aload_n X (x := A 0) (show cdA 151 0 = some (.aload_n 0, 1, 0, 0, 0) from rfl) (List.Mem.head _) ?_
  refine z_load_n X (x := v) (show cdA 151 1 = some (.iload_n 1, 1, 0, 0, 0) from rfl) (List.Mem.tail _ (List.Mem.head _)) ?_
  refine z_const X (show cdA 151 2 = some (.iconst 0, 1, 0, 0, 0) from rfl) ?_
  refine z_bipush X (show cdA 151 3 = some (.bipush 9, 2, 0, 0, 9) from rfl) ?_
  refine z_callV X 0 (rm := rmN 184) (As := [.int (Int32.ofInt v), .int (Int32.ofInt 0), .int (Int32.ofInt 9)]) (st := []) (show cdA 151 5 = some (.invokevirtual 151, 3, 184, 0, 0) from rfl) rfl (by decide) rfl (by rw [E.1, E.2.1, E.2.2.1]; exact cs_needWithin2 G I (by omega) (by omega) (by omega)) ⟨by rw [E.2.2.2]; exact (show (rmN 184).frames + 1 ≤ (rmN 151).frames by decide), by rw [E.2.2.2]; exact (show 8 + (mNL (miB 184) + 11) + (rmN 184).locals ≤ (rmN 151).locals by decide), by rw [E.2.2.2]; exact (show 0 + 1 ≤ 1 by omega), by rw [E.2.2.2]; exact (show 0 + 6 ≤ 6 by omega)⟩ (Nat.le_of_ble_eq_true rfl) (fun vv s2 hq => ?_) (fun ee s2 hq => ?_)
  rotate_left
  · obtain ⟨Is2, Fs2, (⟨hv, hps2⟩ | ⟨xx, hv, hps2⟩)⟩ := hq
    · cases hv
    · cases hv
      have Gs2 := fm_ts F Fs2 (by decide) (by decide)
      have ws2_21 : iI s2 21 = iI s 21 := fm_i Fs2 (by decide)
      exact x_out X.1 q (fun x hx => (hXt x hx).elim) (show 1 ≤ 1 by omega) (show 6 ≤ 6 by omega) ⟨_, rfl, Is2, Gs2, Or.inr ⟨xx, rfl, by omega⟩⟩
  obtain ⟨Is2, Fs2, (⟨hv, hps2⟩ | ⟨xx, hv, hps2⟩)⟩ := hq
  rotate_left
  · cases hv
  cases hv
  have Gs2 := fm_ts F Fs2 (by decide) (by decide)
  have ws2_21 : iI s2 21 = iI s 21 := fm_i Fs2 (by decide)
  show WS k 8 [(0, .ref (A 0)), (1, .int (Int32.ofInt v))] [] (Wd A dT s2) 1 6
  refine z_aload_n X (x := A 0) (show cdA 151 8 = some (.aload_n 0, 1, 0, 0, 0) from rfl) (List.Mem.head _) ?_
  refine s_getR X 0 (show cdA 151 9 = some (.getfield 35, 3, 11, 3, 0) from rfl) (by decide) rfl rfl ?_
  refine z_getI X 25 (show cdA 151 12 = some (.getfield 215, 3, 3, 6, 0) from rfl) (by decide) rfl rfl ?_
  have b4 : (0 : Int) ≤ iI s2 21 ∧ iI s2 21 ≤ 9 := Is2.1 21
  refine z_store_n X (lv' := [(2, .int (Int32.ofInt (iI s2 21))), (0, .ref (A 0)), (1, .int (Int32.ofInt v))]) (show cdA 151 15 = some (.istore_n 2, 1, 0, 0, 0) from rfl) (by decide) (fun _ h => h) ?_
  refine z_aload_n X (x := A 0) (show cdA 151 16 = some (.aload_n 0, 1, 0, 0, 0) from rfl) (List.Mem.tail _ (List.Mem.head _)) ?_
  refine s_getR X 0 (show cdA 151 17 = some (.getfield 35, 3, 11, 3, 0) from rfl) (by decide) rfl rfl ?_
  refine z_load_n X (x := v) (show cdA 151 20 = some (.iload_n 1, 1, 0, 0, 0) from rfl) (List.Mem.tail _ (List.Mem.tail _ (List.Mem.head _))) ?_
  refine s_putI X 25 (show cdA 151 21 = some (.putfield 215, 3, 3, 6, 0) from rfl) (by decide) rfl rfl (by decide) rfl rfl rfl ?_
  obtain ⟨s5, hs5⟩ : ∃ x0, x0 = uI s2 21 (Int32.ofInt v) := ⟨_, rfl⟩
  rw [← hs5]
  have Is5 : Bd s5 := by rw [hs5]; exact bd_I Is2 (show (0 : Int) ≤ v ∧ v ≤ 9 by omega) ⟨by omega, by omega⟩
  have Fs5 := fm_I (x := Int32.ofInt v) Gs2 (show 21 ∈ _ by decide)
  rw [← hs5] at Fs5
  have vs5 : iI s5 21 = v := by rw [hs5]; exact iI_u ⟨by omega, by omega⟩
  refine z_load_n X (x := (iI s2 21)) (show cdA 151 24 = some (.iload_n 2, 1, 0, 0, 0) from rfl) (List.Mem.head _) ?_
  exact w_iret X.1 q hRt rfl (ax_d X (show cdA 151 25 = some (.ireturn, 1, 0, 0, 0) from rfl)) (show 1 ≤ 1 by omega) (show 6 ≤ 6 by omega) ⟨_, rfl, Is5, Fs5, Or.inl ⟨(iI s2 21), rfl, ⟨by omega, by omega⟩, by omega⟩⟩
theorem lw_length2 (G : GX l s0 D tys a0 dT) (I : Bd s) {v : Int} (p0 : rng v) : CTL l s0 D A dT 328 (rmN 328) [.ref (A 0), .int (Int32.ofInt v), .ref (A 517)] s (fun o t => Bd t ∧ Fm [21] [] s t ∧ ∃ e, o = .inl (some (.int (Int32.ofInt e))) ∧ rng e ∧ ((e = 0 ∧ 0 ≤ v ∧ v ≤ 9 ∧ iO t = iI s 21 ∧ iI t 21 = v) ∨ (e = 1 ∧ (v < 0 ∨ 9 < v) ∧ iI t 21 = iI s 21))) := by
  refine ctL_of G (by decide) (Nat.le_of_ble_eq_true rfl) (by decide) (show cdA 328 0 = some (.aload_n 2, 1, 0, 0, 0) from rfl) (fun k X E ET hRt hEx q => ?_)
  show WS k 0 [(0, .ref (A 0)), (1, .int (Int32.ofInt v)), (2, .ref (A 517))] [] _ 0 0
  have F : Fm [21] [] s s := fm_rf _ _ s
  have hA := swA_rf A
  have b1 : (0 : Int) ≤ iI s 21 ∧ iI s 21 ≤ 9 := I.1 21
  refine z_aload_n X (x := A 517) (show cdA 328 0 = some (.aload_n 2, 1, 0, 0, 0) from rfl) (List.Mem.tail _ (List.Mem.tail _ (List.Mem.head _))) ?_
  refine z_const X (show cdA 328 1 = some (.iconst 0, 1, 0, 0, 0) from rfl) ?_
  refine z_aload_n X (x := A 0) (show cdA 328 2 = some (.aload_n 0, 1, 0, 0, 0) from rfl) (List.Mem.head _) ?_
  refine z_load_n X (x := v) (show cdA 328 3 = some (.iload_n 1, 1, 0, 0, 0) from rfl) (List.Mem.tail _ (List.Mem.head _)) ?_
  refine z_callV X 0 (rm := rmN 151) (As := [.int (Int32.ofInt v)]) (st := [.int (Int32.ofInt 0), .ref (A 517)]) (show cdA 328 4 = some (.invokevirtual 63, 3, 151, 0, 0) from rfl) rfl (by decide) rfl (by rw [E.1, E.2.1, E.2.2.1]; exact cs_length2 G I (by omega)) ⟨by rw [E.2.2.2]; exact (show (rmN 151).frames + 1 ≤ (rmN 328).frames by decide), by rw [E.2.2.2]; exact (show 8 + (mNL (miB 151) + 11) + (rmN 151).locals ≤ (rmN 328).locals by decide), by rw [E.2.2.2]; exact (show 0 + (rmN 151).cells ≤ (rmN 328).cells by decide), by rw [E.2.2.2]; exact (show 0 + (rmN 151).slots ≤ (rmN 328).slots by decide)⟩ (Nat.le_of_ble_eq_true rfl) (fun vv s2 hq => ?_) (fun ee s2 hq => ?_)
  rotate_left
  · obtain ⟨Is2, Fs2, (⟨e3, hv, hrs2, hps2⟩ | ⟨xx, hv, hps2⟩)⟩ := hq
    · cases hv
    · cases hv
      rcases (show xx = 0 by omega) with gx
      ·
        subst gx
        have Gs2 := fm_ts F Fs2 (by decide) (by decide)
        have b4 : (0 : Int) ≤ iI s2 21 ∧ iI s2 21 ≤ 9 := Is2.1 21
        refine (hEx 4 0).2 12 rfl _ _ _ _ _ (fun q1 => ?_)
        show WS k 12 [(0, .ref (A 0)), (1, .int (Int32.ofInt v)), (2, .ref (A 517))] [.ref q1] (Wd A dT s2) 1 6
        refine z_astore_n X (lv' := [(3, .ref q1), (0, .ref (A 0)), (1, .int (Int32.ofInt v)), (2, .ref (A 517))]) (show cdA 328 12 = some (.astore_n 3, 1, 0, 0, 0) from rfl) (by decide) (fun _ h => h) ?_
        refine z_const X (show cdA 328 13 = some (.iconst 1, 1, 0, 0, 0) from rfl) ?_
        exact w_iret X.1 q hRt rfl (ax_d X (show cdA 328 14 = some (.ireturn, 1, 0, 0, 0) from rfl)) (show 1 ≤ 1 by omega) (show 6 ≤ 6 by omega) ⟨A, _, hA, rfl, Is2, Gs2, 1, rfl, ⟨by omega, by omega⟩, by omega⟩
  obtain ⟨Is2, Fs2, (⟨e3, hv, hrs2, hps2⟩ | ⟨xx, hv, hps2⟩)⟩ := hq
  rotate_left
  · cases hv
  cases hv
  have Gs2 := fm_ts F Fs2 (by decide) (by decide)
  have b5 : (0 : Int) ≤ iI s2 21 ∧ iI s2 21 ≤ 9 := Is2.1 21
  show WS k 7 [(0, .ref (A 0)), (1, .int (Int32.ofInt v)), (2, .ref (A 517))] [.int (Int32.ofInt e3), .int (Int32.ofInt 0), .ref (A 517)] (Wd A dT s2) 1 6
  refine w_i2l X.1 (ax_d X (show cdA 328 7 = some (.i2l, 1, 0, 0, 0) from rfl)) ?_
  refine z_last X 517 (show cdA 328 8 = some (.lastore, 1, 0, 0, 0) from rfl) (by decide) rfl (by omega) (show 0 < 1 by omega) (by decide) ?_
  obtain ⟨s6, hs6⟩ : ∃ x0, x0 = uD s2 460 (0 : Int).toNat (Int32.ofInt e3).toInt64 := ⟨_, rfl⟩
  rw [← hs6]
  have Is6 : Bd s6 := by rw [hs6]; exact bd_D Is2
  have Fs6 : Fm [21] [] s s6 := by rw [hs6]; exact fm_D Gs2
  have ws6_21 : iI s6 21 = iI s2 21 := by rw [hs6]; rfl
  have oos6 : iO s6 = e3 := by rw [hs6]; exact iO_u (by omega)
  refine z_goto X (t := 15) (show cdA 328 9 = some (.goto 6, 3, 0, 0, 0) from rfl) (by decide) ?_
  refine z_const X (show cdA 328 15 = some (.iconst 0, 1, 0, 0, 0) from rfl) ?_
  exact w_iret X.1 q hRt rfl (ax_d X (show cdA 328 16 = some (.ireturn, 1, 0, 0, 0) from rfl)) (show 1 ≤ 1 by omega) (show 6 ≤ 6 by omega) ⟨A, _, hA, rfl, Is6, Fs6, 0, rfl, ⟨by omega, by omega⟩, by omega⟩
theorem k_thrown2 (G : GX l s0 D tys a0 dT) (I : Bd s)  : CT l s0 D A dT 186 (rmN 186) [.ref (A 179)] s (fun o t => s = t ∧ ∃ e, o = .inl (some (.int (Int32.ofInt e))) ∧ rng e ∧ (e = iI s 73)) := by
  refine ct_of G (by decide) (Nat.le_of_ble_eq_true rfl) (fun k X E hRt hXt q => ?_)
  show WS k 0 [(0, .ref (A 179))] [] _ 0 0
  have F : Fm [] [] s s := fm_rf _ _ s
  refine z_aload_n X (x := A 179) (show cdA 186 0 = some (.aload_n 0, 1, 0, 0, 0) from rfl) (List.Mem.head _) ?_
  refine z_getI X 179 (show cdA 186 1 = some (.getfield 172, 3, 12, 0, 0) from rfl) (by decide) rfl rfl ?_
  have b1 : (0 : Int) ≤ iI s 73 ∧ iI s 73 ≤ 3 := I.1 73
  exact w_iret X.1 q hRt rfl (ax_d X (show cdA 186 4 = some (.ireturn, 1, 0, 0, 0) from rfl)) (Nat.zero_le _) (Nat.zero_le _) ⟨_, rfl, rfl, (iI s 73), rfl, ⟨by omega, by omega⟩, by omega⟩
end M87b
